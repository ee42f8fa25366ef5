def g2 (F : Int → Int) (j : Int) : Int × Int := (F (3 * j), F (3 * j + 1))
def sl (σ : k_St) (od : Int) (x y : Int × Int) : Prop := x.2 < y.2 ∨ (x.2 = y.2 ∧ o_rel σ x.1 y.1 od (-1))
theorem sl_irr {σ : k_St} {od : Int} (x : Int × Int) : ¬ sl σ od x x := by
  rintro (h | h)
  · omega
  · exact o_irr h.2
theorem sl_tr {σ : k_St} {od : Int} (x y z : Int × Int) (h : sl σ od x y) (g : sl σ od y z) : sl σ od x z := by
  rcases h with h | ⟨h1, h2⟩ <;> rcases g with g | ⟨g1, g2⟩
  · exact Or.inl (by omega)
  · exact Or.inl (by omega)
  · exact Or.inl (by omega)
  · exact Or.inr ⟨by omega, o_rel_tr h2 g2⟩
def s_ok (σ : k_St) (x : Int × Int) : Prop := h_is σ x.1 ∧ (x.2 = 0 ∨ x.2 = 1)
/-- the sees of the entry that is made; order and heads are σ's -/
def SSg (σ τ : k_St) (e od : Int) (S : Int × Int → Prop) : Prop := (0 ≤ τ.1 85 e ∧ 0 ≤ τ.1 84 e ∧ τ.1 85 e + τ.1 84 e = τ.2.1 68 34) ∧ (∀ x, S x → s_ok σ x) ∧ so (sl σ od) (fun j => g2 (τ.1 87) (τ.1 85 e + j)) (τ.1 84 e) ∧ ∀ x, im (fun j => g2 (τ.1 87) (τ.1 85 e + j)) (τ.1 84 e) x ↔ S x
def slf (σ τ : k_St) (e : Int) : Prop := (∀ c, c ≠ 84 → c ≠ 87 → τ.1 c = σ.1 c) ∧ (∀ c j, ¬ (c = 68 ∧ (j = 34 ∨ (22 ≤ j ∧ j ≤ 24))) → τ.2.1 c j = σ.2.1 c j) ∧ τ.2.2 = σ.2.2 ∧ (∀ j, j ≠ e → τ.1 84 j = σ.1 84 j) ∧ ∀ j, j < 3 * σ.1 85 e → τ.1 87 j = σ.1 87 j
theorem slf_r {σ : k_St} {e : Int} : slf σ σ e := ⟨fun _ _ _ => rfl, fun _ _ _ => rfl, rfl, fun _ _ => rfl, fun _ _ => rfl⟩
theorem slf_t {σ τ ρ : k_St} {e : Int} (h : slf σ τ e) (g : slf τ ρ e) : slf σ ρ e := ⟨fun c q r => (g.1 c q r).trans (h.1 c q r), fun c j q => (g.2.1 c j q).trans (h.2.1 c j q), g.2.2.1.trans h.2.2.1, fun j q => (g.2.2.2.1 j q).trans (h.2.2.2.1 j q), fun j q => (g.2.2.2.2 j (by rw [h.1 85 (by omega) (by omega)]; exact q)).trans (h.2.2.2.2 j q)⟩
theorem slf_m {σ τ : k_St} {e : Int} (h : slf σ τ e) : mfr σ τ := ⟨fun c q => h.1 c (by omega) (by omega), fun c j q => h.2.1 c j (by omega), h.2.2.1⟩
theorem mfr_o {σ τ : k_St} (h : mfr σ τ) {a b od r : Int} : o_rel τ a b od r ↔ o_rel σ a b od r := o_rel_congr (fun c hc => h.1 c (by omega)) (h.2.1 33 1 (by omega))
/-- while a see is put in -/
def IS (σ τ : k_St) (s m a : Int) : Prop := (∀ c, c ≠ 87 → τ.1 c = σ.1 c) ∧ (∀ c j, ¬ (c = 68 ∧ 22 ≤ j ∧ j ≤ 24) → τ.2.1 c j = σ.2.1 c j) ∧ τ.2.2 = σ.2.2 ∧ (∀ x, x < 3 * (s + a) + 3 → τ.1 87 x = σ.1 87 x) ∧ ∀ j, a < j → j ≤ m → g2 (τ.1 87) (s + j) = g2 (σ.1 87) (s + j - 1)
theorem IS_b {σ τ ρ : k_St} {s m a : Int} (h : IS σ τ s m a) (g : b_fr τ ρ) : IS σ ρ s m a := ⟨fun c hc => by rw [g.1]; exact h.1 c hc, fun c j q => (g.2.1 c j q).trans (h.2.1 c j q), g.2.2.trans h.2.2.1, by rw [g.1]; exact h.2.2.2.1, by rw [g.1]; exact h.2.2.2.2⟩
theorem IS_m {σ τ : k_St} {s m a : Int} (h : IS σ τ s m a) : mfr σ τ := ⟨fun c q => h.1 c (by omega), fun c j q => h.2.1 c j (by omega), h.2.2.1⟩
theorem IS_s {σ τ s1 s2 : k_St} {s m a : Int} (h : IS σ τ s m a) (e1 : s1 = k_sA τ 87 (j_up (τ.1 87) (3 * (s + a) + 0) (τ.1 87 (3 * (s + a - 1) + 0)))) (e2 : s2 = k_sA s1 87 (j_up (s1.1 87) (3 * (s + a) + 1) (s1.1 87 (3 * (s + a - 1) + 1)))) : IS σ s2 s m (a + -1) := by
  obtain ⟨h1, h2, h3, h4, h5⟩ := h
  have f1 : s1.1 87 = j_up (τ.1 87) (3 * (s + a)) (σ.1 87 (3 * (s + a - 1))) := by rw [e1, k_AA, h4 _ (by omega), show 3 * (s + a) + 0 = 3 * (s + a) by omega, show 3 * (s + a - 1) + 0 = 3 * (s + a - 1) by omega]
  have f2 : s2.1 87 = j_up (s1.1 87) (3 * (s + a) + 1) (σ.1 87 (3 * (s + a - 1) + 1)) := by rw [e2, k_AA, show s1.1 87 (3 * (s + a - 1) + 1) = σ.1 87 (3 * (s + a - 1) + 1) by rw [f1, j_upN (by omega), h4 _ (by omega)]]
  refine ⟨fun c hc => by rw [e2, k_AN hc, e1, k_AN hc]; exact h1 c hc, fun c j q => by rw [e2, e1]; exact h2 c j q, by rw [e2, e1]; exact h3, fun x hx => by rw [f2, j_upN (by omega), f1, j_upN (by omega)]; exact h4 x (by omega), fun j j0 j1 => ?_⟩
  unfold g2
  rw [f2, f1]
  by_cases c : j = a
  · rw [c, j_upN (by omega), j_upS, j_upS]
  · rw [j_upN (by omega), j_upN (by omega), j_upN (by omega), j_upN (by omega)]; exact h5 j (by omega) j1
theorem SSg_add {σ0 σ τ s1 s2 s3 s4 : k_St} {e od a h al : Int} {S : Int × Int → Prop} (hG : SSg σ0 σ e od S) (hI : IS σ τ (σ.1 85 e) (σ.1 84 e) a) (a0 : 0 ≤ a) (a1 : a ≤ σ.1 84 e) (hy : s_ok σ0 (h, al)) (h1 : ∀ i, 0 ≤ i → i < a → sl σ0 od (g2 (σ.1 87) (σ.1 85 e + i)) (h, al)) (h2 : ∀ i, a ≤ i → i < σ.1 84 e → sl σ0 od (h, al) (g2 (σ.1 87) (σ.1 85 e + i))) (e1 : s1 = k_sA τ 87 (j_up (τ.1 87) (3 * (σ.1 85 e + a)) h)) (e2 : s2 = k_sA s1 87 (j_up (s1.1 87) (3 * (σ.1 85 e + a) + 1) al)) (e3 : s3 = k_sA s2 84 (j_up (s2.1 84) e (σ.1 84 e + 1))) (e4 : s4 = k_sI s3 68 34 (σ.2.1 68 34 + 1)) : slf σ s4 e ∧ s4.2.1 68 34 = σ.2.1 68 34 + 1 ∧ SSg σ0 s4 e od (fun x => S x ∨ x = (h, al)) := by
  obtain ⟨g1, gk, g3, g4⟩ := hG
  obtain ⟨i1, i2, i3, i4, i5⟩ := hI
  have f87 : s4.1 87 = j_up (j_up (τ.1 87) (3 * (σ.1 85 e + a)) h) (3 * (σ.1 85 e + a) + 1) al := by rw [e4, k_I1, e3, k_AN (by omega), e2, k_AA, e1, k_AA]
  have s84 : s2.1 84 = σ.1 84 := by rw [e2, k_AN (by omega), e1, k_AN (by omega)]; exact i1 84 (by omega)
  have f84 : s4.1 84 = j_up (σ.1 84) e (σ.1 84 e + 1) := by rw [e4, k_I1, e3, k_AA, s84]
  have fo : ∀ c, c ≠ 84 → c ≠ 87 → s4.1 c = σ.1 c := fun c q q' => by rw [e4, k_I1, e3, k_AN q, e2, k_AN q', e1, k_AN q']; exact i1 c q'
  have fn : s4.2.1 68 34 = σ.2.1 68 34 + 1 := by rw [e4, k_II]
  have f85 : s4.1 85 = σ.1 85 := fo 85 (by omega) (by omega)
  have n84 : s4.1 84 e = σ.1 84 e + 1 := by rw [f84, j_upS]
  have fq : ∀ j, 0 ≤ j → j < σ.1 84 e + 1 → g2 (s4.1 87) (σ.1 85 e + j) = pI (fun j => g2 (σ.1 87) (σ.1 85 e + j)) a (h, al) j := fun j j0 j1 => by
    rw [f87]
    rcases Int.lt_trichotomy j a with c | c | c
    · rw [pI_l c]; unfold g2; rw [j_upN (by omega), j_upN (by omega), j_upN (by omega), j_upN (by omega), i4 _ (by omega), i4 _ (by omega)]
    · rw [c, pI_k]; unfold g2; rw [j_upN (by omega), j_upS, j_upS]
    · rw [pI_g c]
      have z := i5 j c (by omega)
      unfold g2 at z ⊢
      rw [j_upN (by omega), j_upN (by omega), j_upN (by omega), j_upN (by omega), show σ.1 85 e + (j - 1) = σ.1 85 e + j - 1 by omega]
      exact z
  refine ⟨⟨fo, fun c j hc => by rw [e4, k_IN (by omega), e3]; show s2.2.1 c j = _; rw [e2, e1]; exact i2 c j (by omega), by rw [e4, e3, e2, e1]; exact i3, fun j hj => by rw [f84, j_upN hj], fun j hj => ?_⟩, fn, ?_⟩
  · rw [f87, j_upN (by omega), j_upN (by omega)]; exact i4 j (by omega)
  · unfold SSg
    rw [f85, n84, fn]
    refine ⟨⟨g1.1, by omega, by omega⟩, fun x w => by rcases w with w | w; exact gk x w; rw [w]; exact hy, so_cg (fun j j0 j1 => fq j j0 j1) (pI_so g3 a0 a1 h1 h2), fun x => ?_⟩
    rw [im_cg (fun j j0 j1 => fq j j0 j1), pI_im a0 a1, g4]
theorem SSg_w {σ τ : k_St} {e od : Int} {S S' : Int × Int → Prop} (h : SSg σ τ e od S) (hs : ∀ x, S x ↔ S' x) : SSg σ τ e od S' := ⟨h.1, fun x w => h.2.1 x ((hs x).mpr w), h.2.2.1, fun x => (h.2.2.2 x).trans (hs x)⟩
set_option maxHeartbeats 4000000 in
theorem l_as49 {G : j_G} {X : k_X} {n : Nat} {σ : k_St} (hn : 101 ≤ n) {pe : Int → Int} (hB : MB σ pe) {e h al od : Int} {S : Int × Int → Prop} (ho : od = 0 ∨ od = 1) (hG : SSg σ σ e od S) (he : 0 ≤ e ∧ e < 150) (hb : σ.2.1 68 34 ≤ 190) (hh : h_is σ h) (hal : al = 0 ∨ al = 1) (hle : ∀ x, S x → x.2 ≤ al) (hnS : ∀ b, ¬ S (h, b))  : ∀ (z : Nat) (a : Int) (τ : k_St), a < (z : Int) → 0 ≤ a → a ≤ σ.1 84 e → IS σ τ (σ.1 85 e) (σ.1 84 e) a → (∀ j, a ≤ j → j < σ.1 84 e → sl σ od (h, al) (g2 (σ.1 87) (σ.1 85 e + j))) → j_at G mX12_addSee 49 [(0, .ref 68), (1, j_i e), (2, j_i h), (3, j_i al), (4, j_i od), (5, j_i a)] [] (k_h X n τ) 0 0 (k_Q X (fun v n' τ => v = none ∧ n' = n ∧ slf σ τ e ∧ σ.2.1 68 34 ≤ τ.2.1 68 34 ∧ τ.2.1 68 34 ≤ σ.2.1 68 34 + 1 ∧ SSg σ τ e od (fun x => S x ∨ (x = (h, al) ∧ ∀ b, ¬ S (h, b))))) := by
  obtain ⟨gA, gK, gC, gD⟩ := id hG
  obtain ⟨hK, hP, hfl, hE, hok⟩ := id hB
  have hE9 : σ.2.1 8 3 = σ.1 69 301 := hK.2.1.2.1.1
  have hg3 := (KR_rg hK.1 hK.2.1).1.2.1
  have hh1 := hh.1
  have hh2 := hh.2.1
  have gS : ∀ j, 0 ≤ j → j < σ.1 84 e → S (g2 (σ.1 87) (σ.1 85 e + j)) := fun j j0 j1 => (gD _).mp ⟨j, j0, j1, rfl⟩
  have gR : ∀ j, 0 ≤ j → j < σ.1 84 e → h_is σ (σ.1 87 (3 * (σ.1 85 e + j))) ∧ (σ.1 87 (3 * (σ.1 85 e + j) + 1) = 0 ∨ σ.1 87 (3 * (σ.1 85 e + j) + 1) = 1) := fun j j0 j1 => gK _ (gS j j0 j1)
  intro z
  induction z with
  | zero => intro a τ h1 h2; exact absurd h1 (by omega)
  | succ z ih =>
    intro a τ hz a0 aN hI hW
    refine a_iload (pc := 49) (i := 5) (by decide +kernel) rfl ?_
    refine a_if_le (pc := 51) (off := 116) (tgt := 167) (by decide +kernel) (by decide) (by omega) (fun c51 => ?_) (fun c51 => ?_)
    · have hlow : ∀ i, 0 ≤ i → i < a → sl σ od (g2 (σ.1 87) (σ.1 85 e + i)) (h, al) := by
        by_cases z0 : a = 0
        · intro i i0 i1; omega
        · have w1 : sl σ od (g2 (σ.1 87) (σ.1 85 e + (a - 1))) (h, al) := by
            rw [show σ.1 85 e + (a - 1) = σ.1 85 e + a - 1 by omega]
            first
              | exact absurd z0 (by omega)
              | exact Or.inl (show σ.1 87 (3 * (σ.1 85 e + a - 1) + 1) < al by omega)
              | exact Or.inr ⟨show σ.1 87 (3 * (σ.1 85 e + a - 1) + 1) = al by omega, by rcases o_tot (od := od) hK hP gq.1 hh gne with w | w; exact w; exact absurd ((o_gt hx).mpr w) (by omega)⟩
          intro i i0 i1
          by_cases q : i = a - 1
          · rw [q]; exact w1
          · exact sl_tr _ _ _ (gC i (a - 1) i0 (by omega) (by omega)) w1
      refine a_aload_n (pc := 167) (i := 0) (by decide +kernel) rfl ?_
      refine b_getR (pc := 168) (b := 87) fl_X12_69 (by decide +kernel) (sh_68 hn) rfl ?_
      refine a_iconst (pc := 171) (n := 3) (by decide +kernel) ?_
      refine a_aload_n (pc := 172) (i := 0) (by decide +kernel) rfl ?_
      refine b_getR (pc := 173) (b := 85) fl_X12_63 (by decide +kernel) (sh_68 hn) rfl ?_
      refine a_iload_n (pc := 176) (i := 1) (by decide +kernel) rfl ?_
      refine b_iaload (pc := 177) (by decide +kernel) (sh_85 hn) (by omega) (by omega) (by omega) ?_
      rw [show τ.1 85 = σ.1 85 from hI.1 85 (by omega)]
      refine a_iload (pc := 178) (i := 5) (by decide +kernel) rfl ?_
      refine a_iadd (pc := 180) (by decide +kernel) ?_
      refine a_imul (pc := 181) (by decide +kernel) ?_
      refine a_iload_n (pc := 182) (i := 2) (by decide +kernel) rfl ?_
      refine b_iastore (pc := 183) (by decide +kernel) (sh_87 hn) (by omega) (by omega) (by omega) ?_
      obtain ⟨σ1, hσ1⟩ : ∃ z, z = k_sA τ 87 (j_up (τ.1 87) (3 * ((σ.1 85 e) + a)) h) := ⟨_, rfl⟩
      rw [← hσ1]
      refine a_aload_n (pc := 184) (i := 0) (by decide +kernel) rfl ?_
      refine b_getR (pc := 185) (b := 87) fl_X12_69 (by decide +kernel) (sh_68 hn) rfl ?_
      refine a_iconst (pc := 188) (n := 3) (by decide +kernel) ?_
      refine a_aload_n (pc := 189) (i := 0) (by decide +kernel) rfl ?_
      refine b_getR (pc := 190) (b := 85) fl_X12_63 (by decide +kernel) (sh_68 hn) rfl ?_
      refine a_iload_n (pc := 193) (i := 1) (by decide +kernel) rfl ?_
      refine b_iaload (pc := 194) (by decide +kernel) (sh_85 hn) (by omega) (by omega) (by omega) ?_
      rw [show σ1.1 85 = τ.1 85 by rw [hσ1]; exact k_AN (by omega)]
      rw [show τ.1 85 = σ.1 85 from hI.1 85 (by omega)]
      refine a_iload (pc := 195) (i := 5) (by decide +kernel) rfl ?_
      refine a_iadd (pc := 197) (by decide +kernel) ?_
      refine a_imul (pc := 198) (by decide +kernel) ?_
      refine a_iconst (pc := 199) (n := 1) (by decide +kernel) ?_
      refine a_iadd (pc := 200) (by decide +kernel) ?_
      refine a_iload_n (pc := 201) (i := 3) (by decide +kernel) rfl ?_
      refine b_iastore (pc := 202) (by decide +kernel) (sh_87 hn) (by omega) (by omega) (by omega) ?_
      obtain ⟨σ2, hσ2⟩ : ∃ z, z = k_sA σ1 87 (j_up (σ1.1 87) ((3 * ((σ.1 85 e) + a)) + 1) al) := ⟨_, rfl⟩
      rw [← hσ2]
      refine a_aload_n (pc := 203) (i := 0) (by decide +kernel) rfl ?_
      refine b_getR (pc := 204) (b := 84) fl_X12_60 (by decide +kernel) (sh_68 hn) rfl ?_
      refine a_iload_n (pc := 207) (i := 1) (by decide +kernel) rfl ?_
      refine a_dup2 (pc := 208) (by decide +kernel) rfl rfl ?_
      refine b_iaload (pc := 209) (by decide +kernel) (sh_84 hn) (by omega) (by omega) (by omega) ?_
      rw [show σ2.1 84 = σ1.1 84 by rw [hσ2]; exact k_AN (by omega)]
      rw [show σ1.1 84 = τ.1 84 by rw [hσ1]; exact k_AN (by omega)]
      rw [show τ.1 84 = σ.1 84 from hI.1 84 (by omega)]
      refine a_iconst (pc := 210) (n := 1) (by decide +kernel) ?_
      refine a_iadd (pc := 211) (by decide +kernel) ?_
      refine b_iastore (pc := 212) (by decide +kernel) (sh_84 hn) (by omega) (by omega) (by omega) ?_
      obtain ⟨σ3, hσ3⟩ : ∃ z, z = k_sA σ2 84 (j_up (σ2.1 84) e ((σ.1 84 e) + 1)) := ⟨_, rfl⟩
      rw [← hσ3]
      refine a_aload_n (pc := 213) (i := 0) (by decide +kernel) rfl ?_
      refine a_dup (pc := 214) (by decide +kernel) rfl ?_
      refine b_getI (pc := 215) fl_X12_343 (by decide +kernel) (sh_68 hn) rfl ?_
      rw [show σ3.2.1 68 34 = σ2.2.1 68 34 by rw [hσ3]; rfl]
      rw [show σ2.2.1 68 34 = σ1.2.1 68 34 by rw [hσ2]; rfl]
      rw [show σ1.2.1 68 34 = τ.2.1 68 34 by rw [hσ1]; rfl]
      rw [show τ.2.1 68 34 = σ.2.1 68 34 from hI.2.1 68 34 (by omega)]
      refine a_iconst (pc := 218) (n := 1) (by decide +kernel) ?_
      refine a_iadd (pc := 219) (by decide +kernel) ?_
      refine b_putI (pc := 220) fl_X12_343 (by decide +kernel) (sh_68 hn) rfl rfl rfl ?_
      obtain ⟨σ4, hσ4⟩ : ∃ z, z = k_sI σ3 68 34 ((σ.2.1 68 34) + 1) := ⟨_, rfl⟩
      rw [← hσ4]
      refine a_return (pc := 223) (by decide +kernel) rfl ?_
      refine k_ret ?_
      have y := SSg_add hG hI (by omega) (by omega) ⟨hh, hal⟩ hlow hW hσ1 hσ2 hσ3 hσ4
      exact ⟨rfl, rfl, y.1, by omega, by omega, SSg_w y.2.2 (fun x => ⟨fun w => by rcases w with w | w; exact Or.inl w; exact Or.inr ⟨w, hnS⟩, fun w => by rcases w with w | w; exact Or.inl w; exact Or.inr w.1⟩)⟩
    · have gq : h_is σ (σ.1 87 (3 * (σ.1 85 e + a - 1))) ∧ (σ.1 87 (3 * (σ.1 85 e + a - 1) + 1) = 0 ∨ σ.1 87 (3 * (σ.1 85 e + a - 1) + 1) = 1) := by have z := gR (a - 1) (by omega) (by omega); rw [show σ.1 85 e + (a - 1) = σ.1 85 e + a - 1 by omega] at z; exact z
      have gs9 : S (σ.1 87 (3 * (σ.1 85 e + a - 1)), σ.1 87 (3 * (σ.1 85 e + a - 1) + 1)) := by have z := gS (a - 1) (by omega) (by omega); rw [show σ.1 85 e + (a - 1) = σ.1 85 e + a - 1 by omega] at z; exact z
      have gne : σ.1 87 (3 * (σ.1 85 e + a - 1)) ≠ h := fun w => hnS (σ.1 87 (3 * (σ.1 85 e + a - 1) + 1)) (by rw [← w]; exact gs9)
      have gle := hle _ gs9
      have gl2 : σ.1 87 (3 * (σ.1 85 e + a - 1) + 1) ≤ al := gle
      refine a_aload_n (pc := 54) (i := 0) (by decide +kernel) rfl ?_
      refine b_getR (pc := 55) (b := 87) fl_X12_69 (by decide +kernel) (sh_68 hn) rfl ?_
      refine a_iconst (pc := 58) (n := 3) (by decide +kernel) ?_
      refine a_aload_n (pc := 59) (i := 0) (by decide +kernel) rfl ?_
      refine b_getR (pc := 60) (b := 85) fl_X12_63 (by decide +kernel) (sh_68 hn) rfl ?_
      refine a_iload_n (pc := 63) (i := 1) (by decide +kernel) rfl ?_
      refine b_iaload (pc := 64) (by decide +kernel) (sh_85 hn) (by omega) (by omega) (by omega) ?_
      rw [show τ.1 85 = σ.1 85 from hI.1 85 (by omega)]
      refine a_iload (pc := 65) (i := 5) (by decide +kernel) rfl ?_
      refine a_iadd (pc := 67) (by decide +kernel) ?_
      refine a_iconst (pc := 68) (n := 1) (by decide +kernel) ?_
      refine a_isub (pc := 69) (by decide +kernel) ?_
      refine a_imul (pc := 70) (by decide +kernel) ?_
      refine a_iconst (pc := 71) (n := 1) (by decide +kernel) ?_
      refine a_iadd (pc := 72) (by decide +kernel) ?_
      refine b_iaload (pc := 73) (by decide +kernel) (sh_87 hn) (by omega) (by omega) (by omega) ?_
      rw [show τ.1 87 ((3 * (((σ.1 85 e) + a) - 1)) + 1) = σ.1 87 (3 * (σ.1 85 e + a - 1) + 1) from hI.2.2.2.1 _ (by omega)]
      refine a_iload_n (pc := 74) (i := 3) (by decide +kernel) rfl ?_
      refine a_icmp_ne (pc := 75) (off := 92) (tgt := 167) (by decide +kernel) (by decide) (by omega) (by omega) (fun c75 => ?_) (fun c75 => ?_)
      · have hlow : ∀ i, 0 ≤ i → i < a → sl σ od (g2 (σ.1 87) (σ.1 85 e + i)) (h, al) := by
          by_cases z0 : a = 0
          · intro i i0 i1; omega
          · have w1 : sl σ od (g2 (σ.1 87) (σ.1 85 e + (a - 1))) (h, al) := by
              rw [show σ.1 85 e + (a - 1) = σ.1 85 e + a - 1 by omega]
              first
                | exact absurd z0 (by omega)
                | exact Or.inl (show σ.1 87 (3 * (σ.1 85 e + a - 1) + 1) < al by omega)
                | exact Or.inr ⟨show σ.1 87 (3 * (σ.1 85 e + a - 1) + 1) = al by omega, by rcases o_tot (od := od) hK hP gq.1 hh gne with w | w; exact w; exact absurd ((o_gt hx).mpr w) (by omega)⟩
            intro i i0 i1
            by_cases q : i = a - 1
            · rw [q]; exact w1
            · exact sl_tr _ _ _ (gC i (a - 1) i0 (by omega) (by omega)) w1
        refine a_aload_n (pc := 167) (i := 0) (by decide +kernel) rfl ?_
        refine b_getR (pc := 168) (b := 87) fl_X12_69 (by decide +kernel) (sh_68 hn) rfl ?_
        refine a_iconst (pc := 171) (n := 3) (by decide +kernel) ?_
        refine a_aload_n (pc := 172) (i := 0) (by decide +kernel) rfl ?_
        refine b_getR (pc := 173) (b := 85) fl_X12_63 (by decide +kernel) (sh_68 hn) rfl ?_
        refine a_iload_n (pc := 176) (i := 1) (by decide +kernel) rfl ?_
        refine b_iaload (pc := 177) (by decide +kernel) (sh_85 hn) (by omega) (by omega) (by omega) ?_
        rw [show τ.1 85 = σ.1 85 from hI.1 85 (by omega)]
        refine a_iload (pc := 178) (i := 5) (by decide +kernel) rfl ?_
        refine a_iadd (pc := 180) (by decide +kernel) ?_
        refine a_imul (pc := 181) (by decide +kernel) ?_
        refine a_iload_n (pc := 182) (i := 2) (by decide +kernel) rfl ?_
        refine b_iastore (pc := 183) (by decide +kernel) (sh_87 hn) (by omega) (by omega) (by omega) ?_
        obtain ⟨σ5, hσ5⟩ : ∃ z, z = k_sA τ 87 (j_up (τ.1 87) (3 * ((σ.1 85 e) + a)) h) := ⟨_, rfl⟩
        rw [← hσ5]
        refine a_aload_n (pc := 184) (i := 0) (by decide +kernel) rfl ?_
        refine b_getR (pc := 185) (b := 87) fl_X12_69 (by decide +kernel) (sh_68 hn) rfl ?_
        refine a_iconst (pc := 188) (n := 3) (by decide +kernel) ?_
        refine a_aload_n (pc := 189) (i := 0) (by decide +kernel) rfl ?_
        refine b_getR (pc := 190) (b := 85) fl_X12_63 (by decide +kernel) (sh_68 hn) rfl ?_
        refine a_iload_n (pc := 193) (i := 1) (by decide +kernel) rfl ?_
        refine b_iaload (pc := 194) (by decide +kernel) (sh_85 hn) (by omega) (by omega) (by omega) ?_
        rw [show σ5.1 85 = τ.1 85 by rw [hσ5]; exact k_AN (by omega)]
        rw [show τ.1 85 = σ.1 85 from hI.1 85 (by omega)]
        refine a_iload (pc := 195) (i := 5) (by decide +kernel) rfl ?_
        refine a_iadd (pc := 197) (by decide +kernel) ?_
        refine a_imul (pc := 198) (by decide +kernel) ?_
        refine a_iconst (pc := 199) (n := 1) (by decide +kernel) ?_
        refine a_iadd (pc := 200) (by decide +kernel) ?_
        refine a_iload_n (pc := 201) (i := 3) (by decide +kernel) rfl ?_
        refine b_iastore (pc := 202) (by decide +kernel) (sh_87 hn) (by omega) (by omega) (by omega) ?_
        obtain ⟨σ6, hσ6⟩ : ∃ z, z = k_sA σ5 87 (j_up (σ5.1 87) ((3 * ((σ.1 85 e) + a)) + 1) al) := ⟨_, rfl⟩
        rw [← hσ6]
        refine a_aload_n (pc := 203) (i := 0) (by decide +kernel) rfl ?_
        refine b_getR (pc := 204) (b := 84) fl_X12_60 (by decide +kernel) (sh_68 hn) rfl ?_
        refine a_iload_n (pc := 207) (i := 1) (by decide +kernel) rfl ?_
        refine a_dup2 (pc := 208) (by decide +kernel) rfl rfl ?_
        refine b_iaload (pc := 209) (by decide +kernel) (sh_84 hn) (by omega) (by omega) (by omega) ?_
        rw [show σ6.1 84 = σ5.1 84 by rw [hσ6]; exact k_AN (by omega)]
        rw [show σ5.1 84 = τ.1 84 by rw [hσ5]; exact k_AN (by omega)]
        rw [show τ.1 84 = σ.1 84 from hI.1 84 (by omega)]
        refine a_iconst (pc := 210) (n := 1) (by decide +kernel) ?_
        refine a_iadd (pc := 211) (by decide +kernel) ?_
        refine b_iastore (pc := 212) (by decide +kernel) (sh_84 hn) (by omega) (by omega) (by omega) ?_
        obtain ⟨σ7, hσ7⟩ : ∃ z, z = k_sA σ6 84 (j_up (σ6.1 84) e ((σ.1 84 e) + 1)) := ⟨_, rfl⟩
        rw [← hσ7]
        refine a_aload_n (pc := 213) (i := 0) (by decide +kernel) rfl ?_
        refine a_dup (pc := 214) (by decide +kernel) rfl ?_
        refine b_getI (pc := 215) fl_X12_343 (by decide +kernel) (sh_68 hn) rfl ?_
        rw [show σ7.2.1 68 34 = σ6.2.1 68 34 by rw [hσ7]; rfl]
        rw [show σ6.2.1 68 34 = σ5.2.1 68 34 by rw [hσ6]; rfl]
        rw [show σ5.2.1 68 34 = τ.2.1 68 34 by rw [hσ5]; rfl]
        rw [show τ.2.1 68 34 = σ.2.1 68 34 from hI.2.1 68 34 (by omega)]
        refine a_iconst (pc := 218) (n := 1) (by decide +kernel) ?_
        refine a_iadd (pc := 219) (by decide +kernel) ?_
        refine b_putI (pc := 220) fl_X12_343 (by decide +kernel) (sh_68 hn) rfl rfl rfl ?_
        obtain ⟨σ8, hσ8⟩ : ∃ z, z = k_sI σ7 68 34 ((σ.2.1 68 34) + 1) := ⟨_, rfl⟩
        rw [← hσ8]
        refine a_return (pc := 223) (by decide +kernel) rfl ?_
        refine k_ret ?_
        have y := SSg_add hG hI (by omega) (by omega) ⟨hh, hal⟩ hlow hW hσ5 hσ6 hσ7 hσ8
        exact ⟨rfl, rfl, y.1, by omega, by omega, SSg_w y.2.2 (fun x => ⟨fun w => by rcases w with w | w; exact Or.inl w; exact Or.inr ⟨w, hnS⟩, fun w => by rcases w with w | w; exact Or.inl w; exact Or.inr w.1⟩)⟩
      · refine a_aload_n (pc := 78) (i := 0) (by decide +kernel) rfl ?_
        refine a_aload_n (pc := 79) (i := 0) (by decide +kernel) rfl ?_
        refine b_getR (pc := 80) (b := 87) fl_X12_69 (by decide +kernel) (sh_68 hn) rfl ?_
        refine a_iconst (pc := 83) (n := 3) (by decide +kernel) ?_
        refine a_aload_n (pc := 84) (i := 0) (by decide +kernel) rfl ?_
        refine b_getR (pc := 85) (b := 85) fl_X12_63 (by decide +kernel) (sh_68 hn) rfl ?_
        refine a_iload_n (pc := 88) (i := 1) (by decide +kernel) rfl ?_
        refine b_iaload (pc := 89) (by decide +kernel) (sh_85 hn) (by omega) (by omega) (by omega) ?_
        rw [show τ.1 85 = σ.1 85 from hI.1 85 (by omega)]
        refine a_iload (pc := 90) (i := 5) (by decide +kernel) rfl ?_
        refine a_iadd (pc := 92) (by decide +kernel) ?_
        refine a_iconst (pc := 93) (n := 1) (by decide +kernel) ?_
        refine a_isub (pc := 94) (by decide +kernel) ?_
        refine a_imul (pc := 95) (by decide +kernel) ?_
        refine b_iaload (pc := 96) (by decide +kernel) (sh_87 hn) (by omega) (by omega) (by omega) ?_
        rw [show τ.1 87 (3 * (((σ.1 85 e) + a) - 1)) = σ.1 87 (3 * (σ.1 85 e + a - 1)) from hI.2.2.2.1 _ (by omega)]
        have gqr := gq.1.1
        have gqs := gq.1.2.1
        refine a_iload_n (pc := 97) (i := 2) (by decide +kernel) rfl ?_
        refine a_iload (pc := 98) (i := 4) (by decide +kernel) rfl ?_
        refine b_callV (pc := 100) (c' := 0) (sl' := 0) [j_i (σ.1 87 (3 * (σ.1 85 e + a - 1))), j_i h, j_i od] [] ml_X12_247 (by decide +kernel) rfl rfl (sh_68 hn) rfl rfl (Nat.le_of_ble_eq_true rfl) (j_fitI rfl rfl) (e_compared hn (MB_m (IS_m hI) hB).1 (MB_m (IS_m hI) hB).2.1 gq.1.1 (by rw [(IS_m hI).1 69 (by omega)]; have := gq.1.2.1; omega) hh1 (by rw [(IS_m hI).1 69 (by omega)]; omega) ho) (fun v n' σ' hq => ?_)
        obtain ⟨rfl, hbf, x, rfl, hxr, hx⟩ := hq
        obtain ⟨σ9, hσ9⟩ : ∃ z, z = σ' := ⟨_, rfl⟩
        rw [← hσ9] at hbf ⊢
        clear hσ9
        rw [mfr_o (IS_m hI)] at hx
        have hI2 := IS_b hI hbf
        show j_at _ _ _ [(0, .ref 68), (1, j_i e), (2, j_i h), (3, j_i al), (4, j_i od), (5, j_i a)] [j_i x] _ _ _ _
        refine a_if_le (pc := 103) (off := 64) (tgt := 167) (by decide +kernel) (by decide) (by omega) (fun c103 => ?_) (fun c103 => ?_)
        · have hlow : ∀ i, 0 ≤ i → i < a → sl σ od (g2 (σ.1 87) (σ.1 85 e + i)) (h, al) := by
            by_cases z0 : a = 0
            · intro i i0 i1; omega
            · have w1 : sl σ od (g2 (σ.1 87) (σ.1 85 e + (a - 1))) (h, al) := by
                rw [show σ.1 85 e + (a - 1) = σ.1 85 e + a - 1 by omega]
                first
                  | exact absurd z0 (by omega)
                  | exact Or.inl (show σ.1 87 (3 * (σ.1 85 e + a - 1) + 1) < al by omega)
                  | exact Or.inr ⟨show σ.1 87 (3 * (σ.1 85 e + a - 1) + 1) = al by omega, by rcases o_tot (od := od) hK hP gq.1 hh gne with w | w; exact w; exact absurd ((o_gt hx).mpr w) (by omega)⟩
              intro i i0 i1
              by_cases q : i = a - 1
              · rw [q]; exact w1
              · exact sl_tr _ _ _ (gC i (a - 1) i0 (by omega) (by omega)) w1
          refine a_aload_n (pc := 167) (i := 0) (by decide +kernel) rfl ?_
          refine b_getR (pc := 168) (b := 87) fl_X12_69 (by decide +kernel) (sh_68 hn) rfl ?_
          refine a_iconst (pc := 171) (n := 3) (by decide +kernel) ?_
          refine a_aload_n (pc := 172) (i := 0) (by decide +kernel) rfl ?_
          refine b_getR (pc := 173) (b := 85) fl_X12_63 (by decide +kernel) (sh_68 hn) rfl ?_
          refine a_iload_n (pc := 176) (i := 1) (by decide +kernel) rfl ?_
          refine b_iaload (pc := 177) (by decide +kernel) (sh_85 hn) (by omega) (by omega) (by omega) ?_
          rw [show σ9.1 85 = τ.1 85 from (by rw [hbf.1])]
          rw [show τ.1 85 = σ.1 85 from hI.1 85 (by omega)]
          refine a_iload (pc := 178) (i := 5) (by decide +kernel) rfl ?_
          refine a_iadd (pc := 180) (by decide +kernel) ?_
          refine a_imul (pc := 181) (by decide +kernel) ?_
          refine a_iload_n (pc := 182) (i := 2) (by decide +kernel) rfl ?_
          refine b_iastore (pc := 183) (by decide +kernel) (sh_87 hn) (by omega) (by omega) (by omega) ?_
          obtain ⟨σ10, hσ10⟩ : ∃ z, z = k_sA σ9 87 (j_up (σ9.1 87) (3 * ((σ.1 85 e) + a)) h) := ⟨_, rfl⟩
          rw [← hσ10]
          refine a_aload_n (pc := 184) (i := 0) (by decide +kernel) rfl ?_
          refine b_getR (pc := 185) (b := 87) fl_X12_69 (by decide +kernel) (sh_68 hn) rfl ?_
          refine a_iconst (pc := 188) (n := 3) (by decide +kernel) ?_
          refine a_aload_n (pc := 189) (i := 0) (by decide +kernel) rfl ?_
          refine b_getR (pc := 190) (b := 85) fl_X12_63 (by decide +kernel) (sh_68 hn) rfl ?_
          refine a_iload_n (pc := 193) (i := 1) (by decide +kernel) rfl ?_
          refine b_iaload (pc := 194) (by decide +kernel) (sh_85 hn) (by omega) (by omega) (by omega) ?_
          rw [show σ10.1 85 = σ9.1 85 by rw [hσ10]; exact k_AN (by omega)]
          rw [show σ9.1 85 = τ.1 85 from (by rw [hbf.1])]
          rw [show τ.1 85 = σ.1 85 from hI.1 85 (by omega)]
          refine a_iload (pc := 195) (i := 5) (by decide +kernel) rfl ?_
          refine a_iadd (pc := 197) (by decide +kernel) ?_
          refine a_imul (pc := 198) (by decide +kernel) ?_
          refine a_iconst (pc := 199) (n := 1) (by decide +kernel) ?_
          refine a_iadd (pc := 200) (by decide +kernel) ?_
          refine a_iload_n (pc := 201) (i := 3) (by decide +kernel) rfl ?_
          refine b_iastore (pc := 202) (by decide +kernel) (sh_87 hn) (by omega) (by omega) (by omega) ?_
          obtain ⟨σ11, hσ11⟩ : ∃ z, z = k_sA σ10 87 (j_up (σ10.1 87) ((3 * ((σ.1 85 e) + a)) + 1) al) := ⟨_, rfl⟩
          rw [← hσ11]
          refine a_aload_n (pc := 203) (i := 0) (by decide +kernel) rfl ?_
          refine b_getR (pc := 204) (b := 84) fl_X12_60 (by decide +kernel) (sh_68 hn) rfl ?_
          refine a_iload_n (pc := 207) (i := 1) (by decide +kernel) rfl ?_
          refine a_dup2 (pc := 208) (by decide +kernel) rfl rfl ?_
          refine b_iaload (pc := 209) (by decide +kernel) (sh_84 hn) (by omega) (by omega) (by omega) ?_
          rw [show σ11.1 84 = σ10.1 84 by rw [hσ11]; exact k_AN (by omega)]
          rw [show σ10.1 84 = σ9.1 84 by rw [hσ10]; exact k_AN (by omega)]
          rw [show σ9.1 84 = τ.1 84 from (by rw [hbf.1])]
          rw [show τ.1 84 = σ.1 84 from hI.1 84 (by omega)]
          refine a_iconst (pc := 210) (n := 1) (by decide +kernel) ?_
          refine a_iadd (pc := 211) (by decide +kernel) ?_
          refine b_iastore (pc := 212) (by decide +kernel) (sh_84 hn) (by omega) (by omega) (by omega) ?_
          obtain ⟨σ12, hσ12⟩ : ∃ z, z = k_sA σ11 84 (j_up (σ11.1 84) e ((σ.1 84 e) + 1)) := ⟨_, rfl⟩
          rw [← hσ12]
          refine a_aload_n (pc := 213) (i := 0) (by decide +kernel) rfl ?_
          refine a_dup (pc := 214) (by decide +kernel) rfl ?_
          refine b_getI (pc := 215) fl_X12_343 (by decide +kernel) (sh_68 hn) rfl ?_
          rw [show σ12.2.1 68 34 = σ11.2.1 68 34 by rw [hσ12]; rfl]
          rw [show σ11.2.1 68 34 = σ10.2.1 68 34 by rw [hσ11]; rfl]
          rw [show σ10.2.1 68 34 = σ9.2.1 68 34 by rw [hσ10]; rfl]
          rw [show σ9.2.1 68 34 = τ.2.1 68 34 from (hbf.2.1 68 34 (by omega))]
          rw [show τ.2.1 68 34 = σ.2.1 68 34 from hI.2.1 68 34 (by omega)]
          refine a_iconst (pc := 218) (n := 1) (by decide +kernel) ?_
          refine a_iadd (pc := 219) (by decide +kernel) ?_
          refine b_putI (pc := 220) fl_X12_343 (by decide +kernel) (sh_68 hn) rfl rfl rfl ?_
          obtain ⟨σ13, hσ13⟩ : ∃ z, z = k_sI σ12 68 34 ((σ.2.1 68 34) + 1) := ⟨_, rfl⟩
          rw [← hσ13]
          refine a_return (pc := 223) (by decide +kernel) rfl ?_
          refine k_ret ?_
          have y := SSg_add hG hI2 (by omega) (by omega) ⟨hh, hal⟩ hlow hW hσ10 hσ11 hσ12 hσ13
          exact ⟨rfl, rfl, y.1, by omega, by omega, SSg_w y.2.2 (fun x => ⟨fun w => by rcases w with w | w; exact Or.inl w; exact Or.inr ⟨w, hnS⟩, fun w => by rcases w with w | w; exact Or.inl w; exact Or.inr w.1⟩)⟩
        · refine a_iconst (pc := 106) (n := 0) (by decide +kernel) ?_
          refine a_istore (pc := 107) (i := 6) (lv' := [(0, .ref 68), (1, j_i e), (2, j_i h), (3, j_i al), (4, j_i od), (5, j_i a), (6, j_i 0)]) (by decide +kernel) (Nat.le_of_ble_eq_true rfl) rfl ?_
          refine a_iload (pc := 109) (i := 6) (by decide +kernel) rfl ?_
          refine a_iconst (pc := 111) (n := 2) (by decide +kernel) ?_
          refine a_icmp_ge (pc := 112) (off := 49) (tgt := 161) (by decide +kernel) (by decide) (by omega) (by omega) (fun c112 => ?_) (fun c112 => ?_)
          · exact absurd c112 (by decide)
          · refine a_aload_n (pc := 115) (i := 0) (by decide +kernel) rfl ?_
            refine b_getR (pc := 116) (b := 87) fl_X12_69 (by decide +kernel) (sh_68 hn) rfl ?_
            refine a_iconst (pc := 119) (n := 3) (by decide +kernel) ?_
            refine a_aload_n (pc := 120) (i := 0) (by decide +kernel) rfl ?_
            refine b_getR (pc := 121) (b := 85) fl_X12_63 (by decide +kernel) (sh_68 hn) rfl ?_
            refine a_iload_n (pc := 124) (i := 1) (by decide +kernel) rfl ?_
            refine b_iaload (pc := 125) (by decide +kernel) (sh_85 hn) (by omega) (by omega) (by omega) ?_
            rw [show σ9.1 85 = τ.1 85 from (by rw [hbf.1])]
            rw [show τ.1 85 = σ.1 85 from hI.1 85 (by omega)]
            refine a_iload (pc := 126) (i := 5) (by decide +kernel) rfl ?_
            refine a_iadd (pc := 128) (by decide +kernel) ?_
            refine a_imul (pc := 129) (by decide +kernel) ?_
            refine a_iload (pc := 130) (i := 6) (by decide +kernel) rfl ?_
            refine a_iadd (pc := 132) (by decide +kernel) ?_
            refine a_aload_n (pc := 133) (i := 0) (by decide +kernel) rfl ?_
            refine b_getR (pc := 134) (b := 87) fl_X12_69 (by decide +kernel) (sh_68 hn) rfl ?_
            refine a_iconst (pc := 137) (n := 3) (by decide +kernel) ?_
            refine a_aload_n (pc := 138) (i := 0) (by decide +kernel) rfl ?_
            refine b_getR (pc := 139) (b := 85) fl_X12_63 (by decide +kernel) (sh_68 hn) rfl ?_
            refine a_iload_n (pc := 142) (i := 1) (by decide +kernel) rfl ?_
            refine b_iaload (pc := 143) (by decide +kernel) (sh_85 hn) (by omega) (by omega) (by omega) ?_
            rw [show σ9.1 85 = τ.1 85 from (by rw [hbf.1])]
            rw [show τ.1 85 = σ.1 85 from hI.1 85 (by omega)]
            refine a_iload (pc := 144) (i := 5) (by decide +kernel) rfl ?_
            refine a_iadd (pc := 146) (by decide +kernel) ?_
            refine a_iconst (pc := 147) (n := 1) (by decide +kernel) ?_
            refine a_isub (pc := 148) (by decide +kernel) ?_
            refine a_imul (pc := 149) (by decide +kernel) ?_
            refine a_iload (pc := 150) (i := 6) (by decide +kernel) rfl ?_
            refine a_iadd (pc := 152) (by decide +kernel) ?_
            refine b_iaload (pc := 153) (by decide +kernel) (sh_87 hn) (by omega) (by omega) (by omega) ?_
            refine b_iastore (pc := 154) (by decide +kernel) (sh_87 hn) (by omega) (by omega) (by omega) ?_
            obtain ⟨σ14, hσ14⟩ : ∃ z, z = k_sA σ9 87 (j_up (σ9.1 87) ((3 * ((σ.1 85 e) + a)) + 0) (σ9.1 87 ((3 * (((σ.1 85 e) + a) - 1)) + 0))) := ⟨_, rfl⟩
            rw [← hσ14]
            refine a_iinc (pc := 155) (i := 6) (n := 1) (x := 0) (lv' := [(0, .ref 68), (1, j_i e), (2, j_i h), (3, j_i al), (4, j_i od), (5, j_i a), (6, j_i 1)]) (by decide +kernel) rfl (Nat.le_of_ble_eq_true rfl) rfl ?_
            refine a_goto (pc := 158) (off := -49) (tgt := 109) (by decide +kernel) (by decide) ?_
            refine a_iload (pc := 109) (i := 6) (by decide +kernel) rfl ?_
            refine a_iconst (pc := 111) (n := 2) (by decide +kernel) ?_
            refine a_icmp_ge (pc := 112) (off := 49) (tgt := 161) (by decide +kernel) (by decide) (by omega) (by omega) (fun c112 => ?_) (fun c112 => ?_)
            · exact absurd c112 (by decide)
            · refine a_aload_n (pc := 115) (i := 0) (by decide +kernel) rfl ?_
              refine b_getR (pc := 116) (b := 87) fl_X12_69 (by decide +kernel) (sh_68 hn) rfl ?_
              refine a_iconst (pc := 119) (n := 3) (by decide +kernel) ?_
              refine a_aload_n (pc := 120) (i := 0) (by decide +kernel) rfl ?_
              refine b_getR (pc := 121) (b := 85) fl_X12_63 (by decide +kernel) (sh_68 hn) rfl ?_
              refine a_iload_n (pc := 124) (i := 1) (by decide +kernel) rfl ?_
              refine b_iaload (pc := 125) (by decide +kernel) (sh_85 hn) (by omega) (by omega) (by omega) ?_
              rw [show σ14.1 85 = σ9.1 85 by rw [hσ14]; exact k_AN (by omega)]
              rw [show σ9.1 85 = τ.1 85 from (by rw [hbf.1])]
              rw [show τ.1 85 = σ.1 85 from hI.1 85 (by omega)]
              refine a_iload (pc := 126) (i := 5) (by decide +kernel) rfl ?_
              refine a_iadd (pc := 128) (by decide +kernel) ?_
              refine a_imul (pc := 129) (by decide +kernel) ?_
              refine a_iload (pc := 130) (i := 6) (by decide +kernel) rfl ?_
              refine a_iadd (pc := 132) (by decide +kernel) ?_
              refine a_aload_n (pc := 133) (i := 0) (by decide +kernel) rfl ?_
              refine b_getR (pc := 134) (b := 87) fl_X12_69 (by decide +kernel) (sh_68 hn) rfl ?_
              refine a_iconst (pc := 137) (n := 3) (by decide +kernel) ?_
              refine a_aload_n (pc := 138) (i := 0) (by decide +kernel) rfl ?_
              refine b_getR (pc := 139) (b := 85) fl_X12_63 (by decide +kernel) (sh_68 hn) rfl ?_
              refine a_iload_n (pc := 142) (i := 1) (by decide +kernel) rfl ?_
              refine b_iaload (pc := 143) (by decide +kernel) (sh_85 hn) (by omega) (by omega) (by omega) ?_
              rw [show σ14.1 85 = σ9.1 85 by rw [hσ14]; exact k_AN (by omega)]
              rw [show σ9.1 85 = τ.1 85 from (by rw [hbf.1])]
              rw [show τ.1 85 = σ.1 85 from hI.1 85 (by omega)]
              refine a_iload (pc := 144) (i := 5) (by decide +kernel) rfl ?_
              refine a_iadd (pc := 146) (by decide +kernel) ?_
              refine a_iconst (pc := 147) (n := 1) (by decide +kernel) ?_
              refine a_isub (pc := 148) (by decide +kernel) ?_
              refine a_imul (pc := 149) (by decide +kernel) ?_
              refine a_iload (pc := 150) (i := 6) (by decide +kernel) rfl ?_
              refine a_iadd (pc := 152) (by decide +kernel) ?_
              refine b_iaload (pc := 153) (by decide +kernel) (sh_87 hn) (by omega) (by omega) (by omega) ?_
              refine b_iastore (pc := 154) (by decide +kernel) (sh_87 hn) (by omega) (by omega) (by omega) ?_
              obtain ⟨σ15, hσ15⟩ : ∃ z, z = k_sA σ14 87 (j_up (σ14.1 87) ((3 * ((σ.1 85 e) + a)) + 1) (σ14.1 87 ((3 * (((σ.1 85 e) + a) - 1)) + 1))) := ⟨_, rfl⟩
              rw [← hσ15]
              refine a_iinc (pc := 155) (i := 6) (n := 1) (x := 1) (lv' := [(0, .ref 68), (1, j_i e), (2, j_i h), (3, j_i al), (4, j_i od), (5, j_i a), (6, j_i 2)]) (by decide +kernel) rfl (Nat.le_of_ble_eq_true rfl) rfl ?_
              refine a_goto (pc := 158) (off := -49) (tgt := 109) (by decide +kernel) (by decide) ?_
              refine a_iload (pc := 109) (i := 6) (by decide +kernel) rfl ?_
              refine a_iconst (pc := 111) (n := 2) (by decide +kernel) ?_
              refine a_icmp_ge (pc := 112) (off := 49) (tgt := 161) (by decide +kernel) (by decide) (by omega) (by omega) (fun c112 => ?_) (fun c112 => ?_)
              · refine a_iinc (pc := 161) (i := 5) (n := -1) (x := a) (lv' := [(0, .ref 68), (1, j_i e), (2, j_i h), (3, j_i al), (4, j_i od), (5, j_i (a + (-1))), (6, j_i 2)]) (by decide +kernel) rfl (Nat.le_of_ble_eq_true rfl) rfl ?_
                refine a_goto (pc := 164) (off := -115) (tgt := 49) (by decide +kernel) (by decide) ?_
                exact a_sub (lv' := [(0, .ref 68), (1, j_i e), (2, j_i h), (3, j_i al), (4, j_i od), (5, j_i (a + -1))]) (fun q hq => by simp only [List.mem_cons, List.not_mem_nil, or_false] at hq ⊢; rcases hq with rfl | rfl | rfl | rfl | rfl | rfl <;> simp) (ih (a + -1) σ15 (by omega) (by omega) (by omega) (IS_s hI2 hσ14 hσ15) (fun j j0 j1 => by
                  by_cases q : j = a - 1
                  · rw [q]
                    refine Or.inr ⟨?_, ?_⟩
                    · show al = σ.1 87 (3 * (σ.1 85 e + (a - 1)) + 1); rw [show σ.1 85 e + (a - 1) = σ.1 85 e + a - 1 by omega]; omega
                    · show o_rel σ h (σ.1 87 (3 * (σ.1 85 e + (a - 1)))) od (-1); rw [show σ.1 85 e + (a - 1) = σ.1 85 e + a - 1 by omega]; exact (o_gt hx).mp (by omega)
                  · exact hW j (by omega) j1))
              · exact absurd c112 (by decide)
set_option maxHeartbeats 4000000 in
theorem l_as3 {G : j_G} {X : k_X} {n : Nat} {σ : k_St} (hn : 101 ≤ n) {pe : Int → Int} (hB : MB σ pe) {e h al od : Int} {S : Int × Int → Prop} (ho : od = 0 ∨ od = 1) (hG : SSg σ σ e od S) (he : 0 ≤ e ∧ e < 150) (hb : σ.2.1 68 34 ≤ 190) (hh : h_is σ h) (hal : al = 0 ∨ al = 1) (hle : ∀ x, S x → x.2 ≤ al)  : ∀ (z : Nat) (i : Int), σ.1 84 e - i < (z : Int) → 0 ≤ i → i ≤ σ.1 84 e → (∀ q, 0 ≤ q → q < i → σ.1 87 (3 * (σ.1 85 e + q)) ≠ h) → j_at G mX12_addSee 3 [(0, .ref 68), (1, j_i e), (2, j_i h), (3, j_i al), (4, j_i od), (5, j_i i)] [] (k_h X n σ) 0 0 (k_Q X (fun v n' τ => v = none ∧ n' = n ∧ slf σ τ e ∧ σ.2.1 68 34 ≤ τ.2.1 68 34 ∧ τ.2.1 68 34 ≤ σ.2.1 68 34 + 1 ∧ SSg σ τ e od (fun x => S x ∨ (x = (h, al) ∧ ∀ b, ¬ S (h, b))))) := by
  obtain ⟨gA, gK, gC, gD⟩ := id hG
  obtain ⟨hK, hP, hfl, hE, hok⟩ := id hB
  have hE9 : σ.2.1 8 3 = σ.1 69 301 := hK.2.1.2.1.1
  have hg3 := (KR_rg hK.1 hK.2.1).1.2.1
  have hh1 := hh.1
  have hh2 := hh.2.1
  have gS : ∀ j, 0 ≤ j → j < σ.1 84 e → S (g2 (σ.1 87) (σ.1 85 e + j)) := fun j j0 j1 => (gD _).mp ⟨j, j0, j1, rfl⟩
  have gR : ∀ j, 0 ≤ j → j < σ.1 84 e → h_is σ (σ.1 87 (3 * (σ.1 85 e + j))) ∧ (σ.1 87 (3 * (σ.1 85 e + j) + 1) = 0 ∨ σ.1 87 (3 * (σ.1 85 e + j) + 1) = 1) := fun j j0 j1 => gK _ (gS j j0 j1)
  intro z
  induction z with
  | zero => intro i h1 h2 h3; exact absurd h1 (by omega)
  | succ z ih =>
    intro i hz i0 iN hI
    refine a_iload (pc := 3) (i := 5) (by decide +kernel) rfl ?_
    refine a_aload_n (pc := 5) (i := 0) (by decide +kernel) rfl ?_
    refine b_getR (pc := 6) (b := 84) fl_X12_60 (by decide +kernel) (sh_68 hn) rfl ?_
    refine a_iload_n (pc := 9) (i := 1) (by decide +kernel) rfl ?_
    refine b_iaload (pc := 10) (by decide +kernel) (sh_84 hn) (by omega) (by omega) (by omega) ?_
    refine a_icmp_ge (pc := 11) (off := 30) (tgt := 41) (by decide +kernel) (by decide) (by omega) (by omega) (fun c11 => ?_) (fun c11 => ?_)
    · refine a_aload_n (pc := 41) (i := 0) (by decide +kernel) rfl ?_
      refine b_getR (pc := 42) (b := 84) fl_X12_60 (by decide +kernel) (sh_68 hn) rfl ?_
      refine a_iload_n (pc := 45) (i := 1) (by decide +kernel) rfl ?_
      refine b_iaload (pc := 46) (by decide +kernel) (sh_84 hn) (by omega) (by omega) (by omega) ?_
      refine a_istore (pc := 47) (i := 5) (lv' := [(0, .ref 68), (1, j_i e), (2, j_i h), (3, j_i al), (4, j_i od), (5, j_i (σ.1 84 e))]) (by decide +kernel) (Nat.le_of_ble_eq_true rfl) rfl ?_
      exact l_as49 hn hB ho hG he hb hh hal hle (fun b w => by obtain ⟨q, q0, q1, q2⟩ := (gD _).mpr w; exact hI q q0 (by omega) (congrArg Prod.fst q2)) (σ.1 84 e).toNat.succ (σ.1 84 e) σ (by omega) (by omega) (by omega) ⟨fun _ _ => rfl, fun _ _ _ => rfl, rfl, fun _ _ => rfl, fun j j0 j1 => absurd j0 (by omega)⟩ (fun j j0 j1 => absurd j0 (by omega))
    · have gq := gR i (by omega) (by omega)
      have gqr := gq.1.1
      have gqs := gq.1.2.1
      refine a_aload_n (pc := 14) (i := 0) (by decide +kernel) rfl ?_
      refine b_getR (pc := 15) (b := 87) fl_X12_69 (by decide +kernel) (sh_68 hn) rfl ?_
      refine a_iconst (pc := 18) (n := 3) (by decide +kernel) ?_
      refine a_aload_n (pc := 19) (i := 0) (by decide +kernel) rfl ?_
      refine b_getR (pc := 20) (b := 85) fl_X12_63 (by decide +kernel) (sh_68 hn) rfl ?_
      refine a_iload_n (pc := 23) (i := 1) (by decide +kernel) rfl ?_
      refine b_iaload (pc := 24) (by decide +kernel) (sh_85 hn) (by omega) (by omega) (by omega) ?_
      refine a_iload (pc := 25) (i := 5) (by decide +kernel) rfl ?_
      refine a_iadd (pc := 27) (by decide +kernel) ?_
      refine a_imul (pc := 28) (by decide +kernel) ?_
      refine b_iaload (pc := 29) (by decide +kernel) (sh_87 hn) (by omega) (by omega) (by omega) ?_
      refine a_iload_n (pc := 30) (i := 2) (by decide +kernel) rfl ?_
      refine a_icmp_ne (pc := 31) (off := 4) (tgt := 35) (by decide +kernel) (by decide) (by omega) (by omega) (fun c31 => ?_) (fun c31 => ?_)
      · refine a_iinc (pc := 35) (i := 5) (n := 1) (x := i) (lv' := [(0, .ref 68), (1, j_i e), (2, j_i h), (3, j_i al), (4, j_i od), (5, j_i (i + 1))]) (by decide +kernel) rfl (Nat.le_of_ble_eq_true rfl) rfl ?_
        refine a_goto (pc := 38) (off := -35) (tgt := 3) (by decide +kernel) (by decide) ?_
        exact ih (i + 1) (by omega) (by omega) (by omega) (fun q q0 q1 => by by_cases w : q = i; rw [w]; exact c31; exact hI q q0 (by omega))
      · refine a_return (pc := 34) (by decide +kernel) rfl ?_
        refine k_ret ?_
        exact ⟨rfl, rfl, slf_r, by omega, by omega, SSg_w hG (fun x => ⟨Or.inl, fun w => by rcases w with w | w; exact w; exact absurd (gS i (by omega) (by omega)) (by have v := w.2 (σ.1 87 (3 * (σ.1 85 e + i) + 1)); rw [← c31] at v; exact v)⟩)⟩
set_option maxHeartbeats 4000000 in
theorem e_addSee {G : j_G} {X : k_X} {n : Nat} {σ : k_St} (hn : 101 ≤ n) {pe : Int → Int} (hB : MB σ pe) {e h al od : Int} {S : Int × Int → Prop} (ho : od = 0 ∨ od = 1) (hG : SSg σ σ e od S) (he : 0 ≤ e ∧ e < 150) (hb : σ.2.1 68 34 ≤ 190) (hh : h_is σ h) (hal : al = 0 ∨ al = 1) (hle : ∀ x, S x → x.2 ≤ al)  : k_run G X mX12_addSee [.ref 68, j_i e, j_i h, j_i al, j_i od] n σ 0 0 (fun v n' τ => v = none ∧ n' = n ∧ slf σ τ e ∧ σ.2.1 68 34 ≤ τ.2.1 68 34 ∧ τ.2.1 68 34 ≤ σ.2.1 68 34 + 1 ∧ SSg σ τ e od (fun x => S x ∨ (x = (h, al) ∧ ∀ b, ¬ S (h, b)))) := by
  obtain ⟨gA, gK, gC, gD⟩ := id hG
  obtain ⟨hK, hP, hfl, hE, hok⟩ := id hB
  have hE9 : σ.2.1 8 3 = σ.1 69 301 := hK.2.1.2.1.1
  have hg3 := (KR_rg hK.1 hK.2.1).1.2.1
  have hh1 := hh.1
  have hh2 := hh.2.1
  have gS : ∀ j, 0 ≤ j → j < σ.1 84 e → S (g2 (σ.1 87) (σ.1 85 e + j)) := fun j j0 j1 => (gD _).mp ⟨j, j0, j1, rfl⟩
  have gR : ∀ j, 0 ≤ j → j < σ.1 84 e → h_is σ (σ.1 87 (3 * (σ.1 85 e + j))) ∧ (σ.1 87 (3 * (σ.1 85 e + j) + 1) = 0 ∨ σ.1 87 (3 * (σ.1 85 e + j) + 1) = 1) := fun j j0 j1 => gK _ (gS j j0 j1)
  refine k_enter (by decide +kernel) (Nat.le_of_ble_eq_true rfl) ?_
  show j_at _ _ _ [(0, .ref 68), (1, j_i e), (2, j_i h), (3, j_i al), (4, j_i od)] [] _ _ _ _
  refine a_iconst (pc := 0) (n := 0) (by decide +kernel) ?_
  refine a_istore (pc := 1) (i := 5) (lv' := [(0, .ref 68), (1, j_i e), (2, j_i h), (3, j_i al), (4, j_i od), (5, j_i 0)]) (by decide +kernel) (Nat.le_of_ble_eq_true rfl) rfl ?_
  exact l_as3 hn hB ho hG he hb hh hal hle (σ.1 84 e).toNat.succ 0 (by omega) (by omega) (by omega) (fun q q0 q1 => absurd q1 (by omega))
