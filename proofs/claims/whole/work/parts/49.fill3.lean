theorem j_mono {G : j_G} {M : j_M} {pc : Nat} {lv : List (Nat × Value)} {st : List Value} {h : j_H} {c sl : Nat} {Q Q' : j_P} (hq : ∀ v h, Q v h → Q' v h) (k : j_at G M pc lv st h c sl Q) : j_at G M pc lv st h c sl Q' := by
  intro p e s m args below meth cd H locs ls cells slots mc ms h1 h2 h3 h4 h5 h6 T hT X
  obtain ⟨t, a1, o, b1, b2, ⟨⟨v, h', c1, c2, c3⟩, c4⟩, b4⟩ := k p e s m args below meth cd H locs ls cells slots mc ms h1 h2 h3 h4 h5 h6 T hT X
  exact ⟨t, a1, o, b1, b2, ⟨⟨v, h', c1, hq v h' c2, c3⟩, c4⟩, b4⟩
theorem k_mono {G : j_G} {M : j_M} {pc : Nat} {lv : List (Nat × Value)} {st : List Value} {h : j_H} {c sl : Nat} {X : k_X} {Q Q' : k_P} (hq : ∀ v n σ, Q v n σ → Q' v n σ) (k : j_at G M pc lv st h c sl (k_Q X Q)) : j_at G M pc lv st h c sl (k_Q X Q') :=
  j_mono (fun _ _ ⟨n, σ, e, q⟩ => ⟨n, σ, e, hq _ n σ q⟩) k
def fi_fr (a : Nat) (σ τ : k_St) : Prop := (∀ c, (c < 40 ∨ 68 ≤ c ∨ (48 ≤ c ∧ c < 68 ∧ ¬ (a ≤ c ∧ c < a + 10))) → τ.1 c = σ.1 c) ∧ (∀ c j, (c < 37 ∨ 68 ≤ c ∨ (48 ≤ c ∧ c < 68 ∧ c ≠ a)) → τ.2.1 c j = σ.2.1 c j) ∧ τ.2.2 = σ.2.2
theorem fi_r {a : Nat} {σ : k_St} : fi_fr a σ σ := ⟨fun _ _ => rfl, fun _ _ _ => rfl, rfl⟩
theorem fi_t {a : Nat} {σ τ ρ : k_St} (h : fi_fr a σ τ) (g : fi_fr a τ ρ) : fi_fr a σ ρ := ⟨fun c q => (g.1 c q).trans (h.1 c q), fun c j q => (g.2.1 c j q).trans (h.2.1 c j q), g.2.2.trans h.2.2⟩
theorem fi_39 {a j : Nat} (ha : a = 48 ∨ a = 58) {σ : k_St} {x : Int} : fi_fr a σ (k_sI σ 39 j x) := ⟨fun _ _ => rfl, fun c i q => k_IN (by omega), rfl⟩
theorem fi_rk {a : Nat} (ha : a = 48 ∨ a = 58) {σ τ : k_St} (h : rk_fr σ τ) : fi_fr a σ τ := ⟨fun c q => h.1 c (by omega) (by omega), fun c j q => h.2.1 c j (by omega) (by omega) (by omega), h.2.2⟩
theorem fi_lm {a : Nat} (ha : a = 48 ∨ a = 58) {σ τ : k_St} (h : lm_fr σ τ) : fi_fr a σ τ := ⟨fun c q => h.1 c (by omega) (by omega), fun c j q => h.2.1 c j (by omega), h.2.2⟩
theorem fi_cl {a : Nat} (ha : a = 48 ∨ a = 58) {σ : k_St} : fi_fr a σ (i_cl σ a) := ⟨fun c q => rfl, fun c j q => by unfold i_cl; rw [k_IN (by omega), k_IN (by omega), k_IN (by omega), k_IN (by omega)], rfl⟩
theorem fi_cpA {a : Nat} (ha : a = 48 ∨ a = 58) {σ : k_St} : fi_fr a σ (r_cpA σ (a + 7) 9 30) := ⟨fun c q => r_cpA_o (by omega) (by omega), fun _ _ _ => rfl, rfl⟩
theorem fi_cp {a : Nat} (ha : a = 48 ∨ a = 58) {σ τ : k_St} (h : cp_fr a σ τ) : fi_fr a σ τ := ⟨fun c q => h.1 c (by omega) (by omega), fun c j q => by rw [h.2], by rw [h.2]⟩
theorem fi_pth {a : Nat} (ha : a = 48 ∨ a = 58) {σ τ : k_St} (h : pth_fr a σ τ) : fi_fr a σ τ := ⟨fun c q => h.1 c (by omega), fun c j q => h.2.1 c j (by omega), h.2.2⟩
theorem fi_pf {a : Nat} (ha : a = 48 ∨ a = 58) {σ τ : k_St} (h : pf_fr a σ τ) : fi_fr a σ τ := ⟨fun c q => h.1 c (by omega) (by omega) (by omega) (by omega) (by omega), fun c j q => h.2.1 c j (by omega) (by omega) (by omega), h.2.2⟩
theorem fi_ad {a : Nat} (ha : a = 48 ∨ a = 58) {σ τ : k_St} (h : ad_fr a σ τ) : fi_fr a σ τ := ⟨fun c q => h.1 c (by omega) (by omega) (by omega), fun c j q => h.2.1 c j (by omega), h.2.2⟩
theorem fi_A5 {a : Nat} (ha : a = 48 ∨ a = 58) {σ : k_St} {f : Int → Int} : fi_fr a σ (k_sA σ (a + 5) f) := ⟨fun c q => k_AN (by omega), fun _ _ _ => rfl, rfl⟩
theorem fi_oo {a : Nat} (ha : a = 48 ∨ a = 58) {σ τ : k_St} (h : oo_fr a σ τ) : fi_fr a σ τ := ⟨fun c q => h.1 c (by omega), fun c j q => h.2.1 c j (by omega), h.2.2⟩
theorem fi_mwf {a : Nat} {σ τ : k_St} (h : fi_fr a σ τ) (hw : m_wf σ 16) : m_wf τ 16 := m_wf_congr (h.1 _ (by omega)) (h.1 _ (by omega)) (h.1 _ (by omega)) (h.1 _ (by omega)) (h.1 _ (by omega)) (h.2.1 _ _ (by omega)) hw
theorem fi_hwf {a : Nat} {σ τ : k_St} (h : fi_fr a σ τ) (hw : h_wf σ 8) : h_wf τ 8 := h_wf_congr (h.1 _ (by omega)) (h.1 _ (by omega)) (h.1 _ (by omega)) (h.1 _ (by omega)) (h.1 _ (by omega)) (h.2.1 _ _ (by omega)) hw
theorem fi_ywf {a : Nat} {σ τ : k_St} (h : fi_fr a σ τ) (hy : y_wf σ) : y_wf τ := ⟨by rw [h.2.1 33 1 (by omega)]; exact hy.1, r_wf_congr (h.1 _ (by omega)) (h.1 _ (by omega)) hy.2⟩
theorem fi_mis {a : Nat} {σ τ : k_St} (h : fi_fr a σ τ) (m : Int) : m_is τ m ↔ m_is σ m := by unfold m_is; rw [h.1 21 (by omega), h.2.1 16 5 (by omega)]
theorem fi_his {a : Nat} {σ τ : k_St} (h : fi_fr a σ τ) (m : Int) : h_is τ m ↔ h_is σ m := by unfold h_is; rw [h.1 15 (by omega), h.2.1 8 3 (by omega)]
theorem fi_rel {a : Nat} {σ τ : k_St} (h : fi_fr a σ τ) {x y od r : Int} : o_rel τ x y od r ↔ o_rel σ x y od r := o_rel_congr (fun c hc => h.1 c (by omega)) (h.2.1 33 1 (by omega))
theorem fi_dis {a : Nat} {σ τ : k_St} (h : fi_fr a σ τ) (hd : h_dis σ) : h_dis τ := fun x y hx hy hxy => by
  obtain ⟨i, i0, i1, i2⟩ := hd x y ((fi_his h x).mp hx) ((fi_his h y).mp hy) hxy
  refine ⟨i, i0, i1, ?_⟩
  unfold r_sgn at i2 ⊢; rw [h.1 11 (by omega), h.1 10 (by omega)]; exact i2
theorem fi_ep {a : Nat} {σ τ : k_St} (h : fi_fr a σ τ) (m : Int) : m_epath τ m = m_epath σ m := by unfold m_epath; rw [h.1 21 (by omega), h.1 17 (by omega), h.1 19 (by omega), h.2.1 16 5 (by omega)]
theorem r_cpA_wf {σ : k_St} {a b R : Nat} (hw : r_wf σ a R) (hwb : r_wf σ b R) : r_wf (r_cpA σ a b R) a R := by
  refine ⟨fun r h0 h1 => ?_, fun i => ?_⟩
  · rw [r_cpA_2]; unfold j_cpy; rw [if_pos (by omega), show (0 : Int) + (r - 0) = r by omega]; exact hwb.1 r h0 h1
  · rw [r_cpA_1]; unfold j_cpy; split
    · exact hwb.2 _
    · exact hw.2 _
theorem r_cpA_row {σ : k_St} {a b : Nat} {h : Int} (h0 : 0 ≤ h) (h1 : h < 30) : row_eq (r_cpA σ a b 30) a σ b h := by
  refine ⟨by rw [r_cpA_2]; unfold j_cpy; rw [if_pos (by omega), show (0 : Int) + (h - 0) = h by omega], fun i i0 i1 _ => ?_⟩
  rw [r_cpA_1]; unfold j_cpy; rw [if_pos (by omega), show (0 : Int) + (h * 16 + i - 0) = h * 16 + i by omega]
theorem i_led_cg {σ τ : k_St} {a : Nat} (h1 : τ.1 (a + 1) = σ.1 (a + 1)) (h2 : τ.1 (a + 2) = σ.1 (a + 2)) (h3 : τ.1 (a + 3) = σ.1 (a + 3)) (h0 : τ.2.1 a 0 = σ.2.1 a 0) (h5 : ∀ k : Int, τ.1 (a + 5) (k * 3) = σ.1 (a + 5) (k * 3)) : ∀ {m : Nat} {h r : Int}, i_led τ a m h r ↔ i_led σ a m h r
  | 0, _, _ => Iff.rfl
  | m + 1, h, r => by
    have e1 : ∀ p e, i_of τ a p e ↔ i_of σ a p e := fun p e => by unfold i_of; rw [h1, h0]
    have e2 : ∀ e, i_body τ a e ↔ i_body σ a e := fun e => by unfold i_body i_pn i_ps; rw [h1, h2, h0]
    have e3 : ∀ e, i_ls τ a e = i_ls σ a e := fun e => by unfold i_ls; rw [h3]
    have e4 : ∀ e, i_sn τ a e = i_sn σ a e := fun e => by unfold i_sn; rw [e3, h3, h0]
    unfold i_led
    simp only [e1, e2, e3, e4, h5, i_led_cg h1 h2 h3 h0 h5]
def PLx (K P T pg : Int → Int) (lm : List Int) (c d : Int) (F2 F4 : Int → Int) (e p : Int) : Prop := ∃ Y : List q_T, q_seg F4 (pst F2 e) Y ∧ F2 e = pst F2 e + Y.length ∧ Y.Pairwise (fun x y => q_w c x < q_w c y) ∧ pl_spec (fun x => x ∈ b_ru K P pg p lm (-9)) (b_ms K P pg T p lm) d Y
def ldx (K P : Int → Int) (lm lr : List Int) (p : Int) (bd : Prop) (L : List (Int × Int)) : Prop := (f_hin p ≠ 1 ∧ L = []) ∨ (f_hin p = 1 ∧ ∃ F : Int → Int, (∀ h ∈ lr, ld_by K P lm (f_head p 0) h (F h)) ∧ ∃ al : Int, ((al = 1 ∧ bd) ∨ (al = 0 ∧ ¬ bd)) ∧ L = (lr.filter (fun h => decide (F h = 6))).map (fun h => (h, al)) ++ (lr.filter (fun h => decide (F h = 7))).map (fun h => (h, 1)))
def LDx (K P : Int → Int) (lm lr : List Int) (bd : Prop) (F3 F5 : Int → Int) (e p : Int) : Prop := ∃ L : List (Int × Int), g_seg F5 (pst F3 e) L ∧ F3 e = pst F3 e + L.length ∧ ldx K P lm lr p bd L
/-- the index at a in τ is that of what σ keeps, in the order od, with chief c, near d, flow fl -/
def FI (σ τ : k_St) (a : Nat) (od c d fl : Int) : Prop := ∃ lr lm E O : List Int, (∀ x, x ∈ lr ↔ h_is σ x) ∧ lr.Pairwise (fun x y => o_rel σ x y od (-1)) ∧ (∀ x, x ∈ lm ↔ m_is σ x) ∧ lm.Pairwise (m_lt σ) ∧ lm.length ≤ 50 ∧ (τ.2.1 a 0 = (E.length : Int) ∧ v_seg (τ.1 (a + 1)) 0 E ∧ E.Pairwise (pt_lt (fun x y => o_rel σ x y od (-1))) ∧ (∀ p, p ∈ E ↔ ∃ m ∈ lm, pre_p (m_epath σ m) p) ∧ E.length ≤ 150) ∧ (τ.2.1 a 5 = pst (τ.1 (a + 2)) E.length ∧ ∀ (e : Nat) (h : e < E.length), PLx (σ.1 17) (σ.1 19) (σ.1 20) (fun m => f_page (σ.1 18 m) fl) lm c d (τ.1 (a + 2)) (τ.1 (a + 4)) e E[e]) ∧ (τ.2.1 a 7 = pst (τ.1 (a + 3)) E.length ∧ ∀ (e : Nat) (h : e < E.length), LDx (σ.1 17) (σ.1 19) lm lr (i_body τ a e) (τ.1 (a + 3)) (τ.1 (a + 5)) e E[e]) ∧ (∀ j, 0 ≤ j → j < τ.2.1 a 7 → i_led τ a (τ.2.1 a 0 + 1).toNat (τ.1 (a + 5) (j * 3)) (τ.1 (a + 5) (j * 3 + 2))) ∧ (τ.2.1 a 9 = (O.length : Int) ∧ v_seg (τ.1 (a + 6)) 0 O ∧ O.Pairwise (· < ·) ∧ ∀ i, i ∈ O ↔ ∃ p ∈ E, i ∈ b_lo (σ.1 17) (σ.1 19) p lm (-9)) ∧ ∀ h, 0 ≤ h → h < σ.2.1 8 3 → row_eq τ (a + 7) σ (if 0 < σ.1 14 h then 12 else 9) h
theorem b_lo_mem {K P : Int → Int} {p i : Int} : ∀ {t : List Int} {o : Int}, i ∈ b_lo K P p t o → i ∈ t ∨ (i = o ∧ o ≠ -9)
  | [], o, h => by
    unfold b_lo at h; split at h
    · cases h
    · rw [List.mem_singleton] at h; exact Or.inr ⟨h, by assumption⟩
  | m :: t, o, h => by
    by_cases q : K m ≤ 5 ∧ P m = p
    · rw [b_lo_y q] at h
      have ht : i ∈ b_lo K P p t (c_o K m o) → i ∈ m :: t ∨ (i = o ∧ o ≠ -9) := fun g => by
        rcases b_lo_mem g with g | ⟨g, g2⟩
        · exact Or.inl (List.mem_cons_of_mem _ g)
        · unfold c_o at g g2
          split at g
          · exact Or.inl (by rw [g]; exact List.mem_cons_self)
          · split at g
            · rw [if_neg (by assumption), if_pos (by assumption)] at g2; exact absurd rfl g2
            · rw [if_neg (by assumption), if_neg (by assumption)] at g2; exact Or.inr ⟨g, g2⟩
      rcases List.mem_append.mp h with g | g
      · unfold c_l at g
        split at g
        · split at g
          · cases g
          · rw [List.mem_singleton] at g; exact Or.inr ⟨g, by assumption⟩
        · split at g
          · split at g
            · rw [List.mem_singleton] at g; exact Or.inl (by rw [g]; exact List.mem_cons_self)
            · cases g
          · cases g
      · exact ht g
    · rw [b_lo_n q] at h
      rcases b_lo_mem h with g | g
      · exact Or.inl (List.mem_cons_of_mem _ g)
      · exact Or.inr g
theorem pt_nodup {lt : Int → Int → Prop} (hir : ∀ x, ¬ lt x x) {E : List Int} (h : E.Pairwise (pt_lt lt)) : E.Nodup := by
  refine List.Pairwise.imp (fun {p q} g e => ?_) h
  subst e
  rcases g with g | ⟨_, g | ⟨_, g⟩⟩ <;> exact g.2.elim (fun q => g.1 q) (fun q => hir _ q.2)
theorem hin1_inj {lv : Int → Prop} {p q : Int} (hp : okp lv p) (hq : okp lv q) (h1 : f_hin p = 1) (h2 : f_hin q = 1) (h : f_head p 0 = f_head q 0) : p = q := by
  obtain ⟨a, b, c, ha, hb, hc, rfl⟩ := hp
  obtain ⟨a', b', c', ha', hb', hc', rfl⟩ := hq
  rw [hin3 ha.1 hb.1 hc.1] at h1
  rw [hin3 ha'.1 hb'.1 hc'.1] at h2
  rw [(hd3 ha.1 hb.1 hc.1).1, (hd3 ha'.1 hb'.1 hc'.1).1] at h
  have := ha.1; have := ha'.1
  have hc0 : c = 0 := by by_cases g : c = 0; exact g; rw [if_pos g] at h1; omega
  have hb0 : b = 0 := by by_cases g : b = 0; exact g; rw [if_neg (fun k => k hc0), if_pos g] at h1; omega
  have hc0' : c' = 0 := by by_cases g : c' = 0; exact g; rw [if_pos g] at h2; omega
  have hb0' : b' = 0 := by by_cases g : b' = 0; exact g; rw [if_neg (fun k => k hc0'), if_pos g] at h2; omega
  have : a = a' := by split at h <;> split at h <;> omega
  rw [this, hb0, hb0', hc0, hc0']
theorem okp_in {lv : Int → Prop} {p : Int} (h : okp lv p) : 0 ≤ p ∧ p ≤ 29790 := by
  obtain ⟨a, b, c, ha, hb, hc, rfl⟩ := h
  have := ha.1; have := hb.1; have := hc.1; omega
theorem o_irr {σ : k_St} {x od : Int} : ¬ o_rel σ x x od (-1) := fun h => by have := o_rel_u h (o_rel_anti h); omega
theorem o_asy {σ : k_St} {x y od : Int} (h : o_rel σ x y od (-1)) : ¬ o_rel σ y x od (-1) := fun g => by have := o_rel_u (o_rel_anti h) g; omega
