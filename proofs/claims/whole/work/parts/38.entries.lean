def pth_fr (a : Nat) (σ τ : k_St) : Prop := (∀ c, c ≠ a + 1 → τ.1 c = σ.1 c) ∧ (∀ c j, ¬ (c = a ∧ j = 0) → τ.2.1 c j = σ.2.1 c j) ∧ τ.2.2 = σ.2.2
theorem pth_fr_r {a : Nat} {σ : k_St} : pth_fr a σ σ := ⟨fun _ _ => rfl, fun _ _ _ => rfl, rfl⟩
theorem pth_fr_t {a : Nat} {σ τ ρ : k_St} (h : pth_fr a σ τ) (g : pth_fr a τ ρ) : pth_fr a σ ρ := ⟨fun c q => (g.1 c q).trans (h.1 c q), fun c j q => (g.2.1 c j q).trans (h.2.1 c j q), g.2.2.trans h.2.2⟩
/-- all below 48 is as it was -/
def lo_fr (σ τ : k_St) : Prop := (∀ c, c < 48 → τ.1 c = σ.1 c) ∧ (∀ c j, c < 48 → τ.2.1 c j = σ.2.1 c j)
theorem pth_lo {a : Nat} {σ τ : k_St} (ha : 48 ≤ a) (h : pth_fr a σ τ) : lo_fr σ τ := ⟨fun c hc => h.1 c (by omega), fun c j hc => h.2.1 c j (by omega)⟩
theorem m_wf_lo {σ τ : k_St} (h : lo_fr σ τ) (hw : m_wf σ 16) : m_wf τ 16 := m_wf_congr (h.1 _ (by omega)) (h.1 _ (by omega)) (h.1 _ (by omega)) (h.1 _ (by omega)) (h.1 _ (by omega)) (h.2 _ _ (by omega)) hw
theorem m_epath_lo {σ τ : k_St} (h : lo_fr σ τ) (x : Int) : m_epath τ x = m_epath σ x := by unfold m_epath; rw [h.1 21 (by omega), h.1 17 (by omega), h.1 19 (by omega), h.2 16 5 (by omega)]
theorem v_ins {F : Int → Int} {P S : List Int} {N p q : Int} (h : v_seg F 0 (P ++ S)) (hN : N = (P ++ S).length) (hp : p = P.length) : v_seg (j_up (j_cpy F F p (p + 1) (N - p)) p q) 0 (P ++ q :: S) := by
  rw [v_seg_app] at h ⊢
  rw [List.length_append] at hN
  refine ⟨v_seg_congr (fun j j0 j1 => by rw [j_upN (by omega)]; unfold j_cpy; rw [if_neg (by omega)]) h.1, ?_⟩
  rw [show (0 : Int) + P.length = p by omega] at h ⊢
  refine ⟨j_upS, ?_⟩
  have : ∀ (S : List Int) (i : Int), p ≤ i → i + S.length ≤ N → v_seg F i S → v_seg (j_up (j_cpy F F p (p + 1) (N - p)) p q) (i + 1) S := by
    intro S
    induction S with
    | nil => intros; trivial
    | cons x t ih =>
      intro i h1 h2 h3
      rw [List.length_cons] at h2
      refine ⟨?_, ih (i + 1) (by omega) (by omega) h3.2⟩
      rw [j_upN (by omega)]; unfold j_cpy; rw [if_pos (by omega), ← h3.1]; congr 1; omega
  exact this S p (by omega) (by omega) h.2
theorem i_wf_ins {σ : k_St} {a : Nat} {q p : Int} (hw : i_wf σ a) (hq : 0 ≤ q ∧ q ≤ 29790) (h15 : σ.2.1 a 0 < 150) : i_wf (i_ins σ a q p) a := by
  obtain ⟨hc, hpc, hlc, hlo, hv⟩ := hw
  unfold i_ins
  refine ⟨?_, ?_, ?_, ?_, fun e => ?_⟩
  · rw [k_II]; omega
  · rw [k_IN (by omega)]; exact hpc
  · rw [k_IN (by omega)]; exact hlc
  · rw [k_IN (by omega)]; exact hlo
  · rw [k_I1, k_AA, k_AN (by omega), k_AN (by omega), k_AN (by omega), k_AN (by omega), k_AN (by omega)]
    have h := hv e
    refine ⟨?_, h.2⟩
    unfold j_up j_cpy
    split
    · exact hq
    · split
      · exact (hv _).1
      · exact h.1
def ap_post (n : Nat) (σ : k_St) (a : Nat) (q : Int) (l : List Int) : k_P := fun v n' τ => v = none ∧ n' = n ∧ pth_fr a σ τ ∧ i_wf τ a ∧ ∃ z : List Int, τ.2.1 a 0 = (z.length : Int) ∧ v_seg (τ.1 (a + 1)) 0 z ∧ z.Pairwise (· < ·) ∧ (∀ x, x ∈ z ↔ x ∈ l ∨ (x = q ∧ 0 < q)) ∧ z.length ≤ l.length + 1
set_option maxHeartbeats 4000000 in
theorem s_addPathL {G : j_G} {X : k_X} {n : Nat} {σ : k_St} {a : Nat} (hA : i_at X n a) (hw : i_wf σ a) {q : Int} (hq : 0 ≤ q ∧ q ≤ 29790) {l : List Int} (h15 : l.length < 150) (hc : σ.2.1 a 0 = (l.length : Int)) (hs : v_seg (σ.1 (a + 1)) 0 l) (hp : l.Pairwise (· < ·)) : k_run G X mX3_addPath [.ref a, j_i q] n σ 0 0 (ap_post n σ a q l) := by
  refine k_post (fun v n' τ h => ?_) (s_addPath hA hw (q := q) (by omega) (by omega))
  obtain ⟨rfl, rfl, h⟩ := h
  refine ⟨rfl, rfl, ?_⟩
  rcases h with ⟨rfl, h⟩ | ⟨hq0, p, p0, p1, p2, p3, rfl⟩
  · refine ⟨pth_fr_r, hw, l, hc, hs, hp, fun x => ⟨Or.inl, ?_⟩, by omega⟩
    rintro (hx | ⟨rfl, hx⟩)
    · exact hx
    · rcases h with h | ⟨e, e0, e1, e2⟩
      · omega
      · exact (v_seg_mem hs).mpr ⟨e, e0, by omega, e2⟩
  · refine ⟨⟨fun c hc => ?_, fun c j hcj => ?_, rfl⟩, i_wf_ins hw hq (by omega), l.take p.toNat ++ q :: l.drop p.toNat, ?_, ?_, ?_, fun x => ?_, ?_⟩
    · unfold i_ins; rw [k_I1, k_AN hc]
    · unfold i_ins; rw [k_IN hcj]; rfl
    · unfold i_ins; rw [k_II, hc, List.length_append, List.length_cons, List.length_take, List.length_drop]; omega
    · unfold i_ins; rw [k_I1, k_AA, hc]
      exact v_ins (by rw [List.take_append_drop]; exact hs) (by rw [List.take_append_drop]) (by rw [List.length_take]; omega)
    · have hl := hp
      rw [← List.take_append_drop p.toNat l, List.pairwise_append] at hl
      have hgt : ∀ y ∈ l.drop p.toNat, q < y := fun y hy => by
        obtain ⟨i, hi, e⟩ := List.getElem_of_mem hy
        rw [List.length_drop] at hi
        rw [List.getElem_drop] at e
        have := v_seg_get (k := p.toNat + i) (by omega) hs
        rw [e] at this
        rw [← this]; exact p2 _ (by omega) (by omega)
      have hlt : ∀ y ∈ l.take p.toNat, y < q := fun y hy => by
        obtain ⟨i, hi, e⟩ := List.getElem_of_mem hy
        rw [List.length_take] at hi
        rw [List.getElem_take] at e
        rcases p3 with p3 | p3
        · omega
        · have hk : (p - 1).toNat < l.length := by omega
          have h1 := v_seg_get hk hs
          rw [show (0 : Int) + (p - 1).toNat = p - 1 by omega] at h1
          rw [h1] at p3
          rcases (show i = (p - 1).toNat ∨ i < (p - 1).toNat by omega) with h | h
          · subst h; rw [← e]; exact p3
          · have := List.pairwise_iff_getElem.mp hp i (p - 1).toNat (by omega) hk h
            rw [e] at this; omega
      rw [List.pairwise_append]
      refine ⟨hl.1, List.pairwise_cons.mpr ⟨hgt, hl.2.1⟩, fun x hx y hy => ?_⟩
      rcases List.mem_cons.mp hy with h | h
      · rw [h]; exact hlt x hx
      · exact hl.2.2 x hx y h
    · rw [List.mem_append, List.mem_cons]
      have : x ∈ l ↔ x ∈ l.take p.toNat ∨ x ∈ l.drop p.toNat := by rw [← List.mem_append, List.take_append_drop]
      rw [this]
      constructor
      · rintro (h | h | h)
        · exact Or.inl (Or.inl h)
        · exact Or.inr ⟨h, hq0⟩
        · exact Or.inl (Or.inr h)
      · rintro ((h | h) | ⟨h, _⟩)
        · exact Or.inl h
        · exact Or.inr (Or.inr h)
        · exact Or.inr (Or.inl h)
    · rw [List.length_append, List.length_cons, List.length_take, List.length_drop]; omega
/-- q is the path of an entry that mark m makes, or one around it; T: the ranks -/
def e_pre (T : Int → Int) (p q : Int) : Prop := 0 < q ∧ (q = f_tr T p ∨ q = f_aro (f_tr T p) ∨ q = f_aro (f_aro (f_tr T p)))
theorem f_ti_hd {T : Int → Int} (hT : ∀ i : Int, 0 ≤ T i ∧ T i ≤ 29) (h : Int) : f_hd (f_ti T h) := by unfold f_ti f_hd; split; exact Or.inl rfl; exact Or.inr (hT _)
theorem f_tr_in {T : Int → Int} (hT : ∀ i : Int, 0 ≤ T i ∧ T i ≤ 29) (p : Int) : 0 ≤ f_tr T p ∧ f_tr T p ≤ 29790 := f_path_in (f_ti_hd hT _) (f_ti_hd hT _) (f_ti_hd hT _)
theorem m_epath_in {σ : k_St} (hw : m_wf σ 16) (x : Int) : 0 ≤ m_epath σ x ∧ m_epath σ x ≤ 29790 := by
  unfold m_epath
  split
  · rename_i h
    split
    · exact f_path_in (f_head_hd _ _) (Or.inl rfl) (Or.inl rfl)
    · exact (hw.2.2 x h.1 h.2.1).2.2.1
  · omega
def ae_post (n : Nat) (σ : k_St) (a : Nat) (lm : List Int) : k_P := fun v n' τ => v = none ∧ n' = n ∧ pth_fr a σ τ ∧ i_wf τ a ∧ ∃ l : List Int, τ.2.1 a 0 = (l.length : Int) ∧ v_seg (τ.1 (a + 1)) 0 (l.map (f_tr (σ.1 41))) ∧ l.Pairwise (· < ·) ∧ (∀ q, q ∈ l ↔ ∃ m ∈ lm, e_pre (σ.1 40) (m_epath σ m) q) ∧ l.length ≤ 150
theorem v_seg_get? {F : Int → Int} {l : List Int} {i : Int} (h : v_seg F 0 l) (h0 : 0 ≤ i) (h1 : i < l.length) : l[i.toNat]? = some (F i) := by
  have hk : i.toNat < l.length := by omega
  rw [List.getElem?_eq_getElem hk, ← v_seg_get hk h]; congr 2; omega
theorem v_seg_of {F : Int → Int} : ∀ {l : List Int} {i : Int}, (∀ k : Nat, (h : k < l.length) → F (i + k) = l[k]) → v_seg F i l
  | [], _, _ => trivial
  | x :: t, i, h => ⟨by have h9 := h 0 (Nat.zero_lt_succ _); rw [List.getElem_cons_zero] at h9; rw [← h9]; congr 1; omega, v_seg_of (fun k hk => by have := h (k + 1) (by simpa using hk); rw [List.getElem_cons_succ] at this; rw [← this]; congr 1; omega)⟩
set_option maxHeartbeats 4000000 in
theorem l_ae66 {G : j_G} {X : k_X} {n : Nat} {σ : k_St} (hn : 101 ≤ n) (hw : m_wf σ 16) (hrg : rk_rg σ) {a : Nat} (ha : a = 48 ∨ a = 58) (hA : i_at X n a) {l : List Int} {lm : List Int} (hl5 : l.length ≤ 150) (hsl : v_seg (σ.1 (a + 1)) 0 l) (hp : l.Pairwise (· < ·)) (hin : ∀ q ∈ l, 0 ≤ q ∧ q ≤ 29790) {ρ : k_St} (hρ : pth_fr a ρ σ) (hmem : ∀ q, q ∈ l ↔ ∃ m ∈ lm, e_pre (ρ.1 40) (m_epath ρ m) q)  : ∀ (m : Nat) (k : Int) (τ : k_St), (l.length : Int) - k < (m : Int) → 0 ≤ k → k ≤ l.length → pth_fr a σ τ → τ.2.1 a 0 = (l.length : Int) → i_wf τ a → (∀ j, 0 ≤ j → j < k → τ.1 (a + 1) j = f_tr (σ.1 41) (σ.1 (a + 1) j)) → (∀ j, k ≤ j → τ.1 (a + 1) j = σ.1 (a + 1) j) → j_at G mX6_addEntries 66 [(0, .ref 39), (1, .ref a), (2, j_i k)] [] (k_h X n τ) 0 0 (k_Q X (ae_post n ρ a lm)) := by
  intro m
  induction m with
  | zero => intro k τ h1 h2 h3; exact absurd h1 (by omega)
  | succ m ih =>
    intro k τ hk h0 hN hf hc hwt hdone hrest
    have hqi : k < l.length → 0 ≤ σ.1 (a + 1) k ∧ σ.1 (a + 1) k ≤ 29790 := fun h => by
      have hk9 : k.toNat < l.length := by omega
      have e9 := v_seg_get hk9 hsl
      rw [show (0 : Int) + k.toNat = k by omega] at e9
      rw [e9]; exact hin _ (List.getElem_mem _)
    obtain ⟨h5, hs0, hs1, hs2, hs3, hs4, hs5, hs6, hs7⟩ := id hA
    refine a_iload_n (pc := 66) (i := 2) (by decide +kernel) rfl ?_
    refine a_aload_n (pc := 67) (i := 1) (by decide +kernel) rfl ?_
    refine b_getI (pc := 68) fl_X6_102 (by decide +kernel) hs0 rfl ?_
    rw [show τ.2.1 a 0 = (l.length : Int) from hc]
    refine a_icmp_ge (pc := 71) (off := 28) (tgt := 99) (by decide +kernel) (by decide) (by omega) (by omega) (fun c71 => ?_) (fun c71 => ?_)
    · refine a_return (pc := 99) (by decide +kernel) rfl ?_
      refine k_ret ?_
      refine ⟨rfl, rfl, pth_fr_t hρ hf, hwt, l, hc, ?_, hp, hmem, hl5⟩
      rw [← hρ.1 41 (by omega)]
      refine v_seg_of (fun i hi => ?_)
      rw [List.length_map] at hi
      rw [show (0 : Int) + (i : Int) = i by omega, hdone i (by omega) (by omega), List.getElem_map, ← v_seg_get hi hsl, show (0 : Int) + (i : Int) = i by omega]
    · refine a_aload_n (pc := 74) (i := 1) (by decide +kernel) rfl ?_
      refine b_getR (pc := 75) (b := a + 1) fl_X6_165 (by decide +kernel) hs0 rfl ?_
      refine a_iload_n (pc := 78) (i := 2) (by decide +kernel) rfl ?_
      refine a_aload_n (pc := 79) (i := 1) (by decide +kernel) rfl ?_
      refine b_getR (pc := 80) (b := a + 1) fl_X6_165 (by decide +kernel) hs0 rfl ?_
      refine a_iload_n (pc := 83) (i := 2) (by decide +kernel) rfl ?_
      refine b_iaload (pc := 84) (by decide +kernel) hs1 (by omega) (by omega) (by omega) ?_
      rw [hrest k (by omega)]
      refine a_aload_n (pc := 85) (i := 0) (by decide +kernel) rfl ?_
      refine b_getR (pc := 86) (b := 41) fl_X6_15 (by decide +kernel) (sh_39 hn) rfl ?_
      refine b_pureS (pc := 89) [j_i (σ.1 (a + 1) k), .ref 41] [j_i k, .ref (a + 1)] ml_X6_155 (by decide +kernel) rfl rfl (Nat.le_of_ble_eq_true rfl) (j_fitI rfl rfl) (s_trans hn (by decide) (fun i _ _ => by rw [hf.1 41 (by omega)]; have := (hrg i).2; omega) (by omega)) ?_
      rw [hf.1 41 (by omega)]
      have qt := f_tr_in (fun i => (hrg i).2) (σ.1 (a + 1) k)
      show j_at _ _ _ [(0, .ref 39), (1, .ref a), (2, j_i k)] [j_i (f_tr (σ.1 41) (σ.1 (a + 1) k)), j_i k, .ref (a + 1)] _ _ _ _
      refine b_iastore (pc := 92) (by decide +kernel) hs1 (by omega) (by omega) (by omega) ?_
      obtain ⟨σ1, hσ1⟩ : ∃ z, z = k_sA τ (a + 1) (j_up (τ.1 (a + 1)) k (f_tr (σ.1 41) (σ.1 (a + 1) k))) := ⟨_, rfl⟩
      rw [← hσ1]
      refine a_iinc (pc := 93) (i := 2) (n := 1) (x := k) (lv' := [(0, .ref 39), (1, .ref a), (2, j_i (k + 1))]) (by decide +kernel) rfl (Nat.le_of_ble_eq_true rfl) rfl ?_
      refine a_goto (pc := 96) (off := -30) (tgt := 66) (by decide +kernel) (by decide) ?_
      have ea : σ1.1 (a + 1) = j_up (τ.1 (a + 1)) k (f_tr (σ.1 41) (σ.1 (a + 1) k)) := by rw [hσ1, k_AA]
      refine ih (k + 1) σ1 (by omega) (by omega) (by omega) ⟨fun c hc9 => by rw [hσ1, k_AN hc9]; exact hf.1 c hc9, by rw [hσ1]; exact hf.2.1, by rw [hσ1]; exact hf.2.2⟩ (by rw [hσ1]; exact hc) ?_ (fun j j0 j1 => ?_) (fun j j0 => ?_)
      · have hw8 := hwt
        obtain ⟨a1, a2, a3, a4, a5⟩ := hw8
        refine ⟨by rw [hσ1]; exact a1, by rw [hσ1]; exact a2, by rw [hσ1]; exact a3, by rw [hσ1]; exact a4, fun e => ?_⟩
        rw [ea, hσ1, k_AN (by omega), k_AN (by omega), k_AN (by omega), k_AN (by omega), k_AN (by omega)]
        refine ⟨?_, (a5 e).2⟩
        unfold j_up; split
        · exact qt
        · exact (a5 e).1
      · rw [ea]
        by_cases hj : j = k
        · rw [hj, j_upS]
        · rw [j_upN hj]; exact hdone j j0 (by omega)
      · rw [ea, j_upN (by omega)]; exact hrest j (by omega)
set_option maxHeartbeats 4000000 in
theorem l_ae2 {G : j_G} {X : k_X} {n : Nat} {σ : k_St} (hn : 101 ≤ n) (hw : m_wf σ 16) (hrg : rk_rg σ) {a : Nat} (ha : a = 48 ∨ a = 58) (hA : i_at X n a) {lm : List Int} (hlm : ∀ x ∈ lm, m_is σ x) (hlm5 : lm.length ≤ 50) (hli : σ.2.1 39 6 = (lm.length : Int))  : ∀ (t dn : List Int) (k : Int) (l : List Int) (τ : k_St), lm = dn ++ t → k = dn.length → v_seg (σ.1 42) k t → pth_fr a σ τ → i_wf τ a → τ.2.1 a 0 = (l.length : Int) → v_seg (τ.1 (a + 1)) 0 l → l.Pairwise (· < ·) → (∀ q, q ∈ l ↔ ∃ m ∈ dn, e_pre (σ.1 40) (m_epath σ m) q) → (l.length : Int) ≤ 3 * k → j_at G mX6_addEntries 2 [(0, .ref 39), (1, .ref a), (2, j_i k)] [] (k_h X n τ) 0 0 (k_Q X (ae_post n σ a lm)) := by
  intro t
  induction t with
  | nil =>
    intro dn k l τ hdn hkd ht hf hwt hc hs hp hS hl3
    have hlen : (lm.length : Int) = (dn.length : Int) := by rw [hdn]; simp
    obtain ⟨h5, hs0, hs1, hs2, hs3, hs4, hs5, hs6, hs7⟩ := id hA
    refine a_iload_n (pc := 2) (i := 2) (by decide +kernel) rfl ?_
    refine a_aload_n (pc := 3) (i := 0) (by decide +kernel) rfl ?_
    refine b_getI (pc := 4) fl_X6_25 (by decide +kernel) (sh_39 hn) rfl ?_
    rw [show τ.2.1 39 6 = σ.2.1 39 6 from hf.2.1 39 6 (by omega)]
    refine a_icmp_ge (pc := 7) (off := 57) (tgt := 64) (by decide +kernel) (by decide) (by omega) (by omega) (fun c7 => ?_) (fun c7 => ?_)
    · refine a_iconst (pc := 64) (n := 0) (by decide +kernel) ?_
      refine a_istore_n (pc := 65) (i := 2) (lv' := [(0, .ref 39), (1, .ref a), (2, j_i 0)]) (by decide +kernel) (Nat.le_of_ble_eq_true rfl) rfl ?_
      have hdl : dn = lm := by rw [hdn]; simp
      rw [hdl] at hS
      exact l_ae66 hn (m_wf_lo (pth_lo (by omega) hf) hw) (fun i => by rw [hf.1 40 (by omega), hf.1 41 (by omega)]; exact hrg i) ha hA (by omega) hs hp (fun q hq => by obtain ⟨y, y1, y2, y3⟩ := (hS q).mp hq; have := f_tr_in (fun i => (hrg i).1) (m_epath σ y); have h8 := f_aro_in this; have h9 := f_aro_in h8; rcases y3 with y3 | y3 | y3 <;> rw [y3] <;> assumption) hf hS 151 0 τ (by omega) (by omega) (by omega) pth_fr_r hc hwt (fun j j0 j1 => absurd j0 (by omega)) (fun j _ => rfl)
    · exfalso; rw [hli] at c7; omega
  | cons x t ih =>
    intro dn k l τ hdn hkd ht hf hwt hc hs hp hS hl3
    have hx := hlm x (by rw [hdn]; simp)
    have hx5 := m_is_50 hw hx
    have hx0 := hx.1
    have hlen : (lm.length : Int) = (dn.length : Int) + 1 + t.length := by rw [hdn]; simp; omega
    have hs42 : τ.1 42 k = x := by rw [hf.1 42 (by omega)]; exact ht.1
    have hs42' : σ.1 42 k = x := ht.1
    obtain ⟨ep, hep⟩ : ∃ z, z = m_epath σ x := ⟨_, rfl⟩
    have hepi := m_epath_in hw x
    rw [← hep] at hepi
    obtain ⟨h5, hs0, hs1, hs2, hs3, hs4, hs5, hs6, hs7⟩ := id hA
    refine a_iload_n (pc := 2) (i := 2) (by decide +kernel) rfl ?_
    refine a_aload_n (pc := 3) (i := 0) (by decide +kernel) rfl ?_
    refine b_getI (pc := 4) fl_X6_25 (by decide +kernel) (sh_39 hn) rfl ?_
    rw [show τ.2.1 39 6 = σ.2.1 39 6 from hf.2.1 39 6 (by omega)]
    refine a_icmp_ge (pc := 7) (off := 57) (tgt := 64) (by decide +kernel) (by decide) (by omega) (by omega) (fun c7 => ?_) (fun c7 => ?_)
    · exfalso; rw [hli] at c7; omega
    · refine a_aload_n (pc := 10) (i := 0) (by decide +kernel) rfl ?_
      refine b_getR (pc := 11) (b := 6) fl_X6_54 (by decide +kernel) (sh_39 hn) rfl ?_
      refine b_getR (pc := 14) (b := 16) fl_X6_131 (by decide +kernel) (sh_6 hn) rfl ?_
      refine a_aload_n (pc := 17) (i := 0) (by decide +kernel) rfl ?_
      refine b_getR (pc := 18) (b := 42) fl_X6_22 (by decide +kernel) (sh_39 hn) rfl ?_
      refine a_iload_n (pc := 21) (i := 2) (by decide +kernel) rfl ?_
      refine b_iaload (pc := 22) (by decide +kernel) (sh_42 hn) (by omega) (by omega) (by omega) ?_
      rw [show τ.1 42 = σ.1 42 from hf.1 42 (by omega)]
      rw [hs42']
      refine b_pureV (pc := 23) [j_i x] [] ml_X6_152 (by decide +kernel) rfl rfl (sh_16 hn) rfl rfl (Nat.le_of_ble_eq_true rfl) (j_fitI rfl rfl) (s_entryPath hn (m_wf_lo (pth_lo (by omega) hf) hw) (by omega)) ?_
      rw [m_epath_lo (pth_lo (by omega) hf), ← hep]
      show j_at _ _ _ [(0, .ref 39), (1, .ref a), (2, j_i k)] [j_i ep] _ _ _ _
      refine a_aload_n (pc := 26) (i := 0) (by decide +kernel) rfl ?_
      refine b_getR (pc := 27) (b := 40) fl_X6_9 (by decide +kernel) (sh_39 hn) rfl ?_
      refine b_pureS (pc := 30) [j_i ep, .ref 40] [] ml_X6_155 (by decide +kernel) rfl rfl (Nat.le_of_ble_eq_true rfl) (j_fitI rfl rfl) (s_trans hn (by decide) (fun i _ _ => by rw [hf.1 40 (by omega)]; have := (hrg i).1; omega) (by omega)) ?_
      rw [hf.1 40 (by omega)]
      have qt := f_tr_in (fun i => (hrg i).1) ep
      show j_at _ _ _ [(0, .ref 39), (1, .ref a), (2, j_i k)] [j_i (f_tr (σ.1 40) ep)] _ _ _ _
      refine a_istore_n (pc := 33) (i := 3) (lv' := [(0, .ref 39), (1, .ref a), (2, j_i k), (3, j_i (f_tr (σ.1 40) ep))]) (by decide +kernel) (Nat.le_of_ble_eq_true rfl) rfl ?_
      refine a_aload_n (pc := 34) (i := 1) (by decide +kernel) rfl ?_
      refine a_iload_n (pc := 35) (i := 3) (by decide +kernel) rfl ?_
      refine b_callV (pc := 36) (c' := 0) (sl' := 0) [j_i (f_tr (σ.1 40) ep)] [] ml_X6_159 (by decide +kernel) rfl rfl hs0 rfl rfl (Nat.le_of_ble_eq_true rfl) (j_fitI rfl rfl) (s_addPathL hA hwt (by omega) (by omega) hc hs hp) (fun v n' σ' hq => ?_)
      obtain ⟨σ1, hσ1⟩ : ∃ z, z = σ' := ⟨_, rfl⟩
      rw [← hσ1] at hq ⊢
      obtain ⟨rfl, e1, fσ1, wσ1, Lσ1, cσ1, sσ1, pσ1, mσ1, nσ1⟩ := hq
      rw [e1]; clear e1
      have Fσ1 := pth_fr_t hf fσ1
      show j_at _ _ _ [(0, .ref 39), (1, .ref a), (2, j_i k), (3, j_i (f_tr (σ.1 40) ep))] [] _ _ _ _
      refine a_aload_n (pc := 39) (i := 1) (by decide +kernel) rfl ?_
      refine a_iload_n (pc := 40) (i := 3) (by decide +kernel) rfl ?_
      refine b_pureS (pc := 41) [j_i (f_tr (σ.1 40) ep)] [.ref a] ml_X6_162 (by decide +kernel) rfl rfl (Nat.le_of_ble_eq_true rfl) (j_fitI rfl rfl) (s_around (by omega)) ?_
      have qa2 := f_aro_in (p := f_tr (σ.1 40) ep) (by omega)
      show j_at _ _ _ [(0, .ref 39), (1, .ref a), (2, j_i k), (3, j_i (f_tr (σ.1 40) ep))] [j_i (f_aro (f_tr (σ.1 40) ep)), .ref a] _ _ _ _
      refine b_callV (pc := 44) (c' := 0) (sl' := 0) [j_i (f_aro (f_tr (σ.1 40) ep))] [] ml_X6_159 (by decide +kernel) rfl rfl hs0 rfl rfl (Nat.le_of_ble_eq_true rfl) (j_fitI rfl rfl) (s_addPathL hA wσ1 (by omega) (by omega) cσ1 sσ1 pσ1) (fun v n' σ' hq => ?_)
      obtain ⟨σ3, hσ3⟩ : ∃ z, z = σ' := ⟨_, rfl⟩
      rw [← hσ3] at hq ⊢
      obtain ⟨rfl, e1, fσ3, wσ3, Lσ3, cσ3, sσ3, pσ3, mσ3, nσ3⟩ := hq
      rw [e1]; clear e1
      have Fσ3 := pth_fr_t Fσ1 fσ3
      show j_at _ _ _ [(0, .ref 39), (1, .ref a), (2, j_i k), (3, j_i (f_tr (σ.1 40) ep))] [] _ _ _ _
      refine a_aload_n (pc := 47) (i := 1) (by decide +kernel) rfl ?_
      refine a_iload_n (pc := 48) (i := 3) (by decide +kernel) rfl ?_
      refine b_pureS (pc := 49) [j_i (f_tr (σ.1 40) ep)] [.ref a] ml_X6_162 (by decide +kernel) rfl rfl (Nat.le_of_ble_eq_true rfl) (j_fitI rfl rfl) (s_around (by omega)) ?_
      have qa4 := f_aro_in (p := f_tr (σ.1 40) ep) (by omega)
      show j_at _ _ _ [(0, .ref 39), (1, .ref a), (2, j_i k), (3, j_i (f_tr (σ.1 40) ep))] [j_i (f_aro (f_tr (σ.1 40) ep)), .ref a] _ _ _ _
      refine b_pureS (pc := 52) [j_i (f_aro (f_tr (σ.1 40) ep))] [.ref a] ml_X6_162 (by decide +kernel) rfl rfl (Nat.le_of_ble_eq_true rfl) (j_fitI rfl rfl) (s_around (by omega)) ?_
      have qa5 := f_aro_in (p := f_aro (f_tr (σ.1 40) ep)) (by omega)
      show j_at _ _ _ [(0, .ref 39), (1, .ref a), (2, j_i k), (3, j_i (f_tr (σ.1 40) ep))] [j_i (f_aro (f_aro (f_tr (σ.1 40) ep))), .ref a] _ _ _ _
      refine b_callV (pc := 55) (c' := 0) (sl' := 0) [j_i (f_aro (f_aro (f_tr (σ.1 40) ep)))] [] ml_X6_159 (by decide +kernel) rfl rfl hs0 rfl rfl (Nat.le_of_ble_eq_true rfl) (j_fitI rfl rfl) (s_addPathL hA wσ3 (by omega) (by omega) cσ3 sσ3 pσ3) (fun v n' σ' hq => ?_)
      obtain ⟨σ6, hσ6⟩ : ∃ z, z = σ' := ⟨_, rfl⟩
      rw [← hσ6] at hq ⊢
      obtain ⟨rfl, e1, fσ6, wσ6, Lσ6, cσ6, sσ6, pσ6, mσ6, nσ6⟩ := hq
      rw [e1]; clear e1
      have Fσ6 := pth_fr_t Fσ3 fσ6
      show j_at _ _ _ [(0, .ref 39), (1, .ref a), (2, j_i k), (3, j_i (f_tr (σ.1 40) ep))] [] _ _ _ _
      refine a_iinc (pc := 58) (i := 2) (n := 1) (x := k) (lv' := [(0, .ref 39), (1, .ref a), (2, j_i (k + 1)), (3, j_i (f_tr (σ.1 40) ep))]) (by decide +kernel) rfl (Nat.le_of_ble_eq_true rfl) rfl ?_
      refine a_goto (pc := 61) (off := -59) (tgt := 2) (by decide +kernel) (by decide) ?_
      refine a_sub (pc := 2) (lv' := [(0, .ref 39), (1, .ref a), (2, j_i (k + 1))]) (fun q hq => by simp only [List.mem_cons, List.not_mem_nil, or_false] at hq ⊢; rcases hq with rfl | rfl | rfl <;> simp) (ih (dn ++ [x]) (k + 1) Lσ6 σ6 (by rw [hdn]; simp) (by simp; omega) ht.2 Fσ6 wσ6 cσ6 sσ6 pσ6 (fun q => ?_) (by omega))
      rw [mσ6 q, mσ3 q, mσ1 q, hS q]
      constructor
      · rintro (((⟨y, y1, y2⟩ | ⟨y1, y2⟩) | ⟨y1, y2⟩) | ⟨y1, y2⟩)
        · exact ⟨y, List.mem_append_left _ y1, y2⟩
        · exact ⟨x, by simp, by rw [y1]; exact y2, by rw [← hep]; exact Or.inl y1⟩
        · exact ⟨x, by simp, by rw [y1]; exact y2, by rw [← hep]; exact Or.inr (Or.inl y1)⟩
        · exact ⟨x, by simp, by rw [y1]; exact y2, by rw [← hep]; exact Or.inr (Or.inr y1)⟩
      · rintro ⟨y, y1, y2, y3⟩
        rcases List.mem_append.mp y1 with y1 | y1
        · exact Or.inl (Or.inl (Or.inl ⟨y, y1, y2, y3⟩))
        · rw [List.mem_singleton.mp y1, ← hep] at y3
          rcases y3 with y3 | y3 | y3
          · exact Or.inl (Or.inl (Or.inr ⟨y3, by rw [← y3]; exact y2⟩))
          · exact Or.inl (Or.inr ⟨y3, by rw [← y3]; exact y2⟩)
          · exact Or.inr ⟨y3, by rw [← y3]; exact y2⟩
set_option maxHeartbeats 4000000 in
theorem s_addEntries {G : j_G} {X : k_X} {n : Nat} {σ : k_St} (hn : 101 ≤ n) (hw : m_wf σ 16) (hrg : rk_rg σ) {a : Nat} (ha : a = 48 ∨ a = 58) (hA : i_at X n a) {lm : List Int} (hlm : ∀ x ∈ lm, m_is σ x) (hlm5 : lm.length ≤ 50) (hli : σ.2.1 39 6 = (lm.length : Int)) (hsl : v_seg (σ.1 42) 0 lm) (hwi : i_wf σ a) (hc0 : σ.2.1 a 0 = 0) : k_run G X mX6_addEntries [.ref 39, .ref a] n σ 0 0 (ae_post n σ a lm) := by
  refine k_enter (by decide +kernel) (Nat.le_of_ble_eq_true rfl) ?_
  show j_at _ _ _ [(0, .ref 39), (1, .ref a)] [] _ _ _ _
  refine a_iconst (pc := 0) (n := 0) (by decide +kernel) ?_
  refine a_istore_n (pc := 1) (i := 2) (lv' := [(0, .ref 39), (1, .ref a), (2, j_i 0)]) (by decide +kernel) (Nat.le_of_ble_eq_true rfl) rfl ?_
  exact l_ae2 hn hw hrg ha hA hlm hlm5 hli lm [] 0 [] σ rfl rfl hsl pth_fr_r hwi hc0 trivial List.Pairwise.nil (fun q => by simp) (by simp)
