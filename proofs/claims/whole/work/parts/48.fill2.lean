/-- the leads of entry e, whose path is p -/
def LD (σ : k_St) (a : Nat) (lm lr : List Int) (F3 F5 : Int → Int) (e p : Int) : Prop := ∃ L : List (Int × Int), g_seg F5 (pst F3 e) L ∧ F3 e = pst F3 e + L.length ∧ ld_spec σ lm lr p (i_body σ a e) L
def LI (σ : k_St) (a : Nat) (lm lr : List Int) (dn : List Int) (τ : k_St) : Prop := ad_fr a σ τ ∧ i_wf τ a ∧ τ.2.1 a 7 = pst (τ.1 (a + 3)) dn.length ∧ ∀ (e : Nat) (h : e < dn.length), LD σ a lm lr (τ.1 (a + 3)) (τ.1 (a + 5)) e dn[e] ∧ τ.1 (a + 3) e ≤ τ.2.1 a 7
theorem ld_spec_len {σ : k_St} {lm lr : List Int} {p : Int} {bd : Prop} {L : List (Int × Int)} (hnd : lr.Nodup) (h : ld_spec σ lm lr p bd L) : (L.length : Int) ≤ if f_hin p = 1 then b_l (σ.1 17) (σ.1 19) (f_head p 0) lm else 0 := by
  rcases h with ⟨h1, h2⟩ | ⟨h1, F, h2, al, _, h3⟩
  · rw [if_neg h1, h2]; simp
  · rw [if_pos h1, h3, List.length_append, List.length_map, List.length_map]
    have := ld_len hnd h2
    omega
theorem ld_spec_cg {σ τ : k_St} {lm lr : List Int} {p : Int} {bd bd' : Prop} {L : List (Int × Int)} (h17 : τ.1 17 = σ.1 17) (h19 : τ.1 19 = σ.1 19) (hb : bd ↔ bd') : ld_spec τ lm lr p bd L ↔ ld_spec σ lm lr p bd' L := by
  unfold ld_spec; rw [h17, h19]; simp only [hb]
theorem LI_step {σ τ τ' : k_St} {a : Nat} (ha : a = 48 ∨ a = 58) {lm lr : List Int} {p : Int} {dn : List Int} {n n' : Nat} {v : Option Value} (hnd : lr.Nodup) (h : LI σ a lm lr dn τ) (hq : ad_post n τ a dn.length p lm lr v n' τ') : LI σ a lm lr (dn ++ [p]) τ' ∧ τ'.2.1 a 7 ≤ τ.2.1 a 7 + (if f_hin p = 1 then b_l (σ.1 17) (σ.1 19) (f_head p 0) lm else 0) := by
  obtain ⟨h1, h2, h6, h7⟩ := h
  obtain ⟨_, _, q1, q2, q4, q5, L, q6, q7, q8⟩ := hq
  have e17 : τ.1 17 = σ.1 17 := h1.1 17 (by omega) (by omega) (by omega)
  have e19 : τ.1 19 = σ.1 19 := h1.1 19 (by omega) (by omega) (by omega)
  rw [ld_spec_cg e17 e19 (i_body_ad ha h1)] at q8
  refine ⟨⟨ad_fr_t h1 q1, q2, ?_, fun e he => ?_⟩, by rw [q6]; have := ld_spec_len hnd q8; omega⟩
  · rw [List.length_append, List.length_singleton, show (((dn.length + 1 : Nat)) : Int) = (dn.length : Int) + 1 by omega, pst_s (by omega), q5, j_upS]
  · rw [List.length_append, List.length_singleton] at he
    by_cases g : e < dn.length
    · obtain ⟨⟨Z, z1, z2, z4⟩, z5⟩ := h7 e g
      rw [List.getElem_append_left g, q5, j_upN (by omega)]
      refine ⟨⟨Z, ?_, ?_, z4⟩, by omega⟩
      · rw [pst_up (by omega)]
        refine g_seg_congr (fun j _ j1 => q4 j ?_) z1
        omega
      · rw [pst_up (by omega), j_upN (by omega)]; exact z2
    · have hge : e = dn.length := by omega
      subst hge
      rw [List.getElem_append_right (by omega), q5, j_upS]
      simp only [Nat.sub_self, List.getElem_cons_zero]
      exact ⟨⟨L, by rw [pst_up (by omega), ← h6]; exact q7, by rw [pst_up (by omega), ← h6, j_upS]; exact q6, q8⟩, by omega⟩
theorem ad_mwf {σ τ : k_St} {a : Nat} (ha : a = 48 ∨ a = 58) (h : ad_fr a σ τ) (hw : m_wf σ 16) : m_wf τ 16 := m_wf_congr (h.1 _ (by omega) (by omega) (by omega)) (h.1 _ (by omega) (by omega) (by omega)) (h.1 _ (by omega) (by omega) (by omega)) (h.1 _ (by omega) (by omega) (by omega)) (h.1 _ (by omega) (by omega) (by omega)) (h.2.1 _ _ (by omega)) hw
theorem ad_hwf {σ τ : k_St} {a : Nat} (ha : a = 48 ∨ a = 58) (h : ad_fr a σ τ) (hw : h_wf σ 8) : h_wf τ 8 := h_wf_congr (h.1 _ (by omega) (by omega) (by omega)) (h.1 _ (by omega) (by omega) (by omega)) (h.1 _ (by omega) (by omega) (by omega)) (h.1 _ (by omega) (by omega) (by omega)) (h.1 _ (by omega) (by omega) (by omega)) (h.2.1 _ _ (by omega)) hw
theorem ad_mis {σ τ : k_St} {a : Nat} (ha : a = 48 ∨ a = 58) (h : ad_fr a σ τ) (m : Int) : m_is τ m ↔ m_is σ m := by
  unfold m_is; rw [h.1 21 (by omega) (by omega) (by omega), h.2.1 16 5 (by omega)]
theorem ad_his {σ τ : k_St} {a : Nat} (ha : a = 48 ∨ a = 58) (h : ad_fr a σ τ) (m : Int) : h_is τ m ↔ h_is σ m := by
  unfold h_is; rw [h.1 15 (by omega) (by omega) (by omega), h.2.1 8 3 (by omega)]
set_option maxHeartbeats 4000000 in
theorem l_fi88 {G : j_G} {X : k_X} {n : Nat} {σ : k_St} (hn : 101 ≤ n) (hw : m_wf σ 16) (hwh : h_wf σ 8) {a : Nat} (ha : a = 48 ∨ a = 58) (hA : i_at X n a) {od x3 x4 x5 : Int} {lm lr E : List Int} (hsl : v_seg (σ.1 42) 0 lm) (hlm : ∀ x ∈ lm, m_is σ x) (hlm5 : lm.length ≤ 50) (hli : σ.2.1 39 6 = (lm.length : Int)) (hsr : v_seg (σ.1 41) 0 lr) (hlr : ∀ x ∈ lr, h_is σ x) (hlr3 : lr.length ≤ 30) (hrk : σ.2.1 39 4 = (lr.length : Int)) (hnd : lr.Nodup) (hE : v_seg (σ.1 (a + 1)) 0 E) (hEc : σ.2.1 a 0 = (E.length : Int)) (hE5 : E.length ≤ 150) (hEp : ∀ p ∈ E, 0 ≤ p ∧ p ≤ 29790) {Q : k_P} (kk : ∀ τ, LI σ a lm lr E τ → j_at G mX6_fill 110 [(0, .ref 39), (1, .ref a), (2, j_i od), (3, j_i x3), (4, j_i x4), (5, j_i x5), (6, j_i (E.length : Int))] [] (k_h X n τ) 0 0 (k_Q X Q))  : ∀ (t dn : List Int) (k : Int) (τ : k_St), E = dn ++ t → k = dn.length → LI σ a lm lr dn τ → τ.2.1 a 7 + bs_l (σ.1 17) (σ.1 19) lm t ≤ 50 → j_at G mX6_fill 88 [(0, .ref 39), (1, .ref a), (2, j_i od), (3, j_i x3), (4, j_i x4), (5, j_i x5), (6, j_i k)] [] (k_h X n τ) 0 0 (k_Q X Q) := by
  intro t
  induction t with
  | nil =>
    intro dn k τ hdn hkd hI hb
    obtain ⟨h5, hs0, hs1, hs2, hs3, hs4, hs5, hs6, hs7⟩ := id hA
    rw [List.append_nil] at hdn
    have hlen : (E.length : Int) = dn.length := by rw [hdn]
    refine a_iload (pc := 88) (i := 6) (by decide +kernel) rfl ?_
    refine a_aload_n (pc := 90) (i := 1) (by decide +kernel) rfl ?_
    refine b_getI (pc := 91) fl_X6_102 (by decide +kernel) hs0 rfl ?_
    rw [show τ.2.1 a 0 = (E.length : Int) from ((hI.1.2.1 a 0 (by omega)).trans hEc)]
    refine a_icmp_ge (pc := 94) (off := 16) (tgt := 110) (by decide +kernel) (by decide) (by omega) (by omega) (fun c94 => ?_) (fun c94 => ?_)
    · rw [show k = (E.length : Int) by omega]
      exact kk τ (by rw [hdn]; exact hI)
    · exfalso; omega
  | cons p t ih =>
    intro dn k τ hdn hkd hI hb
    obtain ⟨h5, hs0, hs1, hs2, hs3, hs4, hs5, hs6, hs7⟩ := id hA
    have hlen : (E.length : Int) = (dn.length : Int) + 1 + t.length := by rw [hdn]; simp; omega
    have hp : τ.1 (a + 1) k = p := by
      rw [hI.1.1 (a + 1) (by omega) (by omega) (by omega)]
      rw [hdn] at hE
      have := (v_seg_app.mp hE).2.1
      rw [show (0 : Int) + (dn.length : Int) = k by omega] at this; exact this
    have hpp := hEp p (by rw [hdn]; simp)
    have e17 : τ.1 17 = σ.1 17 := hI.1.1 17 (by omega) (by omega) (by omega)
    have e19 : τ.1 19 = σ.1 19 := hI.1.1 19 (by omega) (by omega) (by omega)
    have hb0 := bs_l_0 (K := σ.1 17) (P := σ.1 19) (lm := lm) t
    have hpn : f_hin p = 1 → τ.2.1 a 7 + b_l (τ.1 17) (τ.1 19) (f_head p 0) lm ≤ 50 := fun q => by rw [e17, e19]; unfold bs_l at hb; rw [if_pos q] at hb; omega
    refine a_iload (pc := 88) (i := 6) (by decide +kernel) rfl ?_
    refine a_aload_n (pc := 90) (i := 1) (by decide +kernel) rfl ?_
    refine b_getI (pc := 91) fl_X6_102 (by decide +kernel) hs0 rfl ?_
    rw [show τ.2.1 a 0 = (E.length : Int) from ((hI.1.2.1 a 0 (by omega)).trans hEc)]
    refine a_icmp_ge (pc := 94) (off := 16) (tgt := 110) (by decide +kernel) (by decide) (by omega) (by omega) (fun c94 => ?_) (fun c94 => ?_)
    · exfalso; omega
    · refine a_aload_n (pc := 97) (i := 0) (by decide +kernel) rfl ?_
      refine a_aload_n (pc := 98) (i := 1) (by decide +kernel) rfl ?_
      refine a_iload (pc := 99) (i := 6) (by decide +kernel) rfl ?_
      refine b_callV (pc := 101) (c' := 0) (sl' := 0) [.ref a, j_i k] [] ml_X6_109 (by decide +kernel) rfl rfl (sh_39 hn) rfl rfl (Nat.le_of_ble_eq_true rfl) (j_fitI rfl rfl) (s_addLeads hn (ad_mwf ha hI.1 hw) (ad_hwf ha hI.1 hwh) ha hA (by omega) hp hpp (by rw [hI.1.1 42 (by omega) (by omega) (by omega)]; exact hsl) (fun x hx => (ad_mis ha hI.1 x).mpr (hlm x hx)) hlm5 ((hI.1.2.1 39 6 (by omega)).trans hli) (by rw [hI.1.1 41 (by omega) (by omega) (by omega)]; exact hsr) (fun x hx => (ad_his ha hI.1 x).mpr (hlr x hx)) hlr3 ((hI.1.2.1 39 4 (by omega)).trans hrk) hnd hI.2.1 hpn) (fun v n' σ' hq => ?_)
      obtain ⟨σ1, hσ1⟩ : ∃ z, z = σ' := ⟨_, rfl⟩
      rw [← hσ1] at hq ⊢
      have e1 := hq.2.1
      have e0 := hq.1
      subst e0
      rw [hkd] at hq
      obtain ⟨Jσ1, bσ1⟩ := LI_step ha hnd hI hq
      rw [e1]; clear e1
      show j_at _ _ _ [(0, .ref 39), (1, .ref a), (2, j_i od), (3, j_i x3), (4, j_i x4), (5, j_i x5), (6, j_i k)] [] _ _ _ _
      refine a_iinc (pc := 104) (i := 6) (n := 1) (x := k) (lv' := [(0, .ref 39), (1, .ref a), (2, j_i od), (3, j_i x3), (4, j_i x4), (5, j_i x5), (6, j_i (k + 1))]) (by decide +kernel) rfl (Nat.le_of_ble_eq_true rfl) rfl ?_
      refine a_goto (pc := 107) (off := -19) (tgt := 88) (by decide +kernel) (by decide) ?_
      exact ih (dn ++ [p]) (k + 1) σ1 (by rw [hdn]; simp) (by simp; omega) Jσ1 (by unfold bs_l at hb; omega)
def oo_fr (a : Nat) (σ τ : k_St) : Prop := (∀ c, c ≠ a + 6 → τ.1 c = σ.1 c) ∧ (∀ c j, ¬ (c = a ∧ j = 9) → τ.2.1 c j = σ.2.1 c j) ∧ τ.2.2 = σ.2.2
def oo_post (n : Nat) (σ : k_St) (a : Nat) : k_P := fun v n' τ => v = none ∧ n' = n ∧ oo_fr a σ τ ∧ i_wf τ a ∧ ∃ O : List Int, τ.2.1 a 9 = (O.length : Int) ∧ v_seg (τ.1 (a + 6)) 0 O ∧ O.Pairwise (· < ·) ∧ ∀ i, i ∈ O ↔ (0 ≤ i ∧ i < 50) ∧ σ.1 43 i = 1
theorem i_wf_aO {σ : k_St} {a : Nat} {m : Int} (hw : i_wf σ a) (hm : 0 ≤ m ∧ m ≤ 49) (h5 : σ.2.1 a 9 < 50) : i_wf (i_aO σ a m) a := by
  obtain ⟨h1, h2, h3, h4, hv⟩ := hw
  unfold i_aO
  refine ⟨by rw [k_IN (by omega)]; exact h1, by rw [k_IN (by omega)]; exact h2, by rw [k_IN (by omega)]; exact h3, by rw [k_II]; omega, fun e => ?_⟩
  rw [k_I1, k_AA, k_AN (by omega), k_AN (by omega), k_AN (by omega), k_AN (by omega), k_AN (by omega)]
  obtain ⟨v1, v2, v3, v4, v5, v6⟩ := hv e
  refine ⟨v1, v2, v3, v4, v5, ?_⟩
  unfold j_up; split
  · omega
  · exact v6
theorem i_aO_fr {σ τ : k_St} {a : Nat} {m : Int} (h : oo_fr a σ τ) : oo_fr a σ (i_aO τ a m) := by
  unfold i_aO
  exact ⟨fun c hc => by rw [k_I1, k_AN hc]; exact h.1 c hc, fun c j hc => by rw [k_IN hc]; exact h.2.1 c j hc, h.2.2⟩
set_option maxHeartbeats 4000000 in
theorem l_fi117 {G : j_G} {X : k_X} {n : Nat} {σ : k_St} (hn : 101 ≤ n) {a : Nat} (ha : a = 48 ∨ a = 58) (hA : i_at X n a) {od x3 x4 x5 : Int} (h01 : ∀ i, σ.1 43 i = 0 ∨ σ.1 43 i = 1)  : ∀ (m : Nat) (k : Int) (τ : k_St) (O : List Int), 50 - k < (m : Int) → 0 ≤ k → k ≤ 50 → oo_fr a σ τ → i_wf τ a → τ.2.1 a 9 = (O.length : Int) → v_seg (τ.1 (a + 6)) 0 O → O.Pairwise (· < ·) → (∀ i, i ∈ O ↔ (0 ≤ i ∧ i < k) ∧ σ.1 43 i = 1) → (O.length : Int) ≤ k → j_at G mX6_fill 117 [(0, .ref 39), (1, .ref a), (2, j_i od), (3, j_i x3), (4, j_i x4), (5, j_i x5), (6, j_i k)] [] (k_h X n τ) 0 0 (k_Q X (oo_post n σ a)) := by
  intro m
  induction m with
  | zero => intro k τ O h1 h2 h3; exact absurd h1 (by omega)
  | succ m ih =>
    intro k τ O hm h0 hN hf hwt hc hs hp hm9 hok
    obtain ⟨h5, hs0, hs1, hs2, hs3, hs4, hs5, hs6, hs7⟩ := id hA
    refine a_iload (pc := 117) (i := 6) (by decide +kernel) rfl ?_
    refine a_bipush (pc := 119) (n := 50) (by decide +kernel) rfl ?_
    refine a_icmp_ge (pc := 121) (off := 25) (tgt := 146) (by decide +kernel) (by decide) (by omega) (by omega) (fun c121 => ?_) (fun c121 => ?_)
    · refine a_return (pc := 146) (by decide +kernel) rfl ?_
      refine k_ret ?_
      exact ⟨rfl, rfl, hf, hwt, O, hc, hs, hp, fun i => (hm9 i).trans ⟨fun q => ⟨by omega, q.2⟩, fun q => ⟨by omega, q.2⟩⟩⟩
    · have h1 := h01 k
      refine a_aload_n (pc := 124) (i := 0) (by decide +kernel) rfl ?_
      refine b_getR (pc := 125) (b := 43) fl_X6_28 (by decide +kernel) (sh_39 hn) rfl ?_
      refine a_iload (pc := 128) (i := 6) (by decide +kernel) rfl ?_
      refine b_zaload (pc := 130) (by decide +kernel) (sh_43 hn) (by omega) (by omega) (by omega) ?_
      rw [show τ.1 43 = σ.1 43 from hf.1 43 (by omega)]
      refine a_if_eq (pc := 131) (off := 9) (tgt := 140) (by decide +kernel) (by decide) (by omega) (fun c131 => ?_) (fun c131 => ?_)
      · refine a_iinc (pc := 140) (i := 6) (n := 1) (x := k) (lv' := [(0, .ref 39), (1, .ref a), (2, j_i od), (3, j_i x3), (4, j_i x4), (5, j_i x5), (6, j_i (k + 1))]) (by decide +kernel) rfl (Nat.le_of_ble_eq_true rfl) rfl ?_
        refine a_goto (pc := 143) (off := -26) (tgt := 117) (by decide +kernel) (by decide) ?_
        exact ih (k + 1) τ O (by omega) (by omega) (by omega) hf hwt hc hs hp (fun i => (hm9 i).trans ⟨fun q => ⟨by omega, q.2⟩, fun q => ⟨by have : i ≠ k := fun g => (by rw [g, c131] at q; exact absurd q.2 (by decide)); omega, q.2⟩⟩) (by omega)
      · refine a_aload_n (pc := 134) (i := 1) (by decide +kernel) rfl ?_
        refine a_iload (pc := 135) (i := 6) (by decide +kernel) rfl ?_
        refine b_callV (pc := 137) (c' := 0) (sl' := 0) [j_i k] [] ml_X6_115 (by decide +kernel) rfl rfl hs0 rfl rfl (Nat.le_of_ble_eq_true rfl) (j_fitI rfl rfl) (s_addLoose hA (by omega)) (fun v n' σ' hq => ?_)
        obtain ⟨rfl, e1, e2⟩ := hq
        rw [e1, e2]; clear e1 e2
        obtain ⟨σ1, hσ1⟩ : ∃ z, z = i_aO τ a k := ⟨_, rfl⟩
        rw [← hσ1]
        show j_at _ _ _ [(0, .ref 39), (1, .ref a), (2, j_i od), (3, j_i x3), (4, j_i x4), (5, j_i x5), (6, j_i k)] [] _ _ _ _
        refine a_iinc (pc := 140) (i := 6) (n := 1) (x := k) (lv' := [(0, .ref 39), (1, .ref a), (2, j_i od), (3, j_i x3), (4, j_i x4), (5, j_i x5), (6, j_i (k + 1))]) (by decide +kernel) rfl (Nat.le_of_ble_eq_true rfl) rfl ?_
        refine a_goto (pc := 143) (off := -26) (tgt := 117) (by decide +kernel) (by decide) ?_
        have hk1 : σ.1 43 k = 1 := by omega
        refine ih (k + 1) σ1 (O ++ [k]) (by omega) (by omega) (by omega) (by rw [hσ1]; exact i_aO_fr hf) (by rw [hσ1]; exact i_wf_aO hwt (by omega) (by omega)) (by rw [hσ1]; unfold i_aO; rw [k_II, hc]; simp) (by
          rw [hσ1]; unfold i_aO; rw [k_I1, k_AA, hc]
          refine v_seg_app.mpr ⟨v_seg_congr (fun j j0 j1 => j_upN (by omega)) hs, ⟨by rw [show (0 : Int) + (O.length : Int) = O.length by omega, j_upS], trivial⟩⟩) (List.pairwise_append.mpr ⟨hp, List.pairwise_singleton _ _, fun x hx y hy => by rw [List.mem_singleton.mp hy]; exact ((hm9 x).mp hx).1.2⟩) (fun i => ?_) (by simp; omega)
        rw [List.mem_append, hm9 i, List.mem_singleton]
        constructor
        · rintro (q | q)
          · exact ⟨by omega, q.2⟩
          · rw [q]; exact ⟨by omega, hk1⟩
        · rintro ⟨q1, q2⟩
          by_cases g : i = k
          · exact Or.inr g
          · exact Or.inl ⟨by omega, q2⟩
