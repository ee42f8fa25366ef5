theorem i_wf_fl5 {σ : k_St} {a : Nat} {f : Int → Int} (hw : i_wf σ a) (hf : i_flI σ a f (σ.2.1 a 7)) : i_wf (k_sA σ (a + 5) f) a := by
  obtain ⟨h1, h2, h3, h4, hv⟩ := hw
  refine ⟨h1, h2, h3, h4, fun e => ?_⟩
  rw [k_AA, k_AN (by omega), k_AN (by omega), k_AN (by omega), k_AN (by omega), k_AN (by omega)]
  obtain ⟨v1, v2, v3, v4, v5, v6⟩ := hv e
  refine ⟨v1, v2, v3, v4, ?_, v6⟩
  rcases hf.2 e with g | ⟨g, _⟩
  · rw [g]; exact v5
  · omega
set_option maxHeartbeats 4000000 in
theorem l_fi110 {G : j_G} {X : k_X} {n : Nat} {σ : k_St} (hn : 101 ≤ n) {a : Nat} (ha : a = 48 ∨ a = 58) (hA : i_at X n a) {od c d fl : Int} {E : List Int} (hwi : i_wf σ a) (h01 : ∀ i, σ.1 43 i = 0 ∨ σ.1 43 i = 1) (h9 : σ.2.1 a 9 = 0) {Q : k_P} (kk : ∀ f, i_flI σ a f (σ.2.1 a 7) → ∀ v n' ρ, oo_post n (k_sA σ (a + 5) f) a v n' ρ → Q v n' ρ) : j_at G mX6_fill 110 [(0, .ref 39), (1, .ref a), (2, j_i od), (3, j_i d), (4, j_i c), (5, j_i fl), (6, j_i (E.length : Int))] [] (k_h X n σ) 0 0 (k_Q X Q) := by
  obtain ⟨h5, hs0, hs1, hs2, hs3, hs4, hs5, hs6, hs7⟩ := id hA
  refine a_aload_n (pc := 110) (i := 1) (by decide +kernel) rfl ?_
  refine b_callV (pc := 111) (c' := 0) (sl' := 0) [] [] ml_X6_112 (by decide +kernel) rfl rfl hs0 rfl rfl (Nat.le_of_ble_eq_true rfl) (j_fitI rfl rfl) (s_follow hA hwi) (fun v n' σ' hq => ?_)
  obtain ⟨σ1, hσ1⟩ : ∃ z, z = σ' := ⟨_, rfl⟩
  rw [← hσ1] at hq ⊢
  obtain ⟨rfl, e1, f, f1, f2⟩ := hq
  rw [e1]; clear e1
  show j_at _ _ _ [(0, .ref 39), (1, .ref a), (2, j_i od), (3, j_i d), (4, j_i c), (5, j_i fl), (6, j_i (E.length : Int))] [] _ _ _ _
  refine a_iconst (pc := 114) (n := 0) (by decide +kernel) ?_
  refine a_istore (pc := 115) (i := 6) (lv' := [(0, .ref 39), (1, .ref a), (2, j_i od), (3, j_i d), (4, j_i c), (5, j_i fl), (6, j_i 0)]) (by decide +kernel) (Nat.le_of_ble_eq_true rfl) rfl ?_
  refine k_mono (fun v n' ρ hq => ?_) (l_fi117 hn ha hA (σ := σ1) (od := od) (x3 := d) (x4 := c) (x5 := fl) (by rw [f2]; rw [k_AN (by omega)]; exact h01) 51 0 σ1 [] (by omega) (by omega) (by omega) ⟨fun _ _ => rfl, fun _ _ _ => rfl, rfl⟩ (by rw [f2]; exact i_wf_fl5 hwi f1) (by rw [f2]; exact h9) trivial List.Pairwise.nil (fun i => ⟨fun g => (by cases g), fun g => absurd g.1 (by omega)⟩) (by simp))
  rw [f2] at hq
  exact kk f f1 v n' ρ hq
def fi_post (n : Nat) (σ : k_St) (a : Nat) (od c d fl : Int) : k_P := fun v n' τ => v = none ∧ n' = n ∧ fi_fr a σ τ ∧ i_wf τ a ∧ rk_rg τ ∧ (∀ i, τ.1 43 i = 0 ∨ τ.1 43 i = 1) ∧ r_wf τ (a + 7) 30 ∧ FI σ τ a od c d fl
theorem fi_end {n n' : Nat} {v : Option Value} {σ σe τ1 τ2 τ3 : k_St} {a : Nat} (ha : a = 48 ∨ a = 58) {od c d fl : Int} {lr lm E : List Int} {f : Int → Int} (hw : m_wf σ 16) (X9 : fi_fr a σ σe) (hfl : σe.2.1 39 13 = fl) (hrg : rk_rg σe) (hwr : r_wf σe (a + 7) 30) (hz : z43 (σe.1 43) 50)
    (hlr : ∀ x, x ∈ lr ↔ h_is σ x) (hlrp : lr.Pairwise (fun x y => o_rel σ x y od (-1))) (hlm : ∀ x, x ∈ lm ↔ m_is σ x) (hlmp : lm.Pairwise (m_lt σ)) (hlm5 : lm.length ≤ 50) (hEc : σe.2.1 a 0 = (E.length : Int)) (hE : v_seg (σe.1 (a + 1)) 0 E) (hEp : E.Pairwise (pt_lt (fun x y => o_rel σ x y od (-1)))) (hEm : ∀ p, p ∈ E ↔ ∃ m ∈ lm, pre_p (m_epath σ m) p) (hE5 : E.length ≤ 150) (hrow : ∀ h, 0 ≤ h → h < σ.2.1 8 3 → row_eq σe (a + 7) σ (if 0 < σ.1 14 h then 12 else 9) h)
    (hP : PI σe a lm c d E τ1) (hL : LI τ1 a lm lr E τ2) (hf : i_flI τ2 a f (τ2.2.1 a 7)) (hO : oo_post n (k_sA τ2 (a + 5) f) a v n' τ3) : fi_post n σ a od c d fl v n' τ3 := by
  obtain ⟨o1, o2, o3, o4, O, o5, o6, o7, o8⟩ := hO
  obtain ⟨p1, p2, p3, p4, p5, p6, p7⟩ := hP
  obtain ⟨l1, l2, l3, l4⟩ := hL
  have e17 : σe.1 17 = σ.1 17 := X9.1 17 (by omega)
  have e18 : σe.1 18 = σ.1 18 := X9.1 18 (by omega)
  have e19 : σe.1 19 = σ.1 19 := X9.1 19 (by omega)
  have e20 : σe.1 20 = σ.1 20 := X9.1 20 (by omega)
  have t17 : τ1.1 17 = σ.1 17 := (p1.1 17 (by omega) (by omega) (by omega) (by omega) (by omega)).trans e17
  have t19 : τ1.1 19 = σ.1 19 := (p1.1 19 (by omega) (by omega) (by omega) (by omega) (by omega)).trans e19
  have epg : m_pg σe = (fun m => f_page (σ.1 18 m) fl) := by funext m; unfold m_pg; rw [e18, hfl]
  -- arrays of the end
  have a1 : τ3.1 (a + 1) = σe.1 (a + 1) := by rw [o3.1 _ (by omega), k_AN (by omega), l1.1 _ (by omega) (by omega) (by omega), p1.1 _ (by omega) (by omega) (by omega) (by omega) (by omega)]
  have a1' : τ3.1 (a + 1) = τ2.1 (a + 1) := by rw [o3.1 _ (by omega), k_AN (by omega)]
  have a2 : τ3.1 (a + 2) = τ1.1 (a + 2) := by rw [o3.1 _ (by omega), k_AN (by omega), l1.1 _ (by omega) (by omega) (by omega)]
  have a2' : τ3.1 (a + 2) = τ2.1 (a + 2) := by rw [o3.1 _ (by omega), k_AN (by omega)]
  have a3 : τ3.1 (a + 3) = τ2.1 (a + 3) := by rw [o3.1 _ (by omega), k_AN (by omega)]
  have a4 : τ3.1 (a + 4) = τ1.1 (a + 4) := by rw [o3.1 _ (by omega), k_AN (by omega), l1.1 _ (by omega) (by omega) (by omega)]
  have a5 : τ3.1 (a + 5) = f := by rw [o3.1 _ (by omega), k_AA]
  have a8 : τ3.1 (a + 7 + 1) = σe.1 (a + 7 + 1) := by rw [o3.1 _ (by omega), k_AN (by omega), l1.1 _ (by omega) (by omega) (by omega), p1.1 _ (by omega) (by omega) (by omega) (by omega) (by omega)]
  have a9 : τ3.1 (a + 7 + 2) = σe.1 (a + 7 + 2) := by rw [o3.1 _ (by omega), k_AN (by omega), l1.1 _ (by omega) (by omega) (by omega), p1.1 _ (by omega) (by omega) (by omega) (by omega) (by omega)]
  have c43 : τ3.1 43 = τ1.1 43 := by rw [o3.1 _ (by omega), k_AN (by omega), l1.1 _ (by omega) (by omega) (by omega)]
  have c40 : τ3.1 40 = σe.1 40 := by rw [o3.1 _ (by omega), k_AN (by omega), l1.1 _ (by omega) (by omega) (by omega), p1.1 _ (by omega) (by omega) (by omega) (by omega) (by omega)]
  have c41 : τ3.1 41 = σe.1 41 := by rw [o3.1 _ (by omega), k_AN (by omega), l1.1 _ (by omega) (by omega) (by omega), p1.1 _ (by omega) (by omega) (by omega) (by omega) (by omega)]
  have f0 : τ3.2.1 a 0 = σe.2.1 a 0 := by rw [o3.2.1 _ _ (by omega)]; show τ2.2.1 a 0 = _; rw [l1.2.1 _ _ (by omega), p1.2.1 _ _ (by omega) (by omega) (by omega)]
  have f0' : τ3.2.1 a 0 = τ2.2.1 a 0 := by rw [o3.2.1 _ _ (by omega)]; rfl
  have f5 : τ3.2.1 a 5 = τ1.2.1 a 5 := by rw [o3.2.1 _ _ (by omega)]; show τ2.2.1 a 5 = _; rw [l1.2.1 _ _ (by omega)]
  have f7 : τ3.2.1 a 7 = τ2.2.1 a 7 := by rw [o3.2.1 _ _ (by omega)]; rfl
  have hf3 : ∀ k : Int, f (k * 3) = τ2.1 (a + 5) (k * 3) := fun k => by
    rcases hf.2 (k * 3) with g | ⟨_, i, _, _, g⟩
    · exact g
    · omega
  have hf31 : ∀ k : Int, f (k * 3 + 1) = τ2.1 (a + 5) (k * 3 + 1) := fun k => by
    rcases hf.2 (k * 3 + 1) with g | ⟨_, i, _, _, g⟩
    · exact g
    · omega
  have hgs : ∀ {l : List (Int × Int)} {i : Int}, g_seg (τ2.1 (a + 5)) i l → g_seg f i l := fun {l} => by
    induction l with
    | nil => intro i _; trivial
    | cons x t ih => intro i h; exact ⟨(hf3 i).trans h.1, (hf31 i).trans h.2.1, ih h.2.2⟩
  have X3 : fi_fr a σ τ3 := fi_t X9 (fi_t (fi_pf ha p1) (fi_t (fi_ad ha l1) (fi_t (fi_A5 ha) (fi_oo ha o3))))
  refine ⟨o1, o2, X3, o4, fun i => by rw [c40, c41]; exact hrg i, fun i => by rw [c43]; exact p4 i, ⟨fun r r0 r1 => by rw [a9]; exact hwr.1 r r0 r1, fun i => by rw [a8]; exact hwr.2 i⟩, lr, lm, E, O, hlr, hlrp, hlm, hlmp, hlm5, ⟨by rw [f0]; exact hEc, by rw [a1]; exact hE, hEp, hEm, hE5⟩, ⟨by rw [f5, a2]; exact p6, fun e h => ?_⟩, ⟨by rw [f7, a3]; exact l3, fun e h => ?_⟩, fun j j0 j1 => ?_, ⟨o5, o6, o7, fun i => ?_⟩, fun h h0 h1 => ?_⟩
  · have := (p7 e h).1
    unfold PL at this
    rw [e17, e19, e20, epg] at this
    rw [a2, a4]; exact this
  · obtain ⟨L, y1, y2, y3⟩ := (l4 e h).1
    rw [a3, a5]
    refine ⟨L, hgs y1, y2, ?_⟩
    have hb : i_body τ3 a e ↔ i_body τ1 a e := by
      have : i_body τ3 a e ↔ i_body τ2 a e := by unfold i_body i_pn i_ps; rw [a1', a2', f0']
      exact this.trans (i_body_ad ha l1)
    have y4 : ldx (τ1.1 17) (τ1.1 19) lm lr E[e] (i_body τ1 a e) L := y3
    rw [t17, t19] at y4
    unfold ldx at y4 ⊢
    simp only [hb]; exact y4
  · rw [f7] at j1
    have := hf.1 j j0 j1
    rw [a5, f0', hf3]
    exact (i_led_cg a1' a2' a3 f0' (fun k => by rw [a5]; exact hf3 k)).mpr this
  · rw [o8 i]
    have hk43 : (k_sA τ2 (a + 5) f).1 43 = τ1.1 43 := by rw [k_AN (by omega), l1.1 43 (by omega) (by omega) (by omega)]
    rw [hk43, p5 i, e17, e19]
    constructor
    · rintro ⟨g1, g2 | g2⟩
      · rw [hz.1 i g1.1 g1.2] at g2; exact absurd g2 (by decide)
      · exact g2
    · rintro ⟨p, g1, g2⟩
      refine ⟨?_, Or.inr ⟨p, g1, g2⟩⟩
      rcases b_lo_mem g2 with g | ⟨_, g⟩
      · have := (hlm i).mp g; exact ⟨this.1, m_is_50 hw this⟩
      · exact absurd rfl g
  · have := hrow h h0 h1
    unfold row_eq at this ⊢
    rw [a8, a9]; exact this
set_option maxHeartbeats 4000000 in
theorem s_fill {G : j_G} {X : k_X} {n : Nat} {σ : k_St} (hn : 101 ≤ n) (hw : m_wf σ 16) (hwh : h_wf σ 8) (hy : y_wf σ) (hd9 : h_dis σ) (hhl : ∀ m, m_is σ m → okp (h_is σ) (m_epath σ m)) {a : Nat} (ha : a = 48 ∨ a = 58) (hA : i_at X n a) {od c d fl : Int} (ho : od = 0 ∨ od = 1) (hd : 0 ≤ d ∧ d ≤ 20) (hc : c = 0 ∨ c = 1) (hfl : 1 ≤ fl ∧ fl ≤ 50) (hwi : i_wf σ a) (hrg : rk_rg σ) (h01 : ∀ i, σ.1 43 i = 0 ∨ σ.1 43 i = 1) (hwr : r_wf σ (a + 7) 30)  : k_run G X mX6_fill [.ref 39, .ref a, j_i od, j_i d, j_i c, j_i fl] n σ 0 0 (fi_post n σ a od c d fl) := by
  obtain ⟨h5, hs0, hs1, hs2, hs3, hs4, hs5, hs6, hs7⟩ := id hA
  refine k_enter (by decide +kernel) (Nat.le_of_ble_eq_true rfl) ?_
  show j_at _ _ _ [(0, .ref 39), (1, .ref a), (2, j_i od), (3, j_i d), (4, j_i c), (5, j_i fl)] [] _ _ _ _
  refine a_aload_n (pc := 0) (i := 0) (by decide +kernel) rfl ?_
  refine a_iload_n (pc := 1) (i := 3) (by decide +kernel) rfl ?_
  refine b_putI (pc := 2) fl_X6_45 (by decide +kernel) (sh_39 hn) rfl rfl rfl ?_
  obtain ⟨σ1, hσ1⟩ : ∃ z, z = k_sI σ 39 11 d := ⟨_, rfl⟩
  rw [← hσ1]
  have Xσ1 : fi_fr a σ σ1 := by rw [hσ1]; exact fi_39 ha
  refine a_aload_n (pc := 5) (i := 0) (by decide +kernel) rfl ?_
  refine a_iload (pc := 6) (i := 4) (by decide +kernel) rfl ?_
  refine b_putI (pc := 8) fl_X6_48 (by decide +kernel) (sh_39 hn) rfl rfl rfl ?_
  obtain ⟨σ2, hσ2⟩ : ∃ z, z = k_sI σ1 39 12 c := ⟨_, rfl⟩
  rw [← hσ2]
  have Xσ2 : fi_fr a σ σ2 := fi_t Xσ1 (by rw [hσ2]; exact fi_39 ha)
  refine a_aload_n (pc := 11) (i := 0) (by decide +kernel) rfl ?_
  refine a_iload (pc := 12) (i := 5) (by decide +kernel) rfl ?_
  refine b_putI (pc := 14) fl_X6_51 (by decide +kernel) (sh_39 hn) rfl rfl rfl ?_
  obtain ⟨σ3, hσ3⟩ : ∃ z, z = k_sI σ2 39 13 fl := ⟨_, rfl⟩
  rw [← hσ3]
  have Xσ3 : fi_fr a σ σ3 := fi_t Xσ2 (by rw [hσ3]; exact fi_39 ha)
  refine a_aload_n (pc := 17) (i := 0) (by decide +kernel) rfl ?_
  refine a_iload_n (pc := 18) (i := 2) (by decide +kernel) rfl ?_
  refine b_callV (pc := 19) (c' := 0) (sl' := 0) [j_i od] [] ml_X6_62 (by decide +kernel) rfl rfl (sh_39 hn) rfl rfl (Nat.le_of_ble_eq_true rfl) (j_fitI rfl rfl) (s_rankHeads hn (fi_hwf Xσ3 hwh) (fi_ywf Xσ3 hy) (fi_dis Xσ3 hd9) ho (by rw [hσ3, hσ2, hσ1]; exact hrg)) (fun v n' σ' hq => ?_)
  obtain ⟨σ4, hσ4⟩ : ∃ z, z = σ' := ⟨_, rfl⟩
  rw [← hσ4] at hq ⊢
  obtain ⟨rfl, e1, Rσ4, rgσ4, lr, lr1, lr2, lr3, lr4, lr5, lr6⟩ := hq
  rw [e1]; clear e1
  have Xσ4 := fi_t Xσ3 (fi_rk ha Rσ4)
  show j_at _ _ _ [(0, .ref 39), (1, .ref a), (2, j_i od), (3, j_i d), (4, j_i c), (5, j_i fl)] [] _ _ _ _
  refine a_aload_n (pc := 22) (i := 0) (by decide +kernel) rfl ?_
  refine b_callV (pc := 23) (c' := 0) (sl' := 0) [] [] ml_X6_66 (by decide +kernel) rfl rfl (sh_39 hn) rfl rfl (Nat.le_of_ble_eq_true rfl) (j_fitI rfl rfl) (s_listMarks hn (fi_mwf Xσ4 hw) (by rw [Rσ4.1 43 (by omega) (by omega), hσ3, hσ2, hσ1]; exact h01)) (fun v n' σ' hq => ?_)
  obtain ⟨σ5, hσ5⟩ : ∃ z, z = σ' := ⟨_, rfl⟩
  rw [← hσ5] at hq ⊢
  obtain ⟨rfl, e1, Rσ5, lm, lm1, lm2, lm3, lm4, lm5, lm6⟩ := hq
  rw [e1]; clear e1
  have Xσ5 := fi_t Xσ4 (fi_lm ha Rσ5)
  show j_at _ _ _ [(0, .ref 39), (1, .ref a), (2, j_i od), (3, j_i d), (4, j_i c), (5, j_i fl)] [] _ _ _ _
  refine a_aload_n (pc := 26) (i := 1) (by decide +kernel) rfl ?_
  refine b_callV (pc := 27) (c' := 0) (sl' := 0) [] [] ml_X6_69 (by decide +kernel) rfl rfl hs0 rfl rfl (Nat.le_of_ble_eq_true rfl) (j_fitI rfl rfl) (s_iclear hA) (fun v n' σ' hq => ?_)
  obtain ⟨rfl, e1, e2⟩ := hq
  rw [e1, e2]; clear e1 e2
  obtain ⟨σ6, hσ6⟩ : ∃ z, z = i_cl σ5 a := ⟨_, rfl⟩
  rw [← hσ6]
  have Xσ6 : fi_fr a σ σ6 := fi_t Xσ5 (by rw [hσ6]; exact fi_cl ha)
  show j_at _ _ _ [(0, .ref 39), (1, .ref a), (2, j_i od), (3, j_i d), (4, j_i c), (5, j_i fl)] [] _ _ _ _
  refine a_aload_n (pc := 30) (i := 1) (by decide +kernel) rfl ?_
  refine b_getR (pc := 31) (b := a + 7) fl_X6_74 (by decide +kernel) hs0 rfl ?_
  refine a_aload_n (pc := 34) (i := 0) (by decide +kernel) rfl ?_
  refine b_getR (pc := 35) (b := 6) fl_X6_54 (by decide +kernel) (sh_39 hn) rfl ?_
  refine b_getR (pc := 38) (b := 8) fl_X6_78 (by decide +kernel) (sh_6 hn) rfl ?_
  refine b_getR (pc := 41) (b := 9) fl_X6_84 (by decide +kernel) (sh_8 hn) rfl ?_
  have Wσ6 : r_wf σ6 (a + 7) 30 := r_wf_congr (σ := σ) (by rw [hσ6]; show σ5.1 _ = _; rw [Rσ5.1 _ (by omega) (by omega), Rσ4.1 _ (by omega) (by omega), hσ3, hσ2, hσ1]; rfl) (by rw [hσ6]; show σ5.1 _ = _; rw [Rσ5.1 _ (by omega) (by omega), Rσ4.1 _ (by omega) (by omega), hσ3, hσ2, hσ1]; rfl) hwr
  refine b_callV (pc := 44) (c' := 0) (sl' := 0) [.ref 9] [] ml_X6_89 (by decide +kernel) rfl rfl hs7.2.2.1 rfl rfl (Nat.le_of_ble_eq_true rfl) (j_fitI rfl rfl) (s_copyAll hs7 (rA_9 hn) (fi_hwf Xσ6 hwh).2.1 (by omega)) (fun v n' σ' hq => ?_)
  obtain ⟨rfl, e1, e2⟩ := hq
  rw [e1, e2]; clear e1 e2
  obtain ⟨σ7, hσ7⟩ : ∃ z, z = r_cpA σ6 (a + 7) 9 30 := ⟨_, rfl⟩
  rw [← hσ7]
  have Xσ7 : fi_fr a σ σ7 := fi_t Xσ6 (by rw [hσ7]; exact fi_cpA ha)
  have Wσ7 : r_wf σ7 (a + 7) 30 := by rw [hσ7]; exact r_cpA_wf Wσ6 (fi_hwf Xσ6 hwh).2.1
  show j_at _ _ _ [(0, .ref 39), (1, .ref a), (2, j_i od), (3, j_i d), (4, j_i c), (5, j_i fl)] [] _ _ _ _
  refine a_aload_n (pc := 47) (i := 0) (by decide +kernel) rfl ?_
  refine a_aload_n (pc := 48) (i := 1) (by decide +kernel) rfl ?_
  refine b_getR (pc := 49) (b := a + 7) fl_X6_74 (by decide +kernel) hs0 rfl ?_
  refine b_callV (pc := 52) (c' := 0) (sl' := 0) [.ref (a + 7)] [] ml_X6_95 (by decide +kernel) rfl rfl (sh_39 hn) rfl rfl (Nat.le_of_ble_eq_true rfl) (j_fitI rfl rfl) (s_copySorted hn (fi_hwf Xσ7 hwh) ha hA Wσ7) (fun v n' σ' hq => ?_)
  obtain ⟨σ8, hσ8⟩ : ∃ z, z = σ' := ⟨_, rfl⟩
  rw [← hσ8] at hq ⊢
  obtain ⟨rfl, e1, Rσ8, Wσ8, Zσ8⟩ := hq
  rw [e1]; clear e1
  have Xσ8 := fi_t Xσ7 (fi_cp ha Rσ8)
  show j_at _ _ _ [(0, .ref 39), (1, .ref a), (2, j_i od), (3, j_i d), (4, j_i c), (5, j_i fl)] [] _ _ _ _
  refine a_aload_n (pc := 55) (i := 0) (by decide +kernel) rfl ?_
  refine a_aload_n (pc := 56) (i := 1) (by decide +kernel) rfl ?_
  have LO : lo_fr σ5 σ8 := ⟨fun k hk => by rw [Rσ8.1 k (by omega) (by omega), hσ7, r_cpA_o (by omega) (by omega), hσ6]; rfl, fun k j hk => by rw [Rσ8.2, hσ7]; show σ6.2.1 k j = _; rw [hσ6]; unfold i_cl; rw [k_IN (by omega), k_IN (by omega), k_IN (by omega), k_IN (by omega)]⟩
  have LM : ∀ x, x ∈ lm ↔ m_is σ x := fun x => (lm3 x).trans (fi_mis Xσ4 x)
  have LR : ∀ x, x ∈ lr ↔ h_is σ x := fun x => (lr3 x).trans (fi_his Xσ3 x)
  have RGσ8 : rk_rg σ8 := fun i => by rw [LO.1 40 (by omega), LO.1 41 (by omega), Rσ5.1 40 (by omega) (by omega), Rσ5.1 41 (by omega) (by omega)]; exact rgσ4 i
  have LIσ8 : σ8.2.1 39 6 = (lm.length : Int) := by rw [LO.2 39 6 (by omega)]; exact lm1
  have SLσ8 : v_seg (σ8.1 42) 0 lm := by rw [LO.1 42 (by omega)]; exact lm2
  have Aσ8 : ∀ k : Nat, 1 ≤ k → k ≤ 6 → σ8.1 (a + k) = σ.1 (a + k) := fun k k1 k2 => by rw [Rσ8.1 _ (by omega) (by omega), hσ7, r_cpA_o (by omega) (by omega), hσ6]; show σ5.1 _ = _; rw [Rσ5.1 _ (by omega) (by omega), Rσ4.1 _ (by omega) (by omega), hσ3, hσ2, hσ1]; rfl
  have Fσ8 : ∀ j, σ8.2.1 a j = σ6.2.1 a j := fun j => by rw [Rσ8.2, hσ7]; rfl
  have C0σ8 : σ8.2.1 a 0 = 0 := by rw [Fσ8, hσ6]; unfold i_cl; rw [k_IN (by omega), k_IN (by omega), k_IN (by omega), k_II]
  have C5σ8 : σ8.2.1 a 5 = 0 := by rw [Fσ8, hσ6]; unfold i_cl; rw [k_IN (by omega), k_IN (by omega), k_II]
  have C7σ8 : σ8.2.1 a 7 = 0 := by rw [Fσ8, hσ6]; unfold i_cl; rw [k_IN (by omega), k_II]
  have C9σ8 : σ8.2.1 a 9 = 0 := by rw [Fσ8, hσ6]; unfold i_cl; rw [k_II]
  have WIσ8 : i_wf σ8 a := by
    unfold i_wf; rw [C0σ8, C5σ8, C7σ8, C9σ8, Aσ8 1 (by omega) (by omega), Aσ8 2 (by omega) (by omega), Aσ8 3 (by omega) (by omega), Aσ8 4 (by omega) (by omega), Aσ8 5 (by omega) (by omega), Aσ8 6 (by omega) (by omega)]
    exact ⟨by omega, by omega, by omega, by omega, hwi.2.2.2.2⟩
  refine b_callV (pc := 57) (c' := 0) (sl' := 0) [.ref a] [] ml_X6_98 (by decide +kernel) rfl rfl (sh_39 hn) rfl rfl (Nat.le_of_ble_eq_true rfl) (j_fitI rfl rfl) (s_addEntries hn (fi_mwf Xσ8 hw) RGσ8 ha hA (fun x hx => (fi_mis Xσ8 x).mpr ((LM x).mp hx)) lm5 LIσ8 SLσ8 WIσ8 C0σ8) (fun v n' σ' hq => ?_)
  obtain ⟨σ9, hσ9⟩ : ∃ z, z = σ' := ⟨_, rfl⟩
  rw [← hσ9] at hq ⊢
  obtain ⟨rfl, e1, Rσ9, WIσ9, l, l1, l2, l3, l4, l5⟩ := hq
  rw [e1]; clear e1
  have Xσ9 := fi_t Xσ8 (fi_pth ha Rσ9)
  show j_at _ _ _ [(0, .ref 39), (1, .ref a), (2, j_i od), (3, j_i d), (4, j_i c), (5, j_i fl)] [] _ _ _ _
  refine a_iconst (pc := 60) (n := 0) (by decide +kernel) ?_
  refine a_istore (pc := 61) (i := 6) (lv' := [(0, .ref 39), (1, .ref a), (2, j_i od), (3, j_i d), (4, j_i c), (5, j_i fl), (6, j_i 0)]) (by decide +kernel) (Nat.le_of_ble_eq_true rfl) rfl ?_
  obtain ⟨E, hEdef⟩ : ∃ z, z = l.map (f_tr (σ8.1 41)) := ⟨_, rfl⟩
  have LO9 : lo_fr σ5 σ9 := ⟨fun k hk => by rw [Rσ9.1 k (by omega)]; exact LO.1 k hk, fun k j hk => by rw [Rσ9.2.1 k j (by omega)]; exact LO.2 k j hk⟩
  have E41 : σ8.1 41 = σ4.1 41 := by rw [LO.1 41 (by omega), Rσ5.1 41 (by omega) (by omega)]
  have E40 : σ8.1 40 = σ4.1 40 := by rw [LO.1 40 (by omega), Rσ5.1 40 (by omega) (by omega)]
  have LRP : lr.Pairwise (fun x y => o_rel σ x y od (-1)) := List.Pairwise.imp (fun {x y} g => (fi_rel Xσ3).mp g) lr4
  have LMP : lm.Pairwise (m_lt σ) := List.Pairwise.imp (fun {x y} g => by unfold m_lt at g ⊢; rw [Xσ4.1 18 (by omega)] at g; exact g) lm4
  obtain ⟨hRA, hRB⟩ := rk_AB (lv := h_is σ) (lt := fun x y => o_rel σ x y od (-1)) (T := σ4.1 40) (U := σ4.1 41) lr2 lr6 LR lr5 LRP (fun x y g => o_asy g)
  obtain ⟨hEp, hEm⟩ := E_spec (ep := m_epath σ) (lm := lm) hRA hRB l3 (fun q => by rw [l4 q, E40]; exact ⟨fun ⟨m, m1, m2⟩ => ⟨m, m1, by rw [fi_ep Xσ8] at m2; exact m2⟩, fun ⟨m, m1, m2⟩ => ⟨m, m1, by rw [fi_ep Xσ8]; exact m2⟩⟩) (fun m hm => hhl m ((LM m).mp hm))
  rw [← E41, ← hEdef] at hEp hEm
  have hEok : ∀ p ∈ E, okp (h_is σ) p := fun p hp => by obtain ⟨m, m1, m2⟩ := (hEm p).mp hp; exact okp_pre (hhl m ((LM m).mp m1)) m2
  have hEl : (E.length : Int) = l.length := by rw [hEdef, List.length_map]
  have hE : v_seg (σ9.1 (a + 1)) 0 E := by rw [hEdef]; exact l2
  have hEc : σ9.2.1 a 0 = (E.length : Int) := by rw [hEl]; exact l1
  have hE5 : E.length ≤ 150 := by omega
  have hnd := pt_nodup (fun x => o_irr) hEp
  have hndr : lr.Nodup := List.Pairwise.imp (fun {x y} g e => by subst e; exact o_irr g) LRP
  have F39 : ∀ j, j = 11 ∨ j = 12 ∨ j = 13 → σ9.2.1 39 j = σ3.2.1 39 j := fun j hj => by rw [LO9.2 39 j (by omega), Rσ5.2.1 39 j (by omega), Rσ4.2.1 39 j (by omega) (by omega) (by omega)]
  have K11 : σ9.2.1 39 11 = d := by rw [F39 11 (by omega), hσ3, k_IN (by omega), hσ2, k_IN (by omega), hσ1, k_II]
  have K12 : σ9.2.1 39 12 = c := by rw [F39 12 (by omega), hσ3, k_IN (by omega), hσ2, k_II]
  have K13 : σ9.2.1 39 13 = fl := by rw [F39 13 (by omega), hσ3, k_II]
  have hmk : mk_wf σ9 := ⟨by rw [K13]; exact hfl, by rw [K11]; exact hd, by rw [K12]; exact hc⟩
  have z9 : z43 (σ9.1 43) 50 := by rw [LO9.1 43 (by omega)]; exact lm6
  have C5 : σ9.2.1 a 5 = 0 := by rw [Rσ9.2.1 a 5 (by omega)]; exact C5σ8
  have C7 : σ9.2.1 a 7 = 0 := by rw [Rσ9.2.1 a 7 (by omega)]; exact C7σ8
  have C9 : σ9.2.1 a 9 = 0 := by rw [Rσ9.2.1 a 9 (by omega)]; exact C9σ8
  have hbn := bs_n_le (K := σ9.1 17) (P := σ9.1 19) hnd lm
  have hbl := bs_l_le (K := σ9.1 17) (P := σ9.1 19) hnd (fun p hp q hq h1 h2 h3 => hin1_inj (hEok p hp) (hEok q hq) h1 h2 h3) lm
  have hSL : v_seg (σ9.1 42) 0 lm := by rw [LO9.1 42 (by omega)]; exact lm2
  have hLI : σ9.2.1 39 6 = (lm.length : Int) := by rw [LO9.2 39 6 (by omega)]; exact lm1
  have hSR : v_seg (σ9.1 41) 0 lr := by rw [LO9.1 41 (by omega), Rσ5.1 41 (by omega) (by omega)]; exact lr2
  have hRK : σ9.2.1 39 4 = (lr.length : Int) := by rw [LO9.2 39 4 (by omega), Rσ5.2.1 39 4 (by omega)]; exact lr1
  have hrow : ∀ h, 0 ≤ h → h < σ.2.1 8 3 → row_eq σ9 (a + 7) σ (if 0 < σ.1 14 h then 12 else 9) h := fun h h0 h1 => by
    have hev := hwh.1
    have g := Zσ8 h h0 (by rw [Xσ7.2.1 8 3 (by omega)]; exact h1)
    have e8 : σ9.1 (a + 7 + 1) = σ8.1 (a + 7 + 1) := Rσ9.1 _ (by omega)
    have e9 : σ9.1 (a + 7 + 2) = σ8.1 (a + 7 + 2) := Rσ9.1 _ (by omega)
    rw [Xσ7.1 14 (by omega)] at g
    by_cases q : 0 < σ.1 14 h
    · rw [if_pos q] at g ⊢
      refine ⟨by rw [e9, g.1, Xσ7.1 _ (by omega)], fun i i0 i1 i2 => by rw [e8, g.2 i i0 i1 (by rw [Xσ7.1 _ (by omega)]; exact i2), Xσ7.1 _ (by omega)]⟩
    · rw [if_neg q] at g ⊢
      have r9 := r_cpA_row (σ := σ6) (a := a + 7) (b := 9) h0 (show h < 30 by omega)
      rw [← hσ7] at r9
      refine ⟨by rw [e9, g.1, r9.1, Xσ6.1 _ (by omega)], fun i i0 i1 i2 => by rw [e8, g.2 i i0 i1 (by rw [r9.1, Xσ6.1 _ (by omega)]; exact i2), r9.2 i i0 i1 (by rw [Xσ6.1 _ (by omega)]; exact i2), Xσ6.1 _ (by omega)]⟩
  refine l_fi63 hn (fi_mwf Xσ9 hw) hmk ha hA K12 K11 hSL (fun x hx => (fi_mis Xσ9 x).mpr ((LM x).mp hx)) lm5 hLI hE hEc hE5 (fun p hp => okp_in (hEok p hp)) (fun τ1 hP => ?_) E [] 0 σ9 rfl rfl ⟨pf_fr_r, WIσ9, fun k k0 k1 => absurd k1 (by omega), z9.2, fun i => ⟨Or.inl, fun g => g.elim id (fun ⟨_, g, _⟩ => by cases g)⟩, by rw [C5]; rfl, fun e h => absurd h (by simp)⟩ (by omega)
  refine a_iconst (pc := 85) (n := 0) (by decide +kernel) ?_
  refine a_istore (pc := 86) (i := 6) (lv' := [(0, .ref 39), (1, .ref a), (2, j_i od), (3, j_i d), (4, j_i c), (5, j_i fl), (6, j_i 0)]) (by decide +kernel) (Nat.le_of_ble_eq_true rfl) rfl ?_
  refine l_fi88 hn (pf_mwf ha hP.1 (fi_mwf Xσ9 hw)) (fi_hwf (fi_t Xσ9 (fi_pf ha hP.1)) hwh) ha hA (by rw [hP.1.1 42 (by omega) (by omega) (by omega) (by omega) (by omega)]; exact hSL) (fun x hx => (fi_mis (fi_t Xσ9 (fi_pf ha hP.1)) x).mpr ((LM x).mp hx)) lm5 ((hP.1.2.1 39 6 (by omega) (by omega) (by omega)).trans hLI) (by rw [hP.1.1 41 (by omega) (by omega) (by omega) (by omega) (by omega)]; exact hSR) (fun x hx => (fi_his (fi_t Xσ9 (fi_pf ha hP.1)) x).mpr ((LR x).mp hx)) lr5 ((hP.1.2.1 39 4 (by omega) (by omega) (by omega)).trans hRK) hndr (by rw [hP.1.1 (a + 1) (by omega) (by omega) (by omega) (by omega) (by omega)]; exact hE) ((hP.1.2.1 a 0 (by omega) (by omega) (by omega)).trans hEc) hE5 (fun p hp => okp_in (hEok p hp)) (fun τ2 hL => ?_) E [] 0 τ1 rfl rfl ⟨ad_fr_r, hP.2.1, by rw [hP.1.2.1 a 7 (by omega) (by omega) (by omega), C7]; rfl, fun e h => absurd h (by simp)⟩ (by rw [hP.1.2.1 a 7 (by omega) (by omega) (by omega), hP.1.1 17 (by omega) (by omega) (by omega) (by omega) (by omega), hP.1.1 19 (by omega) (by omega) (by omega) (by omega) (by omega)]; omega)
  refine l_fi110 hn ha hA hL.2.1 (by rw [hL.1.1 43 (by omega) (by omega) (by omega)]; exact hP.2.2.2.1) (by rw [hL.1.2.1 a 9 (by omega), hP.1.2.1 a 9 (by omega) (by omega) (by omega)]; exact C9) (fun f hf v n' ρ hO => ?_)
  exact fi_end ha hw Xσ9 K13 (fun i => by rw [Rσ9.1 40 (by omega), Rσ9.1 41 (by omega)]; exact RGσ8 i) (r_wf_congr (Rσ9.1 _ (by omega)) (Rσ9.1 _ (by omega)) Wσ8) z9 LR LRP LM LMP lm5 hEc hE hEp hEm hE5 hrow hP hL hf hO
