def wcf (σ τ : k_St) : Prop := (∀ c, c ≠ 96 → c ≠ 97 → τ.1 c = σ.1 c) ∧ τ.2 = σ.2
def WI (σ τ : k_St) (k : Int) : Prop := wcf σ τ ∧ ∀ h, 0 ≤ h → h < k → h_is σ h → τ.1 96 h = e_sl (σ.1 69) h ∧ ∀ i, 0 ≤ i → i < e_sl (σ.1 69) h → τ.1 97 (16 * h + i) = f_fold (e_st (σ.1 69) h i)
/-- one head's signs -/
def WJ (ρ τ : k_St) (g : Int → Int) (h k : Int) : Prop := (∀ c, c ≠ 97 → τ.1 c = ρ.1 c) ∧ τ.2 = ρ.2 ∧ (∀ j, j < 16 * h → τ.1 97 j = ρ.1 97 j) ∧ ∀ i, 0 ≤ i → i < k → τ.1 97 (16 * h + i) = f_fold (e_st g h i)
theorem WJ_s {ρ τ τ' : k_St} {g : Int → Int} {h k : Int} (k0 : 0 ≤ k) (hj : WJ ρ τ g h k) (e : τ' = k_sA τ 97 (j_up (τ.1 97) (16 * h + k) (f_fold (e_st g h k)))) : WJ ρ τ' g h (k + 1) := by
  obtain ⟨h1, h2, h3, h4⟩ := hj
  have f : τ'.1 97 = j_up (τ.1 97) (16 * h + k) (f_fold (e_st g h k)) := by rw [e, k_AA]
  refine ⟨fun c hc => by rw [e, k_AN hc]; exact h1 c hc, by rw [e]; exact h2, fun j hj => by rw [f, j_upN (by omega)]; exact h3 j hj, fun i i0 i1 => ?_⟩
  rw [f]
  by_cases c : i = k
  · rw [c, j_upS]
  · rw [j_upN (by omega)]; exact h4 i i0 (by omega)
theorem WI_s {σ τ s1 τ' : k_St} {k w : Int} (k0 : 0 ≤ k) (hi : WI σ τ k) (hk : k < 30) (hl : ∀ h, 0 ≤ h → h < k → h_is σ h → e_sl (σ.1 69) h ≤ 16) (e1 : s1 = k_sA τ 96 (j_up (τ.1 96) k w)) (hw : h_is σ k → w = e_sl (σ.1 69) k) (hj : WJ s1 τ' (σ.1 69) k w) : WI σ τ' (k + 1) := by
  obtain ⟨h1, h2⟩ := hi
  obtain ⟨j1, j2, j3, j4⟩ := hj
  have f96 : τ'.1 96 = j_up (τ.1 96) k w := by rw [j1 96 (by omega), e1, k_AA]
  have f97 : ∀ j, j < 16 * k → τ'.1 97 j = τ.1 97 j := fun j hj => by rw [j3 j hj, e1, k_AN (by omega)]
  refine ⟨⟨fun c q1 q2 => by rw [j1 c q2, e1, k_AN q1]; exact h1.1 c q1 q2, by rw [j2, e1]; exact h1.2⟩, fun h h0 h3 h4 => ?_⟩
  by_cases c : h = k
  · rw [c] at h4 ⊢
    have := hw h4
    rw [f96, j_upS]
    exact ⟨this, fun i i0 i1 => j4 i i0 (by omega)⟩
  · have z := h2 h h0 (by omega) h4
    have z2 := hl h h0 (by omega) h4
    rw [f96, j_upN c]
    exact ⟨z.1, fun i i0 i1 => by rw [f97 _ (by omega)]; exact z.2 i i0 i1⟩
set_option maxHeartbeats 4000000 in
theorem l_bd356 {G : j_G} {X : k_X} {n : Nat} {σ : k_St} (hn : 101 ≤ n) (hK : RKept σ) {od d c h w : Int} (h0 : 0 ≤ h) (h1 : h < σ.1 69 301) (hw : σ.1 96 h = w) (w0 : 0 ≤ w ∧ w ≤ e_sl (σ.1 69) h) {Q : k_P} (kk : ∀ τ k, WJ σ τ (σ.1 69) h w → j_at G mX12_build 398 [(0, .ref 68), (1, j_i od), (2, j_i d), (3, j_i c), (4, j_i h), (5, j_i k)] [] (k_h X n τ) 0 0 (k_Q X Q))  : ∀ (z : Nat) (k : Int) (τ : k_St), 17 - k < (z : Int) → 0 ≤ k → k ≤ w → WJ σ τ (σ.1 69) h k → j_at G mX12_build 356 [(0, .ref 68), (1, j_i od), (2, j_i d), (3, j_i c), (4, j_i h), (5, j_i k)] [] (k_h X n τ) 0 0 (k_Q X Q) := by
  have hg := hK.2.2.2
  have hg3 := (KR_rg hK.1 hK.2.1).1.2.1
  have hl := e_sl_in hK h0 h1
  intro z
  induction z with
  | zero => intro k τ h1 h2 h3; exact absurd h1 (by omega)
  | succ z ih =>
    intro k τ hz k0 kN hJ
    refine a_iload (pc := 356) (i := 5) (by decide +kernel) rfl ?_
    refine a_aload_n (pc := 358) (i := 0) (by decide +kernel) rfl ?_
    refine b_getR (pc := 359) (b := 96) fl_X12_96 (by decide +kernel) (sh_68 hn) rfl ?_
    refine a_iload (pc := 362) (i := 4) (by decide +kernel) rfl ?_
    refine b_iaload (pc := 364) (by decide +kernel) (sh_96 hn) (by omega) (by omega) (by omega) ?_
    rw [show τ.1 96 = σ.1 96 from hJ.1 96 (by omega)]
    rw [show σ.1 96 h = w from hw]
    refine a_icmp_ge (pc := 365) (off := 33) (tgt := 398) (by decide +kernel) (by decide) (by omega) (by omega) (fun c365 => ?_) (fun c365 => ?_)
    · rw [show k = w by omega] at hJ
      exact kk τ k hJ
    · refine a_aload_n (pc := 368) (i := 0) (by decide +kernel) rfl ?_
      refine b_getR (pc := 369) (b := 97) fl_X12_99 (by decide +kernel) (sh_68 hn) rfl ?_
      refine a_bipush (pc := 372) (n := 16) (by decide +kernel) rfl ?_
      refine a_iload (pc := 374) (i := 4) (by decide +kernel) rfl ?_
      refine a_imul (pc := 376) (by decide +kernel) ?_
      refine a_iload (pc := 377) (i := 5) (by decide +kernel) rfl ?_
      refine a_iadd (pc := 379) (by decide +kernel) ?_
      refine a_aload_n (pc := 380) (i := 0) (by decide +kernel) rfl ?_
      refine a_iload (pc := 381) (i := 4) (by decide +kernel) rfl ?_
      refine a_iload (pc := 383) (i := 5) (by decide +kernel) rfl ?_
      refine b_pureV (pc := 385) [j_i h, j_i k] [j_i ((16 * h) + k), .ref 97] ml_X12_224 (by decide +kernel) rfl rfl (sh_68 hn) rfl rfl (Nat.le_of_ble_eq_true rfl) (j_fitI rfl rfl) (s_dsortedSign hn (by rw [hJ.1 69 (by omega)]; exact hg) (by omega) (by omega)) ?_
      rw [hJ.1 69 (by omega)]
      have q := e_st_in hK h0 h1 (i := k) (by omega) (by omega)
      show j_at _ _ _ [(0, .ref 68), (1, j_i od), (2, j_i d), (3, j_i c), (4, j_i h), (5, j_i k)] [j_i (e_st (σ.1 69) h k), j_i ((16 * h) + k), .ref 97] _ _ _ _
      refine b_pureS (pc := 388) [j_i (e_st (σ.1 69) h k)] [j_i ((16 * h) + k), .ref 97] ml_X12_218 (by decide +kernel) rfl rfl (Nat.le_of_ble_eq_true rfl) (j_fitI rfl rfl) (s_dsmall (by omega)) ?_
      show j_at _ _ _ [(0, .ref 68), (1, j_i od), (2, j_i d), (3, j_i c), (4, j_i h), (5, j_i k)] [j_i (f_fold (e_st (σ.1 69) h k)), j_i ((16 * h) + k), .ref 97] _ _ _ _
      refine b_iastore (pc := 391) (by decide +kernel) (sh_97 hn) (by omega) (by omega) (by omega) ?_
      obtain ⟨σ1, hσ1⟩ : ∃ z, z = k_sA τ 97 (j_up (τ.1 97) ((16 * h) + k) (f_fold (e_st (σ.1 69) h k))) := ⟨_, rfl⟩
      rw [← hσ1]
      refine a_iinc (pc := 392) (i := 5) (n := 1) (x := k) (lv' := [(0, .ref 68), (1, j_i od), (2, j_i d), (3, j_i c), (4, j_i h), (5, j_i (k + 1))]) (by decide +kernel) rfl (Nat.le_of_ble_eq_true rfl) rfl ?_
      refine a_goto (pc := 395) (off := -39) (tgt := 356) (by decide +kernel) (by decide) ?_
      exact ih (k + 1) σ1 (by omega) (by omega) (by omega) (WJ_s k0 hJ hσ1)
set_option maxHeartbeats 4000000 in
theorem l_bd318 {G : j_G} {X : k_X} {n : Nat} {σ : k_St} (hn : 101 ≤ n) (hK : RKept σ) {od d c : Int} {Q : k_P} (kk : ∀ τ h, WI σ τ (σ.1 69 301) → j_at G mX12_build 404 [(0, .ref 68), (1, j_i od), (2, j_i d), (3, j_i c), (4, j_i h)] [] (k_h X n τ) 0 0 (k_Q X Q))  : ∀ (z : Nat) (h : Int) (τ : k_St), 31 - h < (z : Int) → 0 ≤ h → h ≤ σ.1 69 301 → WI σ τ h → j_at G mX12_build 318 [(0, .ref 68), (1, j_i od), (2, j_i d), (3, j_i c), (4, j_i h)] [] (k_h X n τ) 0 0 (k_Q X Q) := by
  have hg := hK.2.2.2
  have hg3 := (KR_rg hK.1 hK.2.1).1.2.1
  intro z
  induction z with
  | zero => intro h τ h1 h2 h3; exact absurd h1 (by omega)
  | succ z ih =>
    intro h τ hz h0 hN hI
    refine a_iload (pc := 318) (i := 4) (by decide +kernel) rfl ?_
    refine a_aload_n (pc := 320) (i := 0) (by decide +kernel) rfl ?_
    refine b_pureV (pc := 321) [] [j_i h] ml_X12_180 (by decide +kernel) rfl rfl (sh_68 hn) rfl rfl (Nat.le_of_ble_eq_true rfl) (j_fitI rfl rfl) (s_dheadsEver hn) ?_
    rw [hI.1.1 69 (by omega) (by omega)]
    show j_at _ _ _ [(0, .ref 68), (1, j_i od), (2, j_i d), (3, j_i c), (4, j_i h)] [j_i (σ.1 69 301), j_i h] _ _ _ _
    refine a_icmp_ge (pc := 324) (off := 80) (tgt := 404) (by decide +kernel) (by decide) (by omega) (by omega) (fun c324 => ?_) (fun c324 => ?_)
    · rw [show h = σ.1 69 301 by omega] at hI
      exact kk τ h hI
    · refine a_aload_n (pc := 327) (i := 0) (by decide +kernel) rfl ?_
      refine b_getR (pc := 328) (b := 96) fl_X12_96 (by decide +kernel) (sh_68 hn) rfl ?_
      refine a_iload (pc := 331) (i := 4) (by decide +kernel) rfl ?_
      refine a_aload_n (pc := 333) (i := 0) (by decide +kernel) rfl ?_
      refine a_iload (pc := 334) (i := 4) (by decide +kernel) rfl ?_
      refine b_callV (pc := 336) (c' := 0) (sl' := 0) [j_i h] [j_i h, .ref 96] ml_X12_202 (by decide +kernel) rfl rfl (sh_68 hn) rfl rfl (Nat.le_of_ble_eq_true rfl) (j_fitI rfl rfl) (s_disHead hn (by rw [hI.1.1 69 (by omega) (by omega)]; exact hg) (by omega) (by rw [hI.1.1 69 (by omega) (by omega)]; exact hg3)) (fun v n' σ' hq => ?_)
      obtain ⟨x, rfl, e1, e2, hx⟩ := hq
      rw [e1, e2]; clear e1 e2
      rcases hx with ⟨rfl, p336⟩ | ⟨rfl, p336⟩
      · show j_at _ _ _ [(0, .ref 68), (1, j_i od), (2, j_i d), (3, j_i c), (4, j_i h)] [j_i 1, j_i h, .ref 96] _ _ _ _
        rw [show d_is τ h ↔ h_is σ h by rw [show d_is τ h ↔ d_is σ h by unfold d_is; rw [hI.1.1 69 (by omega) (by omega)]]; exact RK_h' hK h] at p336
        refine a_if_eq (pc := 339) (off := 12) (tgt := 351) (by decide +kernel) (by decide) (by omega) (fun c339 => ?_) (fun c339 => ?_)
        · exact absurd c339 (by decide)
        · refine a_aload_n (pc := 342) (i := 0) (by decide +kernel) rfl ?_
          refine a_iload (pc := 343) (i := 4) (by decide +kernel) rfl ?_
          refine b_pureV (pc := 345) [j_i h] [j_i h, .ref 96] ml_X12_221 (by decide +kernel) rfl rfl (sh_68 hn) rfl rfl (Nat.le_of_ble_eq_true rfl) (j_fitI rfl rfl) (s_dsortedLong hn (by rw [hI.1.1 69 (by omega) (by omega)]; exact hg) (by omega)) ?_
          rw [hI.1.1 69 (by omega) (by omega)]
          show j_at _ _ _ [(0, .ref 68), (1, j_i od), (2, j_i d), (3, j_i c), (4, j_i h)] [j_i (e_sl (σ.1 69) h), j_i h, .ref 96] _ _ _ _
          refine a_goto (pc := 348) (off := 4) (tgt := 352) (by decide +kernel) (by decide) ?_
          skip
          refine b_iastore (pc := 352) (by decide +kernel) (sh_96 hn) (by omega) (by omega) (by omega) ?_
          obtain ⟨σ1, hσ1⟩ : ∃ z, z = k_sA τ 96 (j_up (τ.1 96) h (e_sl (σ.1 69) h)) := ⟨_, rfl⟩
          rw [← hσ1]
          refine a_iconst (pc := 353) (n := 0) (by decide +kernel) ?_
          refine a_istore (pc := 354) (i := 5) (lv' := [(0, .ref 68), (1, j_i od), (2, j_i d), (3, j_i c), (4, j_i h), (5, j_i 0)]) (by decide +kernel) (Nat.le_of_ble_eq_true rfl) rfl ?_
          have e69 : σ1.1 69 = σ.1 69 := by rw [hσ1, k_AN (by omega)]; exact hI.1.1 69 (by omega) (by omega)
          have hK2 : RKept σ1 := RKept_cg (fun c _ _ => by rw [hσ1, k_AN (by omega)]; exact hI.1.1 c (by omega) (by omega)) (fun c j _ _ => by rw [hσ1]; show τ.2.1 c j = _; rw [hI.1.2]) e69 hK
          refine l_bd356 (w := e_sl (σ.1 69) h) hn hK2 h0 (by rw [e69]; omega) (by rw [hσ1, k_AA, j_upS]) (by rw [e69]; have := e_sl_in hK h0 (by omega); omega) (fun τ' k' hJ' => ?_) 19 0 σ1 (by omega) (by omega) (by have := e_sl_in hK h0 (by omega); omega) ⟨fun _ _ => rfl, rfl, fun _ _ => rfl, fun i i0 i1 => absurd i1 (by omega)⟩
          refine a_iinc (pc := 398) (i := 4) (n := 1) (x := h) (lv' := [(0, .ref 68), (1, j_i od), (2, j_i d), (3, j_i c), (4, j_i (h + 1)), (5, j_i k')]) (by decide +kernel) rfl (Nat.le_of_ble_eq_true rfl) rfl ?_
          refine a_goto (pc := 401) (off := -83) (tgt := 318) (by decide +kernel) (by decide) ?_
          exact a_sub (lv' := [(0, .ref 68), (1, j_i od), (2, j_i d), (3, j_i c), (4, j_i (h + 1))]) (fun q hq => by simp only [List.mem_cons, List.not_mem_nil, or_false] at hq ⊢; rcases hq with rfl | rfl | rfl | rfl | rfl <;> simp) (ih (h + 1) τ' (by omega) (by omega) (by omega) (WI_s h0 hI (by omega) (fun q q0 q1 q2 => (e_sl_in hK q0 (by omega)).2) hσ1 (fun v => rfl) (by rw [show σ1.1 69 = σ.1 69 from e69] at hJ'; exact hJ')))
      · show j_at _ _ _ [(0, .ref 68), (1, j_i od), (2, j_i d), (3, j_i c), (4, j_i h)] [j_i 0, j_i h, .ref 96] _ _ _ _
        rw [show d_is τ h ↔ h_is σ h by rw [show d_is τ h ↔ d_is σ h by unfold d_is; rw [hI.1.1 69 (by omega) (by omega)]]; exact RK_h' hK h] at p336
        refine a_if_eq (pc := 339) (off := 12) (tgt := 351) (by decide +kernel) (by decide) (by omega) (fun c339 => ?_) (fun c339 => ?_)
        · refine a_iconst (pc := 351) (n := 0) (by decide +kernel) ?_
          skip
          refine b_iastore (pc := 352) (by decide +kernel) (sh_96 hn) (by omega) (by omega) (by omega) ?_
          obtain ⟨σ2, hσ2⟩ : ∃ z, z = k_sA τ 96 (j_up (τ.1 96) h 0) := ⟨_, rfl⟩
          rw [← hσ2]
          refine a_iconst (pc := 353) (n := 0) (by decide +kernel) ?_
          refine a_istore (pc := 354) (i := 5) (lv' := [(0, .ref 68), (1, j_i od), (2, j_i d), (3, j_i c), (4, j_i h), (5, j_i 0)]) (by decide +kernel) (Nat.le_of_ble_eq_true rfl) rfl ?_
          have e69 : σ2.1 69 = σ.1 69 := by rw [hσ2, k_AN (by omega)]; exact hI.1.1 69 (by omega) (by omega)
          have hK2 : RKept σ2 := RKept_cg (fun c _ _ => by rw [hσ2, k_AN (by omega)]; exact hI.1.1 c (by omega) (by omega)) (fun c j _ _ => by rw [hσ2]; show τ.2.1 c j = _; rw [hI.1.2]) e69 hK
          refine l_bd356 (w := 0) hn hK2 h0 (by rw [e69]; omega) (by rw [hσ2, k_AA, j_upS]) (by rw [e69]; have := e_sl_in hK h0 (by omega); omega) (fun τ' k' hJ' => ?_) 19 0 σ2 (by omega) (by omega) (by have := e_sl_in hK h0 (by omega); omega) ⟨fun _ _ => rfl, rfl, fun _ _ => rfl, fun i i0 i1 => absurd i1 (by omega)⟩
          refine a_iinc (pc := 398) (i := 4) (n := 1) (x := h) (lv' := [(0, .ref 68), (1, j_i od), (2, j_i d), (3, j_i c), (4, j_i (h + 1)), (5, j_i k')]) (by decide +kernel) rfl (Nat.le_of_ble_eq_true rfl) rfl ?_
          refine a_goto (pc := 401) (off := -83) (tgt := 318) (by decide +kernel) (by decide) ?_
          exact a_sub (lv' := [(0, .ref 68), (1, j_i od), (2, j_i d), (3, j_i c), (4, j_i (h + 1))]) (fun q hq => by simp only [List.mem_cons, List.not_mem_nil, or_false] at hq ⊢; rcases hq with rfl | rfl | rfl | rfl | rfl <;> simp) (ih (h + 1) τ' (by omega) (by omega) (by omega) (WI_s h0 hI (by omega) (fun q q0 q1 q2 => (e_sl_in hK q0 (by omega)).2) hσ2 (fun v => absurd v p336) (by rw [show σ2.1 69 = σ.1 69 from e69] at hJ'; exact hJ')))
        · exact absurd c339 (by decide)
def usf (σ τ : k_St) : Prop := (∀ c, c ≠ 95 → τ.1 c = σ.1 c) ∧ τ.2 = σ.2
def US (σ τ : k_St) (U : Int → Prop) : Prop := usf σ τ ∧ UN τ U
theorem US_sw {σ τ s1 s2 : k_St} {U : Int → Prop} {i v : Int} (h : US σ τ U) (i0 : 0 < i) (i1 : i < τ.2.1 68 43) (hv : v = τ.1 95 i) (e1 : s1 = k_sA τ 95 (j_up (τ.1 95) i (τ.1 95 (i - 1)))) (e2 : s2 = k_sA s1 95 (j_up (s1.1 95) (i - 1) v)) : US σ s2 U ∧ s2.1 95 = sw (τ.1 95) i ∧ s2.2.1 68 43 = τ.2.1 68 43 := by
  obtain ⟨h1, u1, u2, u3, u4⟩ := h
  have f : s2.1 95 = sw (τ.1 95) i := by
    rw [e2, k_AA, e1, k_AA]
    funext j
    by_cases c : j = i
    · rw [c, sw_i, j_upN (by omega), j_upS]
    · by_cases d : j = i - 1
      · rw [d, sw_p, j_upS]; exact hv
      · rw [sw_n c d, j_upN d, j_upN c]
  have en : s2.2.1 68 43 = τ.2.1 68 43 := by rw [e2, e1]; rfl
  refine ⟨⟨⟨fun c hc => by rw [e2, k_AN hc, e1, k_AN hc]; exact h1.1 c hc, by rw [e2, e1]; exact h1.2⟩, ?_⟩, f, en⟩
  unfold UN
  rw [f, en]
  refine ⟨u1, ij_sw u2 i0 i1, fun k k0 k1 => ?_, fun x => by rw [sw_im i0 i1]; exact u4 x⟩
  by_cases c : k = i
  · rw [c, sw_i]; exact u3 _ (by omega) (by omega)
  · by_cases d : k = i - 1
    · rw [d, sw_p]; exact u3 _ (by omega) (by omega)
    · rw [sw_n c d]; exact u3 k k0 k1
set_option maxHeartbeats 4000000 in
theorem l_bd420 {G : j_G} {X : k_X} {n : Nat} {σ : k_St} (hn : 101 ≤ n) {od d c i : Int} {U : Int → Prop} (i0 : 1 ≤ i) {Q : k_P} (kk : ∀ a τ, US σ τ U → so (fun x y : Int => x < y) (τ.1 95) (i + 1) → j_at G mX12_build 486 [(0, .ref 68), (1, j_i od), (2, j_i d), (3, j_i c), (4, j_i i), (5, j_i a)] [] (k_h X n τ) 0 0 (k_Q X Q))  : ∀ (z : Nat) (a : Int) (τ : k_St), a < (z : Int) → 0 ≤ a → a ≤ i → US σ τ U → i < τ.2.1 68 43 → sS (fun x y : Int => x < y) (τ.1 95) i a → j_at G mX12_build 420 [(0, .ref 68), (1, j_i od), (2, j_i d), (3, j_i c), (4, j_i i), (5, j_i a)] [] (k_h X n τ) 0 0 (k_Q X Q) := by
  intro z
  induction z with
  | zero => intro a τ h1 h2; exact absurd h1 (by omega)
  | succ z ih =>
    intro a τ hz h0 hN hS i1 hI
    obtain ⟨q1, u1, u2, u3, u4⟩ := id hS
    refine a_iload (pc := 420) (i := 5) (by decide +kernel) rfl ?_
    refine a_if_le (pc := 422) (off := 64) (tgt := 486) (by decide +kernel) (by decide) (by omega) (fun c422 => ?_) (fun c422 => ?_)
    · refine kk a τ hS (sS_e (fun x y z (h1 : x < y) (h2 : y < z) => Int.lt_trans h1 h2) hI (by omega) ?_)
      by_cases c : a = 0
      · exact Or.inl c
      · refine Or.inr ?_
        have w : τ.1 95 (a - 1) ≠ τ.1 95 a := fun w => by have := u2 _ _ (by omega) (by omega) (by omega) (by omega) w; omega
        show τ.1 95 (a - 1) < τ.1 95 a
        have w4 : τ.1 95 (a - 1) ≤ τ.1 95 a := by omega
        omega
    · have y1 := u3 a (by omega) (by omega)
      have y2 := u3 (a - 1) (by omega) (by omega)
      refine a_aload_n (pc := 425) (i := 0) (by decide +kernel) rfl ?_
      refine b_getR (pc := 426) (b := 95) fl_X12_93 (by decide +kernel) (sh_68 hn) rfl ?_
      refine a_iload (pc := 429) (i := 5) (by decide +kernel) rfl ?_
      refine a_iconst (pc := 431) (n := 1) (by decide +kernel) ?_
      refine a_isub (pc := 432) (by decide +kernel) ?_
      refine b_iaload (pc := 433) (by decide +kernel) (sh_95 hn) (by omega) (by omega) (by omega) ?_
      refine a_aload_n (pc := 434) (i := 0) (by decide +kernel) rfl ?_
      refine b_getR (pc := 435) (b := 95) fl_X12_93 (by decide +kernel) (sh_68 hn) rfl ?_
      refine a_iload (pc := 438) (i := 5) (by decide +kernel) rfl ?_
      refine b_iaload (pc := 440) (by decide +kernel) (sh_95 hn) (by omega) (by omega) (by omega) ?_
      refine a_icmp_le (pc := 441) (off := 45) (tgt := 486) (by decide +kernel) (by decide) (by omega) (by omega) (fun c441 => ?_) (fun c441 => ?_)
      · refine kk a τ hS (sS_e (fun x y z (h1 : x < y) (h2 : y < z) => Int.lt_trans h1 h2) hI (by omega) ?_)
        by_cases c : a = 0
        · exact Or.inl c
        · refine Or.inr ?_
          have w : τ.1 95 (a - 1) ≠ τ.1 95 a := fun w => by have := u2 _ _ (by omega) (by omega) (by omega) (by omega) w; omega
          show τ.1 95 (a - 1) < τ.1 95 a
          have w4 : τ.1 95 (a - 1) ≤ τ.1 95 a := by omega
          omega
      · refine a_aload_n (pc := 444) (i := 0) (by decide +kernel) rfl ?_
        refine b_getR (pc := 445) (b := 95) fl_X12_93 (by decide +kernel) (sh_68 hn) rfl ?_
        refine a_iload (pc := 448) (i := 5) (by decide +kernel) rfl ?_
        refine b_iaload (pc := 450) (by decide +kernel) (sh_95 hn) (by omega) (by omega) (by omega) ?_
        refine a_istore (pc := 451) (i := 6) (lv' := [(0, .ref 68), (1, j_i od), (2, j_i d), (3, j_i c), (4, j_i i), (5, j_i a), (6, j_i (τ.1 95 a))]) (by decide +kernel) (Nat.le_of_ble_eq_true rfl) rfl ?_
        refine a_aload_n (pc := 453) (i := 0) (by decide +kernel) rfl ?_
        refine b_getR (pc := 454) (b := 95) fl_X12_93 (by decide +kernel) (sh_68 hn) rfl ?_
        refine a_iload (pc := 457) (i := 5) (by decide +kernel) rfl ?_
        refine a_aload_n (pc := 459) (i := 0) (by decide +kernel) rfl ?_
        refine b_getR (pc := 460) (b := 95) fl_X12_93 (by decide +kernel) (sh_68 hn) rfl ?_
        refine a_iload (pc := 463) (i := 5) (by decide +kernel) rfl ?_
        refine a_iconst (pc := 465) (n := 1) (by decide +kernel) ?_
        refine a_isub (pc := 466) (by decide +kernel) ?_
        refine b_iaload (pc := 467) (by decide +kernel) (sh_95 hn) (by omega) (by omega) (by omega) ?_
        refine b_iastore (pc := 468) (by decide +kernel) (sh_95 hn) (by omega) (by omega) (by omega) ?_
        obtain ⟨σ1, hσ1⟩ : ∃ z, z = k_sA τ 95 (j_up (τ.1 95) a (τ.1 95 (a - 1))) := ⟨_, rfl⟩
        rw [← hσ1]
        refine a_aload_n (pc := 469) (i := 0) (by decide +kernel) rfl ?_
        refine b_getR (pc := 470) (b := 95) fl_X12_93 (by decide +kernel) (sh_68 hn) rfl ?_
        refine a_iload (pc := 473) (i := 5) (by decide +kernel) rfl ?_
        refine a_iconst (pc := 475) (n := 1) (by decide +kernel) ?_
        refine a_isub (pc := 476) (by decide +kernel) ?_
        refine a_iload (pc := 477) (i := 6) (by decide +kernel) rfl ?_
        refine b_iastore (pc := 479) (by decide +kernel) (sh_95 hn) (by omega) (by omega) (by omega) ?_
        obtain ⟨σ2, hσ2⟩ : ∃ z, z = k_sA σ1 95 (j_up (σ1.1 95) (a - 1) (τ.1 95 a)) := ⟨_, rfl⟩
        rw [← hσ2]
        refine a_iinc (pc := 480) (i := 5) (n := -1) (x := a) (lv' := [(0, .ref 68), (1, j_i od), (2, j_i d), (3, j_i c), (4, j_i i), (5, j_i (a + (-1))), (6, j_i (τ.1 95 a))]) (by decide +kernel) rfl (Nat.le_of_ble_eq_true rfl) rfl ?_
        refine a_goto (pc := 483) (off := -63) (tgt := 420) (by decide +kernel) (by decide) ?_
        have y := US_sw hS (by omega) (by omega) rfl hσ1 hσ2
        exact a_sub (lv' := [(0, .ref 68), (1, j_i od), (2, j_i d), (3, j_i c), (4, j_i i), (5, j_i (a + -1))]) (fun q hq => by simp only [List.mem_cons, List.not_mem_nil, or_false] at hq ⊢; rcases hq with rfl | rfl | rfl | rfl | rfl | rfl <;> simp) (ih (a + -1) σ2 (by omega) (by omega) (by omega) y.1 (by rw [y.2.2]; exact i1) (by rw [y.2.1, show a + -1 = a - 1 by omega]; exact sS_s hI (by omega) (by omega) (by show τ.1 95 a < τ.1 95 (a - 1); omega)))
set_option maxHeartbeats 4000000 in
theorem l_bd407 {G : j_G} {X : k_X} {n : Nat} {σ : k_St} (hn : 101 ≤ n) {od d c : Int} {U : Int → Prop} {Q : k_P} (kk : ∀ τ i, US σ τ U → so (fun x y : Int => x < y) (τ.1 95) (τ.2.1 68 43) → j_at G mX12_build 492 [(0, .ref 68), (1, j_i od), (2, j_i d), (3, j_i c), (4, j_i i)] [] (k_h X n τ) 0 0 (k_Q X Q))  : ∀ (z : Nat) (i : Int) (τ : k_St), 52 - i < (z : Int) → 1 ≤ i → i ≤ 51 → US σ τ U → so (fun x y : Int => x < y) (τ.1 95) i → j_at G mX12_build 407 [(0, .ref 68), (1, j_i od), (2, j_i d), (3, j_i c), (4, j_i i)] [] (k_h X n τ) 0 0 (k_Q X Q) := by
  intro z
  induction z with
  | zero => intro i τ h1 h2 h3; exact absurd h1 (by omega)
  | succ z ih =>
    intro i τ hz h0 hNN hS hI
    have u1 := hS.2.1
    refine a_iload (pc := 407) (i := 4) (by decide +kernel) rfl ?_
    refine a_aload_n (pc := 409) (i := 0) (by decide +kernel) rfl ?_
    refine b_getI (pc := 410) fl_X12_297 (by decide +kernel) (sh_68 hn) rfl ?_
    refine a_icmp_ge (pc := 413) (off := 79) (tgt := 492) (by decide +kernel) (by decide) (by omega) (by omega) (fun c413 => ?_) (fun c413 => ?_)
    · exact kk τ i hS (fun p q p0 p1 q1 => hI p q p0 p1 (by omega))
    · refine a_iload (pc := 416) (i := 4) (by decide +kernel) rfl ?_
      refine a_istore (pc := 418) (i := 5) (lv' := [(0, .ref 68), (1, j_i od), (2, j_i d), (3, j_i c), (4, j_i i), (5, j_i i)]) (by decide +kernel) (Nat.le_of_ble_eq_true rfl) rfl ?_
      refine l_bd420 hn h0 (fun a' τ' hS' hso' => ?_) (i.toNat + 1) i τ (by omega) (by omega) (by omega) hS (by omega) (sS_0 hI)
      refine a_iinc (pc := 486) (i := 4) (n := 1) (x := i) (lv' := [(0, .ref 68), (1, j_i od), (2, j_i d), (3, j_i c), (4, j_i (i + 1)), (5, j_i a')]) (by decide +kernel) rfl (Nat.le_of_ble_eq_true rfl) rfl ?_
      refine a_goto (pc := 489) (off := -82) (tgt := 407) (by decide +kernel) (by decide) ?_
      exact a_sub (lv' := [(0, .ref 68), (1, j_i od), (2, j_i d), (3, j_i c), (4, j_i (i + 1))]) (fun q hq => by simp only [List.mem_cons, List.not_mem_nil, or_false] at hq ⊢; rcases hq with rfl | rfl | rfl | rfl | rfl <;> simp) (ih (i + 1) τ' (by omega) (by omega) (by omega) hS' hso')
