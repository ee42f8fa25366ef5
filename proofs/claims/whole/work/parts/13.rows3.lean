theorem r_wf_congr {σ τ : k_St} {a R : Nat} (h1 : τ.1 (a + 1) = σ.1 (a + 1)) (h2 : τ.1 (a + 2) = σ.1 (a + 2)) (h : r_wf σ a R) : r_wf τ a R := by
  unfold r_wf; rw [h1, h2]; exact h
theorem r_sgn_congr {σ τ : k_St} {a R : Nat} (h1 : τ.1 (a + 1) = σ.1 (a + 1)) (h2 : τ.1 (a + 2) = σ.1 (a + 2)) (row i : Int) : r_sgn τ a R row i = r_sgn σ a R row i := by
  unfold r_sgn; rw [h1, h2]
theorem r_cnt_congr {σ τ : k_St} {a R : Nat} (h2 : τ.1 (a + 2) = σ.1 (a + 2)) (row : Int) : r_cnt τ a R row = r_cnt σ a R row := by
  unfold r_cnt; rw [h2]
/-- a row being copied: i signs of it -/
def r_cpS (σ : k_St) (a b : Nat) (row row2 i : Int) : k_St := k_sA (k_sA σ (a + 1) (j_cpy (σ.1 (b + 1)) (σ.1 (a + 1)) (row2 * 16) (row * 16) i)) (a + 2) (j_up (σ.1 (a + 2)) row i)
theorem r_cpS_1 {σ : k_St} {a b : Nat} {row row2 i : Int} : (r_cpS σ a b row row2 i).1 (a + 1) = j_cpy (σ.1 (b + 1)) (σ.1 (a + 1)) (row2 * 16) (row * 16) i := by
  unfold r_cpS; rw [k_AN (by omega), k_AA]
theorem r_cpS_2 {σ : k_St} {a b : Nat} {row row2 i : Int} : (r_cpS σ a b row row2 i).1 (a + 2) = j_up (σ.1 (a + 2)) row i := by
  unfold r_cpS; rw [k_AA]
theorem r_cpS_o {σ : k_St} {a b c : Nat} {row row2 i : Int} (h1 : c ≠ a + 1) (h2 : c ≠ a + 2) : (r_cpS σ a b row row2 i).1 c = σ.1 c := by
  unfold r_cpS; rw [k_AN h2, k_AN h1]
theorem r_cpS_0 {σ : k_St} {a b : Nat} {row row2 : Int} : k_sA σ (a + 2) (j_up (σ.1 (a + 2)) row 0) = r_cpS σ a b row row2 0 := by
  unfold r_cpS; rw [j_cpy_0]; congr 1; exact (k_sA_id rfl).symm
theorem r_cpS_s {σ : k_St} {a b : Nat} {row row2 i x : Int} (hi : 0 ≤ i) (hx : x = σ.1 (b + 1) (row2 * 16 + i)) : k_sA (k_sA (r_cpS σ a b row row2 i) (a + 1) (j_up ((r_cpS σ a b row row2 i).1 (a + 1)) (row * 16 + (r_cpS σ a b row row2 i).1 (a + 2) row) x)) (a + 2) (j_up ((r_cpS σ a b row row2 i).1 (a + 2)) row ((r_cpS σ a b row row2 i).1 (a + 2) row + 1)) = r_cpS σ a b row row2 (i + 1) := by
  rw [r_cpS_1, r_cpS_2, j_upS, j_up_up, j_cpy_up hi hx]
  unfold r_cpS
  rw [k_sA_comm (a := a + 2) (b := a + 1) (by omega), k_sA_sA, k_sA_sA]
theorem r_cpS_wf {σ : k_St} {a R b R2 : Nat} {row row2 i : Int} (hw : r_wf σ a R) (hwb : r_wf σ b R2) (h0 : 0 ≤ i) (h1 : i ≤ 16) : r_wf (r_cpS σ a b row row2 i) a R := by
  refine ⟨fun r h2 h3 => ?_, fun k => ?_⟩
  · rw [r_cpS_2]
    by_cases hr : r = row
    · rw [hr, j_upS]; omega
    · rw [j_upN hr]; exact hw.1 r h2 h3
  · rw [r_cpS_1]; unfold j_cpy; split
    · exact hwb.2 _
    · exact hw.2 _
theorem j_fitb {x : Int} (h : -128 ≤ x ∧ x ≤ 127) : fits (j_ty 1) (j_i x) = true := by
  have h9 : ∀ z : Int32, z.toInt8.toInt32 = z → fits .byte (.int z) = true := fun z hz => by rw [← hz]; exact pk_fb z
  exact h9 _ (j_i2b h)
theorem j_fitz {x : Int} (h : x = 0 ∨ x = 1) : fits (j_ty 2) (j_i x) = true := by rcases h with rfl | rfl <;> rfl
set_option maxHeartbeats 4000000 in
theorem l_copyRow {G : j_G} {X : k_X} {n : Nat} {σ : k_St} {a R b R2 : Nat} {row row2 : Int} (hR : r_at X n a R) (hw : r_wf σ a R) (hRb : r_at X n b R2) (hwb : r_wf σ b R2) (hab : a + 2 < b ∨ b + 2 < a) (r0 : 0 ≤ row) (r1 : row < R) (q0 : 0 ≤ row2) (q1 : row2 < R2)  : ∀ (m : Nat) (i : Int), 16 - i < (m : Int) → 0 ≤ i → i ≤ σ.1 (b + 2) row2 → j_at G mX9_copyRow 8 [(0, .ref a), (1, j_i row), (2, .ref b), (3, j_i row2), (4, j_i i)] [] (k_h X n (r_cpS σ a b row row2 i)) 0 0 (k_Q X (k_is n (r_cpS σ a b row row2 (σ.1 (b + 2) row2)) none)) := by
  intro m
  induction m with
  | zero => intro i h1 h2 h3; exact absurd h3 (by have := hwb.1 row2 q0 q1; omega)
  | succ m ih =>
    intro i hm h0 hN
    obtain ⟨h5, h30, hs0, hs1, hs2⟩ := id hR
    obtain ⟨g5, g30, gs0, gs1, gs2⟩ := id hRb
    have qz := hwb.1 row2 q0 q1
    have hwi := r_cpS_wf (row := row) (row2 := row2) hw hwb h0 (by omega)
    have hwbi : r_wf (r_cpS σ a b row row2 i) b R2 := r_wf_congr (r_cpS_o (by omega) (by omega)) (r_cpS_o (by omega) (by omega)) hwb
    have ec : r_cnt (r_cpS σ a b row row2 i) b R2 row2 = σ.1 (b + 2) row2 := by unfold r_cnt; rw [if_pos (by omega), r_cpS_o (by omega) (by omega)]
    refine a_iload (pc := 8) (i := 4) (by decide +kernel) rfl ?_
    refine a_aload_n (pc := 10) (i := 2) (by decide +kernel) rfl ?_
    refine a_iload_n (pc := 11) (i := 3) (by decide +kernel) rfl ?_
    refine b_pureV (pc := 12) [j_i row2] [j_i i] ml_X9_29 (by decide +kernel) rfl rfl gs0 rfl rfl (Nat.le_of_ble_eq_true rfl) (j_fitI rfl rfl) (s_countOf hRb hwbi (by omega)) ?_
    have qc := r_cnt_in hwbi row2
    show j_at _ _ _ [(0, .ref a), (1, j_i row), (2, .ref b), (3, j_i row2), (4, j_i i)] [j_i (r_cnt (r_cpS σ a b row row2 i) b R2 row2), j_i i] _ _ _ _
    refine a_icmp_ge (pc := 15) (off := 21) (tgt := 36) (by decide +kernel) (by decide) (by omega) (by omega) (fun c15 => ?_) (fun c15 => ?_)
    · refine a_return (pc := 36) (by decide +kernel) rfl ?_
      refine k_ret ?_
      have e9 : i = σ.1 (b + 2) row2 := by omega
      rw [e9]
      exact ⟨rfl, rfl, rfl⟩
    · have hx : r_sgn (r_cpS σ a b row row2 i) b R2 row2 i = σ.1 (b + 1) (row2 * 16 + i) := by unfold r_sgn; rw [r_cpS_o (by omega) (by omega), r_cpS_o (by omega) (by omega), if_pos (by omega)]
      refine a_aload_n (pc := 18) (i := 0) (by decide +kernel) rfl ?_
      refine a_iload_n (pc := 19) (i := 1) (by decide +kernel) rfl ?_
      refine a_aload_n (pc := 20) (i := 2) (by decide +kernel) rfl ?_
      refine a_iload_n (pc := 21) (i := 3) (by decide +kernel) rfl ?_
      refine a_iload (pc := 22) (i := 4) (by decide +kernel) rfl ?_
      refine b_pureV (pc := 24) [j_i row2, j_i i] [j_i row, .ref a] ml_X9_33 (by decide +kernel) rfl rfl gs0 rfl rfl (Nat.le_of_ble_eq_true rfl) (j_fitI rfl rfl) (s_signAt hRb hwbi (by omega) (by omega)) ?_
      have qs1 := r_sgn_in hwbi row2 i
      show j_at _ _ _ [(0, .ref a), (1, j_i row), (2, .ref b), (3, j_i row2), (4, j_i i)] [j_i (r_sgn (r_cpS σ a b row row2 i) b R2 row2 i), j_i row, .ref a] _ _ _ _
      refine b_callV (pc := 27) (c' := 0) (sl' := 0) [j_i row, j_i (r_sgn (r_cpS σ a b row row2 i) b R2 row2 i)] [] ml_X9_36 (by decide +kernel) rfl rfl hs0 rfl rfl (Nat.le_of_ble_eq_true rfl) (j_fitI rfl rfl) (s_append hR hwi (by omega) (by omega) (by rw [r_cpS_2, j_upS]; omega) (by omega)) (fun v n' σ' hq => ?_)
      obtain ⟨rfl, e1, e2⟩ := hq
      rw [e1, e2]; clear e1 e2
      rw [r_cpS_s h0 hx]
      show j_at _ _ _ [(0, .ref a), (1, j_i row), (2, .ref b), (3, j_i row2), (4, j_i i)] [] _ _ _ _
      refine a_iinc (pc := 30) (i := 4) (n := 1) (x := i) (lv' := [(0, .ref a), (1, j_i row), (2, .ref b), (3, j_i row2), (4, j_i (i + 1))]) (by decide +kernel) rfl (Nat.le_of_ble_eq_true rfl) rfl ?_
      refine a_goto (pc := 33) (off := -25) (tgt := 8) (by decide +kernel) (by decide) ?_
      exact ih (i + 1) (by omega) (by omega) (by omega)
set_option maxHeartbeats 4000000 in
theorem s_copyRow {G : j_G} {X : k_X} {n : Nat} {σ : k_St} {a R b R2 : Nat} {row row2 : Int} (hR : r_at X n a R) (hw : r_wf σ a R) (hRb : r_at X n b R2) (hwb : r_wf σ b R2) (hab : a + 2 < b ∨ b + 2 < a) (r0 : 0 ≤ row) (r1 : row < R) (q0 : 0 ≤ row2) (q1 : row2 < R2)  : k_run G X mX9_copyRow [.ref a, j_i row, .ref b, j_i row2] n σ 0 0 (k_is n (r_cpS σ a b row row2 (σ.1 (b + 2) row2)) none) := by
  obtain ⟨h5, h30, hs0, hs1, hs2⟩ := id hR
  obtain ⟨g5, g30, gs0, gs1, gs2⟩ := id hRb
  refine k_enter (by decide +kernel) (Nat.le_of_ble_eq_true rfl) ?_
  show j_at _ _ _ [(0, .ref a), (1, j_i row), (2, .ref b), (3, j_i row2)] [] _ _ _ _
  refine a_aload_n (pc := 0) (i := 0) (by decide +kernel) rfl ?_
  refine a_iload_n (pc := 1) (i := 1) (by decide +kernel) rfl ?_
  refine b_callV (pc := 2) (c' := 0) (sl' := 0) [j_i row] [] ml_X9_25 (by decide +kernel) rfl rfl hs0 rfl rfl (Nat.le_of_ble_eq_true rfl) (j_fitI rfl rfl) (s_clear hR (by omega) (by omega)) (fun v n' σ' hq => ?_)
  obtain ⟨rfl, e1, e2⟩ := hq
  rw [e1, e2]; clear e1 e2
  obtain ⟨σ1, hσ1⟩ : ∃ z, z = k_sA σ (a + 2) (j_up (σ.1 (a + 2)) row 0) := ⟨_, rfl⟩
  rw [← hσ1]
  show j_at _ _ _ [(0, .ref a), (1, j_i row), (2, .ref b), (3, j_i row2)] [] _ _ _ _
  refine a_iconst (pc := 5) (n := 0) (by decide +kernel) ?_
  refine a_istore (pc := 6) (i := 4) (lv' := [(0, .ref a), (1, j_i row), (2, .ref b), (3, j_i row2), (4, j_i 0)]) (by decide +kernel) (Nat.le_of_ble_eq_true rfl) rfl ?_
  rw [hσ1, r_cpS_0 (b := b) (row2 := row2)]
  exact l_copyRow hR hw hRb hwb hab r0 r1 q0 q1 17 0 (by omega) (by omega) (hwb.1 row2 q0 q1).1
def r_cpA (σ : k_St) (a b R : Nat) : k_St := k_sA (k_sA σ (a + 1) (j_cpy (σ.1 (b + 1)) (σ.1 (a + 1)) 0 0 (16 * R))) (a + 2) (j_cpy (σ.1 (b + 2)) (σ.1 (a + 2)) 0 0 R)
set_option maxHeartbeats 4000000 in
theorem s_copyAll {G : j_G} {X : k_X} {n : Nat} {σ : k_St} {a R b : Nat} (hR : r_at X n a R) (hRb : r_at X n b R) (hwb : r_wf σ b R) (hab : a + 2 < b ∨ b + 2 < a) : k_run G X mX9_copyAll [.ref a, .ref b] n σ 0 0 (k_is n (r_cpA σ a b R) none) := by
  obtain ⟨h5, h30, hs0, hs1, hs2⟩ := id hR
  obtain ⟨g5, g30, gs0, gs1, gs2⟩ := id hRb
  refine k_enter (by decide +kernel) (Nat.le_of_ble_eq_true rfl) ?_
  show j_at _ _ _ [(0, .ref a), (1, .ref b)] [] _ _ _ _
  refine a_aload_n (pc := 0) (i := 1) (by decide +kernel) rfl ?_
  refine b_getR (pc := 1) (b := b + 1) fl_X9_15 (by decide +kernel) gs0 rfl ?_
  refine a_iconst (pc := 4) (n := 0) (by decide +kernel) ?_
  refine a_aload_n (pc := 5) (i := 0) (by decide +kernel) rfl ?_
  refine b_getR (pc := 6) (b := a + 1) fl_X9_15 (by decide +kernel) hs0 rfl ?_
  refine a_iconst (pc := 9) (n := 0) (by decide +kernel) ?_
  refine a_aload_n (pc := 10) (i := 1) (by decide +kernel) rfl ?_
  refine b_getR (pc := 11) (b := b + 1) fl_X9_15 (by decide +kernel) gs0 rfl ?_
  refine b_len (pc := 14) (by decide +kernel) gs1 (by decide) ?_
  refine a_aload_n (pc := 15) (i := 0) (by decide +kernel) rfl ?_
  refine b_getR (pc := 16) (b := a + 1) fl_X9_15 (by decide +kernel) hs0 rfl ?_
  refine b_len (pc := 19) (by decide +kernel) hs1 (by decide) ?_
  refine a_mmin (pc := 20) mm_X9_40 (by decide +kernel) (by omega) (by omega) (Nat.le_of_ble_eq_true rfl) (Nat.le_of_ble_eq_true rfl) ?_
  refine b_arraycopy (pc := 23) (by decide +kernel) ol_X9_43 gs1 hs1 (by omega) (by omega) (by decide) (by omega) (by omega) (by omega) (by omega) (by omega) (by omega) (by omega) (fun i _ _ => j_fitb (hwb.2 _)) (Nat.le_of_ble_eq_true rfl) (Nat.le_of_ble_eq_true rfl) ?_
  obtain ⟨σ1, hσ1⟩ : ∃ z, z = k_sA σ (a + 1) (j_cpy (σ.1 (b + 1)) (σ.1 (a + 1)) 0 0 (min (((16 * R) : Nat) : Int) (((16 * R) : Nat) : Int))) := ⟨_, rfl⟩
  rw [← hσ1]
  refine a_aload_n (pc := 26) (i := 1) (by decide +kernel) rfl ?_
  refine b_getR (pc := 27) (b := b + 2) fl_X9_21 (by decide +kernel) gs0 rfl ?_
  refine a_iconst (pc := 30) (n := 0) (by decide +kernel) ?_
  refine a_aload_n (pc := 31) (i := 0) (by decide +kernel) rfl ?_
  refine b_getR (pc := 32) (b := a + 2) fl_X9_21 (by decide +kernel) hs0 rfl ?_
  refine a_iconst (pc := 35) (n := 0) (by decide +kernel) ?_
  refine a_aload_n (pc := 36) (i := 1) (by decide +kernel) rfl ?_
  refine b_getR (pc := 37) (b := b + 2) fl_X9_21 (by decide +kernel) gs0 rfl ?_
  refine b_len (pc := 40) (by decide +kernel) gs2 (by decide) ?_
  refine a_aload_n (pc := 41) (i := 0) (by decide +kernel) rfl ?_
  refine b_getR (pc := 42) (b := a + 2) fl_X9_21 (by decide +kernel) hs0 rfl ?_
  refine b_len (pc := 45) (by decide +kernel) hs2 (by decide) ?_
  refine a_mmin (pc := 46) mm_X9_40 (by decide +kernel) (by omega) (by omega) (Nat.le_of_ble_eq_true rfl) (Nat.le_of_ble_eq_true rfl) ?_
  refine b_arraycopy (pc := 49) (by decide +kernel) ol_X9_43 gs2 hs2 (by omega) (by omega) (by decide) (by omega) (by omega) (by omega) (by omega) (by omega) (by omega) (by omega) (fun _ _ _ => rfl) (Nat.le_of_ble_eq_true rfl) (Nat.le_of_ble_eq_true rfl) ?_
  obtain ⟨σ2, hσ2⟩ : ∃ z, z = k_sA σ1 (a + 2) (j_cpy (σ1.1 (b + 2)) (σ1.1 (a + 2)) 0 0 (min ((R : Nat) : Int) ((R : Nat) : Int))) := ⟨_, rfl⟩
  rw [← hσ2]
  refine a_return (pc := 52) (by decide +kernel) rfl ?_
  refine k_ret ?_
  subst hσ2; subst hσ1
  refine ⟨rfl, rfl, ?_⟩
  unfold r_cpA
  rw [k_AN (by omega), k_AN (by omega), show min ((16 * R : Nat) : Int) ((16 * R : Nat) : Int) = 16 * (R : Int) by omega, show min (R : Int) (R : Int) = R by omega]
