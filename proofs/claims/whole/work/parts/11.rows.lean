theorem j_fitI {M M' : j_M} (h1 : Nat.ble (M'.2.2.2.2.1 + 1) M.2.2.2.2.1 = true) (h2 : Nat.ble (8 + (M'.2.2.1 + 11) + M'.2.2.2.2.2) M.2.2.2.2.2 = true) : j_fit M M' := ⟨Nat.le_of_ble_eq_true h1, Nat.le_of_ble_eq_true h2⟩
theorem j_i2l {x : Int} (hx : -2147483648 ≤ x ∧ x ≤ 2147483647) : (Int32.ofInt x).toInt64 = Int64.ofInt x := by
  rw [← Int64.toInt_inj, Int32.toInt_toInt64, j_ti hx, j_lti (by omega)]
theorem j_i2b {x : Int} (hx : -128 ≤ x ∧ x ≤ 127) : (Int32.ofInt x).toInt8.toInt32 = Int32.ofInt x := by
  rw [← Int32.toInt_inj, Int8.toInt_toInt32, Int32.toInt_toInt8, j_ti (by omega)]
  exact Int.bmod_eq_of_le (by omega) (by omega)
theorem k_post {G : j_G} {X : k_X} {M : j_M} {args : List Value} {n : Nat} {σ : k_St} {c sl : Nat} {Q Q' : k_P} (hq : ∀ v n' σ', Q v n' σ' → Q' v n' σ') (h : k_run G X M args n σ c sl Q) : k_run G X M args n σ c sl Q' := by
  intro p e ha hc hk s m args0 below hf happ hP ht
  obtain ⟨t, o, a1, a2, a3, ⟨⟨v, h', c1, ⟨n', σ', c2, c3⟩, c4⟩, c5⟩, a5⟩ := h p e ha hc hk s m args0 below hf happ hP ht
  exact ⟨t, o, a1, a2, a3, ⟨⟨v, h', c1, ⟨n', σ', c2, hq _ _ _ c3⟩, c4⟩, c5⟩, a5⟩
/-- Rows at a, of R rows -/
def r_at (X : k_X) (n a R : Nat) : Prop := 5 ≤ a ∧ R ≤ 30 ∧ k_has X n a (.inr (.inr (9, [a + 1 + 3, a + 2 + 3]))) ∧ k_has X n (a + 1) (.inl (1, 16 * R)) ∧ k_has X n (a + 2) (.inl (0, R))
def r_cnt (σ : k_St) (a R : Nat) (row : Int) : Int := if 0 ≤ row ∧ row < R then σ.1 (a + 2) row else 0
def r_sgn (σ : k_St) (a R : Nat) (row i : Int) : Int := if 0 ≤ row ∧ row < R ∧ 0 ≤ i ∧ i < σ.1 (a + 2) row then σ.1 (a + 1) (row * 16 + i) else -9
/-- counts of 0 to 16, signs of a byte -/
def r_wf (σ : k_St) (a R : Nat) : Prop := (∀ r : Int, 0 ≤ r → r < R → 0 ≤ σ.1 (a + 2) r ∧ σ.1 (a + 2) r ≤ 16) ∧ ∀ i : Int, -128 ≤ σ.1 (a + 1) i ∧ σ.1 (a + 1) i ≤ 127
theorem r_cnt_in {σ : k_St} {a R : Nat} (h : r_wf σ a R) (row : Int) : 0 ≤ r_cnt σ a R row ∧ r_cnt σ a R row ≤ 16 := by
  unfold r_cnt; split
  · exact h.1 row (by omega) (by omega)
  · omega
theorem r_sgn_in {σ : k_St} {a R : Nat} (h : r_wf σ a R) (row i : Int) : -128 ≤ r_sgn σ a R row i ∧ r_sgn σ a R row i ≤ 127 := by
  unfold r_sgn; split
  · exact h.2 _
  · omega

set_option maxHeartbeats 4000000 in
theorem s_countOf {G : j_G} {X : k_X} {n : Nat} {σ : k_St} {a R : Nat} {row : Int} (hR : r_at X n a R) (hw : r_wf σ a R) (hrow : -2147483648 ≤ row ∧ row ≤ 2147483647) : k_run G X mX9_countOf [.ref a, j_i row] n σ 0 0 (k_is n σ (some (j_i (r_cnt σ a R row)))) := by
  obtain ⟨h5, h30, hs0, hs1, hs2⟩ := id hR
  refine k_enter (by decide +kernel) (Nat.le_of_ble_eq_true rfl) ?_
  show j_at _ _ _ [(0, .ref a), (1, j_i row)] [] _ _ _ _
  refine a_iload_n (pc := 0) (i := 1) (by decide +kernel) rfl ?_
  refine a_if_lt (pc := 1) (off := 21) (tgt := 22) (by decide +kernel) (by decide) (by omega) (fun c1 => ?_) (fun c1 => ?_)
  · refine a_iconst (pc := 22) (n := 0) (by decide +kernel) ?_
    refine a_ireturn (pc := 23) (by decide +kernel) rfl ?_
    refine k_ret ?_
    refine ⟨?_, rfl, rfl⟩
    simp only [r_cnt]
    first | rw [if_pos (by omega)] | rw [if_neg (by omega)]
  · refine a_iload_n (pc := 4) (i := 1) (by decide +kernel) rfl ?_
    refine a_aload_n (pc := 5) (i := 0) (by decide +kernel) rfl ?_
    refine b_getR (pc := 6) (b := a + 2) fl_X9_21 (by decide +kernel) hs0 rfl ?_
    refine b_len (pc := 9) (by decide +kernel) hs2 (by decide) ?_
    refine a_icmp_ge (pc := 10) (off := 12) (tgt := 22) (by decide +kernel) (by decide) (by omega) (by omega) (fun c10 => ?_) (fun c10 => ?_)
    · refine a_iconst (pc := 22) (n := 0) (by decide +kernel) ?_
      refine a_ireturn (pc := 23) (by decide +kernel) rfl ?_
      refine k_ret ?_
      refine ⟨?_, rfl, rfl⟩
      simp only [r_cnt]
      first | rw [if_pos (by omega)] | rw [if_neg (by omega)]
    · refine a_aload_n (pc := 13) (i := 0) (by decide +kernel) rfl ?_
      refine b_getR (pc := 14) (b := a + 2) fl_X9_21 (by decide +kernel) hs0 rfl ?_
      refine a_iload_n (pc := 17) (i := 1) (by decide +kernel) rfl ?_
      refine b_iaload (pc := 18) (by decide +kernel) hs2 (by omega) (by omega) (by omega) ?_
      refine a_goto (pc := 19) (off := 4) (tgt := 23) (by decide +kernel) (by decide) ?_
      refine a_ireturn (pc := 23) (by decide +kernel) rfl ?_
      refine k_ret ?_
      refine ⟨?_, rfl, rfl⟩
      simp only [r_cnt]
      first | rw [if_pos (by omega)] | rw [if_neg (by omega)]
set_option maxHeartbeats 4000000 in
theorem s_signAt {G : j_G} {X : k_X} {n : Nat} {σ : k_St} {a R : Nat} {row i : Int} (hR : r_at X n a R) (hw : r_wf σ a R) (hrow : -2147483648 ≤ row ∧ row ≤ 2147483647) (hi : -2147483648 ≤ i ∧ i ≤ 2147483647) : k_run G X mX9_signAt [.ref a, j_i row, j_i i] n σ 0 0 (k_is n σ (some (j_i (r_sgn σ a R row i)))) := by
  obtain ⟨h5, h30, hs0, hs1, hs2⟩ := id hR
  refine k_enter (by decide +kernel) (Nat.le_of_ble_eq_true rfl) ?_
  show j_at _ _ _ [(0, .ref a), (1, j_i row), (2, j_i i)] [] _ _ _ _
  refine a_iload_n (pc := 0) (i := 1) (by decide +kernel) rfl ?_
  refine a_if_lt (pc := 1) (off := 30) (tgt := 31) (by decide +kernel) (by decide) (by omega) (fun c1 => ?_) (fun c1 => ?_)
  · refine a_iconst (pc := 31) (n := 0) (by decide +kernel) ?_
    refine a_istore_n (pc := 32) (i := 3) (lv' := [(0, .ref a), (1, j_i row), (2, j_i i), (3, j_i 0)]) (by decide +kernel) (Nat.le_of_ble_eq_true rfl) rfl ?_
    refine a_iload_n (pc := 33) (i := 3) (by decide +kernel) rfl ?_
    refine a_if_eq (pc := 34) (off := 17) (tgt := 51) (by decide +kernel) (by decide) (by omega) (fun c34 => ?_) (fun c34 => ?_)
    · refine a_bipush (pc := 51) (n := (-9)) (by decide +kernel) rfl ?_
      refine a_ireturn (pc := 53) (by decide +kernel) rfl ?_
      refine k_ret ?_
      refine ⟨?_, rfl, rfl⟩
      simp only [r_sgn]
      first | rw [if_pos (by omega)] | rw [if_neg (by omega)]
    · exact absurd c34 (by decide)
  · refine a_iload_n (pc := 4) (i := 1) (by decide +kernel) rfl ?_
    refine a_aload_n (pc := 5) (i := 0) (by decide +kernel) rfl ?_
    refine b_getR (pc := 6) (b := a + 2) fl_X9_21 (by decide +kernel) hs0 rfl ?_
    refine b_len (pc := 9) (by decide +kernel) hs2 (by decide) ?_
    refine a_icmp_ge (pc := 10) (off := 21) (tgt := 31) (by decide +kernel) (by decide) (by omega) (by omega) (fun c10 => ?_) (fun c10 => ?_)
    · refine a_iconst (pc := 31) (n := 0) (by decide +kernel) ?_
      refine a_istore_n (pc := 32) (i := 3) (lv' := [(0, .ref a), (1, j_i row), (2, j_i i), (3, j_i 0)]) (by decide +kernel) (Nat.le_of_ble_eq_true rfl) rfl ?_
      refine a_iload_n (pc := 33) (i := 3) (by decide +kernel) rfl ?_
      refine a_if_eq (pc := 34) (off := 17) (tgt := 51) (by decide +kernel) (by decide) (by omega) (fun c34 => ?_) (fun c34 => ?_)
      · refine a_bipush (pc := 51) (n := (-9)) (by decide +kernel) rfl ?_
        refine a_ireturn (pc := 53) (by decide +kernel) rfl ?_
        refine k_ret ?_
        refine ⟨?_, rfl, rfl⟩
        simp only [r_sgn]
        first | rw [if_pos (by omega)] | rw [if_neg (by omega)]
      · exact absurd c34 (by decide)
    · refine a_iload_n (pc := 13) (i := 2) (by decide +kernel) rfl ?_
      refine a_if_lt (pc := 14) (off := 17) (tgt := 31) (by decide +kernel) (by decide) (by omega) (fun c14 => ?_) (fun c14 => ?_)
      · refine a_iconst (pc := 31) (n := 0) (by decide +kernel) ?_
        refine a_istore_n (pc := 32) (i := 3) (lv' := [(0, .ref a), (1, j_i row), (2, j_i i), (3, j_i 0)]) (by decide +kernel) (Nat.le_of_ble_eq_true rfl) rfl ?_
        refine a_iload_n (pc := 33) (i := 3) (by decide +kernel) rfl ?_
        refine a_if_eq (pc := 34) (off := 17) (tgt := 51) (by decide +kernel) (by decide) (by omega) (fun c34 => ?_) (fun c34 => ?_)
        · refine a_bipush (pc := 51) (n := (-9)) (by decide +kernel) rfl ?_
          refine a_ireturn (pc := 53) (by decide +kernel) rfl ?_
          refine k_ret ?_
          refine ⟨?_, rfl, rfl⟩
          simp only [r_sgn]
          first | rw [if_pos (by omega)] | rw [if_neg (by omega)]
        · exact absurd c34 (by decide)
      · refine a_iload_n (pc := 17) (i := 2) (by decide +kernel) rfl ?_
        refine a_aload_n (pc := 18) (i := 0) (by decide +kernel) rfl ?_
        refine b_getR (pc := 19) (b := a + 2) fl_X9_21 (by decide +kernel) hs0 rfl ?_
        refine a_iload_n (pc := 22) (i := 1) (by decide +kernel) rfl ?_
        refine b_iaload (pc := 23) (by decide +kernel) hs2 (by omega) (by omega) (by omega) ?_
        have hc9 := hw.1 row (by omega) (by omega)
        refine a_icmp_ge (pc := 24) (off := 7) (tgt := 31) (by decide +kernel) (by decide) (by omega) (by omega) (fun c24 => ?_) (fun c24 => ?_)
        · refine a_iconst (pc := 31) (n := 0) (by decide +kernel) ?_
          refine a_istore_n (pc := 32) (i := 3) (lv' := [(0, .ref a), (1, j_i row), (2, j_i i), (3, j_i 0)]) (by decide +kernel) (Nat.le_of_ble_eq_true rfl) rfl ?_
          refine a_iload_n (pc := 33) (i := 3) (by decide +kernel) rfl ?_
          refine a_if_eq (pc := 34) (off := 17) (tgt := 51) (by decide +kernel) (by decide) (by omega) (fun c34 => ?_) (fun c34 => ?_)
          · refine a_bipush (pc := 51) (n := (-9)) (by decide +kernel) rfl ?_
            refine a_ireturn (pc := 53) (by decide +kernel) rfl ?_
            refine k_ret ?_
            refine ⟨?_, rfl, rfl⟩
            simp only [r_sgn]
            first | rw [if_pos (by omega)] | rw [if_neg (by omega)]
          · exact absurd c34 (by decide)
        · refine a_iconst (pc := 27) (n := 1) (by decide +kernel) ?_
          refine a_goto (pc := 28) (off := 4) (tgt := 32) (by decide +kernel) (by decide) ?_
          refine a_istore_n (pc := 32) (i := 3) (lv' := [(0, .ref a), (1, j_i row), (2, j_i i), (3, j_i 1)]) (by decide +kernel) (Nat.le_of_ble_eq_true rfl) rfl ?_
          refine a_iload_n (pc := 33) (i := 3) (by decide +kernel) rfl ?_
          refine a_if_eq (pc := 34) (off := 17) (tgt := 51) (by decide +kernel) (by decide) (by omega) (fun c34 => ?_) (fun c34 => ?_)
          · exact absurd c34 (by decide)
          · refine a_aload_n (pc := 37) (i := 0) (by decide +kernel) rfl ?_
            refine b_getR (pc := 38) (b := a + 1) fl_X9_15 (by decide +kernel) hs0 rfl ?_
            refine a_iload_n (pc := 41) (i := 1) (by decide +kernel) rfl ?_
            refine a_bipush (pc := 42) (n := 16) (by decide +kernel) rfl ?_
            refine a_imul (pc := 44) (by decide +kernel) ?_
            refine a_iload_n (pc := 45) (i := 2) (by decide +kernel) rfl ?_
            refine a_iadd (pc := 46) (by decide +kernel) ?_
            have hc8 := hw.1 row (by omega) (by omega)
            refine b_baload (pc := 47) (by decide +kernel) hs1 (by omega) (by omega) (by omega) ?_
            refine a_goto (pc := 48) (off := 5) (tgt := 53) (by decide +kernel) (by decide) ?_
            refine a_ireturn (pc := 53) (by decide +kernel) rfl ?_
            refine k_ret ?_
            refine ⟨?_, rfl, rfl⟩
            simp only [r_sgn]
            first | rw [if_pos (by omega)] | rw [if_neg (by omega)]
