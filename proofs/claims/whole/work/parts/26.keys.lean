def y_wf (σ : k_St) : Prop := (0 ≤ σ.2.1 33 1 ∧ σ.2.1 33 1 ≤ 4) ∧ r_wf σ 34 4
def y_pas (σ : k_St) (b R : Nat) : Prop := ∃ p : Int, 0 ≤ p ∧ p < σ.2.1 33 1 ∧ r_cnt σ 34 4 p = r_cnt σ b R 0 ∧ r_alike σ 34 4 p b R 0
/-- where a key begins -/
def y_ksP (σ : k_St) (b R : Nat) (row bl p : Int) : Prop := r_cnt σ 34 4 p = bl ∧ r_alike σ b R row 34 4 p
def y_ks (σ : k_St) (b R : Nat) (row r : Int) : Prop := ∃ bl, r_blank σ b R row bl ∧ ((r = bl + 1 ∧ ∃ p, 0 ≤ p ∧ p < σ.2.1 33 1 ∧ y_ksP σ b R row bl p) ∨ (r = 0 ∧ ∀ p, 0 ≤ p → p < σ.2.1 33 1 → ¬ y_ksP σ b R row bl p))
theorem y_ks_congr {σ τ : k_St} {b R : Nat} {row r : Int} (h1 : τ.1 = σ.1) (h2 : τ.2.1 33 1 = σ.2.1 33 1) : y_ks τ b R row r ↔ y_ks σ b R row r := by
  unfold y_ks y_ksP r_blank r_alike r_cnt r_sgn; rw [h1, h2]
theorem r_blank_r {σ : k_St} {b R : Nat} {row bl : Int} (hw : r_wf σ b R) (h : r_blank σ b R row bl) : -9 ≤ bl ∧ bl ≤ 15 := by
  have := r_cnt_in hw row
  rcases h with ⟨h, _⟩ | ⟨h1, h2, _⟩ <;> omega
/-- two keys, bit by bit -/
def f_cb (s t : Int → Int) (l : Int) : Nat → Int → Int → Int
  | 0, _, _ => 0
  | m + 1, i, j => if f_bk s (f_bat s l i) ≠ f_bk t (f_bat t l j) then f_sgn (f_bk s (f_bat s l i)) (f_bk t (f_bat t l j)) else if f_bv s (f_bat s l i) ≠ f_bv t (f_bat t l j) then f_sgn (f_bv s (f_bat s l i)) (f_bv t (f_bat t l j)) else if f_bk s (f_bat s l i) = 0 then 0 else f_cb s t l m (f_be s (f_bat s l i)) (f_be t (f_bat t l j))
theorem f_bat_in {s : Int → Int} {l i : Int} (hs : s 16 ≠ 32) (h0 : 0 ≤ i) (h1 : i ≤ 16) : 0 ≤ f_bat s l i ∧ f_bat s l i ≤ 16 := by
  unfold f_bat; split
  · omega
  · have := f_sk_in hs 17 i (by omega) h1; omega
/-- all but the two Bits is as it was -/
def k_bx (σ τ : k_St) : Prop := τ.1 = σ.1 ∧ (∀ c j, c ≠ 37 → c ≠ 38 → τ.2.1 c j = σ.2.1 c j) ∧ τ.2.2 = σ.2.2
theorem k_bx_y {σ τ : k_St} {d : Nat} {a k v : Int} (hd : d = 37 ∨ d = 38) (h : k_bx σ τ) : k_bx σ (y_st τ d a k v) := by
  refine ⟨h.1, fun c j h1 h2 => ?_, h.2.2⟩
  rw [y_st_f, if_neg (by omega), if_neg (by omega), if_neg (by omega)]; exact h.2.1 c j h1 h2
set_option maxHeartbeats 4000000 in
theorem l_isPassed {G : j_G} {X : k_X} {n : Nat} {σ : k_St} (hn : 101 ≤ n) (hy : y_wf σ) {b R : Nat} (hRb : r_at X n b R) (hwb : r_wf σ b R)  : ∀ (m : Nat) (i : Int), 4 - i < (m : Int) → 0 ≤ i → i ≤ σ.2.1 33 1 → (∀ j, 0 ≤ j → j < i → ¬ (r_cnt σ 34 4 j = r_cnt σ b R 0 ∧ r_alike σ 34 4 j b R 0)) → j_at G mX5_isPassed 2 [(0, .ref 33), (1, .ref b), (2, j_i i)] [] (k_h X n σ) 0 0 (k_Q X (k_b n σ (y_pas σ b R))) := by
  intro m
  induction m with
  | zero => intro i h1 h2 h3; exact absurd h3 (by have := hy.1; omega)
  | succ m ih =>
    intro i hm h0 hN hI
    obtain ⟨hpc, hw34⟩ := id hy
    obtain ⟨g5, g30, gs0, gs1, gs2⟩ := id hRb
    refine a_iload_n (pc := 2) (i := 2) (by decide +kernel) rfl ?_
    refine a_aload_n (pc := 3) (i := 0) (by decide +kernel) rfl ?_
    refine b_getI (pc := 4) fl_X5_20 (by decide +kernel) (sh_33 hn) rfl ?_
    refine a_icmp_ge (pc := 7) (off := 40) (tgt := 47) (by decide +kernel) (by decide) (by omega) (by omega) (fun c7 => ?_) (fun c7 => ?_)
    · refine a_iconst (pc := 47) (n := 0) (by decide +kernel) ?_
      refine a_zreturn (pc := 48) (by decide +kernel) rfl (by omega) ?_
      refine k_ret ?_
      exact k_bn (fun ⟨p, p0, p1, p2⟩ => hI p p0 (by omega) p2)
    · refine a_aload_n (pc := 10) (i := 0) (by decide +kernel) rfl ?_
      refine b_getR (pc := 11) (b := 34) fl_X5_14 (by decide +kernel) (sh_33 hn) rfl ?_
      refine a_iload_n (pc := 14) (i := 2) (by decide +kernel) rfl ?_
      refine b_pureV (pc := 15) [j_i i] [] ml_X5_34 (by decide +kernel) rfl rfl (sh_34 hn) rfl rfl (Nat.le_of_ble_eq_true rfl) (j_fitI rfl rfl) (s_countOf (rA_34 hn) hw34 (by omega)) ?_
      have qc := r_cnt_in hw34 i
      show j_at _ _ _ [(0, .ref 33), (1, .ref b), (2, j_i i)] [j_i (r_cnt σ 34 4 i)] _ _ _ _
      refine a_aload_n (pc := 18) (i := 1) (by decide +kernel) rfl ?_
      refine a_iconst (pc := 19) (n := 0) (by decide +kernel) ?_
      refine b_pureV (pc := 20) [j_i 0] [j_i (r_cnt σ 34 4 i)] ml_X5_34 (by decide +kernel) rfl rfl gs0 rfl rfl (Nat.le_of_ble_eq_true rfl) (j_fitI rfl rfl) (s_countOf hRb hwb (by omega)) ?_
      have qc := r_cnt_in hwb 0
      show j_at _ _ _ [(0, .ref 33), (1, .ref b), (2, j_i i)] [j_i (r_cnt σ b R 0), j_i (r_cnt σ 34 4 i)] _ _ _ _
      refine a_icmp_ne (pc := 23) (off := 18) (tgt := 41) (by decide +kernel) (by decide) (by omega) (by omega) (fun c23 => ?_) (fun c23 => ?_)
      · refine a_iinc (pc := 41) (i := 2) (n := 1) (x := i) (lv' := [(0, .ref 33), (1, .ref b), (2, j_i (i + 1))]) (by decide +kernel) rfl (Nat.le_of_ble_eq_true rfl) rfl ?_
        refine a_goto (pc := 44) (off := -42) (tgt := 2) (by decide +kernel) (by decide) ?_
        exact ih (i + 1) (by omega) (by omega) (by omega) (lt_succ_cases hI (fun h9 => by first | exact c23 h9.1 | exact p33 h9.2))
      · refine a_aload_n (pc := 26) (i := 0) (by decide +kernel) rfl ?_
        refine b_getR (pc := 27) (b := 34) fl_X5_14 (by decide +kernel) (sh_33 hn) rfl ?_
        refine a_iload_n (pc := 30) (i := 2) (by decide +kernel) rfl ?_
        refine a_aload_n (pc := 31) (i := 1) (by decide +kernel) rfl ?_
        refine a_iconst (pc := 32) (n := 0) (by decide +kernel) ?_
        refine b_callV (pc := 33) (c' := 0) (sl' := 0) [j_i i, .ref b, j_i 0] [] ml_X5_38 (by decide +kernel) rfl rfl (sh_34 hn) rfl rfl (Nat.le_of_ble_eq_true rfl) (j_fitI rfl rfl) (s_beginsAlike (rA_34 hn) hw34 (by omega) hRb hwb (by omega)) (fun v n' σ' hq => ?_)
        obtain ⟨x, rfl, e1, e2, hx⟩ := hq
        rw [e1, e2]; clear e1 e2
        rcases hx with ⟨rfl, p33⟩ | ⟨rfl, p33⟩
        · show j_at _ _ _ [(0, .ref 33), (1, .ref b), (2, j_i i)] [j_i 1] _ _ _ _
          refine a_if_eq (pc := 36) (off := 5) (tgt := 41) (by decide +kernel) (by decide) (by omega) (fun c36 => ?_) (fun c36 => ?_)
          · exact absurd c36 (by decide)
          · refine a_iconst (pc := 39) (n := 1) (by decide +kernel) ?_
            refine a_zreturn (pc := 40) (by decide +kernel) rfl (by omega) ?_
            refine k_ret ?_
            exact k_by ⟨i, h0, c7, c23, p33⟩
        · show j_at _ _ _ [(0, .ref 33), (1, .ref b), (2, j_i i)] [j_i 0] _ _ _ _
          refine a_if_eq (pc := 36) (off := 5) (tgt := 41) (by decide +kernel) (by decide) (by omega) (fun c36 => ?_) (fun c36 => ?_)
          · refine a_iinc (pc := 41) (i := 2) (n := 1) (x := i) (lv' := [(0, .ref 33), (1, .ref b), (2, j_i (i + 1))]) (by decide +kernel) rfl (Nat.le_of_ble_eq_true rfl) rfl ?_
            refine a_goto (pc := 44) (off := -42) (tgt := 2) (by decide +kernel) (by decide) ?_
            exact ih (i + 1) (by omega) (by omega) (by omega) (lt_succ_cases hI (fun h9 => by first | exact c23 h9.1 | exact p33 h9.2))
          · exact absurd c36 (by decide)
set_option maxHeartbeats 4000000 in
theorem s_isPassed {G : j_G} {X : k_X} {n : Nat} {σ : k_St} (hn : 101 ≤ n) (hy : y_wf σ) {b R : Nat} (hRb : r_at X n b R) (hwb : r_wf σ b R)  : k_run G X mX5_isPassed [.ref 33, .ref b] n σ 0 0 (k_b n σ (y_pas σ b R)) := by
  obtain ⟨hpc, hw34⟩ := id hy
  obtain ⟨g5, g30, gs0, gs1, gs2⟩ := id hRb
  refine k_enter (by decide +kernel) (Nat.le_of_ble_eq_true rfl) ?_
  show j_at _ _ _ [(0, .ref 33), (1, .ref b)] [] _ _ _ _
  refine a_iconst (pc := 0) (n := 0) (by decide +kernel) ?_
  refine a_istore_n (pc := 1) (i := 2) (lv' := [(0, .ref 33), (1, .ref b), (2, j_i 0)]) (by decide +kernel) (Nat.le_of_ble_eq_true rfl) rfl ?_
  exact l_isPassed hn hy hRb hwb 5 0 (by omega) (by omega) hpc.1 (fun j h0 h1 => absurd h0 (by omega))
set_option maxHeartbeats 4000000 in
theorem s_addPassed1 {G : j_G} {X : k_X} {n : Nat} {σ : k_St} (hn : 101 ≤ n) (hy : y_wf σ) {b R : Nat} (hRb : r_at X n b R) (hwb : r_wf σ b R) (h4 : σ.2.1 33 1 < 4) (h1R : 1 ≤ R) (hb : b + 2 < 34 ∨ 36 < b) : k_run G X mX5_addPassed [.ref 33, .ref b] n σ 0 0 (k_is n (k_sI (r_cpS σ 34 b (σ.2.1 33 1) 0 (σ.1 (b + 2) 0)) 33 1 (σ.2.1 33 1 + 1)) (some (j_i 1))) := by
  obtain ⟨hpc, hw34⟩ := id hy
  obtain ⟨g5, g30, gs0, gs1, gs2⟩ := id hRb
  refine k_enter (by decide +kernel) (Nat.le_of_ble_eq_true rfl) ?_
  show j_at _ _ _ [(0, .ref 33), (1, .ref b)] [] _ _ _ _
  refine a_aload_n (pc := 0) (i := 0) (by decide +kernel) rfl ?_
  refine b_getI (pc := 1) fl_X5_20 (by decide +kernel) (sh_33 hn) rfl ?_
  refine a_iconst (pc := 4) (n := 4) (by decide +kernel) ?_
  refine a_icmp_lt (pc := 5) (off := 5) (tgt := 10) (by decide +kernel) (by decide) (by omega) (by omega) (fun c5 => ?_) (fun c5 => ?_)
  · refine a_aload_n (pc := 10) (i := 0) (by decide +kernel) rfl ?_
    refine b_getR (pc := 11) (b := 34) fl_X5_14 (by decide +kernel) (sh_33 hn) rfl ?_
    refine a_aload_n (pc := 14) (i := 0) (by decide +kernel) rfl ?_
    refine b_getI (pc := 15) fl_X5_20 (by decide +kernel) (sh_33 hn) rfl ?_
    refine a_aload_n (pc := 18) (i := 1) (by decide +kernel) rfl ?_
    refine a_iconst (pc := 19) (n := 0) (by decide +kernel) ?_
    refine b_callV (pc := 20) (c' := 0) (sl' := 0) [j_i (σ.2.1 33 1), .ref b, j_i 0] [] ml_X5_42 (by decide +kernel) rfl rfl (sh_34 hn) rfl rfl (Nat.le_of_ble_eq_true rfl) (j_fitI rfl rfl) (s_copyRow (rA_34 hn) hw34 hRb hwb (by omega) (by omega) (by omega) (by omega) (by omega)) (fun v n' σ' hq => ?_)
    obtain ⟨rfl, e1, e2⟩ := hq
    rw [e1, e2]; clear e1 e2
    obtain ⟨σ1, hσ1⟩ : ∃ z, z = r_cpS σ 34 b (σ.2.1 33 1) 0 (σ.1 (b + 2) 0) := ⟨_, rfl⟩
    rw [← hσ1]
    show j_at _ _ _ [(0, .ref 33), (1, .ref b)] [] _ _ _ _
    refine a_aload_n (pc := 23) (i := 0) (by decide +kernel) rfl ?_
    refine a_dup (pc := 24) (by decide +kernel) rfl ?_
    refine b_getI (pc := 25) fl_X5_20 (by decide +kernel) (sh_33 hn) rfl ?_
    rw [show σ1.2.1 33 1 = σ.2.1 33 1 by rw [hσ1]; rfl]
    refine a_iconst (pc := 28) (n := 1) (by decide +kernel) ?_
    refine a_iadd (pc := 29) (by decide +kernel) ?_
    refine b_putI (pc := 30) fl_X5_20 (by decide +kernel) (sh_33 hn) rfl rfl rfl ?_
    obtain ⟨σ2, hσ2⟩ : ∃ z, z = k_sI σ1 33 1 ((σ.2.1 33 1) + 1) := ⟨_, rfl⟩
    rw [← hσ2]
    refine a_iconst (pc := 33) (n := 1) (by decide +kernel) ?_
    refine a_zreturn (pc := 34) (by decide +kernel) rfl (by omega) ?_
    refine k_ret ?_
    subst hσ2; subst hσ1; exact ⟨rfl, rfl, rfl⟩
  · refine a_iconst (pc := 8) (n := 0) (by decide +kernel) ?_
    refine a_zreturn (pc := 9) (by decide +kernel) rfl (by omega) ?_
    refine k_ret ?_
    exfalso; omega
set_option maxHeartbeats 4000000 in
theorem s_addPassed0 {G : j_G} {X : k_X} {n : Nat} {σ : k_St} (hn : 101 ≤ n) (hy : y_wf σ) {b R : Nat} (hRb : r_at X n b R) (hwb : r_wf σ b R) (h4 : 4 ≤ σ.2.1 33 1) : k_run G X mX5_addPassed [.ref 33, .ref b] n σ 0 0 (k_is n σ (some (j_i 0))) := by
  obtain ⟨hpc, hw34⟩ := id hy
  obtain ⟨g5, g30, gs0, gs1, gs2⟩ := id hRb
  refine k_enter (by decide +kernel) (Nat.le_of_ble_eq_true rfl) ?_
  show j_at _ _ _ [(0, .ref 33), (1, .ref b)] [] _ _ _ _
  refine a_aload_n (pc := 0) (i := 0) (by decide +kernel) rfl ?_
  refine b_getI (pc := 1) fl_X5_20 (by decide +kernel) (sh_33 hn) rfl ?_
  refine a_iconst (pc := 4) (n := 4) (by decide +kernel) ?_
  refine a_icmp_lt (pc := 5) (off := 5) (tgt := 10) (by decide +kernel) (by decide) (by omega) (by omega) (fun c5 => ?_) (fun c5 => ?_)
  · exfalso; omega
  · refine a_iconst (pc := 8) (n := 0) (by decide +kernel) ?_
    refine a_zreturn (pc := 9) (by decide +kernel) rfl (by omega) ?_
    refine k_ret ?_
    exact ⟨rfl, rfl, rfl⟩
set_option maxHeartbeats 4000000 in
theorem l_keyStart {G : j_G} {X : k_X} {n : Nat} {σ : k_St} (hn : 101 ≤ n) (hy : y_wf σ) {b R : Nat} (hRb : r_at X n b R) (hwb : r_wf σ b R) {row bl : Int} (hrow : -2147483648 ≤ row ∧ row ≤ 2147483647) (hbl : r_blank σ b R row bl) : ∀ (m : Nat) (i : Int), 4 - i < (m : Int) → 0 ≤ i → i ≤ σ.2.1 33 1 → (∀ j, 0 ≤ j → j < i → ¬ y_ksP σ b R row bl j) → j_at G mX5_keyStart 9 [(0, .ref 33), (1, .ref b), (2, j_i row), (3, j_i bl), (4, j_i i)] [] (k_h X n σ) 0 0 (k_Q X (k_ex n σ (y_ks σ b R row))) := by
  intro m
  induction m with
  | zero => intro i h1 h2 h3; exact absurd h3 (by have := hy.1; omega)
  | succ m ih =>
    intro i hm h0 hN hI
    obtain ⟨hpc, hw34⟩ := id hy
    obtain ⟨g5, g30, gs0, gs1, gs2⟩ := id hRb
    have hblr := r_blank_r hwb hbl
    refine a_iload (pc := 9) (i := 4) (by decide +kernel) rfl ?_
    refine a_aload_n (pc := 11) (i := 0) (by decide +kernel) rfl ?_
    refine b_getI (pc := 12) fl_X5_20 (by decide +kernel) (sh_33 hn) rfl ?_
    refine a_icmp_ge (pc := 15) (off := 40) (tgt := 55) (by decide +kernel) (by decide) (by omega) (by omega) (fun c15 => ?_) (fun c15 => ?_)
    · refine a_iconst (pc := 55) (n := 0) (by decide +kernel) ?_
      refine a_ireturn (pc := 56) (by decide +kernel) rfl ?_
      refine k_ret ?_
      exact k_exI ⟨bl, hbl, Or.inr ⟨rfl, fun p p0 p1 => hI p p0 (by omega)⟩⟩
    · refine a_aload_n (pc := 18) (i := 0) (by decide +kernel) rfl ?_
      refine b_getR (pc := 19) (b := 34) fl_X5_14 (by decide +kernel) (sh_33 hn) rfl ?_
      refine a_iload (pc := 22) (i := 4) (by decide +kernel) rfl ?_
      refine b_pureV (pc := 24) [j_i i] [] ml_X5_34 (by decide +kernel) rfl rfl (sh_34 hn) rfl rfl (Nat.le_of_ble_eq_true rfl) (j_fitI rfl rfl) (s_countOf (rA_34 hn) hw34 (by omega)) ?_
      have qc := r_cnt_in hw34 i
      show j_at _ _ _ [(0, .ref 33), (1, .ref b), (2, j_i row), (3, j_i bl), (4, j_i i)] [j_i (r_cnt σ 34 4 i)] _ _ _ _
      refine a_iload_n (pc := 27) (i := 3) (by decide +kernel) rfl ?_
      refine a_icmp_ne (pc := 28) (off := 21) (tgt := 49) (by decide +kernel) (by decide) (by omega) (by omega) (fun c28 => ?_) (fun c28 => ?_)
      · refine a_iinc (pc := 49) (i := 4) (n := 1) (x := i) (lv' := [(0, .ref 33), (1, .ref b), (2, j_i row), (3, j_i bl), (4, j_i (i + 1))]) (by decide +kernel) rfl (Nat.le_of_ble_eq_true rfl) rfl ?_
        refine a_goto (pc := 52) (off := -43) (tgt := 9) (by decide +kernel) (by decide) ?_
        exact ih (i + 1) (by omega) (by omega) (by omega) (lt_succ_cases hI (fun h9 => by first | exact c28 h9.1 | exact p39 h9.2))
      · refine a_aload_n (pc := 31) (i := 1) (by decide +kernel) rfl ?_
        refine a_iload_n (pc := 32) (i := 2) (by decide +kernel) rfl ?_
        refine a_aload_n (pc := 33) (i := 0) (by decide +kernel) rfl ?_
        refine b_getR (pc := 34) (b := 34) fl_X5_14 (by decide +kernel) (sh_33 hn) rfl ?_
        refine a_iload (pc := 37) (i := 4) (by decide +kernel) rfl ?_
        refine b_callV (pc := 39) (c' := 0) (sl' := 0) [j_i row, .ref 34, j_i i] [] ml_X5_38 (by decide +kernel) rfl rfl gs0 rfl rfl (Nat.le_of_ble_eq_true rfl) (j_fitI rfl rfl) (s_beginsAlike hRb hwb (by omega) (rA_34 hn) hw34 (by omega)) (fun v n' σ' hq => ?_)
        obtain ⟨x, rfl, e1, e2, hx⟩ := hq
        rw [e1, e2]; clear e1 e2
        rcases hx with ⟨rfl, p39⟩ | ⟨rfl, p39⟩
        · show j_at _ _ _ [(0, .ref 33), (1, .ref b), (2, j_i row), (3, j_i bl), (4, j_i i)] [j_i 1] _ _ _ _
          refine a_if_eq (pc := 42) (off := 7) (tgt := 49) (by decide +kernel) (by decide) (by omega) (fun c42 => ?_) (fun c42 => ?_)
          · exact absurd c42 (by decide)
          · refine a_iload_n (pc := 45) (i := 3) (by decide +kernel) rfl ?_
            refine a_iconst (pc := 46) (n := 1) (by decide +kernel) ?_
            refine a_iadd (pc := 47) (by decide +kernel) ?_
            refine a_ireturn (pc := 48) (by decide +kernel) rfl ?_
            refine k_ret ?_
            exact k_exI ⟨bl, hbl, Or.inl ⟨rfl, i, h0, c15, c28, p39⟩⟩
        · show j_at _ _ _ [(0, .ref 33), (1, .ref b), (2, j_i row), (3, j_i bl), (4, j_i i)] [j_i 0] _ _ _ _
          refine a_if_eq (pc := 42) (off := 7) (tgt := 49) (by decide +kernel) (by decide) (by omega) (fun c42 => ?_) (fun c42 => ?_)
          · refine a_iinc (pc := 49) (i := 4) (n := 1) (x := i) (lv' := [(0, .ref 33), (1, .ref b), (2, j_i row), (3, j_i bl), (4, j_i (i + 1))]) (by decide +kernel) rfl (Nat.le_of_ble_eq_true rfl) rfl ?_
            refine a_goto (pc := 52) (off := -43) (tgt := 9) (by decide +kernel) (by decide) ?_
            exact ih (i + 1) (by omega) (by omega) (by omega) (lt_succ_cases hI (fun h9 => by first | exact c28 h9.1 | exact p39 h9.2))
          · exact absurd c42 (by decide)
set_option maxHeartbeats 4000000 in
theorem s_keyStart {G : j_G} {X : k_X} {n : Nat} {σ : k_St} (hn : 101 ≤ n) (hy : y_wf σ) {b R : Nat} (hRb : r_at X n b R) (hwb : r_wf σ b R) {row : Int} (hrow : -2147483648 ≤ row ∧ row ≤ 2147483647) : k_run G X mX5_keyStart [.ref 33, .ref b, j_i row] n σ 0 0 (k_ex n σ (y_ks σ b R row)) := by
  obtain ⟨hpc, hw34⟩ := id hy
  obtain ⟨g5, g30, gs0, gs1, gs2⟩ := id hRb
  refine k_enter (by decide +kernel) (Nat.le_of_ble_eq_true rfl) ?_
  show j_at _ _ _ [(0, .ref 33), (1, .ref b), (2, j_i row)] [] _ _ _ _
  refine a_aload_n (pc := 0) (i := 1) (by decide +kernel) rfl ?_
  refine a_iload_n (pc := 1) (i := 2) (by decide +kernel) rfl ?_
  refine b_callV (pc := 2) (c' := 0) (sl' := 0) [j_i row] [] ml_X5_88 (by decide +kernel) rfl rfl gs0 rfl rfl (Nat.le_of_ble_eq_true rfl) (j_fitI rfl rfl) (s_firstBlank hRb hwb (by omega)) (fun v n' σ' hq => ?_)
  obtain ⟨bl1, rfl, e1, e2, hbl1⟩ := hq
  rw [e1, e2]; clear e1 e2
  show j_at _ _ _ [(0, .ref 33), (1, .ref b), (2, j_i row)] [j_i bl1] _ _ _ _
  refine a_istore_n (pc := 5) (i := 3) (lv' := [(0, .ref 33), (1, .ref b), (2, j_i row), (3, j_i bl1)]) (by decide +kernel) (Nat.le_of_ble_eq_true rfl) rfl ?_
  refine a_iconst (pc := 6) (n := 0) (by decide +kernel) ?_
  refine a_istore (pc := 7) (i := 4) (lv' := [(0, .ref 33), (1, .ref b), (2, j_i row), (3, j_i bl1), (4, j_i 0)]) (by decide +kernel) (Nat.le_of_ble_eq_true rfl) rfl ?_
  exact l_keyStart hn hy hRb hwb hrow hbl1 5 0 (by omega) (by omega) hpc.1 (fun j h0 h1 => absurd h0 (by omega))
