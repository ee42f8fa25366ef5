def y_11 : List j_C := [.inr (.inr (11, [.ref 6, .ref 8, .ref 16, .ref 22, .ref 24, .ref 30, .ref 33, .ref 39, .ref 48, .ref 58, j_i 10, j_i 0, j_i 0, j_i 3, j_i 0])), .inr (.inr (4, [.ref 7, j_i 0, .ref 8, .ref 16])), .inl (0, 300, fun _ => 0), .inr (.inr (2, [.ref 9, .ref 12, .ref 15, j_i 0])), .inr (.inr (9, [.ref 10, .ref 11])), .inl (1, 480, fun _ => 0), .inl (0, 30, fun _ => 0), .inr (.inr (9, [.ref 13, .ref 14])), .inl (1, 480, fun _ => 0), .inl (0, 30, fun _ => 0), .inl (2, 30, fun _ => 0), .inr (.inr (7, [.ref 17, .ref 18, .ref 19, .ref 20, .ref 21, j_i 0])), .inl (0, 50, fun _ => 0), .inl (0, 50, fun _ => 0), .inl (0, 50, fun _ => 0), .inl (0, 50, fun _ => 0), .inl (2, 50, fun _ => 0), .inr (.inr (0, [.ref 23, j_i 0, j_i 0])), .inr (.inl (40, fun _ => none)), .inr (.inr (8, [.ref 25, .ref 26, .ref 27, .ref 28, j_i 0, .ref 29, j_i 0])), .inl (0, 8, fun _ => 0), .inl (0, 8, fun _ => 0), .inl (0, 8, fun _ => 0), .inl (0, 8, fun _ => 0), .inl (0, 16, fun _ => 0), .inr (.inr (9, [.ref 31, .ref 32])), .inl (1, 16, fun _ => 0), .inl (0, 1, fun _ => 0), .inr (.inr (5, [.ref 34, j_i 0, .ref 37, .ref 38])), .inr (.inr (9, [.ref 35, .ref 36])), .inl (1, 64, fun _ => 0), .inl (0, 4, fun _ => 0), .inr (.inr (1, [j_i 0, j_i 0, j_l 0])), .inr (.inr (1, [j_i 0, j_i 0, j_l 0])), .inr (.inr (6, [.ref 6, .ref 33, .ref 40, .ref 41, j_i 0, .ref 42, j_i 0, .ref 43, .ref 44, .ref 45, j_i (-9), j_i 0, j_i 0, j_i 1])), .inl (0, 30, fun _ => 0), .inl (0, 30, fun _ => 0), .inl (0, 50, fun _ => 0), .inl (2, 50, fun _ => 0), .inl (0, 30, fun _ => 0), .inr (.inr (10, [.ref 46, .ref 47, j_i 0])), .inl (0, 50, fun _ => 0), .inl (0, 50, fun _ => 0), .inr (.inr (3, [j_i 0, .ref 49, .ref 50, .ref 51, .ref 52, j_i 0, .ref 53, j_i 0, .ref 54, j_i 0, .ref 55])), .inl (0, 150, fun _ => 0), .inl (0, 150, fun _ => 0), .inl (0, 150, fun _ => 0), .inl (0, 200, fun _ => 0), .inl (0, 150, fun _ => 0), .inl (0, 50, fun _ => 0), .inr (.inr (9, [.ref 56, .ref 57])), .inl (1, 480, fun _ => 0), .inl (0, 30, fun _ => 0), .inr (.inr (3, [j_i 0, .ref 59, .ref 60, .ref 61, .ref 62, j_i 0, .ref 63, j_i 0, .ref 64, j_i 0, .ref 65])), .inl (0, 150, fun _ => 0), .inl (0, 150, fun _ => 0), .inl (0, 150, fun _ => 0), .inl (0, 200, fun _ => 0), .inl (0, 150, fun _ => 0), .inl (0, 50, fun _ => 0), .inr (.inr (9, [.ref 66, .ref 67])), .inl (1, 480, fun _ => 0), .inl (0, 30, fun _ => 0)]
def y_12 : List j_C := [.inr (.inr (12, [j_i 0, j_i 0, .ref 69, .ref 70, j_i 0, j_i 0, .ref 71, j_i 0, .ref 72, .ref 73, j_i 0, j_i 10, j_i 0, .ref 74, .ref 75, .ref 76, .ref 77, .ref 78, .ref 79, .ref 80, j_i 0, j_i 0, j_i 0, j_l 0, j_i 0, j_i 0, .ref 81, .ref 82, .ref 83, .ref 84, .ref 85, .ref 86, j_i 0, .ref 87, j_i 0, j_i 0, .ref 88, .ref 89, .ref 90, .ref 91, .ref 92, .ref 93, .ref 94, j_i 0, .ref 95, j_i 0, .ref 96, .ref 97, j_i 0, .ref 98, .ref 99, .ref 100, j_i 3, j_i 0])), .inl (0, 1733, fun _ => 0), .inl (0, 69320, fun _ => 0), .inl (0, 16, fun _ => 0), .inl (0, 64, fun _ => 0), .inl (0, 4, fun _ => 0), .inl (0, 8, fun _ => 0), .inl (0, 8, fun _ => 0), .inl (0, 8, fun _ => 0), .inl (0, 8, fun _ => 0), .inl (0, 300, fun _ => 0), .inl (0, 300, fun _ => 0), .inl (0, 24, fun _ => 0), .inl (0, 600, fun _ => 0), .inl (0, 200, fun _ => 0), .inl (0, 200, fun _ => 0), .inl (0, 200, fun _ => 0), .inl (0, 200, fun _ => 0), .inl (0, 1200, fun _ => 0), .inl (0, 600, fun _ => 0), .inl (0, 600, fun _ => 0), .inl (0, 200, fun _ => 0), .inl (0, 200, fun _ => 0), .inl (0, 200, fun _ => 0), .inl (0, 200, fun _ => 0), .inl (0, 1200, fun _ => 0), .inl (0, 600, fun _ => 0), .inl (0, 50, fun _ => 0), .inl (0, 30, fun _ => 0), .inl (0, 480, fun _ => 0), .inl (0, 60, fun _ => 0), .inl (0, 60, fun _ => 0), .inl (2, 200, fun _ => 0)]
theorem y_all {X : k_X} : ∀ k : Nat, k < 96 → (y_11 ++ y_12)[k]? = (k_SH X.1 (k + 5)).map (k_cell X s_0 (k + 5))
  | 0, _ => rfl
  | 1, _ => rfl
  | 2, _ => rfl
  | 3, _ => rfl
  | 4, _ => rfl
  | 5, _ => rfl
  | 6, _ => rfl
  | 7, _ => rfl
  | 8, _ => rfl
  | 9, _ => rfl
  | 10, _ => rfl
  | 11, _ => rfl
  | 12, _ => rfl
  | 13, _ => rfl
  | 14, _ => rfl
  | 15, _ => rfl
  | 16, _ => rfl
  | 17, _ => rfl
  | 18, _ => rfl
  | 19, _ => rfl
  | 20, _ => rfl
  | 21, _ => rfl
  | 22, _ => rfl
  | 23, _ => rfl
  | 24, _ => rfl
  | 25, _ => rfl
  | 26, _ => rfl
  | 27, _ => rfl
  | 28, _ => rfl
  | 29, _ => rfl
  | 30, _ => rfl
  | 31, _ => rfl
  | 32, _ => rfl
  | 33, _ => rfl
  | 34, _ => rfl
  | 35, _ => rfl
  | 36, _ => rfl
  | 37, _ => rfl
  | 38, _ => rfl
  | 39, _ => rfl
  | 40, _ => rfl
  | 41, _ => rfl
  | 42, _ => rfl
  | 43, _ => rfl
  | 44, _ => rfl
  | 45, _ => rfl
  | 46, _ => rfl
  | 47, _ => rfl
  | 48, _ => rfl
  | 49, _ => rfl
  | 50, _ => rfl
  | 51, _ => rfl
  | 52, _ => rfl
  | 53, _ => rfl
  | 54, _ => rfl
  | 55, _ => rfl
  | 56, _ => rfl
  | 57, _ => rfl
  | 58, _ => rfl
  | 59, _ => rfl
  | 60, _ => rfl
  | 61, _ => rfl
  | 62, _ => rfl
  | 63, _ => rfl
  | 64, _ => rfl
  | 65, _ => rfl
  | 66, _ => rfl
  | 67, _ => rfl
  | 68, _ => rfl
  | 69, _ => rfl
  | 70, _ => rfl
  | 71, _ => rfl
  | 72, _ => rfl
  | 73, _ => rfl
  | 74, _ => rfl
  | 75, _ => rfl
  | 76, _ => rfl
  | 77, _ => rfl
  | 78, _ => rfl
  | 79, _ => rfl
  | 80, _ => rfl
  | 81, _ => rfl
  | 82, _ => rfl
  | 83, _ => rfl
  | 84, _ => rfl
  | 85, _ => rfl
  | 86, _ => rfl
  | 87, _ => rfl
  | 88, _ => rfl
  | 89, _ => rfl
  | 90, _ => rfl
  | 91, _ => rfl
  | 92, _ => rfl
  | 93, _ => rfl
  | 94, _ => rfl
  | 95, _ => rfl
  | k + 96, h => absurd h (by omega)
theorem y_h {X : k_X} : c_ext (k_h X 5 s_0) (y_11 ++ y_12) = k_h X 101 s_0 := by
  unfold c_ext k_h
  congr 1
  funext b
  show (if b < 5 then (if b < 5 then (k_SH X.1 b).map (k_cell X s_0 b) else none) else (y_11 ++ y_12)[b - 5]?) = (if b < 101 then (k_SH X.1 b).map (k_cell X s_0 b) else none)
  by_cases h1 : b < 5
  · rw [if_pos h1, if_pos h1, if_pos (by omega)]
  · rw [if_neg h1]
    by_cases h2 : b < 101
    · rw [if_pos h2]
      have := y_all (X := X) (b - 5) (by omega)
      rw [show b - 5 + 5 = b by omega] at this; exact this
    · rw [if_neg h2]
      exact List.getElem?_eq_none (by show 96 ≤ b - 5; omega)
set_option maxHeartbeats 40000000 in
theorem law_entry' {G : j_G} {X : k_X} {c sl : Nat} {Q : j_P} (kk : j_at G mL_law 18 [(0, .ref 0), (1, .ref 5), (2, .ref 68), (3, j_i 0)] [] (k_h X 101 s_0) c sl Q) : j_at G mL_law 0 [(0, .ref 0)] [] (k_h X 5 s_0) (((c + 32) + 1 + 62) + 1) (((sl + 79073) + 54 + 4868) + 15) Q := by
  rw [← c_ext_0 (X := X) (n := 5) (σ := s_0)]
  refine d_new (c := c + 32 + 1 + 62) (sl := sl + 79073 + 54 + 4868) (N := 15) (pc := 0) (fs := [.null, .null, .null, .null, .null, .null, .null, .null, .null, .null, j_i 0, j_i 0, j_i 0, j_i 0, j_i 0]) (cs' := [.inr (.inr (11, [.null, .null, .null, .null, .null, .null, .null, .null, .null, .null, j_i 0, j_i 0, j_i 0, j_i 0, j_i 0]))]) ciX11 kl_L_7 ki_X11 kn_X11 (by decide +kernel) bl_11 rfl ?_
  show j_at _ _ _ [(0, .ref 0)] [.ref 5] _ _ _ _
  refine a_dup (pc := 3) (by decide +kernel) rfl ?_
  refine d_call (c := c + 32 + 1) (sl := sl + 79073 + 54) (pc := 4) (k := 0) (L0 := []) (x := .inr (.inr (11, [.null, .null, .null, .null, .null, .null, .null, .null, .null, .null, j_i 0, j_i 0, j_i 0, j_i 0, j_i 0]))) (cs' := y_11) (c' := 62) (sl' := 4868) [] [.ref 5] ml_L_9 (by decide +kernel) rfl rfl (Nat.le_of_ble_eq_true rfl) (j_fitI rfl rfl) rfl rfl n_X11_init rfl ?_
  show j_at _ _ _ [(0, .ref 0)] [.ref 5] _ _ _ _
  refine a_astore_n (pc := 7) (i := 1) (lv' := [(0, .ref 0), (1, .ref 5)]) (by decide +kernel) (Nat.le_of_ble_eq_true rfl) rfl ?_
  refine d_new (c := c + 32) (sl := sl + 79073) (N := 54) (pc := 8) (fs := [j_i 0, j_i 0, .null, .null, j_i 0, j_i 0, .null, j_i 0, .null, .null, j_i 0, j_i 0, j_i 0, .null, .null, .null, .null, .null, .null, .null, j_i 0, j_i 0, j_i 0, j_l 0, j_i 0, j_i 0, .null, .null, .null, .null, .null, .null, j_i 0, .null, j_i 0, j_i 0, .null, .null, .null, .null, .null, .null, .null, j_i 0, .null, j_i 0, .null, .null, j_i 0, .null, .null, .null, j_i 0, j_i 0]) (cs' := y_11 ++ [.inr (.inr (12, [j_i 0, j_i 0, .null, .null, j_i 0, j_i 0, .null, j_i 0, .null, .null, j_i 0, j_i 0, j_i 0, .null, .null, .null, .null, .null, .null, .null, j_i 0, j_i 0, j_i 0, j_l 0, j_i 0, j_i 0, .null, .null, .null, .null, .null, .null, j_i 0, .null, j_i 0, j_i 0, .null, .null, .null, .null, .null, .null, .null, j_i 0, .null, j_i 0, .null, .null, j_i 0, .null, .null, .null, j_i 0, j_i 0]))]) ciX12 kl_L_10 ki_X12 kn_X12 (by decide +kernel) bl_12 rfl ?_
  show j_at _ _ _ [(0, .ref 0), (1, .ref 5)] [.ref 68] _ _ _ _
  refine a_dup (pc := 11) (by decide +kernel) rfl ?_
  refine d_call (c := c) (sl := sl) (pc := 12) (k := 63) (L0 := y_11) (x := .inr (.inr (12, [j_i 0, j_i 0, .null, .null, j_i 0, j_i 0, .null, j_i 0, .null, .null, j_i 0, j_i 0, j_i 0, .null, .null, .null, .null, .null, .null, .null, j_i 0, j_i 0, j_i 0, j_l 0, j_i 0, j_i 0, .null, .null, .null, .null, .null, .null, j_i 0, .null, j_i 0, j_i 0, .null, .null, .null, .null, .null, .null, .null, j_i 0, .null, j_i 0, .null, .null, j_i 0, .null, .null, .null, j_i 0, j_i 0]))) (cs' := y_11 ++ y_12) (c' := 32) (sl' := 79073) [] [.ref 68] ml_L_12 (by decide +kernel) rfl rfl (Nat.le_of_ble_eq_true rfl) (j_fitI rfl rfl) rfl rfl n_X12_init rfl ?_
  show j_at _ _ _ [(0, .ref 0), (1, .ref 5)] [.ref 68] _ _ _ _
  refine a_astore_n (pc := 15) (i := 2) (lv' := [(0, .ref 0), (1, .ref 5), (2, .ref 68)]) (by decide +kernel) (Nat.le_of_ble_eq_true rfl) rfl ?_
  refine a_iconst (pc := 16) (n := 0) (by decide +kernel) ?_
  refine a_istore_n (pc := 17) (i := 3) (lv' := [(0, .ref 0), (1, .ref 5), (2, .ref 68), (3, j_i 0)]) (by decide +kernel) (Nat.le_of_ble_eq_true rfl) rfl ?_
  rw [y_h]
  exact kk
theorem law_entry {G : j_G} {X : k_X} (hX : X.1 ≤ 3584) (hr : ∀ j, -2147483648 ≤ k_rof X 0 j ∧ k_rof X 0 j ≤ 2147483647) : j_at G mL_law 0 [(0, .ref 0)] [] (k_h X 5 s_0) 600000 7302250 (k_Q X (fun v n' σ' => v = some (j_i 1))) :=
  j_more (by omega) (by omega) (law_entry' (l_law18 (by omega) hr 513 0 101 s_0 RR_0 (by omega) (by omega) (by omega)))
