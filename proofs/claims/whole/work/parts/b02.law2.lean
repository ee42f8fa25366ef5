set_option maxHeartbeats 4000000 in
theorem w_22 {G : j_G} {X : k_X} {n : Nat} {σ : k_St} (hR : RR n σ) {i : Int} (hi : 0 ≤ i ∧ i + 6 < X.1) (hX : X.1 ≤ 1000000) (hr : ∀ j, -2147483648 ≤ k_rof X 0 j ∧ k_rof X 0 j ≤ 2147483647) {c sl : Nat} {Q : j_P} (kk : ∀ n' σ', RR n' σ' → j_at G mL_law 1624 [(0, .ref 0), (1, .ref 5), (2, .ref 68), (3, j_i i)] [] (k_h X n' σ') c sl Q) : j_at G mL_law 988 [(0, .ref 0), (1, .ref 5), (2, .ref 68), (3, j_i i)] [] (k_h X n σ) (c + 16) (sl + 1618) Q := by
  have hn := RR_n hR
  refine a_aload_n (pc := 988) (i := 1) (by decide +kernel) rfl ?_
  refine a_aload_n (pc := 989) (i := 0) (by decide +kernel) rfl ?_
  refine a_iload_n (pc := 990) (i := 3) (by decide +kernel) rfl ?_
  refine a_iconst (pc := 991) (n := 1) (by decide +kernel) ?_
  refine a_iadd (pc := 992) (by decide +kernel) ?_
  refine b_siload (pc := 993) (by decide +kernel) (sh_0 hn) (by decide) (by omega) hX ?_
  refine a_aload_n (pc := 994) (i := 0) (by decide +kernel) rfl ?_
  refine a_iload_n (pc := 995) (i := 3) (by decide +kernel) rfl ?_
  refine a_iconst (pc := 996) (n := 2) (by decide +kernel) ?_
  refine a_iadd (pc := 997) (by decide +kernel) ?_
  refine b_siload (pc := 998) (by decide +kernel) (sh_0 hn) (by decide) (by omega) hX ?_
  obtain ⟨P9, hP1, hP2⟩ := p_marked (G := G) (X := X) hR (hr (i + 1)) (hr (i + 2))
  refine b_callV (pc := 999) (c' := 0) (sl' := 0) [j_i (k_rof X 0 (i + 1)), j_i (k_rof X 0 (i + 2))] [] ml_L_111 (by decide +kernel) rfl rfl (sh_5 hn) rfl rfl (Nat.le_of_ble_eq_true rfl) (j_fitI rfl rfl) hP1 (fun v n' σ' hq => ?_)
  obtain ⟨hn2, r, rfl, hM9⟩ := hP2 _ _ _ hq
  obtain ⟨σ1, hσ1⟩ : ∃ z, z = σ' := ⟨_, rfl⟩
  rw [← hσ1] at hM9 ⊢
  clear hσ1
  have hn := hn2
  show j_at _ _ _ [(0, .ref 0), (1, .ref 5), (2, .ref 68), (3, j_i i)] [j_i r] _ _ _ _
  refine a_aload_n (pc := 1002) (i := 2) (by decide +kernel) rfl ?_
  refine a_aload_n (pc := 1003) (i := 0) (by decide +kernel) rfl ?_
  refine a_iload_n (pc := 1004) (i := 3) (by decide +kernel) rfl ?_
  refine a_iconst (pc := 1005) (n := 1) (by decide +kernel) ?_
  refine a_iadd (pc := 1006) (by decide +kernel) ?_
  refine b_siload (pc := 1007) (by decide +kernel) (sh_0 hn) (by decide) (by omega) hX ?_
  refine a_aload_n (pc := 1008) (i := 0) (by decide +kernel) rfl ?_
  refine a_iload_n (pc := 1009) (i := 3) (by decide +kernel) rfl ?_
  refine a_iconst (pc := 1010) (n := 2) (by decide +kernel) ?_
  refine a_iadd (pc := 1011) (by decide +kernel) ?_
  refine b_siload (pc := 1012) (by decide +kernel) (sh_0 hn) (by decide) (by omega) hX ?_
  refine b_callV (pc := 1013) (c' := 0) (sl' := 0) [j_i (k_rof X 0 (i + 1)), j_i (k_rof X 0 (i + 2))] [j_i r] ml_L_114 (by decide +kernel) rfl rfl (sh_68 hn) rfl rfl (Nat.le_of_ble_eq_true rfl) (j_fitI rfl rfl) hM9 (fun v n' σ' hq => ?_)
  obtain ⟨rfl, hR2⟩ := hq
  obtain ⟨σ2, hσ2⟩ : ∃ z, z = σ' := ⟨_, rfl⟩
  rw [← hσ2] at hR2 ⊢
  clear hσ2
  show j_at _ _ _ [(0, .ref 0), (1, .ref 5), (2, .ref 68), (3, j_i i)] [j_i r, j_i r] _ _ _ _
  exact a_same_eq (pc := 1016) (off := 608) (tgt := 1624) (by decide +kernel) (by decide) (j_more (by omega) (by omega) (kk _ _ hR2))
set_option maxHeartbeats 4000000 in
theorem w_23 {G : j_G} {X : k_X} {n : Nat} {σ : k_St} (hR : RR n σ) {i : Int} (hi : 0 ≤ i ∧ i + 6 < X.1) (hX : X.1 ≤ 1000000) (hr : ∀ j, -2147483648 ≤ k_rof X 0 j ∧ k_rof X 0 j ≤ 2147483647) {c sl : Nat} {Q : j_P} (kk : ∀ n' σ', RR n' σ' → j_at G mL_law 1624 [(0, .ref 0), (1, .ref 5), (2, .ref 68), (3, j_i i)] [] (k_h X n' σ') c sl Q) : j_at G mL_law 1021 [(0, .ref 0), (1, .ref 5), (2, .ref 68), (3, j_i i)] [] (k_h X n σ) (c + 16) (sl + 1618) Q := by
  have hn := RR_n hR
  refine a_aload_n (pc := 1021) (i := 1) (by decide +kernel) rfl ?_
  refine a_aload_n (pc := 1022) (i := 0) (by decide +kernel) rfl ?_
  refine a_iload_n (pc := 1023) (i := 3) (by decide +kernel) rfl ?_
  refine a_iconst (pc := 1024) (n := 1) (by decide +kernel) ?_
  refine a_iadd (pc := 1025) (by decide +kernel) ?_
  refine b_siload (pc := 1026) (by decide +kernel) (sh_0 hn) (by decide) (by omega) hX ?_
  obtain ⟨P9, hP1, hP2⟩ := p_tell (G := G) (X := X) hR (hr (i + 1))
  refine b_callV (pc := 1027) (c' := 0) (sl' := 0) [j_i (k_rof X 0 (i + 1))] [] ml_L_115 (by decide +kernel) rfl rfl (sh_5 hn) rfl rfl (Nat.le_of_ble_eq_true rfl) (j_fitI rfl rfl) hP1 (fun v n' σ' hq => ?_)
  obtain ⟨hn2, r, rfl, hM9⟩ := hP2 _ _ _ hq
  obtain ⟨σ1, hσ1⟩ : ∃ z, z = σ' := ⟨_, rfl⟩
  rw [← hσ1] at hM9 ⊢
  clear hσ1
  have hn := hn2
  show j_at _ _ _ [(0, .ref 0), (1, .ref 5), (2, .ref 68), (3, j_i i)] [j_i r] _ _ _ _
  refine a_aload_n (pc := 1030) (i := 2) (by decide +kernel) rfl ?_
  refine a_aload_n (pc := 1031) (i := 0) (by decide +kernel) rfl ?_
  refine a_iload_n (pc := 1032) (i := 3) (by decide +kernel) rfl ?_
  refine a_iconst (pc := 1033) (n := 1) (by decide +kernel) ?_
  refine a_iadd (pc := 1034) (by decide +kernel) ?_
  refine b_siload (pc := 1035) (by decide +kernel) (sh_0 hn) (by decide) (by omega) hX ?_
  refine b_callV (pc := 1036) (c' := 0) (sl' := 0) [j_i (k_rof X 0 (i + 1))] [j_i r] ml_L_118 (by decide +kernel) rfl rfl (sh_68 hn) rfl rfl (Nat.le_of_ble_eq_true rfl) (j_fitI rfl rfl) hM9 (fun v n' σ' hq => ?_)
  obtain ⟨rfl, hR2⟩ := hq
  obtain ⟨σ2, hσ2⟩ : ∃ z, z = σ' := ⟨_, rfl⟩
  rw [← hσ2] at hR2 ⊢
  clear hσ2
  show j_at _ _ _ [(0, .ref 0), (1, .ref 5), (2, .ref 68), (3, j_i i)] [j_i r, j_i r] _ _ _ _
  exact a_same_eq (pc := 1039) (off := 585) (tgt := 1624) (by decide +kernel) (by decide) (j_more (by omega) (by omega) (kk _ _ hR2))
set_option maxHeartbeats 4000000 in
theorem w_24 {G : j_G} {X : k_X} {n : Nat} {σ : k_St} (hR : RR n σ) {i : Int} (hi : 0 ≤ i ∧ i + 6 < X.1) (hX : X.1 ≤ 1000000) (hr : ∀ j, -2147483648 ≤ k_rof X 0 j ∧ k_rof X 0 j ≤ 2147483647) {c sl : Nat} {Q : j_P} (kk : ∀ n' σ', RR n' σ' → j_at G mL_law 1624 [(0, .ref 0), (1, .ref 5), (2, .ref 68), (3, j_i i)] [] (k_h X n' σ') c sl Q) : j_at G mL_law 1044 [(0, .ref 0), (1, .ref 5), (2, .ref 68), (3, j_i i)] [] (k_h X n σ) (c + 16) (sl + 1618) Q := by
  have hn := RR_n hR
  refine a_aload_n (pc := 1044) (i := 1) (by decide +kernel) rfl ?_
  refine a_aload_n (pc := 1045) (i := 0) (by decide +kernel) rfl ?_
  refine a_iload_n (pc := 1046) (i := 3) (by decide +kernel) rfl ?_
  refine a_iconst (pc := 1047) (n := 1) (by decide +kernel) ?_
  refine a_iadd (pc := 1048) (by decide +kernel) ?_
  refine b_siload (pc := 1049) (by decide +kernel) (sh_0 hn) (by decide) (by omega) hX ?_
  obtain ⟨P9, hP1, hP2⟩ := p_show (G := G) (X := X) hR (hr (i + 1))
  refine b_callV (pc := 1050) (c' := 0) (sl' := 0) [j_i (k_rof X 0 (i + 1))] [] ml_L_119 (by decide +kernel) rfl rfl (sh_5 hn) rfl rfl (Nat.le_of_ble_eq_true rfl) (j_fitI rfl rfl) hP1 (fun v n' σ' hq => ?_)
  obtain ⟨hn2, r, rfl, hM9⟩ := hP2 _ _ _ hq
  obtain ⟨σ1, hσ1⟩ : ∃ z, z = σ' := ⟨_, rfl⟩
  rw [← hσ1] at hM9 ⊢
  clear hσ1
  have hn := hn2
  show j_at _ _ _ [(0, .ref 0), (1, .ref 5), (2, .ref 68), (3, j_i i)] [j_i r] _ _ _ _
  refine a_aload_n (pc := 1053) (i := 2) (by decide +kernel) rfl ?_
  refine a_aload_n (pc := 1054) (i := 0) (by decide +kernel) rfl ?_
  refine a_iload_n (pc := 1055) (i := 3) (by decide +kernel) rfl ?_
  refine a_iconst (pc := 1056) (n := 1) (by decide +kernel) ?_
  refine a_iadd (pc := 1057) (by decide +kernel) ?_
  refine b_siload (pc := 1058) (by decide +kernel) (sh_0 hn) (by decide) (by omega) hX ?_
  refine b_callV (pc := 1059) (c' := 0) (sl' := 0) [j_i (k_rof X 0 (i + 1))] [j_i r] ml_L_122 (by decide +kernel) rfl rfl (sh_68 hn) rfl rfl (Nat.le_of_ble_eq_true rfl) (j_fitI rfl rfl) hM9 (fun v n' σ' hq => ?_)
  obtain ⟨rfl, hR2⟩ := hq
  obtain ⟨σ2, hσ2⟩ : ∃ z, z = σ' := ⟨_, rfl⟩
  rw [← hσ2] at hR2 ⊢
  clear hσ2
  show j_at _ _ _ [(0, .ref 0), (1, .ref 5), (2, .ref 68), (3, j_i i)] [j_i r, j_i r] _ _ _ _
  exact a_same_eq (pc := 1062) (off := 562) (tgt := 1624) (by decide +kernel) (by decide) (j_more (by omega) (by omega) (kk _ _ hR2))
set_option maxHeartbeats 4000000 in
theorem w_25 {G : j_G} {X : k_X} {n : Nat} {σ : k_St} (hR : RR n σ) {i : Int} (hi : 0 ≤ i ∧ i + 6 < X.1) (hX : X.1 ≤ 1000000) (hr : ∀ j, -2147483648 ≤ k_rof X 0 j ∧ k_rof X 0 j ≤ 2147483647) {c sl : Nat} {Q : j_P} (kk : ∀ n' σ', RR n' σ' → j_at G mL_law 1624 [(0, .ref 0), (1, .ref 5), (2, .ref 68), (3, j_i i)] [] (k_h X n' σ') c sl Q) : j_at G mL_law 1067 [(0, .ref 0), (1, .ref 5), (2, .ref 68), (3, j_i i)] [] (k_h X n σ) (c + 16) (sl + 1618) Q := by
  have hn := RR_n hR
  refine a_aload_n (pc := 1067) (i := 1) (by decide +kernel) rfl ?_
  refine a_aload_n (pc := 1068) (i := 0) (by decide +kernel) rfl ?_
  refine a_iload_n (pc := 1069) (i := 3) (by decide +kernel) rfl ?_
  refine a_iconst (pc := 1070) (n := 1) (by decide +kernel) ?_
  refine a_iadd (pc := 1071) (by decide +kernel) ?_
  refine b_siload (pc := 1072) (by decide +kernel) (sh_0 hn) (by decide) (by omega) hX ?_
  refine a_aload_n (pc := 1073) (i := 0) (by decide +kernel) rfl ?_
  refine a_iload_n (pc := 1074) (i := 3) (by decide +kernel) rfl ?_
  refine a_iconst (pc := 1075) (n := 2) (by decide +kernel) ?_
  refine a_iadd (pc := 1076) (by decide +kernel) ?_
  refine b_siload (pc := 1077) (by decide +kernel) (sh_0 hn) (by decide) (by omega) hX ?_
  refine a_aload_n (pc := 1078) (i := 0) (by decide +kernel) rfl ?_
  refine a_iload_n (pc := 1079) (i := 3) (by decide +kernel) rfl ?_
  refine a_iconst (pc := 1080) (n := 3) (by decide +kernel) ?_
  refine a_iadd (pc := 1081) (by decide +kernel) ?_
  refine b_siload (pc := 1082) (by decide +kernel) (sh_0 hn) (by decide) (by omega) hX ?_
  obtain ⟨P9, hP1, hP2⟩ := p_build (G := G) (X := X) hR (hr (i + 1)) (hr (i + 2)) (hr (i + 3))
  refine b_callV (pc := 1083) (c' := 0) (sl' := 0) [j_i (k_rof X 0 (i + 1)), j_i (k_rof X 0 (i + 2)), j_i (k_rof X 0 (i + 3))] [] ml_L_123 (by decide +kernel) rfl rfl (sh_5 hn) rfl rfl (Nat.le_of_ble_eq_true rfl) (j_fitI rfl rfl) hP1 (fun v n' σ' hq => ?_)
  obtain ⟨hn2, r, rfl, hM9⟩ := hP2 _ _ _ hq
  obtain ⟨σ1, hσ1⟩ : ∃ z, z = σ' := ⟨_, rfl⟩
  rw [← hσ1] at hM9 ⊢
  clear hσ1
  have hn := hn2
  show j_at _ _ _ [(0, .ref 0), (1, .ref 5), (2, .ref 68), (3, j_i i)] [j_i r] _ _ _ _
  refine a_aload_n (pc := 1086) (i := 2) (by decide +kernel) rfl ?_
  refine a_aload_n (pc := 1087) (i := 0) (by decide +kernel) rfl ?_
  refine a_iload_n (pc := 1088) (i := 3) (by decide +kernel) rfl ?_
  refine a_iconst (pc := 1089) (n := 1) (by decide +kernel) ?_
  refine a_iadd (pc := 1090) (by decide +kernel) ?_
  refine b_siload (pc := 1091) (by decide +kernel) (sh_0 hn) (by decide) (by omega) hX ?_
  refine a_aload_n (pc := 1092) (i := 0) (by decide +kernel) rfl ?_
  refine a_iload_n (pc := 1093) (i := 3) (by decide +kernel) rfl ?_
  refine a_iconst (pc := 1094) (n := 2) (by decide +kernel) ?_
  refine a_iadd (pc := 1095) (by decide +kernel) ?_
  refine b_siload (pc := 1096) (by decide +kernel) (sh_0 hn) (by decide) (by omega) hX ?_
  refine a_aload_n (pc := 1097) (i := 0) (by decide +kernel) rfl ?_
  refine a_iload_n (pc := 1098) (i := 3) (by decide +kernel) rfl ?_
  refine a_iconst (pc := 1099) (n := 3) (by decide +kernel) ?_
  refine a_iadd (pc := 1100) (by decide +kernel) ?_
  refine b_siload (pc := 1101) (by decide +kernel) (sh_0 hn) (by decide) (by omega) hX ?_
  refine b_callV (pc := 1102) (c' := 0) (sl' := 0) [j_i (k_rof X 0 (i + 1)), j_i (k_rof X 0 (i + 2)), j_i (k_rof X 0 (i + 3))] [j_i r] ml_L_126 (by decide +kernel) rfl rfl (sh_68 hn) rfl rfl (Nat.le_of_ble_eq_true rfl) (j_fitI rfl rfl) hM9 (fun v n' σ' hq => ?_)
  obtain ⟨rfl, hR2⟩ := hq
  obtain ⟨σ2, hσ2⟩ : ∃ z, z = σ' := ⟨_, rfl⟩
  rw [← hσ2] at hR2 ⊢
  clear hσ2
  show j_at _ _ _ [(0, .ref 0), (1, .ref 5), (2, .ref 68), (3, j_i i)] [j_i r, j_i r] _ _ _ _
  exact a_same_eq (pc := 1105) (off := 519) (tgt := 1624) (by decide +kernel) (by decide) (j_more (by omega) (by omega) (kk _ _ hR2))
set_option maxHeartbeats 4000000 in
theorem w_26 {G : j_G} {X : k_X} {n : Nat} {σ : k_St} (hR : RR n σ) {i : Int} (hi : 0 ≤ i ∧ i + 6 < X.1) (hX : X.1 ≤ 1000000) (hr : ∀ j, -2147483648 ≤ k_rof X 0 j ∧ k_rof X 0 j ≤ 2147483647) {c sl : Nat} {Q : j_P} (kk : ∀ n' σ', RR n' σ' → j_at G mL_law 1624 [(0, .ref 0), (1, .ref 5), (2, .ref 68), (3, j_i i)] [] (k_h X n' σ') c sl Q) : j_at G mL_law 1110 [(0, .ref 0), (1, .ref 5), (2, .ref 68), (3, j_i i)] [] (k_h X n σ) (c + 16) (sl + 1618) Q := by
  have hn := RR_n hR
  refine a_aload_n (pc := 1110) (i := 1) (by decide +kernel) rfl ?_
  refine a_aload_n (pc := 1111) (i := 0) (by decide +kernel) rfl ?_
  refine a_iload_n (pc := 1112) (i := 3) (by decide +kernel) rfl ?_
  refine a_iconst (pc := 1113) (n := 1) (by decide +kernel) ?_
  refine a_iadd (pc := 1114) (by decide +kernel) ?_
  refine b_siload (pc := 1115) (by decide +kernel) (sh_0 hn) (by decide) (by omega) hX ?_
  refine a_aload_n (pc := 1116) (i := 0) (by decide +kernel) rfl ?_
  refine a_iload_n (pc := 1117) (i := 3) (by decide +kernel) rfl ?_
  refine a_iconst (pc := 1118) (n := 2) (by decide +kernel) ?_
  refine a_iadd (pc := 1119) (by decide +kernel) ?_
  refine b_siload (pc := 1120) (by decide +kernel) (sh_0 hn) (by decide) (by omega) hX ?_
  obtain ⟨P9, hP1, hP2⟩ := p_entry (G := G) (X := X) hR (hr (i + 1)) (hr (i + 2))
  refine b_callV (pc := 1121) (c' := 0) (sl' := 0) [j_i (k_rof X 0 (i + 1)), j_i (k_rof X 0 (i + 2))] [] ml_L_127 (by decide +kernel) rfl rfl (sh_5 hn) rfl rfl (Nat.le_of_ble_eq_true rfl) (j_fitI rfl rfl) hP1 (fun v n' σ' hq => ?_)
  obtain ⟨hn2, r, rfl, hM9⟩ := hP2 _ _ _ hq
  obtain ⟨σ1, hσ1⟩ : ∃ z, z = σ' := ⟨_, rfl⟩
  rw [← hσ1] at hM9 ⊢
  clear hσ1
  have hn := hn2
  show j_at _ _ _ [(0, .ref 0), (1, .ref 5), (2, .ref 68), (3, j_i i)] [j_i r] _ _ _ _
  refine a_aload_n (pc := 1124) (i := 2) (by decide +kernel) rfl ?_
  refine a_aload_n (pc := 1125) (i := 0) (by decide +kernel) rfl ?_
  refine a_iload_n (pc := 1126) (i := 3) (by decide +kernel) rfl ?_
  refine a_iconst (pc := 1127) (n := 1) (by decide +kernel) ?_
  refine a_iadd (pc := 1128) (by decide +kernel) ?_
  refine b_siload (pc := 1129) (by decide +kernel) (sh_0 hn) (by decide) (by omega) hX ?_
  refine a_aload_n (pc := 1130) (i := 0) (by decide +kernel) rfl ?_
  refine a_iload_n (pc := 1131) (i := 3) (by decide +kernel) rfl ?_
  refine a_iconst (pc := 1132) (n := 2) (by decide +kernel) ?_
  refine a_iadd (pc := 1133) (by decide +kernel) ?_
  refine b_siload (pc := 1134) (by decide +kernel) (sh_0 hn) (by decide) (by omega) hX ?_
  refine b_callV (pc := 1135) (c' := 0) (sl' := 0) [j_i (k_rof X 0 (i + 1)), j_i (k_rof X 0 (i + 2))] [j_i r] ml_L_130 (by decide +kernel) rfl rfl (sh_68 hn) rfl rfl (Nat.le_of_ble_eq_true rfl) (j_fitI rfl rfl) hM9 (fun v n' σ' hq => ?_)
  obtain ⟨rfl, hR2⟩ := hq
  obtain ⟨σ2, hσ2⟩ : ∃ z, z = σ' := ⟨_, rfl⟩
  rw [← hσ2] at hR2 ⊢
  clear hσ2
  show j_at _ _ _ [(0, .ref 0), (1, .ref 5), (2, .ref 68), (3, j_i i)] [j_i r, j_i r] _ _ _ _
  exact a_same_eq (pc := 1138) (off := 486) (tgt := 1624) (by decide +kernel) (by decide) (j_more (by omega) (by omega) (kk _ _ hR2))
set_option maxHeartbeats 4000000 in
theorem w_27 {G : j_G} {X : k_X} {n : Nat} {σ : k_St} (hR : RR n σ) {i : Int} (hi : 0 ≤ i ∧ i + 6 < X.1) (hX : X.1 ≤ 1000000) (hr : ∀ j, -2147483648 ≤ k_rof X 0 j ∧ k_rof X 0 j ≤ 2147483647) {c sl : Nat} {Q : j_P} (kk : ∀ n' σ', RR n' σ' → j_at G mL_law 1624 [(0, .ref 0), (1, .ref 5), (2, .ref 68), (3, j_i i)] [] (k_h X n' σ') c sl Q) : j_at G mL_law 1143 [(0, .ref 0), (1, .ref 5), (2, .ref 68), (3, j_i i)] [] (k_h X n σ) (c + 16) (sl + 1618) Q := by
  have hn := RR_n hR
  refine a_aload_n (pc := 1143) (i := 1) (by decide +kernel) rfl ?_
  refine a_aload_n (pc := 1144) (i := 0) (by decide +kernel) rfl ?_
  refine a_iload_n (pc := 1145) (i := 3) (by decide +kernel) rfl ?_
  refine a_iconst (pc := 1146) (n := 1) (by decide +kernel) ?_
  refine a_iadd (pc := 1147) (by decide +kernel) ?_
  refine b_siload (pc := 1148) (by decide +kernel) (sh_0 hn) (by decide) (by omega) hX ?_
  refine a_aload_n (pc := 1149) (i := 0) (by decide +kernel) rfl ?_
  refine a_iload_n (pc := 1150) (i := 3) (by decide +kernel) rfl ?_
  refine a_iconst (pc := 1151) (n := 2) (by decide +kernel) ?_
  refine a_iadd (pc := 1152) (by decide +kernel) ?_
  refine b_siload (pc := 1153) (by decide +kernel) (sh_0 hn) (by decide) (by omega) hX ?_
  refine a_aload_n (pc := 1154) (i := 0) (by decide +kernel) rfl ?_
  refine a_iload_n (pc := 1155) (i := 3) (by decide +kernel) rfl ?_
  refine a_iconst (pc := 1156) (n := 3) (by decide +kernel) ?_
  refine a_iadd (pc := 1157) (by decide +kernel) ?_
  refine b_siload (pc := 1158) (by decide +kernel) (sh_0 hn) (by decide) (by omega) hX ?_
  obtain ⟨P9, hP1, hP2⟩ := p_place (G := G) (X := X) hR (hr (i + 1)) (hr (i + 2)) (hr (i + 3))
  refine b_callV (pc := 1159) (c' := 0) (sl' := 0) [j_i (k_rof X 0 (i + 1)), j_i (k_rof X 0 (i + 2)), j_i (k_rof X 0 (i + 3))] [] ml_L_131 (by decide +kernel) rfl rfl (sh_5 hn) rfl rfl (Nat.le_of_ble_eq_true rfl) (j_fitI rfl rfl) hP1 (fun v n' σ' hq => ?_)
  obtain ⟨hn2, r, rfl, hM9⟩ := hP2 _ _ _ hq
  obtain ⟨σ1, hσ1⟩ : ∃ z, z = σ' := ⟨_, rfl⟩
  rw [← hσ1] at hM9 ⊢
  clear hσ1
  have hn := hn2
  show j_at _ _ _ [(0, .ref 0), (1, .ref 5), (2, .ref 68), (3, j_i i)] [j_i r] _ _ _ _
  refine a_aload_n (pc := 1162) (i := 2) (by decide +kernel) rfl ?_
  refine a_aload_n (pc := 1163) (i := 0) (by decide +kernel) rfl ?_
  refine a_iload_n (pc := 1164) (i := 3) (by decide +kernel) rfl ?_
  refine a_iconst (pc := 1165) (n := 1) (by decide +kernel) ?_
  refine a_iadd (pc := 1166) (by decide +kernel) ?_
  refine b_siload (pc := 1167) (by decide +kernel) (sh_0 hn) (by decide) (by omega) hX ?_
  refine a_aload_n (pc := 1168) (i := 0) (by decide +kernel) rfl ?_
  refine a_iload_n (pc := 1169) (i := 3) (by decide +kernel) rfl ?_
  refine a_iconst (pc := 1170) (n := 2) (by decide +kernel) ?_
  refine a_iadd (pc := 1171) (by decide +kernel) ?_
  refine b_siload (pc := 1172) (by decide +kernel) (sh_0 hn) (by decide) (by omega) hX ?_
  refine a_aload_n (pc := 1173) (i := 0) (by decide +kernel) rfl ?_
  refine a_iload_n (pc := 1174) (i := 3) (by decide +kernel) rfl ?_
  refine a_iconst (pc := 1175) (n := 3) (by decide +kernel) ?_
  refine a_iadd (pc := 1176) (by decide +kernel) ?_
  refine b_siload (pc := 1177) (by decide +kernel) (sh_0 hn) (by decide) (by omega) hX ?_
  refine b_callV (pc := 1178) (c' := 0) (sl' := 0) [j_i (k_rof X 0 (i + 1)), j_i (k_rof X 0 (i + 2)), j_i (k_rof X 0 (i + 3))] [j_i r] ml_L_134 (by decide +kernel) rfl rfl (sh_68 hn) rfl rfl (Nat.le_of_ble_eq_true rfl) (j_fitI rfl rfl) hM9 (fun v n' σ' hq => ?_)
  obtain ⟨rfl, hR2⟩ := hq
  obtain ⟨σ2, hσ2⟩ : ∃ z, z = σ' := ⟨_, rfl⟩
  rw [← hσ2] at hR2 ⊢
  clear hσ2
  show j_at _ _ _ [(0, .ref 0), (1, .ref 5), (2, .ref 68), (3, j_i i)] [j_i r, j_i r] _ _ _ _
  exact a_same_eq (pc := 1181) (off := 443) (tgt := 1624) (by decide +kernel) (by decide) (j_more (by omega) (by omega) (kk _ _ hR2))
set_option maxHeartbeats 4000000 in
theorem w_28 {G : j_G} {X : k_X} {n : Nat} {σ : k_St} (hR : RR n σ) {i : Int} (hi : 0 ≤ i ∧ i + 6 < X.1) (hX : X.1 ≤ 1000000) (hr : ∀ j, -2147483648 ≤ k_rof X 0 j ∧ k_rof X 0 j ≤ 2147483647) {c sl : Nat} {Q : j_P} (kk : ∀ n' σ', RR n' σ' → j_at G mL_law 1624 [(0, .ref 0), (1, .ref 5), (2, .ref 68), (3, j_i i)] [] (k_h X n' σ') c sl Q) : j_at G mL_law 1186 [(0, .ref 0), (1, .ref 5), (2, .ref 68), (3, j_i i)] [] (k_h X n σ) (c + 16) (sl + 1618) Q := by
  have hn := RR_n hR
  refine a_aload_n (pc := 1186) (i := 1) (by decide +kernel) rfl ?_
  refine a_aload_n (pc := 1187) (i := 0) (by decide +kernel) rfl ?_
  refine a_iload_n (pc := 1188) (i := 3) (by decide +kernel) rfl ?_
  refine a_iconst (pc := 1189) (n := 1) (by decide +kernel) ?_
  refine a_iadd (pc := 1190) (by decide +kernel) ?_
  refine b_siload (pc := 1191) (by decide +kernel) (sh_0 hn) (by decide) (by omega) hX ?_
  refine a_aload_n (pc := 1192) (i := 0) (by decide +kernel) rfl ?_
  refine a_iload_n (pc := 1193) (i := 3) (by decide +kernel) rfl ?_
  refine a_iconst (pc := 1194) (n := 2) (by decide +kernel) ?_
  refine a_iadd (pc := 1195) (by decide +kernel) ?_
  refine b_siload (pc := 1196) (by decide +kernel) (sh_0 hn) (by decide) (by omega) hX ?_
  refine a_aload_n (pc := 1197) (i := 0) (by decide +kernel) rfl ?_
  refine a_iload_n (pc := 1198) (i := 3) (by decide +kernel) rfl ?_
  refine a_iconst (pc := 1199) (n := 3) (by decide +kernel) ?_
  refine a_iadd (pc := 1200) (by decide +kernel) ?_
  refine b_siload (pc := 1201) (by decide +kernel) (sh_0 hn) (by decide) (by omega) hX ?_
  obtain ⟨P9, hP1, hP2⟩ := p_sees (G := G) (X := X) hR (hr (i + 1)) (hr (i + 2)) (hr (i + 3))
  refine b_callV (pc := 1202) (c' := 0) (sl' := 0) [j_i (k_rof X 0 (i + 1)), j_i (k_rof X 0 (i + 2)), j_i (k_rof X 0 (i + 3))] [] ml_L_135 (by decide +kernel) rfl rfl (sh_5 hn) rfl rfl (Nat.le_of_ble_eq_true rfl) (j_fitI rfl rfl) hP1 (fun v n' σ' hq => ?_)
  obtain ⟨hn2, r, rfl, hM9⟩ := hP2 _ _ _ hq
  obtain ⟨σ1, hσ1⟩ : ∃ z, z = σ' := ⟨_, rfl⟩
  rw [← hσ1] at hM9 ⊢
  clear hσ1
  have hn := hn2
  show j_at _ _ _ [(0, .ref 0), (1, .ref 5), (2, .ref 68), (3, j_i i)] [j_i r] _ _ _ _
  refine a_aload_n (pc := 1205) (i := 2) (by decide +kernel) rfl ?_
  refine a_aload_n (pc := 1206) (i := 0) (by decide +kernel) rfl ?_
  refine a_iload_n (pc := 1207) (i := 3) (by decide +kernel) rfl ?_
  refine a_iconst (pc := 1208) (n := 1) (by decide +kernel) ?_
  refine a_iadd (pc := 1209) (by decide +kernel) ?_
  refine b_siload (pc := 1210) (by decide +kernel) (sh_0 hn) (by decide) (by omega) hX ?_
  refine a_aload_n (pc := 1211) (i := 0) (by decide +kernel) rfl ?_
  refine a_iload_n (pc := 1212) (i := 3) (by decide +kernel) rfl ?_
  refine a_iconst (pc := 1213) (n := 2) (by decide +kernel) ?_
  refine a_iadd (pc := 1214) (by decide +kernel) ?_
  refine b_siload (pc := 1215) (by decide +kernel) (sh_0 hn) (by decide) (by omega) hX ?_
  refine a_aload_n (pc := 1216) (i := 0) (by decide +kernel) rfl ?_
  refine a_iload_n (pc := 1217) (i := 3) (by decide +kernel) rfl ?_
  refine a_iconst (pc := 1218) (n := 3) (by decide +kernel) ?_
  refine a_iadd (pc := 1219) (by decide +kernel) ?_
  refine b_siload (pc := 1220) (by decide +kernel) (sh_0 hn) (by decide) (by omega) hX ?_
  refine b_callV (pc := 1221) (c' := 0) (sl' := 0) [j_i (k_rof X 0 (i + 1)), j_i (k_rof X 0 (i + 2)), j_i (k_rof X 0 (i + 3))] [j_i r] ml_L_138 (by decide +kernel) rfl rfl (sh_68 hn) rfl rfl (Nat.le_of_ble_eq_true rfl) (j_fitI rfl rfl) hM9 (fun v n' σ' hq => ?_)
  obtain ⟨rfl, hR2⟩ := hq
  obtain ⟨σ2, hσ2⟩ : ∃ z, z = σ' := ⟨_, rfl⟩
  rw [← hσ2] at hR2 ⊢
  clear hσ2
  show j_at _ _ _ [(0, .ref 0), (1, .ref 5), (2, .ref 68), (3, j_i i)] [j_i r, j_i r] _ _ _ _
  exact a_same_eq (pc := 1224) (off := 400) (tgt := 1624) (by decide +kernel) (by decide) (j_more (by omega) (by omega) (kk _ _ hR2))
set_option maxHeartbeats 4000000 in
theorem w_29 {G : j_G} {X : k_X} {n : Nat} {σ : k_St} (hR : RR n σ) {i : Int} (hi : 0 ≤ i ∧ i + 6 < X.1) (hX : X.1 ≤ 1000000) (hr : ∀ j, -2147483648 ≤ k_rof X 0 j ∧ k_rof X 0 j ≤ 2147483647) {c sl : Nat} {Q : j_P} (kk : ∀ n' σ', RR n' σ' → j_at G mL_law 1624 [(0, .ref 0), (1, .ref 5), (2, .ref 68), (3, j_i i)] [] (k_h X n' σ') c sl Q) : j_at G mL_law 1229 [(0, .ref 0), (1, .ref 5), (2, .ref 68), (3, j_i i)] [] (k_h X n σ) (c + 16) (sl + 1618) Q := by
  have hn := RR_n hR
  refine a_aload_n (pc := 1229) (i := 1) (by decide +kernel) rfl ?_
  refine a_aload_n (pc := 1230) (i := 0) (by decide +kernel) rfl ?_
  refine a_iload_n (pc := 1231) (i := 3) (by decide +kernel) rfl ?_
  refine a_iconst (pc := 1232) (n := 1) (by decide +kernel) ?_
  refine a_iadd (pc := 1233) (by decide +kernel) ?_
  refine b_siload (pc := 1234) (by decide +kernel) (sh_0 hn) (by decide) (by omega) hX ?_
  refine a_aload_n (pc := 1235) (i := 0) (by decide +kernel) rfl ?_
  refine a_iload_n (pc := 1236) (i := 3) (by decide +kernel) rfl ?_
  refine a_iconst (pc := 1237) (n := 2) (by decide +kernel) ?_
  refine a_iadd (pc := 1238) (by decide +kernel) ?_
  refine b_siload (pc := 1239) (by decide +kernel) (sh_0 hn) (by decide) (by omega) hX ?_
  refine a_aload_n (pc := 1240) (i := 0) (by decide +kernel) rfl ?_
  refine a_iload_n (pc := 1241) (i := 3) (by decide +kernel) rfl ?_
  refine a_iconst (pc := 1242) (n := 3) (by decide +kernel) ?_
  refine a_iadd (pc := 1243) (by decide +kernel) ?_
  refine b_siload (pc := 1244) (by decide +kernel) (sh_0 hn) (by decide) (by omega) hX ?_
  obtain ⟨P9, hP1, hP2⟩ := p_find (G := G) (X := X) hR (hr (i + 1)) (hr (i + 2)) (hr (i + 3))
  refine b_callV (pc := 1245) (c' := 0) (sl' := 0) [j_i (k_rof X 0 (i + 1)), j_i (k_rof X 0 (i + 2)), j_i (k_rof X 0 (i + 3))] [] ml_L_139 (by decide +kernel) rfl rfl (sh_5 hn) rfl rfl (Nat.le_of_ble_eq_true rfl) (j_fitI rfl rfl) hP1 (fun v n' σ' hq => ?_)
  obtain ⟨hn2, r, rfl, hM9⟩ := hP2 _ _ _ hq
  obtain ⟨σ1, hσ1⟩ : ∃ z, z = σ' := ⟨_, rfl⟩
  rw [← hσ1] at hM9 ⊢
  clear hσ1
  have hn := hn2
  show j_at _ _ _ [(0, .ref 0), (1, .ref 5), (2, .ref 68), (3, j_i i)] [j_i r] _ _ _ _
  refine a_aload_n (pc := 1248) (i := 2) (by decide +kernel) rfl ?_
  refine a_aload_n (pc := 1249) (i := 0) (by decide +kernel) rfl ?_
  refine a_iload_n (pc := 1250) (i := 3) (by decide +kernel) rfl ?_
  refine a_iconst (pc := 1251) (n := 1) (by decide +kernel) ?_
  refine a_iadd (pc := 1252) (by decide +kernel) ?_
  refine b_siload (pc := 1253) (by decide +kernel) (sh_0 hn) (by decide) (by omega) hX ?_
  refine a_aload_n (pc := 1254) (i := 0) (by decide +kernel) rfl ?_
  refine a_iload_n (pc := 1255) (i := 3) (by decide +kernel) rfl ?_
  refine a_iconst (pc := 1256) (n := 2) (by decide +kernel) ?_
  refine a_iadd (pc := 1257) (by decide +kernel) ?_
  refine b_siload (pc := 1258) (by decide +kernel) (sh_0 hn) (by decide) (by omega) hX ?_
  refine a_aload_n (pc := 1259) (i := 0) (by decide +kernel) rfl ?_
  refine a_iload_n (pc := 1260) (i := 3) (by decide +kernel) rfl ?_
  refine a_iconst (pc := 1261) (n := 3) (by decide +kernel) ?_
  refine a_iadd (pc := 1262) (by decide +kernel) ?_
  refine b_siload (pc := 1263) (by decide +kernel) (sh_0 hn) (by decide) (by omega) hX ?_
  refine b_callV (pc := 1264) (c' := 0) (sl' := 0) [j_i (k_rof X 0 (i + 1)), j_i (k_rof X 0 (i + 2)), j_i (k_rof X 0 (i + 3))] [j_i r] ml_L_142 (by decide +kernel) rfl rfl (sh_68 hn) rfl rfl (Nat.le_of_ble_eq_true rfl) (j_fitI rfl rfl) hM9 (fun v n' σ' hq => ?_)
  obtain ⟨rfl, hR2⟩ := hq
  obtain ⟨σ2, hσ2⟩ : ∃ z, z = σ' := ⟨_, rfl⟩
  rw [← hσ2] at hR2 ⊢
  clear hσ2
  show j_at _ _ _ [(0, .ref 0), (1, .ref 5), (2, .ref 68), (3, j_i i)] [j_i r, j_i r] _ _ _ _
  exact a_same_eq (pc := 1267) (off := 357) (tgt := 1624) (by decide +kernel) (by decide) (j_more (by omega) (by omega) (kk _ _ hR2))
set_option maxHeartbeats 4000000 in
theorem w_30 {G : j_G} {X : k_X} {n : Nat} {σ : k_St} (hR : RR n σ) {i : Int} (hi : 0 ≤ i ∧ i + 6 < X.1) (hX : X.1 ≤ 1000000) (hr : ∀ j, -2147483648 ≤ k_rof X 0 j ∧ k_rof X 0 j ≤ 2147483647) {c sl : Nat} {Q : j_P} (kk : ∀ n' σ', RR n' σ' → j_at G mL_law 1624 [(0, .ref 0), (1, .ref 5), (2, .ref 68), (3, j_i i)] [] (k_h X n' σ') c sl Q) : j_at G mL_law 1272 [(0, .ref 0), (1, .ref 5), (2, .ref 68), (3, j_i i)] [] (k_h X n σ) (c + 16) (sl + 1618) Q := by
  have hn := RR_n hR
  refine a_aload_n (pc := 1272) (i := 1) (by decide +kernel) rfl ?_
  obtain ⟨P9, hP1, hP2⟩ := p_first (G := G) (X := X) hR 
  refine b_callV (pc := 1273) (c' := 0) (sl' := 0) [] [] ml_L_143 (by decide +kernel) rfl rfl (sh_5 hn) rfl rfl (Nat.le_of_ble_eq_true rfl) (j_fitI rfl rfl) hP1 (fun v n' σ' hq => ?_)
  obtain ⟨hn2, r, rfl, hM9⟩ := hP2 _ _ _ hq
  obtain ⟨σ1, hσ1⟩ : ∃ z, z = σ' := ⟨_, rfl⟩
  rw [← hσ1] at hM9 ⊢
  clear hσ1
  have hn := hn2
  show j_at _ _ _ [(0, .ref 0), (1, .ref 5), (2, .ref 68), (3, j_i i)] [j_i r] _ _ _ _
  refine a_aload_n (pc := 1276) (i := 2) (by decide +kernel) rfl ?_
  refine b_callV (pc := 1277) (c' := 0) (sl' := 0) [] [j_i r] ml_L_146 (by decide +kernel) rfl rfl (sh_68 hn) rfl rfl (Nat.le_of_ble_eq_true rfl) (j_fitI rfl rfl) hM9 (fun v n' σ' hq => ?_)
  obtain ⟨rfl, hR2⟩ := hq
  obtain ⟨σ2, hσ2⟩ : ∃ z, z = σ' := ⟨_, rfl⟩
  rw [← hσ2] at hR2 ⊢
  clear hσ2
  show j_at _ _ _ [(0, .ref 0), (1, .ref 5), (2, .ref 68), (3, j_i i)] [j_i r, j_i r] _ _ _ _
  exact a_same_eq (pc := 1280) (off := 344) (tgt := 1624) (by decide +kernel) (by decide) (j_more (by omega) (by omega) (kk _ _ hR2))
set_option maxHeartbeats 4000000 in
theorem w_31 {G : j_G} {X : k_X} {n : Nat} {σ : k_St} (hR : RR n σ) {i : Int} (hi : 0 ≤ i ∧ i + 6 < X.1) (hX : X.1 ≤ 1000000) (hr : ∀ j, -2147483648 ≤ k_rof X 0 j ∧ k_rof X 0 j ≤ 2147483647) {c sl : Nat} {Q : j_P} (kk : ∀ n' σ', RR n' σ' → j_at G mL_law 1624 [(0, .ref 0), (1, .ref 5), (2, .ref 68), (3, j_i i)] [] (k_h X n' σ') c sl Q) : j_at G mL_law 1285 [(0, .ref 0), (1, .ref 5), (2, .ref 68), (3, j_i i)] [] (k_h X n σ) (c + 16) (sl + 1618) Q := by
  have hn := RR_n hR
  refine a_aload_n (pc := 1285) (i := 1) (by decide +kernel) rfl ?_
  obtain ⟨P9, hP1, hP2⟩ := p_unmatched (G := G) (X := X) hR 
  refine b_callV (pc := 1286) (c' := 0) (sl' := 0) [] [] ml_L_147 (by decide +kernel) rfl rfl (sh_5 hn) rfl rfl (Nat.le_of_ble_eq_true rfl) (j_fitI rfl rfl) hP1 (fun v n' σ' hq => ?_)
  obtain ⟨hn2, r, rfl, hM9⟩ := hP2 _ _ _ hq
  obtain ⟨σ1, hσ1⟩ : ∃ z, z = σ' := ⟨_, rfl⟩
  rw [← hσ1] at hM9 ⊢
  clear hσ1
  have hn := hn2
  show j_at _ _ _ [(0, .ref 0), (1, .ref 5), (2, .ref 68), (3, j_i i)] [j_i r] _ _ _ _
  refine a_aload_n (pc := 1289) (i := 2) (by decide +kernel) rfl ?_
  refine b_callV (pc := 1290) (c' := 0) (sl' := 0) [] [j_i r] ml_L_150 (by decide +kernel) rfl rfl (sh_68 hn) rfl rfl (Nat.le_of_ble_eq_true rfl) (j_fitI rfl rfl) hM9 (fun v n' σ' hq => ?_)
  obtain ⟨rfl, hR2⟩ := hq
  obtain ⟨σ2, hσ2⟩ : ∃ z, z = σ' := ⟨_, rfl⟩
  rw [← hσ2] at hR2 ⊢
  clear hσ2
  show j_at _ _ _ [(0, .ref 0), (1, .ref 5), (2, .ref 68), (3, j_i i)] [j_i r, j_i r] _ _ _ _
  exact a_same_eq (pc := 1293) (off := 331) (tgt := 1624) (by decide +kernel) (by decide) (j_more (by omega) (by omega) (kk _ _ hR2))
set_option maxHeartbeats 4000000 in
theorem w_32 {G : j_G} {X : k_X} {n : Nat} {σ : k_St} (hR : RR n σ) {i : Int} (hi : 0 ≤ i ∧ i + 6 < X.1) (hX : X.1 ≤ 1000000) (hr : ∀ j, -2147483648 ≤ k_rof X 0 j ∧ k_rof X 0 j ≤ 2147483647) {c sl : Nat} {Q : j_P} (kk : ∀ n' σ', RR n' σ' → j_at G mL_law 1624 [(0, .ref 0), (1, .ref 5), (2, .ref 68), (3, j_i i)] [] (k_h X n' σ') c sl Q) : j_at G mL_law 1298 [(0, .ref 0), (1, .ref 5), (2, .ref 68), (3, j_i i)] [] (k_h X n σ) (c + 16) (sl + 1618) Q := by
  have hn := RR_n hR
  refine a_aload_n (pc := 1298) (i := 1) (by decide +kernel) rfl ?_
  refine a_aload_n (pc := 1299) (i := 0) (by decide +kernel) rfl ?_
  refine a_iload_n (pc := 1300) (i := 3) (by decide +kernel) rfl ?_
  refine a_iconst (pc := 1301) (n := 1) (by decide +kernel) ?_
  refine a_iadd (pc := 1302) (by decide +kernel) ?_
  refine b_siload (pc := 1303) (by decide +kernel) (sh_0 hn) (by decide) (by omega) hX ?_
  obtain ⟨P9, hP1, hP2⟩ := p_unmatchedAt (G := G) (X := X) hR (hr (i + 1))
  refine b_callV (pc := 1304) (c' := 0) (sl' := 0) [j_i (k_rof X 0 (i + 1))] [] ml_L_151 (by decide +kernel) rfl rfl (sh_5 hn) rfl rfl (Nat.le_of_ble_eq_true rfl) (j_fitI rfl rfl) hP1 (fun v n' σ' hq => ?_)
  obtain ⟨hn2, r, rfl, hM9⟩ := hP2 _ _ _ hq
  obtain ⟨σ1, hσ1⟩ : ∃ z, z = σ' := ⟨_, rfl⟩
  rw [← hσ1] at hM9 ⊢
  clear hσ1
  have hn := hn2
  show j_at _ _ _ [(0, .ref 0), (1, .ref 5), (2, .ref 68), (3, j_i i)] [j_i r] _ _ _ _
  refine a_aload_n (pc := 1307) (i := 2) (by decide +kernel) rfl ?_
  refine a_aload_n (pc := 1308) (i := 0) (by decide +kernel) rfl ?_
  refine a_iload_n (pc := 1309) (i := 3) (by decide +kernel) rfl ?_
  refine a_iconst (pc := 1310) (n := 1) (by decide +kernel) ?_
  refine a_iadd (pc := 1311) (by decide +kernel) ?_
  refine b_siload (pc := 1312) (by decide +kernel) (sh_0 hn) (by decide) (by omega) hX ?_
  refine b_callV (pc := 1313) (c' := 0) (sl' := 0) [j_i (k_rof X 0 (i + 1))] [j_i r] ml_L_154 (by decide +kernel) rfl rfl (sh_68 hn) rfl rfl (Nat.le_of_ble_eq_true rfl) (j_fitI rfl rfl) hM9 (fun v n' σ' hq => ?_)
  obtain ⟨rfl, hR2⟩ := hq
  obtain ⟨σ2, hσ2⟩ : ∃ z, z = σ' := ⟨_, rfl⟩
  rw [← hσ2] at hR2 ⊢
  clear hσ2
  show j_at _ _ _ [(0, .ref 0), (1, .ref 5), (2, .ref 68), (3, j_i i)] [j_i r, j_i r] _ _ _ _
  exact a_same_eq (pc := 1316) (off := 308) (tgt := 1624) (by decide +kernel) (by decide) (j_more (by omega) (by omega) (kk _ _ hR2))
set_option maxHeartbeats 4000000 in
theorem w_33 {G : j_G} {X : k_X} {n : Nat} {σ : k_St} (hR : RR n σ) {i : Int} (hi : 0 ≤ i ∧ i + 6 < X.1) (hX : X.1 ≤ 1000000) (hr : ∀ j, -2147483648 ≤ k_rof X 0 j ∧ k_rof X 0 j ≤ 2147483647) {c sl : Nat} {Q : j_P} (kk : ∀ n' σ', RR n' σ' → j_at G mL_law 1624 [(0, .ref 0), (1, .ref 5), (2, .ref 68), (3, j_i i)] [] (k_h X n' σ') c sl Q) : j_at G mL_law 1321 [(0, .ref 0), (1, .ref 5), (2, .ref 68), (3, j_i i)] [] (k_h X n σ) (c + 16) (sl + 1618) Q := by
  have hn := RR_n hR
  refine a_aload_n (pc := 1321) (i := 1) (by decide +kernel) rfl ?_
  refine a_aload_n (pc := 1322) (i := 0) (by decide +kernel) rfl ?_
  refine a_iload_n (pc := 1323) (i := 3) (by decide +kernel) rfl ?_
  refine a_iconst (pc := 1324) (n := 1) (by decide +kernel) ?_
  refine a_iadd (pc := 1325) (by decide +kernel) ?_
  refine b_siload (pc := 1326) (by decide +kernel) (sh_0 hn) (by decide) (by omega) hX ?_
  obtain ⟨P9, hP1, hP2⟩ := p_led (G := G) (X := X) hR (hr (i + 1))
  refine b_callV (pc := 1327) (c' := 0) (sl' := 0) [j_i (k_rof X 0 (i + 1))] [] ml_L_155 (by decide +kernel) rfl rfl (sh_5 hn) rfl rfl (Nat.le_of_ble_eq_true rfl) (j_fitI rfl rfl) hP1 (fun v n' σ' hq => ?_)
  obtain ⟨hn2, r, rfl, hM9⟩ := hP2 _ _ _ hq
  obtain ⟨σ1, hσ1⟩ : ∃ z, z = σ' := ⟨_, rfl⟩
  rw [← hσ1] at hM9 ⊢
  clear hσ1
  have hn := hn2
  show j_at _ _ _ [(0, .ref 0), (1, .ref 5), (2, .ref 68), (3, j_i i)] [j_i r] _ _ _ _
  refine a_aload_n (pc := 1330) (i := 2) (by decide +kernel) rfl ?_
  refine a_aload_n (pc := 1331) (i := 0) (by decide +kernel) rfl ?_
  refine a_iload_n (pc := 1332) (i := 3) (by decide +kernel) rfl ?_
  refine a_iconst (pc := 1333) (n := 1) (by decide +kernel) ?_
  refine a_iadd (pc := 1334) (by decide +kernel) ?_
  refine b_siload (pc := 1335) (by decide +kernel) (sh_0 hn) (by decide) (by omega) hX ?_
  refine b_callV (pc := 1336) (c' := 0) (sl' := 0) [j_i (k_rof X 0 (i + 1))] [j_i r] ml_L_158 (by decide +kernel) rfl rfl (sh_68 hn) rfl rfl (Nat.le_of_ble_eq_true rfl) (j_fitI rfl rfl) hM9 (fun v n' σ' hq => ?_)
  obtain ⟨rfl, hR2⟩ := hq
  obtain ⟨σ2, hσ2⟩ : ∃ z, z = σ' := ⟨_, rfl⟩
  rw [← hσ2] at hR2 ⊢
  clear hσ2
  show j_at _ _ _ [(0, .ref 0), (1, .ref 5), (2, .ref 68), (3, j_i i)] [j_i r, j_i r] _ _ _ _
  exact a_same_eq (pc := 1339) (off := 285) (tgt := 1624) (by decide +kernel) (by decide) (j_more (by omega) (by omega) (kk _ _ hR2))
set_option maxHeartbeats 4000000 in
theorem w_34 {G : j_G} {X : k_X} {n : Nat} {σ : k_St} (hR : RR n σ) {i : Int} (hi : 0 ≤ i ∧ i + 6 < X.1) (hX : X.1 ≤ 1000000) (hr : ∀ j, -2147483648 ≤ k_rof X 0 j ∧ k_rof X 0 j ≤ 2147483647) {c sl : Nat} {Q : j_P} (kk : ∀ n' σ', RR n' σ' → j_at G mL_law 1624 [(0, .ref 0), (1, .ref 5), (2, .ref 68), (3, j_i i)] [] (k_h X n' σ') c sl Q) : j_at G mL_law 1344 [(0, .ref 0), (1, .ref 5), (2, .ref 68), (3, j_i i)] [] (k_h X n σ) (c + 16) (sl + 1618) Q := by
  have hn := RR_n hR
  refine a_aload_n (pc := 1344) (i := 1) (by decide +kernel) rfl ?_
  obtain ⟨P9, hP1, hP2⟩ := p_changed (G := G) (X := X) hR 
  refine b_callV (pc := 1345) (c' := 0) (sl' := 0) [] [] ml_L_159 (by decide +kernel) rfl rfl (sh_5 hn) rfl rfl (Nat.le_of_ble_eq_true rfl) (j_fitI rfl rfl) hP1 (fun v n' σ' hq => ?_)
  obtain ⟨hn2, r, rfl, hM9⟩ := hP2 _ _ _ hq
  obtain ⟨σ1, hσ1⟩ : ∃ z, z = σ' := ⟨_, rfl⟩
  rw [← hσ1] at hM9 ⊢
  clear hσ1
  have hn := hn2
  show j_at _ _ _ [(0, .ref 0), (1, .ref 5), (2, .ref 68), (3, j_i i)] [j_i r] _ _ _ _
  refine a_aload_n (pc := 1348) (i := 2) (by decide +kernel) rfl ?_
  refine b_callV (pc := 1349) (c' := 0) (sl' := 0) [] [j_i r] ml_L_162 (by decide +kernel) rfl rfl (sh_68 hn) rfl rfl (Nat.le_of_ble_eq_true rfl) (j_fitI rfl rfl) hM9 (fun v n' σ' hq => ?_)
  obtain ⟨rfl, hR2⟩ := hq
  obtain ⟨σ2, hσ2⟩ : ∃ z, z = σ' := ⟨_, rfl⟩
  rw [← hσ2] at hR2 ⊢
  clear hσ2
  show j_at _ _ _ [(0, .ref 0), (1, .ref 5), (2, .ref 68), (3, j_i i)] [j_i r, j_i r] _ _ _ _
  exact a_same_eq (pc := 1352) (off := 272) (tgt := 1624) (by decide +kernel) (by decide) (j_more (by omega) (by omega) (kk _ _ hR2))
set_option maxHeartbeats 4000000 in
theorem w_35 {G : j_G} {X : k_X} {n : Nat} {σ : k_St} (hR : RR n σ) {i : Int} (hi : 0 ≤ i ∧ i + 6 < X.1) (hX : X.1 ≤ 1000000) (hr : ∀ j, -2147483648 ≤ k_rof X 0 j ∧ k_rof X 0 j ≤ 2147483647) {c sl : Nat} {Q : j_P} (kk : ∀ n' σ', RR n' σ' → j_at G mL_law 1624 [(0, .ref 0), (1, .ref 5), (2, .ref 68), (3, j_i i)] [] (k_h X n' σ') c sl Q) : j_at G mL_law 1357 [(0, .ref 0), (1, .ref 5), (2, .ref 68), (3, j_i i)] [] (k_h X n σ) (c + 16) (sl + 1618) Q := by
  have hn := RR_n hR
  refine a_aload_n (pc := 1357) (i := 1) (by decide +kernel) rfl ?_
  refine a_aload_n (pc := 1358) (i := 0) (by decide +kernel) rfl ?_
  refine a_iload_n (pc := 1359) (i := 3) (by decide +kernel) rfl ?_
  refine a_iconst (pc := 1360) (n := 1) (by decide +kernel) ?_
  refine a_iadd (pc := 1361) (by decide +kernel) ?_
  refine b_siload (pc := 1362) (by decide +kernel) (sh_0 hn) (by decide) (by omega) hX ?_
  refine a_aload_n (pc := 1363) (i := 0) (by decide +kernel) rfl ?_
  refine a_iload_n (pc := 1364) (i := 3) (by decide +kernel) rfl ?_
  refine a_iconst (pc := 1365) (n := 2) (by decide +kernel) ?_
  refine a_iadd (pc := 1366) (by decide +kernel) ?_
  refine b_siload (pc := 1367) (by decide +kernel) (sh_0 hn) (by decide) (by omega) hX ?_
  refine a_aload_n (pc := 1368) (i := 0) (by decide +kernel) rfl ?_
  refine a_iload_n (pc := 1369) (i := 3) (by decide +kernel) rfl ?_
  refine a_iconst (pc := 1370) (n := 3) (by decide +kernel) ?_
  refine a_iadd (pc := 1371) (by decide +kernel) ?_
  refine b_siload (pc := 1372) (by decide +kernel) (sh_0 hn) (by decide) (by omega) hX ?_
  obtain ⟨P9, hP1, hP2⟩ := p_shorten (G := G) (X := X) hR (hr (i + 1)) (hr (i + 2)) (hr (i + 3))
  refine b_callV (pc := 1373) (c' := 0) (sl' := 0) [j_i (k_rof X 0 (i + 1)), j_i (k_rof X 0 (i + 2)), j_i (k_rof X 0 (i + 3))] [] ml_L_163 (by decide +kernel) rfl rfl (sh_5 hn) rfl rfl (Nat.le_of_ble_eq_true rfl) (j_fitI rfl rfl) hP1 (fun v n' σ' hq => ?_)
  obtain ⟨hn2, r, rfl, hM9⟩ := hP2 _ _ _ hq
  obtain ⟨σ1, hσ1⟩ : ∃ z, z = σ' := ⟨_, rfl⟩
  rw [← hσ1] at hM9 ⊢
  clear hσ1
  have hn := hn2
  show j_at _ _ _ [(0, .ref 0), (1, .ref 5), (2, .ref 68), (3, j_i i)] [j_i r] _ _ _ _
  refine a_aload_n (pc := 1376) (i := 2) (by decide +kernel) rfl ?_
  refine a_aload_n (pc := 1377) (i := 0) (by decide +kernel) rfl ?_
  refine a_iload_n (pc := 1378) (i := 3) (by decide +kernel) rfl ?_
  refine a_iconst (pc := 1379) (n := 1) (by decide +kernel) ?_
  refine a_iadd (pc := 1380) (by decide +kernel) ?_
  refine b_siload (pc := 1381) (by decide +kernel) (sh_0 hn) (by decide) (by omega) hX ?_
  refine a_aload_n (pc := 1382) (i := 0) (by decide +kernel) rfl ?_
  refine a_iload_n (pc := 1383) (i := 3) (by decide +kernel) rfl ?_
  refine a_iconst (pc := 1384) (n := 2) (by decide +kernel) ?_
  refine a_iadd (pc := 1385) (by decide +kernel) ?_
  refine b_siload (pc := 1386) (by decide +kernel) (sh_0 hn) (by decide) (by omega) hX ?_
  refine a_aload_n (pc := 1387) (i := 0) (by decide +kernel) rfl ?_
  refine a_iload_n (pc := 1388) (i := 3) (by decide +kernel) rfl ?_
  refine a_iconst (pc := 1389) (n := 3) (by decide +kernel) ?_
  refine a_iadd (pc := 1390) (by decide +kernel) ?_
  refine b_siload (pc := 1391) (by decide +kernel) (sh_0 hn) (by decide) (by omega) hX ?_
  refine b_callV (pc := 1392) (c' := 0) (sl' := 0) [j_i (k_rof X 0 (i + 1)), j_i (k_rof X 0 (i + 2)), j_i (k_rof X 0 (i + 3))] [j_i r] ml_L_166 (by decide +kernel) rfl rfl (sh_68 hn) rfl rfl (Nat.le_of_ble_eq_true rfl) (j_fitI rfl rfl) hM9 (fun v n' σ' hq => ?_)
  obtain ⟨rfl, hR2⟩ := hq
  obtain ⟨σ2, hσ2⟩ : ∃ z, z = σ' := ⟨_, rfl⟩
  rw [← hσ2] at hR2 ⊢
  clear hσ2
  show j_at _ _ _ [(0, .ref 0), (1, .ref 5), (2, .ref 68), (3, j_i i)] [j_i r, j_i r] _ _ _ _
  exact a_same_eq (pc := 1395) (off := 229) (tgt := 1624) (by decide +kernel) (by decide) (j_more (by omega) (by omega) (kk _ _ hR2))
set_option maxHeartbeats 4000000 in
theorem w_36 {G : j_G} {X : k_X} {n : Nat} {σ : k_St} (hR : RR n σ) {i : Int} (hi : 0 ≤ i ∧ i + 6 < X.1) (hX : X.1 ≤ 1000000) (hr : ∀ j, -2147483648 ≤ k_rof X 0 j ∧ k_rof X 0 j ≤ 2147483647) {c sl : Nat} {Q : j_P} (kk : ∀ n' σ', RR n' σ' → j_at G mL_law 1624 [(0, .ref 0), (1, .ref 5), (2, .ref 68), (3, j_i i)] [] (k_h X n' σ') c sl Q) : j_at G mL_law 1400 [(0, .ref 0), (1, .ref 5), (2, .ref 68), (3, j_i i)] [] (k_h X n σ) (c + 16) (sl + 1618) Q := by
  have hn := RR_n hR
  refine a_aload_n (pc := 1400) (i := 1) (by decide +kernel) rfl ?_
  refine a_aload_n (pc := 1401) (i := 0) (by decide +kernel) rfl ?_
  refine a_iload_n (pc := 1402) (i := 3) (by decide +kernel) rfl ?_
  refine a_iconst (pc := 1403) (n := 1) (by decide +kernel) ?_
  refine a_iadd (pc := 1404) (by decide +kernel) ?_
  refine b_siload (pc := 1405) (by decide +kernel) (sh_0 hn) (by decide) (by omega) hX ?_
  refine a_aload_n (pc := 1406) (i := 0) (by decide +kernel) rfl ?_
  refine a_iload_n (pc := 1407) (i := 3) (by decide +kernel) rfl ?_
  refine a_iconst (pc := 1408) (n := 2) (by decide +kernel) ?_
  refine a_iadd (pc := 1409) (by decide +kernel) ?_
  refine b_siload (pc := 1410) (by decide +kernel) (sh_0 hn) (by decide) (by omega) hX ?_
  refine a_aload_n (pc := 1411) (i := 0) (by decide +kernel) rfl ?_
  refine a_iload_n (pc := 1412) (i := 3) (by decide +kernel) rfl ?_
  refine a_iconst (pc := 1413) (n := 3) (by decide +kernel) ?_
  refine a_iadd (pc := 1414) (by decide +kernel) ?_
  refine b_siload (pc := 1415) (by decide +kernel) (sh_0 hn) (by decide) (by omega) hX ?_
  obtain ⟨P9, hP1, hP2⟩ := p_unfold (G := G) (X := X) hR (hr (i + 1)) (hr (i + 2)) (hr (i + 3))
  refine b_callV (pc := 1416) (c' := 0) (sl' := 0) [j_i (k_rof X 0 (i + 1)), j_i (k_rof X 0 (i + 2)), j_i (k_rof X 0 (i + 3))] [] ml_L_167 (by decide +kernel) rfl rfl (sh_5 hn) rfl rfl (Nat.le_of_ble_eq_true rfl) (j_fitI rfl rfl) hP1 (fun v n' σ' hq => ?_)
  obtain ⟨hn2, r, rfl, hM9⟩ := hP2 _ _ _ hq
  obtain ⟨σ1, hσ1⟩ : ∃ z, z = σ' := ⟨_, rfl⟩
  rw [← hσ1] at hM9 ⊢
  clear hσ1
  have hn := hn2
  show j_at _ _ _ [(0, .ref 0), (1, .ref 5), (2, .ref 68), (3, j_i i)] [j_i r] _ _ _ _
  refine a_aload_n (pc := 1419) (i := 2) (by decide +kernel) rfl ?_
  refine a_aload_n (pc := 1420) (i := 0) (by decide +kernel) rfl ?_
  refine a_iload_n (pc := 1421) (i := 3) (by decide +kernel) rfl ?_
  refine a_iconst (pc := 1422) (n := 1) (by decide +kernel) ?_
  refine a_iadd (pc := 1423) (by decide +kernel) ?_
  refine b_siload (pc := 1424) (by decide +kernel) (sh_0 hn) (by decide) (by omega) hX ?_
  refine a_aload_n (pc := 1425) (i := 0) (by decide +kernel) rfl ?_
  refine a_iload_n (pc := 1426) (i := 3) (by decide +kernel) rfl ?_
  refine a_iconst (pc := 1427) (n := 2) (by decide +kernel) ?_
  refine a_iadd (pc := 1428) (by decide +kernel) ?_
  refine b_siload (pc := 1429) (by decide +kernel) (sh_0 hn) (by decide) (by omega) hX ?_
  refine a_aload_n (pc := 1430) (i := 0) (by decide +kernel) rfl ?_
  refine a_iload_n (pc := 1431) (i := 3) (by decide +kernel) rfl ?_
  refine a_iconst (pc := 1432) (n := 3) (by decide +kernel) ?_
  refine a_iadd (pc := 1433) (by decide +kernel) ?_
  refine b_siload (pc := 1434) (by decide +kernel) (sh_0 hn) (by decide) (by omega) hX ?_
  refine b_callV (pc := 1435) (c' := 0) (sl' := 0) [j_i (k_rof X 0 (i + 1)), j_i (k_rof X 0 (i + 2)), j_i (k_rof X 0 (i + 3))] [j_i r] ml_L_170 (by decide +kernel) rfl rfl (sh_68 hn) rfl rfl (Nat.le_of_ble_eq_true rfl) (j_fitI rfl rfl) hM9 (fun v n' σ' hq => ?_)
  obtain ⟨rfl, hR2⟩ := hq
  obtain ⟨σ2, hσ2⟩ : ∃ z, z = σ' := ⟨_, rfl⟩
  rw [← hσ2] at hR2 ⊢
  clear hσ2
  show j_at _ _ _ [(0, .ref 0), (1, .ref 5), (2, .ref 68), (3, j_i i)] [j_i r, j_i r] _ _ _ _
  exact a_same_eq (pc := 1438) (off := 186) (tgt := 1624) (by decide +kernel) (by decide) (j_more (by omega) (by omega) (kk _ _ hR2))
set_option maxHeartbeats 4000000 in
theorem w_37 {G : j_G} {X : k_X} {n : Nat} {σ : k_St} (hR : RR n σ) {i : Int} (hi : 0 ≤ i ∧ i + 6 < X.1) (hX : X.1 ≤ 1000000) (hr : ∀ j, -2147483648 ≤ k_rof X 0 j ∧ k_rof X 0 j ≤ 2147483647) {c sl : Nat} {Q : j_P} (kk : ∀ n' σ', RR n' σ' → j_at G mL_law 1624 [(0, .ref 0), (1, .ref 5), (2, .ref 68), (3, j_i i)] [] (k_h X n' σ') c sl Q) : j_at G mL_law 1443 [(0, .ref 0), (1, .ref 5), (2, .ref 68), (3, j_i i)] [] (k_h X n σ) (c + 16) (sl + 1618) Q := by
  have hn := RR_n hR
  refine a_aload_n (pc := 1443) (i := 1) (by decide +kernel) rfl ?_
  obtain ⟨P9, hP1, hP2⟩ := p_undo (G := G) (X := X) hR 
  refine b_callV (pc := 1444) (c' := 0) (sl' := 0) [] [] ml_L_171 (by decide +kernel) rfl rfl (sh_5 hn) rfl rfl (Nat.le_of_ble_eq_true rfl) (j_fitI rfl rfl) hP1 (fun v n' σ' hq => ?_)
  obtain ⟨hn2, r, rfl, hM9⟩ := hP2 _ _ _ hq
  obtain ⟨σ1, hσ1⟩ : ∃ z, z = σ' := ⟨_, rfl⟩
  rw [← hσ1] at hM9 ⊢
  clear hσ1
  have hn := hn2
  show j_at _ _ _ [(0, .ref 0), (1, .ref 5), (2, .ref 68), (3, j_i i)] [j_i r] _ _ _ _
  refine a_aload_n (pc := 1447) (i := 2) (by decide +kernel) rfl ?_
  refine b_callV (pc := 1448) (c' := 0) (sl' := 0) [] [j_i r] ml_L_174 (by decide +kernel) rfl rfl (sh_68 hn) rfl rfl (Nat.le_of_ble_eq_true rfl) (j_fitI rfl rfl) hM9 (fun v n' σ' hq => ?_)
  obtain ⟨rfl, hR2⟩ := hq
  obtain ⟨σ2, hσ2⟩ : ∃ z, z = σ' := ⟨_, rfl⟩
  rw [← hσ2] at hR2 ⊢
  clear hσ2
  show j_at _ _ _ [(0, .ref 0), (1, .ref 5), (2, .ref 68), (3, j_i i)] [j_i r, j_i r] _ _ _ _
  exact a_same_eq (pc := 1451) (off := 173) (tgt := 1624) (by decide +kernel) (by decide) (j_more (by omega) (by omega) (kk _ _ hR2))
set_option maxHeartbeats 4000000 in
theorem w_38 {G : j_G} {X : k_X} {n : Nat} {σ : k_St} (hR : RR n σ) {i : Int} (hi : 0 ≤ i ∧ i + 6 < X.1) (hX : X.1 ≤ 1000000) (hr : ∀ j, -2147483648 ≤ k_rof X 0 j ∧ k_rof X 0 j ≤ 2147483647) {c sl : Nat} {Q : j_P} (kk : ∀ n' σ', RR n' σ' → j_at G mL_law 1624 [(0, .ref 0), (1, .ref 5), (2, .ref 68), (3, j_i i)] [] (k_h X n' σ') c sl Q) : j_at G mL_law 1456 [(0, .ref 0), (1, .ref 5), (2, .ref 68), (3, j_i i)] [] (k_h X n σ) (c + 16) (sl + 1618) Q := by
  have hn := RR_n hR
  refine a_aload_n (pc := 1456) (i := 1) (by decide +kernel) rfl ?_
  refine a_aload_n (pc := 1457) (i := 0) (by decide +kernel) rfl ?_
  refine a_iload_n (pc := 1458) (i := 3) (by decide +kernel) rfl ?_
  refine a_iconst (pc := 1459) (n := 1) (by decide +kernel) ?_
  refine a_iadd (pc := 1460) (by decide +kernel) ?_
  refine b_siload (pc := 1461) (by decide +kernel) (sh_0 hn) (by decide) (by omega) hX ?_
  refine a_aload_n (pc := 1462) (i := 0) (by decide +kernel) rfl ?_
  refine a_iload_n (pc := 1463) (i := 3) (by decide +kernel) rfl ?_
  refine a_iconst (pc := 1464) (n := 2) (by decide +kernel) ?_
  refine a_iadd (pc := 1465) (by decide +kernel) ?_
  refine b_siload (pc := 1466) (by decide +kernel) (sh_0 hn) (by decide) (by omega) hX ?_
  obtain ⟨P9, hP1, hP2⟩ := p_tray (G := G) (X := X) hR (hr (i + 1)) (hr (i + 2))
  refine b_callV (pc := 1467) (c' := 0) (sl' := 0) [j_i (k_rof X 0 (i + 1)), j_i (k_rof X 0 (i + 2))] [] ml_L_175 (by decide +kernel) rfl rfl (sh_5 hn) rfl rfl (Nat.le_of_ble_eq_true rfl) (j_fitI rfl rfl) hP1 (fun v n' σ' hq => ?_)
  obtain ⟨hn2, r, rfl, hM9⟩ := hP2 _ _ _ hq
  obtain ⟨σ1, hσ1⟩ : ∃ z, z = σ' := ⟨_, rfl⟩
  rw [← hσ1] at hM9 ⊢
  clear hσ1
  have hn := hn2
  show j_at _ _ _ [(0, .ref 0), (1, .ref 5), (2, .ref 68), (3, j_i i)] [j_i r] _ _ _ _
  refine a_aload_n (pc := 1470) (i := 2) (by decide +kernel) rfl ?_
  refine a_aload_n (pc := 1471) (i := 0) (by decide +kernel) rfl ?_
  refine a_iload_n (pc := 1472) (i := 3) (by decide +kernel) rfl ?_
  refine a_iconst (pc := 1473) (n := 1) (by decide +kernel) ?_
  refine a_iadd (pc := 1474) (by decide +kernel) ?_
  refine b_siload (pc := 1475) (by decide +kernel) (sh_0 hn) (by decide) (by omega) hX ?_
  refine a_aload_n (pc := 1476) (i := 0) (by decide +kernel) rfl ?_
  refine a_iload_n (pc := 1477) (i := 3) (by decide +kernel) rfl ?_
  refine a_iconst (pc := 1478) (n := 2) (by decide +kernel) ?_
  refine a_iadd (pc := 1479) (by decide +kernel) ?_
  refine b_siload (pc := 1480) (by decide +kernel) (sh_0 hn) (by decide) (by omega) hX ?_
  refine b_callV (pc := 1481) (c' := 0) (sl' := 0) [j_i (k_rof X 0 (i + 1)), j_i (k_rof X 0 (i + 2))] [j_i r] ml_L_178 (by decide +kernel) rfl rfl (sh_68 hn) rfl rfl (Nat.le_of_ble_eq_true rfl) (j_fitI rfl rfl) hM9 (fun v n' σ' hq => ?_)
  obtain ⟨rfl, hR2⟩ := hq
  obtain ⟨σ2, hσ2⟩ : ∃ z, z = σ' := ⟨_, rfl⟩
  rw [← hσ2] at hR2 ⊢
  clear hσ2
  show j_at _ _ _ [(0, .ref 0), (1, .ref 5), (2, .ref 68), (3, j_i i)] [j_i r, j_i r] _ _ _ _
  exact a_same_eq (pc := 1484) (off := 140) (tgt := 1624) (by decide +kernel) (by decide) (j_more (by omega) (by omega) (kk _ _ hR2))
set_option maxHeartbeats 4000000 in
theorem w_39 {G : j_G} {X : k_X} {n : Nat} {σ : k_St} (hR : RR n σ) {i : Int} (hi : 0 ≤ i ∧ i + 6 < X.1) (hX : X.1 ≤ 1000000) (hr : ∀ j, -2147483648 ≤ k_rof X 0 j ∧ k_rof X 0 j ≤ 2147483647) {c sl : Nat} {Q : j_P} (kk : ∀ n' σ', RR n' σ' → j_at G mL_law 1624 [(0, .ref 0), (1, .ref 5), (2, .ref 68), (3, j_i i)] [] (k_h X n' σ') c sl Q) : j_at G mL_law 1489 [(0, .ref 0), (1, .ref 5), (2, .ref 68), (3, j_i i)] [] (k_h X n σ) (c + 16) (sl + 1618) Q := by
  have hn := RR_n hR
  refine a_aload_n (pc := 1489) (i := 1) (by decide +kernel) rfl ?_
  refine a_aload_n (pc := 1490) (i := 0) (by decide +kernel) rfl ?_
  refine a_iload_n (pc := 1491) (i := 3) (by decide +kernel) rfl ?_
  refine a_iconst (pc := 1492) (n := 1) (by decide +kernel) ?_
  refine a_iadd (pc := 1493) (by decide +kernel) ?_
  refine b_siload (pc := 1494) (by decide +kernel) (sh_0 hn) (by decide) (by omega) hX ?_
  obtain ⟨P9, hP1, hP2⟩ := p_taken (G := G) (X := X) hR (hr (i + 1))
  refine b_callV (pc := 1495) (c' := 0) (sl' := 0) [j_i (k_rof X 0 (i + 1))] [] ml_L_179 (by decide +kernel) rfl rfl (sh_5 hn) rfl rfl (Nat.le_of_ble_eq_true rfl) (j_fitI rfl rfl) hP1 (fun v n' σ' hq => ?_)
  obtain ⟨hn2, r, rfl, hM9⟩ := hP2 _ _ _ hq
  obtain ⟨σ1, hσ1⟩ : ∃ z, z = σ' := ⟨_, rfl⟩
  rw [← hσ1] at hM9 ⊢
  clear hσ1
  have hn := hn2
  show j_at _ _ _ [(0, .ref 0), (1, .ref 5), (2, .ref 68), (3, j_i i)] [j_i r] _ _ _ _
  refine a_aload_n (pc := 1498) (i := 2) (by decide +kernel) rfl ?_
  refine a_aload_n (pc := 1499) (i := 0) (by decide +kernel) rfl ?_
  refine a_iload_n (pc := 1500) (i := 3) (by decide +kernel) rfl ?_
  refine a_iconst (pc := 1501) (n := 1) (by decide +kernel) ?_
  refine a_iadd (pc := 1502) (by decide +kernel) ?_
  refine b_siload (pc := 1503) (by decide +kernel) (sh_0 hn) (by decide) (by omega) hX ?_
  refine b_callV (pc := 1504) (c' := 0) (sl' := 0) [j_i (k_rof X 0 (i + 1))] [j_i r] ml_L_182 (by decide +kernel) rfl rfl (sh_68 hn) rfl rfl (Nat.le_of_ble_eq_true rfl) (j_fitI rfl rfl) hM9 (fun v n' σ' hq => ?_)
  obtain ⟨rfl, hR2⟩ := hq
  obtain ⟨σ2, hσ2⟩ : ∃ z, z = σ' := ⟨_, rfl⟩
  rw [← hσ2] at hR2 ⊢
  clear hσ2
  show j_at _ _ _ [(0, .ref 0), (1, .ref 5), (2, .ref 68), (3, j_i i)] [j_i r, j_i r] _ _ _ _
  exact a_same_eq (pc := 1507) (off := 117) (tgt := 1624) (by decide +kernel) (by decide) (j_more (by omega) (by omega) (kk _ _ hR2))
set_option maxHeartbeats 4000000 in
theorem w_40 {G : j_G} {X : k_X} {n : Nat} {σ : k_St} (hR : RR n σ) {i : Int} (hi : 0 ≤ i ∧ i + 6 < X.1) (hX : X.1 ≤ 1000000) (hr : ∀ j, -2147483648 ≤ k_rof X 0 j ∧ k_rof X 0 j ≤ 2147483647) {c sl : Nat} {Q : j_P} (kk : ∀ n' σ', RR n' σ' → j_at G mL_law 1624 [(0, .ref 0), (1, .ref 5), (2, .ref 68), (3, j_i i)] [] (k_h X n' σ') c sl Q) : j_at G mL_law 1512 [(0, .ref 0), (1, .ref 5), (2, .ref 68), (3, j_i i)] [] (k_h X n σ) (c + 16) (sl + 1618) Q := by
  have hn := RR_n hR
  refine a_aload_n (pc := 1512) (i := 1) (by decide +kernel) rfl ?_
  refine a_aload_n (pc := 1513) (i := 0) (by decide +kernel) rfl ?_
  refine a_iload_n (pc := 1514) (i := 3) (by decide +kernel) rfl ?_
  refine a_iconst (pc := 1515) (n := 1) (by decide +kernel) ?_
  refine a_iadd (pc := 1516) (by decide +kernel) ?_
  refine b_siload (pc := 1517) (by decide +kernel) (sh_0 hn) (by decide) (by omega) hX ?_
  refine a_aload_n (pc := 1518) (i := 0) (by decide +kernel) rfl ?_
  refine a_iload_n (pc := 1519) (i := 3) (by decide +kernel) rfl ?_
  refine a_iconst (pc := 1520) (n := 2) (by decide +kernel) ?_
  refine a_iadd (pc := 1521) (by decide +kernel) ?_
  refine b_siload (pc := 1522) (by decide +kernel) (sh_0 hn) (by decide) (by omega) hX ?_
  refine a_aload_n (pc := 1523) (i := 0) (by decide +kernel) rfl ?_
  refine a_iload_n (pc := 1524) (i := 3) (by decide +kernel) rfl ?_
  refine a_iconst (pc := 1525) (n := 3) (by decide +kernel) ?_
  refine a_iadd (pc := 1526) (by decide +kernel) ?_
  refine b_siload (pc := 1527) (by decide +kernel) (sh_0 hn) (by decide) (by omega) hX ?_
  refine a_aload_n (pc := 1528) (i := 0) (by decide +kernel) rfl ?_
  refine a_iload_n (pc := 1529) (i := 3) (by decide +kernel) rfl ?_
  refine a_iconst (pc := 1530) (n := 4) (by decide +kernel) ?_
  refine a_iadd (pc := 1531) (by decide +kernel) ?_
  refine b_siload (pc := 1532) (by decide +kernel) (sh_0 hn) (by decide) (by omega) hX ?_
  refine a_aload_n (pc := 1533) (i := 0) (by decide +kernel) rfl ?_
  refine a_iload_n (pc := 1534) (i := 3) (by decide +kernel) rfl ?_
  refine a_iconst (pc := 1535) (n := 5) (by decide +kernel) ?_
  refine a_iadd (pc := 1536) (by decide +kernel) ?_
  refine b_siload (pc := 1537) (by decide +kernel) (sh_0 hn) (by decide) (by omega) hX ?_
  obtain ⟨P9, hP1, hP2⟩ := p_match (G := G) (X := X) hR (hr (i + 1)) (hr (i + 2)) (hr (i + 3)) (hr (i + 4)) (hr (i + 5))
  refine b_callV (pc := 1538) (c' := 0) (sl' := 0) [j_i (k_rof X 0 (i + 1)), j_i (k_rof X 0 (i + 2)), j_i (k_rof X 0 (i + 3)), j_i (k_rof X 0 (i + 4)), j_i (k_rof X 0 (i + 5))] [] ml_L_183 (by decide +kernel) rfl rfl (sh_5 hn) rfl rfl (Nat.le_of_ble_eq_true rfl) (j_fitI rfl rfl) hP1 (fun v n' σ' hq => ?_)
  obtain ⟨hn2, r, rfl, hM9⟩ := hP2 _ _ _ hq
  obtain ⟨σ1, hσ1⟩ : ∃ z, z = σ' := ⟨_, rfl⟩
  rw [← hσ1] at hM9 ⊢
  clear hσ1
  have hn := hn2
  show j_at _ _ _ [(0, .ref 0), (1, .ref 5), (2, .ref 68), (3, j_i i)] [j_i r] _ _ _ _
  refine a_aload_n (pc := 1541) (i := 2) (by decide +kernel) rfl ?_
  refine a_aload_n (pc := 1542) (i := 0) (by decide +kernel) rfl ?_
  refine a_iload_n (pc := 1543) (i := 3) (by decide +kernel) rfl ?_
  refine a_iconst (pc := 1544) (n := 1) (by decide +kernel) ?_
  refine a_iadd (pc := 1545) (by decide +kernel) ?_
  refine b_siload (pc := 1546) (by decide +kernel) (sh_0 hn) (by decide) (by omega) hX ?_
  refine a_aload_n (pc := 1547) (i := 0) (by decide +kernel) rfl ?_
  refine a_iload_n (pc := 1548) (i := 3) (by decide +kernel) rfl ?_
  refine a_iconst (pc := 1549) (n := 2) (by decide +kernel) ?_
  refine a_iadd (pc := 1550) (by decide +kernel) ?_
  refine b_siload (pc := 1551) (by decide +kernel) (sh_0 hn) (by decide) (by omega) hX ?_
  refine a_aload_n (pc := 1552) (i := 0) (by decide +kernel) rfl ?_
  refine a_iload_n (pc := 1553) (i := 3) (by decide +kernel) rfl ?_
  refine a_iconst (pc := 1554) (n := 3) (by decide +kernel) ?_
  refine a_iadd (pc := 1555) (by decide +kernel) ?_
  refine b_siload (pc := 1556) (by decide +kernel) (sh_0 hn) (by decide) (by omega) hX ?_
  refine a_aload_n (pc := 1557) (i := 0) (by decide +kernel) rfl ?_
  refine a_iload_n (pc := 1558) (i := 3) (by decide +kernel) rfl ?_
  refine a_iconst (pc := 1559) (n := 4) (by decide +kernel) ?_
  refine a_iadd (pc := 1560) (by decide +kernel) ?_
  refine b_siload (pc := 1561) (by decide +kernel) (sh_0 hn) (by decide) (by omega) hX ?_
  refine a_aload_n (pc := 1562) (i := 0) (by decide +kernel) rfl ?_
  refine a_iload_n (pc := 1563) (i := 3) (by decide +kernel) rfl ?_
  refine a_iconst (pc := 1564) (n := 5) (by decide +kernel) ?_
  refine a_iadd (pc := 1565) (by decide +kernel) ?_
  refine b_siload (pc := 1566) (by decide +kernel) (sh_0 hn) (by decide) (by omega) hX ?_
  refine b_callV (pc := 1567) (c' := 0) (sl' := 0) [j_i (k_rof X 0 (i + 1)), j_i (k_rof X 0 (i + 2)), j_i (k_rof X 0 (i + 3)), j_i (k_rof X 0 (i + 4)), j_i (k_rof X 0 (i + 5))] [j_i r] ml_L_187 (by decide +kernel) rfl rfl (sh_68 hn) rfl rfl (Nat.le_of_ble_eq_true rfl) (j_fitI rfl rfl) hM9 (fun v n' σ' hq => ?_)
  obtain ⟨rfl, hR2⟩ := hq
  obtain ⟨σ2, hσ2⟩ : ∃ z, z = σ' := ⟨_, rfl⟩
  rw [← hσ2] at hR2 ⊢
  clear hσ2
  show j_at _ _ _ [(0, .ref 0), (1, .ref 5), (2, .ref 68), (3, j_i i)] [j_i r, j_i r] _ _ _ _
  exact a_same_eq (pc := 1570) (off := 54) (tgt := 1624) (by decide +kernel) (by decide) (j_more (by omega) (by omega) (kk _ _ hR2))
set_option maxHeartbeats 4000000 in
theorem w_41 {G : j_G} {X : k_X} {n : Nat} {σ : k_St} (hR : RR n σ) {i : Int} (hi : 0 ≤ i ∧ i + 6 < X.1) (hX : X.1 ≤ 1000000) (hr : ∀ j, -2147483648 ≤ k_rof X 0 j ∧ k_rof X 0 j ≤ 2147483647) {c sl : Nat} {Q : j_P} (kk : ∀ n' σ', RR n' σ' → j_at G mL_law 1624 [(0, .ref 0), (1, .ref 5), (2, .ref 68), (3, j_i i)] [] (k_h X n' σ') c sl Q) : j_at G mL_law 1575 [(0, .ref 0), (1, .ref 5), (2, .ref 68), (3, j_i i)] [] (k_h X n σ) (c + 16) (sl + 1618) Q := by
  have hn := RR_n hR
  refine a_aload_n (pc := 1575) (i := 1) (by decide +kernel) rfl ?_
  obtain ⟨P9, hP1, hP2⟩ := p_trace (G := G) (X := X) hR 
  refine b_callV (pc := 1576) (c' := 0) (sl' := 0) [] [] ml_L_188 (by decide +kernel) rfl rfl (sh_5 hn) rfl rfl (Nat.le_of_ble_eq_true rfl) (j_fitI rfl rfl) hP1 (fun v n' σ' hq => ?_)
  obtain ⟨hn2, r, rfl, hM9⟩ := hP2 _ _ _ hq
  obtain ⟨σ1, hσ1⟩ : ∃ z, z = σ' := ⟨_, rfl⟩
  rw [← hσ1] at hM9 ⊢
  clear hσ1
  have hn := hn2
  show j_at _ _ _ [(0, .ref 0), (1, .ref 5), (2, .ref 68), (3, j_i i)] [j_i r] _ _ _ _
  refine a_aload_n (pc := 1579) (i := 2) (by decide +kernel) rfl ?_
  refine b_callV (pc := 1580) (c' := 0) (sl' := 0) [] [j_i r] ml_L_191 (by decide +kernel) rfl rfl (sh_68 hn) rfl rfl (Nat.le_of_ble_eq_true rfl) (j_fitI rfl rfl) hM9 (fun v n' σ' hq => ?_)
  obtain ⟨rfl, hR2⟩ := hq
  obtain ⟨σ2, hσ2⟩ : ∃ z, z = σ' := ⟨_, rfl⟩
  rw [← hσ2] at hR2 ⊢
  clear hσ2
  show j_at _ _ _ [(0, .ref 0), (1, .ref 5), (2, .ref 68), (3, j_i i)] [j_i r, j_i r] _ _ _ _
  exact a_same_eq (pc := 1583) (off := 41) (tgt := 1624) (by decide +kernel) (by decide) (j_more (by omega) (by omega) (kk _ _ hR2))
set_option maxHeartbeats 4000000 in
theorem w_42 {G : j_G} {X : k_X} {n : Nat} {σ : k_St} (hR : RR n σ) {i : Int} (hi : 0 ≤ i ∧ i + 6 < X.1) (hX : X.1 ≤ 1000000) (hr : ∀ j, -2147483648 ≤ k_rof X 0 j ∧ k_rof X 0 j ≤ 2147483647) {c sl : Nat} {Q : j_P} (kk : ∀ n' σ', RR n' σ' → j_at G mL_law 1624 [(0, .ref 0), (1, .ref 5), (2, .ref 68), (3, j_i i)] [] (k_h X n' σ') c sl Q) : j_at G mL_law 1588 [(0, .ref 0), (1, .ref 5), (2, .ref 68), (3, j_i i)] [] (k_h X n σ) (c + 16) (sl + 1618) Q := by
  have hn := RR_n hR
  refine a_aload_n (pc := 1588) (i := 1) (by decide +kernel) rfl ?_
  obtain ⟨P9, hP1, hP2⟩ := p_fault (G := G) (X := X) hR 
  refine b_callV (pc := 1589) (c' := 0) (sl' := 0) [] [] ml_L_192 (by decide +kernel) rfl rfl (sh_5 hn) rfl rfl (Nat.le_of_ble_eq_true rfl) (j_fitI rfl rfl) hP1 (fun v n' σ' hq => ?_)
  obtain ⟨hn2, r, rfl, hM9⟩ := hP2 _ _ _ hq
  obtain ⟨σ1, hσ1⟩ : ∃ z, z = σ' := ⟨_, rfl⟩
  rw [← hσ1] at hM9 ⊢
  clear hσ1
  have hn := hn2
  show j_at _ _ _ [(0, .ref 0), (1, .ref 5), (2, .ref 68), (3, j_i i)] [j_i r] _ _ _ _
  refine a_aload_n (pc := 1592) (i := 2) (by decide +kernel) rfl ?_
  refine b_callV (pc := 1593) (c' := 0) (sl' := 0) [] [j_i r] ml_L_195 (by decide +kernel) rfl rfl (sh_68 hn) rfl rfl (Nat.le_of_ble_eq_true rfl) (j_fitI rfl rfl) hM9 (fun v n' σ' hq => ?_)
  obtain ⟨rfl, hR2⟩ := hq
  obtain ⟨σ2, hσ2⟩ : ∃ z, z = σ' := ⟨_, rfl⟩
  rw [← hσ2] at hR2 ⊢
  clear hσ2
  show j_at _ _ _ [(0, .ref 0), (1, .ref 5), (2, .ref 68), (3, j_i i)] [j_i r, j_i r] _ _ _ _
  exact a_same_eq (pc := 1596) (off := 28) (tgt := 1624) (by decide +kernel) (by decide) (j_more (by omega) (by omega) (kk _ _ hR2))
set_option maxHeartbeats 4000000 in
theorem w_43 {G : j_G} {X : k_X} {n : Nat} {σ : k_St} (hR : RR n σ) {i : Int} (hi : 0 ≤ i ∧ i + 6 < X.1) (hX : X.1 ≤ 1000000) (hr : ∀ j, -2147483648 ≤ k_rof X 0 j ∧ k_rof X 0 j ≤ 2147483647) {c sl : Nat} {Q : j_P} (kk : ∀ n' σ', RR n' σ' → j_at G mL_law 1624 [(0, .ref 0), (1, .ref 5), (2, .ref 68), (3, j_i i)] [] (k_h X n' σ') c sl Q) : j_at G mL_law 1601 [(0, .ref 0), (1, .ref 5), (2, .ref 68), (3, j_i i)] [] (k_h X n σ) (c + 16) (sl + 1618) Q := by
  have hn := RR_n hR
  refine a_aload_n (pc := 1601) (i := 1) (by decide +kernel) rfl ?_
  refine a_aload_n (pc := 1602) (i := 0) (by decide +kernel) rfl ?_
  refine a_iload_n (pc := 1603) (i := 3) (by decide +kernel) rfl ?_
  refine a_iconst (pc := 1604) (n := 1) (by decide +kernel) ?_
  refine a_iadd (pc := 1605) (by decide +kernel) ?_
  refine b_siload (pc := 1606) (by decide +kernel) (sh_0 hn) (by decide) (by omega) hX ?_
  obtain ⟨P9, hP1, hP2⟩ := p_told (G := G) (X := X) hR (hr (i + 1))
  refine b_callV (pc := 1607) (c' := 0) (sl' := 0) [j_i (k_rof X 0 (i + 1))] [] ml_L_196 (by decide +kernel) rfl rfl (sh_5 hn) rfl rfl (Nat.le_of_ble_eq_true rfl) (j_fitI rfl rfl) hP1 (fun v n' σ' hq => ?_)
  obtain ⟨hn2, r, rfl, hM9⟩ := hP2 _ _ _ hq
  obtain ⟨σ1, hσ1⟩ : ∃ z, z = σ' := ⟨_, rfl⟩
  rw [← hσ1] at hM9 ⊢
  clear hσ1
  have hn := hn2
  show j_at _ _ _ [(0, .ref 0), (1, .ref 5), (2, .ref 68), (3, j_i i)] [j_i r] _ _ _ _
  refine a_aload_n (pc := 1610) (i := 2) (by decide +kernel) rfl ?_
  refine a_aload_n (pc := 1611) (i := 0) (by decide +kernel) rfl ?_
  refine a_iload_n (pc := 1612) (i := 3) (by decide +kernel) rfl ?_
  refine a_iconst (pc := 1613) (n := 1) (by decide +kernel) ?_
  refine a_iadd (pc := 1614) (by decide +kernel) ?_
  refine b_siload (pc := 1615) (by decide +kernel) (sh_0 hn) (by decide) (by omega) hX ?_
  refine b_callV (pc := 1616) (c' := 0) (sl' := 0) [j_i (k_rof X 0 (i + 1))] [j_i r] ml_L_199 (by decide +kernel) rfl rfl (sh_68 hn) rfl rfl (Nat.le_of_ble_eq_true rfl) (j_fitI rfl rfl) hM9 (fun v n' σ' hq => ?_)
  obtain ⟨rfl, hR2⟩ := hq
  obtain ⟨σ2, hσ2⟩ : ∃ z, z = σ' := ⟨_, rfl⟩
  rw [← hσ2] at hR2 ⊢
  clear hσ2
  show j_at _ _ _ [(0, .ref 0), (1, .ref 5), (2, .ref 68), (3, j_i i)] [j_i r, j_i r] _ _ _ _
  exact a_same_eq (pc := 1619) (off := 5) (tgt := 1624) (by decide +kernel) (by decide) (j_more (by omega) (by omega) (kk _ _ hR2))
