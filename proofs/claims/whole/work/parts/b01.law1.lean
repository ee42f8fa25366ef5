theorem a_same_eq {G : j_G} {M : j_M} {pc : Nat} {lv : List (Nat × Value)} {st : List Value} {h : j_H} {c sl : Nat} {Q : j_P} {x : Int32} {off : Int} {tgt : Nat} (hd : decode M.2.1 pc = .ok (.if_icmp .eq off, 3)) (ht : (pc : Int) + off = (tgt : Int)) (kt : j_at G M tgt lv st h c sl Q) : j_at G M pc lv (.int x :: .int x :: st) h c sl Q := by
  intro p e s m args below meth cd H locs ls cells slots mc ms hF hW hS hl hc hs
  exact lv_icmp_eq hF.1 hF.2.1 hd ht (fun z => kt p e s m args below meth cd H locs ls cells slots mc ms hF hW hS hl hc hs) (fun z => absurd rfl z)
theorem j_more {G : j_G} {M : j_M} {pc : Nat} {lv : List (Nat × Value)} {st : List Value} {h : j_H} {c sl c' sl' : Nat} {Q : j_P} (hc : c ≤ c') (hs : sl ≤ sl') (k : j_at G M pc lv st h c sl Q) : j_at G M pc lv st h c' sl' Q := by
  intro p e s m args below meth cd H locs ls cells slots mc ms hF hW hS hl hc' hs'
  exact k p e s m args below meth cd H locs ls cells slots mc ms hF hW hS hl (by omega) (by omega)
set_option maxHeartbeats 4000000 in
theorem w_0 {G : j_G} {X : k_X} {n : Nat} {σ : k_St} (hR : RR n σ) {i : Int} (hi : 0 ≤ i ∧ i + 6 < X.1) (hX : X.1 ≤ 1000000) (hr : ∀ j, -2147483648 ≤ k_rof X 0 j ∧ k_rof X 0 j ≤ 2147483647) {c sl : Nat} {Q : j_P} (kk : ∀ n' σ', RR n' σ' → j_at G mL_law 1624 [(0, .ref 0), (1, .ref 5), (2, .ref 68), (3, j_i i)] [] (k_h X n' σ') c sl Q) : j_at G mL_law 224 [(0, .ref 0), (1, .ref 5), (2, .ref 68), (3, j_i i)] [] (k_h X n σ) (c + 16) (sl + 1618) Q := by
  have hn := RR_n hR
  refine a_aload_n (pc := 224) (i := 1) (by decide +kernel) rfl ?_
  refine a_aload_n (pc := 225) (i := 0) (by decide +kernel) rfl ?_
  refine a_iload_n (pc := 226) (i := 3) (by decide +kernel) rfl ?_
  refine a_iconst (pc := 227) (n := 1) (by decide +kernel) ?_
  refine a_iadd (pc := 228) (by decide +kernel) ?_
  refine b_siload (pc := 229) (by decide +kernel) (sh_0 hn) (by decide) (by omega) hX ?_
  refine a_aload_n (pc := 230) (i := 0) (by decide +kernel) rfl ?_
  refine a_iload_n (pc := 231) (i := 3) (by decide +kernel) rfl ?_
  refine a_iconst (pc := 232) (n := 2) (by decide +kernel) ?_
  refine a_iadd (pc := 233) (by decide +kernel) ?_
  refine b_siload (pc := 234) (by decide +kernel) (sh_0 hn) (by decide) (by omega) hX ?_
  obtain ⟨P9, hP1, hP2⟩ := p_put (G := G) (X := X) hR (hr (i + 1)) (hr (i + 2))
  refine b_callV (pc := 235) (c' := 16) (sl' := 1618) [j_i (k_rof X 0 (i + 1)), j_i (k_rof X 0 (i + 2))] [] ml_L_13 (by decide +kernel) rfl rfl (sh_5 hn) rfl rfl (Nat.le_of_ble_eq_true rfl) (j_fitI rfl rfl) hP1 (fun v n' σ' hq => ?_)
  obtain ⟨hn2, r, rfl, hM9⟩ := hP2 _ _ _ hq
  obtain ⟨σ1, hσ1⟩ : ∃ z, z = σ' := ⟨_, rfl⟩
  rw [← hσ1] at hM9 ⊢
  clear hσ1
  have hn := hn2
  show j_at _ _ _ [(0, .ref 0), (1, .ref 5), (2, .ref 68), (3, j_i i)] [j_i r] _ _ _ _
  refine a_aload_n (pc := 238) (i := 2) (by decide +kernel) rfl ?_
  refine a_aload_n (pc := 239) (i := 0) (by decide +kernel) rfl ?_
  refine a_iload_n (pc := 240) (i := 3) (by decide +kernel) rfl ?_
  refine a_iconst (pc := 241) (n := 1) (by decide +kernel) ?_
  refine a_iadd (pc := 242) (by decide +kernel) ?_
  refine b_siload (pc := 243) (by decide +kernel) (sh_0 hn) (by decide) (by omega) hX ?_
  refine a_aload_n (pc := 244) (i := 0) (by decide +kernel) rfl ?_
  refine a_iload_n (pc := 245) (i := 3) (by decide +kernel) rfl ?_
  refine a_iconst (pc := 246) (n := 2) (by decide +kernel) ?_
  refine a_iadd (pc := 247) (by decide +kernel) ?_
  refine b_siload (pc := 248) (by decide +kernel) (sh_0 hn) (by decide) (by omega) hX ?_
  refine b_callV (pc := 249) (c' := 0) (sl' := 0) [j_i (k_rof X 0 (i + 1)), j_i (k_rof X 0 (i + 2))] [j_i r] ml_L_17 (by decide +kernel) rfl rfl (sh_68 hn) rfl rfl (Nat.le_of_ble_eq_true rfl) (j_fitI rfl rfl) hM9 (fun v n' σ' hq => ?_)
  obtain ⟨rfl, hR2⟩ := hq
  obtain ⟨σ2, hσ2⟩ : ∃ z, z = σ' := ⟨_, rfl⟩
  rw [← hσ2] at hR2 ⊢
  clear hσ2
  show j_at _ _ _ [(0, .ref 0), (1, .ref 5), (2, .ref 68), (3, j_i i)] [j_i r, j_i r] _ _ _ _
  exact a_same_eq (pc := 252) (off := 1372) (tgt := 1624) (by decide +kernel) (by decide) (j_more (by omega) (by omega) (kk _ _ hR2))
set_option maxHeartbeats 4000000 in
theorem w_1 {G : j_G} {X : k_X} {n : Nat} {σ : k_St} (hR : RR n σ) {i : Int} (hi : 0 ≤ i ∧ i + 6 < X.1) (hX : X.1 ≤ 1000000) (hr : ∀ j, -2147483648 ≤ k_rof X 0 j ∧ k_rof X 0 j ≤ 2147483647) {c sl : Nat} {Q : j_P} (kk : ∀ n' σ', RR n' σ' → j_at G mL_law 1624 [(0, .ref 0), (1, .ref 5), (2, .ref 68), (3, j_i i)] [] (k_h X n' σ') c sl Q) : j_at G mL_law 257 [(0, .ref 0), (1, .ref 5), (2, .ref 68), (3, j_i i)] [] (k_h X n σ) (c + 16) (sl + 1618) Q := by
  have hn := RR_n hR
  refine a_aload_n (pc := 257) (i := 1) (by decide +kernel) rfl ?_
  refine a_aload_n (pc := 258) (i := 0) (by decide +kernel) rfl ?_
  refine a_iload_n (pc := 259) (i := 3) (by decide +kernel) rfl ?_
  refine a_iconst (pc := 260) (n := 1) (by decide +kernel) ?_
  refine a_iadd (pc := 261) (by decide +kernel) ?_
  refine b_siload (pc := 262) (by decide +kernel) (sh_0 hn) (by decide) (by omega) hX ?_
  obtain ⟨P9, hP1, hP2⟩ := p_take (G := G) (X := X) hR (hr (i + 1))
  refine b_callV (pc := 263) (c' := 16) (sl' := 1618) [j_i (k_rof X 0 (i + 1))] [] ml_L_18 (by decide +kernel) rfl rfl (sh_5 hn) rfl rfl (Nat.le_of_ble_eq_true rfl) (j_fitI rfl rfl) hP1 (fun v n' σ' hq => ?_)
  obtain ⟨hn2, r, rfl, hM9⟩ := hP2 _ _ _ hq
  obtain ⟨σ1, hσ1⟩ : ∃ z, z = σ' := ⟨_, rfl⟩
  rw [← hσ1] at hM9 ⊢
  clear hσ1
  have hn := hn2
  show j_at _ _ _ [(0, .ref 0), (1, .ref 5), (2, .ref 68), (3, j_i i)] [j_i r] _ _ _ _
  refine a_aload_n (pc := 266) (i := 2) (by decide +kernel) rfl ?_
  refine a_aload_n (pc := 267) (i := 0) (by decide +kernel) rfl ?_
  refine a_iload_n (pc := 268) (i := 3) (by decide +kernel) rfl ?_
  refine a_iconst (pc := 269) (n := 1) (by decide +kernel) ?_
  refine a_iadd (pc := 270) (by decide +kernel) ?_
  refine b_siload (pc := 271) (by decide +kernel) (sh_0 hn) (by decide) (by omega) hX ?_
  refine b_callV (pc := 272) (c' := 0) (sl' := 0) [j_i (k_rof X 0 (i + 1))] [j_i r] ml_L_22 (by decide +kernel) rfl rfl (sh_68 hn) rfl rfl (Nat.le_of_ble_eq_true rfl) (j_fitI rfl rfl) hM9 (fun v n' σ' hq => ?_)
  obtain ⟨rfl, hR2⟩ := hq
  obtain ⟨σ2, hσ2⟩ : ∃ z, z = σ' := ⟨_, rfl⟩
  rw [← hσ2] at hR2 ⊢
  clear hσ2
  show j_at _ _ _ [(0, .ref 0), (1, .ref 5), (2, .ref 68), (3, j_i i)] [j_i r, j_i r] _ _ _ _
  exact a_same_eq (pc := 275) (off := 1349) (tgt := 1624) (by decide +kernel) (by decide) (j_more (by omega) (by omega) (kk _ _ hR2))
set_option maxHeartbeats 4000000 in
theorem w_2 {G : j_G} {X : k_X} {n : Nat} {σ : k_St} (hR : RR n σ) {i : Int} (hi : 0 ≤ i ∧ i + 6 < X.1) (hX : X.1 ≤ 1000000) (hr : ∀ j, -2147483648 ≤ k_rof X 0 j ∧ k_rof X 0 j ≤ 2147483647) {c sl : Nat} {Q : j_P} (kk : ∀ n' σ', RR n' σ' → j_at G mL_law 1624 [(0, .ref 0), (1, .ref 5), (2, .ref 68), (3, j_i i)] [] (k_h X n' σ') c sl Q) : j_at G mL_law 280 [(0, .ref 0), (1, .ref 5), (2, .ref 68), (3, j_i i)] [] (k_h X n σ) (c + 16) (sl + 1618) Q := by
  have hn := RR_n hR
  refine a_aload_n (pc := 280) (i := 1) (by decide +kernel) rfl ?_
  refine a_aload_n (pc := 281) (i := 0) (by decide +kernel) rfl ?_
  refine a_iload_n (pc := 282) (i := 3) (by decide +kernel) rfl ?_
  refine a_iconst (pc := 283) (n := 1) (by decide +kernel) ?_
  refine a_iadd (pc := 284) (by decide +kernel) ?_
  refine b_siload (pc := 285) (by decide +kernel) (sh_0 hn) (by decide) (by omega) hX ?_
  refine a_aload_n (pc := 286) (i := 0) (by decide +kernel) rfl ?_
  refine a_iload_n (pc := 287) (i := 3) (by decide +kernel) rfl ?_
  refine a_iconst (pc := 288) (n := 2) (by decide +kernel) ?_
  refine a_iadd (pc := 289) (by decide +kernel) ?_
  refine b_siload (pc := 290) (by decide +kernel) (sh_0 hn) (by decide) (by omega) hX ?_
  refine a_aload_n (pc := 291) (i := 0) (by decide +kernel) rfl ?_
  refine a_iload_n (pc := 292) (i := 3) (by decide +kernel) rfl ?_
  refine a_iconst (pc := 293) (n := 3) (by decide +kernel) ?_
  refine a_iadd (pc := 294) (by decide +kernel) ?_
  refine b_siload (pc := 295) (by decide +kernel) (sh_0 hn) (by decide) (by omega) hX ?_
  obtain ⟨P9, hP1, hP2⟩ := p_move (G := G) (X := X) hR (hr (i + 1)) (hr (i + 2)) (hr (i + 3))
  refine b_callV (pc := 296) (c' := 16) (sl' := 1618) [j_i (k_rof X 0 (i + 1)), j_i (k_rof X 0 (i + 2)), j_i (k_rof X 0 (i + 3))] [] ml_L_23 (by decide +kernel) rfl rfl (sh_5 hn) rfl rfl (Nat.le_of_ble_eq_true rfl) (j_fitI rfl rfl) hP1 (fun v n' σ' hq => ?_)
  obtain ⟨hn2, r, rfl, hM9⟩ := hP2 _ _ _ hq
  obtain ⟨σ1, hσ1⟩ : ∃ z, z = σ' := ⟨_, rfl⟩
  rw [← hσ1] at hM9 ⊢
  clear hσ1
  have hn := hn2
  show j_at _ _ _ [(0, .ref 0), (1, .ref 5), (2, .ref 68), (3, j_i i)] [j_i r] _ _ _ _
  refine a_aload_n (pc := 299) (i := 2) (by decide +kernel) rfl ?_
  refine a_aload_n (pc := 300) (i := 0) (by decide +kernel) rfl ?_
  refine a_iload_n (pc := 301) (i := 3) (by decide +kernel) rfl ?_
  refine a_iconst (pc := 302) (n := 1) (by decide +kernel) ?_
  refine a_iadd (pc := 303) (by decide +kernel) ?_
  refine b_siload (pc := 304) (by decide +kernel) (sh_0 hn) (by decide) (by omega) hX ?_
  refine a_aload_n (pc := 305) (i := 0) (by decide +kernel) rfl ?_
  refine a_iload_n (pc := 306) (i := 3) (by decide +kernel) rfl ?_
  refine a_iconst (pc := 307) (n := 2) (by decide +kernel) ?_
  refine a_iadd (pc := 308) (by decide +kernel) ?_
  refine b_siload (pc := 309) (by decide +kernel) (sh_0 hn) (by decide) (by omega) hX ?_
  refine a_aload_n (pc := 310) (i := 0) (by decide +kernel) rfl ?_
  refine a_iload_n (pc := 311) (i := 3) (by decide +kernel) rfl ?_
  refine a_iconst (pc := 312) (n := 3) (by decide +kernel) ?_
  refine a_iadd (pc := 313) (by decide +kernel) ?_
  refine b_siload (pc := 314) (by decide +kernel) (sh_0 hn) (by decide) (by omega) hX ?_
  refine b_callV (pc := 315) (c' := 0) (sl' := 0) [j_i (k_rof X 0 (i + 1)), j_i (k_rof X 0 (i + 2)), j_i (k_rof X 0 (i + 3))] [j_i r] ml_L_27 (by decide +kernel) rfl rfl (sh_68 hn) rfl rfl (Nat.le_of_ble_eq_true rfl) (j_fitI rfl rfl) hM9 (fun v n' σ' hq => ?_)
  obtain ⟨rfl, hR2⟩ := hq
  obtain ⟨σ2, hσ2⟩ : ∃ z, z = σ' := ⟨_, rfl⟩
  rw [← hσ2] at hR2 ⊢
  clear hσ2
  show j_at _ _ _ [(0, .ref 0), (1, .ref 5), (2, .ref 68), (3, j_i i)] [j_i r, j_i r] _ _ _ _
  exact a_same_eq (pc := 318) (off := 1306) (tgt := 1624) (by decide +kernel) (by decide) (j_more (by omega) (by omega) (kk _ _ hR2))
set_option maxHeartbeats 4000000 in
theorem w_3 {G : j_G} {X : k_X} {n : Nat} {σ : k_St} (hR : RR n σ) {i : Int} (hi : 0 ≤ i ∧ i + 6 < X.1) (hX : X.1 ≤ 1000000) (hr : ∀ j, -2147483648 ≤ k_rof X 0 j ∧ k_rof X 0 j ≤ 2147483647) {c sl : Nat} {Q : j_P} (kk : ∀ n' σ', RR n' σ' → j_at G mL_law 1624 [(0, .ref 0), (1, .ref 5), (2, .ref 68), (3, j_i i)] [] (k_h X n' σ') c sl Q) : j_at G mL_law 323 [(0, .ref 0), (1, .ref 5), (2, .ref 68), (3, j_i i)] [] (k_h X n σ) (c + 16) (sl + 1618) Q := by
  have hn := RR_n hR
  refine a_aload_n (pc := 323) (i := 1) (by decide +kernel) rfl ?_
  refine a_aload_n (pc := 324) (i := 0) (by decide +kernel) rfl ?_
  refine a_iload_n (pc := 325) (i := 3) (by decide +kernel) rfl ?_
  refine a_iconst (pc := 326) (n := 1) (by decide +kernel) ?_
  refine a_iadd (pc := 327) (by decide +kernel) ?_
  refine b_siload (pc := 328) (by decide +kernel) (sh_0 hn) (by decide) (by omega) hX ?_
  obtain ⟨P9, hP1, hP2⟩ := p_word (G := G) (X := X) hR (hr (i + 1))
  refine b_callV (pc := 329) (c' := 0) (sl' := 0) [j_i (k_rof X 0 (i + 1))] [] ml_L_28 (by decide +kernel) rfl rfl (sh_5 hn) rfl rfl (Nat.le_of_ble_eq_true rfl) (j_fitI rfl rfl) hP1 (fun v n' σ' hq => ?_)
  obtain ⟨hn2, r, rfl, hM9⟩ := hP2 _ _ _ hq
  obtain ⟨σ1, hσ1⟩ : ∃ z, z = σ' := ⟨_, rfl⟩
  rw [← hσ1] at hM9 ⊢
  clear hσ1
  have hn := hn2
  show j_at _ _ _ [(0, .ref 0), (1, .ref 5), (2, .ref 68), (3, j_i i)] [j_i r] _ _ _ _
  refine a_aload_n (pc := 332) (i := 2) (by decide +kernel) rfl ?_
  refine a_aload_n (pc := 333) (i := 0) (by decide +kernel) rfl ?_
  refine a_iload_n (pc := 334) (i := 3) (by decide +kernel) rfl ?_
  refine a_iconst (pc := 335) (n := 1) (by decide +kernel) ?_
  refine a_iadd (pc := 336) (by decide +kernel) ?_
  refine b_siload (pc := 337) (by decide +kernel) (sh_0 hn) (by decide) (by omega) hX ?_
  refine b_callV (pc := 338) (c' := 0) (sl' := 0) [j_i (k_rof X 0 (i + 1))] [j_i r] ml_L_31 (by decide +kernel) rfl rfl (sh_68 hn) rfl rfl (Nat.le_of_ble_eq_true rfl) (j_fitI rfl rfl) hM9 (fun v n' σ' hq => ?_)
  obtain ⟨rfl, hR2⟩ := hq
  obtain ⟨σ2, hσ2⟩ : ∃ z, z = σ' := ⟨_, rfl⟩
  rw [← hσ2] at hR2 ⊢
  clear hσ2
  show j_at _ _ _ [(0, .ref 0), (1, .ref 5), (2, .ref 68), (3, j_i i)] [j_i r, j_i r] _ _ _ _
  exact a_same_eq (pc := 341) (off := 1283) (tgt := 1624) (by decide +kernel) (by decide) (j_more (by omega) (by omega) (kk _ _ hR2))
set_option maxHeartbeats 4000000 in
theorem w_4 {G : j_G} {X : k_X} {n : Nat} {σ : k_St} (hR : RR n σ) {i : Int} (hi : 0 ≤ i ∧ i + 6 < X.1) (hX : X.1 ≤ 1000000) (hr : ∀ j, -2147483648 ≤ k_rof X 0 j ∧ k_rof X 0 j ≤ 2147483647) {c sl : Nat} {Q : j_P} (kk : ∀ n' σ', RR n' σ' → j_at G mL_law 1624 [(0, .ref 0), (1, .ref 5), (2, .ref 68), (3, j_i i)] [] (k_h X n' σ') c sl Q) : j_at G mL_law 346 [(0, .ref 0), (1, .ref 5), (2, .ref 68), (3, j_i i)] [] (k_h X n σ) (c + 16) (sl + 1618) Q := by
  have hn := RR_n hR
  refine a_aload_n (pc := 346) (i := 1) (by decide +kernel) rfl ?_
  refine a_aload_n (pc := 347) (i := 0) (by decide +kernel) rfl ?_
  refine a_iload_n (pc := 348) (i := 3) (by decide +kernel) rfl ?_
  refine a_iconst (pc := 349) (n := 1) (by decide +kernel) ?_
  refine a_iadd (pc := 350) (by decide +kernel) ?_
  refine b_siload (pc := 351) (by decide +kernel) (sh_0 hn) (by decide) (by omega) hX ?_
  obtain ⟨P9, hP1, hP2⟩ := p_flow (G := G) (X := X) hR (hr (i + 1))
  refine b_callV (pc := 352) (c' := 0) (sl' := 0) [j_i (k_rof X 0 (i + 1))] [] ml_L_32 (by decide +kernel) rfl rfl (sh_5 hn) rfl rfl (Nat.le_of_ble_eq_true rfl) (j_fitI rfl rfl) hP1 (fun v n' σ' hq => ?_)
  obtain ⟨hn2, r, rfl, hM9⟩ := hP2 _ _ _ hq
  obtain ⟨σ1, hσ1⟩ : ∃ z, z = σ' := ⟨_, rfl⟩
  rw [← hσ1] at hM9 ⊢
  clear hσ1
  have hn := hn2
  show j_at _ _ _ [(0, .ref 0), (1, .ref 5), (2, .ref 68), (3, j_i i)] [j_i r] _ _ _ _
  refine a_aload_n (pc := 355) (i := 2) (by decide +kernel) rfl ?_
  refine a_aload_n (pc := 356) (i := 0) (by decide +kernel) rfl ?_
  refine a_iload_n (pc := 357) (i := 3) (by decide +kernel) rfl ?_
  refine a_iconst (pc := 358) (n := 1) (by decide +kernel) ?_
  refine a_iadd (pc := 359) (by decide +kernel) ?_
  refine b_siload (pc := 360) (by decide +kernel) (sh_0 hn) (by decide) (by omega) hX ?_
  refine b_callV (pc := 361) (c' := 0) (sl' := 0) [j_i (k_rof X 0 (i + 1))] [j_i r] ml_L_35 (by decide +kernel) rfl rfl (sh_68 hn) rfl rfl (Nat.le_of_ble_eq_true rfl) (j_fitI rfl rfl) hM9 (fun v n' σ' hq => ?_)
  obtain ⟨rfl, hR2⟩ := hq
  obtain ⟨σ2, hσ2⟩ : ∃ z, z = σ' := ⟨_, rfl⟩
  rw [← hσ2] at hR2 ⊢
  clear hσ2
  show j_at _ _ _ [(0, .ref 0), (1, .ref 5), (2, .ref 68), (3, j_i i)] [j_i r, j_i r] _ _ _ _
  exact a_same_eq (pc := 364) (off := 1260) (tgt := 1624) (by decide +kernel) (by decide) (j_more (by omega) (by omega) (kk _ _ hR2))
set_option maxHeartbeats 4000000 in
theorem w_5 {G : j_G} {X : k_X} {n : Nat} {σ : k_St} (hR : RR n σ) {i : Int} (hi : 0 ≤ i ∧ i + 6 < X.1) (hX : X.1 ≤ 1000000) (hr : ∀ j, -2147483648 ≤ k_rof X 0 j ∧ k_rof X 0 j ≤ 2147483647) {c sl : Nat} {Q : j_P} (kk : ∀ n' σ', RR n' σ' → j_at G mL_law 1624 [(0, .ref 0), (1, .ref 5), (2, .ref 68), (3, j_i i)] [] (k_h X n' σ') c sl Q) : j_at G mL_law 369 [(0, .ref 0), (1, .ref 5), (2, .ref 68), (3, j_i i)] [] (k_h X n σ) (c + 16) (sl + 1618) Q := by
  have hn := RR_n hR
  refine a_aload_n (pc := 369) (i := 1) (by decide +kernel) rfl ?_
  refine a_aload_n (pc := 370) (i := 0) (by decide +kernel) rfl ?_
  refine a_iload_n (pc := 371) (i := 3) (by decide +kernel) rfl ?_
  refine a_iconst (pc := 372) (n := 1) (by decide +kernel) ?_
  refine a_iadd (pc := 373) (by decide +kernel) ?_
  refine b_siload (pc := 374) (by decide +kernel) (sh_0 hn) (by decide) (by omega) hX ?_
  refine a_aload_n (pc := 375) (i := 0) (by decide +kernel) rfl ?_
  refine a_iload_n (pc := 376) (i := 3) (by decide +kernel) rfl ?_
  refine a_iconst (pc := 377) (n := 2) (by decide +kernel) ?_
  refine a_iadd (pc := 378) (by decide +kernel) ?_
  refine b_siload (pc := 379) (by decide +kernel) (sh_0 hn) (by decide) (by omega) hX ?_
  refine a_aload_n (pc := 380) (i := 0) (by decide +kernel) rfl ?_
  refine a_iload_n (pc := 381) (i := 3) (by decide +kernel) rfl ?_
  refine a_iconst (pc := 382) (n := 3) (by decide +kernel) ?_
  refine a_iadd (pc := 383) (by decide +kernel) ?_
  refine b_siload (pc := 384) (by decide +kernel) (sh_0 hn) (by decide) (by omega) hX ?_
  refine a_aload_n (pc := 385) (i := 0) (by decide +kernel) rfl ?_
  refine a_iload_n (pc := 386) (i := 3) (by decide +kernel) rfl ?_
  refine a_iconst (pc := 387) (n := 4) (by decide +kernel) ?_
  refine a_iadd (pc := 388) (by decide +kernel) ?_
  refine b_siload (pc := 389) (by decide +kernel) (sh_0 hn) (by decide) (by omega) hX ?_
  obtain ⟨P9, hP1, hP2⟩ := p_part (G := G) (X := X) hR (hr (i + 1)) (hr (i + 2)) (hr (i + 3)) (hr (i + 4))
  refine b_callV (pc := 390) (c' := 0) (sl' := 0) [j_i (k_rof X 0 (i + 1)), j_i (k_rof X 0 (i + 2)), j_i (k_rof X 0 (i + 3)), j_i (k_rof X 0 (i + 4))] [] ml_L_36 (by decide +kernel) rfl rfl (sh_5 hn) rfl rfl (Nat.le_of_ble_eq_true rfl) (j_fitI rfl rfl) hP1 (fun v n' σ' hq => ?_)
  obtain ⟨hn2, r, rfl, hM9⟩ := hP2 _ _ _ hq
  obtain ⟨σ1, hσ1⟩ : ∃ z, z = σ' := ⟨_, rfl⟩
  rw [← hσ1] at hM9 ⊢
  clear hσ1
  have hn := hn2
  show j_at _ _ _ [(0, .ref 0), (1, .ref 5), (2, .ref 68), (3, j_i i)] [j_i r] _ _ _ _
  refine a_aload_n (pc := 393) (i := 2) (by decide +kernel) rfl ?_
  refine a_aload_n (pc := 394) (i := 0) (by decide +kernel) rfl ?_
  refine a_iload_n (pc := 395) (i := 3) (by decide +kernel) rfl ?_
  refine a_iconst (pc := 396) (n := 1) (by decide +kernel) ?_
  refine a_iadd (pc := 397) (by decide +kernel) ?_
  refine b_siload (pc := 398) (by decide +kernel) (sh_0 hn) (by decide) (by omega) hX ?_
  refine a_aload_n (pc := 399) (i := 0) (by decide +kernel) rfl ?_
  refine a_iload_n (pc := 400) (i := 3) (by decide +kernel) rfl ?_
  refine a_iconst (pc := 401) (n := 2) (by decide +kernel) ?_
  refine a_iadd (pc := 402) (by decide +kernel) ?_
  refine b_siload (pc := 403) (by decide +kernel) (sh_0 hn) (by decide) (by omega) hX ?_
  refine a_aload_n (pc := 404) (i := 0) (by decide +kernel) rfl ?_
  refine a_iload_n (pc := 405) (i := 3) (by decide +kernel) rfl ?_
  refine a_iconst (pc := 406) (n := 3) (by decide +kernel) ?_
  refine a_iadd (pc := 407) (by decide +kernel) ?_
  refine b_siload (pc := 408) (by decide +kernel) (sh_0 hn) (by decide) (by omega) hX ?_
  refine a_aload_n (pc := 409) (i := 0) (by decide +kernel) rfl ?_
  refine a_iload_n (pc := 410) (i := 3) (by decide +kernel) rfl ?_
  refine a_iconst (pc := 411) (n := 4) (by decide +kernel) ?_
  refine a_iadd (pc := 412) (by decide +kernel) ?_
  refine b_siload (pc := 413) (by decide +kernel) (sh_0 hn) (by decide) (by omega) hX ?_
  refine b_callV (pc := 414) (c' := 0) (sl' := 0) [j_i (k_rof X 0 (i + 1)), j_i (k_rof X 0 (i + 2)), j_i (k_rof X 0 (i + 3)), j_i (k_rof X 0 (i + 4))] [j_i r] ml_L_40 (by decide +kernel) rfl rfl (sh_68 hn) rfl rfl (Nat.le_of_ble_eq_true rfl) (j_fitI rfl rfl) hM9 (fun v n' σ' hq => ?_)
  obtain ⟨rfl, hR2⟩ := hq
  obtain ⟨σ2, hσ2⟩ : ∃ z, z = σ' := ⟨_, rfl⟩
  rw [← hσ2] at hR2 ⊢
  clear hσ2
  show j_at _ _ _ [(0, .ref 0), (1, .ref 5), (2, .ref 68), (3, j_i i)] [j_i r, j_i r] _ _ _ _
  exact a_same_eq (pc := 417) (off := 1207) (tgt := 1624) (by decide +kernel) (by decide) (j_more (by omega) (by omega) (kk _ _ hR2))
set_option maxHeartbeats 4000000 in
theorem w_6 {G : j_G} {X : k_X} {n : Nat} {σ : k_St} (hR : RR n σ) {i : Int} (hi : 0 ≤ i ∧ i + 6 < X.1) (hX : X.1 ≤ 1000000) (hr : ∀ j, -2147483648 ≤ k_rof X 0 j ∧ k_rof X 0 j ≤ 2147483647) {c sl : Nat} {Q : j_P} (kk : ∀ n' σ', RR n' σ' → j_at G mL_law 1624 [(0, .ref 0), (1, .ref 5), (2, .ref 68), (3, j_i i)] [] (k_h X n' σ') c sl Q) : j_at G mL_law 422 [(0, .ref 0), (1, .ref 5), (2, .ref 68), (3, j_i i)] [] (k_h X n σ) (c + 16) (sl + 1618) Q := by
  have hn := RR_n hR
  refine a_aload_n (pc := 422) (i := 1) (by decide +kernel) rfl ?_
  refine a_aload_n (pc := 423) (i := 0) (by decide +kernel) rfl ?_
  refine a_iload_n (pc := 424) (i := 3) (by decide +kernel) rfl ?_
  refine a_iconst (pc := 425) (n := 1) (by decide +kernel) ?_
  refine a_iadd (pc := 426) (by decide +kernel) ?_
  refine b_siload (pc := 427) (by decide +kernel) (sh_0 hn) (by decide) (by omega) hX ?_
  obtain ⟨P9, hP1, hP2⟩ := p_label (G := G) (X := X) hR (hr (i + 1))
  refine b_callV (pc := 428) (c' := 0) (sl' := 0) [j_i (k_rof X 0 (i + 1))] [] ml_L_41 (by decide +kernel) rfl rfl (sh_5 hn) rfl rfl (Nat.le_of_ble_eq_true rfl) (j_fitI rfl rfl) hP1 (fun v n' σ' hq => ?_)
  obtain ⟨hn2, r, rfl, hM9⟩ := hP2 _ _ _ hq
  obtain ⟨σ1, hσ1⟩ : ∃ z, z = σ' := ⟨_, rfl⟩
  rw [← hσ1] at hM9 ⊢
  clear hσ1
  have hn := hn2
  show j_at _ _ _ [(0, .ref 0), (1, .ref 5), (2, .ref 68), (3, j_i i)] [j_i r] _ _ _ _
  refine a_aload_n (pc := 431) (i := 2) (by decide +kernel) rfl ?_
  refine a_aload_n (pc := 432) (i := 0) (by decide +kernel) rfl ?_
  refine a_iload_n (pc := 433) (i := 3) (by decide +kernel) rfl ?_
  refine a_iconst (pc := 434) (n := 1) (by decide +kernel) ?_
  refine a_iadd (pc := 435) (by decide +kernel) ?_
  refine b_siload (pc := 436) (by decide +kernel) (sh_0 hn) (by decide) (by omega) hX ?_
  refine b_callV (pc := 437) (c' := 0) (sl' := 0) [j_i (k_rof X 0 (i + 1))] [j_i r] ml_L_44 (by decide +kernel) rfl rfl (sh_68 hn) rfl rfl (Nat.le_of_ble_eq_true rfl) (j_fitI rfl rfl) hM9 (fun v n' σ' hq => ?_)
  obtain ⟨rfl, hR2⟩ := hq
  obtain ⟨σ2, hσ2⟩ : ∃ z, z = σ' := ⟨_, rfl⟩
  rw [← hσ2] at hR2 ⊢
  clear hσ2
  show j_at _ _ _ [(0, .ref 0), (1, .ref 5), (2, .ref 68), (3, j_i i)] [j_i r, j_i r] _ _ _ _
  exact a_same_eq (pc := 440) (off := 1184) (tgt := 1624) (by decide +kernel) (by decide) (j_more (by omega) (by omega) (kk _ _ hR2))
set_option maxHeartbeats 4000000 in
theorem w_7 {G : j_G} {X : k_X} {n : Nat} {σ : k_St} (hR : RR n σ) {i : Int} (hi : 0 ≤ i ∧ i + 6 < X.1) (hX : X.1 ≤ 1000000) (hr : ∀ j, -2147483648 ≤ k_rof X 0 j ∧ k_rof X 0 j ≤ 2147483647) {c sl : Nat} {Q : j_P} (kk : ∀ n' σ', RR n' σ' → j_at G mL_law 1624 [(0, .ref 0), (1, .ref 5), (2, .ref 68), (3, j_i i)] [] (k_h X n' σ') c sl Q) : j_at G mL_law 445 [(0, .ref 0), (1, .ref 5), (2, .ref 68), (3, j_i i)] [] (k_h X n σ) (c + 16) (sl + 1618) Q := by
  have hn := RR_n hR
  refine a_aload_n (pc := 445) (i := 1) (by decide +kernel) rfl ?_
  refine a_aload_n (pc := 446) (i := 0) (by decide +kernel) rfl ?_
  refine a_iload_n (pc := 447) (i := 3) (by decide +kernel) rfl ?_
  refine a_iconst (pc := 448) (n := 1) (by decide +kernel) ?_
  refine a_iadd (pc := 449) (by decide +kernel) ?_
  refine b_siload (pc := 450) (by decide +kernel) (sh_0 hn) (by decide) (by omega) hX ?_
  refine a_aload_n (pc := 451) (i := 0) (by decide +kernel) rfl ?_
  refine a_iload_n (pc := 452) (i := 3) (by decide +kernel) rfl ?_
  refine a_iconst (pc := 453) (n := 2) (by decide +kernel) ?_
  refine a_iadd (pc := 454) (by decide +kernel) ?_
  refine b_siload (pc := 455) (by decide +kernel) (sh_0 hn) (by decide) (by omega) hX ?_
  obtain ⟨P9, hP1, hP2⟩ := p_labelSign (G := G) (X := X) hR (hr (i + 1)) (hr (i + 2))
  refine b_callV (pc := 456) (c' := 0) (sl' := 0) [j_i (k_rof X 0 (i + 1)), j_i (k_rof X 0 (i + 2))] [] ml_L_45 (by decide +kernel) rfl rfl (sh_5 hn) rfl rfl (Nat.le_of_ble_eq_true rfl) (j_fitI rfl rfl) hP1 (fun v n' σ' hq => ?_)
  obtain ⟨hn2, r, rfl, hM9⟩ := hP2 _ _ _ hq
  obtain ⟨σ1, hσ1⟩ : ∃ z, z = σ' := ⟨_, rfl⟩
  rw [← hσ1] at hM9 ⊢
  clear hσ1
  have hn := hn2
  show j_at _ _ _ [(0, .ref 0), (1, .ref 5), (2, .ref 68), (3, j_i i)] [j_i r] _ _ _ _
  refine a_aload_n (pc := 459) (i := 2) (by decide +kernel) rfl ?_
  refine a_aload_n (pc := 460) (i := 0) (by decide +kernel) rfl ?_
  refine a_iload_n (pc := 461) (i := 3) (by decide +kernel) rfl ?_
  refine a_iconst (pc := 462) (n := 1) (by decide +kernel) ?_
  refine a_iadd (pc := 463) (by decide +kernel) ?_
  refine b_siload (pc := 464) (by decide +kernel) (sh_0 hn) (by decide) (by omega) hX ?_
  refine a_aload_n (pc := 465) (i := 0) (by decide +kernel) rfl ?_
  refine a_iload_n (pc := 466) (i := 3) (by decide +kernel) rfl ?_
  refine a_iconst (pc := 467) (n := 2) (by decide +kernel) ?_
  refine a_iadd (pc := 468) (by decide +kernel) ?_
  refine b_siload (pc := 469) (by decide +kernel) (sh_0 hn) (by decide) (by omega) hX ?_
  refine b_callV (pc := 470) (c' := 0) (sl' := 0) [j_i (k_rof X 0 (i + 1)), j_i (k_rof X 0 (i + 2))] [j_i r] ml_L_48 (by decide +kernel) rfl rfl (sh_68 hn) rfl rfl (Nat.le_of_ble_eq_true rfl) (j_fitI rfl rfl) hM9 (fun v n' σ' hq => ?_)
  obtain ⟨rfl, hR2⟩ := hq
  obtain ⟨σ2, hσ2⟩ : ∃ z, z = σ' := ⟨_, rfl⟩
  rw [← hσ2] at hR2 ⊢
  clear hσ2
  show j_at _ _ _ [(0, .ref 0), (1, .ref 5), (2, .ref 68), (3, j_i i)] [j_i r, j_i r] _ _ _ _
  exact a_same_eq (pc := 473) (off := 1151) (tgt := 1624) (by decide +kernel) (by decide) (j_more (by omega) (by omega) (kk _ _ hR2))
set_option maxHeartbeats 4000000 in
theorem w_8 {G : j_G} {X : k_X} {n : Nat} {σ : k_St} (hR : RR n σ) {i : Int} (hi : 0 ≤ i ∧ i + 6 < X.1) (hX : X.1 ≤ 1000000) (hr : ∀ j, -2147483648 ≤ k_rof X 0 j ∧ k_rof X 0 j ≤ 2147483647) {c sl : Nat} {Q : j_P} (kk : ∀ n' σ', RR n' σ' → j_at G mL_law 1624 [(0, .ref 0), (1, .ref 5), (2, .ref 68), (3, j_i i)] [] (k_h X n' σ') c sl Q) : j_at G mL_law 478 [(0, .ref 0), (1, .ref 5), (2, .ref 68), (3, j_i i)] [] (k_h X n σ) (c + 16) (sl + 1618) Q := by
  have hn := RR_n hR
  refine a_aload_n (pc := 478) (i := 1) (by decide +kernel) rfl ?_
  refine a_aload_n (pc := 479) (i := 0) (by decide +kernel) rfl ?_
  refine a_iload_n (pc := 480) (i := 3) (by decide +kernel) rfl ?_
  refine a_iconst (pc := 481) (n := 1) (by decide +kernel) ?_
  refine a_iadd (pc := 482) (by decide +kernel) ?_
  refine b_siload (pc := 483) (by decide +kernel) (sh_0 hn) (by decide) (by omega) hX ?_
  refine a_aload_n (pc := 484) (i := 0) (by decide +kernel) rfl ?_
  refine a_iload_n (pc := 485) (i := 3) (by decide +kernel) rfl ?_
  refine a_iconst (pc := 486) (n := 2) (by decide +kernel) ?_
  refine a_iadd (pc := 487) (by decide +kernel) ?_
  refine b_siload (pc := 488) (by decide +kernel) (sh_0 hn) (by decide) (by omega) hX ?_
  refine a_aload_n (pc := 489) (i := 0) (by decide +kernel) rfl ?_
  refine a_iload_n (pc := 490) (i := 3) (by decide +kernel) rfl ?_
  refine a_iconst (pc := 491) (n := 3) (by decide +kernel) ?_
  refine a_iadd (pc := 492) (by decide +kernel) ?_
  refine b_siload (pc := 493) (by decide +kernel) (sh_0 hn) (by decide) (by omega) hX ?_
  obtain ⟨P9, hP1, hP2⟩ := p_labelled (G := G) (X := X) hR (hr (i + 1)) (hr (i + 2)) (hr (i + 3))
  refine b_callV (pc := 494) (c' := 0) (sl' := 0) [j_i (k_rof X 0 (i + 1)), j_i (k_rof X 0 (i + 2)), j_i (k_rof X 0 (i + 3))] [] ml_L_49 (by decide +kernel) rfl rfl (sh_5 hn) rfl rfl (Nat.le_of_ble_eq_true rfl) (j_fitI rfl rfl) hP1 (fun v n' σ' hq => ?_)
  obtain ⟨hn2, r, rfl, hM9⟩ := hP2 _ _ _ hq
  obtain ⟨σ1, hσ1⟩ : ∃ z, z = σ' := ⟨_, rfl⟩
  rw [← hσ1] at hM9 ⊢
  clear hσ1
  have hn := hn2
  show j_at _ _ _ [(0, .ref 0), (1, .ref 5), (2, .ref 68), (3, j_i i)] [j_i r] _ _ _ _
  refine a_aload_n (pc := 497) (i := 2) (by decide +kernel) rfl ?_
  refine a_aload_n (pc := 498) (i := 0) (by decide +kernel) rfl ?_
  refine a_iload_n (pc := 499) (i := 3) (by decide +kernel) rfl ?_
  refine a_iconst (pc := 500) (n := 1) (by decide +kernel) ?_
  refine a_iadd (pc := 501) (by decide +kernel) ?_
  refine b_siload (pc := 502) (by decide +kernel) (sh_0 hn) (by decide) (by omega) hX ?_
  refine a_aload_n (pc := 503) (i := 0) (by decide +kernel) rfl ?_
  refine a_iload_n (pc := 504) (i := 3) (by decide +kernel) rfl ?_
  refine a_iconst (pc := 505) (n := 2) (by decide +kernel) ?_
  refine a_iadd (pc := 506) (by decide +kernel) ?_
  refine b_siload (pc := 507) (by decide +kernel) (sh_0 hn) (by decide) (by omega) hX ?_
  refine a_aload_n (pc := 508) (i := 0) (by decide +kernel) rfl ?_
  refine a_iload_n (pc := 509) (i := 3) (by decide +kernel) rfl ?_
  refine a_iconst (pc := 510) (n := 3) (by decide +kernel) ?_
  refine a_iadd (pc := 511) (by decide +kernel) ?_
  refine b_siload (pc := 512) (by decide +kernel) (sh_0 hn) (by decide) (by omega) hX ?_
  refine b_callV (pc := 513) (c' := 0) (sl' := 0) [j_i (k_rof X 0 (i + 1)), j_i (k_rof X 0 (i + 2)), j_i (k_rof X 0 (i + 3))] [j_i r] ml_L_52 (by decide +kernel) rfl rfl (sh_68 hn) rfl rfl (Nat.le_of_ble_eq_true rfl) (j_fitI rfl rfl) hM9 (fun v n' σ' hq => ?_)
  obtain ⟨rfl, hR2⟩ := hq
  obtain ⟨σ2, hσ2⟩ : ∃ z, z = σ' := ⟨_, rfl⟩
  rw [← hσ2] at hR2 ⊢
  clear hσ2
  show j_at _ _ _ [(0, .ref 0), (1, .ref 5), (2, .ref 68), (3, j_i i)] [j_i r, j_i r] _ _ _ _
  exact a_same_eq (pc := 516) (off := 1108) (tgt := 1624) (by decide +kernel) (by decide) (j_more (by omega) (by omega) (kk _ _ hR2))
set_option maxHeartbeats 4000000 in
theorem w_9 {G : j_G} {X : k_X} {n : Nat} {σ : k_St} (hR : RR n σ) {i : Int} (hi : 0 ≤ i ∧ i + 6 < X.1) (hX : X.1 ≤ 1000000) (hr : ∀ j, -2147483648 ≤ k_rof X 0 j ∧ k_rof X 0 j ≤ 2147483647) {c sl : Nat} {Q : j_P} (kk : ∀ n' σ', RR n' σ' → j_at G mL_law 1624 [(0, .ref 0), (1, .ref 5), (2, .ref 68), (3, j_i i)] [] (k_h X n' σ') c sl Q) : j_at G mL_law 521 [(0, .ref 0), (1, .ref 5), (2, .ref 68), (3, j_i i)] [] (k_h X n σ) (c + 16) (sl + 1618) Q := by
  have hn := RR_n hR
  refine a_aload_n (pc := 521) (i := 1) (by decide +kernel) rfl ?_
  refine a_aload_n (pc := 522) (i := 0) (by decide +kernel) rfl ?_
  refine a_iload_n (pc := 523) (i := 3) (by decide +kernel) rfl ?_
  refine a_iconst (pc := 524) (n := 1) (by decide +kernel) ?_
  refine a_iadd (pc := 525) (by decide +kernel) ?_
  refine b_siload (pc := 526) (by decide +kernel) (sh_0 hn) (by decide) (by omega) hX ?_
  refine a_i2l (pc := 527) (v := Int64.ofInt (k_rof X 0 (i + 1))) (by decide +kernel) (j_i2l (hr _)) ?_
  refine a_bipush (pc := 528) (n := 32) (by decide +kernel) rfl ?_
  refine a_lshl (pc := 530) (by decide +kernel) rfl ?_
  refine a_aload_n (pc := 531) (i := 0) (by decide +kernel) rfl ?_
  refine a_iload_n (pc := 532) (i := 3) (by decide +kernel) rfl ?_
  refine a_iconst (pc := 533) (n := 2) (by decide +kernel) ?_
  refine a_iadd (pc := 534) (by decide +kernel) ?_
  refine b_siload (pc := 535) (by decide +kernel) (sh_0 hn) (by decide) (by omega) hX ?_
  refine a_i2l (pc := 536) (v := Int64.ofInt (k_rof X 0 (i + 2))) (by decide +kernel) (j_i2l (hr _)) ?_
  refine a_ldc2_w (pc := 537) (n := 4294967295) (by decide +kernel) kc_L_53 ?_
  refine a_land (pc := 540) (by decide +kernel) ?_
  refine a_lor (pc := 541) (by decide +kernel) ?_
  refine a_aload_n (pc := 542) (i := 0) (by decide +kernel) rfl ?_
  refine a_iload_n (pc := 543) (i := 3) (by decide +kernel) rfl ?_
  refine a_iconst (pc := 544) (n := 3) (by decide +kernel) ?_
  refine a_iadd (pc := 545) (by decide +kernel) ?_
  refine b_siload (pc := 546) (by decide +kernel) (sh_0 hn) (by decide) (by omega) hX ?_
  obtain ⟨P9, hP1, hP2⟩ := p_name (G := G) (X := X) (w := ((Int64.ofInt (k_rof X 0 (i + 1)) <<< ((Int32.ofInt 32).toInt64 &&& 63)) ||| (Int64.ofInt (k_rof X 0 (i + 2)) &&& Int64.ofInt 4294967295))) hR (hr (i + 3))
  refine b_callV (pc := 547) (c' := 0) (sl' := 0) [.long ((Int64.ofInt (k_rof X 0 (i + 1)) <<< ((Int32.ofInt 32).toInt64 &&& 63)) ||| (Int64.ofInt (k_rof X 0 (i + 2)) &&& Int64.ofInt 4294967295)), j_i (k_rof X 0 (i + 3))] [] ml_L_55 (by decide +kernel) rfl rfl (sh_5 hn) rfl rfl (Nat.le_of_ble_eq_true rfl) (j_fitI rfl rfl) hP1 (fun v n' σ' hq => ?_)
  obtain ⟨hn2, r, rfl, hM9⟩ := hP2 _ _ _ hq
  obtain ⟨σ1, hσ1⟩ : ∃ z, z = σ' := ⟨_, rfl⟩
  rw [← hσ1] at hM9 ⊢
  clear hσ1
  have hn := hn2
  show j_at _ _ _ [(0, .ref 0), (1, .ref 5), (2, .ref 68), (3, j_i i)] [j_i r] _ _ _ _
  refine a_aload_n (pc := 550) (i := 2) (by decide +kernel) rfl ?_
  refine a_aload_n (pc := 551) (i := 0) (by decide +kernel) rfl ?_
  refine a_iload_n (pc := 552) (i := 3) (by decide +kernel) rfl ?_
  refine a_iconst (pc := 553) (n := 1) (by decide +kernel) ?_
  refine a_iadd (pc := 554) (by decide +kernel) ?_
  refine b_siload (pc := 555) (by decide +kernel) (sh_0 hn) (by decide) (by omega) hX ?_
  refine a_i2l (pc := 556) (v := Int64.ofInt (k_rof X 0 (i + 1))) (by decide +kernel) (j_i2l (hr _)) ?_
  refine a_bipush (pc := 557) (n := 32) (by decide +kernel) rfl ?_
  refine a_lshl (pc := 559) (by decide +kernel) rfl ?_
  refine a_aload_n (pc := 560) (i := 0) (by decide +kernel) rfl ?_
  refine a_iload_n (pc := 561) (i := 3) (by decide +kernel) rfl ?_
  refine a_iconst (pc := 562) (n := 2) (by decide +kernel) ?_
  refine a_iadd (pc := 563) (by decide +kernel) ?_
  refine b_siload (pc := 564) (by decide +kernel) (sh_0 hn) (by decide) (by omega) hX ?_
  refine a_i2l (pc := 565) (v := Int64.ofInt (k_rof X 0 (i + 2))) (by decide +kernel) (j_i2l (hr _)) ?_
  refine a_ldc2_w (pc := 566) (n := 4294967295) (by decide +kernel) kc_L_53 ?_
  refine a_land (pc := 569) (by decide +kernel) ?_
  refine a_lor (pc := 570) (by decide +kernel) ?_
  refine a_aload_n (pc := 571) (i := 0) (by decide +kernel) rfl ?_
  refine a_iload_n (pc := 572) (i := 3) (by decide +kernel) rfl ?_
  refine a_iconst (pc := 573) (n := 3) (by decide +kernel) ?_
  refine a_iadd (pc := 574) (by decide +kernel) ?_
  refine b_siload (pc := 575) (by decide +kernel) (sh_0 hn) (by decide) (by omega) hX ?_
  refine b_callV (pc := 576) (c' := 0) (sl' := 0) [.long ((Int64.ofInt (k_rof X 0 (i + 1)) <<< ((Int32.ofInt 32).toInt64 &&& 63)) ||| (Int64.ofInt (k_rof X 0 (i + 2)) &&& Int64.ofInt 4294967295)), j_i (k_rof X 0 (i + 3))] [j_i r] ml_L_59 (by decide +kernel) rfl rfl (sh_68 hn) rfl rfl (Nat.le_of_ble_eq_true rfl) (j_fitI rfl rfl) hM9 (fun v n' σ' hq => ?_)
  obtain ⟨rfl, hR2⟩ := hq
  obtain ⟨σ2, hσ2⟩ : ∃ z, z = σ' := ⟨_, rfl⟩
  rw [← hσ2] at hR2 ⊢
  clear hσ2
  show j_at _ _ _ [(0, .ref 0), (1, .ref 5), (2, .ref 68), (3, j_i i)] [j_i r, j_i r] _ _ _ _
  exact a_same_eq (pc := 579) (off := 1045) (tgt := 1624) (by decide +kernel) (by decide) (j_more (by omega) (by omega) (kk _ _ hR2))
set_option maxHeartbeats 4000000 in
theorem w_10 {G : j_G} {X : k_X} {n : Nat} {σ : k_St} (hR : RR n σ) {i : Int} (hi : 0 ≤ i ∧ i + 6 < X.1) (hX : X.1 ≤ 1000000) (hr : ∀ j, -2147483648 ≤ k_rof X 0 j ∧ k_rof X 0 j ≤ 2147483647) {c sl : Nat} {Q : j_P} (kk : ∀ n' σ', RR n' σ' → j_at G mL_law 1624 [(0, .ref 0), (1, .ref 5), (2, .ref 68), (3, j_i i)] [] (k_h X n' σ') c sl Q) : j_at G mL_law 584 [(0, .ref 0), (1, .ref 5), (2, .ref 68), (3, j_i i)] [] (k_h X n σ) (c + 16) (sl + 1618) Q := by
  have hn := RR_n hR
  refine a_aload_n (pc := 584) (i := 1) (by decide +kernel) rfl ?_
  obtain ⟨P9, hP1, hP2⟩ := p_unname (G := G) (X := X) hR 
  refine b_callV (pc := 585) (c' := 0) (sl' := 0) [] [] ml_L_60 (by decide +kernel) rfl rfl (sh_5 hn) rfl rfl (Nat.le_of_ble_eq_true rfl) (j_fitI rfl rfl) hP1 (fun v n' σ' hq => ?_)
  obtain ⟨hn2, r, rfl, hM9⟩ := hP2 _ _ _ hq
  obtain ⟨σ1, hσ1⟩ : ∃ z, z = σ' := ⟨_, rfl⟩
  rw [← hσ1] at hM9 ⊢
  clear hσ1
  have hn := hn2
  show j_at _ _ _ [(0, .ref 0), (1, .ref 5), (2, .ref 68), (3, j_i i)] [j_i r] _ _ _ _
  refine a_aload_n (pc := 588) (i := 2) (by decide +kernel) rfl ?_
  refine b_callV (pc := 589) (c' := 0) (sl' := 0) [] [j_i r] ml_L_64 (by decide +kernel) rfl rfl (sh_68 hn) rfl rfl (Nat.le_of_ble_eq_true rfl) (j_fitI rfl rfl) hM9 (fun v n' σ' hq => ?_)
  obtain ⟨rfl, hR2⟩ := hq
  obtain ⟨σ2, hσ2⟩ : ∃ z, z = σ' := ⟨_, rfl⟩
  rw [← hσ2] at hR2 ⊢
  clear hσ2
  show j_at _ _ _ [(0, .ref 0), (1, .ref 5), (2, .ref 68), (3, j_i i)] [j_i r, j_i r] _ _ _ _
  exact a_same_eq (pc := 592) (off := 1032) (tgt := 1624) (by decide +kernel) (by decide) (j_more (by omega) (by omega) (kk _ _ hR2))
set_option maxHeartbeats 4000000 in
theorem w_11 {G : j_G} {X : k_X} {n : Nat} {σ : k_St} (hR : RR n σ) {i : Int} (hi : 0 ≤ i ∧ i + 6 < X.1) (hX : X.1 ≤ 1000000) (hr : ∀ j, -2147483648 ≤ k_rof X 0 j ∧ k_rof X 0 j ≤ 2147483647) {c sl : Nat} {Q : j_P} (kk : ∀ n' σ', RR n' σ' → j_at G mL_law 1624 [(0, .ref 0), (1, .ref 5), (2, .ref 68), (3, j_i i)] [] (k_h X n' σ') c sl Q) : j_at G mL_law 597 [(0, .ref 0), (1, .ref 5), (2, .ref 68), (3, j_i i)] [] (k_h X n σ) (c + 16) (sl + 1618) Q := by
  have hn := RR_n hR
  refine a_aload_n (pc := 597) (i := 1) (by decide +kernel) rfl ?_
  obtain ⟨P9, hP1, hP2⟩ := p_head (G := G) (X := X) hR 
  refine b_callV (pc := 598) (c' := 16) (sl' := 1618) [] [] ml_L_65 (by decide +kernel) rfl rfl (sh_5 hn) rfl rfl (Nat.le_of_ble_eq_true rfl) (j_fitI rfl rfl) hP1 (fun v n' σ' hq => ?_)
  obtain ⟨hn2, r, rfl, hM9⟩ := hP2 _ _ _ hq
  obtain ⟨σ1, hσ1⟩ : ∃ z, z = σ' := ⟨_, rfl⟩
  rw [← hσ1] at hM9 ⊢
  clear hσ1
  have hn := hn2
  show j_at _ _ _ [(0, .ref 0), (1, .ref 5), (2, .ref 68), (3, j_i i)] [j_i r] _ _ _ _
  refine a_aload_n (pc := 601) (i := 2) (by decide +kernel) rfl ?_
  refine b_callV (pc := 602) (c' := 0) (sl' := 0) [] [j_i r] ml_L_68 (by decide +kernel) rfl rfl (sh_68 hn) rfl rfl (Nat.le_of_ble_eq_true rfl) (j_fitI rfl rfl) hM9 (fun v n' σ' hq => ?_)
  obtain ⟨rfl, hR2⟩ := hq
  obtain ⟨σ2, hσ2⟩ : ∃ z, z = σ' := ⟨_, rfl⟩
  rw [← hσ2] at hR2 ⊢
  clear hσ2
  show j_at _ _ _ [(0, .ref 0), (1, .ref 5), (2, .ref 68), (3, j_i i)] [j_i r, j_i r] _ _ _ _
  exact a_same_eq (pc := 605) (off := 1019) (tgt := 1624) (by decide +kernel) (by decide) (j_more (by omega) (by omega) (kk _ _ hR2))
set_option maxHeartbeats 4000000 in
theorem w_12 {G : j_G} {X : k_X} {n : Nat} {σ : k_St} (hR : RR n σ) {i : Int} (hi : 0 ≤ i ∧ i + 6 < X.1) (hX : X.1 ≤ 1000000) (hr : ∀ j, -2147483648 ≤ k_rof X 0 j ∧ k_rof X 0 j ≤ 2147483647) {c sl : Nat} {Q : j_P} (kk : ∀ n' σ', RR n' σ' → j_at G mL_law 1624 [(0, .ref 0), (1, .ref 5), (2, .ref 68), (3, j_i i)] [] (k_h X n' σ') c sl Q) : j_at G mL_law 610 [(0, .ref 0), (1, .ref 5), (2, .ref 68), (3, j_i i)] [] (k_h X n σ) (c + 16) (sl + 1618) Q := by
  have hn := RR_n hR
  refine a_aload_n (pc := 610) (i := 1) (by decide +kernel) rfl ?_
  refine a_aload_n (pc := 611) (i := 0) (by decide +kernel) rfl ?_
  refine a_iload_n (pc := 612) (i := 3) (by decide +kernel) rfl ?_
  refine a_iconst (pc := 613) (n := 1) (by decide +kernel) ?_
  refine a_iadd (pc := 614) (by decide +kernel) ?_
  refine b_siload (pc := 615) (by decide +kernel) (sh_0 hn) (by decide) (by omega) hX ?_
  obtain ⟨P9, hP1, hP2⟩ := p_sortAs (G := G) (X := X) hR (hr (i + 1))
  refine b_callV (pc := 616) (c' := 16) (sl' := 1618) [j_i (k_rof X 0 (i + 1))] [] ml_L_69 (by decide +kernel) rfl rfl (sh_5 hn) rfl rfl (Nat.le_of_ble_eq_true rfl) (j_fitI rfl rfl) hP1 (fun v n' σ' hq => ?_)
  obtain ⟨hn2, r, rfl, hM9⟩ := hP2 _ _ _ hq
  obtain ⟨σ1, hσ1⟩ : ∃ z, z = σ' := ⟨_, rfl⟩
  rw [← hσ1] at hM9 ⊢
  clear hσ1
  have hn := hn2
  show j_at _ _ _ [(0, .ref 0), (1, .ref 5), (2, .ref 68), (3, j_i i)] [j_i r] _ _ _ _
  refine a_aload_n (pc := 619) (i := 2) (by decide +kernel) rfl ?_
  refine a_aload_n (pc := 620) (i := 0) (by decide +kernel) rfl ?_
  refine a_iload_n (pc := 621) (i := 3) (by decide +kernel) rfl ?_
  refine a_iconst (pc := 622) (n := 1) (by decide +kernel) ?_
  refine a_iadd (pc := 623) (by decide +kernel) ?_
  refine b_siload (pc := 624) (by decide +kernel) (sh_0 hn) (by decide) (by omega) hX ?_
  refine b_callV (pc := 625) (c' := 0) (sl' := 0) [j_i (k_rof X 0 (i + 1))] [j_i r] ml_L_72 (by decide +kernel) rfl rfl (sh_68 hn) rfl rfl (Nat.le_of_ble_eq_true rfl) (j_fitI rfl rfl) hM9 (fun v n' σ' hq => ?_)
  obtain ⟨rfl, hR2⟩ := hq
  obtain ⟨σ2, hσ2⟩ : ∃ z, z = σ' := ⟨_, rfl⟩
  rw [← hσ2] at hR2 ⊢
  clear hσ2
  show j_at _ _ _ [(0, .ref 0), (1, .ref 5), (2, .ref 68), (3, j_i i)] [j_i r, j_i r] _ _ _ _
  exact a_same_eq (pc := 628) (off := 996) (tgt := 1624) (by decide +kernel) (by decide) (j_more (by omega) (by omega) (kk _ _ hR2))
set_option maxHeartbeats 4000000 in
theorem w_13 {G : j_G} {X : k_X} {n : Nat} {σ : k_St} (hR : RR n σ) {i : Int} (hi : 0 ≤ i ∧ i + 6 < X.1) (hX : X.1 ≤ 1000000) (hr : ∀ j, -2147483648 ≤ k_rof X 0 j ∧ k_rof X 0 j ≤ 2147483647) {c sl : Nat} {Q : j_P} (kk : ∀ n' σ', RR n' σ' → j_at G mL_law 1624 [(0, .ref 0), (1, .ref 5), (2, .ref 68), (3, j_i i)] [] (k_h X n' σ') c sl Q) : j_at G mL_law 633 [(0, .ref 0), (1, .ref 5), (2, .ref 68), (3, j_i i)] [] (k_h X n σ) (c + 16) (sl + 1618) Q := by
  have hn := RR_n hR
  refine a_aload_n (pc := 633) (i := 1) (by decide +kernel) rfl ?_
  obtain ⟨P9, hP1, hP2⟩ := p_pass (G := G) (X := X) hR 
  refine b_callV (pc := 634) (c' := 0) (sl' := 0) [] [] ml_L_73 (by decide +kernel) rfl rfl (sh_5 hn) rfl rfl (Nat.le_of_ble_eq_true rfl) (j_fitI rfl rfl) hP1 (fun v n' σ' hq => ?_)
  obtain ⟨hn2, r, rfl, hM9⟩ := hP2 _ _ _ hq
  obtain ⟨σ1, hσ1⟩ : ∃ z, z = σ' := ⟨_, rfl⟩
  rw [← hσ1] at hM9 ⊢
  clear hσ1
  have hn := hn2
  show j_at _ _ _ [(0, .ref 0), (1, .ref 5), (2, .ref 68), (3, j_i i)] [j_i r] _ _ _ _
  refine a_aload_n (pc := 637) (i := 2) (by decide +kernel) rfl ?_
  refine b_callV (pc := 638) (c' := 0) (sl' := 0) [] [j_i r] ml_L_76 (by decide +kernel) rfl rfl (sh_68 hn) rfl rfl (Nat.le_of_ble_eq_true rfl) (j_fitI rfl rfl) hM9 (fun v n' σ' hq => ?_)
  obtain ⟨rfl, hR2⟩ := hq
  obtain ⟨σ2, hσ2⟩ : ∃ z, z = σ' := ⟨_, rfl⟩
  rw [← hσ2] at hR2 ⊢
  clear hσ2
  show j_at _ _ _ [(0, .ref 0), (1, .ref 5), (2, .ref 68), (3, j_i i)] [j_i r, j_i r] _ _ _ _
  exact a_same_eq (pc := 641) (off := 983) (tgt := 1624) (by decide +kernel) (by decide) (j_more (by omega) (by omega) (kk _ _ hR2))
set_option maxHeartbeats 4000000 in
theorem w_14 {G : j_G} {X : k_X} {n : Nat} {σ : k_St} (hR : RR n σ) {i : Int} (hi : 0 ≤ i ∧ i + 6 < X.1) (hX : X.1 ≤ 1000000) (hr : ∀ j, -2147483648 ≤ k_rof X 0 j ∧ k_rof X 0 j ≤ 2147483647) {c sl : Nat} {Q : j_P} (kk : ∀ n' σ', RR n' σ' → j_at G mL_law 1624 [(0, .ref 0), (1, .ref 5), (2, .ref 68), (3, j_i i)] [] (k_h X n' σ') c sl Q) : j_at G mL_law 646 [(0, .ref 0), (1, .ref 5), (2, .ref 68), (3, j_i i)] [] (k_h X n σ) (c + 16) (sl + 1618) Q := by
  have hn := RR_n hR
  refine a_aload_n (pc := 646) (i := 1) (by decide +kernel) rfl ?_
  refine a_aload_n (pc := 647) (i := 0) (by decide +kernel) rfl ?_
  refine a_iload_n (pc := 648) (i := 3) (by decide +kernel) rfl ?_
  refine a_iconst (pc := 649) (n := 1) (by decide +kernel) ?_
  refine a_iadd (pc := 650) (by decide +kernel) ?_
  refine b_siload (pc := 651) (by decide +kernel) (sh_0 hn) (by decide) (by omega) hX ?_
  refine a_aload_n (pc := 652) (i := 0) (by decide +kernel) rfl ?_
  refine a_iload_n (pc := 653) (i := 3) (by decide +kernel) rfl ?_
  refine a_iconst (pc := 654) (n := 2) (by decide +kernel) ?_
  refine a_iadd (pc := 655) (by decide +kernel) ?_
  refine b_siload (pc := 656) (by decide +kernel) (sh_0 hn) (by decide) (by omega) hX ?_
  obtain ⟨P9, hP1, hP2⟩ := p_about (G := G) (X := X) hR (hr (i + 1)) (hr (i + 2))
  refine b_callV (pc := 657) (c' := 0) (sl' := 0) [j_i (k_rof X 0 (i + 1)), j_i (k_rof X 0 (i + 2))] [] ml_L_77 (by decide +kernel) rfl rfl (sh_5 hn) rfl rfl (Nat.le_of_ble_eq_true rfl) (j_fitI rfl rfl) hP1 (fun v n' σ' hq => ?_)
  obtain ⟨hn2, r, rfl, hM9⟩ := hP2 _ _ _ hq
  obtain ⟨σ1, hσ1⟩ : ∃ z, z = σ' := ⟨_, rfl⟩
  rw [← hσ1] at hM9 ⊢
  clear hσ1
  have hn := hn2
  show j_at _ _ _ [(0, .ref 0), (1, .ref 5), (2, .ref 68), (3, j_i i)] [j_i r] _ _ _ _
  refine a_aload_n (pc := 660) (i := 2) (by decide +kernel) rfl ?_
  refine a_aload_n (pc := 661) (i := 0) (by decide +kernel) rfl ?_
  refine a_iload_n (pc := 662) (i := 3) (by decide +kernel) rfl ?_
  refine a_iconst (pc := 663) (n := 1) (by decide +kernel) ?_
  refine a_iadd (pc := 664) (by decide +kernel) ?_
  refine b_siload (pc := 665) (by decide +kernel) (sh_0 hn) (by decide) (by omega) hX ?_
  refine a_aload_n (pc := 666) (i := 0) (by decide +kernel) rfl ?_
  refine a_iload_n (pc := 667) (i := 3) (by decide +kernel) rfl ?_
  refine a_iconst (pc := 668) (n := 2) (by decide +kernel) ?_
  refine a_iadd (pc := 669) (by decide +kernel) ?_
  refine b_siload (pc := 670) (by decide +kernel) (sh_0 hn) (by decide) (by omega) hX ?_
  refine b_callV (pc := 671) (c' := 0) (sl' := 0) [j_i (k_rof X 0 (i + 1)), j_i (k_rof X 0 (i + 2))] [j_i r] ml_L_80 (by decide +kernel) rfl rfl (sh_68 hn) rfl rfl (Nat.le_of_ble_eq_true rfl) (j_fitI rfl rfl) hM9 (fun v n' σ' hq => ?_)
  obtain ⟨rfl, hR2⟩ := hq
  obtain ⟨σ2, hσ2⟩ : ∃ z, z = σ' := ⟨_, rfl⟩
  rw [← hσ2] at hR2 ⊢
  clear hσ2
  show j_at _ _ _ [(0, .ref 0), (1, .ref 5), (2, .ref 68), (3, j_i i)] [j_i r, j_i r] _ _ _ _
  exact a_same_eq (pc := 674) (off := 950) (tgt := 1624) (by decide +kernel) (by decide) (j_more (by omega) (by omega) (kk _ _ hR2))
set_option maxHeartbeats 4000000 in
theorem w_15 {G : j_G} {X : k_X} {n : Nat} {σ : k_St} (hR : RR n σ) {i : Int} (hi : 0 ≤ i ∧ i + 6 < X.1) (hX : X.1 ≤ 1000000) (hr : ∀ j, -2147483648 ≤ k_rof X 0 j ∧ k_rof X 0 j ≤ 2147483647) {c sl : Nat} {Q : j_P} (kk : ∀ n' σ', RR n' σ' → j_at G mL_law 1624 [(0, .ref 0), (1, .ref 5), (2, .ref 68), (3, j_i i)] [] (k_h X n' σ') c sl Q) : j_at G mL_law 679 [(0, .ref 0), (1, .ref 5), (2, .ref 68), (3, j_i i)] [] (k_h X n σ) (c + 16) (sl + 1618) Q := by
  have hn := RR_n hR
  refine a_aload_n (pc := 679) (i := 1) (by decide +kernel) rfl ?_
  refine a_aload_n (pc := 680) (i := 0) (by decide +kernel) rfl ?_
  refine a_iload_n (pc := 681) (i := 3) (by decide +kernel) rfl ?_
  refine a_iconst (pc := 682) (n := 1) (by decide +kernel) ?_
  refine a_iadd (pc := 683) (by decide +kernel) ?_
  refine b_siload (pc := 684) (by decide +kernel) (sh_0 hn) (by decide) (by omega) hX ?_
  refine a_aload_n (pc := 685) (i := 0) (by decide +kernel) rfl ?_
  refine a_iload_n (pc := 686) (i := 3) (by decide +kernel) rfl ?_
  refine a_iconst (pc := 687) (n := 2) (by decide +kernel) ?_
  refine a_iadd (pc := 688) (by decide +kernel) ?_
  refine b_siload (pc := 689) (by decide +kernel) (sh_0 hn) (by decide) (by omega) hX ?_
  refine a_aload_n (pc := 690) (i := 0) (by decide +kernel) rfl ?_
  refine a_iload_n (pc := 691) (i := 3) (by decide +kernel) rfl ?_
  refine a_iconst (pc := 692) (n := 3) (by decide +kernel) ?_
  refine a_iadd (pc := 693) (by decide +kernel) ?_
  refine b_siload (pc := 694) (by decide +kernel) (sh_0 hn) (by decide) (by omega) hX ?_
  obtain ⟨P9, hP1, hP2⟩ := p_sign (G := G) (X := X) hR (hr (i + 1)) (hr (i + 2)) (hr (i + 3))
  refine b_callV (pc := 695) (c' := 0) (sl' := 0) [j_i (k_rof X 0 (i + 1)), j_i (k_rof X 0 (i + 2)), j_i (k_rof X 0 (i + 3))] [] ml_L_81 (by decide +kernel) rfl rfl (sh_5 hn) rfl rfl (Nat.le_of_ble_eq_true rfl) (j_fitI rfl rfl) hP1 (fun v n' σ' hq => ?_)
  obtain ⟨hn2, r, rfl, hM9⟩ := hP2 _ _ _ hq
  obtain ⟨σ1, hσ1⟩ : ∃ z, z = σ' := ⟨_, rfl⟩
  rw [← hσ1] at hM9 ⊢
  clear hσ1
  have hn := hn2
  show j_at _ _ _ [(0, .ref 0), (1, .ref 5), (2, .ref 68), (3, j_i i)] [j_i r] _ _ _ _
  refine a_aload_n (pc := 698) (i := 2) (by decide +kernel) rfl ?_
  refine a_aload_n (pc := 699) (i := 0) (by decide +kernel) rfl ?_
  refine a_iload_n (pc := 700) (i := 3) (by decide +kernel) rfl ?_
  refine a_iconst (pc := 701) (n := 1) (by decide +kernel) ?_
  refine a_iadd (pc := 702) (by decide +kernel) ?_
  refine b_siload (pc := 703) (by decide +kernel) (sh_0 hn) (by decide) (by omega) hX ?_
  refine a_aload_n (pc := 704) (i := 0) (by decide +kernel) rfl ?_
  refine a_iload_n (pc := 705) (i := 3) (by decide +kernel) rfl ?_
  refine a_iconst (pc := 706) (n := 2) (by decide +kernel) ?_
  refine a_iadd (pc := 707) (by decide +kernel) ?_
  refine b_siload (pc := 708) (by decide +kernel) (sh_0 hn) (by decide) (by omega) hX ?_
  refine a_aload_n (pc := 709) (i := 0) (by decide +kernel) rfl ?_
  refine a_iload_n (pc := 710) (i := 3) (by decide +kernel) rfl ?_
  refine a_iconst (pc := 711) (n := 3) (by decide +kernel) ?_
  refine a_iadd (pc := 712) (by decide +kernel) ?_
  refine b_siload (pc := 713) (by decide +kernel) (sh_0 hn) (by decide) (by omega) hX ?_
  refine b_callV (pc := 714) (c' := 0) (sl' := 0) [j_i (k_rof X 0 (i + 1)), j_i (k_rof X 0 (i + 2)), j_i (k_rof X 0 (i + 3))] [j_i r] ml_L_84 (by decide +kernel) rfl rfl (sh_68 hn) rfl rfl (Nat.le_of_ble_eq_true rfl) (j_fitI rfl rfl) hM9 (fun v n' σ' hq => ?_)
  obtain ⟨rfl, hR2⟩ := hq
  obtain ⟨σ2, hσ2⟩ : ∃ z, z = σ' := ⟨_, rfl⟩
  rw [← hσ2] at hR2 ⊢
  clear hσ2
  show j_at _ _ _ [(0, .ref 0), (1, .ref 5), (2, .ref 68), (3, j_i i)] [j_i r, j_i r] _ _ _ _
  exact a_same_eq (pc := 717) (off := 907) (tgt := 1624) (by decide +kernel) (by decide) (j_more (by omega) (by omega) (kk _ _ hR2))
set_option maxHeartbeats 4000000 in
theorem w_16 {G : j_G} {X : k_X} {n : Nat} {σ : k_St} (hR : RR n σ) {i : Int} (hi : 0 ≤ i ∧ i + 6 < X.1) (hX : X.1 ≤ 1000000) (hr : ∀ j, -2147483648 ≤ k_rof X 0 j ∧ k_rof X 0 j ≤ 2147483647) {c sl : Nat} {Q : j_P} (kk : ∀ n' σ', RR n' σ' → j_at G mL_law 1624 [(0, .ref 0), (1, .ref 5), (2, .ref 68), (3, j_i i)] [] (k_h X n' σ') c sl Q) : j_at G mL_law 722 [(0, .ref 0), (1, .ref 5), (2, .ref 68), (3, j_i i)] [] (k_h X n σ) (c + 16) (sl + 1618) Q := by
  have hn := RR_n hR
  refine a_aload_n (pc := 722) (i := 1) (by decide +kernel) rfl ?_
  refine a_aload_n (pc := 723) (i := 0) (by decide +kernel) rfl ?_
  refine a_iload_n (pc := 724) (i := 3) (by decide +kernel) rfl ?_
  refine a_iconst (pc := 725) (n := 1) (by decide +kernel) ?_
  refine a_iadd (pc := 726) (by decide +kernel) ?_
  refine b_siload (pc := 727) (by decide +kernel) (sh_0 hn) (by decide) (by omega) hX ?_
  refine a_aload_n (pc := 728) (i := 0) (by decide +kernel) rfl ?_
  refine a_iload_n (pc := 729) (i := 3) (by decide +kernel) rfl ?_
  refine a_iconst (pc := 730) (n := 2) (by decide +kernel) ?_
  refine a_iadd (pc := 731) (by decide +kernel) ?_
  refine b_siload (pc := 732) (by decide +kernel) (sh_0 hn) (by decide) (by omega) hX ?_
  refine a_aload_n (pc := 733) (i := 0) (by decide +kernel) rfl ?_
  refine a_iload_n (pc := 734) (i := 3) (by decide +kernel) rfl ?_
  refine a_iconst (pc := 735) (n := 3) (by decide +kernel) ?_
  refine a_iadd (pc := 736) (by decide +kernel) ?_
  refine b_siload (pc := 737) (by decide +kernel) (sh_0 hn) (by decide) (by omega) hX ?_
  obtain ⟨P9, hP1, hP2⟩ := p_compare (G := G) (X := X) hR (hr (i + 1)) (hr (i + 2)) (hr (i + 3))
  refine b_callV (pc := 738) (c' := 0) (sl' := 0) [j_i (k_rof X 0 (i + 1)), j_i (k_rof X 0 (i + 2)), j_i (k_rof X 0 (i + 3))] [] ml_L_85 (by decide +kernel) rfl rfl (sh_5 hn) rfl rfl (Nat.le_of_ble_eq_true rfl) (j_fitI rfl rfl) hP1 (fun v n' σ' hq => ?_)
  obtain ⟨hn2, r, rfl, hM9⟩ := hP2 _ _ _ hq
  obtain ⟨σ1, hσ1⟩ : ∃ z, z = σ' := ⟨_, rfl⟩
  rw [← hσ1] at hM9 ⊢
  clear hσ1
  have hn := hn2
  show j_at _ _ _ [(0, .ref 0), (1, .ref 5), (2, .ref 68), (3, j_i i)] [j_i r] _ _ _ _
  refine a_aload_n (pc := 741) (i := 2) (by decide +kernel) rfl ?_
  refine a_aload_n (pc := 742) (i := 0) (by decide +kernel) rfl ?_
  refine a_iload_n (pc := 743) (i := 3) (by decide +kernel) rfl ?_
  refine a_iconst (pc := 744) (n := 1) (by decide +kernel) ?_
  refine a_iadd (pc := 745) (by decide +kernel) ?_
  refine b_siload (pc := 746) (by decide +kernel) (sh_0 hn) (by decide) (by omega) hX ?_
  refine a_aload_n (pc := 747) (i := 0) (by decide +kernel) rfl ?_
  refine a_iload_n (pc := 748) (i := 3) (by decide +kernel) rfl ?_
  refine a_iconst (pc := 749) (n := 2) (by decide +kernel) ?_
  refine a_iadd (pc := 750) (by decide +kernel) ?_
  refine b_siload (pc := 751) (by decide +kernel) (sh_0 hn) (by decide) (by omega) hX ?_
  refine a_aload_n (pc := 752) (i := 0) (by decide +kernel) rfl ?_
  refine a_iload_n (pc := 753) (i := 3) (by decide +kernel) rfl ?_
  refine a_iconst (pc := 754) (n := 3) (by decide +kernel) ?_
  refine a_iadd (pc := 755) (by decide +kernel) ?_
  refine b_siload (pc := 756) (by decide +kernel) (sh_0 hn) (by decide) (by omega) hX ?_
  refine b_callV (pc := 757) (c' := 0) (sl' := 0) [j_i (k_rof X 0 (i + 1)), j_i (k_rof X 0 (i + 2)), j_i (k_rof X 0 (i + 3))] [j_i r] ml_L_88 (by decide +kernel) rfl rfl (sh_68 hn) rfl rfl (Nat.le_of_ble_eq_true rfl) (j_fitI rfl rfl) hM9 (fun v n' σ' hq => ?_)
  obtain ⟨rfl, hR2⟩ := hq
  obtain ⟨σ2, hσ2⟩ : ∃ z, z = σ' := ⟨_, rfl⟩
  rw [← hσ2] at hR2 ⊢
  clear hσ2
  show j_at _ _ _ [(0, .ref 0), (1, .ref 5), (2, .ref 68), (3, j_i i)] [j_i r, j_i r] _ _ _ _
  exact a_same_eq (pc := 760) (off := 864) (tgt := 1624) (by decide +kernel) (by decide) (j_more (by omega) (by omega) (kk _ _ hR2))
set_option maxHeartbeats 4000000 in
theorem w_17 {G : j_G} {X : k_X} {n : Nat} {σ : k_St} (hR : RR n σ) {i : Int} (hi : 0 ≤ i ∧ i + 6 < X.1) (hX : X.1 ≤ 1000000) (hr : ∀ j, -2147483648 ≤ k_rof X 0 j ∧ k_rof X 0 j ≤ 2147483647) {c sl : Nat} {Q : j_P} (kk : ∀ n' σ', RR n' σ' → j_at G mL_law 1624 [(0, .ref 0), (1, .ref 5), (2, .ref 68), (3, j_i i)] [] (k_h X n' σ') c sl Q) : j_at G mL_law 765 [(0, .ref 0), (1, .ref 5), (2, .ref 68), (3, j_i i)] [] (k_h X n σ) (c + 16) (sl + 1618) Q := by
  have hn := RR_n hR
  refine a_aload_n (pc := 765) (i := 1) (by decide +kernel) rfl ?_
  refine a_aload_n (pc := 766) (i := 0) (by decide +kernel) rfl ?_
  refine a_iload_n (pc := 767) (i := 3) (by decide +kernel) rfl ?_
  refine a_iconst (pc := 768) (n := 1) (by decide +kernel) ?_
  refine a_iadd (pc := 769) (by decide +kernel) ?_
  refine b_siload (pc := 770) (by decide +kernel) (sh_0 hn) (by decide) (by omega) hX ?_
  obtain ⟨P9, hP1, hP2⟩ := p_rename (G := G) (X := X) hR (hr (i + 1))
  refine b_callV (pc := 771) (c' := 16) (sl' := 1618) [j_i (k_rof X 0 (i + 1))] [] ml_L_89 (by decide +kernel) rfl rfl (sh_5 hn) rfl rfl (Nat.le_of_ble_eq_true rfl) (j_fitI rfl rfl) hP1 (fun v n' σ' hq => ?_)
  obtain ⟨hn2, r, rfl, hM9⟩ := hP2 _ _ _ hq
  obtain ⟨σ1, hσ1⟩ : ∃ z, z = σ' := ⟨_, rfl⟩
  rw [← hσ1] at hM9 ⊢
  clear hσ1
  have hn := hn2
  show j_at _ _ _ [(0, .ref 0), (1, .ref 5), (2, .ref 68), (3, j_i i)] [j_i r] _ _ _ _
  refine a_aload_n (pc := 774) (i := 2) (by decide +kernel) rfl ?_
  refine a_aload_n (pc := 775) (i := 0) (by decide +kernel) rfl ?_
  refine a_iload_n (pc := 776) (i := 3) (by decide +kernel) rfl ?_
  refine a_iconst (pc := 777) (n := 1) (by decide +kernel) ?_
  refine a_iadd (pc := 778) (by decide +kernel) ?_
  refine b_siload (pc := 779) (by decide +kernel) (sh_0 hn) (by decide) (by omega) hX ?_
  refine b_callV (pc := 780) (c' := 0) (sl' := 0) [j_i (k_rof X 0 (i + 1))] [j_i r] ml_L_92 (by decide +kernel) rfl rfl (sh_68 hn) rfl rfl (Nat.le_of_ble_eq_true rfl) (j_fitI rfl rfl) hM9 (fun v n' σ' hq => ?_)
  obtain ⟨rfl, hR2⟩ := hq
  obtain ⟨σ2, hσ2⟩ : ∃ z, z = σ' := ⟨_, rfl⟩
  rw [← hσ2] at hR2 ⊢
  clear hσ2
  show j_at _ _ _ [(0, .ref 0), (1, .ref 5), (2, .ref 68), (3, j_i i)] [j_i r, j_i r] _ _ _ _
  exact a_same_eq (pc := 783) (off := 841) (tgt := 1624) (by decide +kernel) (by decide) (j_more (by omega) (by omega) (kk _ _ hR2))
set_option maxHeartbeats 4000000 in
theorem w_18 {G : j_G} {X : k_X} {n : Nat} {σ : k_St} (hR : RR n σ) {i : Int} (hi : 0 ≤ i ∧ i + 6 < X.1) (hX : X.1 ≤ 1000000) (hr : ∀ j, -2147483648 ≤ k_rof X 0 j ∧ k_rof X 0 j ≤ 2147483647) {c sl : Nat} {Q : j_P} (kk : ∀ n' σ', RR n' σ' → j_at G mL_law 1624 [(0, .ref 0), (1, .ref 5), (2, .ref 68), (3, j_i i)] [] (k_h X n' σ') c sl Q) : j_at G mL_law 788 [(0, .ref 0), (1, .ref 5), (2, .ref 68), (3, j_i i)] [] (k_h X n σ) (c + 16) (sl + 1618) Q := by
  have hn := RR_n hR
  refine a_aload_n (pc := 788) (i := 1) (by decide +kernel) rfl ?_
  refine a_aload_n (pc := 789) (i := 0) (by decide +kernel) rfl ?_
  refine a_iload_n (pc := 790) (i := 3) (by decide +kernel) rfl ?_
  refine a_iconst (pc := 791) (n := 1) (by decide +kernel) ?_
  refine a_iadd (pc := 792) (by decide +kernel) ?_
  refine b_siload (pc := 793) (by decide +kernel) (sh_0 hn) (by decide) (by omega) hX ?_
  refine a_aload_n (pc := 794) (i := 0) (by decide +kernel) rfl ?_
  refine a_iload_n (pc := 795) (i := 3) (by decide +kernel) rfl ?_
  refine a_iconst (pc := 796) (n := 2) (by decide +kernel) ?_
  refine a_iadd (pc := 797) (by decide +kernel) ?_
  refine b_siload (pc := 798) (by decide +kernel) (sh_0 hn) (by decide) (by omega) hX ?_
  obtain ⟨P9, hP1, hP2⟩ := p_meld (G := G) (X := X) hR (hr (i + 1)) (hr (i + 2))
  refine b_callV (pc := 799) (c' := 16) (sl' := 1618) [j_i (k_rof X 0 (i + 1)), j_i (k_rof X 0 (i + 2))] [] ml_L_93 (by decide +kernel) rfl rfl (sh_5 hn) rfl rfl (Nat.le_of_ble_eq_true rfl) (j_fitI rfl rfl) hP1 (fun v n' σ' hq => ?_)
  obtain ⟨hn2, r, rfl, hM9⟩ := hP2 _ _ _ hq
  obtain ⟨σ1, hσ1⟩ : ∃ z, z = σ' := ⟨_, rfl⟩
  rw [← hσ1] at hM9 ⊢
  clear hσ1
  have hn := hn2
  show j_at _ _ _ [(0, .ref 0), (1, .ref 5), (2, .ref 68), (3, j_i i)] [j_i r] _ _ _ _
  refine a_aload_n (pc := 802) (i := 2) (by decide +kernel) rfl ?_
  refine a_aload_n (pc := 803) (i := 0) (by decide +kernel) rfl ?_
  refine a_iload_n (pc := 804) (i := 3) (by decide +kernel) rfl ?_
  refine a_iconst (pc := 805) (n := 1) (by decide +kernel) ?_
  refine a_iadd (pc := 806) (by decide +kernel) ?_
  refine b_siload (pc := 807) (by decide +kernel) (sh_0 hn) (by decide) (by omega) hX ?_
  refine a_aload_n (pc := 808) (i := 0) (by decide +kernel) rfl ?_
  refine a_iload_n (pc := 809) (i := 3) (by decide +kernel) rfl ?_
  refine a_iconst (pc := 810) (n := 2) (by decide +kernel) ?_
  refine a_iadd (pc := 811) (by decide +kernel) ?_
  refine b_siload (pc := 812) (by decide +kernel) (sh_0 hn) (by decide) (by omega) hX ?_
  refine b_callV (pc := 813) (c' := 0) (sl' := 0) [j_i (k_rof X 0 (i + 1)), j_i (k_rof X 0 (i + 2))] [j_i r] ml_L_96 (by decide +kernel) rfl rfl (sh_68 hn) rfl rfl (Nat.le_of_ble_eq_true rfl) (j_fitI rfl rfl) hM9 (fun v n' σ' hq => ?_)
  obtain ⟨rfl, hR2⟩ := hq
  obtain ⟨σ2, hσ2⟩ : ∃ z, z = σ' := ⟨_, rfl⟩
  rw [← hσ2] at hR2 ⊢
  clear hσ2
  show j_at _ _ _ [(0, .ref 0), (1, .ref 5), (2, .ref 68), (3, j_i i)] [j_i r, j_i r] _ _ _ _
  exact a_same_eq (pc := 816) (off := 808) (tgt := 1624) (by decide +kernel) (by decide) (j_more (by omega) (by omega) (kk _ _ hR2))
set_option maxHeartbeats 4000000 in
theorem w_19 {G : j_G} {X : k_X} {n : Nat} {σ : k_St} (hR : RR n σ) {i : Int} (hi : 0 ≤ i ∧ i + 6 < X.1) (hX : X.1 ≤ 1000000) (hr : ∀ j, -2147483648 ≤ k_rof X 0 j ∧ k_rof X 0 j ≤ 2147483647) {c sl : Nat} {Q : j_P} (kk : ∀ n' σ', RR n' σ' → j_at G mL_law 1624 [(0, .ref 0), (1, .ref 5), (2, .ref 68), (3, j_i i)] [] (k_h X n' σ') c sl Q) : j_at G mL_law 821 [(0, .ref 0), (1, .ref 5), (2, .ref 68), (3, j_i i)] [] (k_h X n σ) (c + 16) (sl + 1618) Q := by
  have hn := RR_n hR
  refine a_aload_n (pc := 821) (i := 1) (by decide +kernel) rfl ?_
  refine a_aload_n (pc := 822) (i := 0) (by decide +kernel) rfl ?_
  refine a_iload_n (pc := 823) (i := 3) (by decide +kernel) rfl ?_
  refine a_iconst (pc := 824) (n := 1) (by decide +kernel) ?_
  refine a_iadd (pc := 825) (by decide +kernel) ?_
  refine b_siload (pc := 826) (by decide +kernel) (sh_0 hn) (by decide) (by omega) hX ?_
  refine a_aload_n (pc := 827) (i := 0) (by decide +kernel) rfl ?_
  refine a_iload_n (pc := 828) (i := 3) (by decide +kernel) rfl ?_
  refine a_iconst (pc := 829) (n := 2) (by decide +kernel) ?_
  refine a_iadd (pc := 830) (by decide +kernel) ?_
  refine b_siload (pc := 831) (by decide +kernel) (sh_0 hn) (by decide) (by omega) hX ?_
  refine a_aload_n (pc := 832) (i := 0) (by decide +kernel) rfl ?_
  refine a_iload_n (pc := 833) (i := 3) (by decide +kernel) rfl ?_
  refine a_iconst (pc := 834) (n := 3) (by decide +kernel) ?_
  refine a_iadd (pc := 835) (by decide +kernel) ?_
  refine b_siload (pc := 836) (by decide +kernel) (sh_0 hn) (by decide) (by omega) hX ?_
  refine a_aload_n (pc := 837) (i := 0) (by decide +kernel) rfl ?_
  refine a_iload_n (pc := 838) (i := 3) (by decide +kernel) rfl ?_
  refine a_iconst (pc := 839) (n := 4) (by decide +kernel) ?_
  refine a_iadd (pc := 840) (by decide +kernel) ?_
  refine b_siload (pc := 841) (by decide +kernel) (sh_0 hn) (by decide) (by omega) hX ?_
  refine a_aload_n (pc := 842) (i := 0) (by decide +kernel) rfl ?_
  refine a_iload_n (pc := 843) (i := 3) (by decide +kernel) rfl ?_
  refine a_iconst (pc := 844) (n := 5) (by decide +kernel) ?_
  refine a_iadd (pc := 845) (by decide +kernel) ?_
  refine b_siload (pc := 846) (by decide +kernel) (sh_0 hn) (by decide) (by omega) hX ?_
  refine a_aload_n (pc := 847) (i := 0) (by decide +kernel) rfl ?_
  refine a_iload_n (pc := 848) (i := 3) (by decide +kernel) rfl ?_
  refine a_bipush (pc := 849) (n := 6) (by decide +kernel) rfl ?_
  refine a_iadd (pc := 851) (by decide +kernel) ?_
  refine b_siload (pc := 852) (by decide +kernel) (sh_0 hn) (by decide) (by omega) hX ?_
  obtain ⟨P9, hP1, hP2⟩ := p_mark (G := G) (X := X) hR (hr (i + 1)) (hr (i + 2)) (hr (i + 3)) (hr (i + 4)) (hr (i + 5)) (hr (i + 6))
  refine b_callV (pc := 853) (c' := 16) (sl' := 1618) [j_i (k_rof X 0 (i + 1)), j_i (k_rof X 0 (i + 2)), j_i (k_rof X 0 (i + 3)), j_i (k_rof X 0 (i + 4)), j_i (k_rof X 0 (i + 5)), j_i (k_rof X 0 (i + 6))] [] ml_L_97 (by decide +kernel) rfl rfl (sh_5 hn) rfl rfl (Nat.le_of_ble_eq_true rfl) (j_fitI rfl rfl) hP1 (fun v n' σ' hq => ?_)
  obtain ⟨hn2, r, rfl, hM9⟩ := hP2 _ _ _ hq
  obtain ⟨σ1, hσ1⟩ : ∃ z, z = σ' := ⟨_, rfl⟩
  rw [← hσ1] at hM9 ⊢
  clear hσ1
  have hn := hn2
  show j_at _ _ _ [(0, .ref 0), (1, .ref 5), (2, .ref 68), (3, j_i i)] [j_i r] _ _ _ _
  refine a_aload_n (pc := 856) (i := 2) (by decide +kernel) rfl ?_
  refine a_aload_n (pc := 857) (i := 0) (by decide +kernel) rfl ?_
  refine a_iload_n (pc := 858) (i := 3) (by decide +kernel) rfl ?_
  refine a_iconst (pc := 859) (n := 1) (by decide +kernel) ?_
  refine a_iadd (pc := 860) (by decide +kernel) ?_
  refine b_siload (pc := 861) (by decide +kernel) (sh_0 hn) (by decide) (by omega) hX ?_
  refine a_aload_n (pc := 862) (i := 0) (by decide +kernel) rfl ?_
  refine a_iload_n (pc := 863) (i := 3) (by decide +kernel) rfl ?_
  refine a_iconst (pc := 864) (n := 2) (by decide +kernel) ?_
  refine a_iadd (pc := 865) (by decide +kernel) ?_
  refine b_siload (pc := 866) (by decide +kernel) (sh_0 hn) (by decide) (by omega) hX ?_
  refine a_aload_n (pc := 867) (i := 0) (by decide +kernel) rfl ?_
  refine a_iload_n (pc := 868) (i := 3) (by decide +kernel) rfl ?_
  refine a_iconst (pc := 869) (n := 3) (by decide +kernel) ?_
  refine a_iadd (pc := 870) (by decide +kernel) ?_
  refine b_siload (pc := 871) (by decide +kernel) (sh_0 hn) (by decide) (by omega) hX ?_
  refine a_aload_n (pc := 872) (i := 0) (by decide +kernel) rfl ?_
  refine a_iload_n (pc := 873) (i := 3) (by decide +kernel) rfl ?_
  refine a_iconst (pc := 874) (n := 4) (by decide +kernel) ?_
  refine a_iadd (pc := 875) (by decide +kernel) ?_
  refine b_siload (pc := 876) (by decide +kernel) (sh_0 hn) (by decide) (by omega) hX ?_
  refine a_aload_n (pc := 877) (i := 0) (by decide +kernel) rfl ?_
  refine a_iload_n (pc := 878) (i := 3) (by decide +kernel) rfl ?_
  refine a_iconst (pc := 879) (n := 5) (by decide +kernel) ?_
  refine a_iadd (pc := 880) (by decide +kernel) ?_
  refine b_siload (pc := 881) (by decide +kernel) (sh_0 hn) (by decide) (by omega) hX ?_
  refine a_aload_n (pc := 882) (i := 0) (by decide +kernel) rfl ?_
  refine a_iload_n (pc := 883) (i := 3) (by decide +kernel) rfl ?_
  refine a_bipush (pc := 884) (n := 6) (by decide +kernel) rfl ?_
  refine a_iadd (pc := 886) (by decide +kernel) ?_
  refine b_siload (pc := 887) (by decide +kernel) (sh_0 hn) (by decide) (by omega) hX ?_
  refine b_callV (pc := 888) (c' := 0) (sl' := 0) [j_i (k_rof X 0 (i + 1)), j_i (k_rof X 0 (i + 2)), j_i (k_rof X 0 (i + 3)), j_i (k_rof X 0 (i + 4)), j_i (k_rof X 0 (i + 5)), j_i (k_rof X 0 (i + 6))] [j_i r] ml_L_101 (by decide +kernel) rfl rfl (sh_68 hn) rfl rfl (Nat.le_of_ble_eq_true rfl) (j_fitI rfl rfl) hM9 (fun v n' σ' hq => ?_)
  obtain ⟨rfl, hR2⟩ := hq
  obtain ⟨σ2, hσ2⟩ : ∃ z, z = σ' := ⟨_, rfl⟩
  rw [← hσ2] at hR2 ⊢
  clear hσ2
  show j_at _ _ _ [(0, .ref 0), (1, .ref 5), (2, .ref 68), (3, j_i i)] [j_i r, j_i r] _ _ _ _
  exact a_same_eq (pc := 891) (off := 733) (tgt := 1624) (by decide +kernel) (by decide) (j_more (by omega) (by omega) (kk _ _ hR2))
set_option maxHeartbeats 4000000 in
theorem w_20 {G : j_G} {X : k_X} {n : Nat} {σ : k_St} (hR : RR n σ) {i : Int} (hi : 0 ≤ i ∧ i + 6 < X.1) (hX : X.1 ≤ 1000000) (hr : ∀ j, -2147483648 ≤ k_rof X 0 j ∧ k_rof X 0 j ≤ 2147483647) {c sl : Nat} {Q : j_P} (kk : ∀ n' σ', RR n' σ' → j_at G mL_law 1624 [(0, .ref 0), (1, .ref 5), (2, .ref 68), (3, j_i i)] [] (k_h X n' σ') c sl Q) : j_at G mL_law 896 [(0, .ref 0), (1, .ref 5), (2, .ref 68), (3, j_i i)] [] (k_h X n σ) (c + 16) (sl + 1618) Q := by
  have hn := RR_n hR
  refine a_aload_n (pc := 896) (i := 1) (by decide +kernel) rfl ?_
  refine a_aload_n (pc := 897) (i := 0) (by decide +kernel) rfl ?_
  refine a_iload_n (pc := 898) (i := 3) (by decide +kernel) rfl ?_
  refine a_iconst (pc := 899) (n := 1) (by decide +kernel) ?_
  refine a_iadd (pc := 900) (by decide +kernel) ?_
  refine b_siload (pc := 901) (by decide +kernel) (sh_0 hn) (by decide) (by omega) hX ?_
  refine a_aload_n (pc := 902) (i := 0) (by decide +kernel) rfl ?_
  refine a_iload_n (pc := 903) (i := 3) (by decide +kernel) rfl ?_
  refine a_iconst (pc := 904) (n := 2) (by decide +kernel) ?_
  refine a_iadd (pc := 905) (by decide +kernel) ?_
  refine b_siload (pc := 906) (by decide +kernel) (sh_0 hn) (by decide) (by omega) hX ?_
  refine a_aload_n (pc := 907) (i := 0) (by decide +kernel) rfl ?_
  refine a_iload_n (pc := 908) (i := 3) (by decide +kernel) rfl ?_
  refine a_iconst (pc := 909) (n := 3) (by decide +kernel) ?_
  refine a_iadd (pc := 910) (by decide +kernel) ?_
  refine b_siload (pc := 911) (by decide +kernel) (sh_0 hn) (by decide) (by omega) hX ?_
  refine a_aload_n (pc := 912) (i := 0) (by decide +kernel) rfl ?_
  refine a_iload_n (pc := 913) (i := 3) (by decide +kernel) rfl ?_
  refine a_iconst (pc := 914) (n := 4) (by decide +kernel) ?_
  refine a_iadd (pc := 915) (by decide +kernel) ?_
  refine b_siload (pc := 916) (by decide +kernel) (sh_0 hn) (by decide) (by omega) hX ?_
  refine a_if_eq (pc := 917) (off := 7) (tgt := 924) (by decide +kernel) (by decide) (hr _) (fun c917 => ?_) (fun c917 => ?_)
  · refine a_iconst (pc := 924) (n := 0) (by decide +kernel) ?_
    obtain ⟨P9, hP1, hP2⟩ := p_see (G := G) (X := X) hR (hr (i + 1)) (hr (i + 2)) (hr (i + 3)) (Or.inl rfl)
    refine b_callV (pc := 925) (c' := 16) (sl' := 1618) [j_i (k_rof X 0 (i + 1)), j_i (k_rof X 0 (i + 2)), j_i (k_rof X 0 (i + 3)), j_i 0] [] ml_L_102 (by decide +kernel) rfl rfl (sh_5 hn) rfl rfl (Nat.le_of_ble_eq_true rfl) (j_fitI rfl rfl) hP1 (fun v n' σ' hq => ?_)
    obtain ⟨hn2, r, rfl, hM9⟩ := hP2 _ _ _ hq
    obtain ⟨σ1, hσ1⟩ : ∃ z, z = σ' := ⟨_, rfl⟩
    rw [← hσ1] at hM9 ⊢
    clear hσ1
    have hn := hn2
    show j_at _ _ _ [(0, .ref 0), (1, .ref 5), (2, .ref 68), (3, j_i i)] [j_i r] _ _ _ _
    refine a_aload_n (pc := 928) (i := 2) (by decide +kernel) rfl ?_
    refine a_aload_n (pc := 929) (i := 0) (by decide +kernel) rfl ?_
    refine a_iload_n (pc := 930) (i := 3) (by decide +kernel) rfl ?_
    refine a_iconst (pc := 931) (n := 1) (by decide +kernel) ?_
    refine a_iadd (pc := 932) (by decide +kernel) ?_
    refine b_siload (pc := 933) (by decide +kernel) (sh_0 hn) (by decide) (by omega) hX ?_
    refine a_aload_n (pc := 934) (i := 0) (by decide +kernel) rfl ?_
    refine a_iload_n (pc := 935) (i := 3) (by decide +kernel) rfl ?_
    refine a_iconst (pc := 936) (n := 2) (by decide +kernel) ?_
    refine a_iadd (pc := 937) (by decide +kernel) ?_
    refine b_siload (pc := 938) (by decide +kernel) (sh_0 hn) (by decide) (by omega) hX ?_
    refine a_aload_n (pc := 939) (i := 0) (by decide +kernel) rfl ?_
    refine a_iload_n (pc := 940) (i := 3) (by decide +kernel) rfl ?_
    refine a_iconst (pc := 941) (n := 3) (by decide +kernel) ?_
    refine a_iadd (pc := 942) (by decide +kernel) ?_
    refine b_siload (pc := 943) (by decide +kernel) (sh_0 hn) (by decide) (by omega) hX ?_
    refine a_aload_n (pc := 944) (i := 0) (by decide +kernel) rfl ?_
    refine a_iload_n (pc := 945) (i := 3) (by decide +kernel) rfl ?_
    refine a_iconst (pc := 946) (n := 4) (by decide +kernel) ?_
    refine a_iadd (pc := 947) (by decide +kernel) ?_
    refine b_siload (pc := 948) (by decide +kernel) (sh_0 hn) (by decide) (by omega) hX ?_
    refine a_if_eq (pc := 949) (off := 7) (tgt := 956) (by decide +kernel) (by decide) (hr _) (fun _ => ?_) (fun q => absurd c917 q)
    refine a_iconst (pc := 956) (n := 0) (by decide +kernel) ?_
    refine b_callV (pc := 957) (c' := 0) (sl' := 0) [j_i (k_rof X 0 (i + 1)), j_i (k_rof X 0 (i + 2)), j_i (k_rof X 0 (i + 3)), j_i 0] [j_i r] ml_L_106 (by decide +kernel) rfl rfl (sh_68 hn) rfl rfl (Nat.le_of_ble_eq_true rfl) (j_fitI rfl rfl) hM9 (fun v n' σ' hq => ?_)
    obtain ⟨rfl, hR2⟩ := hq
    obtain ⟨σ2, hσ2⟩ : ∃ z, z = σ' := ⟨_, rfl⟩
    rw [← hσ2] at hR2 ⊢
    clear hσ2
    show j_at _ _ _ [(0, .ref 0), (1, .ref 5), (2, .ref 68), (3, j_i i)] [j_i r, j_i r] _ _ _ _
    exact a_same_eq (pc := 960) (off := 664) (tgt := 1624) (by decide +kernel) (by decide) (j_more (by omega) (by omega) (kk _ _ hR2))
  · refine a_iconst (pc := 920) (n := 1) (by decide +kernel) ?_
    refine a_goto (pc := 921) (off := 4) (tgt := 925) (by decide +kernel) (by decide) ?_
    obtain ⟨P9, hP1, hP2⟩ := p_see (G := G) (X := X) hR (hr (i + 1)) (hr (i + 2)) (hr (i + 3)) (Or.inr rfl)
    refine b_callV (pc := 925) (c' := 16) (sl' := 1618) [j_i (k_rof X 0 (i + 1)), j_i (k_rof X 0 (i + 2)), j_i (k_rof X 0 (i + 3)), j_i 1] [] ml_L_102 (by decide +kernel) rfl rfl (sh_5 hn) rfl rfl (Nat.le_of_ble_eq_true rfl) (j_fitI rfl rfl) hP1 (fun v n' σ' hq => ?_)
    obtain ⟨hn2, r, rfl, hM9⟩ := hP2 _ _ _ hq
    obtain ⟨σ3, hσ3⟩ : ∃ z, z = σ' := ⟨_, rfl⟩
    rw [← hσ3] at hM9 ⊢
    clear hσ3
    have hn := hn2
    show j_at _ _ _ [(0, .ref 0), (1, .ref 5), (2, .ref 68), (3, j_i i)] [j_i r] _ _ _ _
    refine a_aload_n (pc := 928) (i := 2) (by decide +kernel) rfl ?_
    refine a_aload_n (pc := 929) (i := 0) (by decide +kernel) rfl ?_
    refine a_iload_n (pc := 930) (i := 3) (by decide +kernel) rfl ?_
    refine a_iconst (pc := 931) (n := 1) (by decide +kernel) ?_
    refine a_iadd (pc := 932) (by decide +kernel) ?_
    refine b_siload (pc := 933) (by decide +kernel) (sh_0 hn) (by decide) (by omega) hX ?_
    refine a_aload_n (pc := 934) (i := 0) (by decide +kernel) rfl ?_
    refine a_iload_n (pc := 935) (i := 3) (by decide +kernel) rfl ?_
    refine a_iconst (pc := 936) (n := 2) (by decide +kernel) ?_
    refine a_iadd (pc := 937) (by decide +kernel) ?_
    refine b_siload (pc := 938) (by decide +kernel) (sh_0 hn) (by decide) (by omega) hX ?_
    refine a_aload_n (pc := 939) (i := 0) (by decide +kernel) rfl ?_
    refine a_iload_n (pc := 940) (i := 3) (by decide +kernel) rfl ?_
    refine a_iconst (pc := 941) (n := 3) (by decide +kernel) ?_
    refine a_iadd (pc := 942) (by decide +kernel) ?_
    refine b_siload (pc := 943) (by decide +kernel) (sh_0 hn) (by decide) (by omega) hX ?_
    refine a_aload_n (pc := 944) (i := 0) (by decide +kernel) rfl ?_
    refine a_iload_n (pc := 945) (i := 3) (by decide +kernel) rfl ?_
    refine a_iconst (pc := 946) (n := 4) (by decide +kernel) ?_
    refine a_iadd (pc := 947) (by decide +kernel) ?_
    refine b_siload (pc := 948) (by decide +kernel) (sh_0 hn) (by decide) (by omega) hX ?_
    refine a_if_eq (pc := 949) (off := 7) (tgt := 956) (by decide +kernel) (by decide) (hr _) (fun q => absurd q c917) (fun _ => ?_)
    refine a_iconst (pc := 952) (n := 1) (by decide +kernel) ?_
    refine a_goto (pc := 953) (off := 4) (tgt := 957) (by decide +kernel) (by decide) ?_
    refine b_callV (pc := 957) (c' := 0) (sl' := 0) [j_i (k_rof X 0 (i + 1)), j_i (k_rof X 0 (i + 2)), j_i (k_rof X 0 (i + 3)), j_i 1] [j_i r] ml_L_106 (by decide +kernel) rfl rfl (sh_68 hn) rfl rfl (Nat.le_of_ble_eq_true rfl) (j_fitI rfl rfl) hM9 (fun v n' σ' hq => ?_)
    obtain ⟨rfl, hR2⟩ := hq
    obtain ⟨σ4, hσ4⟩ : ∃ z, z = σ' := ⟨_, rfl⟩
    rw [← hσ4] at hR2 ⊢
    clear hσ4
    show j_at _ _ _ [(0, .ref 0), (1, .ref 5), (2, .ref 68), (3, j_i i)] [j_i r, j_i r] _ _ _ _
    exact a_same_eq (pc := 960) (off := 664) (tgt := 1624) (by decide +kernel) (by decide) (j_more (by omega) (by omega) (kk _ _ hR2))
set_option maxHeartbeats 4000000 in
theorem w_21 {G : j_G} {X : k_X} {n : Nat} {σ : k_St} (hR : RR n σ) {i : Int} (hi : 0 ≤ i ∧ i + 6 < X.1) (hX : X.1 ≤ 1000000) (hr : ∀ j, -2147483648 ≤ k_rof X 0 j ∧ k_rof X 0 j ≤ 2147483647) {c sl : Nat} {Q : j_P} (kk : ∀ n' σ', RR n' σ' → j_at G mL_law 1624 [(0, .ref 0), (1, .ref 5), (2, .ref 68), (3, j_i i)] [] (k_h X n' σ') c sl Q) : j_at G mL_law 965 [(0, .ref 0), (1, .ref 5), (2, .ref 68), (3, j_i i)] [] (k_h X n σ) (c + 16) (sl + 1618) Q := by
  have hn := RR_n hR
  refine a_aload_n (pc := 965) (i := 1) (by decide +kernel) rfl ?_
  refine a_aload_n (pc := 966) (i := 0) (by decide +kernel) rfl ?_
  refine a_iload_n (pc := 967) (i := 3) (by decide +kernel) rfl ?_
  refine a_iconst (pc := 968) (n := 1) (by decide +kernel) ?_
  refine a_iadd (pc := 969) (by decide +kernel) ?_
  refine b_siload (pc := 970) (by decide +kernel) (sh_0 hn) (by decide) (by omega) hX ?_
  obtain ⟨P9, hP1, hP2⟩ := p_drop (G := G) (X := X) hR (hr (i + 1))
  refine b_callV (pc := 971) (c' := 16) (sl' := 1618) [j_i (k_rof X 0 (i + 1))] [] ml_L_107 (by decide +kernel) rfl rfl (sh_5 hn) rfl rfl (Nat.le_of_ble_eq_true rfl) (j_fitI rfl rfl) hP1 (fun v n' σ' hq => ?_)
  obtain ⟨hn2, r, rfl, hM9⟩ := hP2 _ _ _ hq
  obtain ⟨σ1, hσ1⟩ : ∃ z, z = σ' := ⟨_, rfl⟩
  rw [← hσ1] at hM9 ⊢
  clear hσ1
  have hn := hn2
  show j_at _ _ _ [(0, .ref 0), (1, .ref 5), (2, .ref 68), (3, j_i i)] [j_i r] _ _ _ _
  refine a_aload_n (pc := 974) (i := 2) (by decide +kernel) rfl ?_
  refine a_aload_n (pc := 975) (i := 0) (by decide +kernel) rfl ?_
  refine a_iload_n (pc := 976) (i := 3) (by decide +kernel) rfl ?_
  refine a_iconst (pc := 977) (n := 1) (by decide +kernel) ?_
  refine a_iadd (pc := 978) (by decide +kernel) ?_
  refine b_siload (pc := 979) (by decide +kernel) (sh_0 hn) (by decide) (by omega) hX ?_
  refine b_callV (pc := 980) (c' := 0) (sl' := 0) [j_i (k_rof X 0 (i + 1))] [j_i r] ml_L_110 (by decide +kernel) rfl rfl (sh_68 hn) rfl rfl (Nat.le_of_ble_eq_true rfl) (j_fitI rfl rfl) hM9 (fun v n' σ' hq => ?_)
  obtain ⟨rfl, hR2⟩ := hq
  obtain ⟨σ2, hσ2⟩ : ∃ z, z = σ' := ⟨_, rfl⟩
  rw [← hσ2] at hR2 ⊢
  clear hσ2
  show j_at _ _ _ [(0, .ref 0), (1, .ref 5), (2, .ref 68), (3, j_i i)] [j_i r, j_i r] _ _ _ _
  exact a_same_eq (pc := 983) (off := 641) (tgt := 1624) (by decide +kernel) (by decide) (j_more (by omega) (by omega) (kk _ _ hR2))
