theorem k_II2 {σ : k_St} {a j : Nat} {x y : Int} : k_sI (k_sI σ a j x) a j y = k_sI σ a j y := by
  unfold k_sI
  refine Prod.ext rfl (Prod.ext ?_ rfl)
  funext b i
  show (if b = a ∧ i = j then y else if b = a ∧ i = j then x else _) = if b = a ∧ i = j then y else _
  by_cases h : b = a ∧ i = j
  · simp only [if_pos h]
  · simp only [if_neg h]
theorem KR_m {σ : k_St} (hK : RKept σ) {m : Int} (h0 : 0 ≤ m) (h1 : m < σ.1 69 1382) : σ.1 17 m = σ.1 69 (1383 + 7 * m + 1) ∧ σ.1 18 m = σ.1 69 (1383 + 7 * m + 2) ∧ σ.1 20 m = σ.1 69 (1383 + 7 * m + 6) ∧ ∀ i, 0 ≤ i → i < 3 → f_head (σ.1 19 m) i = σ.1 69 (1383 + 7 * m + 3 + i) := by
  obtain ⟨e1, e2, e3, e4, e5⟩ := hK.2.1.2.2.2 m h0 h1
  exact ⟨e2, e3, e5, e4⟩
set_option maxHeartbeats 4000000 in
theorem c_leave {G : j_G} {X : k_X} {n : Nat} {σ : k_St} (hn : 101 ≤ n) {x : Int}  : k_run G X mX11_leave [.ref 5, j_i x] n σ 0 0 (k_is n (k_sI σ 5 11 (31 * σ.2.1 5 11 + x)) none) := by
  refine k_enter (by decide +kernel) (Nat.le_of_ble_eq_true rfl) ?_
  show j_at _ _ _ [(0, .ref 5), (1, j_i x)] [] _ _ _ _
  refine a_aload_n (pc := 0) (i := 0) (by decide +kernel) rfl ?_
  refine a_bipush (pc := 1) (n := 31) (by decide +kernel) rfl ?_
  refine a_aload_n (pc := 3) (i := 0) (by decide +kernel) rfl ?_
  refine b_getI (pc := 4) fl_X11_79 (by decide +kernel) (sh_5 hn) rfl ?_
  refine a_imul (pc := 7) (by decide +kernel) ?_
  refine a_iload_n (pc := 8) (i := 1) (by decide +kernel) rfl ?_
  refine a_iadd (pc := 9) (by decide +kernel) ?_
  refine b_putI (pc := 10) fl_X11_79 (by decide +kernel) (sh_5 hn) rfl rfl rfl ?_
  obtain ⟨σ1, hσ1⟩ : ∃ z, z = k_sI σ 5 11 ((31 * (σ.2.1 5 11)) + x) := ⟨_, rfl⟩
  rw [← hσ1]
  refine a_return (pc := 13) (by decide +kernel) rfl ?_
  refine k_ret ?_
  exact ⟨rfl, rfl, by first | rw [hσ1] | rfl⟩
set_option maxHeartbeats 4000000 in
theorem c_tellPoint {G : j_G} {X : k_X} {n : Nat} {σ : k_St} (hn : 101 ≤ n)  : k_run G X mX11_tellPoint [.ref 5] n σ 0 0 (k_is n (k_sI σ 5 11 (31 * σ.2.1 5 11 + 1)) (some (j_i (1)))) := by
  refine k_enter (by decide +kernel) (Nat.le_of_ble_eq_true rfl) ?_
  show j_at _ _ _ [(0, .ref 5)] [] _ _ _ _
  refine a_aload_n (pc := 0) (i := 0) (by decide +kernel) rfl ?_
  refine a_iconst (pc := 1) (n := 1) (by decide +kernel) ?_
  refine b_callV (pc := 2) (c' := 0) (sl' := 0) [j_i 1] [] ml_X11_373 (by decide +kernel) rfl rfl (sh_5 hn) rfl rfl (Nat.le_of_ble_eq_true rfl) (j_fitI rfl rfl) (c_leave hn) (fun v n' σ' hq => ?_)
  obtain ⟨rfl, e1, e2⟩ := hq
  rw [e1, e2]; clear e1 e2
  obtain ⟨σ1, hσ1⟩ : ∃ z, z = k_sI σ 5 11 (31 * σ.2.1 5 11 + 1) := ⟨_, rfl⟩
  rw [← hσ1]
  show j_at _ _ _ [(0, .ref 5)] [] _ _ _ _
  refine a_iconst (pc := 5) (n := 1) (by decide +kernel) ?_
  refine a_ireturn (pc := 6) (by decide +kernel) rfl ?_
  refine k_ret ?_
  refine ⟨by congr 2, rfl, ?_⟩
  rw [hσ1]
set_option maxHeartbeats 4000000 in
theorem c_tellMain {G : j_G} {X : k_X} {n : Nat} {σ : k_St} (hn : 101 ≤ n)  : k_run G X mX11_tellMain [.ref 5] n σ 0 0 (k_is n (k_sI σ 5 11 (31 * (31 * σ.2.1 5 11 + 2) + 1)) (some (j_i (10 * 1)))) := by
  refine k_enter (by decide +kernel) (Nat.le_of_ble_eq_true rfl) ?_
  show j_at _ _ _ [(0, .ref 5)] [] _ _ _ _
  refine a_aload_n (pc := 0) (i := 0) (by decide +kernel) rfl ?_
  refine a_iconst (pc := 1) (n := 2) (by decide +kernel) ?_
  refine b_callV (pc := 2) (c' := 0) (sl' := 0) [j_i 2] [] ml_X11_373 (by decide +kernel) rfl rfl (sh_5 hn) rfl rfl (Nat.le_of_ble_eq_true rfl) (j_fitI rfl rfl) (c_leave hn) (fun v n' σ' hq => ?_)
  obtain ⟨rfl, e1, e2⟩ := hq
  rw [e1, e2]; clear e1 e2
  obtain ⟨σ1, hσ1⟩ : ∃ z, z = k_sI σ 5 11 (31 * σ.2.1 5 11 + 2) := ⟨_, rfl⟩
  rw [← hσ1]
  show j_at _ _ _ [(0, .ref 5)] [] _ _ _ _
  refine a_bipush (pc := 5) (n := 10) (by decide +kernel) rfl ?_
  refine a_aload_n (pc := 7) (i := 0) (by decide +kernel) rfl ?_
  refine b_callV (pc := 8) (c' := 0) (sl' := 0) [] [j_i 10] ml_X11_269 (by decide +kernel) rfl rfl (sh_5 hn) rfl rfl (Nat.le_of_ble_eq_true rfl) (j_fitI rfl rfl) (c_tellPoint hn) (fun v n' σ' hq => ?_)
  obtain ⟨rfl, e1, e2⟩ := hq
  rw [e1, e2]; clear e1 e2
  obtain ⟨σ2, hσ2⟩ : ∃ z, z = k_sI σ1 5 11 (31 * σ1.2.1 5 11 + 1) := ⟨_, rfl⟩
  rw [← hσ2]
  rw [show σ1.2.1 5 11 = 31 * (σ.2.1 5 11) + 2 by rw [hσ1, k_II]] at hσ2
  show j_at _ _ _ [(0, .ref 5)] [j_i 1, j_i 10] _ _ _ _
  refine a_imul (pc := 11) (by decide +kernel) ?_
  refine a_ireturn (pc := 12) (by decide +kernel) rfl ?_
  refine k_ret ?_
  refine ⟨by congr 2, rfl, ?_⟩
  rw [hσ2, hσ1]
  rw [k_II2]
set_option maxHeartbeats 4000000 in
theorem c_tellNote {G : j_G} {X : k_X} {n : Nat} {σ : k_St} (hn : 101 ≤ n) {x : Int}  : k_run G X mX11_tellNote [.ref 5, j_i x] n σ 0 0 (k_is n (k_sI σ 5 11 (31 * (31 * σ.2.1 5 11 + 3) + 1)) (some (j_i (1 + x)))) := by
  refine k_enter (by decide +kernel) (Nat.le_of_ble_eq_true rfl) ?_
  show j_at _ _ _ [(0, .ref 5), (1, j_i x)] [] _ _ _ _
  refine a_aload_n (pc := 0) (i := 0) (by decide +kernel) rfl ?_
  refine a_iconst (pc := 1) (n := 3) (by decide +kernel) ?_
  refine b_callV (pc := 2) (c' := 0) (sl' := 0) [j_i 3] [] ml_X11_373 (by decide +kernel) rfl rfl (sh_5 hn) rfl rfl (Nat.le_of_ble_eq_true rfl) (j_fitI rfl rfl) (c_leave hn) (fun v n' σ' hq => ?_)
  obtain ⟨rfl, e1, e2⟩ := hq
  rw [e1, e2]; clear e1 e2
  obtain ⟨σ1, hσ1⟩ : ∃ z, z = k_sI σ 5 11 (31 * σ.2.1 5 11 + 3) := ⟨_, rfl⟩
  rw [← hσ1]
  show j_at _ _ _ [(0, .ref 5), (1, j_i x)] [] _ _ _ _
  refine a_aload_n (pc := 5) (i := 0) (by decide +kernel) rfl ?_
  refine b_callV (pc := 6) (c' := 0) (sl' := 0) [] [] ml_X11_269 (by decide +kernel) rfl rfl (sh_5 hn) rfl rfl (Nat.le_of_ble_eq_true rfl) (j_fitI rfl rfl) (c_tellPoint hn) (fun v n' σ' hq => ?_)
  obtain ⟨rfl, e1, e2⟩ := hq
  rw [e1, e2]; clear e1 e2
  obtain ⟨σ2, hσ2⟩ : ∃ z, z = k_sI σ1 5 11 (31 * σ1.2.1 5 11 + 1) := ⟨_, rfl⟩
  rw [← hσ2]
  rw [show σ1.2.1 5 11 = 31 * (σ.2.1 5 11) + 3 by rw [hσ1, k_II]] at hσ2
  show j_at _ _ _ [(0, .ref 5), (1, j_i x)] [j_i 1] _ _ _ _
  refine a_iload_n (pc := 9) (i := 1) (by decide +kernel) rfl ?_
  refine a_iadd (pc := 10) (by decide +kernel) ?_
  refine a_ireturn (pc := 11) (by decide +kernel) rfl ?_
  refine k_ret ?_
  refine ⟨by congr 2, rfl, ?_⟩
  rw [hσ2, hσ1]
  rw [k_II2]
set_option maxHeartbeats 4000000 in
theorem c_tellSee {G : j_G} {X : k_X} {n : Nat} {σ : k_St} (hn : 101 ≤ n)  : k_run G X mX11_tellSee [.ref 5] n σ 0 0 (k_is n (k_sI σ 5 11 (31 * σ.2.1 5 11 + 4)) (some (j_i (5)))) := by
  refine k_enter (by decide +kernel) (Nat.le_of_ble_eq_true rfl) ?_
  show j_at _ _ _ [(0, .ref 5)] [] _ _ _ _
  refine a_aload_n (pc := 0) (i := 0) (by decide +kernel) rfl ?_
  refine a_iconst (pc := 1) (n := 4) (by decide +kernel) ?_
  refine b_callV (pc := 2) (c' := 0) (sl' := 0) [j_i 4] [] ml_X11_373 (by decide +kernel) rfl rfl (sh_5 hn) rfl rfl (Nat.le_of_ble_eq_true rfl) (j_fitI rfl rfl) (c_leave hn) (fun v n' σ' hq => ?_)
  obtain ⟨rfl, e1, e2⟩ := hq
  rw [e1, e2]; clear e1 e2
  obtain ⟨σ1, hσ1⟩ : ∃ z, z = k_sI σ 5 11 (31 * σ.2.1 5 11 + 4) := ⟨_, rfl⟩
  rw [← hσ1]
  show j_at _ _ _ [(0, .ref 5)] [] _ _ _ _
  refine a_iconst (pc := 5) (n := 5) (by decide +kernel) ?_
  refine a_ireturn (pc := 6) (by decide +kernel) rfl ?_
  refine k_ret ?_
  refine ⟨by congr 2, rfl, ?_⟩
  rw [hσ1]
set_option maxHeartbeats 4000000 in
theorem c_tellAlso {G : j_G} {X : k_X} {n : Nat} {σ : k_St} (hn : 101 ≤ n)  : k_run G X mX11_tellAlso [.ref 5] n σ 0 0 (k_is n (k_sI σ 5 11 (31 * (31 * σ.2.1 5 11 + 5) + 4)) (some (j_i (5 + 1)))) := by
  refine k_enter (by decide +kernel) (Nat.le_of_ble_eq_true rfl) ?_
  show j_at _ _ _ [(0, .ref 5)] [] _ _ _ _
  refine a_aload_n (pc := 0) (i := 0) (by decide +kernel) rfl ?_
  refine a_iconst (pc := 1) (n := 5) (by decide +kernel) ?_
  refine b_callV (pc := 2) (c' := 0) (sl' := 0) [j_i 5] [] ml_X11_373 (by decide +kernel) rfl rfl (sh_5 hn) rfl rfl (Nat.le_of_ble_eq_true rfl) (j_fitI rfl rfl) (c_leave hn) (fun v n' σ' hq => ?_)
  obtain ⟨rfl, e1, e2⟩ := hq
  rw [e1, e2]; clear e1 e2
  obtain ⟨σ1, hσ1⟩ : ∃ z, z = k_sI σ 5 11 (31 * σ.2.1 5 11 + 5) := ⟨_, rfl⟩
  rw [← hσ1]
  show j_at _ _ _ [(0, .ref 5)] [] _ _ _ _
  refine a_aload_n (pc := 5) (i := 0) (by decide +kernel) rfl ?_
  refine b_callV (pc := 6) (c' := 0) (sl' := 0) [] [] ml_X11_263 (by decide +kernel) rfl rfl (sh_5 hn) rfl rfl (Nat.le_of_ble_eq_true rfl) (j_fitI rfl rfl) (c_tellSee hn) (fun v n' σ' hq => ?_)
  obtain ⟨rfl, e1, e2⟩ := hq
  rw [e1, e2]; clear e1 e2
  obtain ⟨σ2, hσ2⟩ : ∃ z, z = k_sI σ1 5 11 (31 * σ1.2.1 5 11 + 4) := ⟨_, rfl⟩
  rw [← hσ2]
  rw [show σ1.2.1 5 11 = 31 * (σ.2.1 5 11) + 5 by rw [hσ1, k_II]] at hσ2
  show j_at _ _ _ [(0, .ref 5)] [j_i 5] _ _ _ _
  refine a_iconst (pc := 9) (n := 1) (by decide +kernel) ?_
  refine a_iadd (pc := 10) (by decide +kernel) ?_
  refine a_ireturn (pc := 11) (by decide +kernel) rfl ?_
  refine k_ret ?_
  refine ⟨by congr 2, rfl, ?_⟩
  rw [hσ2, hσ1]
  rw [k_II2]
set_option maxHeartbeats 4000000 in
theorem c_showLent {G : j_G} {X : k_X} {n : Nat} {σ : k_St} (hn : 101 ≤ n) {x : Int}  : k_run G X mX11_showLent [.ref 5, j_i x] n σ 0 0 (k_is n (k_sI σ 5 11 (31 * σ.2.1 5 11 + 6)) (some (j_i (100 + x)))) := by
  refine k_enter (by decide +kernel) (Nat.le_of_ble_eq_true rfl) ?_
  show j_at _ _ _ [(0, .ref 5), (1, j_i x)] [] _ _ _ _
  refine a_aload_n (pc := 0) (i := 0) (by decide +kernel) rfl ?_
  refine a_bipush (pc := 1) (n := 6) (by decide +kernel) rfl ?_
  refine b_callV (pc := 3) (c' := 0) (sl' := 0) [j_i 6] [] ml_X11_373 (by decide +kernel) rfl rfl (sh_5 hn) rfl rfl (Nat.le_of_ble_eq_true rfl) (j_fitI rfl rfl) (c_leave hn) (fun v n' σ' hq => ?_)
  obtain ⟨rfl, e1, e2⟩ := hq
  rw [e1, e2]; clear e1 e2
  obtain ⟨σ1, hσ1⟩ : ∃ z, z = k_sI σ 5 11 (31 * σ.2.1 5 11 + 6) := ⟨_, rfl⟩
  rw [← hσ1]
  show j_at _ _ _ [(0, .ref 5), (1, j_i x)] [] _ _ _ _
  refine a_bipush (pc := 6) (n := 100) (by decide +kernel) rfl ?_
  refine a_iload_n (pc := 8) (i := 1) (by decide +kernel) rfl ?_
  refine a_iadd (pc := 9) (by decide +kernel) ?_
  refine a_ireturn (pc := 10) (by decide +kernel) rfl ?_
  refine k_ret ?_
  refine ⟨by congr 2, rfl, ?_⟩
  rw [hσ1]
set_option maxHeartbeats 4000000 in
theorem c_showMain {G : j_G} {X : k_X} {n : Nat} {σ : k_St} (hn : 101 ≤ n) {x : Int}  : k_run G X mX11_showMain [.ref 5, j_i x] n σ 0 0 (k_is n (k_sI σ 5 11 (31 * σ.2.1 5 11 + 7)) (some (j_i (200 + x)))) := by
  refine k_enter (by decide +kernel) (Nat.le_of_ble_eq_true rfl) ?_
  show j_at _ _ _ [(0, .ref 5), (1, j_i x)] [] _ _ _ _
  refine a_aload_n (pc := 0) (i := 0) (by decide +kernel) rfl ?_
  refine a_bipush (pc := 1) (n := 7) (by decide +kernel) rfl ?_
  refine b_callV (pc := 3) (c' := 0) (sl' := 0) [j_i 7] [] ml_X11_373 (by decide +kernel) rfl rfl (sh_5 hn) rfl rfl (Nat.le_of_ble_eq_true rfl) (j_fitI rfl rfl) (c_leave hn) (fun v n' σ' hq => ?_)
  obtain ⟨rfl, e1, e2⟩ := hq
  rw [e1, e2]; clear e1 e2
  obtain ⟨σ1, hσ1⟩ : ∃ z, z = k_sI σ 5 11 (31 * σ.2.1 5 11 + 7) := ⟨_, rfl⟩
  rw [← hσ1]
  show j_at _ _ _ [(0, .ref 5), (1, j_i x)] [] _ _ _ _
  refine a_sipush (pc := 6) (n := 200) (by decide +kernel) rfl ?_
  refine a_iload_n (pc := 9) (i := 1) (by decide +kernel) rfl ?_
  refine a_iadd (pc := 10) (by decide +kernel) ?_
  refine a_ireturn (pc := 11) (by decide +kernel) rfl ?_
  refine k_ret ?_
  refine ⟨by congr 2, rfl, ?_⟩
  rw [hσ1]
def sh_P (σ : k_St) (m r t f q y : Int) : Prop := (bi (m_is σ m) = 0 ∧ r = -1 ∧ f = 0 ∧ t = σ.2.1 5 11 ∧ q = σ.2.1 5 13 ∧ y = σ.2.1 5 14) ∨ (bi (m_is σ m) = 1 ∧ 5 < σ.1 17 m ∧ r = -12 ∧ f = 2 ∧ t = σ.2.1 5 11 ∧ q = σ.2.1 5 13 ∧ y = σ.2.1 5 14) ∨ (bi (m_is σ m) = 1 ∧ σ.1 17 m = 3 ∧ f = 0 ∧ t = 31 * σ.2.1 5 11 + 7 ∧ r = 200 + σ.1 18 m ∧ q = σ.2.1 5 13 ∧ y = σ.2.1 5 14) ∨ (bi (m_is σ m) = 1 ∧ σ.1 17 m ≤ 5 ∧ σ.1 17 m ≠ 3 ∧ f = 0 ∧ t = 31 * σ.2.1 5 11 + 6 ∧ r = 100 + σ.1 18 m ∧ q = σ.2.1 5 13 ∧ y = σ.2.1 5 14)
set_option maxHeartbeats 4000000 in
theorem c_show {G : j_G} {X : k_X} {n : Nat} {σ : k_St} (hR : RR n σ) {m : Int} (hm : -2147483648 ≤ m ∧ m ≤ 2147483647)  : k_run G X mX11_show [.ref 5, j_i m] n σ 0 0 (fun v n' σ' => ∃ r : Int, v = some (j_i r) ∧ n' = n ∧ CS σ σ' ∧ sh_P σ m r (σ'.2.1 5 11) (σ'.2.1 5 12) (σ'.2.1 5 13) (σ'.2.1 5 14)) := by
  obtain ⟨hK, hAc, hNm, hPs, hPt, hSm, hIx⟩ := id hR
  have hn := RR_n hR
  have hk := hK.1
  have hwh : h_wf σ 8 := hk.2.1
  have hwm : m_wf σ 16 := hk.2.2
  have hW : 0 ≤ σ.2.1 6 1 ∧ σ.2.1 6 1 ≤ 300 := hk.1
  have hfl := hSm.1
  refine k_enter (by decide +kernel) (Nat.le_of_ble_eq_true rfl) ?_
  show j_at _ _ _ [(0, .ref 5), (1, j_i m)] [] _ _ _ _
  refine a_aload_n (pc := 0) (i := 0) (by decide +kernel) rfl ?_
  refine b_getR (pc := 1) (b := 16) fl_X11_25 (by decide +kernel) (sh_5 hn) rfl ?_
  refine a_iload_n (pc := 4) (i := 1) (by decide +kernel) rfl ?_
  refine b_callV (pc := 5) (c' := 0) (sl' := 0) [j_i m] [] ml_X11_240 (by decide +kernel) rfl rfl (sh_16 hn) rfl rfl (Nat.le_of_ble_eq_true rfl) (j_fitI rfl rfl) (s_mhas hn hwm (by omega)) (fun v n' σ' hq => ?_)
  obtain ⟨x, rfl, e1, e2, hx⟩ := hq
  rw [e1, e2]; clear e1 e2
  rcases hx with ⟨rfl, p5⟩ | ⟨rfl, p5⟩
  · show j_at _ _ _ [(0, .ref 5), (1, j_i m)] [j_i 1] _ _ _ _
    have i5 := bi_y p5
    have u5 := p5.1
    have w5 := p5.2.1
    have km : (0 ≤ σ.1 17 m ∧ σ.1 17 m ≤ 7) ∧ (0 ≤ σ.1 18 m ∧ σ.1 18 m ≤ 300) ∧ (0 ≤ σ.1 19 m ∧ σ.1 19 m ≤ 29790) ∧ (0 ≤ σ.1 20 m ∧ σ.1 20 m ≤ 99) := hwm.2.2 m u5 w5
    have hmM := hwm.1
    refine a_if_ne (pc := 8) (off := 9) (tgt := 17) (by decide +kernel) (by decide) (by omega) (fun c8 => ?_) (fun c8 => ?_)
    · refine a_aload_n (pc := 17) (i := 0) (by decide +kernel) rfl ?_
      refine b_getR (pc := 18) (b := 16) fl_X11_25 (by decide +kernel) (sh_5 hn) rfl ?_
      refine b_getR (pc := 21) (b := 17) fl_X11_242 (by decide +kernel) (sh_16 hn) rfl ?_
      refine a_iload_n (pc := 24) (i := 1) (by decide +kernel) rfl ?_
      refine b_iaload (pc := 25) (by decide +kernel) (sh_17 hn) (by omega) (by omega) (by omega) ?_
      refine a_iconst (pc := 26) (n := 5) (by decide +kernel) ?_
      refine a_icmp_le (pc := 27) (off := 9) (tgt := 36) (by decide +kernel) (by decide) (by omega) (by omega) (fun c27 => ?_) (fun c27 => ?_)
      · refine a_aload_n (pc := 36) (i := 0) (by decide +kernel) rfl ?_
        refine a_iconst (pc := 37) (n := 0) (by decide +kernel) ?_
        refine b_putI (pc := 38) fl_X11_82 (by decide +kernel) (sh_5 hn) rfl rfl rfl ?_
        obtain ⟨σ1, hσ1⟩ : ∃ z, z = k_sI σ 5 12 0 := ⟨_, rfl⟩
        rw [← hσ1]
        refine a_aload_n (pc := 41) (i := 0) (by decide +kernel) rfl ?_
        refine b_getR (pc := 42) (b := 16) fl_X11_25 (by decide +kernel) (sh_5 hn) rfl ?_
        refine b_getR (pc := 45) (b := 17) fl_X11_242 (by decide +kernel) (sh_16 hn) rfl ?_
        refine a_iload_n (pc := 48) (i := 1) (by decide +kernel) rfl ?_
        refine b_iaload (pc := 49) (by decide +kernel) (sh_17 hn) (by omega) (by omega) (by omega) ?_
        rw [show σ1.1 17 = σ.1 17 by rw [hσ1]; rfl]
        refine a_iconst (pc := 50) (n := 3) (by decide +kernel) ?_
        refine a_icmp_ne (pc := 51) (off := 19) (tgt := 70) (by decide +kernel) (by decide) (by omega) (by omega) (fun c51 => ?_) (fun c51 => ?_)
        · refine a_aload_n (pc := 70) (i := 0) (by decide +kernel) rfl ?_
          refine a_aload_n (pc := 71) (i := 0) (by decide +kernel) rfl ?_
          refine b_getR (pc := 72) (b := 16) fl_X11_25 (by decide +kernel) (sh_5 hn) rfl ?_
          refine b_getR (pc := 75) (b := 18) fl_X11_245 (by decide +kernel) (sh_16 hn) rfl ?_
          refine a_iload_n (pc := 78) (i := 1) (by decide +kernel) rfl ?_
          refine b_iaload (pc := 79) (by decide +kernel) (sh_18 hn) (by omega) (by omega) (by omega) ?_
          rw [show σ1.1 18 = σ.1 18 by rw [hσ1]; rfl]
          refine b_callV (pc := 80) (c' := 0) (sl' := 0) [j_i (σ.1 18 m)] [] ml_X11_278 (by decide +kernel) rfl rfl (sh_5 hn) rfl rfl (Nat.le_of_ble_eq_true rfl) (j_fitI rfl rfl) (c_showLent hn) (fun v n' σ' hq => ?_)
          obtain ⟨rfl, e1, e2⟩ := hq
          rw [e1, e2]; clear e1 e2
          obtain ⟨σ2, hσ2⟩ : ∃ z, z = k_sI σ1 5 11 (31 * σ1.2.1 5 11 + 6) := ⟨_, rfl⟩
          rw [← hσ2]
          rw [show σ1.2.1 5 11 = σ.2.1 5 11 by rw [hσ1, k_IN (by omega)]] at hσ2
          show j_at _ _ _ [(0, .ref 5), (1, j_i m)] [j_i (100 + (σ.1 18 m))] _ _ _ _
          refine a_ireturn (pc := 83) (by decide +kernel) rfl ?_
          refine k_ret ?_
          refine ⟨_, rfl, rfl, ⟨by rw [hσ2, hσ1]; rfl, fun c j hc => by rw [hσ2, k_IN (by omega), hσ1, k_IN (by omega)], by rw [hσ2, hσ1]; rfl⟩, ?_⟩
          rw [show σ2.2.1 5 11 = 31 * (σ.2.1 5 11) + 6 by rw [hσ2, k_II]]
          rw [show σ2.2.1 5 12 = 0 by rw [hσ2, k_IN (by omega), hσ1, k_II]]
          rw [show σ2.2.1 5 13 = σ.2.1 5 13 by rw [hσ2, k_IN (by omega), hσ1, k_IN (by omega)]]
          rw [show σ2.2.1 5 14 = σ.2.1 5 14 by rw [hσ2, k_IN (by omega), hσ1, k_IN (by omega)]]
          unfold sh_P
          first | exact Or.inl (by omega) | exact Or.inr (Or.inl (by omega)) | exact Or.inr (Or.inr (Or.inl (by omega))) | exact Or.inr (Or.inr (Or.inr (by omega)))
        · refine a_aload_n (pc := 54) (i := 0) (by decide +kernel) rfl ?_
          refine a_aload_n (pc := 55) (i := 0) (by decide +kernel) rfl ?_
          refine b_getR (pc := 56) (b := 16) fl_X11_25 (by decide +kernel) (sh_5 hn) rfl ?_
          refine b_getR (pc := 59) (b := 18) fl_X11_245 (by decide +kernel) (sh_16 hn) rfl ?_
          refine a_iload_n (pc := 62) (i := 1) (by decide +kernel) rfl ?_
          refine b_iaload (pc := 63) (by decide +kernel) (sh_18 hn) (by omega) (by omega) (by omega) ?_
          rw [show σ1.1 18 = σ.1 18 by rw [hσ1]; rfl]
          refine b_callV (pc := 64) (c' := 0) (sl' := 0) [j_i (σ.1 18 m)] [] ml_X11_275 (by decide +kernel) rfl rfl (sh_5 hn) rfl rfl (Nat.le_of_ble_eq_true rfl) (j_fitI rfl rfl) (c_showMain hn) (fun v n' σ' hq => ?_)
          obtain ⟨rfl, e1, e2⟩ := hq
          rw [e1, e2]; clear e1 e2
          obtain ⟨σ3, hσ3⟩ : ∃ z, z = k_sI σ1 5 11 (31 * σ1.2.1 5 11 + 7) := ⟨_, rfl⟩
          rw [← hσ3]
          rw [show σ1.2.1 5 11 = σ.2.1 5 11 by rw [hσ1, k_IN (by omega)]] at hσ3
          show j_at _ _ _ [(0, .ref 5), (1, j_i m)] [j_i (200 + (σ.1 18 m))] _ _ _ _
          refine a_goto (pc := 67) (off := 16) (tgt := 83) (by decide +kernel) (by decide) ?_
          refine a_ireturn (pc := 83) (by decide +kernel) rfl ?_
          refine k_ret ?_
          refine ⟨_, rfl, rfl, ⟨by rw [hσ3, hσ1]; rfl, fun c j hc => by rw [hσ3, k_IN (by omega), hσ1, k_IN (by omega)], by rw [hσ3, hσ1]; rfl⟩, ?_⟩
          rw [show σ3.2.1 5 11 = 31 * (σ.2.1 5 11) + 7 by rw [hσ3, k_II]]
          rw [show σ3.2.1 5 12 = 0 by rw [hσ3, k_IN (by omega), hσ1, k_II]]
          rw [show σ3.2.1 5 13 = σ.2.1 5 13 by rw [hσ3, k_IN (by omega), hσ1, k_IN (by omega)]]
          rw [show σ3.2.1 5 14 = σ.2.1 5 14 by rw [hσ3, k_IN (by omega), hσ1, k_IN (by omega)]]
          unfold sh_P
          first | exact Or.inl (by omega) | exact Or.inr (Or.inl (by omega)) | exact Or.inr (Or.inr (Or.inl (by omega))) | exact Or.inr (Or.inr (Or.inr (by omega)))
      · refine a_aload_n (pc := 30) (i := 0) (by decide +kernel) rfl ?_
        refine a_iconst (pc := 31) (n := 2) (by decide +kernel) ?_
        refine b_callV (pc := 32) (c' := 0) (sl' := 0) [j_i 2] [] ml_X11_113 (by decide +kernel) rfl rfl (sh_5 hn) rfl rfl (Nat.le_of_ble_eq_true rfl) (j_fitI rfl rfl) (c_failed hn) (fun v n' σ' hq => ?_)
        obtain ⟨rfl, e1, e2⟩ := hq
        rw [e1, e2]; clear e1 e2
        obtain ⟨σ4, hσ4⟩ : ∃ z, z = k_sI σ 5 12 2 := ⟨_, rfl⟩
        rw [← hσ4]
        show j_at _ _ _ [(0, .ref 5), (1, j_i m)] [j_i (-10 - 2)] _ _ _ _
        refine a_ireturn (pc := 35) (by decide +kernel) rfl ?_
        refine k_ret ?_
        refine ⟨_, rfl, rfl, ⟨by rw [hσ4]; rfl, fun c j hc => by rw [hσ4, k_IN (by omega)], by rw [hσ4]; rfl⟩, ?_⟩
        rw [show σ4.2.1 5 11 = σ.2.1 5 11 by rw [hσ4, k_IN (by omega)]]
        rw [show σ4.2.1 5 12 = 2 by rw [hσ4, k_II]]
        rw [show σ4.2.1 5 13 = σ.2.1 5 13 by rw [hσ4, k_IN (by omega)]]
        rw [show σ4.2.1 5 14 = σ.2.1 5 14 by rw [hσ4, k_IN (by omega)]]
        unfold sh_P
        first | exact Or.inl (by omega) | exact Or.inr (Or.inl (by omega)) | exact Or.inr (Or.inr (Or.inl (by omega))) | exact Or.inr (Or.inr (Or.inr (by omega)))
    · exact absurd c8 (by decide)
  · show j_at _ _ _ [(0, .ref 5), (1, j_i m)] [j_i 0] _ _ _ _
    have i5 := bi_n p5
    refine a_if_ne (pc := 8) (off := 9) (tgt := 17) (by decide +kernel) (by decide) (by omega) (fun c8 => ?_) (fun c8 => ?_)
    · exact absurd c8 (by decide)
    · refine a_aload_n (pc := 11) (i := 0) (by decide +kernel) rfl ?_
      refine a_iconst (pc := 12) (n := (-1)) (by decide +kernel) ?_
      refine b_callV (pc := 13) (c' := 0) (sl' := 0) [j_i (-1)] [] ml_X11_272 (by decide +kernel) rfl rfl (sh_5 hn) rfl rfl (Nat.le_of_ble_eq_true rfl) (j_fitI rfl rfl) (c_refused hn) (fun v n' σ' hq => ?_)
      obtain ⟨rfl, e1, e2⟩ := hq
      rw [e1, e2]; clear e1 e2
      obtain ⟨σ5, hσ5⟩ : ∃ z, z = k_sI σ 5 12 0 := ⟨_, rfl⟩
      rw [← hσ5]
      show j_at _ _ _ [(0, .ref 5), (1, j_i m)] [j_i (-1)] _ _ _ _
      refine a_ireturn (pc := 16) (by decide +kernel) rfl ?_
      refine k_ret ?_
      refine ⟨_, rfl, rfl, ⟨by rw [hσ5]; rfl, fun c j hc => by rw [hσ5, k_IN (by omega)], by rw [hσ5]; rfl⟩, ?_⟩
      rw [show σ5.2.1 5 11 = σ.2.1 5 11 by rw [hσ5, k_IN (by omega)]]
      rw [show σ5.2.1 5 12 = 0 by rw [hσ5, k_II]]
      rw [show σ5.2.1 5 13 = σ.2.1 5 13 by rw [hσ5, k_IN (by omega)]]
      rw [show σ5.2.1 5 14 = σ.2.1 5 14 by rw [hσ5, k_IN (by omega)]]
      unfold sh_P
      first | exact Or.inl (by omega) | exact Or.inr (Or.inl (by omega)) | exact Or.inr (Or.inr (Or.inl (by omega))) | exact Or.inr (Or.inr (Or.inr (by omega)))
set_option maxHeartbeats 4000000 in
theorem d_show {G : j_G} {X : k_X} {n : Nat} {ρ σ : k_St} (hR : RR n ρ) (hC : CS ρ σ) {m : Int} (hm : -2147483648 ≤ m ∧ m ≤ 2147483647) {r : Int} (hP : sh_P ρ m r (σ.2.1 5 11) (σ.2.1 5 12) (σ.2.1 5 13) (σ.2.1 5 14))  : k_run G X mX12_show [.ref 68, j_i m] n σ 0 0 (fun v2 n2 σ2 => v2 = some (j_i r) ∧ RR n2 σ2) := by
  have hR0 := CS_R hC hR
  obtain ⟨hK, hAc, hNm, hPs, hPt, hSm, hIx⟩ := id hR0
  have hn := RR_n hR
  have hk := hK.1
  have hwh : h_wf σ 8 := hk.2.1
  have hwm : m_wf σ 16 := hk.2.2
  have hW : 0 ≤ σ.2.1 6 1 ∧ σ.2.1 6 1 ≤ 300 := hk.1
  have hg := hK.2.2.2
  obtain ⟨⟨hgW, hgE, hgM⟩, hgh, hgm⟩ := KR_rg hk hK.2.1
  have hW0 : σ.2.1 6 1 = σ.1 69 0 := hK.2.1.1.1
  have hE0 : σ.2.1 8 3 = σ.1 69 301 := hK.2.1.2.1.1
  have hM0 : σ.2.1 16 5 = σ.1 69 1382 := hK.2.1.2.2.1
  obtain ⟨s1, s2, s3, s4, s5, s6, s7⟩ := hSm
  have e2 : bi (m_is ρ m) = bi (d_ms σ m) := bi_c (by rw [RK_m' hK]; unfold m_is; rw [hC.1, hC.2.1 16 5 (by omega)])
  have e3 : ρ.1 17 m = σ.1 17 m := by rw [hC.1]
  have e4 : ρ.1 18 m = σ.1 18 m := by rw [hC.1]
  have e5 : ρ.1 20 m = σ.1 20 m := by rw [hC.1]
  refine k_enter (by decide +kernel) (Nat.le_of_ble_eq_true rfl) ?_
  show j_at _ _ _ [(0, .ref 68), (1, j_i m)] [] _ _ _ _
  refine a_aload_n (pc := 0) (i := 0) (by decide +kernel) rfl ?_
  refine a_iconst (pc := 1) (n := 0) (by decide +kernel) ?_
  refine b_putI (pc := 2) fl_X12_115 (by decide +kernel) (sh_68 hn) rfl rfl rfl ?_
  obtain ⟨σ1, hσ1⟩ : ∃ z, z = k_sI σ 68 0 0 := ⟨_, rfl⟩
  rw [← hσ1]
  refine a_aload_n (pc := 5) (i := 0) (by decide +kernel) rfl ?_
  refine a_iload_n (pc := 6) (i := 1) (by decide +kernel) rfl ?_
  refine b_callV (pc := 7) (c' := 0) (sl' := 0) [j_i m] [] ml_X12_254 (by decide +kernel) rfl rfl (sh_68 hn) rfl rfl (Nat.le_of_ble_eq_true rfl) (j_fitI rfl rfl) (s_disMark hn (by rw [hσ1]; exact hg) (by omega) (by rw [hσ1]; exact hgM)) (fun v n' σ' hq => ?_)
  obtain ⟨x, rfl, e1, e2, hx⟩ := hq
  rw [e1, e2]; clear e1 e2
  rcases hx with ⟨rfl, p7⟩ | ⟨rfl, p7⟩
  · show j_at _ _ _ [(0, .ref 68), (1, j_i m)] [j_i 1] _ _ _ _
    rw [show d_ms σ1 m = d_ms σ m by unfold d_ms; rw [hσ1]; rfl] at p7
    have i7 := bi_y p7
    have u7 := p7.1
    have w7 := p7.2.1
    obtain ⟨z1, z2, z3, _⟩ := KR_m hK u7 w7
    have z4 := (hgm m u7 w7).2.1
    refine a_if_ne (pc := 10) (off := 5) (tgt := 15) (by decide +kernel) (by decide) (by omega) (fun c10 => ?_) (fun c10 => ?_)
    · refine a_aload_n (pc := 15) (i := 0) (by decide +kernel) rfl ?_
      refine a_iload_n (pc := 16) (i := 1) (by decide +kernel) rfl ?_
      refine b_pureV (pc := 17) [j_i m] [] ml_X12_257 (by decide +kernel) rfl rfl (sh_68 hn) rfl rfl (Nat.le_of_ble_eq_true rfl) (j_fitI rfl rfl) (s_dkindOf hn (by omega)) ?_
      rw [show σ1.1 = σ.1 by rw [hσ1]; rfl]
      have q2 := hg (1383 + 7 * m + 1)
      show j_at _ _ _ [(0, .ref 68), (1, j_i m)] [j_i (σ.1 69 (1383 + 7 * m + 1))] _ _ _ _
      refine a_bipush (pc := 20) (n := 6) (by decide +kernel) rfl ?_
      refine a_icmp_lt (pc := 22) (off := 9) (tgt := 31) (by decide +kernel) (by decide) (by omega) (by omega) (fun c22 => ?_) (fun c22 => ?_)
      · refine a_aload_n (pc := 31) (i := 0) (by decide +kernel) rfl ?_
        refine a_iload_n (pc := 32) (i := 1) (by decide +kernel) rfl ?_
        refine b_pureV (pc := 33) [j_i m] [] ml_X12_257 (by decide +kernel) rfl rfl (sh_68 hn) rfl rfl (Nat.le_of_ble_eq_true rfl) (j_fitI rfl rfl) (s_dkindOf hn (by omega)) ?_
        rw [show σ1.1 = σ.1 by rw [hσ1]; rfl]
        have q3 := hg (1383 + 7 * m + 1)
        show j_at _ _ _ [(0, .ref 68), (1, j_i m)] [j_i (σ.1 69 (1383 + 7 * m + 1))] _ _ _ _
        refine a_iconst (pc := 36) (n := 3) (by decide +kernel) ?_
        refine a_icmp_ne (pc := 37) (off := 7) (tgt := 44) (by decide +kernel) (by decide) (by omega) (by omega) (fun c37 => ?_) (fun c37 => ?_)
        · refine a_iconst (pc := 44) (n := 0) (by decide +kernel) ?_
          refine a_istore_n (pc := 45) (i := 2) (lv' := [(0, .ref 68), (1, j_i m), (2, j_i 0)]) (by decide +kernel) (Nat.le_of_ble_eq_true rfl) rfl ?_
          refine a_aload_n (pc := 46) (i := 0) (by decide +kernel) rfl ?_
          refine a_iload_n (pc := 47) (i := 2) (by decide +kernel) rfl ?_
          refine a_if_eq (pc := 48) (off := 8) (tgt := 56) (by decide +kernel) (by decide) (by omega) (fun c48 => ?_) (fun c48 => ?_)
          · refine a_bipush (pc := 56) (n := 6) (by decide +kernel) rfl ?_
            refine b_callV (pc := 58) (c' := 0) (sl' := 0) [j_i 6] [] ml_X12_278 (by decide +kernel) rfl rfl (sh_68 hn) rfl rfl (Nat.le_of_ble_eq_true rfl) (j_fitI rfl rfl) (s_dbegins hn) (fun v n' σ' hq => ?_)
            obtain ⟨rfl, e1, e2⟩ := hq
            rw [e1, e2]; clear e1 e2
            obtain ⟨σ4, hσ4⟩ : ∃ z, z = k_sI σ1 68 1 (31 * σ1.2.1 68 1 + 6) := ⟨_, rfl⟩
            rw [← hσ4]
            rw [show σ1.2.1 68 1 = σ.2.1 68 1 by rw [hσ1, k_IN (by omega)]] at hσ4
            show j_at _ _ _ [(0, .ref 68), (1, j_i m), (2, j_i 0)] [] _ _ _ _
            refine a_iload_n (pc := 61) (i := 2) (by decide +kernel) rfl ?_
            refine a_if_eq (pc := 62) (off := 9) (tgt := 71) (by decide +kernel) (by decide) (by omega) (fun c62 => ?_) (fun c62 => ?_)
            · refine a_bipush (pc := 71) (n := 100) (by decide +kernel) rfl ?_
              refine a_aload_n (pc := 73) (i := 0) (by decide +kernel) rfl ?_
              refine a_iload_n (pc := 74) (i := 1) (by decide +kernel) rfl ?_
              refine b_pureV (pc := 75) [j_i m] [j_i 100] ml_X12_266 (by decide +kernel) rfl rfl (sh_68 hn) rfl rfl (Nat.le_of_ble_eq_true rfl) (j_fitI rfl rfl) (s_dgapOf hn (by omega)) ?_
              rw [show σ4.1 = σ.1 by rw [hσ4, hσ1]; rfl]
              have q5 := hg (1383 + 7 * m + 2)
              show j_at _ _ _ [(0, .ref 68), (1, j_i m), (2, j_i 0)] [j_i (σ.1 69 (1383 + 7 * m + 2)), j_i 100] _ _ _ _
              refine a_iadd (pc := 78) (by decide +kernel) ?_
              refine a_ireturn (pc := 79) (by decide +kernel) rfl ?_
              refine k_ret ?_
              unfold sh_P at hP
              rw [e2] at hP
              have hr : (100 + (σ.1 69 (1383 + 7 * m + 2)) : Int) = r := by rcases hP with hP | hP | hP | hP <;> omega
              refine ⟨by rw [hr], RR_scs (σ := ρ) ⟨fun c _ => by rw [hσ4, hσ1]; show σ.1 c = _; rw [hC.1], fun c j _ g1 g2 => by rw [hσ4, k_IN (by omega), hσ1, k_IN (by omega)]; exact hC.2.1 c j (by omega), by rw [hσ4, hσ1]; exact hC.2.2⟩ ?_ hR⟩
              unfold RSmall
              rw [show σ4.2.1 5 10 = σ.2.1 5 10 by rw [hσ4, k_IN (by omega), hσ1, k_IN (by omega)]]
              rw [show σ4.2.1 5 11 = σ.2.1 5 11 by rw [hσ4, k_IN (by omega), hσ1, k_IN (by omega)]]
              rw [show σ4.2.1 5 12 = σ.2.1 5 12 by rw [hσ4, k_IN (by omega), hσ1, k_IN (by omega)]]
              rw [show σ4.2.1 5 13 = σ.2.1 5 13 by rw [hσ4, k_IN (by omega), hσ1, k_IN (by omega)]]
              rw [show σ4.2.1 5 14 = σ.2.1 5 14 by rw [hσ4, k_IN (by omega), hσ1, k_IN (by omega)]]
              rw [show σ4.2.1 68 11 = σ.2.1 68 11 by rw [hσ4, k_IN (by omega), hσ1, k_IN (by omega)]]
              rw [show σ4.2.1 68 1 = 31 * (σ.2.1 68 1) + 6 by rw [hσ4, k_II]]
              rw [show σ4.2.1 68 0 = 0 by rw [hσ4, k_IN (by omega), hσ1, k_II]]
              rw [show σ4.2.1 68 52 = σ.2.1 68 52 by rw [hσ4, k_IN (by omega), hσ1, k_IN (by omega)]]
              rw [show σ4.2.1 68 53 = σ.2.1 68 53 by rw [hσ4, k_IN (by omega), hσ1, k_IN (by omega)]]
              rcases hP with hP | hP | hP | hP <;> omega
            · exact absurd c62 (by decide)
          · exact absurd c48 (by decide)
        · refine a_iconst (pc := 40) (n := 1) (by decide +kernel) ?_
          refine a_goto (pc := 41) (off := 4) (tgt := 45) (by decide +kernel) (by decide) ?_
          refine a_istore_n (pc := 45) (i := 2) (lv' := [(0, .ref 68), (1, j_i m), (2, j_i 1)]) (by decide +kernel) (Nat.le_of_ble_eq_true rfl) rfl ?_
          refine a_aload_n (pc := 46) (i := 0) (by decide +kernel) rfl ?_
          refine a_iload_n (pc := 47) (i := 2) (by decide +kernel) rfl ?_
          refine a_if_eq (pc := 48) (off := 8) (tgt := 56) (by decide +kernel) (by decide) (by omega) (fun c48 => ?_) (fun c48 => ?_)
          · exact absurd c48 (by decide)
          · refine a_bipush (pc := 51) (n := 7) (by decide +kernel) rfl ?_
            refine a_goto (pc := 53) (off := 5) (tgt := 58) (by decide +kernel) (by decide) ?_
            refine b_callV (pc := 58) (c' := 0) (sl' := 0) [j_i 7] [] ml_X12_278 (by decide +kernel) rfl rfl (sh_68 hn) rfl rfl (Nat.le_of_ble_eq_true rfl) (j_fitI rfl rfl) (s_dbegins hn) (fun v n' σ' hq => ?_)
            obtain ⟨rfl, e1, e2⟩ := hq
            rw [e1, e2]; clear e1 e2
            obtain ⟨σ6, hσ6⟩ : ∃ z, z = k_sI σ1 68 1 (31 * σ1.2.1 68 1 + 7) := ⟨_, rfl⟩
            rw [← hσ6]
            rw [show σ1.2.1 68 1 = σ.2.1 68 1 by rw [hσ1, k_IN (by omega)]] at hσ6
            show j_at _ _ _ [(0, .ref 68), (1, j_i m), (2, j_i 1)] [] _ _ _ _
            refine a_iload_n (pc := 61) (i := 2) (by decide +kernel) rfl ?_
            refine a_if_eq (pc := 62) (off := 9) (tgt := 71) (by decide +kernel) (by decide) (by omega) (fun c62 => ?_) (fun c62 => ?_)
            · exact absurd c62 (by decide)
            · refine a_sipush (pc := 65) (n := 200) (by decide +kernel) rfl ?_
              refine a_goto (pc := 68) (off := 5) (tgt := 73) (by decide +kernel) (by decide) ?_
              refine a_aload_n (pc := 73) (i := 0) (by decide +kernel) rfl ?_
              refine a_iload_n (pc := 74) (i := 1) (by decide +kernel) rfl ?_
              refine b_pureV (pc := 75) [j_i m] [j_i 200] ml_X12_266 (by decide +kernel) rfl rfl (sh_68 hn) rfl rfl (Nat.le_of_ble_eq_true rfl) (j_fitI rfl rfl) (s_dgapOf hn (by omega)) ?_
              rw [show σ6.1 = σ.1 by rw [hσ6, hσ1]; rfl]
              have q7 := hg (1383 + 7 * m + 2)
              show j_at _ _ _ [(0, .ref 68), (1, j_i m), (2, j_i 1)] [j_i (σ.1 69 (1383 + 7 * m + 2)), j_i 200] _ _ _ _
              refine a_iadd (pc := 78) (by decide +kernel) ?_
              refine a_ireturn (pc := 79) (by decide +kernel) rfl ?_
              refine k_ret ?_
              unfold sh_P at hP
              rw [e2] at hP
              have hr : (200 + (σ.1 69 (1383 + 7 * m + 2)) : Int) = r := by rcases hP with hP | hP | hP | hP <;> omega
              refine ⟨by rw [hr], RR_scs (σ := ρ) ⟨fun c _ => by rw [hσ6, hσ1]; show σ.1 c = _; rw [hC.1], fun c j _ g1 g2 => by rw [hσ6, k_IN (by omega), hσ1, k_IN (by omega)]; exact hC.2.1 c j (by omega), by rw [hσ6, hσ1]; exact hC.2.2⟩ ?_ hR⟩
              unfold RSmall
              rw [show σ6.2.1 5 10 = σ.2.1 5 10 by rw [hσ6, k_IN (by omega), hσ1, k_IN (by omega)]]
              rw [show σ6.2.1 5 11 = σ.2.1 5 11 by rw [hσ6, k_IN (by omega), hσ1, k_IN (by omega)]]
              rw [show σ6.2.1 5 12 = σ.2.1 5 12 by rw [hσ6, k_IN (by omega), hσ1, k_IN (by omega)]]
              rw [show σ6.2.1 5 13 = σ.2.1 5 13 by rw [hσ6, k_IN (by omega), hσ1, k_IN (by omega)]]
              rw [show σ6.2.1 5 14 = σ.2.1 5 14 by rw [hσ6, k_IN (by omega), hσ1, k_IN (by omega)]]
              rw [show σ6.2.1 68 11 = σ.2.1 68 11 by rw [hσ6, k_IN (by omega), hσ1, k_IN (by omega)]]
              rw [show σ6.2.1 68 1 = 31 * (σ.2.1 68 1) + 7 by rw [hσ6, k_II]]
              rw [show σ6.2.1 68 0 = 0 by rw [hσ6, k_IN (by omega), hσ1, k_II]]
              rw [show σ6.2.1 68 52 = σ.2.1 68 52 by rw [hσ6, k_IN (by omega), hσ1, k_IN (by omega)]]
              rw [show σ6.2.1 68 53 = σ.2.1 68 53 by rw [hσ6, k_IN (by omega), hσ1, k_IN (by omega)]]
              rcases hP with hP | hP | hP | hP <;> omega
      · refine a_aload_n (pc := 25) (i := 0) (by decide +kernel) rfl ?_
        refine a_iconst (pc := 26) (n := 2) (by decide +kernel) ?_
        refine b_callV (pc := 27) (c' := 0) (sl' := 0) [j_i 2] [] ml_X12_142 (by decide +kernel) rfl rfl (sh_68 hn) rfl rfl (Nat.le_of_ble_eq_true rfl) (j_fitI rfl rfl) (s_dfails hn) (fun v n' σ' hq => ?_)
        obtain ⟨rfl, e1, e2⟩ := hq
        rw [e1, e2]; clear e1 e2
        obtain ⟨σ8, hσ8⟩ : ∃ z, z = k_sI σ1 68 0 2 := ⟨_, rfl⟩
        rw [← hσ8]
        show j_at _ _ _ [(0, .ref 68), (1, j_i m)] [j_i (-10 - 2)] _ _ _ _
        refine a_ireturn (pc := 30) (by decide +kernel) rfl ?_
        refine k_ret ?_
        unfold sh_P at hP
        rw [e2] at hP
        have hr : (-10 - 2 : Int) = r := by rcases hP with hP | hP | hP | hP <;> omega
        refine ⟨by rw [hr], RR_scs (σ := ρ) ⟨fun c _ => by rw [hσ8, hσ1]; show σ.1 c = _; rw [hC.1], fun c j _ g1 g2 => by rw [hσ8, k_IN (by omega), hσ1, k_IN (by omega)]; exact hC.2.1 c j (by omega), by rw [hσ8, hσ1]; exact hC.2.2⟩ ?_ hR⟩
        unfold RSmall
        rw [show σ8.2.1 5 10 = σ.2.1 5 10 by rw [hσ8, k_IN (by omega), hσ1, k_IN (by omega)]]
        rw [show σ8.2.1 5 11 = σ.2.1 5 11 by rw [hσ8, k_IN (by omega), hσ1, k_IN (by omega)]]
        rw [show σ8.2.1 5 12 = σ.2.1 5 12 by rw [hσ8, k_IN (by omega), hσ1, k_IN (by omega)]]
        rw [show σ8.2.1 5 13 = σ.2.1 5 13 by rw [hσ8, k_IN (by omega), hσ1, k_IN (by omega)]]
        rw [show σ8.2.1 5 14 = σ.2.1 5 14 by rw [hσ8, k_IN (by omega), hσ1, k_IN (by omega)]]
        rw [show σ8.2.1 68 11 = σ.2.1 68 11 by rw [hσ8, k_IN (by omega), hσ1, k_IN (by omega)]]
        rw [show σ8.2.1 68 1 = σ.2.1 68 1 by rw [hσ8, k_IN (by omega), hσ1, k_IN (by omega)]]
        rw [show σ8.2.1 68 0 = 2 by rw [hσ8, k_II]]
        rw [show σ8.2.1 68 52 = σ.2.1 68 52 by rw [hσ8, k_IN (by omega), hσ1, k_IN (by omega)]]
        rw [show σ8.2.1 68 53 = σ.2.1 68 53 by rw [hσ8, k_IN (by omega), hσ1, k_IN (by omega)]]
        rcases hP with hP | hP | hP | hP <;> omega
    · exact absurd c10 (by decide)
  · show j_at _ _ _ [(0, .ref 68), (1, j_i m)] [j_i 0] _ _ _ _
    rw [show d_ms σ1 m = d_ms σ m by unfold d_ms; rw [hσ1]; rfl] at p7
    have i7 := bi_n p7
    refine a_if_ne (pc := 10) (off := 5) (tgt := 15) (by decide +kernel) (by decide) (by omega) (fun c10 => ?_) (fun c10 => ?_)
    · exact absurd c10 (by decide)
    · refine a_iconst (pc := 13) (n := (-1)) (by decide +kernel) ?_
      refine a_ireturn (pc := 14) (by decide +kernel) rfl ?_
      refine k_ret ?_
      unfold sh_P at hP
      rw [e2] at hP
      have hr : ((-1) : Int) = r := by rcases hP with hP | hP | hP | hP <;> omega
      refine ⟨by rw [hr], RR_scs (σ := ρ) ⟨fun c _ => by rw [hσ1]; show σ.1 c = _; rw [hC.1], fun c j _ g1 g2 => by rw [hσ1, k_IN (by omega)]; exact hC.2.1 c j (by omega), by rw [hσ1]; exact hC.2.2⟩ ?_ hR⟩
      unfold RSmall
      rw [show σ1.2.1 5 10 = σ.2.1 5 10 by rw [hσ1, k_IN (by omega)]]
      rw [show σ1.2.1 5 11 = σ.2.1 5 11 by rw [hσ1, k_IN (by omega)]]
      rw [show σ1.2.1 5 12 = σ.2.1 5 12 by rw [hσ1, k_IN (by omega)]]
      rw [show σ1.2.1 5 13 = σ.2.1 5 13 by rw [hσ1, k_IN (by omega)]]
      rw [show σ1.2.1 5 14 = σ.2.1 5 14 by rw [hσ1, k_IN (by omega)]]
      rw [show σ1.2.1 68 11 = σ.2.1 68 11 by rw [hσ1, k_IN (by omega)]]
      rw [show σ1.2.1 68 1 = σ.2.1 68 1 by rw [hσ1, k_IN (by omega)]]
      rw [show σ1.2.1 68 0 = 0 by rw [hσ1, k_II]]
      rw [show σ1.2.1 68 52 = σ.2.1 68 52 by rw [hσ1, k_IN (by omega)]]
      rw [show σ1.2.1 68 53 = σ.2.1 68 53 by rw [hσ1, k_IN (by omega)]]
      rcases hP with hP | hP | hP | hP <;> omega
set_option maxHeartbeats 4000000 in
theorem p_show {G : j_G} {X : k_X} {n : Nat} {σ : k_St} (hR : RR n σ) {m : Int} (hm : -2147483648 ≤ m ∧ m ≤ 2147483647)  : pr_ok G X mX11_show mX12_show [j_i m] n σ 0 0 := by
  refine ⟨_, c_show hR hm , fun v n' σ' hq => ?_⟩
  obtain ⟨r, hv, rfl, hC, hP⟩ := hq
  exact ⟨RR_n hR, r, hv, d_show hR hC hm  hP⟩
def te_P (σ : k_St) (m r t f q y : Int) : Prop := (bi (m_is σ m) = 0 ∧ r = -1 ∧ t = σ.2.1 5 11 ∧ f = σ.2.1 5 12 ∧ q = σ.2.1 5 13 ∧ y = σ.2.1 5 14) ∨ (bi (m_is σ m) = 1 ∧ σ.1 17 m = 3 ∧ r = 10 ∧ t = 31 * (31 * σ.2.1 5 11 + 2) + 1 ∧ f = σ.2.1 5 12 ∧ q = σ.2.1 5 13 ∧ y = σ.2.1 5 14) ∨ (bi (m_is σ m) = 1 ∧ σ.1 17 m = 4 ∧ r = 1 + σ.1 20 m ∧ t = 31 * (31 * σ.2.1 5 11 + 3) + 1 ∧ f = σ.2.1 5 12 ∧ q = σ.2.1 5 13 ∧ y = σ.2.1 5 14) ∨ (bi (m_is σ m) = 1 ∧ σ.1 17 m = 6 ∧ r = 5 ∧ t = 31 * σ.2.1 5 11 + 4 ∧ f = σ.2.1 5 12 ∧ q = σ.2.1 5 13 ∧ y = σ.2.1 5 14) ∨ (bi (m_is σ m) = 1 ∧ σ.1 17 m = 7 ∧ r = 6 ∧ t = 31 * (31 * σ.2.1 5 11 + 5) + 4 ∧ f = σ.2.1 5 12 ∧ q = σ.2.1 5 13 ∧ y = σ.2.1 5 14) ∨ (bi (m_is σ m) = 1 ∧ σ.1 17 m < 3 ∧ r = 1 ∧ t = 31 * σ.2.1 5 11 + 1 ∧ f = σ.2.1 5 12 ∧ q = σ.2.1 5 13 ∧ y = σ.2.1 5 14) ∨ (bi (m_is σ m) = 1 ∧ σ.1 17 m = 5 ∧ r = 1 ∧ t = 31 * σ.2.1 5 11 + 1 ∧ f = σ.2.1 5 12 ∧ q = σ.2.1 5 13 ∧ y = σ.2.1 5 14)
set_option maxHeartbeats 4000000 in
theorem c_tell {G : j_G} {X : k_X} {n : Nat} {σ : k_St} (hR : RR n σ) {m : Int} (hm : -2147483648 ≤ m ∧ m ≤ 2147483647)  : k_run G X mX11_tell [.ref 5, j_i m] n σ 0 0 (fun v n' σ' => ∃ r : Int, v = some (j_i r) ∧ n' = n ∧ CS σ σ' ∧ te_P σ m r (σ'.2.1 5 11) (σ'.2.1 5 12) (σ'.2.1 5 13) (σ'.2.1 5 14)) := by
  obtain ⟨hK, hAc, hNm, hPs, hPt, hSm, hIx⟩ := id hR
  have hn := RR_n hR
  have hk := hK.1
  have hwh : h_wf σ 8 := hk.2.1
  have hwm : m_wf σ 16 := hk.2.2
  have hW : 0 ≤ σ.2.1 6 1 ∧ σ.2.1 6 1 ≤ 300 := hk.1
  have hfl := hSm.1
  refine k_enter (by decide +kernel) (Nat.le_of_ble_eq_true rfl) ?_
  show j_at _ _ _ [(0, .ref 5), (1, j_i m)] [] _ _ _ _
  refine a_aload_n (pc := 0) (i := 0) (by decide +kernel) rfl ?_
  refine b_getR (pc := 1) (b := 16) fl_X11_25 (by decide +kernel) (sh_5 hn) rfl ?_
  refine a_iload_n (pc := 4) (i := 1) (by decide +kernel) rfl ?_
  refine b_callV (pc := 5) (c' := 0) (sl' := 0) [j_i m] [] ml_X11_240 (by decide +kernel) rfl rfl (sh_16 hn) rfl rfl (Nat.le_of_ble_eq_true rfl) (j_fitI rfl rfl) (s_mhas hn hwm (by omega)) (fun v n' σ' hq => ?_)
  obtain ⟨x, rfl, e1, e2, hx⟩ := hq
  rw [e1, e2]; clear e1 e2
  rcases hx with ⟨rfl, p5⟩ | ⟨rfl, p5⟩
  · show j_at _ _ _ [(0, .ref 5), (1, j_i m)] [j_i 1] _ _ _ _
    have i5 := bi_y p5
    have u5 := p5.1
    have w5 := p5.2.1
    have km : (0 ≤ σ.1 17 m ∧ σ.1 17 m ≤ 7) ∧ (0 ≤ σ.1 18 m ∧ σ.1 18 m ≤ 300) ∧ (0 ≤ σ.1 19 m ∧ σ.1 19 m ≤ 29790) ∧ (0 ≤ σ.1 20 m ∧ σ.1 20 m ≤ 99) := hwm.2.2 m u5 w5
    have hmM := hwm.1
    refine a_if_ne (pc := 8) (off := 5) (tgt := 13) (by decide +kernel) (by decide) (by omega) (fun c8 => ?_) (fun c8 => ?_)
    · refine a_aload_n (pc := 13) (i := 0) (by decide +kernel) rfl ?_
      refine b_getR (pc := 14) (b := 16) fl_X11_25 (by decide +kernel) (sh_5 hn) rfl ?_
      refine b_getR (pc := 17) (b := 17) fl_X11_242 (by decide +kernel) (sh_16 hn) rfl ?_
      refine a_iload_n (pc := 20) (i := 1) (by decide +kernel) rfl ?_
      refine b_iaload (pc := 21) (by decide +kernel) (sh_17 hn) (by omega) (by omega) (by omega) ?_
      by_cases c22 : σ.1 17 m < 3 ∨ 7 < σ.1 17 m
      · refine a_tableOut (pc := 22) (tgt := 85) (dflt := 63) (lo := 3) (hi := 7) (offs := #[34, 39, 63, 53, 58]) (len := 34) (by decide +kernel) (by omega) c22 (by decide) ?_
        refine a_aload_n (pc := 85) (i := 0) (by decide +kernel) rfl ?_
        refine b_callV (pc := 86) (c' := 0) (sl' := 0) [] [] ml_X11_269 (by decide +kernel) rfl rfl (sh_5 hn) rfl rfl (Nat.le_of_ble_eq_true rfl) (j_fitI rfl rfl) (c_tellPoint hn) (fun v n' σ' hq => ?_)
        obtain ⟨rfl, e1, e2⟩ := hq
        rw [e1, e2]; clear e1 e2
        obtain ⟨σ1, hσ1⟩ : ∃ z, z = k_sI σ 5 11 (31 * σ.2.1 5 11 + 1) := ⟨_, rfl⟩
        rw [← hσ1]
        show j_at _ _ _ [(0, .ref 5), (1, j_i m)] [j_i 1] _ _ _ _
        refine a_ireturn (pc := 89) (by decide +kernel) rfl ?_
        refine k_ret ?_
        refine ⟨_, rfl, rfl, ⟨by rw [hσ1]; rfl, fun c j hc => by rw [hσ1, k_IN (by omega)], by rw [hσ1]; rfl⟩, ?_⟩
        rw [show σ1.2.1 5 11 = 31 * (σ.2.1 5 11) + 1 by rw [hσ1, k_II]]
        rw [show σ1.2.1 5 12 = σ.2.1 5 12 by rw [hσ1, k_IN (by omega)]]
        rw [show σ1.2.1 5 13 = σ.2.1 5 13 by rw [hσ1, k_IN (by omega)]]
        rw [show σ1.2.1 5 14 = σ.2.1 5 14 by rw [hσ1, k_IN (by omega)]]
        unfold te_P
        first | exact Or.inl (by omega) | exact Or.inr (Or.inl (by omega)) | exact Or.inr (Or.inr (Or.inl (by omega))) | exact Or.inr (Or.inr (Or.inr (Or.inl (by omega)))) | exact Or.inr (Or.inr (Or.inr (Or.inr (Or.inl (by omega))))) | exact Or.inr (Or.inr (Or.inr (Or.inr (Or.inr (Or.inl (by omega)))))) | exact Or.inr (Or.inr (Or.inr (Or.inr (Or.inr (Or.inr (by omega))))))
      rcases (show σ.1 17 m = 3 ∨ σ.1 17 m = 4 ∨ σ.1 17 m = 5 ∨ σ.1 17 m = 6 ∨ σ.1 17 m = 7 by omega) with c22 | c22 | c22 | c22 | c22
      · rw [c22]
        refine a_tableIn (pc := 22) (tgt := 56) (dflt := 63) (lo := 3) (hi := 7) (off := 34) (offs := #[34, 39, 63, 53, 58]) (len := 34) (by decide +kernel) (by decide) (by decide) (by decide) rfl (by decide) ?_
        refine a_aload_n (pc := 56) (i := 0) (by decide +kernel) rfl ?_
        refine b_callV (pc := 57) (c' := 0) (sl' := 0) [] [] ml_X11_257 (by decide +kernel) rfl rfl (sh_5 hn) rfl rfl (Nat.le_of_ble_eq_true rfl) (j_fitI rfl rfl) (c_tellMain hn) (fun v n' σ' hq => ?_)
        obtain ⟨rfl, e1, e2⟩ := hq
        rw [e1, e2]; clear e1 e2
        obtain ⟨σ2, hσ2⟩ : ∃ z, z = k_sI σ 5 11 (31 * (31 * σ.2.1 5 11 + 2) + 1) := ⟨_, rfl⟩
        rw [← hσ2]
        show j_at _ _ _ [(0, .ref 5), (1, j_i m)] [j_i (10 * 1)] _ _ _ _
        refine a_ireturn (pc := 60) (by decide +kernel) rfl ?_
        refine k_ret ?_
        refine ⟨_, rfl, rfl, ⟨by rw [hσ2]; rfl, fun c j hc => by rw [hσ2, k_IN (by omega)], by rw [hσ2]; rfl⟩, ?_⟩
        rw [show σ2.2.1 5 11 = 31 * (31 * (σ.2.1 5 11) + 2) + 1 by rw [hσ2, k_II]]
        rw [show σ2.2.1 5 12 = σ.2.1 5 12 by rw [hσ2, k_IN (by omega)]]
        rw [show σ2.2.1 5 13 = σ.2.1 5 13 by rw [hσ2, k_IN (by omega)]]
        rw [show σ2.2.1 5 14 = σ.2.1 5 14 by rw [hσ2, k_IN (by omega)]]
        unfold te_P
        first | exact Or.inl (by omega) | exact Or.inr (Or.inl (by omega)) | exact Or.inr (Or.inr (Or.inl (by omega))) | exact Or.inr (Or.inr (Or.inr (Or.inl (by omega)))) | exact Or.inr (Or.inr (Or.inr (Or.inr (Or.inl (by omega))))) | exact Or.inr (Or.inr (Or.inr (Or.inr (Or.inr (Or.inl (by omega)))))) | exact Or.inr (Or.inr (Or.inr (Or.inr (Or.inr (Or.inr (by omega))))))
      · rw [c22]
        refine a_tableIn (pc := 22) (tgt := 61) (dflt := 63) (lo := 3) (hi := 7) (off := 39) (offs := #[34, 39, 63, 53, 58]) (len := 34) (by decide +kernel) (by decide) (by decide) (by decide) rfl (by decide) ?_
        refine a_aload_n (pc := 61) (i := 0) (by decide +kernel) rfl ?_
        refine a_aload_n (pc := 62) (i := 0) (by decide +kernel) rfl ?_
        refine b_getR (pc := 63) (b := 16) fl_X11_25 (by decide +kernel) (sh_5 hn) rfl ?_
        refine b_getR (pc := 66) (b := 20) fl_X11_251 (by decide +kernel) (sh_16 hn) rfl ?_
        refine a_iload_n (pc := 69) (i := 1) (by decide +kernel) rfl ?_
        refine b_iaload (pc := 70) (by decide +kernel) (sh_20 hn) (by omega) (by omega) (by omega) ?_
        refine b_callV (pc := 71) (c' := 0) (sl' := 0) [j_i (σ.1 20 m)] [] ml_X11_260 (by decide +kernel) rfl rfl (sh_5 hn) rfl rfl (Nat.le_of_ble_eq_true rfl) (j_fitI rfl rfl) (c_tellNote hn) (fun v n' σ' hq => ?_)
        obtain ⟨rfl, e1, e2⟩ := hq
        rw [e1, e2]; clear e1 e2
        obtain ⟨σ3, hσ3⟩ : ∃ z, z = k_sI σ 5 11 (31 * (31 * σ.2.1 5 11 + 3) + 1) := ⟨_, rfl⟩
        rw [← hσ3]
        show j_at _ _ _ [(0, .ref 5), (1, j_i m)] [j_i (1 + (σ.1 20 m))] _ _ _ _
        refine a_ireturn (pc := 74) (by decide +kernel) rfl ?_
        refine k_ret ?_
        refine ⟨_, rfl, rfl, ⟨by rw [hσ3]; rfl, fun c j hc => by rw [hσ3, k_IN (by omega)], by rw [hσ3]; rfl⟩, ?_⟩
        rw [show σ3.2.1 5 11 = 31 * (31 * (σ.2.1 5 11) + 3) + 1 by rw [hσ3, k_II]]
        rw [show σ3.2.1 5 12 = σ.2.1 5 12 by rw [hσ3, k_IN (by omega)]]
        rw [show σ3.2.1 5 13 = σ.2.1 5 13 by rw [hσ3, k_IN (by omega)]]
        rw [show σ3.2.1 5 14 = σ.2.1 5 14 by rw [hσ3, k_IN (by omega)]]
        unfold te_P
        first | exact Or.inl (by omega) | exact Or.inr (Or.inl (by omega)) | exact Or.inr (Or.inr (Or.inl (by omega))) | exact Or.inr (Or.inr (Or.inr (Or.inl (by omega)))) | exact Or.inr (Or.inr (Or.inr (Or.inr (Or.inl (by omega))))) | exact Or.inr (Or.inr (Or.inr (Or.inr (Or.inr (Or.inl (by omega)))))) | exact Or.inr (Or.inr (Or.inr (Or.inr (Or.inr (Or.inr (by omega))))))
      · rw [c22]
        refine a_tableIn (pc := 22) (tgt := 85) (dflt := 63) (lo := 3) (hi := 7) (off := 63) (offs := #[34, 39, 63, 53, 58]) (len := 34) (by decide +kernel) (by decide) (by decide) (by decide) rfl (by decide) ?_
        refine a_aload_n (pc := 85) (i := 0) (by decide +kernel) rfl ?_
        refine b_callV (pc := 86) (c' := 0) (sl' := 0) [] [] ml_X11_269 (by decide +kernel) rfl rfl (sh_5 hn) rfl rfl (Nat.le_of_ble_eq_true rfl) (j_fitI rfl rfl) (c_tellPoint hn) (fun v n' σ' hq => ?_)
        obtain ⟨rfl, e1, e2⟩ := hq
        rw [e1, e2]; clear e1 e2
        obtain ⟨σ4, hσ4⟩ : ∃ z, z = k_sI σ 5 11 (31 * σ.2.1 5 11 + 1) := ⟨_, rfl⟩
        rw [← hσ4]
        show j_at _ _ _ [(0, .ref 5), (1, j_i m)] [j_i 1] _ _ _ _
        refine a_ireturn (pc := 89) (by decide +kernel) rfl ?_
        refine k_ret ?_
        refine ⟨_, rfl, rfl, ⟨by rw [hσ4]; rfl, fun c j hc => by rw [hσ4, k_IN (by omega)], by rw [hσ4]; rfl⟩, ?_⟩
        rw [show σ4.2.1 5 11 = 31 * (σ.2.1 5 11) + 1 by rw [hσ4, k_II]]
        rw [show σ4.2.1 5 12 = σ.2.1 5 12 by rw [hσ4, k_IN (by omega)]]
        rw [show σ4.2.1 5 13 = σ.2.1 5 13 by rw [hσ4, k_IN (by omega)]]
        rw [show σ4.2.1 5 14 = σ.2.1 5 14 by rw [hσ4, k_IN (by omega)]]
        unfold te_P
        first | exact Or.inl (by omega) | exact Or.inr (Or.inl (by omega)) | exact Or.inr (Or.inr (Or.inl (by omega))) | exact Or.inr (Or.inr (Or.inr (Or.inl (by omega)))) | exact Or.inr (Or.inr (Or.inr (Or.inr (Or.inl (by omega))))) | exact Or.inr (Or.inr (Or.inr (Or.inr (Or.inr (Or.inl (by omega)))))) | exact Or.inr (Or.inr (Or.inr (Or.inr (Or.inr (Or.inr (by omega))))))
      · rw [c22]
        refine a_tableIn (pc := 22) (tgt := 75) (dflt := 63) (lo := 3) (hi := 7) (off := 53) (offs := #[34, 39, 63, 53, 58]) (len := 34) (by decide +kernel) (by decide) (by decide) (by decide) rfl (by decide) ?_
        refine a_aload_n (pc := 75) (i := 0) (by decide +kernel) rfl ?_
        refine b_callV (pc := 76) (c' := 0) (sl' := 0) [] [] ml_X11_263 (by decide +kernel) rfl rfl (sh_5 hn) rfl rfl (Nat.le_of_ble_eq_true rfl) (j_fitI rfl rfl) (c_tellSee hn) (fun v n' σ' hq => ?_)
        obtain ⟨rfl, e1, e2⟩ := hq
        rw [e1, e2]; clear e1 e2
        obtain ⟨σ5, hσ5⟩ : ∃ z, z = k_sI σ 5 11 (31 * σ.2.1 5 11 + 4) := ⟨_, rfl⟩
        rw [← hσ5]
        show j_at _ _ _ [(0, .ref 5), (1, j_i m)] [j_i 5] _ _ _ _
        refine a_ireturn (pc := 79) (by decide +kernel) rfl ?_
        refine k_ret ?_
        refine ⟨_, rfl, rfl, ⟨by rw [hσ5]; rfl, fun c j hc => by rw [hσ5, k_IN (by omega)], by rw [hσ5]; rfl⟩, ?_⟩
        rw [show σ5.2.1 5 11 = 31 * (σ.2.1 5 11) + 4 by rw [hσ5, k_II]]
        rw [show σ5.2.1 5 12 = σ.2.1 5 12 by rw [hσ5, k_IN (by omega)]]
        rw [show σ5.2.1 5 13 = σ.2.1 5 13 by rw [hσ5, k_IN (by omega)]]
        rw [show σ5.2.1 5 14 = σ.2.1 5 14 by rw [hσ5, k_IN (by omega)]]
        unfold te_P
        first | exact Or.inl (by omega) | exact Or.inr (Or.inl (by omega)) | exact Or.inr (Or.inr (Or.inl (by omega))) | exact Or.inr (Or.inr (Or.inr (Or.inl (by omega)))) | exact Or.inr (Or.inr (Or.inr (Or.inr (Or.inl (by omega))))) | exact Or.inr (Or.inr (Or.inr (Or.inr (Or.inr (Or.inl (by omega)))))) | exact Or.inr (Or.inr (Or.inr (Or.inr (Or.inr (Or.inr (by omega))))))
      · rw [c22]
        refine a_tableIn (pc := 22) (tgt := 80) (dflt := 63) (lo := 3) (hi := 7) (off := 58) (offs := #[34, 39, 63, 53, 58]) (len := 34) (by decide +kernel) (by decide) (by decide) (by decide) rfl (by decide) ?_
        refine a_aload_n (pc := 80) (i := 0) (by decide +kernel) rfl ?_
        refine b_callV (pc := 81) (c' := 0) (sl' := 0) [] [] ml_X11_266 (by decide +kernel) rfl rfl (sh_5 hn) rfl rfl (Nat.le_of_ble_eq_true rfl) (j_fitI rfl rfl) (c_tellAlso hn) (fun v n' σ' hq => ?_)
        obtain ⟨rfl, e1, e2⟩ := hq
        rw [e1, e2]; clear e1 e2
        obtain ⟨σ6, hσ6⟩ : ∃ z, z = k_sI σ 5 11 (31 * (31 * σ.2.1 5 11 + 5) + 4) := ⟨_, rfl⟩
        rw [← hσ6]
        show j_at _ _ _ [(0, .ref 5), (1, j_i m)] [j_i (5 + 1)] _ _ _ _
        refine a_ireturn (pc := 84) (by decide +kernel) rfl ?_
        refine k_ret ?_
        refine ⟨_, rfl, rfl, ⟨by rw [hσ6]; rfl, fun c j hc => by rw [hσ6, k_IN (by omega)], by rw [hσ6]; rfl⟩, ?_⟩
        rw [show σ6.2.1 5 11 = 31 * (31 * (σ.2.1 5 11) + 5) + 4 by rw [hσ6, k_II]]
        rw [show σ6.2.1 5 12 = σ.2.1 5 12 by rw [hσ6, k_IN (by omega)]]
        rw [show σ6.2.1 5 13 = σ.2.1 5 13 by rw [hσ6, k_IN (by omega)]]
        rw [show σ6.2.1 5 14 = σ.2.1 5 14 by rw [hσ6, k_IN (by omega)]]
        unfold te_P
        first | exact Or.inl (by omega) | exact Or.inr (Or.inl (by omega)) | exact Or.inr (Or.inr (Or.inl (by omega))) | exact Or.inr (Or.inr (Or.inr (Or.inl (by omega)))) | exact Or.inr (Or.inr (Or.inr (Or.inr (Or.inl (by omega))))) | exact Or.inr (Or.inr (Or.inr (Or.inr (Or.inr (Or.inl (by omega)))))) | exact Or.inr (Or.inr (Or.inr (Or.inr (Or.inr (Or.inr (by omega))))))
    · exact absurd c8 (by decide)
  · show j_at _ _ _ [(0, .ref 5), (1, j_i m)] [j_i 0] _ _ _ _
    have i5 := bi_n p5
    refine a_if_ne (pc := 8) (off := 5) (tgt := 13) (by decide +kernel) (by decide) (by omega) (fun c8 => ?_) (fun c8 => ?_)
    · exact absurd c8 (by decide)
    · refine a_iconst (pc := 11) (n := (-1)) (by decide +kernel) ?_
      refine a_ireturn (pc := 12) (by decide +kernel) rfl ?_
      refine k_ret ?_
      refine ⟨_, rfl, rfl, ⟨rfl, fun _ _ _ => rfl, rfl⟩, ?_⟩
      unfold te_P
      first | exact Or.inl (by omega) | exact Or.inr (Or.inl (by omega)) | exact Or.inr (Or.inr (Or.inl (by omega))) | exact Or.inr (Or.inr (Or.inr (Or.inl (by omega)))) | exact Or.inr (Or.inr (Or.inr (Or.inr (Or.inl (by omega))))) | exact Or.inr (Or.inr (Or.inr (Or.inr (Or.inr (Or.inl (by omega)))))) | exact Or.inr (Or.inr (Or.inr (Or.inr (Or.inr (Or.inr (by omega))))))
set_option maxHeartbeats 4000000 in
theorem d_tell {G : j_G} {X : k_X} {n : Nat} {ρ σ : k_St} (hR : RR n ρ) (hC : CS ρ σ) {m : Int} (hm : -2147483648 ≤ m ∧ m ≤ 2147483647) {r : Int} (hP : te_P ρ m r (σ.2.1 5 11) (σ.2.1 5 12) (σ.2.1 5 13) (σ.2.1 5 14))  : k_run G X mX12_tell [.ref 68, j_i m] n σ 0 0 (fun v2 n2 σ2 => v2 = some (j_i r) ∧ RR n2 σ2) := by
  have hR0 := CS_R hC hR
  obtain ⟨hK, hAc, hNm, hPs, hPt, hSm, hIx⟩ := id hR0
  have hn := RR_n hR
  have hk := hK.1
  have hwh : h_wf σ 8 := hk.2.1
  have hwm : m_wf σ 16 := hk.2.2
  have hW : 0 ≤ σ.2.1 6 1 ∧ σ.2.1 6 1 ≤ 300 := hk.1
  have hg := hK.2.2.2
  obtain ⟨⟨hgW, hgE, hgM⟩, hgh, hgm⟩ := KR_rg hk hK.2.1
  have hW0 : σ.2.1 6 1 = σ.1 69 0 := hK.2.1.1.1
  have hE0 : σ.2.1 8 3 = σ.1 69 301 := hK.2.1.2.1.1
  have hM0 : σ.2.1 16 5 = σ.1 69 1382 := hK.2.1.2.2.1
  obtain ⟨s1, s2, s3, s4, s5, s6, s7⟩ := hSm
  have e2 : bi (m_is ρ m) = bi (d_ms σ m) := bi_c (by rw [RK_m' hK]; unfold m_is; rw [hC.1, hC.2.1 16 5 (by omega)])
  have e3 : ρ.1 17 m = σ.1 17 m := by rw [hC.1]
  have e4 : ρ.1 18 m = σ.1 18 m := by rw [hC.1]
  have e5 : ρ.1 20 m = σ.1 20 m := by rw [hC.1]
  refine k_enter (by decide +kernel) (Nat.le_of_ble_eq_true rfl) ?_
  show j_at _ _ _ [(0, .ref 68), (1, j_i m)] [] _ _ _ _
  refine a_aload_n (pc := 0) (i := 0) (by decide +kernel) rfl ?_
  refine a_iload_n (pc := 1) (i := 1) (by decide +kernel) rfl ?_
  refine b_callV (pc := 2) (c' := 0) (sl' := 0) [j_i m] [] ml_X12_254 (by decide +kernel) rfl rfl (sh_68 hn) rfl rfl (Nat.le_of_ble_eq_true rfl) (j_fitI rfl rfl) (s_disMark hn hg (by omega) (by omega)) (fun v n' σ' hq => ?_)
  obtain ⟨x, rfl, e1, e2, hx⟩ := hq
  rw [e1, e2]; clear e1 e2
  rcases hx with ⟨rfl, p2⟩ | ⟨rfl, p2⟩
  · show j_at _ _ _ [(0, .ref 68), (1, j_i m)] [j_i 1] _ _ _ _
    have i2 := bi_y p2
    have u2 := p2.1
    have w2 := p2.2.1
    obtain ⟨z1, z2, z3, _⟩ := KR_m hK u2 w2
    have z4 := (hgm m u2 w2).2.1
    refine a_if_ne (pc := 5) (off := 5) (tgt := 10) (by decide +kernel) (by decide) (by omega) (fun c5 => ?_) (fun c5 => ?_)
    · refine a_aload_n (pc := 10) (i := 0) (by decide +kernel) rfl ?_
      refine a_iload_n (pc := 11) (i := 1) (by decide +kernel) rfl ?_
      refine b_pureV (pc := 12) [j_i m] [] ml_X12_257 (by decide +kernel) rfl rfl (sh_68 hn) rfl rfl (Nat.le_of_ble_eq_true rfl) (j_fitI rfl rfl) (s_dkindOf hn (by omega)) ?_
      have q1 := hg (1383 + 7 * m + 1)
      show j_at _ _ _ [(0, .ref 68), (1, j_i m)] [j_i (σ.1 69 (1383 + 7 * m + 1))] _ _ _ _
      by_cases c15 : σ.1 69 (1383 + 7 * m + 1) < 3 ∨ 7 < σ.1 69 (1383 + 7 * m + 1)
      · refine a_tableOut (pc := 15) (tgt := 99) (dflt := 84) (lo := 3) (hi := 7) (offs := #[33, 46, 84, 64, 71]) (len := 33) (by decide +kernel) (by omega) c15 (by decide) ?_
        refine a_aload_n (pc := 99) (i := 0) (by decide +kernel) rfl ?_
        refine a_iconst (pc := 100) (n := 1) (by decide +kernel) ?_
        refine b_callV (pc := 101) (c' := 0) (sl' := 0) [j_i 1] [] ml_X12_278 (by decide +kernel) rfl rfl (sh_68 hn) rfl rfl (Nat.le_of_ble_eq_true rfl) (j_fitI rfl rfl) (s_dbegins hn) (fun v n' σ' hq => ?_)
        obtain ⟨rfl, e1, e2⟩ := hq
        rw [e1, e2]; clear e1 e2
        obtain ⟨σ2, hσ2⟩ : ∃ z, z = k_sI σ 68 1 (31 * σ.2.1 68 1 + 1) := ⟨_, rfl⟩
        rw [← hσ2]
        rw [show σ.2.1 68 1 = σ.2.1 68 1 by rfl] at hσ2
        show j_at _ _ _ [(0, .ref 68), (1, j_i m)] [] _ _ _ _
        refine a_iconst (pc := 104) (n := 1) (by decide +kernel) ?_
        refine a_ireturn (pc := 105) (by decide +kernel) rfl ?_
        refine k_ret ?_
        unfold te_P at hP
        rw [e2] at hP
        have hr : (1 : Int) = r := by rcases hP with hP | hP | hP | hP | hP | hP | hP <;> omega
        refine ⟨by rw [hr], RR_scs (σ := ρ) ⟨fun c _ => by rw [hσ2]; show σ.1 c = _; rw [hC.1], fun c j _ g1 g2 => by rw [hσ2, k_IN (by omega)]; exact hC.2.1 c j (by omega), by rw [hσ2]; exact hC.2.2⟩ ?_ hR⟩
        unfold RSmall
        rw [show σ2.2.1 5 10 = σ.2.1 5 10 by rw [hσ2, k_IN (by omega)]]
        rw [show σ2.2.1 5 11 = σ.2.1 5 11 by rw [hσ2, k_IN (by omega)]]
        rw [show σ2.2.1 5 12 = σ.2.1 5 12 by rw [hσ2, k_IN (by omega)]]
        rw [show σ2.2.1 5 13 = σ.2.1 5 13 by rw [hσ2, k_IN (by omega)]]
        rw [show σ2.2.1 5 14 = σ.2.1 5 14 by rw [hσ2, k_IN (by omega)]]
        rw [show σ2.2.1 68 11 = σ.2.1 68 11 by rw [hσ2, k_IN (by omega)]]
        rw [show σ2.2.1 68 1 = 31 * (σ.2.1 68 1) + 1 by rw [hσ2, k_II]]
        rw [show σ2.2.1 68 0 = σ.2.1 68 0 by rw [hσ2, k_IN (by omega)]]
        rw [show σ2.2.1 68 52 = σ.2.1 68 52 by rw [hσ2, k_IN (by omega)]]
        rw [show σ2.2.1 68 53 = σ.2.1 68 53 by rw [hσ2, k_IN (by omega)]]
        rcases hP with hP | hP | hP | hP | hP | hP | hP <;> omega
      rcases (show σ.1 69 (1383 + 7 * m + 1) = 3 ∨ σ.1 69 (1383 + 7 * m + 1) = 4 ∨ σ.1 69 (1383 + 7 * m + 1) = 5 ∨ σ.1 69 (1383 + 7 * m + 1) = 6 ∨ σ.1 69 (1383 + 7 * m + 1) = 7 by omega) with c15 | c15 | c15 | c15 | c15
      · rw [c15]
        refine a_tableIn (pc := 15) (tgt := 48) (dflt := 84) (lo := 3) (hi := 7) (off := 33) (offs := #[33, 46, 84, 64, 71]) (len := 33) (by decide +kernel) (by decide) (by decide) (by decide) rfl (by decide) ?_
        refine a_aload_n (pc := 48) (i := 0) (by decide +kernel) rfl ?_
        refine a_iconst (pc := 49) (n := 2) (by decide +kernel) ?_
        refine b_callV (pc := 50) (c' := 0) (sl' := 0) [j_i 2] [] ml_X12_278 (by decide +kernel) rfl rfl (sh_68 hn) rfl rfl (Nat.le_of_ble_eq_true rfl) (j_fitI rfl rfl) (s_dbegins hn) (fun v n' σ' hq => ?_)
        obtain ⟨rfl, e1, e2⟩ := hq
        rw [e1, e2]; clear e1 e2
        obtain ⟨σ3, hσ3⟩ : ∃ z, z = k_sI σ 68 1 (31 * σ.2.1 68 1 + 2) := ⟨_, rfl⟩
        rw [← hσ3]
        rw [show σ.2.1 68 1 = σ.2.1 68 1 by rfl] at hσ3
        show j_at _ _ _ [(0, .ref 68), (1, j_i m)] [] _ _ _ _
        refine a_aload_n (pc := 53) (i := 0) (by decide +kernel) rfl ?_
        refine a_iconst (pc := 54) (n := 1) (by decide +kernel) ?_
        refine b_callV (pc := 55) (c' := 0) (sl' := 0) [j_i 1] [] ml_X12_278 (by decide +kernel) rfl rfl (sh_68 hn) rfl rfl (Nat.le_of_ble_eq_true rfl) (j_fitI rfl rfl) (s_dbegins hn) (fun v n' σ' hq => ?_)
        obtain ⟨rfl, e1, e2⟩ := hq
        rw [e1, e2]; clear e1 e2
        obtain ⟨σ4, hσ4⟩ : ∃ z, z = k_sI σ3 68 1 (31 * σ3.2.1 68 1 + 1) := ⟨_, rfl⟩
        rw [← hσ4]
        rw [show σ3.2.1 68 1 = 31 * (σ.2.1 68 1) + 2 by rw [hσ3, k_II]] at hσ4
        show j_at _ _ _ [(0, .ref 68), (1, j_i m)] [] _ _ _ _
        refine a_bipush (pc := 58) (n := 10) (by decide +kernel) rfl ?_
        refine a_ireturn (pc := 60) (by decide +kernel) rfl ?_
        refine k_ret ?_
        unfold te_P at hP
        rw [e2] at hP
        have hr : (10 : Int) = r := by rcases hP with hP | hP | hP | hP | hP | hP | hP <;> omega
        refine ⟨by rw [hr], RR_scs (σ := ρ) ⟨fun c _ => by rw [hσ4, hσ3]; show σ.1 c = _; rw [hC.1], fun c j _ g1 g2 => by rw [hσ4, k_IN (by omega), hσ3, k_IN (by omega)]; exact hC.2.1 c j (by omega), by rw [hσ4, hσ3]; exact hC.2.2⟩ ?_ hR⟩
        unfold RSmall
        rw [show σ4.2.1 5 10 = σ.2.1 5 10 by rw [hσ4, k_IN (by omega), hσ3, k_IN (by omega)]]
        rw [show σ4.2.1 5 11 = σ.2.1 5 11 by rw [hσ4, k_IN (by omega), hσ3, k_IN (by omega)]]
        rw [show σ4.2.1 5 12 = σ.2.1 5 12 by rw [hσ4, k_IN (by omega), hσ3, k_IN (by omega)]]
        rw [show σ4.2.1 5 13 = σ.2.1 5 13 by rw [hσ4, k_IN (by omega), hσ3, k_IN (by omega)]]
        rw [show σ4.2.1 5 14 = σ.2.1 5 14 by rw [hσ4, k_IN (by omega), hσ3, k_IN (by omega)]]
        rw [show σ4.2.1 68 11 = σ.2.1 68 11 by rw [hσ4, k_IN (by omega), hσ3, k_IN (by omega)]]
        rw [show σ4.2.1 68 1 = 31 * (31 * (σ.2.1 68 1) + 2) + 1 by rw [hσ4, k_II]]
        rw [show σ4.2.1 68 0 = σ.2.1 68 0 by rw [hσ4, k_IN (by omega), hσ3, k_IN (by omega)]]
        rw [show σ4.2.1 68 52 = σ.2.1 68 52 by rw [hσ4, k_IN (by omega), hσ3, k_IN (by omega)]]
        rw [show σ4.2.1 68 53 = σ.2.1 68 53 by rw [hσ4, k_IN (by omega), hσ3, k_IN (by omega)]]
        rcases hP with hP | hP | hP | hP | hP | hP | hP <;> omega
      · rw [c15]
        refine a_tableIn (pc := 15) (tgt := 61) (dflt := 84) (lo := 3) (hi := 7) (off := 46) (offs := #[33, 46, 84, 64, 71]) (len := 33) (by decide +kernel) (by decide) (by decide) (by decide) rfl (by decide) ?_
        refine a_aload_n (pc := 61) (i := 0) (by decide +kernel) rfl ?_
        refine a_iconst (pc := 62) (n := 3) (by decide +kernel) ?_
        refine b_callV (pc := 63) (c' := 0) (sl' := 0) [j_i 3] [] ml_X12_278 (by decide +kernel) rfl rfl (sh_68 hn) rfl rfl (Nat.le_of_ble_eq_true rfl) (j_fitI rfl rfl) (s_dbegins hn) (fun v n' σ' hq => ?_)
        obtain ⟨rfl, e1, e2⟩ := hq
        rw [e1, e2]; clear e1 e2
        obtain ⟨σ5, hσ5⟩ : ∃ z, z = k_sI σ 68 1 (31 * σ.2.1 68 1 + 3) := ⟨_, rfl⟩
        rw [← hσ5]
        rw [show σ.2.1 68 1 = σ.2.1 68 1 by rfl] at hσ5
        show j_at _ _ _ [(0, .ref 68), (1, j_i m)] [] _ _ _ _
        refine a_aload_n (pc := 66) (i := 0) (by decide +kernel) rfl ?_
        refine a_iconst (pc := 67) (n := 1) (by decide +kernel) ?_
        refine b_callV (pc := 68) (c' := 0) (sl' := 0) [j_i 1] [] ml_X12_278 (by decide +kernel) rfl rfl (sh_68 hn) rfl rfl (Nat.le_of_ble_eq_true rfl) (j_fitI rfl rfl) (s_dbegins hn) (fun v n' σ' hq => ?_)
        obtain ⟨rfl, e1, e2⟩ := hq
        rw [e1, e2]; clear e1 e2
        obtain ⟨σ6, hσ6⟩ : ∃ z, z = k_sI σ5 68 1 (31 * σ5.2.1 68 1 + 1) := ⟨_, rfl⟩
        rw [← hσ6]
        rw [show σ5.2.1 68 1 = 31 * (σ.2.1 68 1) + 3 by rw [hσ5, k_II]] at hσ6
        show j_at _ _ _ [(0, .ref 68), (1, j_i m)] [] _ _ _ _
        refine a_iconst (pc := 71) (n := 1) (by decide +kernel) ?_
        refine a_aload_n (pc := 72) (i := 0) (by decide +kernel) rfl ?_
        refine a_iload_n (pc := 73) (i := 1) (by decide +kernel) rfl ?_
        refine b_pureV (pc := 74) [j_i m] [j_i 1] ml_X12_269 (by decide +kernel) rfl rfl (sh_68 hn) rfl rfl (Nat.le_of_ble_eq_true rfl) (j_fitI rfl rfl) (s_dnoteOf hn (by omega)) ?_
        rw [show σ6.1 = σ.1 by rw [hσ6, hσ5]; rfl]
        have q7 := hg (1383 + 7 * m + 6)
        show j_at _ _ _ [(0, .ref 68), (1, j_i m)] [j_i (σ.1 69 (1383 + 7 * m + 6)), j_i 1] _ _ _ _
        refine a_iadd (pc := 77) (by decide +kernel) ?_
        refine a_ireturn (pc := 78) (by decide +kernel) rfl ?_
        refine k_ret ?_
        unfold te_P at hP
        rw [e2] at hP
        have hr : (1 + (σ.1 69 (1383 + 7 * m + 6)) : Int) = r := by rcases hP with hP | hP | hP | hP | hP | hP | hP <;> omega
        refine ⟨by rw [hr], RR_scs (σ := ρ) ⟨fun c _ => by rw [hσ6, hσ5]; show σ.1 c = _; rw [hC.1], fun c j _ g1 g2 => by rw [hσ6, k_IN (by omega), hσ5, k_IN (by omega)]; exact hC.2.1 c j (by omega), by rw [hσ6, hσ5]; exact hC.2.2⟩ ?_ hR⟩
        unfold RSmall
        rw [show σ6.2.1 5 10 = σ.2.1 5 10 by rw [hσ6, k_IN (by omega), hσ5, k_IN (by omega)]]
        rw [show σ6.2.1 5 11 = σ.2.1 5 11 by rw [hσ6, k_IN (by omega), hσ5, k_IN (by omega)]]
        rw [show σ6.2.1 5 12 = σ.2.1 5 12 by rw [hσ6, k_IN (by omega), hσ5, k_IN (by omega)]]
        rw [show σ6.2.1 5 13 = σ.2.1 5 13 by rw [hσ6, k_IN (by omega), hσ5, k_IN (by omega)]]
        rw [show σ6.2.1 5 14 = σ.2.1 5 14 by rw [hσ6, k_IN (by omega), hσ5, k_IN (by omega)]]
        rw [show σ6.2.1 68 11 = σ.2.1 68 11 by rw [hσ6, k_IN (by omega), hσ5, k_IN (by omega)]]
        rw [show σ6.2.1 68 1 = 31 * (31 * (σ.2.1 68 1) + 3) + 1 by rw [hσ6, k_II]]
        rw [show σ6.2.1 68 0 = σ.2.1 68 0 by rw [hσ6, k_IN (by omega), hσ5, k_IN (by omega)]]
        rw [show σ6.2.1 68 52 = σ.2.1 68 52 by rw [hσ6, k_IN (by omega), hσ5, k_IN (by omega)]]
        rw [show σ6.2.1 68 53 = σ.2.1 68 53 by rw [hσ6, k_IN (by omega), hσ5, k_IN (by omega)]]
        rcases hP with hP | hP | hP | hP | hP | hP | hP <;> omega
      · rw [c15]
        refine a_tableIn (pc := 15) (tgt := 99) (dflt := 84) (lo := 3) (hi := 7) (off := 84) (offs := #[33, 46, 84, 64, 71]) (len := 33) (by decide +kernel) (by decide) (by decide) (by decide) rfl (by decide) ?_
        refine a_aload_n (pc := 99) (i := 0) (by decide +kernel) rfl ?_
        refine a_iconst (pc := 100) (n := 1) (by decide +kernel) ?_
        refine b_callV (pc := 101) (c' := 0) (sl' := 0) [j_i 1] [] ml_X12_278 (by decide +kernel) rfl rfl (sh_68 hn) rfl rfl (Nat.le_of_ble_eq_true rfl) (j_fitI rfl rfl) (s_dbegins hn) (fun v n' σ' hq => ?_)
        obtain ⟨rfl, e1, e2⟩ := hq
        rw [e1, e2]; clear e1 e2
        obtain ⟨σ8, hσ8⟩ : ∃ z, z = k_sI σ 68 1 (31 * σ.2.1 68 1 + 1) := ⟨_, rfl⟩
        rw [← hσ8]
        rw [show σ.2.1 68 1 = σ.2.1 68 1 by rfl] at hσ8
        show j_at _ _ _ [(0, .ref 68), (1, j_i m)] [] _ _ _ _
        refine a_iconst (pc := 104) (n := 1) (by decide +kernel) ?_
        refine a_ireturn (pc := 105) (by decide +kernel) rfl ?_
        refine k_ret ?_
        unfold te_P at hP
        rw [e2] at hP
        have hr : (1 : Int) = r := by rcases hP with hP | hP | hP | hP | hP | hP | hP <;> omega
        refine ⟨by rw [hr], RR_scs (σ := ρ) ⟨fun c _ => by rw [hσ8]; show σ.1 c = _; rw [hC.1], fun c j _ g1 g2 => by rw [hσ8, k_IN (by omega)]; exact hC.2.1 c j (by omega), by rw [hσ8]; exact hC.2.2⟩ ?_ hR⟩
        unfold RSmall
        rw [show σ8.2.1 5 10 = σ.2.1 5 10 by rw [hσ8, k_IN (by omega)]]
        rw [show σ8.2.1 5 11 = σ.2.1 5 11 by rw [hσ8, k_IN (by omega)]]
        rw [show σ8.2.1 5 12 = σ.2.1 5 12 by rw [hσ8, k_IN (by omega)]]
        rw [show σ8.2.1 5 13 = σ.2.1 5 13 by rw [hσ8, k_IN (by omega)]]
        rw [show σ8.2.1 5 14 = σ.2.1 5 14 by rw [hσ8, k_IN (by omega)]]
        rw [show σ8.2.1 68 11 = σ.2.1 68 11 by rw [hσ8, k_IN (by omega)]]
        rw [show σ8.2.1 68 1 = 31 * (σ.2.1 68 1) + 1 by rw [hσ8, k_II]]
        rw [show σ8.2.1 68 0 = σ.2.1 68 0 by rw [hσ8, k_IN (by omega)]]
        rw [show σ8.2.1 68 52 = σ.2.1 68 52 by rw [hσ8, k_IN (by omega)]]
        rw [show σ8.2.1 68 53 = σ.2.1 68 53 by rw [hσ8, k_IN (by omega)]]
        rcases hP with hP | hP | hP | hP | hP | hP | hP <;> omega
      · rw [c15]
        refine a_tableIn (pc := 15) (tgt := 79) (dflt := 84) (lo := 3) (hi := 7) (off := 64) (offs := #[33, 46, 84, 64, 71]) (len := 33) (by decide +kernel) (by decide) (by decide) (by decide) rfl (by decide) ?_
        refine a_aload_n (pc := 79) (i := 0) (by decide +kernel) rfl ?_
        refine a_iconst (pc := 80) (n := 4) (by decide +kernel) ?_
        refine b_callV (pc := 81) (c' := 0) (sl' := 0) [j_i 4] [] ml_X12_278 (by decide +kernel) rfl rfl (sh_68 hn) rfl rfl (Nat.le_of_ble_eq_true rfl) (j_fitI rfl rfl) (s_dbegins hn) (fun v n' σ' hq => ?_)
        obtain ⟨rfl, e1, e2⟩ := hq
        rw [e1, e2]; clear e1 e2
        obtain ⟨σ9, hσ9⟩ : ∃ z, z = k_sI σ 68 1 (31 * σ.2.1 68 1 + 4) := ⟨_, rfl⟩
        rw [← hσ9]
        rw [show σ.2.1 68 1 = σ.2.1 68 1 by rfl] at hσ9
        show j_at _ _ _ [(0, .ref 68), (1, j_i m)] [] _ _ _ _
        refine a_iconst (pc := 84) (n := 5) (by decide +kernel) ?_
        refine a_ireturn (pc := 85) (by decide +kernel) rfl ?_
        refine k_ret ?_
        unfold te_P at hP
        rw [e2] at hP
        have hr : (5 : Int) = r := by rcases hP with hP | hP | hP | hP | hP | hP | hP <;> omega
        refine ⟨by rw [hr], RR_scs (σ := ρ) ⟨fun c _ => by rw [hσ9]; show σ.1 c = _; rw [hC.1], fun c j _ g1 g2 => by rw [hσ9, k_IN (by omega)]; exact hC.2.1 c j (by omega), by rw [hσ9]; exact hC.2.2⟩ ?_ hR⟩
        unfold RSmall
        rw [show σ9.2.1 5 10 = σ.2.1 5 10 by rw [hσ9, k_IN (by omega)]]
        rw [show σ9.2.1 5 11 = σ.2.1 5 11 by rw [hσ9, k_IN (by omega)]]
        rw [show σ9.2.1 5 12 = σ.2.1 5 12 by rw [hσ9, k_IN (by omega)]]
        rw [show σ9.2.1 5 13 = σ.2.1 5 13 by rw [hσ9, k_IN (by omega)]]
        rw [show σ9.2.1 5 14 = σ.2.1 5 14 by rw [hσ9, k_IN (by omega)]]
        rw [show σ9.2.1 68 11 = σ.2.1 68 11 by rw [hσ9, k_IN (by omega)]]
        rw [show σ9.2.1 68 1 = 31 * (σ.2.1 68 1) + 4 by rw [hσ9, k_II]]
        rw [show σ9.2.1 68 0 = σ.2.1 68 0 by rw [hσ9, k_IN (by omega)]]
        rw [show σ9.2.1 68 52 = σ.2.1 68 52 by rw [hσ9, k_IN (by omega)]]
        rw [show σ9.2.1 68 53 = σ.2.1 68 53 by rw [hσ9, k_IN (by omega)]]
        rcases hP with hP | hP | hP | hP | hP | hP | hP <;> omega
      · rw [c15]
        refine a_tableIn (pc := 15) (tgt := 86) (dflt := 84) (lo := 3) (hi := 7) (off := 71) (offs := #[33, 46, 84, 64, 71]) (len := 33) (by decide +kernel) (by decide) (by decide) (by decide) rfl (by decide) ?_
        refine a_aload_n (pc := 86) (i := 0) (by decide +kernel) rfl ?_
        refine a_iconst (pc := 87) (n := 5) (by decide +kernel) ?_
        refine b_callV (pc := 88) (c' := 0) (sl' := 0) [j_i 5] [] ml_X12_278 (by decide +kernel) rfl rfl (sh_68 hn) rfl rfl (Nat.le_of_ble_eq_true rfl) (j_fitI rfl rfl) (s_dbegins hn) (fun v n' σ' hq => ?_)
        obtain ⟨rfl, e1, e2⟩ := hq
        rw [e1, e2]; clear e1 e2
        obtain ⟨σ10, hσ10⟩ : ∃ z, z = k_sI σ 68 1 (31 * σ.2.1 68 1 + 5) := ⟨_, rfl⟩
        rw [← hσ10]
        rw [show σ.2.1 68 1 = σ.2.1 68 1 by rfl] at hσ10
        show j_at _ _ _ [(0, .ref 68), (1, j_i m)] [] _ _ _ _
        refine a_aload_n (pc := 91) (i := 0) (by decide +kernel) rfl ?_
        refine a_iconst (pc := 92) (n := 4) (by decide +kernel) ?_
        refine b_callV (pc := 93) (c' := 0) (sl' := 0) [j_i 4] [] ml_X12_278 (by decide +kernel) rfl rfl (sh_68 hn) rfl rfl (Nat.le_of_ble_eq_true rfl) (j_fitI rfl rfl) (s_dbegins hn) (fun v n' σ' hq => ?_)
        obtain ⟨rfl, e1, e2⟩ := hq
        rw [e1, e2]; clear e1 e2
        obtain ⟨σ11, hσ11⟩ : ∃ z, z = k_sI σ10 68 1 (31 * σ10.2.1 68 1 + 4) := ⟨_, rfl⟩
        rw [← hσ11]
        rw [show σ10.2.1 68 1 = 31 * (σ.2.1 68 1) + 5 by rw [hσ10, k_II]] at hσ11
        show j_at _ _ _ [(0, .ref 68), (1, j_i m)] [] _ _ _ _
        refine a_bipush (pc := 96) (n := 6) (by decide +kernel) rfl ?_
        refine a_ireturn (pc := 98) (by decide +kernel) rfl ?_
        refine k_ret ?_
        unfold te_P at hP
        rw [e2] at hP
        have hr : (6 : Int) = r := by rcases hP with hP | hP | hP | hP | hP | hP | hP <;> omega
        refine ⟨by rw [hr], RR_scs (σ := ρ) ⟨fun c _ => by rw [hσ11, hσ10]; show σ.1 c = _; rw [hC.1], fun c j _ g1 g2 => by rw [hσ11, k_IN (by omega), hσ10, k_IN (by omega)]; exact hC.2.1 c j (by omega), by rw [hσ11, hσ10]; exact hC.2.2⟩ ?_ hR⟩
        unfold RSmall
        rw [show σ11.2.1 5 10 = σ.2.1 5 10 by rw [hσ11, k_IN (by omega), hσ10, k_IN (by omega)]]
        rw [show σ11.2.1 5 11 = σ.2.1 5 11 by rw [hσ11, k_IN (by omega), hσ10, k_IN (by omega)]]
        rw [show σ11.2.1 5 12 = σ.2.1 5 12 by rw [hσ11, k_IN (by omega), hσ10, k_IN (by omega)]]
        rw [show σ11.2.1 5 13 = σ.2.1 5 13 by rw [hσ11, k_IN (by omega), hσ10, k_IN (by omega)]]
        rw [show σ11.2.1 5 14 = σ.2.1 5 14 by rw [hσ11, k_IN (by omega), hσ10, k_IN (by omega)]]
        rw [show σ11.2.1 68 11 = σ.2.1 68 11 by rw [hσ11, k_IN (by omega), hσ10, k_IN (by omega)]]
        rw [show σ11.2.1 68 1 = 31 * (31 * (σ.2.1 68 1) + 5) + 4 by rw [hσ11, k_II]]
        rw [show σ11.2.1 68 0 = σ.2.1 68 0 by rw [hσ11, k_IN (by omega), hσ10, k_IN (by omega)]]
        rw [show σ11.2.1 68 52 = σ.2.1 68 52 by rw [hσ11, k_IN (by omega), hσ10, k_IN (by omega)]]
        rw [show σ11.2.1 68 53 = σ.2.1 68 53 by rw [hσ11, k_IN (by omega), hσ10, k_IN (by omega)]]
        rcases hP with hP | hP | hP | hP | hP | hP | hP <;> omega
    · exact absurd c5 (by decide)
  · show j_at _ _ _ [(0, .ref 68), (1, j_i m)] [j_i 0] _ _ _ _
    have i2 := bi_n p2
    refine a_if_ne (pc := 5) (off := 5) (tgt := 10) (by decide +kernel) (by decide) (by omega) (fun c5 => ?_) (fun c5 => ?_)
    · exact absurd c5 (by decide)
    · refine a_iconst (pc := 8) (n := (-1)) (by decide +kernel) ?_
      refine a_ireturn (pc := 9) (by decide +kernel) rfl ?_
      refine k_ret ?_
      unfold te_P at hP
      rw [e2] at hP
      have hr : ((-1) : Int) = r := by rcases hP with hP | hP | hP | hP | hP | hP | hP <;> omega
      refine ⟨by rw [hr], RR_scs (σ := ρ) ⟨fun c _ => by rw [hC.1], fun c j _ g1 g2 => hC.2.1 c j (by omega), hC.2.2⟩ ?_ hR⟩
      unfold RSmall
      rcases hP with hP | hP | hP | hP | hP | hP | hP <;> omega
set_option maxHeartbeats 4000000 in
theorem p_tell {G : j_G} {X : k_X} {n : Nat} {σ : k_St} (hR : RR n σ) {m : Int} (hm : -2147483648 ≤ m ∧ m ≤ 2147483647)  : pr_ok G X mX11_tell mX12_tell [j_i m] n σ 0 0 := by
  refine ⟨_, c_tell hR hm , fun v n' σ' hq => ?_⟩
  obtain ⟨r, hv, rfl, hC, hP⟩ := hq
  exact ⟨RR_n hR, r, hv, d_tell hR hC hm  hP⟩
def mk_P (σ : k_St) (m w r : Int) : Prop := (bi (m_is σ m) = 0 ∧ r = -1) ∨ (bi (m_is σ m) = 1 ∧ w = 0 ∧ r = σ.1 17 m) ∨ (bi (m_is σ m) = 1 ∧ w = 1 ∧ r = σ.1 18 m) ∨ (bi (m_is σ m) = 1 ∧ w = 2 ∧ r = f_head (σ.1 19 m) 0) ∨ (bi (m_is σ m) = 1 ∧ w = 3 ∧ r = f_head (σ.1 19 m) 1) ∨ (bi (m_is σ m) = 1 ∧ w = 4 ∧ r = f_head (σ.1 19 m) 2) ∨ (bi (m_is σ m) = 1 ∧ w = 5 ∧ r = σ.1 20 m) ∨ (bi (m_is σ m) = 1 ∧ w = 6 ∧ r = f_page (σ.1 18 m) (σ.2.1 5 10)) ∨ (bi (m_is σ m) = 1 ∧ w < 0 ∧ r = -2) ∨ (bi (m_is σ m) = 1 ∧ 6 < w ∧ r = -2)
set_option maxHeartbeats 4000000 in
theorem c_marked {G : j_G} {X : k_X} {n : Nat} {σ : k_St} (hR : RR n σ) {m : Int} (hm : -2147483648 ≤ m ∧ m ≤ 2147483647) {w : Int} (hw : -2147483648 ≤ w ∧ w ≤ 2147483647)  : k_run G X mX11_marked [.ref 5, j_i m, j_i w] n σ 0 0 (fun v n' σ' => ∃ r : Int, v = some (j_i r) ∧ n' = n ∧ σ' = σ ∧ mk_P σ m w r) := by
  obtain ⟨hK, hAc, hNm, hPs, hPt, hSm, hIx⟩ := id hR
  have hn := RR_n hR
  have hk := hK.1
  have hwh : h_wf σ 8 := hk.2.1
  have hwm : m_wf σ 16 := hk.2.2
  have hW : 0 ≤ σ.2.1 6 1 ∧ σ.2.1 6 1 ≤ 300 := hk.1
  have hfl := hSm.1
  refine k_enter (by decide +kernel) (Nat.le_of_ble_eq_true rfl) ?_
  show j_at _ _ _ [(0, .ref 5), (1, j_i m), (2, j_i w)] [] _ _ _ _
  refine a_aload_n (pc := 0) (i := 0) (by decide +kernel) rfl ?_
  refine b_getR (pc := 1) (b := 16) fl_X11_25 (by decide +kernel) (sh_5 hn) rfl ?_
  refine a_iload_n (pc := 4) (i := 1) (by decide +kernel) rfl ?_
  refine b_callV (pc := 5) (c' := 0) (sl' := 0) [j_i m] [] ml_X11_240 (by decide +kernel) rfl rfl (sh_16 hn) rfl rfl (Nat.le_of_ble_eq_true rfl) (j_fitI rfl rfl) (s_mhas hn hwm (by omega)) (fun v n' σ' hq => ?_)
  obtain ⟨x, rfl, e1, e2, hx⟩ := hq
  rw [e1, e2]; clear e1 e2
  rcases hx with ⟨rfl, p5⟩ | ⟨rfl, p5⟩
  · show j_at _ _ _ [(0, .ref 5), (1, j_i m), (2, j_i w)] [j_i 1] _ _ _ _
    have i5 := bi_y p5
    have u5 := p5.1
    have w5 := p5.2.1
    have km : (0 ≤ σ.1 17 m ∧ σ.1 17 m ≤ 7) ∧ (0 ≤ σ.1 18 m ∧ σ.1 18 m ≤ 300) ∧ (0 ≤ σ.1 19 m ∧ σ.1 19 m ≤ 29790) ∧ (0 ≤ σ.1 20 m ∧ σ.1 20 m ≤ 99) := hwm.2.2 m u5 w5
    have hmM := hwm.1
    refine a_if_ne (pc := 8) (off := 5) (tgt := 13) (by decide +kernel) (by decide) (by omega) (fun c8 => ?_) (fun c8 => ?_)
    · refine a_iload_n (pc := 13) (i := 2) (by decide +kernel) rfl ?_
      by_cases c14 : w < 0 ∨ 6 < w
      · refine a_tableOut (pc := 14) (tgt := 115) (dflt := 101) (lo := 0) (hi := 6) (offs := #[42, 52, 62, 62, 62, 74, 84]) (len := 42) (by decide +kernel) (by omega) c14 (by decide) ?_
        refine a_bipush (pc := 115) (n := (-2)) (by decide +kernel) rfl ?_
        refine a_ireturn (pc := 117) (by decide +kernel) rfl ?_
        refine k_ret ?_
        rcases c14 with c14 | c14
        · exact ⟨_, rfl, rfl, rfl, Or.inr (Or.inr (Or.inr (Or.inr (Or.inr (Or.inr (Or.inr (Or.inr (Or.inl (by omega)))))))))⟩
        · exact ⟨_, rfl, rfl, rfl, Or.inr (Or.inr (Or.inr (Or.inr (Or.inr (Or.inr (Or.inr (Or.inr (Or.inr (by omega)))))))))⟩
      rcases (show w = 0 ∨ w = 1 ∨ w = 2 ∨ w = 3 ∨ w = 4 ∨ w = 5 ∨ w = 6 by omega) with c14 | c14 | c14 | c14 | c14 | c14 | c14
      · subst c14
        refine a_tableIn (pc := 14) (tgt := 56) (dflt := 101) (lo := 0) (hi := 6) (off := 42) (offs := #[42, 52, 62, 62, 62, 74, 84]) (len := 42) (by decide +kernel) (by decide) (by decide) (by decide) rfl (by decide) ?_
        refine a_aload_n (pc := 56) (i := 0) (by decide +kernel) rfl ?_
        refine b_getR (pc := 57) (b := 16) fl_X11_25 (by decide +kernel) (sh_5 hn) rfl ?_
        refine b_getR (pc := 60) (b := 17) fl_X11_242 (by decide +kernel) (sh_16 hn) rfl ?_
        refine a_iload_n (pc := 63) (i := 1) (by decide +kernel) rfl ?_
        refine b_iaload (pc := 64) (by decide +kernel) (sh_17 hn) (by omega) (by omega) (by omega) ?_
        refine a_ireturn (pc := 65) (by decide +kernel) rfl ?_
        refine k_ret ?_
        refine ⟨_, rfl, rfl, rfl, ?_⟩
        unfold mk_P
        first | exact Or.inl (by omega) | exact Or.inr (Or.inl (by omega)) | exact Or.inr (Or.inr (Or.inl (by omega))) | exact Or.inr (Or.inr (Or.inr (Or.inl (by omega)))) | exact Or.inr (Or.inr (Or.inr (Or.inr (Or.inl (by omega))))) | exact Or.inr (Or.inr (Or.inr (Or.inr (Or.inr (Or.inl (by omega)))))) | exact Or.inr (Or.inr (Or.inr (Or.inr (Or.inr (Or.inr (Or.inl (by omega))))))) | exact Or.inr (Or.inr (Or.inr (Or.inr (Or.inr (Or.inr (Or.inr (Or.inl (by omega)))))))) | exact Or.inr (Or.inr (Or.inr (Or.inr (Or.inr (Or.inr (Or.inr (Or.inr (Or.inl (by omega))))))))) | exact Or.inr (Or.inr (Or.inr (Or.inr (Or.inr (Or.inr (Or.inr (Or.inr (Or.inr (by omega)))))))))
      · subst c14
        refine a_tableIn (pc := 14) (tgt := 66) (dflt := 101) (lo := 0) (hi := 6) (off := 52) (offs := #[42, 52, 62, 62, 62, 74, 84]) (len := 42) (by decide +kernel) (by decide) (by decide) (by decide) rfl (by decide) ?_
        refine a_aload_n (pc := 66) (i := 0) (by decide +kernel) rfl ?_
        refine b_getR (pc := 67) (b := 16) fl_X11_25 (by decide +kernel) (sh_5 hn) rfl ?_
        refine b_getR (pc := 70) (b := 18) fl_X11_245 (by decide +kernel) (sh_16 hn) rfl ?_
        refine a_iload_n (pc := 73) (i := 1) (by decide +kernel) rfl ?_
        refine b_iaload (pc := 74) (by decide +kernel) (sh_18 hn) (by omega) (by omega) (by omega) ?_
        refine a_ireturn (pc := 75) (by decide +kernel) rfl ?_
        refine k_ret ?_
        refine ⟨_, rfl, rfl, rfl, ?_⟩
        unfold mk_P
        first | exact Or.inl (by omega) | exact Or.inr (Or.inl (by omega)) | exact Or.inr (Or.inr (Or.inl (by omega))) | exact Or.inr (Or.inr (Or.inr (Or.inl (by omega)))) | exact Or.inr (Or.inr (Or.inr (Or.inr (Or.inl (by omega))))) | exact Or.inr (Or.inr (Or.inr (Or.inr (Or.inr (Or.inl (by omega)))))) | exact Or.inr (Or.inr (Or.inr (Or.inr (Or.inr (Or.inr (Or.inl (by omega))))))) | exact Or.inr (Or.inr (Or.inr (Or.inr (Or.inr (Or.inr (Or.inr (Or.inl (by omega)))))))) | exact Or.inr (Or.inr (Or.inr (Or.inr (Or.inr (Or.inr (Or.inr (Or.inr (Or.inl (by omega))))))))) | exact Or.inr (Or.inr (Or.inr (Or.inr (Or.inr (Or.inr (Or.inr (Or.inr (Or.inr (by omega)))))))))
      · subst c14
        refine a_tableIn (pc := 14) (tgt := 76) (dflt := 101) (lo := 0) (hi := 6) (off := 62) (offs := #[42, 52, 62, 62, 62, 74, 84]) (len := 42) (by decide +kernel) (by decide) (by decide) (by decide) rfl (by decide) ?_
        refine a_aload_n (pc := 76) (i := 0) (by decide +kernel) rfl ?_
        refine b_getR (pc := 77) (b := 16) fl_X11_25 (by decide +kernel) (sh_5 hn) rfl ?_
        refine a_iload_n (pc := 80) (i := 1) (by decide +kernel) rfl ?_
        refine a_iload_n (pc := 81) (i := 2) (by decide +kernel) rfl ?_
        refine a_iconst (pc := 82) (n := 2) (by decide +kernel) ?_
        refine a_isub (pc := 83) (by decide +kernel) ?_
        refine b_pureV (pc := 84) [j_i m, j_i (2 - 2)] [] ml_X11_248 (by decide +kernel) rfl rfl (sh_16 hn) rfl rfl (Nat.le_of_ble_eq_true rfl) (j_fitI rfl rfl) (s_mheadAt hn hwm (by omega) (by omega)) ?_
        rw [m_head_is p5, show (2 - 2 : Int) = 0 by rfl]
        show j_at _ _ _ [(0, .ref 5), (1, j_i m), (2, j_i 2)] [j_i (f_head (σ.1 19 m) 0)] _ _ _ _
        refine a_ireturn (pc := 87) (by decide +kernel) rfl ?_
        refine k_ret ?_
        refine ⟨_, rfl, rfl, rfl, ?_⟩
        unfold mk_P
        first | exact Or.inl (by omega) | exact Or.inr (Or.inl (by omega)) | exact Or.inr (Or.inr (Or.inl (by omega))) | exact Or.inr (Or.inr (Or.inr (Or.inl (by omega)))) | exact Or.inr (Or.inr (Or.inr (Or.inr (Or.inl (by omega))))) | exact Or.inr (Or.inr (Or.inr (Or.inr (Or.inr (Or.inl (by omega)))))) | exact Or.inr (Or.inr (Or.inr (Or.inr (Or.inr (Or.inr (Or.inl (by omega))))))) | exact Or.inr (Or.inr (Or.inr (Or.inr (Or.inr (Or.inr (Or.inr (Or.inl (by omega)))))))) | exact Or.inr (Or.inr (Or.inr (Or.inr (Or.inr (Or.inr (Or.inr (Or.inr (Or.inl (by omega))))))))) | exact Or.inr (Or.inr (Or.inr (Or.inr (Or.inr (Or.inr (Or.inr (Or.inr (Or.inr (by omega)))))))))
      · subst c14
        refine a_tableIn (pc := 14) (tgt := 76) (dflt := 101) (lo := 0) (hi := 6) (off := 62) (offs := #[42, 52, 62, 62, 62, 74, 84]) (len := 42) (by decide +kernel) (by decide) (by decide) (by decide) rfl (by decide) ?_
        refine a_aload_n (pc := 76) (i := 0) (by decide +kernel) rfl ?_
        refine b_getR (pc := 77) (b := 16) fl_X11_25 (by decide +kernel) (sh_5 hn) rfl ?_
        refine a_iload_n (pc := 80) (i := 1) (by decide +kernel) rfl ?_
        refine a_iload_n (pc := 81) (i := 2) (by decide +kernel) rfl ?_
        refine a_iconst (pc := 82) (n := 2) (by decide +kernel) ?_
        refine a_isub (pc := 83) (by decide +kernel) ?_
        refine b_pureV (pc := 84) [j_i m, j_i (3 - 2)] [] ml_X11_248 (by decide +kernel) rfl rfl (sh_16 hn) rfl rfl (Nat.le_of_ble_eq_true rfl) (j_fitI rfl rfl) (s_mheadAt hn hwm (by omega) (by omega)) ?_
        rw [m_head_is p5, show (3 - 2 : Int) = 1 by rfl]
        show j_at _ _ _ [(0, .ref 5), (1, j_i m), (2, j_i 3)] [j_i (f_head (σ.1 19 m) 1)] _ _ _ _
        refine a_ireturn (pc := 87) (by decide +kernel) rfl ?_
        refine k_ret ?_
        refine ⟨_, rfl, rfl, rfl, ?_⟩
        unfold mk_P
        first | exact Or.inl (by omega) | exact Or.inr (Or.inl (by omega)) | exact Or.inr (Or.inr (Or.inl (by omega))) | exact Or.inr (Or.inr (Or.inr (Or.inl (by omega)))) | exact Or.inr (Or.inr (Or.inr (Or.inr (Or.inl (by omega))))) | exact Or.inr (Or.inr (Or.inr (Or.inr (Or.inr (Or.inl (by omega)))))) | exact Or.inr (Or.inr (Or.inr (Or.inr (Or.inr (Or.inr (Or.inl (by omega))))))) | exact Or.inr (Or.inr (Or.inr (Or.inr (Or.inr (Or.inr (Or.inr (Or.inl (by omega)))))))) | exact Or.inr (Or.inr (Or.inr (Or.inr (Or.inr (Or.inr (Or.inr (Or.inr (Or.inl (by omega))))))))) | exact Or.inr (Or.inr (Or.inr (Or.inr (Or.inr (Or.inr (Or.inr (Or.inr (Or.inr (by omega)))))))))
      · subst c14
        refine a_tableIn (pc := 14) (tgt := 76) (dflt := 101) (lo := 0) (hi := 6) (off := 62) (offs := #[42, 52, 62, 62, 62, 74, 84]) (len := 42) (by decide +kernel) (by decide) (by decide) (by decide) rfl (by decide) ?_
        refine a_aload_n (pc := 76) (i := 0) (by decide +kernel) rfl ?_
        refine b_getR (pc := 77) (b := 16) fl_X11_25 (by decide +kernel) (sh_5 hn) rfl ?_
        refine a_iload_n (pc := 80) (i := 1) (by decide +kernel) rfl ?_
        refine a_iload_n (pc := 81) (i := 2) (by decide +kernel) rfl ?_
        refine a_iconst (pc := 82) (n := 2) (by decide +kernel) ?_
        refine a_isub (pc := 83) (by decide +kernel) ?_
        refine b_pureV (pc := 84) [j_i m, j_i (4 - 2)] [] ml_X11_248 (by decide +kernel) rfl rfl (sh_16 hn) rfl rfl (Nat.le_of_ble_eq_true rfl) (j_fitI rfl rfl) (s_mheadAt hn hwm (by omega) (by omega)) ?_
        rw [m_head_is p5, show (4 - 2 : Int) = 2 by rfl]
        show j_at _ _ _ [(0, .ref 5), (1, j_i m), (2, j_i 4)] [j_i (f_head (σ.1 19 m) 2)] _ _ _ _
        refine a_ireturn (pc := 87) (by decide +kernel) rfl ?_
        refine k_ret ?_
        refine ⟨_, rfl, rfl, rfl, ?_⟩
        unfold mk_P
        first | exact Or.inl (by omega) | exact Or.inr (Or.inl (by omega)) | exact Or.inr (Or.inr (Or.inl (by omega))) | exact Or.inr (Or.inr (Or.inr (Or.inl (by omega)))) | exact Or.inr (Or.inr (Or.inr (Or.inr (Or.inl (by omega))))) | exact Or.inr (Or.inr (Or.inr (Or.inr (Or.inr (Or.inl (by omega)))))) | exact Or.inr (Or.inr (Or.inr (Or.inr (Or.inr (Or.inr (Or.inl (by omega))))))) | exact Or.inr (Or.inr (Or.inr (Or.inr (Or.inr (Or.inr (Or.inr (Or.inl (by omega)))))))) | exact Or.inr (Or.inr (Or.inr (Or.inr (Or.inr (Or.inr (Or.inr (Or.inr (Or.inl (by omega))))))))) | exact Or.inr (Or.inr (Or.inr (Or.inr (Or.inr (Or.inr (Or.inr (Or.inr (Or.inr (by omega)))))))))
      · subst c14
        refine a_tableIn (pc := 14) (tgt := 88) (dflt := 101) (lo := 0) (hi := 6) (off := 74) (offs := #[42, 52, 62, 62, 62, 74, 84]) (len := 42) (by decide +kernel) (by decide) (by decide) (by decide) rfl (by decide) ?_
        refine a_aload_n (pc := 88) (i := 0) (by decide +kernel) rfl ?_
        refine b_getR (pc := 89) (b := 16) fl_X11_25 (by decide +kernel) (sh_5 hn) rfl ?_
        refine b_getR (pc := 92) (b := 20) fl_X11_251 (by decide +kernel) (sh_16 hn) rfl ?_
        refine a_iload_n (pc := 95) (i := 1) (by decide +kernel) rfl ?_
        refine b_iaload (pc := 96) (by decide +kernel) (sh_20 hn) (by omega) (by omega) (by omega) ?_
        refine a_ireturn (pc := 97) (by decide +kernel) rfl ?_
        refine k_ret ?_
        refine ⟨_, rfl, rfl, rfl, ?_⟩
        unfold mk_P
        first | exact Or.inl (by omega) | exact Or.inr (Or.inl (by omega)) | exact Or.inr (Or.inr (Or.inl (by omega))) | exact Or.inr (Or.inr (Or.inr (Or.inl (by omega)))) | exact Or.inr (Or.inr (Or.inr (Or.inr (Or.inl (by omega))))) | exact Or.inr (Or.inr (Or.inr (Or.inr (Or.inr (Or.inl (by omega)))))) | exact Or.inr (Or.inr (Or.inr (Or.inr (Or.inr (Or.inr (Or.inl (by omega))))))) | exact Or.inr (Or.inr (Or.inr (Or.inr (Or.inr (Or.inr (Or.inr (Or.inl (by omega)))))))) | exact Or.inr (Or.inr (Or.inr (Or.inr (Or.inr (Or.inr (Or.inr (Or.inr (Or.inl (by omega))))))))) | exact Or.inr (Or.inr (Or.inr (Or.inr (Or.inr (Or.inr (Or.inr (Or.inr (Or.inr (by omega)))))))))
      · subst c14
        refine a_tableIn (pc := 14) (tgt := 98) (dflt := 101) (lo := 0) (hi := 6) (off := 84) (offs := #[42, 52, 62, 62, 62, 74, 84]) (len := 42) (by decide +kernel) (by decide) (by decide) (by decide) rfl (by decide) ?_
        refine a_aload_n (pc := 98) (i := 0) (by decide +kernel) rfl ?_
        refine b_getR (pc := 99) (b := 16) fl_X11_25 (by decide +kernel) (sh_5 hn) rfl ?_
        refine b_getR (pc := 102) (b := 18) fl_X11_245 (by decide +kernel) (sh_16 hn) rfl ?_
        refine a_iload_n (pc := 105) (i := 1) (by decide +kernel) rfl ?_
        refine b_iaload (pc := 106) (by decide +kernel) (sh_18 hn) (by omega) (by omega) (by omega) ?_
        refine a_aload_n (pc := 107) (i := 0) (by decide +kernel) rfl ?_
        refine b_getI (pc := 108) fl_X11_75 (by decide +kernel) (sh_5 hn) rfl ?_
        refine b_pureS (pc := 111) [j_i (σ.1 18 m), j_i (σ.2.1 5 10)] [] ml_X11_254 (by decide +kernel) rfl rfl (Nat.le_of_ble_eq_true rfl) (j_fitI rfl rfl) (s_pageOfGap (by omega) (by omega)) ?_
        show j_at _ _ _ [(0, .ref 5), (1, j_i m), (2, j_i 6)] [j_i (f_page (σ.1 18 m) (σ.2.1 5 10))] _ _ _ _
        refine a_ireturn (pc := 114) (by decide +kernel) rfl ?_
        refine k_ret ?_
        refine ⟨_, rfl, rfl, rfl, ?_⟩
        unfold mk_P
        first | exact Or.inl (by omega) | exact Or.inr (Or.inl (by omega)) | exact Or.inr (Or.inr (Or.inl (by omega))) | exact Or.inr (Or.inr (Or.inr (Or.inl (by omega)))) | exact Or.inr (Or.inr (Or.inr (Or.inr (Or.inl (by omega))))) | exact Or.inr (Or.inr (Or.inr (Or.inr (Or.inr (Or.inl (by omega)))))) | exact Or.inr (Or.inr (Or.inr (Or.inr (Or.inr (Or.inr (Or.inl (by omega))))))) | exact Or.inr (Or.inr (Or.inr (Or.inr (Or.inr (Or.inr (Or.inr (Or.inl (by omega)))))))) | exact Or.inr (Or.inr (Or.inr (Or.inr (Or.inr (Or.inr (Or.inr (Or.inr (Or.inl (by omega))))))))) | exact Or.inr (Or.inr (Or.inr (Or.inr (Or.inr (Or.inr (Or.inr (Or.inr (Or.inr (by omega)))))))))
    · exact absurd c8 (by decide)
  · show j_at _ _ _ [(0, .ref 5), (1, j_i m), (2, j_i w)] [j_i 0] _ _ _ _
    have i5 := bi_n p5
    refine a_if_ne (pc := 8) (off := 5) (tgt := 13) (by decide +kernel) (by decide) (by omega) (fun c8 => ?_) (fun c8 => ?_)
    · exact absurd c8 (by decide)
    · refine a_iconst (pc := 11) (n := (-1)) (by decide +kernel) ?_
      refine a_ireturn (pc := 12) (by decide +kernel) rfl ?_
      refine k_ret ?_
      refine ⟨_, rfl, rfl, rfl, ?_⟩
      unfold mk_P
      first | exact Or.inl (by omega) | exact Or.inr (Or.inl (by omega)) | exact Or.inr (Or.inr (Or.inl (by omega))) | exact Or.inr (Or.inr (Or.inr (Or.inl (by omega)))) | exact Or.inr (Or.inr (Or.inr (Or.inr (Or.inl (by omega))))) | exact Or.inr (Or.inr (Or.inr (Or.inr (Or.inr (Or.inl (by omega)))))) | exact Or.inr (Or.inr (Or.inr (Or.inr (Or.inr (Or.inr (Or.inl (by omega))))))) | exact Or.inr (Or.inr (Or.inr (Or.inr (Or.inr (Or.inr (Or.inr (Or.inl (by omega)))))))) | exact Or.inr (Or.inr (Or.inr (Or.inr (Or.inr (Or.inr (Or.inr (Or.inr (Or.inl (by omega))))))))) | exact Or.inr (Or.inr (Or.inr (Or.inr (Or.inr (Or.inr (Or.inr (Or.inr (Or.inr (by omega)))))))))
set_option maxHeartbeats 4000000 in
theorem d_marked {G : j_G} {X : k_X} {n : Nat} {σ : k_St} (hR : RR n σ) {m : Int} (hm : -2147483648 ≤ m ∧ m ≤ 2147483647) {w : Int} (hw : -2147483648 ≤ w ∧ w ≤ 2147483647) {r : Int} (hP : mk_P σ m w r)  : k_run G X mX12_marked [.ref 68, j_i m, j_i w] n σ 0 0 (fun v2 n2 σ2 => v2 = some (j_i r) ∧ RR n2 σ2) := by
  obtain ⟨hK, hAc, hNm, hPs, hPt, hSm, hIx⟩ := id hR
  have hn := RR_n hR
  have hk := hK.1
  have hwh : h_wf σ 8 := hk.2.1
  have hwm : m_wf σ 16 := hk.2.2
  have hW : 0 ≤ σ.2.1 6 1 ∧ σ.2.1 6 1 ≤ 300 := hk.1
  have hfl := hSm.1
  have hg := hK.2.2.2
  obtain ⟨⟨hgW, hgE, hgM⟩, hgh, hgm⟩ := KR_rg hk hK.2.1
  have hW0 : σ.2.1 6 1 = σ.1 69 0 := hK.2.1.1.1
  have hE0 : σ.2.1 8 3 = σ.1 69 301 := hK.2.1.2.1.1
  have hM0 : σ.2.1 16 5 = σ.1 69 1382 := hK.2.1.2.2.1
  have hfl8 : σ.2.1 68 11 = σ.2.1 5 10 := hSm.2.1
  have e2 : bi (m_is σ m) = bi (d_ms σ m) := bi_c (RK_m hR m).symm
  have hfl : 1 ≤ σ.2.1 68 11 ∧ σ.2.1 68 11 ≤ 50 := by omega
  refine k_enter (by decide +kernel) (Nat.le_of_ble_eq_true rfl) ?_
  show j_at _ _ _ [(0, .ref 68), (1, j_i m), (2, j_i w)] [] _ _ _ _
  refine a_aload_n (pc := 0) (i := 0) (by decide +kernel) rfl ?_
  refine a_iload_n (pc := 1) (i := 1) (by decide +kernel) rfl ?_
  refine b_callV (pc := 2) (c' := 0) (sl' := 0) [j_i m] [] ml_X12_254 (by decide +kernel) rfl rfl (sh_68 hn) rfl rfl (Nat.le_of_ble_eq_true rfl) (j_fitI rfl rfl) (s_disMark hn hg (by omega) (by omega)) (fun v n' σ' hq => ?_)
  obtain ⟨x, rfl, e1, e2, hx⟩ := hq
  rw [e1, e2]; clear e1 e2
  rcases hx with ⟨rfl, p2⟩ | ⟨rfl, p2⟩
  · show j_at _ _ _ [(0, .ref 68), (1, j_i m), (2, j_i w)] [j_i 1] _ _ _ _
    have i2 := bi_y p2
    have u2 := p2.1
    have w2 := p2.2.1
    obtain ⟨z1, z2, z3, z4⟩ := KR_m hK u2 w2
    have z5 := z4 0 (by omega) (by omega)
    have z6 := z4 1 (by omega) (by omega)
    have z7 := z4 2 (by omega) (by omega)
    have z8 := (hgm m u2 w2).2.2.1
    have z9 : f_page (σ.1 18 m) (σ.2.1 5 10) = f_page (σ.1 69 (1383 + 7 * m + 2)) (σ.2.1 68 11) := by rw [z2, hfl8]
    refine a_if_ne (pc := 5) (off := 5) (tgt := 10) (by decide +kernel) (by decide) (by omega) (fun c5 => ?_) (fun c5 => ?_)
    · refine a_iload_n (pc := 10) (i := 2) (by decide +kernel) rfl ?_
      by_cases c11 : w < 0 ∨ 6 < w
      · refine a_tableOut (pc := 11) (tgt := 89) (dflt := 78) (lo := 0) (hi := 6) (offs := #[41, 47, 53, 53, 53, 62, 68]) (len := 41) (by decide +kernel) (by omega) c11 (by decide) ?_
        refine a_bipush (pc := 89) (n := (-2)) (by decide +kernel) rfl ?_
        refine a_ireturn (pc := 91) (by decide +kernel) rfl ?_
        refine k_ret ?_
        have hr : ((-2) : Int) = r := by
          unfold mk_P at hP
          rw [e2] at hP
          rcases hP with hP | hP | hP | hP | hP | hP | hP | hP | hP | hP <;> omega
        exact ⟨by rw [hr], hR⟩
      rcases (show w = 0 ∨ w = 1 ∨ w = 2 ∨ w = 3 ∨ w = 4 ∨ w = 5 ∨ w = 6 by omega) with c11 | c11 | c11 | c11 | c11 | c11 | c11
      · subst c11
        refine a_tableIn (pc := 11) (tgt := 52) (dflt := 78) (lo := 0) (hi := 6) (off := 41) (offs := #[41, 47, 53, 53, 53, 62, 68]) (len := 41) (by decide +kernel) (by decide) (by decide) (by decide) rfl (by decide) ?_
        refine a_aload_n (pc := 52) (i := 0) (by decide +kernel) rfl ?_
        refine a_iload_n (pc := 53) (i := 1) (by decide +kernel) rfl ?_
        refine b_pureV (pc := 54) [j_i m] [] ml_X12_257 (by decide +kernel) rfl rfl (sh_68 hn) rfl rfl (Nat.le_of_ble_eq_true rfl) (j_fitI rfl rfl) (s_dkindOf hn (by omega)) ?_
        have q1 := hg (1383 + 7 * m + 1)
        show j_at _ _ _ [(0, .ref 68), (1, j_i m), (2, j_i 0)] [j_i (σ.1 69 (1383 + 7 * m + 1))] _ _ _ _
        refine a_ireturn (pc := 57) (by decide +kernel) rfl ?_
        refine k_ret ?_
        have hr : (σ.1 69 (1383 + 7 * m + 1) : Int) = r := by
          unfold mk_P at hP
          rw [e2] at hP
          rcases hP with hP | hP | hP | hP | hP | hP | hP | hP | hP | hP <;> omega
        exact ⟨by rw [hr], hR⟩
      · subst c11
        refine a_tableIn (pc := 11) (tgt := 58) (dflt := 78) (lo := 0) (hi := 6) (off := 47) (offs := #[41, 47, 53, 53, 53, 62, 68]) (len := 41) (by decide +kernel) (by decide) (by decide) (by decide) rfl (by decide) ?_
        refine a_aload_n (pc := 58) (i := 0) (by decide +kernel) rfl ?_
        refine a_iload_n (pc := 59) (i := 1) (by decide +kernel) rfl ?_
        refine b_pureV (pc := 60) [j_i m] [] ml_X12_266 (by decide +kernel) rfl rfl (sh_68 hn) rfl rfl (Nat.le_of_ble_eq_true rfl) (j_fitI rfl rfl) (s_dgapOf hn (by omega)) ?_
        have q2 := hg (1383 + 7 * m + 2)
        show j_at _ _ _ [(0, .ref 68), (1, j_i m), (2, j_i 1)] [j_i (σ.1 69 (1383 + 7 * m + 2))] _ _ _ _
        refine a_ireturn (pc := 63) (by decide +kernel) rfl ?_
        refine k_ret ?_
        have hr : (σ.1 69 (1383 + 7 * m + 2) : Int) = r := by
          unfold mk_P at hP
          rw [e2] at hP
          rcases hP with hP | hP | hP | hP | hP | hP | hP | hP | hP | hP <;> omega
        exact ⟨by rw [hr], hR⟩
      · subst c11
        refine a_tableIn (pc := 11) (tgt := 64) (dflt := 78) (lo := 0) (hi := 6) (off := 53) (offs := #[41, 47, 53, 53, 53, 62, 68]) (len := 41) (by decide +kernel) (by decide) (by decide) (by decide) rfl (by decide) ?_
        refine a_aload_n (pc := 64) (i := 0) (by decide +kernel) rfl ?_
        refine a_iload_n (pc := 65) (i := 1) (by decide +kernel) rfl ?_
        refine a_iload_n (pc := 66) (i := 2) (by decide +kernel) rfl ?_
        refine a_iconst (pc := 67) (n := 2) (by decide +kernel) ?_
        refine a_isub (pc := 68) (by decide +kernel) ?_
        refine b_pureV (pc := 69) [j_i m, j_i (2 - 2)] [] ml_X12_260 (by decide +kernel) rfl rfl (sh_68 hn) rfl rfl (Nat.le_of_ble_eq_true rfl) (j_fitI rfl rfl) (s_dheadOf hn (by omega) (by omega)) ?_
        rw [show (2 - 2 : Int) = 0 by rfl]
        show j_at _ _ _ [(0, .ref 68), (1, j_i m), (2, j_i 2)] [j_i (σ.1 69 (1383 + 7 * m + 3 + 0))] _ _ _ _
        refine a_ireturn (pc := 72) (by decide +kernel) rfl ?_
        refine k_ret ?_
        have hr : (σ.1 69 (1383 + 7 * m + 3 + 0) : Int) = r := by
          unfold mk_P at hP
          rw [e2] at hP
          rcases hP with hP | hP | hP | hP | hP | hP | hP | hP | hP | hP <;> omega
        exact ⟨by rw [hr], hR⟩
      · subst c11
        refine a_tableIn (pc := 11) (tgt := 64) (dflt := 78) (lo := 0) (hi := 6) (off := 53) (offs := #[41, 47, 53, 53, 53, 62, 68]) (len := 41) (by decide +kernel) (by decide) (by decide) (by decide) rfl (by decide) ?_
        refine a_aload_n (pc := 64) (i := 0) (by decide +kernel) rfl ?_
        refine a_iload_n (pc := 65) (i := 1) (by decide +kernel) rfl ?_
        refine a_iload_n (pc := 66) (i := 2) (by decide +kernel) rfl ?_
        refine a_iconst (pc := 67) (n := 2) (by decide +kernel) ?_
        refine a_isub (pc := 68) (by decide +kernel) ?_
        refine b_pureV (pc := 69) [j_i m, j_i (3 - 2)] [] ml_X12_260 (by decide +kernel) rfl rfl (sh_68 hn) rfl rfl (Nat.le_of_ble_eq_true rfl) (j_fitI rfl rfl) (s_dheadOf hn (by omega) (by omega)) ?_
        rw [show (3 - 2 : Int) = 1 by rfl]
        show j_at _ _ _ [(0, .ref 68), (1, j_i m), (2, j_i 3)] [j_i (σ.1 69 (1383 + 7 * m + 3 + 1))] _ _ _ _
        refine a_ireturn (pc := 72) (by decide +kernel) rfl ?_
        refine k_ret ?_
        have hr : (σ.1 69 (1383 + 7 * m + 3 + 1) : Int) = r := by
          unfold mk_P at hP
          rw [e2] at hP
          rcases hP with hP | hP | hP | hP | hP | hP | hP | hP | hP | hP <;> omega
        exact ⟨by rw [hr], hR⟩
      · subst c11
        refine a_tableIn (pc := 11) (tgt := 64) (dflt := 78) (lo := 0) (hi := 6) (off := 53) (offs := #[41, 47, 53, 53, 53, 62, 68]) (len := 41) (by decide +kernel) (by decide) (by decide) (by decide) rfl (by decide) ?_
        refine a_aload_n (pc := 64) (i := 0) (by decide +kernel) rfl ?_
        refine a_iload_n (pc := 65) (i := 1) (by decide +kernel) rfl ?_
        refine a_iload_n (pc := 66) (i := 2) (by decide +kernel) rfl ?_
        refine a_iconst (pc := 67) (n := 2) (by decide +kernel) ?_
        refine a_isub (pc := 68) (by decide +kernel) ?_
        refine b_pureV (pc := 69) [j_i m, j_i (4 - 2)] [] ml_X12_260 (by decide +kernel) rfl rfl (sh_68 hn) rfl rfl (Nat.le_of_ble_eq_true rfl) (j_fitI rfl rfl) (s_dheadOf hn (by omega) (by omega)) ?_
        rw [show (4 - 2 : Int) = 2 by rfl]
        show j_at _ _ _ [(0, .ref 68), (1, j_i m), (2, j_i 4)] [j_i (σ.1 69 (1383 + 7 * m + 3 + 2))] _ _ _ _
        refine a_ireturn (pc := 72) (by decide +kernel) rfl ?_
        refine k_ret ?_
        have hr : (σ.1 69 (1383 + 7 * m + 3 + 2) : Int) = r := by
          unfold mk_P at hP
          rw [e2] at hP
          rcases hP with hP | hP | hP | hP | hP | hP | hP | hP | hP | hP <;> omega
        exact ⟨by rw [hr], hR⟩
      · subst c11
        refine a_tableIn (pc := 11) (tgt := 73) (dflt := 78) (lo := 0) (hi := 6) (off := 62) (offs := #[41, 47, 53, 53, 53, 62, 68]) (len := 41) (by decide +kernel) (by decide) (by decide) (by decide) rfl (by decide) ?_
        refine a_aload_n (pc := 73) (i := 0) (by decide +kernel) rfl ?_
        refine a_iload_n (pc := 74) (i := 1) (by decide +kernel) rfl ?_
        refine b_pureV (pc := 75) [j_i m] [] ml_X12_269 (by decide +kernel) rfl rfl (sh_68 hn) rfl rfl (Nat.le_of_ble_eq_true rfl) (j_fitI rfl rfl) (s_dnoteOf hn (by omega)) ?_
        have q6 := hg (1383 + 7 * m + 6)
        show j_at _ _ _ [(0, .ref 68), (1, j_i m), (2, j_i 5)] [j_i (σ.1 69 (1383 + 7 * m + 6))] _ _ _ _
        refine a_ireturn (pc := 78) (by decide +kernel) rfl ?_
        refine k_ret ?_
        have hr : (σ.1 69 (1383 + 7 * m + 6) : Int) = r := by
          unfold mk_P at hP
          rw [e2] at hP
          rcases hP with hP | hP | hP | hP | hP | hP | hP | hP | hP | hP <;> omega
        exact ⟨by rw [hr], hR⟩
      · subst c11
        refine a_tableIn (pc := 11) (tgt := 79) (dflt := 78) (lo := 0) (hi := 6) (off := 68) (offs := #[41, 47, 53, 53, 53, 62, 68]) (len := 41) (by decide +kernel) (by decide) (by decide) (by decide) rfl (by decide) ?_
        refine a_aload_n (pc := 79) (i := 0) (by decide +kernel) rfl ?_
        refine a_aload_n (pc := 80) (i := 0) (by decide +kernel) rfl ?_
        refine a_iload_n (pc := 81) (i := 1) (by decide +kernel) rfl ?_
        refine b_pureV (pc := 82) [j_i m] [.ref 68] ml_X12_266 (by decide +kernel) rfl rfl (sh_68 hn) rfl rfl (Nat.le_of_ble_eq_true rfl) (j_fitI rfl rfl) (s_dgapOf hn (by omega)) ?_
        have q7 := hg (1383 + 7 * m + 2)
        show j_at _ _ _ [(0, .ref 68), (1, j_i m), (2, j_i 6)] [j_i (σ.1 69 (1383 + 7 * m + 2)), .ref 68] _ _ _ _
        refine b_pureV (pc := 85) [j_i (σ.1 69 (1383 + 7 * m + 2))] [] ml_X12_272 (by decide +kernel) rfl rfl (sh_68 hn) rfl rfl (Nat.le_of_ble_eq_true rfl) (j_fitI rfl rfl) (s_dpageOf hn (by omega) hfl) ?_
        show j_at _ _ _ [(0, .ref 68), (1, j_i m), (2, j_i 6)] [j_i (f_page (σ.1 69 (1383 + 7 * m + 2)) (σ.2.1 68 11))] _ _ _ _
        refine a_ireturn (pc := 88) (by decide +kernel) rfl ?_
        refine k_ret ?_
        have hr : (f_page (σ.1 69 (1383 + 7 * m + 2)) (σ.2.1 68 11) : Int) = r := by
          unfold mk_P at hP
          rw [e2] at hP
          rcases hP with hP | hP | hP | hP | hP | hP | hP | hP | hP | hP <;> omega
        exact ⟨by rw [hr], hR⟩
    · exact absurd c5 (by decide)
  · show j_at _ _ _ [(0, .ref 68), (1, j_i m), (2, j_i w)] [j_i 0] _ _ _ _
    have i2 := bi_n p2
    refine a_if_ne (pc := 5) (off := 5) (tgt := 10) (by decide +kernel) (by decide) (by omega) (fun c5 => ?_) (fun c5 => ?_)
    · exact absurd c5 (by decide)
    · refine a_iconst (pc := 8) (n := (-1)) (by decide +kernel) ?_
      refine a_ireturn (pc := 9) (by decide +kernel) rfl ?_
      refine k_ret ?_
      have hr : ((-1) : Int) = r := by
        unfold mk_P at hP
        rw [e2] at hP
        rcases hP with hP | hP | hP | hP | hP | hP | hP | hP | hP | hP <;> omega
      exact ⟨by rw [hr], hR⟩
set_option maxHeartbeats 4000000 in
theorem p_marked {G : j_G} {X : k_X} {n : Nat} {σ : k_St} (hR : RR n σ) {m : Int} (hm : -2147483648 ≤ m ∧ m ≤ 2147483647) {w : Int} (hw : -2147483648 ≤ w ∧ w ≤ 2147483647)  : pr_ok G X mX11_marked mX12_marked [j_i m, j_i w] n σ 0 0 := by
  refine ⟨_, c_marked hR hm hw , fun v n' σ' hq => ?_⟩
  obtain ⟨r, hv, rfl, rfl, hP⟩ := hq
  exact ⟨RR_n hR, r, hv, d_marked hR hm hw  hP⟩
