/-- the class changed trace, fault, tray at most -/
def CS (σ σ' : k_St) : Prop := σ'.1 = σ.1 ∧ (∀ c j, ¬ (c = 5 ∧ 11 ≤ j ∧ j ≤ 14) → σ'.2.1 c j = σ.2.1 c j) ∧ σ'.2.2 = σ.2.2
/-- related but for trace, fault, tray, which the Model has as ρ has them -/
def RS (ρ σ : k_St) : Prop := (1 ≤ σ.2.1 5 10 ∧ σ.2.1 5 10 ≤ 50) ∧ σ.2.1 68 11 = σ.2.1 5 10 ∧ σ.2.1 68 1 = ρ.2.1 5 11 ∧ σ.2.1 68 0 = ρ.2.1 5 12 ∧ (0 ≤ ρ.2.1 5 13 ∧ ρ.2.1 5 13 ≤ 3) ∧ σ.2.1 68 52 = ρ.2.1 5 13 ∧ σ.2.1 68 53 = ρ.2.1 5 14
theorem CS_R {n : Nat} {ρ σ : k_St} (hC : CS ρ σ) (hR : RR n ρ) : RKept σ ∧ RActs n σ ∧ RName σ ∧ RPass σ ∧ RPart σ ∧ RS ρ σ ∧ RIdx σ := by
  obtain ⟨h1, h2, h3⟩ := hC
  obtain ⟨r1, r2, r3, r4, r5, ⟨s1, s2, s3, s4, s5, s6, s7⟩, r7⟩ := hR
  refine ⟨RKept_cg (fun c _ _ => by rw [h1]) (fun c j _ _ => h2 c j (by omega)) (by rw [h1]) r1, RActs_cg (fun c _ => by rw [h1]) (fun c j _ => h2 c j (by omega)) (by rw [h3]) r2, RName_cg (by rw [h1]) (by rw [h1]) (by rw [h1]) (h2 _ _ (by omega)) r3, RPass_cg (by rw [h1]) (by rw [h1]) (by rw [h1]) (by rw [h1]) (h2 _ _ (by omega)) (h2 _ _ (by omega)) r4, RPart_cg (fun c _ _ => by rw [h1]) (fun c _ _ => by rw [h1]) (h2 _ _ (by omega)) (h2 _ _ (by omega)) r5, ?_, RIdx_cg (fun c _ _ _ => by rw [h1]) (fun c j _ => h2 c j (by omega)) (fun c _ => by rw [h1]) (fun j _ => h2 68 j (by omega)) (by rw [h3]) r7⟩
  unfold RS
  rw [h2 5 10 (by omega), h2 68 11 (by omega), h2 68 1 (by omega), h2 68 0 (by omega), h2 68 52 (by omega), h2 68 53 (by omega)]
  exact ⟨s1, s2, s3, s4, s5, s6, s7⟩
theorem RK_h' {σ : k_St} (hK : RKept σ) (h : Int) : d_is σ h ↔ h_is σ h := by
  obtain ⟨k1, k2, _⟩ := hK
  have e : σ.2.1 8 3 = σ.1 69 301 := k2.2.1.1
  unfold d_is h_is
  rw [e]
  constructor
  · rintro ⟨h0, h1, h2⟩
    have q : σ.1 15 h = 1 - σ.1 69 (302 + 36 * h) := (k2.2.1.2 h h0 h1).1
    exact ⟨h0, h1, by omega⟩
  · rintro ⟨h0, h1, h2⟩
    have q : σ.1 15 h = 1 - σ.1 69 (302 + 36 * h) := (k2.2.1.2 h h0 h1).1
    exact ⟨h0, h1, by omega⟩
theorem RK_m' {σ : k_St} (hK : RKept σ) (m : Int) : d_ms σ m ↔ m_is σ m := by
  obtain ⟨k1, k2, _⟩ := hK
  have e : σ.2.1 16 5 = σ.1 69 1382 := k2.2.2.1
  unfold d_ms m_is
  rw [e]
  constructor
  · rintro ⟨h0, h1, h2⟩
    have q : σ.1 21 m = 1 - σ.1 69 (1383 + 7 * m) := (k2.2.2.2 m h0 h1).1
    exact ⟨h0, h1, by omega⟩
  · rintro ⟨h0, h1, h2⟩
    have q : σ.1 21 m = 1 - σ.1 69 (1383 + 7 * m) := (k2.2.2.2 m h0 h1).1
    exact ⟨h0, h1, by omega⟩
set_option maxHeartbeats 4000000 in
theorem c_refused {G : j_G} {X : k_X} {n : Nat} {σ : k_St} (hn : 101 ≤ n) {x : Int}  : k_run G X mX11_refused [.ref 5, j_i x] n σ 0 0 (k_is n (k_sI σ 5 12 0) (some (j_i (x)))) := by
  refine k_enter (by decide +kernel) (Nat.le_of_ble_eq_true rfl) ?_
  show j_at _ _ _ [(0, .ref 5), (1, j_i x)] [] _ _ _ _
  refine a_aload_n (pc := 0) (i := 0) (by decide +kernel) rfl ?_
  refine a_iconst (pc := 1) (n := 0) (by decide +kernel) ?_
  refine b_putI (pc := 2) fl_X11_82 (by decide +kernel) (sh_5 hn) rfl rfl rfl ?_
  obtain ⟨σ1, hσ1⟩ : ∃ z, z = k_sI σ 5 12 0 := ⟨_, rfl⟩
  rw [← hσ1]
  refine a_iload_n (pc := 5) (i := 1) (by decide +kernel) rfl ?_
  refine a_ireturn (pc := 6) (by decide +kernel) rfl ?_
  refine k_ret ?_
  exact ⟨rfl, rfl, by first | rw [hσ1] | rfl⟩
set_option maxHeartbeats 4000000 in
theorem c_failed {G : j_G} {X : k_X} {n : Nat} {σ : k_St} (hn : 101 ≤ n) {x : Int}  : k_run G X mX11_failed [.ref 5, j_i x] n σ 0 0 (k_is n (k_sI σ 5 12 x) (some (j_i (-10 - x)))) := by
  refine k_enter (by decide +kernel) (Nat.le_of_ble_eq_true rfl) ?_
  show j_at _ _ _ [(0, .ref 5), (1, j_i x)] [] _ _ _ _
  refine a_aload_n (pc := 0) (i := 0) (by decide +kernel) rfl ?_
  refine a_iload_n (pc := 1) (i := 1) (by decide +kernel) rfl ?_
  refine b_putI (pc := 2) fl_X11_82 (by decide +kernel) (sh_5 hn) rfl rfl rfl ?_
  obtain ⟨σ1, hσ1⟩ : ∃ z, z = k_sI σ 5 12 x := ⟨_, rfl⟩
  rw [← hσ1]
  refine a_bipush (pc := 5) (n := (-10)) (by decide +kernel) rfl ?_
  refine a_iload_n (pc := 7) (i := 1) (by decide +kernel) rfl ?_
  refine a_isub (pc := 8) (by decide +kernel) ?_
  refine a_ireturn (pc := 9) (by decide +kernel) rfl ?_
  refine k_ret ?_
  exact ⟨rfl, rfl, by first | rw [hσ1] | rfl⟩
def tk_P (σ : k_St) (k r t f q m : Int) : Prop := t = σ.2.1 5 11 ∧ q = σ.2.1 5 13 ∧ m = σ.2.1 5 14 ∧ ((¬ (0 ≤ k ∧ k ≤ 2) ∧ r = -2 ∧ f = 0) ∨ ((0 ≤ k ∧ k ≤ 2) ∧ ((q = 3 ∧ r = -11 ∧ f = 1) ∨ (q ≠ 3 ∧ q ≠ k ∧ r = -12 ∧ f = 2) ∨ (q ≠ 3 ∧ q = k ∧ r = m ∧ f = 0))))
set_option maxHeartbeats 4000000 in
theorem c_taken {G : j_G} {X : k_X} {n : Nat} {σ : k_St} (hR : RR n σ) {k : Int} (hk : -2147483648 ≤ k ∧ k ≤ 2147483647)  : k_run G X mX11_taken [.ref 5, j_i k] n σ 0 0 (fun v n' σ' => ∃ r : Int, v = some (j_i r) ∧ n' = n ∧ CS σ σ' ∧ tk_P σ k r (σ'.2.1 5 11) (σ'.2.1 5 12) (σ'.2.1 5 13) (σ'.2.1 5 14)) := by
  obtain ⟨hK, hAc, hNm, hPs, hPt, hSm, hIx⟩ := id hR
  have hn := RR_n hR
  have hk := hK.1
  have hwh : h_wf σ 8 := hk.2.1
  have hwm : m_wf σ 16 := hk.2.2
  have hW : 0 ≤ σ.2.1 6 1 ∧ σ.2.1 6 1 ≤ 300 := hk.1
  have hfl := hSm.1
  have hkd := hSm.2.2.2.2.1
  refine k_enter (by decide +kernel) (Nat.le_of_ble_eq_true rfl) ?_
  show j_at _ _ _ [(0, .ref 5), (1, j_i k)] [] _ _ _ _
  refine a_iload_n (pc := 0) (i := 1) (by decide +kernel) rfl ?_
  refine a_if_lt (pc := 1) (off := 8) (tgt := 9) (by decide +kernel) (by decide) (by omega) (fun c1 => ?_) (fun c1 => ?_)
  · refine a_aload_n (pc := 9) (i := 0) (by decide +kernel) rfl ?_
    refine a_bipush (pc := 10) (n := (-2)) (by decide +kernel) rfl ?_
    refine b_callV (pc := 12) (c' := 0) (sl' := 0) [j_i (-2)] [] ml_X11_272 (by decide +kernel) rfl rfl (sh_5 hn) rfl rfl (Nat.le_of_ble_eq_true rfl) (j_fitI rfl rfl) (c_refused hn) (fun v n' σ' hq => ?_)
    obtain ⟨rfl, e1, e2⟩ := hq
    rw [e1, e2]; clear e1 e2
    obtain ⟨σ1, hσ1⟩ : ∃ z, z = k_sI σ 5 12 0 := ⟨_, rfl⟩
    rw [← hσ1]
    show j_at _ _ _ [(0, .ref 5), (1, j_i k)] [j_i (-2)] _ _ _ _
    refine a_ireturn (pc := 15) (by decide +kernel) rfl ?_
    refine k_ret ?_
    refine ⟨_, rfl, rfl, ⟨by rw [hσ1]; rfl, fun c j hc => by rw [hσ1, k_IN (by omega)], by rw [hσ1]; rfl⟩, ?_⟩
    rw [show σ1.2.1 5 11 = σ.2.1 5 11 by rw [hσ1, k_IN (by omega)]]
    rw [show σ1.2.1 5 12 = 0 by rw [hσ1, k_II]]
    rw [show σ1.2.1 5 13 = σ.2.1 5 13 by rw [hσ1, k_IN (by omega)]]
    rw [show σ1.2.1 5 14 = σ.2.1 5 14 by rw [hσ1, k_IN (by omega)]]
    unfold tk_P
    omega
  · refine a_iload_n (pc := 4) (i := 1) (by decide +kernel) rfl ?_
    refine a_iconst (pc := 5) (n := 2) (by decide +kernel) ?_
    refine a_icmp_le (pc := 6) (off := 10) (tgt := 16) (by decide +kernel) (by decide) (by omega) (by omega) (fun c6 => ?_) (fun c6 => ?_)
    · refine a_aload_n (pc := 16) (i := 0) (by decide +kernel) rfl ?_
      refine b_getI (pc := 17) fl_X11_85 (by decide +kernel) (sh_5 hn) rfl ?_
      refine a_iconst (pc := 20) (n := 3) (by decide +kernel) ?_
      refine a_icmp_ne (pc := 21) (off := 9) (tgt := 30) (by decide +kernel) (by decide) (by omega) (by omega) (fun c21 => ?_) (fun c21 => ?_)
      · refine a_aload_n (pc := 30) (i := 0) (by decide +kernel) rfl ?_
        refine b_getI (pc := 31) fl_X11_85 (by decide +kernel) (sh_5 hn) rfl ?_
        refine a_iload_n (pc := 34) (i := 1) (by decide +kernel) rfl ?_
        refine a_icmp_eq (pc := 35) (off := 9) (tgt := 44) (by decide +kernel) (by decide) (by omega) (by omega) (fun c35 => ?_) (fun c35 => ?_)
        · refine a_aload_n (pc := 44) (i := 0) (by decide +kernel) rfl ?_
          refine a_iconst (pc := 45) (n := 0) (by decide +kernel) ?_
          refine b_putI (pc := 46) fl_X11_82 (by decide +kernel) (sh_5 hn) rfl rfl rfl ?_
          obtain ⟨σ2, hσ2⟩ : ∃ z, z = k_sI σ 5 12 0 := ⟨_, rfl⟩
          rw [← hσ2]
          refine a_aload_n (pc := 49) (i := 0) (by decide +kernel) rfl ?_
          refine b_getI (pc := 50) fl_X11_88 (by decide +kernel) (sh_5 hn) rfl ?_
          rw [show σ2.2.1 5 14 = σ.2.1 5 14 by rw [hσ2]; exact k_IN (by omega)]
          refine a_ireturn (pc := 53) (by decide +kernel) rfl ?_
          refine k_ret ?_
          refine ⟨_, rfl, rfl, ⟨by rw [hσ2]; rfl, fun c j hc => by rw [hσ2, k_IN (by omega)], by rw [hσ2]; rfl⟩, ?_⟩
          rw [show σ2.2.1 5 11 = σ.2.1 5 11 by rw [hσ2, k_IN (by omega)]]
          rw [show σ2.2.1 5 12 = 0 by rw [hσ2, k_II]]
          rw [show σ2.2.1 5 13 = σ.2.1 5 13 by rw [hσ2, k_IN (by omega)]]
          rw [show σ2.2.1 5 14 = σ.2.1 5 14 by rw [hσ2, k_IN (by omega)]]
          unfold tk_P
          omega
        · refine a_aload_n (pc := 38) (i := 0) (by decide +kernel) rfl ?_
          refine a_iconst (pc := 39) (n := 2) (by decide +kernel) ?_
          refine b_callV (pc := 40) (c' := 0) (sl' := 0) [j_i 2] [] ml_X11_113 (by decide +kernel) rfl rfl (sh_5 hn) rfl rfl (Nat.le_of_ble_eq_true rfl) (j_fitI rfl rfl) (c_failed hn) (fun v n' σ' hq => ?_)
          obtain ⟨rfl, e1, e2⟩ := hq
          rw [e1, e2]; clear e1 e2
          obtain ⟨σ3, hσ3⟩ : ∃ z, z = k_sI σ 5 12 2 := ⟨_, rfl⟩
          rw [← hσ3]
          show j_at _ _ _ [(0, .ref 5), (1, j_i k)] [j_i (-10 - 2)] _ _ _ _
          refine a_ireturn (pc := 43) (by decide +kernel) rfl ?_
          refine k_ret ?_
          refine ⟨_, rfl, rfl, ⟨by rw [hσ3]; rfl, fun c j hc => by rw [hσ3, k_IN (by omega)], by rw [hσ3]; rfl⟩, ?_⟩
          rw [show σ3.2.1 5 11 = σ.2.1 5 11 by rw [hσ3, k_IN (by omega)]]
          rw [show σ3.2.1 5 12 = 2 by rw [hσ3, k_II]]
          rw [show σ3.2.1 5 13 = σ.2.1 5 13 by rw [hσ3, k_IN (by omega)]]
          rw [show σ3.2.1 5 14 = σ.2.1 5 14 by rw [hσ3, k_IN (by omega)]]
          unfold tk_P
          omega
      · refine a_aload_n (pc := 24) (i := 0) (by decide +kernel) rfl ?_
        refine a_iconst (pc := 25) (n := 1) (by decide +kernel) ?_
        refine b_callV (pc := 26) (c' := 0) (sl' := 0) [j_i 1] [] ml_X11_113 (by decide +kernel) rfl rfl (sh_5 hn) rfl rfl (Nat.le_of_ble_eq_true rfl) (j_fitI rfl rfl) (c_failed hn) (fun v n' σ' hq => ?_)
        obtain ⟨rfl, e1, e2⟩ := hq
        rw [e1, e2]; clear e1 e2
        obtain ⟨σ4, hσ4⟩ : ∃ z, z = k_sI σ 5 12 1 := ⟨_, rfl⟩
        rw [← hσ4]
        show j_at _ _ _ [(0, .ref 5), (1, j_i k)] [j_i (-10 - 1)] _ _ _ _
        refine a_ireturn (pc := 29) (by decide +kernel) rfl ?_
        refine k_ret ?_
        refine ⟨_, rfl, rfl, ⟨by rw [hσ4]; rfl, fun c j hc => by rw [hσ4, k_IN (by omega)], by rw [hσ4]; rfl⟩, ?_⟩
        rw [show σ4.2.1 5 11 = σ.2.1 5 11 by rw [hσ4, k_IN (by omega)]]
        rw [show σ4.2.1 5 12 = 1 by rw [hσ4, k_II]]
        rw [show σ4.2.1 5 13 = σ.2.1 5 13 by rw [hσ4, k_IN (by omega)]]
        rw [show σ4.2.1 5 14 = σ.2.1 5 14 by rw [hσ4, k_IN (by omega)]]
        unfold tk_P
        omega
    · refine a_aload_n (pc := 9) (i := 0) (by decide +kernel) rfl ?_
      refine a_bipush (pc := 10) (n := (-2)) (by decide +kernel) rfl ?_
      refine b_callV (pc := 12) (c' := 0) (sl' := 0) [j_i (-2)] [] ml_X11_272 (by decide +kernel) rfl rfl (sh_5 hn) rfl rfl (Nat.le_of_ble_eq_true rfl) (j_fitI rfl rfl) (c_refused hn) (fun v n' σ' hq => ?_)
      obtain ⟨rfl, e1, e2⟩ := hq
      rw [e1, e2]; clear e1 e2
      obtain ⟨σ5, hσ5⟩ : ∃ z, z = k_sI σ 5 12 0 := ⟨_, rfl⟩
      rw [← hσ5]
      show j_at _ _ _ [(0, .ref 5), (1, j_i k)] [j_i (-2)] _ _ _ _
      refine a_ireturn (pc := 15) (by decide +kernel) rfl ?_
      refine k_ret ?_
      refine ⟨_, rfl, rfl, ⟨by rw [hσ5]; rfl, fun c j hc => by rw [hσ5, k_IN (by omega)], by rw [hσ5]; rfl⟩, ?_⟩
      rw [show σ5.2.1 5 11 = σ.2.1 5 11 by rw [hσ5, k_IN (by omega)]]
      rw [show σ5.2.1 5 12 = 0 by rw [hσ5, k_II]]
      rw [show σ5.2.1 5 13 = σ.2.1 5 13 by rw [hσ5, k_IN (by omega)]]
      rw [show σ5.2.1 5 14 = σ.2.1 5 14 by rw [hσ5, k_IN (by omega)]]
      unfold tk_P
      omega
set_option maxHeartbeats 4000000 in
theorem d_taken {G : j_G} {X : k_X} {n : Nat} {ρ σ : k_St} (hR : RR n ρ) (hC : CS ρ σ) {k : Int} (hk : -2147483648 ≤ k ∧ k ≤ 2147483647) {r : Int} (hP : tk_P ρ k r (σ.2.1 5 11) (σ.2.1 5 12) (σ.2.1 5 13) (σ.2.1 5 14))  : k_run G X mX12_taken [.ref 68, j_i k] n σ 0 0 (fun v2 n2 σ2 => v2 = some (j_i r) ∧ RR n2 σ2) := by
  have hR0 := CS_R hC hR
  obtain ⟨hK, hAc, hNm, hPs, hPt, hSm, hIx⟩ := id hR0
  have hn := RR_n hR
  have hk := hK.1
  have hwh : h_wf σ 8 := hk.2.1
  have hwm : m_wf σ 16 := hk.2.2
  have hW : 0 ≤ σ.2.1 6 1 ∧ σ.2.1 6 1 ≤ 300 := hk.1
  have hg := hK.2.2.2
  obtain ⟨⟨hgW, hgE, hgM⟩, hgh, hgm⟩ := KR_rg hk hK.2.1
  have hW0 : σ.2.1 6 1 = σ.1 69 0 := hK.2.1.1.1
  have hE0 : σ.2.1 8 3 = σ.1 69 301 := hK.2.1.2.1.1
  have hM0 : σ.2.1 16 5 = σ.1 69 1382 := hK.2.1.2.2.1
  obtain ⟨s1, s2, s3, s4, s5, s6, s7⟩ := hSm
  unfold tk_P at hP
  refine k_enter (by decide +kernel) (Nat.le_of_ble_eq_true rfl) ?_
  show j_at _ _ _ [(0, .ref 68), (1, j_i k)] [] _ _ _ _
  refine a_aload_n (pc := 0) (i := 0) (by decide +kernel) rfl ?_
  refine a_iconst (pc := 1) (n := 0) (by decide +kernel) ?_
  refine b_putI (pc := 2) fl_X12_115 (by decide +kernel) (sh_68 hn) rfl rfl rfl ?_
  obtain ⟨σ1, hσ1⟩ : ∃ z, z = k_sI σ 68 0 0 := ⟨_, rfl⟩
  rw [← hσ1]
  refine a_iload_n (pc := 5) (i := 1) (by decide +kernel) rfl ?_
  refine a_iconst (pc := 6) (n := 0) (by decide +kernel) ?_
  refine a_iconst (pc := 7) (n := 2) (by decide +kernel) ?_
  refine b_callS (pc := 8) (c' := 0) (sl' := 0) [j_i k, j_i 0, j_i 2] [] ml_X12_128 (by decide +kernel) rfl rfl (Nat.le_of_ble_eq_true rfl) (j_fitI rfl rfl) (s_dwithin (by omega) (by omega) (by omega)) (fun v n' σ' hq => ?_)
  obtain ⟨x, rfl, e1, e2, hx⟩ := hq
  rw [e1, e2]; clear e1 e2
  rcases hx with ⟨rfl, p8⟩ | ⟨rfl, p8⟩
  · show j_at _ _ _ [(0, .ref 68), (1, j_i k)] [j_i 1] _ _ _ _
    refine a_if_ne (pc := 11) (off := 6) (tgt := 17) (by decide +kernel) (by decide) (by omega) (fun c11 => ?_) (fun c11 => ?_)
    · refine a_aload_n (pc := 17) (i := 0) (by decide +kernel) rfl ?_
      refine b_getI (pc := 18) fl_X12_112 (by decide +kernel) (sh_68 hn) rfl ?_
      rw [show σ1.2.1 68 52 = σ.2.1 68 52 by rw [hσ1]; exact k_IN (by omega)]
      refine a_iconst (pc := 21) (n := 3) (by decide +kernel) ?_
      refine a_icmp_ne (pc := 22) (off := 9) (tgt := 31) (by decide +kernel) (by decide) (by omega) (by omega) (fun c22 => ?_) (fun c22 => ?_)
      · refine a_aload_n (pc := 31) (i := 0) (by decide +kernel) rfl ?_
        refine b_getI (pc := 32) fl_X12_112 (by decide +kernel) (sh_68 hn) rfl ?_
        rw [show σ1.2.1 68 52 = σ.2.1 68 52 by rw [hσ1]; exact k_IN (by omega)]
        refine a_iload_n (pc := 35) (i := 1) (by decide +kernel) rfl ?_
        refine a_icmp_ne (pc := 36) (off := 10) (tgt := 46) (by decide +kernel) (by decide) (by omega) (by omega) (fun c36 => ?_) (fun c36 => ?_)
        · refine a_aload_n (pc := 46) (i := 0) (by decide +kernel) rfl ?_
          refine a_iconst (pc := 47) (n := 2) (by decide +kernel) ?_
          refine b_callV (pc := 48) (c' := 0) (sl' := 0) [j_i 2] [] ml_X12_142 (by decide +kernel) rfl rfl (sh_68 hn) rfl rfl (Nat.le_of_ble_eq_true rfl) (j_fitI rfl rfl) (s_dfails hn) (fun v n' σ' hq => ?_)
          obtain ⟨rfl, e1, e2⟩ := hq
          rw [e1, e2]; clear e1 e2
          obtain ⟨σ2, hσ2⟩ : ∃ z, z = k_sI σ1 68 0 2 := ⟨_, rfl⟩
          rw [← hσ2]
          show j_at _ _ _ [(0, .ref 68), (1, j_i k)] [j_i (-10 - 2)] _ _ _ _
          refine a_ireturn (pc := 51) (by decide +kernel) rfl ?_
          refine k_ret ?_
          refine ⟨by rw [show (-10 - 2 : Int) = r by omega], RR_scs (σ := ρ) ⟨fun c _ => by rw [hσ2, hσ1]; show σ.1 c = _; rw [hC.1], fun c j _ g1 g2 => by rw [hσ2, k_IN (by omega), hσ1, k_IN (by omega)]; exact hC.2.1 c j (by omega), by rw [hσ2, hσ1]; exact hC.2.2⟩ ?_ hR⟩
          unfold RSmall
          rw [show σ2.2.1 5 10 = σ.2.1 5 10 by rw [hσ2, k_IN (by omega), hσ1, k_IN (by omega)]]
          rw [show σ2.2.1 5 11 = σ.2.1 5 11 by rw [hσ2, k_IN (by omega), hσ1, k_IN (by omega)]]
          rw [show σ2.2.1 5 12 = σ.2.1 5 12 by rw [hσ2, k_IN (by omega), hσ1, k_IN (by omega)]]
          rw [show σ2.2.1 5 13 = σ.2.1 5 13 by rw [hσ2, k_IN (by omega), hσ1, k_IN (by omega)]]
          rw [show σ2.2.1 5 14 = σ.2.1 5 14 by rw [hσ2, k_IN (by omega), hσ1, k_IN (by omega)]]
          rw [show σ2.2.1 68 11 = σ.2.1 68 11 by rw [hσ2, k_IN (by omega), hσ1, k_IN (by omega)]]
          rw [show σ2.2.1 68 1 = σ.2.1 68 1 by rw [hσ2, k_IN (by omega), hσ1, k_IN (by omega)]]
          rw [show σ2.2.1 68 0 = 2 by rw [hσ2, k_II]]
          rw [show σ2.2.1 68 52 = σ.2.1 68 52 by rw [hσ2, k_IN (by omega), hσ1, k_IN (by omega)]]
          rw [show σ2.2.1 68 53 = σ.2.1 68 53 by rw [hσ2, k_IN (by omega), hσ1, k_IN (by omega)]]
          omega
        · refine a_aload_n (pc := 39) (i := 0) (by decide +kernel) rfl ?_
          refine b_getI (pc := 40) fl_X12_399 (by decide +kernel) (sh_68 hn) rfl ?_
          rw [show σ1.2.1 68 53 = σ.2.1 68 53 by rw [hσ1]; exact k_IN (by omega)]
          refine a_goto (pc := 43) (off := 8) (tgt := 51) (by decide +kernel) (by decide) ?_
          refine a_ireturn (pc := 51) (by decide +kernel) rfl ?_
          refine k_ret ?_
          refine ⟨by rw [show (σ.2.1 68 53 : Int) = r by omega], RR_scs (σ := ρ) ⟨fun c _ => by rw [hσ1]; show σ.1 c = _; rw [hC.1], fun c j _ g1 g2 => by rw [hσ1, k_IN (by omega)]; exact hC.2.1 c j (by omega), by rw [hσ1]; exact hC.2.2⟩ ?_ hR⟩
          unfold RSmall
          rw [show σ1.2.1 5 10 = σ.2.1 5 10 by rw [hσ1, k_IN (by omega)]]
          rw [show σ1.2.1 5 11 = σ.2.1 5 11 by rw [hσ1, k_IN (by omega)]]
          rw [show σ1.2.1 5 12 = σ.2.1 5 12 by rw [hσ1, k_IN (by omega)]]
          rw [show σ1.2.1 5 13 = σ.2.1 5 13 by rw [hσ1, k_IN (by omega)]]
          rw [show σ1.2.1 5 14 = σ.2.1 5 14 by rw [hσ1, k_IN (by omega)]]
          rw [show σ1.2.1 68 11 = σ.2.1 68 11 by rw [hσ1, k_IN (by omega)]]
          rw [show σ1.2.1 68 1 = σ.2.1 68 1 by rw [hσ1, k_IN (by omega)]]
          rw [show σ1.2.1 68 0 = 0 by rw [hσ1, k_II]]
          rw [show σ1.2.1 68 52 = σ.2.1 68 52 by rw [hσ1, k_IN (by omega)]]
          rw [show σ1.2.1 68 53 = σ.2.1 68 53 by rw [hσ1, k_IN (by omega)]]
          omega
      · refine a_aload_n (pc := 25) (i := 0) (by decide +kernel) rfl ?_
        refine a_iconst (pc := 26) (n := 1) (by decide +kernel) ?_
        refine b_callV (pc := 27) (c' := 0) (sl' := 0) [j_i 1] [] ml_X12_142 (by decide +kernel) rfl rfl (sh_68 hn) rfl rfl (Nat.le_of_ble_eq_true rfl) (j_fitI rfl rfl) (s_dfails hn) (fun v n' σ' hq => ?_)
        obtain ⟨rfl, e1, e2⟩ := hq
        rw [e1, e2]; clear e1 e2
        obtain ⟨σ3, hσ3⟩ : ∃ z, z = k_sI σ1 68 0 1 := ⟨_, rfl⟩
        rw [← hσ3]
        show j_at _ _ _ [(0, .ref 68), (1, j_i k)] [j_i (-10 - 1)] _ _ _ _
        refine a_ireturn (pc := 30) (by decide +kernel) rfl ?_
        refine k_ret ?_
        refine ⟨by rw [show (-10 - 1 : Int) = r by omega], RR_scs (σ := ρ) ⟨fun c _ => by rw [hσ3, hσ1]; show σ.1 c = _; rw [hC.1], fun c j _ g1 g2 => by rw [hσ3, k_IN (by omega), hσ1, k_IN (by omega)]; exact hC.2.1 c j (by omega), by rw [hσ3, hσ1]; exact hC.2.2⟩ ?_ hR⟩
        unfold RSmall
        rw [show σ3.2.1 5 10 = σ.2.1 5 10 by rw [hσ3, k_IN (by omega), hσ1, k_IN (by omega)]]
        rw [show σ3.2.1 5 11 = σ.2.1 5 11 by rw [hσ3, k_IN (by omega), hσ1, k_IN (by omega)]]
        rw [show σ3.2.1 5 12 = σ.2.1 5 12 by rw [hσ3, k_IN (by omega), hσ1, k_IN (by omega)]]
        rw [show σ3.2.1 5 13 = σ.2.1 5 13 by rw [hσ3, k_IN (by omega), hσ1, k_IN (by omega)]]
        rw [show σ3.2.1 5 14 = σ.2.1 5 14 by rw [hσ3, k_IN (by omega), hσ1, k_IN (by omega)]]
        rw [show σ3.2.1 68 11 = σ.2.1 68 11 by rw [hσ3, k_IN (by omega), hσ1, k_IN (by omega)]]
        rw [show σ3.2.1 68 1 = σ.2.1 68 1 by rw [hσ3, k_IN (by omega), hσ1, k_IN (by omega)]]
        rw [show σ3.2.1 68 0 = 1 by rw [hσ3, k_II]]
        rw [show σ3.2.1 68 52 = σ.2.1 68 52 by rw [hσ3, k_IN (by omega), hσ1, k_IN (by omega)]]
        rw [show σ3.2.1 68 53 = σ.2.1 68 53 by rw [hσ3, k_IN (by omega), hσ1, k_IN (by omega)]]
        omega
    · exact absurd c11 (by decide)
  · show j_at _ _ _ [(0, .ref 68), (1, j_i k)] [j_i 0] _ _ _ _
    refine a_if_ne (pc := 11) (off := 6) (tgt := 17) (by decide +kernel) (by decide) (by omega) (fun c11 => ?_) (fun c11 => ?_)
    · exact absurd c11 (by decide)
    · refine a_bipush (pc := 14) (n := (-2)) (by decide +kernel) rfl ?_
      refine a_ireturn (pc := 16) (by decide +kernel) rfl ?_
      refine k_ret ?_
      refine ⟨by rw [show ((-2) : Int) = r by omega], RR_scs (σ := ρ) ⟨fun c _ => by rw [hσ1]; show σ.1 c = _; rw [hC.1], fun c j _ g1 g2 => by rw [hσ1, k_IN (by omega)]; exact hC.2.1 c j (by omega), by rw [hσ1]; exact hC.2.2⟩ ?_ hR⟩
      unfold RSmall
      rw [show σ1.2.1 5 10 = σ.2.1 5 10 by rw [hσ1, k_IN (by omega)]]
      rw [show σ1.2.1 5 11 = σ.2.1 5 11 by rw [hσ1, k_IN (by omega)]]
      rw [show σ1.2.1 5 12 = σ.2.1 5 12 by rw [hσ1, k_IN (by omega)]]
      rw [show σ1.2.1 5 13 = σ.2.1 5 13 by rw [hσ1, k_IN (by omega)]]
      rw [show σ1.2.1 5 14 = σ.2.1 5 14 by rw [hσ1, k_IN (by omega)]]
      rw [show σ1.2.1 68 11 = σ.2.1 68 11 by rw [hσ1, k_IN (by omega)]]
      rw [show σ1.2.1 68 1 = σ.2.1 68 1 by rw [hσ1, k_IN (by omega)]]
      rw [show σ1.2.1 68 0 = 0 by rw [hσ1, k_II]]
      rw [show σ1.2.1 68 52 = σ.2.1 68 52 by rw [hσ1, k_IN (by omega)]]
      rw [show σ1.2.1 68 53 = σ.2.1 68 53 by rw [hσ1, k_IN (by omega)]]
      omega
set_option maxHeartbeats 4000000 in
theorem p_taken {G : j_G} {X : k_X} {n : Nat} {σ : k_St} (hR : RR n σ) {k : Int} (hk : -2147483648 ≤ k ∧ k ≤ 2147483647)  : pr_ok G X mX11_taken mX12_taken [j_i k] n σ 0 0 := by
  refine ⟨_, c_taken hR hk , fun v n' σ' hq => ?_⟩
  obtain ⟨r, hv, rfl, hC, hP⟩ := hq
  exact ⟨RR_n hR, r, hv, d_taken hR hC hk  hP⟩
def ty_P (σ : k_St) (k x r t f q m : Int) : Prop := t = σ.2.1 5 11 ∧ f = σ.2.1 5 12 ∧ ((¬ (0 ≤ k ∧ k ≤ 3) ∧ r = -2 ∧ q = σ.2.1 5 13 ∧ m = σ.2.1 5 14) ∨ ((0 ≤ k ∧ k ≤ 3) ∧ ¬ (k = 0 ∧ bi (h_is σ x) = 1 ∨ k = 1 ∧ bi (m_is σ x) = 1 ∨ k = 2 ∧ (0 ≤ x ∧ x < f_page (σ.2.1 6 1) (σ.2.1 5 10) + 1) ∨ k = 3) ∧ r = -1 ∧ q = σ.2.1 5 13 ∧ m = σ.2.1 5 14) ∨ ((0 ≤ k ∧ k ≤ 3) ∧ (k = 0 ∧ bi (h_is σ x) = 1 ∨ k = 1 ∧ bi (m_is σ x) = 1 ∨ k = 2 ∧ (0 ≤ x ∧ x < f_page (σ.2.1 6 1) (σ.2.1 5 10) + 1) ∨ k = 3) ∧ r = 1 ∧ q = k ∧ m = x))
set_option maxHeartbeats 4000000 in
theorem c_tray {G : j_G} {X : k_X} {n : Nat} {σ : k_St} (hR : RR n σ) {k : Int} (hk : -2147483648 ≤ k ∧ k ≤ 2147483647) {x : Int} (hx : -2147483648 ≤ x ∧ x ≤ 2147483647)  : k_run G X mX11_tray [.ref 5, j_i k, j_i x] n σ 0 0 (fun v n' σ' => ∃ r : Int, v = some (j_i r) ∧ n' = n ∧ CS σ σ' ∧ ty_P σ k x r (σ'.2.1 5 11) (σ'.2.1 5 12) (σ'.2.1 5 13) (σ'.2.1 5 14)) := by
  obtain ⟨hK, hAc, hNm, hPs, hPt, hSm, hIx⟩ := id hR
  have hn := RR_n hR
  have hk := hK.1
  have hwh : h_wf σ 8 := hk.2.1
  have hwm : m_wf σ 16 := hk.2.2
  have hW : 0 ≤ σ.2.1 6 1 ∧ σ.2.1 6 1 ≤ 300 := hk.1
  have hfl := hSm.1
  refine k_enter (by decide +kernel) (Nat.le_of_ble_eq_true rfl) ?_
  show j_at _ _ _ [(0, .ref 5), (1, j_i k), (2, j_i x)] [] _ _ _ _
  refine a_iload_n (pc := 0) (i := 1) (by decide +kernel) rfl ?_
  refine a_if_lt (pc := 1) (off := 8) (tgt := 9) (by decide +kernel) (by decide) (by omega) (fun c1 => ?_) (fun c1 => ?_)
  · refine a_bipush (pc := 9) (n := (-2)) (by decide +kernel) rfl ?_
    refine a_ireturn (pc := 11) (by decide +kernel) rfl ?_
    refine k_ret ?_
    refine ⟨_, rfl, rfl, ⟨rfl, fun _ _ _ => rfl, rfl⟩, ?_⟩
    unfold ty_P
    omega
  · refine a_iload_n (pc := 4) (i := 1) (by decide +kernel) rfl ?_
    refine a_iconst (pc := 5) (n := 3) (by decide +kernel) ?_
    refine a_icmp_le (pc := 6) (off := 6) (tgt := 12) (by decide +kernel) (by decide) (by omega) (by omega) (fun c6 => ?_) (fun c6 => ?_)
    · refine a_iload_n (pc := 12) (i := 1) (by decide +kernel) rfl ?_
      refine a_if_ne (pc := 13) (off := 14) (tgt := 27) (by decide +kernel) (by decide) (by omega) (fun c13 => ?_) (fun c13 => ?_)
      · refine a_iload_n (pc := 27) (i := 1) (by decide +kernel) rfl ?_
        refine a_iconst (pc := 28) (n := 1) (by decide +kernel) ?_
        refine a_icmp_ne (pc := 29) (off := 14) (tgt := 43) (by decide +kernel) (by decide) (by omega) (by omega) (fun c29 => ?_) (fun c29 => ?_)
        · refine a_iload_n (pc := 43) (i := 1) (by decide +kernel) rfl ?_
          refine a_iconst (pc := 44) (n := 2) (by decide +kernel) ?_
          refine a_icmp_ne (pc := 45) (off := 11) (tgt := 56) (by decide +kernel) (by decide) (by omega) (by omega) (fun c45 => ?_) (fun c45 => ?_)
          · refine a_iload_n (pc := 56) (i := 1) (by decide +kernel) rfl ?_
            refine a_iconst (pc := 57) (n := 3) (by decide +kernel) ?_
            refine a_icmp_ne (pc := 58) (off := 7) (tgt := 65) (by decide +kernel) (by decide) (by omega) (by omega) (fun c58 => ?_) (fun c58 => ?_)
            · refine a_iconst (pc := 65) (n := 0) (by decide +kernel) ?_
              refine a_istore_n (pc := 66) (i := 3) (lv' := [(0, .ref 5), (1, j_i k), (2, j_i x), (3, j_i 0)]) (by decide +kernel) (Nat.le_of_ble_eq_true rfl) rfl ?_
              refine a_iload_n (pc := 67) (i := 3) (by decide +kernel) rfl ?_
              refine a_if_ne (pc := 68) (off := 5) (tgt := 73) (by decide +kernel) (by decide) (by omega) (fun c68 => ?_) (fun c68 => ?_)
              · exact absurd c68 (by decide)
              · refine a_iconst (pc := 71) (n := (-1)) (by decide +kernel) ?_
                refine a_ireturn (pc := 72) (by decide +kernel) rfl ?_
                refine k_ret ?_
                refine ⟨_, rfl, rfl, ⟨rfl, fun _ _ _ => rfl, rfl⟩, ?_⟩
                unfold ty_P
                omega
            · refine a_iconst (pc := 61) (n := 1) (by decide +kernel) ?_
              refine a_goto (pc := 62) (off := 4) (tgt := 66) (by decide +kernel) (by decide) ?_
              refine a_istore_n (pc := 66) (i := 3) (lv' := [(0, .ref 5), (1, j_i k), (2, j_i x), (3, j_i 1)]) (by decide +kernel) (Nat.le_of_ble_eq_true rfl) rfl ?_
              refine a_iload_n (pc := 67) (i := 3) (by decide +kernel) rfl ?_
              refine a_if_ne (pc := 68) (off := 5) (tgt := 73) (by decide +kernel) (by decide) (by omega) (fun c68 => ?_) (fun c68 => ?_)
              · refine a_aload_n (pc := 73) (i := 0) (by decide +kernel) rfl ?_
                refine a_iload_n (pc := 74) (i := 1) (by decide +kernel) rfl ?_
                refine b_putI (pc := 75) fl_X11_85 (by decide +kernel) (sh_5 hn) rfl rfl rfl ?_
                obtain ⟨σ1, hσ1⟩ : ∃ z, z = k_sI σ 5 13 k := ⟨_, rfl⟩
                rw [← hσ1]
                refine a_aload_n (pc := 78) (i := 0) (by decide +kernel) rfl ?_
                refine a_iload_n (pc := 79) (i := 2) (by decide +kernel) rfl ?_
                refine b_putI (pc := 80) fl_X11_88 (by decide +kernel) (sh_5 hn) rfl rfl rfl ?_
                obtain ⟨σ2, hσ2⟩ : ∃ z, z = k_sI σ1 5 14 x := ⟨_, rfl⟩
                rw [← hσ2]
                refine a_iconst (pc := 83) (n := 1) (by decide +kernel) ?_
                refine a_ireturn (pc := 84) (by decide +kernel) rfl ?_
                refine k_ret ?_
                refine ⟨_, rfl, rfl, ⟨by rw [hσ2, hσ1]; rfl, fun c j hc => by rw [hσ2, k_IN (by omega), hσ1, k_IN (by omega)], by rw [hσ2, hσ1]; rfl⟩, ?_⟩
                rw [show σ2.2.1 5 11 = σ.2.1 5 11 by rw [hσ2, k_IN (by omega), hσ1, k_IN (by omega)]]
                rw [show σ2.2.1 5 12 = σ.2.1 5 12 by rw [hσ2, k_IN (by omega), hσ1, k_IN (by omega)]]
                rw [show σ2.2.1 5 13 = k by rw [hσ2, k_IN (by omega), hσ1, k_II]]
                rw [show σ2.2.1 5 14 = x by rw [hσ2, k_II]]
                unfold ty_P
                omega
              · exact absurd c68 (by decide)
          · refine a_aload_n (pc := 48) (i := 0) (by decide +kernel) rfl ?_
            refine a_iload_n (pc := 49) (i := 2) (by decide +kernel) rfl ?_
            refine b_callV (pc := 50) (c' := 0) (sl' := 0) [j_i x] [] ml_X11_138 (by decide +kernel) rfl rfl (sh_5 hn) rfl rfl (Nat.le_of_ble_eq_true rfl) (j_fitI rfl rfl) (c_hasPage hR (by omega)) (fun v n' σ' hq => ?_)
            obtain ⟨x, rfl, e1, e2, hx⟩ := hq
            rw [e1, e2]; clear e1 e2
            rcases hx with ⟨rfl, p50⟩ | ⟨rfl, p50⟩
            · show j_at _ _ _ [(0, .ref 5), (1, j_i k), (2, j_i x)] [j_i 1] _ _ _ _
              refine a_if_ne (pc := 53) (off := 8) (tgt := 61) (by decide +kernel) (by decide) (by omega) (fun c53 => ?_) (fun c53 => ?_)
              · refine a_iconst (pc := 61) (n := 1) (by decide +kernel) ?_
                refine a_goto (pc := 62) (off := 4) (tgt := 66) (by decide +kernel) (by decide) ?_
                refine a_istore_n (pc := 66) (i := 3) (lv' := [(0, .ref 5), (1, j_i k), (2, j_i x), (3, j_i 1)]) (by decide +kernel) (Nat.le_of_ble_eq_true rfl) rfl ?_
                refine a_iload_n (pc := 67) (i := 3) (by decide +kernel) rfl ?_
                refine a_if_ne (pc := 68) (off := 5) (tgt := 73) (by decide +kernel) (by decide) (by omega) (fun c68 => ?_) (fun c68 => ?_)
                · refine a_aload_n (pc := 73) (i := 0) (by decide +kernel) rfl ?_
                  refine a_iload_n (pc := 74) (i := 1) (by decide +kernel) rfl ?_
                  refine b_putI (pc := 75) fl_X11_85 (by decide +kernel) (sh_5 hn) rfl rfl rfl ?_
                  obtain ⟨σ3, hσ3⟩ : ∃ z, z = k_sI σ 5 13 k := ⟨_, rfl⟩
                  rw [← hσ3]
                  refine a_aload_n (pc := 78) (i := 0) (by decide +kernel) rfl ?_
                  refine a_iload_n (pc := 79) (i := 2) (by decide +kernel) rfl ?_
                  refine b_putI (pc := 80) fl_X11_88 (by decide +kernel) (sh_5 hn) rfl rfl rfl ?_
                  obtain ⟨σ4, hσ4⟩ : ∃ z, z = k_sI σ3 5 14 x := ⟨_, rfl⟩
                  rw [← hσ4]
                  refine a_iconst (pc := 83) (n := 1) (by decide +kernel) ?_
                  refine a_ireturn (pc := 84) (by decide +kernel) rfl ?_
                  refine k_ret ?_
                  refine ⟨_, rfl, rfl, ⟨by rw [hσ4, hσ3]; rfl, fun c j hc => by rw [hσ4, k_IN (by omega), hσ3, k_IN (by omega)], by rw [hσ4, hσ3]; rfl⟩, ?_⟩
                  rw [show σ4.2.1 5 11 = σ.2.1 5 11 by rw [hσ4, k_IN (by omega), hσ3, k_IN (by omega)]]
                  rw [show σ4.2.1 5 12 = σ.2.1 5 12 by rw [hσ4, k_IN (by omega), hσ3, k_IN (by omega)]]
                  rw [show σ4.2.1 5 13 = k by rw [hσ4, k_IN (by omega), hσ3, k_II]]
                  rw [show σ4.2.1 5 14 = x by rw [hσ4, k_II]]
                  unfold ty_P
                  omega
                · exact absurd c68 (by decide)
              · exact absurd c53 (by decide)
            · show j_at _ _ _ [(0, .ref 5), (1, j_i k), (2, j_i x)] [j_i 0] _ _ _ _
              refine a_if_ne (pc := 53) (off := 8) (tgt := 61) (by decide +kernel) (by decide) (by omega) (fun c53 => ?_) (fun c53 => ?_)
              · exact absurd c53 (by decide)
              · refine a_iload_n (pc := 56) (i := 1) (by decide +kernel) rfl ?_
                refine a_iconst (pc := 57) (n := 3) (by decide +kernel) ?_
                refine a_icmp_ne (pc := 58) (off := 7) (tgt := 65) (by decide +kernel) (by decide) (by omega) (by omega) (fun c58 => ?_) (fun c58 => ?_)
                · refine a_iconst (pc := 65) (n := 0) (by decide +kernel) ?_
                  refine a_istore_n (pc := 66) (i := 3) (lv' := [(0, .ref 5), (1, j_i k), (2, j_i x), (3, j_i 0)]) (by decide +kernel) (Nat.le_of_ble_eq_true rfl) rfl ?_
                  refine a_iload_n (pc := 67) (i := 3) (by decide +kernel) rfl ?_
                  refine a_if_ne (pc := 68) (off := 5) (tgt := 73) (by decide +kernel) (by decide) (by omega) (fun c68 => ?_) (fun c68 => ?_)
                  · exact absurd c68 (by decide)
                  · refine a_iconst (pc := 71) (n := (-1)) (by decide +kernel) ?_
                    refine a_ireturn (pc := 72) (by decide +kernel) rfl ?_
                    refine k_ret ?_
                    refine ⟨_, rfl, rfl, ⟨rfl, fun _ _ _ => rfl, rfl⟩, ?_⟩
                    unfold ty_P
                    omega
                · refine a_iconst (pc := 61) (n := 1) (by decide +kernel) ?_
                  refine a_goto (pc := 62) (off := 4) (tgt := 66) (by decide +kernel) (by decide) ?_
                  refine a_istore_n (pc := 66) (i := 3) (lv' := [(0, .ref 5), (1, j_i k), (2, j_i x), (3, j_i 1)]) (by decide +kernel) (Nat.le_of_ble_eq_true rfl) rfl ?_
                  refine a_iload_n (pc := 67) (i := 3) (by decide +kernel) rfl ?_
                  refine a_if_ne (pc := 68) (off := 5) (tgt := 73) (by decide +kernel) (by decide) (by omega) (fun c68 => ?_) (fun c68 => ?_)
                  · refine a_aload_n (pc := 73) (i := 0) (by decide +kernel) rfl ?_
                    refine a_iload_n (pc := 74) (i := 1) (by decide +kernel) rfl ?_
                    refine b_putI (pc := 75) fl_X11_85 (by decide +kernel) (sh_5 hn) rfl rfl rfl ?_
                    obtain ⟨σ5, hσ5⟩ : ∃ z, z = k_sI σ 5 13 k := ⟨_, rfl⟩
                    rw [← hσ5]
                    refine a_aload_n (pc := 78) (i := 0) (by decide +kernel) rfl ?_
                    refine a_iload_n (pc := 79) (i := 2) (by decide +kernel) rfl ?_
                    refine b_putI (pc := 80) fl_X11_88 (by decide +kernel) (sh_5 hn) rfl rfl rfl ?_
                    obtain ⟨σ6, hσ6⟩ : ∃ z, z = k_sI σ5 5 14 x := ⟨_, rfl⟩
                    rw [← hσ6]
                    refine a_iconst (pc := 83) (n := 1) (by decide +kernel) ?_
                    refine a_ireturn (pc := 84) (by decide +kernel) rfl ?_
                    refine k_ret ?_
                    refine ⟨_, rfl, rfl, ⟨by rw [hσ6, hσ5]; rfl, fun c j hc => by rw [hσ6, k_IN (by omega), hσ5, k_IN (by omega)], by rw [hσ6, hσ5]; rfl⟩, ?_⟩
                    rw [show σ6.2.1 5 11 = σ.2.1 5 11 by rw [hσ6, k_IN (by omega), hσ5, k_IN (by omega)]]
                    rw [show σ6.2.1 5 12 = σ.2.1 5 12 by rw [hσ6, k_IN (by omega), hσ5, k_IN (by omega)]]
                    rw [show σ6.2.1 5 13 = k by rw [hσ6, k_IN (by omega), hσ5, k_II]]
                    rw [show σ6.2.1 5 14 = x by rw [hσ6, k_II]]
                    unfold ty_P
                    omega
                  · exact absurd c68 (by decide)
        · refine a_aload_n (pc := 32) (i := 0) (by decide +kernel) rfl ?_
          refine b_getR (pc := 33) (b := 16) fl_X11_25 (by decide +kernel) (sh_5 hn) rfl ?_
          refine a_iload_n (pc := 36) (i := 2) (by decide +kernel) rfl ?_
          refine b_callV (pc := 37) (c' := 0) (sl' := 0) [j_i x] [] ml_X11_240 (by decide +kernel) rfl rfl (sh_16 hn) rfl rfl (Nat.le_of_ble_eq_true rfl) (j_fitI rfl rfl) (s_mhas hn hwm (by omega)) (fun v n' σ' hq => ?_)
          obtain ⟨x, rfl, e1, e2, hx⟩ := hq
          rw [e1, e2]; clear e1 e2
          rcases hx with ⟨rfl, p37⟩ | ⟨rfl, p37⟩
          · show j_at _ _ _ [(0, .ref 5), (1, j_i k), (2, j_i x)] [j_i 1] _ _ _ _
            have i37 := bi_y p37
            have u37 := p37.1
            have w37 := p37.2.1
            refine a_if_ne (pc := 40) (off := 21) (tgt := 61) (by decide +kernel) (by decide) (by omega) (fun c40 => ?_) (fun c40 => ?_)
            · refine a_iconst (pc := 61) (n := 1) (by decide +kernel) ?_
              refine a_goto (pc := 62) (off := 4) (tgt := 66) (by decide +kernel) (by decide) ?_
              refine a_istore_n (pc := 66) (i := 3) (lv' := [(0, .ref 5), (1, j_i k), (2, j_i x), (3, j_i 1)]) (by decide +kernel) (Nat.le_of_ble_eq_true rfl) rfl ?_
              refine a_iload_n (pc := 67) (i := 3) (by decide +kernel) rfl ?_
              refine a_if_ne (pc := 68) (off := 5) (tgt := 73) (by decide +kernel) (by decide) (by omega) (fun c68 => ?_) (fun c68 => ?_)
              · refine a_aload_n (pc := 73) (i := 0) (by decide +kernel) rfl ?_
                refine a_iload_n (pc := 74) (i := 1) (by decide +kernel) rfl ?_
                refine b_putI (pc := 75) fl_X11_85 (by decide +kernel) (sh_5 hn) rfl rfl rfl ?_
                obtain ⟨σ7, hσ7⟩ : ∃ z, z = k_sI σ 5 13 k := ⟨_, rfl⟩
                rw [← hσ7]
                refine a_aload_n (pc := 78) (i := 0) (by decide +kernel) rfl ?_
                refine a_iload_n (pc := 79) (i := 2) (by decide +kernel) rfl ?_
                refine b_putI (pc := 80) fl_X11_88 (by decide +kernel) (sh_5 hn) rfl rfl rfl ?_
                obtain ⟨σ8, hσ8⟩ : ∃ z, z = k_sI σ7 5 14 x := ⟨_, rfl⟩
                rw [← hσ8]
                refine a_iconst (pc := 83) (n := 1) (by decide +kernel) ?_
                refine a_ireturn (pc := 84) (by decide +kernel) rfl ?_
                refine k_ret ?_
                refine ⟨_, rfl, rfl, ⟨by rw [hσ8, hσ7]; rfl, fun c j hc => by rw [hσ8, k_IN (by omega), hσ7, k_IN (by omega)], by rw [hσ8, hσ7]; rfl⟩, ?_⟩
                rw [show σ8.2.1 5 11 = σ.2.1 5 11 by rw [hσ8, k_IN (by omega), hσ7, k_IN (by omega)]]
                rw [show σ8.2.1 5 12 = σ.2.1 5 12 by rw [hσ8, k_IN (by omega), hσ7, k_IN (by omega)]]
                rw [show σ8.2.1 5 13 = k by rw [hσ8, k_IN (by omega), hσ7, k_II]]
                rw [show σ8.2.1 5 14 = x by rw [hσ8, k_II]]
                unfold ty_P
                omega
              · exact absurd c68 (by decide)
            · exact absurd c40 (by decide)
          · show j_at _ _ _ [(0, .ref 5), (1, j_i k), (2, j_i x)] [j_i 0] _ _ _ _
            have i37 := bi_n p37
            refine a_if_ne (pc := 40) (off := 21) (tgt := 61) (by decide +kernel) (by decide) (by omega) (fun c40 => ?_) (fun c40 => ?_)
            · exact absurd c40 (by decide)
            · refine a_iload_n (pc := 43) (i := 1) (by decide +kernel) rfl ?_
              refine a_iconst (pc := 44) (n := 2) (by decide +kernel) ?_
              refine a_icmp_ne (pc := 45) (off := 11) (tgt := 56) (by decide +kernel) (by decide) (by omega) (by omega) (fun c45 => ?_) (fun c45 => ?_)
              · refine a_iload_n (pc := 56) (i := 1) (by decide +kernel) rfl ?_
                refine a_iconst (pc := 57) (n := 3) (by decide +kernel) ?_
                refine a_icmp_ne (pc := 58) (off := 7) (tgt := 65) (by decide +kernel) (by decide) (by omega) (by omega) (fun c58 => ?_) (fun c58 => ?_)
                · refine a_iconst (pc := 65) (n := 0) (by decide +kernel) ?_
                  refine a_istore_n (pc := 66) (i := 3) (lv' := [(0, .ref 5), (1, j_i k), (2, j_i x), (3, j_i 0)]) (by decide +kernel) (Nat.le_of_ble_eq_true rfl) rfl ?_
                  refine a_iload_n (pc := 67) (i := 3) (by decide +kernel) rfl ?_
                  refine a_if_ne (pc := 68) (off := 5) (tgt := 73) (by decide +kernel) (by decide) (by omega) (fun c68 => ?_) (fun c68 => ?_)
                  · exact absurd c68 (by decide)
                  · refine a_iconst (pc := 71) (n := (-1)) (by decide +kernel) ?_
                    refine a_ireturn (pc := 72) (by decide +kernel) rfl ?_
                    refine k_ret ?_
                    refine ⟨_, rfl, rfl, ⟨rfl, fun _ _ _ => rfl, rfl⟩, ?_⟩
                    unfold ty_P
                    omega
                · refine a_iconst (pc := 61) (n := 1) (by decide +kernel) ?_
                  refine a_goto (pc := 62) (off := 4) (tgt := 66) (by decide +kernel) (by decide) ?_
                  refine a_istore_n (pc := 66) (i := 3) (lv' := [(0, .ref 5), (1, j_i k), (2, j_i x), (3, j_i 1)]) (by decide +kernel) (Nat.le_of_ble_eq_true rfl) rfl ?_
                  refine a_iload_n (pc := 67) (i := 3) (by decide +kernel) rfl ?_
                  refine a_if_ne (pc := 68) (off := 5) (tgt := 73) (by decide +kernel) (by decide) (by omega) (fun c68 => ?_) (fun c68 => ?_)
                  · refine a_aload_n (pc := 73) (i := 0) (by decide +kernel) rfl ?_
                    refine a_iload_n (pc := 74) (i := 1) (by decide +kernel) rfl ?_
                    refine b_putI (pc := 75) fl_X11_85 (by decide +kernel) (sh_5 hn) rfl rfl rfl ?_
                    obtain ⟨σ9, hσ9⟩ : ∃ z, z = k_sI σ 5 13 k := ⟨_, rfl⟩
                    rw [← hσ9]
                    refine a_aload_n (pc := 78) (i := 0) (by decide +kernel) rfl ?_
                    refine a_iload_n (pc := 79) (i := 2) (by decide +kernel) rfl ?_
                    refine b_putI (pc := 80) fl_X11_88 (by decide +kernel) (sh_5 hn) rfl rfl rfl ?_
                    obtain ⟨σ10, hσ10⟩ : ∃ z, z = k_sI σ9 5 14 x := ⟨_, rfl⟩
                    rw [← hσ10]
                    refine a_iconst (pc := 83) (n := 1) (by decide +kernel) ?_
                    refine a_ireturn (pc := 84) (by decide +kernel) rfl ?_
                    refine k_ret ?_
                    refine ⟨_, rfl, rfl, ⟨by rw [hσ10, hσ9]; rfl, fun c j hc => by rw [hσ10, k_IN (by omega), hσ9, k_IN (by omega)], by rw [hσ10, hσ9]; rfl⟩, ?_⟩
                    rw [show σ10.2.1 5 11 = σ.2.1 5 11 by rw [hσ10, k_IN (by omega), hσ9, k_IN (by omega)]]
                    rw [show σ10.2.1 5 12 = σ.2.1 5 12 by rw [hσ10, k_IN (by omega), hσ9, k_IN (by omega)]]
                    rw [show σ10.2.1 5 13 = k by rw [hσ10, k_IN (by omega), hσ9, k_II]]
                    rw [show σ10.2.1 5 14 = x by rw [hσ10, k_II]]
                    unfold ty_P
                    omega
                  · exact absurd c68 (by decide)
              · refine a_aload_n (pc := 48) (i := 0) (by decide +kernel) rfl ?_
                refine a_iload_n (pc := 49) (i := 2) (by decide +kernel) rfl ?_
                refine b_callV (pc := 50) (c' := 0) (sl' := 0) [j_i x] [] ml_X11_138 (by decide +kernel) rfl rfl (sh_5 hn) rfl rfl (Nat.le_of_ble_eq_true rfl) (j_fitI rfl rfl) (c_hasPage hR (by omega)) (fun v n' σ' hq => ?_)
                obtain ⟨x, rfl, e1, e2, hx⟩ := hq
                rw [e1, e2]; clear e1 e2
                rcases hx with ⟨rfl, p50⟩ | ⟨rfl, p50⟩
                · show j_at _ _ _ [(0, .ref 5), (1, j_i k), (2, j_i x)] [j_i 1] _ _ _ _
                  refine a_if_ne (pc := 53) (off := 8) (tgt := 61) (by decide +kernel) (by decide) (by omega) (fun c53 => ?_) (fun c53 => ?_)
                  · refine a_iconst (pc := 61) (n := 1) (by decide +kernel) ?_
                    refine a_goto (pc := 62) (off := 4) (tgt := 66) (by decide +kernel) (by decide) ?_
                    refine a_istore_n (pc := 66) (i := 3) (lv' := [(0, .ref 5), (1, j_i k), (2, j_i x), (3, j_i 1)]) (by decide +kernel) (Nat.le_of_ble_eq_true rfl) rfl ?_
                    refine a_iload_n (pc := 67) (i := 3) (by decide +kernel) rfl ?_
                    refine a_if_ne (pc := 68) (off := 5) (tgt := 73) (by decide +kernel) (by decide) (by omega) (fun c68 => ?_) (fun c68 => ?_)
                    · refine a_aload_n (pc := 73) (i := 0) (by decide +kernel) rfl ?_
                      refine a_iload_n (pc := 74) (i := 1) (by decide +kernel) rfl ?_
                      refine b_putI (pc := 75) fl_X11_85 (by decide +kernel) (sh_5 hn) rfl rfl rfl ?_
                      obtain ⟨σ11, hσ11⟩ : ∃ z, z = k_sI σ 5 13 k := ⟨_, rfl⟩
                      rw [← hσ11]
                      refine a_aload_n (pc := 78) (i := 0) (by decide +kernel) rfl ?_
                      refine a_iload_n (pc := 79) (i := 2) (by decide +kernel) rfl ?_
                      refine b_putI (pc := 80) fl_X11_88 (by decide +kernel) (sh_5 hn) rfl rfl rfl ?_
                      obtain ⟨σ12, hσ12⟩ : ∃ z, z = k_sI σ11 5 14 x := ⟨_, rfl⟩
                      rw [← hσ12]
                      refine a_iconst (pc := 83) (n := 1) (by decide +kernel) ?_
                      refine a_ireturn (pc := 84) (by decide +kernel) rfl ?_
                      refine k_ret ?_
                      refine ⟨_, rfl, rfl, ⟨by rw [hσ12, hσ11]; rfl, fun c j hc => by rw [hσ12, k_IN (by omega), hσ11, k_IN (by omega)], by rw [hσ12, hσ11]; rfl⟩, ?_⟩
                      rw [show σ12.2.1 5 11 = σ.2.1 5 11 by rw [hσ12, k_IN (by omega), hσ11, k_IN (by omega)]]
                      rw [show σ12.2.1 5 12 = σ.2.1 5 12 by rw [hσ12, k_IN (by omega), hσ11, k_IN (by omega)]]
                      rw [show σ12.2.1 5 13 = k by rw [hσ12, k_IN (by omega), hσ11, k_II]]
                      rw [show σ12.2.1 5 14 = x by rw [hσ12, k_II]]
                      unfold ty_P
                      omega
                    · exact absurd c68 (by decide)
                  · exact absurd c53 (by decide)
                · show j_at _ _ _ [(0, .ref 5), (1, j_i k), (2, j_i x)] [j_i 0] _ _ _ _
                  refine a_if_ne (pc := 53) (off := 8) (tgt := 61) (by decide +kernel) (by decide) (by omega) (fun c53 => ?_) (fun c53 => ?_)
                  · exact absurd c53 (by decide)
                  · refine a_iload_n (pc := 56) (i := 1) (by decide +kernel) rfl ?_
                    refine a_iconst (pc := 57) (n := 3) (by decide +kernel) ?_
                    refine a_icmp_ne (pc := 58) (off := 7) (tgt := 65) (by decide +kernel) (by decide) (by omega) (by omega) (fun c58 => ?_) (fun c58 => ?_)
                    · refine a_iconst (pc := 65) (n := 0) (by decide +kernel) ?_
                      refine a_istore_n (pc := 66) (i := 3) (lv' := [(0, .ref 5), (1, j_i k), (2, j_i x), (3, j_i 0)]) (by decide +kernel) (Nat.le_of_ble_eq_true rfl) rfl ?_
                      refine a_iload_n (pc := 67) (i := 3) (by decide +kernel) rfl ?_
                      refine a_if_ne (pc := 68) (off := 5) (tgt := 73) (by decide +kernel) (by decide) (by omega) (fun c68 => ?_) (fun c68 => ?_)
                      · exact absurd c68 (by decide)
                      · refine a_iconst (pc := 71) (n := (-1)) (by decide +kernel) ?_
                        refine a_ireturn (pc := 72) (by decide +kernel) rfl ?_
                        refine k_ret ?_
                        refine ⟨_, rfl, rfl, ⟨rfl, fun _ _ _ => rfl, rfl⟩, ?_⟩
                        unfold ty_P
                        omega
                    · refine a_iconst (pc := 61) (n := 1) (by decide +kernel) ?_
                      refine a_goto (pc := 62) (off := 4) (tgt := 66) (by decide +kernel) (by decide) ?_
                      refine a_istore_n (pc := 66) (i := 3) (lv' := [(0, .ref 5), (1, j_i k), (2, j_i x), (3, j_i 1)]) (by decide +kernel) (Nat.le_of_ble_eq_true rfl) rfl ?_
                      refine a_iload_n (pc := 67) (i := 3) (by decide +kernel) rfl ?_
                      refine a_if_ne (pc := 68) (off := 5) (tgt := 73) (by decide +kernel) (by decide) (by omega) (fun c68 => ?_) (fun c68 => ?_)
                      · refine a_aload_n (pc := 73) (i := 0) (by decide +kernel) rfl ?_
                        refine a_iload_n (pc := 74) (i := 1) (by decide +kernel) rfl ?_
                        refine b_putI (pc := 75) fl_X11_85 (by decide +kernel) (sh_5 hn) rfl rfl rfl ?_
                        obtain ⟨σ13, hσ13⟩ : ∃ z, z = k_sI σ 5 13 k := ⟨_, rfl⟩
                        rw [← hσ13]
                        refine a_aload_n (pc := 78) (i := 0) (by decide +kernel) rfl ?_
                        refine a_iload_n (pc := 79) (i := 2) (by decide +kernel) rfl ?_
                        refine b_putI (pc := 80) fl_X11_88 (by decide +kernel) (sh_5 hn) rfl rfl rfl ?_
                        obtain ⟨σ14, hσ14⟩ : ∃ z, z = k_sI σ13 5 14 x := ⟨_, rfl⟩
                        rw [← hσ14]
                        refine a_iconst (pc := 83) (n := 1) (by decide +kernel) ?_
                        refine a_ireturn (pc := 84) (by decide +kernel) rfl ?_
                        refine k_ret ?_
                        refine ⟨_, rfl, rfl, ⟨by rw [hσ14, hσ13]; rfl, fun c j hc => by rw [hσ14, k_IN (by omega), hσ13, k_IN (by omega)], by rw [hσ14, hσ13]; rfl⟩, ?_⟩
                        rw [show σ14.2.1 5 11 = σ.2.1 5 11 by rw [hσ14, k_IN (by omega), hσ13, k_IN (by omega)]]
                        rw [show σ14.2.1 5 12 = σ.2.1 5 12 by rw [hσ14, k_IN (by omega), hσ13, k_IN (by omega)]]
                        rw [show σ14.2.1 5 13 = k by rw [hσ14, k_IN (by omega), hσ13, k_II]]
                        rw [show σ14.2.1 5 14 = x by rw [hσ14, k_II]]
                        unfold ty_P
                        omega
                      · exact absurd c68 (by decide)
      · refine a_aload_n (pc := 16) (i := 0) (by decide +kernel) rfl ?_
        refine b_getR (pc := 17) (b := 8) fl_X11_20 (by decide +kernel) (sh_5 hn) rfl ?_
        refine a_iload_n (pc := 20) (i := 2) (by decide +kernel) rfl ?_
        refine b_callV (pc := 21) (c' := 0) (sl' := 0) [j_i x] [] ml_X11_180 (by decide +kernel) rfl rfl (sh_8 hn) rfl rfl (Nat.le_of_ble_eq_true rfl) (j_fitI rfl rfl) (s_hhas hn hwh (by omega)) (fun v n' σ' hq => ?_)
        obtain ⟨x, rfl, e1, e2, hx⟩ := hq
        rw [e1, e2]; clear e1 e2
        rcases hx with ⟨rfl, p21⟩ | ⟨rfl, p21⟩
        · show j_at _ _ _ [(0, .ref 5), (1, j_i k), (2, j_i x)] [j_i 1] _ _ _ _
          have i21 := bi_y p21
          have u21 := p21.1
          have w21 := p21.2.1
          refine a_if_ne (pc := 24) (off := 37) (tgt := 61) (by decide +kernel) (by decide) (by omega) (fun c24 => ?_) (fun c24 => ?_)
          · refine a_iconst (pc := 61) (n := 1) (by decide +kernel) ?_
            refine a_goto (pc := 62) (off := 4) (tgt := 66) (by decide +kernel) (by decide) ?_
            refine a_istore_n (pc := 66) (i := 3) (lv' := [(0, .ref 5), (1, j_i k), (2, j_i x), (3, j_i 1)]) (by decide +kernel) (Nat.le_of_ble_eq_true rfl) rfl ?_
            refine a_iload_n (pc := 67) (i := 3) (by decide +kernel) rfl ?_
            refine a_if_ne (pc := 68) (off := 5) (tgt := 73) (by decide +kernel) (by decide) (by omega) (fun c68 => ?_) (fun c68 => ?_)
            · refine a_aload_n (pc := 73) (i := 0) (by decide +kernel) rfl ?_
              refine a_iload_n (pc := 74) (i := 1) (by decide +kernel) rfl ?_
              refine b_putI (pc := 75) fl_X11_85 (by decide +kernel) (sh_5 hn) rfl rfl rfl ?_
              obtain ⟨σ15, hσ15⟩ : ∃ z, z = k_sI σ 5 13 k := ⟨_, rfl⟩
              rw [← hσ15]
              refine a_aload_n (pc := 78) (i := 0) (by decide +kernel) rfl ?_
              refine a_iload_n (pc := 79) (i := 2) (by decide +kernel) rfl ?_
              refine b_putI (pc := 80) fl_X11_88 (by decide +kernel) (sh_5 hn) rfl rfl rfl ?_
              obtain ⟨σ16, hσ16⟩ : ∃ z, z = k_sI σ15 5 14 x := ⟨_, rfl⟩
              rw [← hσ16]
              refine a_iconst (pc := 83) (n := 1) (by decide +kernel) ?_
              refine a_ireturn (pc := 84) (by decide +kernel) rfl ?_
              refine k_ret ?_
              refine ⟨_, rfl, rfl, ⟨by rw [hσ16, hσ15]; rfl, fun c j hc => by rw [hσ16, k_IN (by omega), hσ15, k_IN (by omega)], by rw [hσ16, hσ15]; rfl⟩, ?_⟩
              rw [show σ16.2.1 5 11 = σ.2.1 5 11 by rw [hσ16, k_IN (by omega), hσ15, k_IN (by omega)]]
              rw [show σ16.2.1 5 12 = σ.2.1 5 12 by rw [hσ16, k_IN (by omega), hσ15, k_IN (by omega)]]
              rw [show σ16.2.1 5 13 = k by rw [hσ16, k_IN (by omega), hσ15, k_II]]
              rw [show σ16.2.1 5 14 = x by rw [hσ16, k_II]]
              unfold ty_P
              omega
            · exact absurd c68 (by decide)
          · exact absurd c24 (by decide)
        · show j_at _ _ _ [(0, .ref 5), (1, j_i k), (2, j_i x)] [j_i 0] _ _ _ _
          have i21 := bi_n p21
          refine a_if_ne (pc := 24) (off := 37) (tgt := 61) (by decide +kernel) (by decide) (by omega) (fun c24 => ?_) (fun c24 => ?_)
          · exact absurd c24 (by decide)
          · refine a_iload_n (pc := 27) (i := 1) (by decide +kernel) rfl ?_
            refine a_iconst (pc := 28) (n := 1) (by decide +kernel) ?_
            refine a_icmp_ne (pc := 29) (off := 14) (tgt := 43) (by decide +kernel) (by decide) (by omega) (by omega) (fun c29 => ?_) (fun c29 => ?_)
            · refine a_iload_n (pc := 43) (i := 1) (by decide +kernel) rfl ?_
              refine a_iconst (pc := 44) (n := 2) (by decide +kernel) ?_
              refine a_icmp_ne (pc := 45) (off := 11) (tgt := 56) (by decide +kernel) (by decide) (by omega) (by omega) (fun c45 => ?_) (fun c45 => ?_)
              · refine a_iload_n (pc := 56) (i := 1) (by decide +kernel) rfl ?_
                refine a_iconst (pc := 57) (n := 3) (by decide +kernel) ?_
                refine a_icmp_ne (pc := 58) (off := 7) (tgt := 65) (by decide +kernel) (by decide) (by omega) (by omega) (fun c58 => ?_) (fun c58 => ?_)
                · refine a_iconst (pc := 65) (n := 0) (by decide +kernel) ?_
                  refine a_istore_n (pc := 66) (i := 3) (lv' := [(0, .ref 5), (1, j_i k), (2, j_i x), (3, j_i 0)]) (by decide +kernel) (Nat.le_of_ble_eq_true rfl) rfl ?_
                  refine a_iload_n (pc := 67) (i := 3) (by decide +kernel) rfl ?_
                  refine a_if_ne (pc := 68) (off := 5) (tgt := 73) (by decide +kernel) (by decide) (by omega) (fun c68 => ?_) (fun c68 => ?_)
                  · exact absurd c68 (by decide)
                  · refine a_iconst (pc := 71) (n := (-1)) (by decide +kernel) ?_
                    refine a_ireturn (pc := 72) (by decide +kernel) rfl ?_
                    refine k_ret ?_
                    refine ⟨_, rfl, rfl, ⟨rfl, fun _ _ _ => rfl, rfl⟩, ?_⟩
                    unfold ty_P
                    omega
                · refine a_iconst (pc := 61) (n := 1) (by decide +kernel) ?_
                  refine a_goto (pc := 62) (off := 4) (tgt := 66) (by decide +kernel) (by decide) ?_
                  refine a_istore_n (pc := 66) (i := 3) (lv' := [(0, .ref 5), (1, j_i k), (2, j_i x), (3, j_i 1)]) (by decide +kernel) (Nat.le_of_ble_eq_true rfl) rfl ?_
                  refine a_iload_n (pc := 67) (i := 3) (by decide +kernel) rfl ?_
                  refine a_if_ne (pc := 68) (off := 5) (tgt := 73) (by decide +kernel) (by decide) (by omega) (fun c68 => ?_) (fun c68 => ?_)
                  · refine a_aload_n (pc := 73) (i := 0) (by decide +kernel) rfl ?_
                    refine a_iload_n (pc := 74) (i := 1) (by decide +kernel) rfl ?_
                    refine b_putI (pc := 75) fl_X11_85 (by decide +kernel) (sh_5 hn) rfl rfl rfl ?_
                    obtain ⟨σ17, hσ17⟩ : ∃ z, z = k_sI σ 5 13 k := ⟨_, rfl⟩
                    rw [← hσ17]
                    refine a_aload_n (pc := 78) (i := 0) (by decide +kernel) rfl ?_
                    refine a_iload_n (pc := 79) (i := 2) (by decide +kernel) rfl ?_
                    refine b_putI (pc := 80) fl_X11_88 (by decide +kernel) (sh_5 hn) rfl rfl rfl ?_
                    obtain ⟨σ18, hσ18⟩ : ∃ z, z = k_sI σ17 5 14 x := ⟨_, rfl⟩
                    rw [← hσ18]
                    refine a_iconst (pc := 83) (n := 1) (by decide +kernel) ?_
                    refine a_ireturn (pc := 84) (by decide +kernel) rfl ?_
                    refine k_ret ?_
                    refine ⟨_, rfl, rfl, ⟨by rw [hσ18, hσ17]; rfl, fun c j hc => by rw [hσ18, k_IN (by omega), hσ17, k_IN (by omega)], by rw [hσ18, hσ17]; rfl⟩, ?_⟩
                    rw [show σ18.2.1 5 11 = σ.2.1 5 11 by rw [hσ18, k_IN (by omega), hσ17, k_IN (by omega)]]
                    rw [show σ18.2.1 5 12 = σ.2.1 5 12 by rw [hσ18, k_IN (by omega), hσ17, k_IN (by omega)]]
                    rw [show σ18.2.1 5 13 = k by rw [hσ18, k_IN (by omega), hσ17, k_II]]
                    rw [show σ18.2.1 5 14 = x by rw [hσ18, k_II]]
                    unfold ty_P
                    omega
                  · exact absurd c68 (by decide)
              · refine a_aload_n (pc := 48) (i := 0) (by decide +kernel) rfl ?_
                refine a_iload_n (pc := 49) (i := 2) (by decide +kernel) rfl ?_
                refine b_callV (pc := 50) (c' := 0) (sl' := 0) [j_i x] [] ml_X11_138 (by decide +kernel) rfl rfl (sh_5 hn) rfl rfl (Nat.le_of_ble_eq_true rfl) (j_fitI rfl rfl) (c_hasPage hR (by omega)) (fun v n' σ' hq => ?_)
                obtain ⟨x, rfl, e1, e2, hx⟩ := hq
                rw [e1, e2]; clear e1 e2
                rcases hx with ⟨rfl, p50⟩ | ⟨rfl, p50⟩
                · show j_at _ _ _ [(0, .ref 5), (1, j_i k), (2, j_i x)] [j_i 1] _ _ _ _
                  refine a_if_ne (pc := 53) (off := 8) (tgt := 61) (by decide +kernel) (by decide) (by omega) (fun c53 => ?_) (fun c53 => ?_)
                  · refine a_iconst (pc := 61) (n := 1) (by decide +kernel) ?_
                    refine a_goto (pc := 62) (off := 4) (tgt := 66) (by decide +kernel) (by decide) ?_
                    refine a_istore_n (pc := 66) (i := 3) (lv' := [(0, .ref 5), (1, j_i k), (2, j_i x), (3, j_i 1)]) (by decide +kernel) (Nat.le_of_ble_eq_true rfl) rfl ?_
                    refine a_iload_n (pc := 67) (i := 3) (by decide +kernel) rfl ?_
                    refine a_if_ne (pc := 68) (off := 5) (tgt := 73) (by decide +kernel) (by decide) (by omega) (fun c68 => ?_) (fun c68 => ?_)
                    · refine a_aload_n (pc := 73) (i := 0) (by decide +kernel) rfl ?_
                      refine a_iload_n (pc := 74) (i := 1) (by decide +kernel) rfl ?_
                      refine b_putI (pc := 75) fl_X11_85 (by decide +kernel) (sh_5 hn) rfl rfl rfl ?_
                      obtain ⟨σ19, hσ19⟩ : ∃ z, z = k_sI σ 5 13 k := ⟨_, rfl⟩
                      rw [← hσ19]
                      refine a_aload_n (pc := 78) (i := 0) (by decide +kernel) rfl ?_
                      refine a_iload_n (pc := 79) (i := 2) (by decide +kernel) rfl ?_
                      refine b_putI (pc := 80) fl_X11_88 (by decide +kernel) (sh_5 hn) rfl rfl rfl ?_
                      obtain ⟨σ20, hσ20⟩ : ∃ z, z = k_sI σ19 5 14 x := ⟨_, rfl⟩
                      rw [← hσ20]
                      refine a_iconst (pc := 83) (n := 1) (by decide +kernel) ?_
                      refine a_ireturn (pc := 84) (by decide +kernel) rfl ?_
                      refine k_ret ?_
                      refine ⟨_, rfl, rfl, ⟨by rw [hσ20, hσ19]; rfl, fun c j hc => by rw [hσ20, k_IN (by omega), hσ19, k_IN (by omega)], by rw [hσ20, hσ19]; rfl⟩, ?_⟩
                      rw [show σ20.2.1 5 11 = σ.2.1 5 11 by rw [hσ20, k_IN (by omega), hσ19, k_IN (by omega)]]
                      rw [show σ20.2.1 5 12 = σ.2.1 5 12 by rw [hσ20, k_IN (by omega), hσ19, k_IN (by omega)]]
                      rw [show σ20.2.1 5 13 = k by rw [hσ20, k_IN (by omega), hσ19, k_II]]
                      rw [show σ20.2.1 5 14 = x by rw [hσ20, k_II]]
                      unfold ty_P
                      omega
                    · exact absurd c68 (by decide)
                  · exact absurd c53 (by decide)
                · show j_at _ _ _ [(0, .ref 5), (1, j_i k), (2, j_i x)] [j_i 0] _ _ _ _
                  refine a_if_ne (pc := 53) (off := 8) (tgt := 61) (by decide +kernel) (by decide) (by omega) (fun c53 => ?_) (fun c53 => ?_)
                  · exact absurd c53 (by decide)
                  · refine a_iload_n (pc := 56) (i := 1) (by decide +kernel) rfl ?_
                    refine a_iconst (pc := 57) (n := 3) (by decide +kernel) ?_
                    refine a_icmp_ne (pc := 58) (off := 7) (tgt := 65) (by decide +kernel) (by decide) (by omega) (by omega) (fun c58 => ?_) (fun c58 => ?_)
                    · refine a_iconst (pc := 65) (n := 0) (by decide +kernel) ?_
                      refine a_istore_n (pc := 66) (i := 3) (lv' := [(0, .ref 5), (1, j_i k), (2, j_i x), (3, j_i 0)]) (by decide +kernel) (Nat.le_of_ble_eq_true rfl) rfl ?_
                      refine a_iload_n (pc := 67) (i := 3) (by decide +kernel) rfl ?_
                      refine a_if_ne (pc := 68) (off := 5) (tgt := 73) (by decide +kernel) (by decide) (by omega) (fun c68 => ?_) (fun c68 => ?_)
                      · exact absurd c68 (by decide)
                      · refine a_iconst (pc := 71) (n := (-1)) (by decide +kernel) ?_
                        refine a_ireturn (pc := 72) (by decide +kernel) rfl ?_
                        refine k_ret ?_
                        refine ⟨_, rfl, rfl, ⟨rfl, fun _ _ _ => rfl, rfl⟩, ?_⟩
                        unfold ty_P
                        omega
                    · refine a_iconst (pc := 61) (n := 1) (by decide +kernel) ?_
                      refine a_goto (pc := 62) (off := 4) (tgt := 66) (by decide +kernel) (by decide) ?_
                      refine a_istore_n (pc := 66) (i := 3) (lv' := [(0, .ref 5), (1, j_i k), (2, j_i x), (3, j_i 1)]) (by decide +kernel) (Nat.le_of_ble_eq_true rfl) rfl ?_
                      refine a_iload_n (pc := 67) (i := 3) (by decide +kernel) rfl ?_
                      refine a_if_ne (pc := 68) (off := 5) (tgt := 73) (by decide +kernel) (by decide) (by omega) (fun c68 => ?_) (fun c68 => ?_)
                      · refine a_aload_n (pc := 73) (i := 0) (by decide +kernel) rfl ?_
                        refine a_iload_n (pc := 74) (i := 1) (by decide +kernel) rfl ?_
                        refine b_putI (pc := 75) fl_X11_85 (by decide +kernel) (sh_5 hn) rfl rfl rfl ?_
                        obtain ⟨σ21, hσ21⟩ : ∃ z, z = k_sI σ 5 13 k := ⟨_, rfl⟩
                        rw [← hσ21]
                        refine a_aload_n (pc := 78) (i := 0) (by decide +kernel) rfl ?_
                        refine a_iload_n (pc := 79) (i := 2) (by decide +kernel) rfl ?_
                        refine b_putI (pc := 80) fl_X11_88 (by decide +kernel) (sh_5 hn) rfl rfl rfl ?_
                        obtain ⟨σ22, hσ22⟩ : ∃ z, z = k_sI σ21 5 14 x := ⟨_, rfl⟩
                        rw [← hσ22]
                        refine a_iconst (pc := 83) (n := 1) (by decide +kernel) ?_
                        refine a_ireturn (pc := 84) (by decide +kernel) rfl ?_
                        refine k_ret ?_
                        refine ⟨_, rfl, rfl, ⟨by rw [hσ22, hσ21]; rfl, fun c j hc => by rw [hσ22, k_IN (by omega), hσ21, k_IN (by omega)], by rw [hσ22, hσ21]; rfl⟩, ?_⟩
                        rw [show σ22.2.1 5 11 = σ.2.1 5 11 by rw [hσ22, k_IN (by omega), hσ21, k_IN (by omega)]]
                        rw [show σ22.2.1 5 12 = σ.2.1 5 12 by rw [hσ22, k_IN (by omega), hσ21, k_IN (by omega)]]
                        rw [show σ22.2.1 5 13 = k by rw [hσ22, k_IN (by omega), hσ21, k_II]]
                        rw [show σ22.2.1 5 14 = x by rw [hσ22, k_II]]
                        unfold ty_P
                        omega
                      · exact absurd c68 (by decide)
            · refine a_aload_n (pc := 32) (i := 0) (by decide +kernel) rfl ?_
              refine b_getR (pc := 33) (b := 16) fl_X11_25 (by decide +kernel) (sh_5 hn) rfl ?_
              refine a_iload_n (pc := 36) (i := 2) (by decide +kernel) rfl ?_
              refine b_callV (pc := 37) (c' := 0) (sl' := 0) [j_i x] [] ml_X11_240 (by decide +kernel) rfl rfl (sh_16 hn) rfl rfl (Nat.le_of_ble_eq_true rfl) (j_fitI rfl rfl) (s_mhas hn hwm (by omega)) (fun v n' σ' hq => ?_)
              obtain ⟨x, rfl, e1, e2, hx⟩ := hq
              rw [e1, e2]; clear e1 e2
              rcases hx with ⟨rfl, p37⟩ | ⟨rfl, p37⟩
              · show j_at _ _ _ [(0, .ref 5), (1, j_i k), (2, j_i x)] [j_i 1] _ _ _ _
                have i37 := bi_y p37
                have u37 := p37.1
                have w37 := p37.2.1
                refine a_if_ne (pc := 40) (off := 21) (tgt := 61) (by decide +kernel) (by decide) (by omega) (fun c40 => ?_) (fun c40 => ?_)
                · refine a_iconst (pc := 61) (n := 1) (by decide +kernel) ?_
                  refine a_goto (pc := 62) (off := 4) (tgt := 66) (by decide +kernel) (by decide) ?_
                  refine a_istore_n (pc := 66) (i := 3) (lv' := [(0, .ref 5), (1, j_i k), (2, j_i x), (3, j_i 1)]) (by decide +kernel) (Nat.le_of_ble_eq_true rfl) rfl ?_
                  refine a_iload_n (pc := 67) (i := 3) (by decide +kernel) rfl ?_
                  refine a_if_ne (pc := 68) (off := 5) (tgt := 73) (by decide +kernel) (by decide) (by omega) (fun c68 => ?_) (fun c68 => ?_)
                  · refine a_aload_n (pc := 73) (i := 0) (by decide +kernel) rfl ?_
                    refine a_iload_n (pc := 74) (i := 1) (by decide +kernel) rfl ?_
                    refine b_putI (pc := 75) fl_X11_85 (by decide +kernel) (sh_5 hn) rfl rfl rfl ?_
                    obtain ⟨σ23, hσ23⟩ : ∃ z, z = k_sI σ 5 13 k := ⟨_, rfl⟩
                    rw [← hσ23]
                    refine a_aload_n (pc := 78) (i := 0) (by decide +kernel) rfl ?_
                    refine a_iload_n (pc := 79) (i := 2) (by decide +kernel) rfl ?_
                    refine b_putI (pc := 80) fl_X11_88 (by decide +kernel) (sh_5 hn) rfl rfl rfl ?_
                    obtain ⟨σ24, hσ24⟩ : ∃ z, z = k_sI σ23 5 14 x := ⟨_, rfl⟩
                    rw [← hσ24]
                    refine a_iconst (pc := 83) (n := 1) (by decide +kernel) ?_
                    refine a_ireturn (pc := 84) (by decide +kernel) rfl ?_
                    refine k_ret ?_
                    refine ⟨_, rfl, rfl, ⟨by rw [hσ24, hσ23]; rfl, fun c j hc => by rw [hσ24, k_IN (by omega), hσ23, k_IN (by omega)], by rw [hσ24, hσ23]; rfl⟩, ?_⟩
                    rw [show σ24.2.1 5 11 = σ.2.1 5 11 by rw [hσ24, k_IN (by omega), hσ23, k_IN (by omega)]]
                    rw [show σ24.2.1 5 12 = σ.2.1 5 12 by rw [hσ24, k_IN (by omega), hσ23, k_IN (by omega)]]
                    rw [show σ24.2.1 5 13 = k by rw [hσ24, k_IN (by omega), hσ23, k_II]]
                    rw [show σ24.2.1 5 14 = x by rw [hσ24, k_II]]
                    unfold ty_P
                    omega
                  · exact absurd c68 (by decide)
                · exact absurd c40 (by decide)
              · show j_at _ _ _ [(0, .ref 5), (1, j_i k), (2, j_i x)] [j_i 0] _ _ _ _
                have i37 := bi_n p37
                refine a_if_ne (pc := 40) (off := 21) (tgt := 61) (by decide +kernel) (by decide) (by omega) (fun c40 => ?_) (fun c40 => ?_)
                · exact absurd c40 (by decide)
                · refine a_iload_n (pc := 43) (i := 1) (by decide +kernel) rfl ?_
                  refine a_iconst (pc := 44) (n := 2) (by decide +kernel) ?_
                  refine a_icmp_ne (pc := 45) (off := 11) (tgt := 56) (by decide +kernel) (by decide) (by omega) (by omega) (fun c45 => ?_) (fun c45 => ?_)
                  · refine a_iload_n (pc := 56) (i := 1) (by decide +kernel) rfl ?_
                    refine a_iconst (pc := 57) (n := 3) (by decide +kernel) ?_
                    refine a_icmp_ne (pc := 58) (off := 7) (tgt := 65) (by decide +kernel) (by decide) (by omega) (by omega) (fun c58 => ?_) (fun c58 => ?_)
                    · refine a_iconst (pc := 65) (n := 0) (by decide +kernel) ?_
                      refine a_istore_n (pc := 66) (i := 3) (lv' := [(0, .ref 5), (1, j_i k), (2, j_i x), (3, j_i 0)]) (by decide +kernel) (Nat.le_of_ble_eq_true rfl) rfl ?_
                      refine a_iload_n (pc := 67) (i := 3) (by decide +kernel) rfl ?_
                      refine a_if_ne (pc := 68) (off := 5) (tgt := 73) (by decide +kernel) (by decide) (by omega) (fun c68 => ?_) (fun c68 => ?_)
                      · exact absurd c68 (by decide)
                      · refine a_iconst (pc := 71) (n := (-1)) (by decide +kernel) ?_
                        refine a_ireturn (pc := 72) (by decide +kernel) rfl ?_
                        refine k_ret ?_
                        refine ⟨_, rfl, rfl, ⟨rfl, fun _ _ _ => rfl, rfl⟩, ?_⟩
                        unfold ty_P
                        omega
                    · refine a_iconst (pc := 61) (n := 1) (by decide +kernel) ?_
                      refine a_goto (pc := 62) (off := 4) (tgt := 66) (by decide +kernel) (by decide) ?_
                      refine a_istore_n (pc := 66) (i := 3) (lv' := [(0, .ref 5), (1, j_i k), (2, j_i x), (3, j_i 1)]) (by decide +kernel) (Nat.le_of_ble_eq_true rfl) rfl ?_
                      refine a_iload_n (pc := 67) (i := 3) (by decide +kernel) rfl ?_
                      refine a_if_ne (pc := 68) (off := 5) (tgt := 73) (by decide +kernel) (by decide) (by omega) (fun c68 => ?_) (fun c68 => ?_)
                      · refine a_aload_n (pc := 73) (i := 0) (by decide +kernel) rfl ?_
                        refine a_iload_n (pc := 74) (i := 1) (by decide +kernel) rfl ?_
                        refine b_putI (pc := 75) fl_X11_85 (by decide +kernel) (sh_5 hn) rfl rfl rfl ?_
                        obtain ⟨σ25, hσ25⟩ : ∃ z, z = k_sI σ 5 13 k := ⟨_, rfl⟩
                        rw [← hσ25]
                        refine a_aload_n (pc := 78) (i := 0) (by decide +kernel) rfl ?_
                        refine a_iload_n (pc := 79) (i := 2) (by decide +kernel) rfl ?_
                        refine b_putI (pc := 80) fl_X11_88 (by decide +kernel) (sh_5 hn) rfl rfl rfl ?_
                        obtain ⟨σ26, hσ26⟩ : ∃ z, z = k_sI σ25 5 14 x := ⟨_, rfl⟩
                        rw [← hσ26]
                        refine a_iconst (pc := 83) (n := 1) (by decide +kernel) ?_
                        refine a_ireturn (pc := 84) (by decide +kernel) rfl ?_
                        refine k_ret ?_
                        refine ⟨_, rfl, rfl, ⟨by rw [hσ26, hσ25]; rfl, fun c j hc => by rw [hσ26, k_IN (by omega), hσ25, k_IN (by omega)], by rw [hσ26, hσ25]; rfl⟩, ?_⟩
                        rw [show σ26.2.1 5 11 = σ.2.1 5 11 by rw [hσ26, k_IN (by omega), hσ25, k_IN (by omega)]]
                        rw [show σ26.2.1 5 12 = σ.2.1 5 12 by rw [hσ26, k_IN (by omega), hσ25, k_IN (by omega)]]
                        rw [show σ26.2.1 5 13 = k by rw [hσ26, k_IN (by omega), hσ25, k_II]]
                        rw [show σ26.2.1 5 14 = x by rw [hσ26, k_II]]
                        unfold ty_P
                        omega
                      · exact absurd c68 (by decide)
                  · refine a_aload_n (pc := 48) (i := 0) (by decide +kernel) rfl ?_
                    refine a_iload_n (pc := 49) (i := 2) (by decide +kernel) rfl ?_
                    refine b_callV (pc := 50) (c' := 0) (sl' := 0) [j_i x] [] ml_X11_138 (by decide +kernel) rfl rfl (sh_5 hn) rfl rfl (Nat.le_of_ble_eq_true rfl) (j_fitI rfl rfl) (c_hasPage hR (by omega)) (fun v n' σ' hq => ?_)
                    obtain ⟨x, rfl, e1, e2, hx⟩ := hq
                    rw [e1, e2]; clear e1 e2
                    rcases hx with ⟨rfl, p50⟩ | ⟨rfl, p50⟩
                    · show j_at _ _ _ [(0, .ref 5), (1, j_i k), (2, j_i x)] [j_i 1] _ _ _ _
                      refine a_if_ne (pc := 53) (off := 8) (tgt := 61) (by decide +kernel) (by decide) (by omega) (fun c53 => ?_) (fun c53 => ?_)
                      · refine a_iconst (pc := 61) (n := 1) (by decide +kernel) ?_
                        refine a_goto (pc := 62) (off := 4) (tgt := 66) (by decide +kernel) (by decide) ?_
                        refine a_istore_n (pc := 66) (i := 3) (lv' := [(0, .ref 5), (1, j_i k), (2, j_i x), (3, j_i 1)]) (by decide +kernel) (Nat.le_of_ble_eq_true rfl) rfl ?_
                        refine a_iload_n (pc := 67) (i := 3) (by decide +kernel) rfl ?_
                        refine a_if_ne (pc := 68) (off := 5) (tgt := 73) (by decide +kernel) (by decide) (by omega) (fun c68 => ?_) (fun c68 => ?_)
                        · refine a_aload_n (pc := 73) (i := 0) (by decide +kernel) rfl ?_
                          refine a_iload_n (pc := 74) (i := 1) (by decide +kernel) rfl ?_
                          refine b_putI (pc := 75) fl_X11_85 (by decide +kernel) (sh_5 hn) rfl rfl rfl ?_
                          obtain ⟨σ27, hσ27⟩ : ∃ z, z = k_sI σ 5 13 k := ⟨_, rfl⟩
                          rw [← hσ27]
                          refine a_aload_n (pc := 78) (i := 0) (by decide +kernel) rfl ?_
                          refine a_iload_n (pc := 79) (i := 2) (by decide +kernel) rfl ?_
                          refine b_putI (pc := 80) fl_X11_88 (by decide +kernel) (sh_5 hn) rfl rfl rfl ?_
                          obtain ⟨σ28, hσ28⟩ : ∃ z, z = k_sI σ27 5 14 x := ⟨_, rfl⟩
                          rw [← hσ28]
                          refine a_iconst (pc := 83) (n := 1) (by decide +kernel) ?_
                          refine a_ireturn (pc := 84) (by decide +kernel) rfl ?_
                          refine k_ret ?_
                          refine ⟨_, rfl, rfl, ⟨by rw [hσ28, hσ27]; rfl, fun c j hc => by rw [hσ28, k_IN (by omega), hσ27, k_IN (by omega)], by rw [hσ28, hσ27]; rfl⟩, ?_⟩
                          rw [show σ28.2.1 5 11 = σ.2.1 5 11 by rw [hσ28, k_IN (by omega), hσ27, k_IN (by omega)]]
                          rw [show σ28.2.1 5 12 = σ.2.1 5 12 by rw [hσ28, k_IN (by omega), hσ27, k_IN (by omega)]]
                          rw [show σ28.2.1 5 13 = k by rw [hσ28, k_IN (by omega), hσ27, k_II]]
                          rw [show σ28.2.1 5 14 = x by rw [hσ28, k_II]]
                          unfold ty_P
                          omega
                        · exact absurd c68 (by decide)
                      · exact absurd c53 (by decide)
                    · show j_at _ _ _ [(0, .ref 5), (1, j_i k), (2, j_i x)] [j_i 0] _ _ _ _
                      refine a_if_ne (pc := 53) (off := 8) (tgt := 61) (by decide +kernel) (by decide) (by omega) (fun c53 => ?_) (fun c53 => ?_)
                      · exact absurd c53 (by decide)
                      · refine a_iload_n (pc := 56) (i := 1) (by decide +kernel) rfl ?_
                        refine a_iconst (pc := 57) (n := 3) (by decide +kernel) ?_
                        refine a_icmp_ne (pc := 58) (off := 7) (tgt := 65) (by decide +kernel) (by decide) (by omega) (by omega) (fun c58 => ?_) (fun c58 => ?_)
                        · refine a_iconst (pc := 65) (n := 0) (by decide +kernel) ?_
                          refine a_istore_n (pc := 66) (i := 3) (lv' := [(0, .ref 5), (1, j_i k), (2, j_i x), (3, j_i 0)]) (by decide +kernel) (Nat.le_of_ble_eq_true rfl) rfl ?_
                          refine a_iload_n (pc := 67) (i := 3) (by decide +kernel) rfl ?_
                          refine a_if_ne (pc := 68) (off := 5) (tgt := 73) (by decide +kernel) (by decide) (by omega) (fun c68 => ?_) (fun c68 => ?_)
                          · exact absurd c68 (by decide)
                          · refine a_iconst (pc := 71) (n := (-1)) (by decide +kernel) ?_
                            refine a_ireturn (pc := 72) (by decide +kernel) rfl ?_
                            refine k_ret ?_
                            refine ⟨_, rfl, rfl, ⟨rfl, fun _ _ _ => rfl, rfl⟩, ?_⟩
                            unfold ty_P
                            omega
                        · refine a_iconst (pc := 61) (n := 1) (by decide +kernel) ?_
                          refine a_goto (pc := 62) (off := 4) (tgt := 66) (by decide +kernel) (by decide) ?_
                          refine a_istore_n (pc := 66) (i := 3) (lv' := [(0, .ref 5), (1, j_i k), (2, j_i x), (3, j_i 1)]) (by decide +kernel) (Nat.le_of_ble_eq_true rfl) rfl ?_
                          refine a_iload_n (pc := 67) (i := 3) (by decide +kernel) rfl ?_
                          refine a_if_ne (pc := 68) (off := 5) (tgt := 73) (by decide +kernel) (by decide) (by omega) (fun c68 => ?_) (fun c68 => ?_)
                          · refine a_aload_n (pc := 73) (i := 0) (by decide +kernel) rfl ?_
                            refine a_iload_n (pc := 74) (i := 1) (by decide +kernel) rfl ?_
                            refine b_putI (pc := 75) fl_X11_85 (by decide +kernel) (sh_5 hn) rfl rfl rfl ?_
                            obtain ⟨σ29, hσ29⟩ : ∃ z, z = k_sI σ 5 13 k := ⟨_, rfl⟩
                            rw [← hσ29]
                            refine a_aload_n (pc := 78) (i := 0) (by decide +kernel) rfl ?_
                            refine a_iload_n (pc := 79) (i := 2) (by decide +kernel) rfl ?_
                            refine b_putI (pc := 80) fl_X11_88 (by decide +kernel) (sh_5 hn) rfl rfl rfl ?_
                            obtain ⟨σ30, hσ30⟩ : ∃ z, z = k_sI σ29 5 14 x := ⟨_, rfl⟩
                            rw [← hσ30]
                            refine a_iconst (pc := 83) (n := 1) (by decide +kernel) ?_
                            refine a_ireturn (pc := 84) (by decide +kernel) rfl ?_
                            refine k_ret ?_
                            refine ⟨_, rfl, rfl, ⟨by rw [hσ30, hσ29]; rfl, fun c j hc => by rw [hσ30, k_IN (by omega), hσ29, k_IN (by omega)], by rw [hσ30, hσ29]; rfl⟩, ?_⟩
                            rw [show σ30.2.1 5 11 = σ.2.1 5 11 by rw [hσ30, k_IN (by omega), hσ29, k_IN (by omega)]]
                            rw [show σ30.2.1 5 12 = σ.2.1 5 12 by rw [hσ30, k_IN (by omega), hσ29, k_IN (by omega)]]
                            rw [show σ30.2.1 5 13 = k by rw [hσ30, k_IN (by omega), hσ29, k_II]]
                            rw [show σ30.2.1 5 14 = x by rw [hσ30, k_II]]
                            unfold ty_P
                            omega
                          · exact absurd c68 (by decide)
    · refine a_bipush (pc := 9) (n := (-2)) (by decide +kernel) rfl ?_
      refine a_ireturn (pc := 11) (by decide +kernel) rfl ?_
      refine k_ret ?_
      refine ⟨_, rfl, rfl, ⟨rfl, fun _ _ _ => rfl, rfl⟩, ?_⟩
      unfold ty_P
      omega
set_option maxHeartbeats 4000000 in
theorem d_tray {G : j_G} {X : k_X} {n : Nat} {ρ σ : k_St} (hR : RR n ρ) (hC : CS ρ σ) {k : Int} (hk : -2147483648 ≤ k ∧ k ≤ 2147483647) {x : Int} (hx : -2147483648 ≤ x ∧ x ≤ 2147483647) {r : Int} (hP : ty_P ρ k x r (σ.2.1 5 11) (σ.2.1 5 12) (σ.2.1 5 13) (σ.2.1 5 14))  : k_run G X mX12_tray [.ref 68, j_i k, j_i x] n σ 0 0 (fun v2 n2 σ2 => v2 = some (j_i r) ∧ RR n2 σ2) := by
  have hR0 := CS_R hC hR
  obtain ⟨hK, hAc, hNm, hPs, hPt, hSm, hIx⟩ := id hR0
  have hn := RR_n hR
  have hk := hK.1
  have hwh : h_wf σ 8 := hk.2.1
  have hwm : m_wf σ 16 := hk.2.2
  have hW : 0 ≤ σ.2.1 6 1 ∧ σ.2.1 6 1 ≤ 300 := hk.1
  have hg := hK.2.2.2
  obtain ⟨⟨hgW, hgE, hgM⟩, hgh, hgm⟩ := KR_rg hk hK.2.1
  have hW0 : σ.2.1 6 1 = σ.1 69 0 := hK.2.1.1.1
  have hE0 : σ.2.1 8 3 = σ.1 69 301 := hK.2.1.2.1.1
  have hM0 : σ.2.1 16 5 = σ.1 69 1382 := hK.2.1.2.2.1
  obtain ⟨s1, s2, s3, s4, s5, s6, s7⟩ := hSm
  unfold ty_P at hP
  have e1 : bi (h_is ρ x) = bi (d_is σ x) := bi_c (by rw [RK_h' hK]; unfold h_is; rw [hC.1, hC.2.1 8 3 (by omega)])
  have e2 : bi (m_is ρ x) = bi (d_ms σ x) := bi_c (by rw [RK_m' hK]; unfold m_is; rw [hC.1, hC.2.1 16 5 (by omega)])
  have e3 : f_page (ρ.2.1 6 1) (ρ.2.1 5 10) = f_page (σ.1 69 0) (σ.2.1 68 11) := by rw [s2, ← hW0, hC.2.1 6 1 (by omega), hC.2.1 5 10 (by omega)]
  rw [e1, e2, e3] at hP
  have hfl : 1 ≤ σ.2.1 68 11 ∧ σ.2.1 68 11 ≤ 50 := by omega
  have hW : 0 ≤ σ.1 69 0 ∧ σ.1 69 0 ≤ 300 := hgW
  have qp := f_page_in (f := σ.2.1 68 11) hgW
  refine k_enter (by decide +kernel) (Nat.le_of_ble_eq_true rfl) ?_
  show j_at _ _ _ [(0, .ref 68), (1, j_i k), (2, j_i x)] [] _ _ _ _
  refine a_iload_n (pc := 0) (i := 1) (by decide +kernel) rfl ?_
  refine a_iconst (pc := 1) (n := 0) (by decide +kernel) ?_
  refine a_iconst (pc := 2) (n := 3) (by decide +kernel) ?_
  refine b_callS (pc := 3) (c' := 0) (sl' := 0) [j_i k, j_i 0, j_i 3] [] ml_X12_128 (by decide +kernel) rfl rfl (Nat.le_of_ble_eq_true rfl) (j_fitI rfl rfl) (s_dwithin (by omega) (by omega) (by omega)) (fun v n' σ' hq => ?_)
  obtain ⟨x, rfl, e1, e2, hx⟩ := hq
  rw [e1, e2]; clear e1 e2
  rcases hx with ⟨rfl, p3⟩ | ⟨rfl, p3⟩
  · show j_at _ _ _ [(0, .ref 68), (1, j_i k), (2, j_i x)] [j_i 1] _ _ _ _
    refine a_if_ne (pc := 6) (off := 6) (tgt := 12) (by decide +kernel) (by decide) (by omega) (fun c6 => ?_) (fun c6 => ?_)
    · refine a_iload_n (pc := 12) (i := 1) (by decide +kernel) rfl ?_
      refine a_if_ne (pc := 13) (off := 11) (tgt := 24) (by decide +kernel) (by decide) (by omega) (fun c13 => ?_) (fun c13 => ?_)
      · refine a_iload_n (pc := 24) (i := 1) (by decide +kernel) rfl ?_
        refine a_iconst (pc := 25) (n := 1) (by decide +kernel) ?_
        refine a_icmp_ne (pc := 26) (off := 11) (tgt := 37) (by decide +kernel) (by decide) (by omega) (by omega) (fun c26 => ?_) (fun c26 => ?_)
        · refine a_iload_n (pc := 37) (i := 1) (by decide +kernel) rfl ?_
          refine a_iconst (pc := 38) (n := 3) (by decide +kernel) ?_
          refine a_icmp_eq (pc := 39) (off := 17) (tgt := 56) (by decide +kernel) (by decide) (by omega) (by omega) (fun c39 => ?_) (fun c39 => ?_)
          · refine a_iconst (pc := 56) (n := 1) (by decide +kernel) ?_
            refine a_goto (pc := 57) (off := 4) (tgt := 61) (by decide +kernel) (by decide) ?_
            refine a_istore_n (pc := 61) (i := 3) (lv' := [(0, .ref 68), (1, j_i k), (2, j_i x), (3, j_i 1)]) (by decide +kernel) (Nat.le_of_ble_eq_true rfl) rfl ?_
            refine a_iload_n (pc := 62) (i := 3) (by decide +kernel) rfl ?_
            refine a_if_ne (pc := 63) (off := 5) (tgt := 68) (by decide +kernel) (by decide) (by omega) (fun c63 => ?_) (fun c63 => ?_)
            · refine a_aload_n (pc := 68) (i := 0) (by decide +kernel) rfl ?_
              refine a_iload_n (pc := 69) (i := 1) (by decide +kernel) rfl ?_
              refine b_putI (pc := 70) fl_X12_112 (by decide +kernel) (sh_68 hn) rfl rfl rfl ?_
              obtain ⟨σ1, hσ1⟩ : ∃ z, z = k_sI σ 68 52 k := ⟨_, rfl⟩
              rw [← hσ1]
              refine a_aload_n (pc := 73) (i := 0) (by decide +kernel) rfl ?_
              refine a_iload_n (pc := 74) (i := 2) (by decide +kernel) rfl ?_
              refine b_putI (pc := 75) fl_X12_399 (by decide +kernel) (sh_68 hn) rfl rfl rfl ?_
              obtain ⟨σ2, hσ2⟩ : ∃ z, z = k_sI σ1 68 53 x := ⟨_, rfl⟩
              rw [← hσ2]
              refine a_iconst (pc := 78) (n := 1) (by decide +kernel) ?_
              refine a_ireturn (pc := 79) (by decide +kernel) rfl ?_
              refine k_ret ?_
              refine ⟨by rw [show (1 : Int) = r by omega], RR_scs (σ := ρ) ⟨fun c _ => by rw [hσ2, hσ1]; show σ.1 c = _; rw [hC.1], fun c j _ g1 g2 => by rw [hσ2, k_IN (by omega), hσ1, k_IN (by omega)]; exact hC.2.1 c j (by omega), by rw [hσ2, hσ1]; exact hC.2.2⟩ ?_ hR⟩
              unfold RSmall
              rw [show σ2.2.1 5 10 = σ.2.1 5 10 by rw [hσ2, k_IN (by omega), hσ1, k_IN (by omega)]]
              rw [show σ2.2.1 5 11 = σ.2.1 5 11 by rw [hσ2, k_IN (by omega), hσ1, k_IN (by omega)]]
              rw [show σ2.2.1 5 12 = σ.2.1 5 12 by rw [hσ2, k_IN (by omega), hσ1, k_IN (by omega)]]
              rw [show σ2.2.1 5 13 = σ.2.1 5 13 by rw [hσ2, k_IN (by omega), hσ1, k_IN (by omega)]]
              rw [show σ2.2.1 5 14 = σ.2.1 5 14 by rw [hσ2, k_IN (by omega), hσ1, k_IN (by omega)]]
              rw [show σ2.2.1 68 11 = σ.2.1 68 11 by rw [hσ2, k_IN (by omega), hσ1, k_IN (by omega)]]
              rw [show σ2.2.1 68 1 = σ.2.1 68 1 by rw [hσ2, k_IN (by omega), hσ1, k_IN (by omega)]]
              rw [show σ2.2.1 68 0 = σ.2.1 68 0 by rw [hσ2, k_IN (by omega), hσ1, k_IN (by omega)]]
              rw [show σ2.2.1 68 52 = k by rw [hσ2, k_IN (by omega), hσ1, k_II]]
              rw [show σ2.2.1 68 53 = x by rw [hσ2, k_II]]
              omega
            · exact absurd c63 (by decide)
          · refine a_iload_n (pc := 42) (i := 2) (by decide +kernel) rfl ?_
            refine a_iconst (pc := 43) (n := 0) (by decide +kernel) ?_
            refine a_aload_n (pc := 44) (i := 0) (by decide +kernel) rfl ?_
            refine b_pureV (pc := 45) [] [j_i 0, j_i x] ml_X12_174 (by decide +kernel) rfl rfl (sh_68 hn) rfl rfl (Nat.le_of_ble_eq_true rfl) (j_fitI rfl rfl) (s_dpages hn hW hfl) ?_
            show j_at _ _ _ [(0, .ref 68), (1, j_i k), (2, j_i x)] [j_i (f_page (σ.1 69 0) (σ.2.1 68 11) + 1), j_i 0, j_i x] _ _ _ _
            refine a_iconst (pc := 48) (n := 1) (by decide +kernel) ?_
            refine a_isub (pc := 49) (by decide +kernel) ?_
            refine b_callS (pc := 50) (c' := 0) (sl' := 0) [j_i x, j_i 0, j_i ((f_page (σ.1 69 0) (σ.2.1 68 11) + 1) - 1)] [] ml_X12_128 (by decide +kernel) rfl rfl (Nat.le_of_ble_eq_true rfl) (j_fitI rfl rfl) (s_dwithin (by omega) (by omega) (by omega)) (fun v n' σ' hq => ?_)
            obtain ⟨x, rfl, e1, e2, hx⟩ := hq
            rw [e1, e2]; clear e1 e2
            rcases hx with ⟨rfl, p50⟩ | ⟨rfl, p50⟩
            · show j_at _ _ _ [(0, .ref 68), (1, j_i k), (2, j_i x)] [j_i 1] _ _ _ _
              refine a_if_eq (pc := 53) (off := 7) (tgt := 60) (by decide +kernel) (by decide) (by omega) (fun c53 => ?_) (fun c53 => ?_)
              · exact absurd c53 (by decide)
              · refine a_iconst (pc := 56) (n := 1) (by decide +kernel) ?_
                refine a_goto (pc := 57) (off := 4) (tgt := 61) (by decide +kernel) (by decide) ?_
                refine a_istore_n (pc := 61) (i := 3) (lv' := [(0, .ref 68), (1, j_i k), (2, j_i x), (3, j_i 1)]) (by decide +kernel) (Nat.le_of_ble_eq_true rfl) rfl ?_
                refine a_iload_n (pc := 62) (i := 3) (by decide +kernel) rfl ?_
                refine a_if_ne (pc := 63) (off := 5) (tgt := 68) (by decide +kernel) (by decide) (by omega) (fun c63 => ?_) (fun c63 => ?_)
                · refine a_aload_n (pc := 68) (i := 0) (by decide +kernel) rfl ?_
                  refine a_iload_n (pc := 69) (i := 1) (by decide +kernel) rfl ?_
                  refine b_putI (pc := 70) fl_X12_112 (by decide +kernel) (sh_68 hn) rfl rfl rfl ?_
                  obtain ⟨σ4, hσ4⟩ : ∃ z, z = k_sI σ 68 52 k := ⟨_, rfl⟩
                  rw [← hσ4]
                  refine a_aload_n (pc := 73) (i := 0) (by decide +kernel) rfl ?_
                  refine a_iload_n (pc := 74) (i := 2) (by decide +kernel) rfl ?_
                  refine b_putI (pc := 75) fl_X12_399 (by decide +kernel) (sh_68 hn) rfl rfl rfl ?_
                  obtain ⟨σ5, hσ5⟩ : ∃ z, z = k_sI σ4 68 53 x := ⟨_, rfl⟩
                  rw [← hσ5]
                  refine a_iconst (pc := 78) (n := 1) (by decide +kernel) ?_
                  refine a_ireturn (pc := 79) (by decide +kernel) rfl ?_
                  refine k_ret ?_
                  refine ⟨by rw [show (1 : Int) = r by omega], RR_scs (σ := ρ) ⟨fun c _ => by rw [hσ5, hσ4]; show σ.1 c = _; rw [hC.1], fun c j _ g1 g2 => by rw [hσ5, k_IN (by omega), hσ4, k_IN (by omega)]; exact hC.2.1 c j (by omega), by rw [hσ5, hσ4]; exact hC.2.2⟩ ?_ hR⟩
                  unfold RSmall
                  rw [show σ5.2.1 5 10 = σ.2.1 5 10 by rw [hσ5, k_IN (by omega), hσ4, k_IN (by omega)]]
                  rw [show σ5.2.1 5 11 = σ.2.1 5 11 by rw [hσ5, k_IN (by omega), hσ4, k_IN (by omega)]]
                  rw [show σ5.2.1 5 12 = σ.2.1 5 12 by rw [hσ5, k_IN (by omega), hσ4, k_IN (by omega)]]
                  rw [show σ5.2.1 5 13 = σ.2.1 5 13 by rw [hσ5, k_IN (by omega), hσ4, k_IN (by omega)]]
                  rw [show σ5.2.1 5 14 = σ.2.1 5 14 by rw [hσ5, k_IN (by omega), hσ4, k_IN (by omega)]]
                  rw [show σ5.2.1 68 11 = σ.2.1 68 11 by rw [hσ5, k_IN (by omega), hσ4, k_IN (by omega)]]
                  rw [show σ5.2.1 68 1 = σ.2.1 68 1 by rw [hσ5, k_IN (by omega), hσ4, k_IN (by omega)]]
                  rw [show σ5.2.1 68 0 = σ.2.1 68 0 by rw [hσ5, k_IN (by omega), hσ4, k_IN (by omega)]]
                  rw [show σ5.2.1 68 52 = k by rw [hσ5, k_IN (by omega), hσ4, k_II]]
                  rw [show σ5.2.1 68 53 = x by rw [hσ5, k_II]]
                  omega
                · exact absurd c63 (by decide)
            · show j_at _ _ _ [(0, .ref 68), (1, j_i k), (2, j_i x)] [j_i 0] _ _ _ _
              refine a_if_eq (pc := 53) (off := 7) (tgt := 60) (by decide +kernel) (by decide) (by omega) (fun c53 => ?_) (fun c53 => ?_)
              · refine a_iconst (pc := 60) (n := 0) (by decide +kernel) ?_
                refine a_istore_n (pc := 61) (i := 3) (lv' := [(0, .ref 68), (1, j_i k), (2, j_i x), (3, j_i 0)]) (by decide +kernel) (Nat.le_of_ble_eq_true rfl) rfl ?_
                refine a_iload_n (pc := 62) (i := 3) (by decide +kernel) rfl ?_
                refine a_if_ne (pc := 63) (off := 5) (tgt := 68) (by decide +kernel) (by decide) (by omega) (fun c63 => ?_) (fun c63 => ?_)
                · exact absurd c63 (by decide)
                · refine a_iconst (pc := 66) (n := (-1)) (by decide +kernel) ?_
                  refine a_ireturn (pc := 67) (by decide +kernel) rfl ?_
                  refine k_ret ?_
                  refine ⟨by rw [show ((-1) : Int) = r by omega], RR_scs (σ := ρ) ⟨fun c _ => by rw [hC.1], fun c j _ g1 g2 => hC.2.1 c j (by omega), hC.2.2⟩ ?_ hR⟩
                  unfold RSmall
                  omega
              · exact absurd c53 (by decide)
        · refine a_aload_n (pc := 29) (i := 0) (by decide +kernel) rfl ?_
          refine a_iload_n (pc := 30) (i := 2) (by decide +kernel) rfl ?_
          refine b_callV (pc := 31) (c' := 0) (sl' := 0) [j_i x] [] ml_X12_254 (by decide +kernel) rfl rfl (sh_68 hn) rfl rfl (Nat.le_of_ble_eq_true rfl) (j_fitI rfl rfl) (s_disMark hn hg (by omega) (by omega)) (fun v n' σ' hq => ?_)
          obtain ⟨x, rfl, e1, e2, hx⟩ := hq
          rw [e1, e2]; clear e1 e2
          rcases hx with ⟨rfl, p31⟩ | ⟨rfl, p31⟩
          · show j_at _ _ _ [(0, .ref 68), (1, j_i k), (2, j_i x)] [j_i 1] _ _ _ _
            have i31 := bi_y p31
            have u31 := p31.1
            have w31 := p31.2.1
            refine a_goto (pc := 34) (off := 27) (tgt := 61) (by decide +kernel) (by decide) ?_
            refine a_istore_n (pc := 61) (i := 3) (lv' := [(0, .ref 68), (1, j_i k), (2, j_i x), (3, j_i 1)]) (by decide +kernel) (Nat.le_of_ble_eq_true rfl) rfl ?_
            refine a_iload_n (pc := 62) (i := 3) (by decide +kernel) rfl ?_
            refine a_if_ne (pc := 63) (off := 5) (tgt := 68) (by decide +kernel) (by decide) (by omega) (fun c63 => ?_) (fun c63 => ?_)
            · refine a_aload_n (pc := 68) (i := 0) (by decide +kernel) rfl ?_
              refine a_iload_n (pc := 69) (i := 1) (by decide +kernel) rfl ?_
              refine b_putI (pc := 70) fl_X12_112 (by decide +kernel) (sh_68 hn) rfl rfl rfl ?_
              obtain ⟨σ6, hσ6⟩ : ∃ z, z = k_sI σ 68 52 k := ⟨_, rfl⟩
              rw [← hσ6]
              refine a_aload_n (pc := 73) (i := 0) (by decide +kernel) rfl ?_
              refine a_iload_n (pc := 74) (i := 2) (by decide +kernel) rfl ?_
              refine b_putI (pc := 75) fl_X12_399 (by decide +kernel) (sh_68 hn) rfl rfl rfl ?_
              obtain ⟨σ7, hσ7⟩ : ∃ z, z = k_sI σ6 68 53 x := ⟨_, rfl⟩
              rw [← hσ7]
              refine a_iconst (pc := 78) (n := 1) (by decide +kernel) ?_
              refine a_ireturn (pc := 79) (by decide +kernel) rfl ?_
              refine k_ret ?_
              refine ⟨by rw [show (1 : Int) = r by omega], RR_scs (σ := ρ) ⟨fun c _ => by rw [hσ7, hσ6]; show σ.1 c = _; rw [hC.1], fun c j _ g1 g2 => by rw [hσ7, k_IN (by omega), hσ6, k_IN (by omega)]; exact hC.2.1 c j (by omega), by rw [hσ7, hσ6]; exact hC.2.2⟩ ?_ hR⟩
              unfold RSmall
              rw [show σ7.2.1 5 10 = σ.2.1 5 10 by rw [hσ7, k_IN (by omega), hσ6, k_IN (by omega)]]
              rw [show σ7.2.1 5 11 = σ.2.1 5 11 by rw [hσ7, k_IN (by omega), hσ6, k_IN (by omega)]]
              rw [show σ7.2.1 5 12 = σ.2.1 5 12 by rw [hσ7, k_IN (by omega), hσ6, k_IN (by omega)]]
              rw [show σ7.2.1 5 13 = σ.2.1 5 13 by rw [hσ7, k_IN (by omega), hσ6, k_IN (by omega)]]
              rw [show σ7.2.1 5 14 = σ.2.1 5 14 by rw [hσ7, k_IN (by omega), hσ6, k_IN (by omega)]]
              rw [show σ7.2.1 68 11 = σ.2.1 68 11 by rw [hσ7, k_IN (by omega), hσ6, k_IN (by omega)]]
              rw [show σ7.2.1 68 1 = σ.2.1 68 1 by rw [hσ7, k_IN (by omega), hσ6, k_IN (by omega)]]
              rw [show σ7.2.1 68 0 = σ.2.1 68 0 by rw [hσ7, k_IN (by omega), hσ6, k_IN (by omega)]]
              rw [show σ7.2.1 68 52 = k by rw [hσ7, k_IN (by omega), hσ6, k_II]]
              rw [show σ7.2.1 68 53 = x by rw [hσ7, k_II]]
              omega
            · exact absurd c63 (by decide)
          · show j_at _ _ _ [(0, .ref 68), (1, j_i k), (2, j_i x)] [j_i 0] _ _ _ _
            have i31 := bi_n p31
            refine a_goto (pc := 34) (off := 27) (tgt := 61) (by decide +kernel) (by decide) ?_
            refine a_istore_n (pc := 61) (i := 3) (lv' := [(0, .ref 68), (1, j_i k), (2, j_i x), (3, j_i 0)]) (by decide +kernel) (Nat.le_of_ble_eq_true rfl) rfl ?_
            refine a_iload_n (pc := 62) (i := 3) (by decide +kernel) rfl ?_
            refine a_if_ne (pc := 63) (off := 5) (tgt := 68) (by decide +kernel) (by decide) (by omega) (fun c63 => ?_) (fun c63 => ?_)
            · exact absurd c63 (by decide)
            · refine a_iconst (pc := 66) (n := (-1)) (by decide +kernel) ?_
              refine a_ireturn (pc := 67) (by decide +kernel) rfl ?_
              refine k_ret ?_
              refine ⟨by rw [show ((-1) : Int) = r by omega], RR_scs (σ := ρ) ⟨fun c _ => by rw [hC.1], fun c j _ g1 g2 => hC.2.1 c j (by omega), hC.2.2⟩ ?_ hR⟩
              unfold RSmall
              omega
      · refine a_aload_n (pc := 16) (i := 0) (by decide +kernel) rfl ?_
        refine a_iload_n (pc := 17) (i := 2) (by decide +kernel) rfl ?_
        refine b_callV (pc := 18) (c' := 0) (sl' := 0) [j_i x] [] ml_X12_202 (by decide +kernel) rfl rfl (sh_68 hn) rfl rfl (Nat.le_of_ble_eq_true rfl) (j_fitI rfl rfl) (s_disHead hn hg (by omega) (by omega)) (fun v n' σ' hq => ?_)
        obtain ⟨x, rfl, e1, e2, hx⟩ := hq
        rw [e1, e2]; clear e1 e2
        rcases hx with ⟨rfl, p18⟩ | ⟨rfl, p18⟩
        · show j_at _ _ _ [(0, .ref 68), (1, j_i k), (2, j_i x)] [j_i 1] _ _ _ _
          have i18 := bi_y p18
          have u18 := p18.1
          have w18 := p18.2.1
          refine a_goto (pc := 21) (off := 40) (tgt := 61) (by decide +kernel) (by decide) ?_
          refine a_istore_n (pc := 61) (i := 3) (lv' := [(0, .ref 68), (1, j_i k), (2, j_i x), (3, j_i 1)]) (by decide +kernel) (Nat.le_of_ble_eq_true rfl) rfl ?_
          refine a_iload_n (pc := 62) (i := 3) (by decide +kernel) rfl ?_
          refine a_if_ne (pc := 63) (off := 5) (tgt := 68) (by decide +kernel) (by decide) (by omega) (fun c63 => ?_) (fun c63 => ?_)
          · refine a_aload_n (pc := 68) (i := 0) (by decide +kernel) rfl ?_
            refine a_iload_n (pc := 69) (i := 1) (by decide +kernel) rfl ?_
            refine b_putI (pc := 70) fl_X12_112 (by decide +kernel) (sh_68 hn) rfl rfl rfl ?_
            obtain ⟨σ8, hσ8⟩ : ∃ z, z = k_sI σ 68 52 k := ⟨_, rfl⟩
            rw [← hσ8]
            refine a_aload_n (pc := 73) (i := 0) (by decide +kernel) rfl ?_
            refine a_iload_n (pc := 74) (i := 2) (by decide +kernel) rfl ?_
            refine b_putI (pc := 75) fl_X12_399 (by decide +kernel) (sh_68 hn) rfl rfl rfl ?_
            obtain ⟨σ9, hσ9⟩ : ∃ z, z = k_sI σ8 68 53 x := ⟨_, rfl⟩
            rw [← hσ9]
            refine a_iconst (pc := 78) (n := 1) (by decide +kernel) ?_
            refine a_ireturn (pc := 79) (by decide +kernel) rfl ?_
            refine k_ret ?_
            refine ⟨by rw [show (1 : Int) = r by omega], RR_scs (σ := ρ) ⟨fun c _ => by rw [hσ9, hσ8]; show σ.1 c = _; rw [hC.1], fun c j _ g1 g2 => by rw [hσ9, k_IN (by omega), hσ8, k_IN (by omega)]; exact hC.2.1 c j (by omega), by rw [hσ9, hσ8]; exact hC.2.2⟩ ?_ hR⟩
            unfold RSmall
            rw [show σ9.2.1 5 10 = σ.2.1 5 10 by rw [hσ9, k_IN (by omega), hσ8, k_IN (by omega)]]
            rw [show σ9.2.1 5 11 = σ.2.1 5 11 by rw [hσ9, k_IN (by omega), hσ8, k_IN (by omega)]]
            rw [show σ9.2.1 5 12 = σ.2.1 5 12 by rw [hσ9, k_IN (by omega), hσ8, k_IN (by omega)]]
            rw [show σ9.2.1 5 13 = σ.2.1 5 13 by rw [hσ9, k_IN (by omega), hσ8, k_IN (by omega)]]
            rw [show σ9.2.1 5 14 = σ.2.1 5 14 by rw [hσ9, k_IN (by omega), hσ8, k_IN (by omega)]]
            rw [show σ9.2.1 68 11 = σ.2.1 68 11 by rw [hσ9, k_IN (by omega), hσ8, k_IN (by omega)]]
            rw [show σ9.2.1 68 1 = σ.2.1 68 1 by rw [hσ9, k_IN (by omega), hσ8, k_IN (by omega)]]
            rw [show σ9.2.1 68 0 = σ.2.1 68 0 by rw [hσ9, k_IN (by omega), hσ8, k_IN (by omega)]]
            rw [show σ9.2.1 68 52 = k by rw [hσ9, k_IN (by omega), hσ8, k_II]]
            rw [show σ9.2.1 68 53 = x by rw [hσ9, k_II]]
            omega
          · exact absurd c63 (by decide)
        · show j_at _ _ _ [(0, .ref 68), (1, j_i k), (2, j_i x)] [j_i 0] _ _ _ _
          have i18 := bi_n p18
          refine a_goto (pc := 21) (off := 40) (tgt := 61) (by decide +kernel) (by decide) ?_
          refine a_istore_n (pc := 61) (i := 3) (lv' := [(0, .ref 68), (1, j_i k), (2, j_i x), (3, j_i 0)]) (by decide +kernel) (Nat.le_of_ble_eq_true rfl) rfl ?_
          refine a_iload_n (pc := 62) (i := 3) (by decide +kernel) rfl ?_
          refine a_if_ne (pc := 63) (off := 5) (tgt := 68) (by decide +kernel) (by decide) (by omega) (fun c63 => ?_) (fun c63 => ?_)
          · exact absurd c63 (by decide)
          · refine a_iconst (pc := 66) (n := (-1)) (by decide +kernel) ?_
            refine a_ireturn (pc := 67) (by decide +kernel) rfl ?_
            refine k_ret ?_
            refine ⟨by rw [show ((-1) : Int) = r by omega], RR_scs (σ := ρ) ⟨fun c _ => by rw [hC.1], fun c j _ g1 g2 => hC.2.1 c j (by omega), hC.2.2⟩ ?_ hR⟩
            unfold RSmall
            omega
    · exact absurd c6 (by decide)
  · show j_at _ _ _ [(0, .ref 68), (1, j_i k), (2, j_i x)] [j_i 0] _ _ _ _
    refine a_if_ne (pc := 6) (off := 6) (tgt := 12) (by decide +kernel) (by decide) (by omega) (fun c6 => ?_) (fun c6 => ?_)
    · exact absurd c6 (by decide)
    · refine a_bipush (pc := 9) (n := (-2)) (by decide +kernel) rfl ?_
      refine a_ireturn (pc := 11) (by decide +kernel) rfl ?_
      refine k_ret ?_
      refine ⟨by rw [show ((-2) : Int) = r by omega], RR_scs (σ := ρ) ⟨fun c _ => by rw [hC.1], fun c j _ g1 g2 => hC.2.1 c j (by omega), hC.2.2⟩ ?_ hR⟩
      unfold RSmall
      omega
set_option maxHeartbeats 4000000 in
theorem p_tray {G : j_G} {X : k_X} {n : Nat} {σ : k_St} (hR : RR n σ) {k : Int} (hk : -2147483648 ≤ k ∧ k ≤ 2147483647) {x : Int} (hx : -2147483648 ≤ x ∧ x ≤ 2147483647)  : pr_ok G X mX11_tray mX12_tray [j_i k, j_i x] n σ 0 0 := by
  refine ⟨_, c_tray hR hk hx , fun v n' σ' hq => ?_⟩
  obtain ⟨r, hv, rfl, hC, hP⟩ := hq
  exact ⟨RR_n hR, r, hv, d_tray hR hC hk hx  hP⟩
