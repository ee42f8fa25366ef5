theorem OLD_mk {σ τ : k_St} {b : Nat} (hb : b = 48 ∨ b = 58) (hw : i_wf σ b) (hI : IR σ b) (hc : cfr σ τ) (hk : (∀ q, 0 ≤ q → q < 3 * σ.2.1 68 25 → τ.1 88 q = σ.1 81 q) ∧ (∀ q, 0 ≤ q → q < σ.2.1 68 25 → τ.1 89 q = σ.1 82 q ∧ τ.1 90 q = σ.1 83 q ∧ τ.1 91 q = σ.1 84 q ∧ τ.1 92 q = σ.1 85 q) ∧ (∀ q, 0 ≤ q → q < 4 * σ.2.1 68 32 → τ.1 93 q = σ.1 86 q) ∧ ∀ q, 0 ≤ q → q < 3 * σ.2.1 68 34 → τ.1 94 q = σ.1 87 q) (h35 : τ.2.1 68 35 = σ.2.1 68 25) : OLD τ b := by
  obtain ⟨r0, r1, r2, r3, r4, r5, r6, _⟩ := hI
  obtain ⟨k1, k2, k3, k4⟩ := hk
  have A : ∀ c, c < 81 → τ.1 c = σ.1 c := fun c hc' => hc.1 c (Or.inl hc')
  have B : ∀ c j, c ≠ 68 → τ.2.1 c j = σ.2.1 c j := fun c j hc' => hc.2.1 c j (Or.inl hc')
  have e0 := B b 0 (by omega)
  have x1 : i_pn τ b = i_pn σ b := by funext e; unfold i_pn i_ps; rw [A (b + 2) (by omega), e0]
  have x2 : i_ps τ b = i_ps σ b := by funext e; unfold i_ps; rw [A (b + 2) (by omega)]
  have x3 : i_sn τ b = i_sn σ b := by funext e; unfold i_sn i_ls; rw [A (b + 3) (by omega), e0]
  have x4 : i_ls τ b = i_ls σ b := by funext e; unfold i_ls; rw [A (b + 3) (by omega)]
  refine ⟨hb, i_wf_cg (fun c _ _ => A c (by omega)) (fun j => B b j (by omega)) hw, by rw [h35, e0, r0], ?_⟩
  rw [x1, x2, x3, x4, e0, B b 5 (by omega), B b 7 (by omega), A (b + 1) (by omega), A (b + 4) (by omega), A (b + 5) (by omega)]
  refine ⟨fun q k q0 q1 k0 k1' => ?_, fun i j i0 i1 j0 j1 w => (r2 i j i0 i1 j0 j1).1 w, fun q q0 q1 => ?_, fun j j0 j1 => ?_, fun j j0 j1 => ?_⟩
  · rw [k1 _ (by omega) (by omega)]; exact (r1 q q0 q1).1 k k0 k1'
  · obtain ⟨_, y1, y2, _⟩ := r1 q q0 q1
    obtain ⟨z1, z2, z3, z4⟩ := k2 q q0 (by omega)
    rw [z1, z2, z3, z4]; exact ⟨y1, y2⟩
  · rw [k3 j j0 (by omega)]; exact r4 j j0 j1
  · rw [k4 j j0 (by omega)]; exact r6 j j0 j1
set_option maxHeartbeats 4000000 in
theorem e_build {G : j_G} {X : k_X} {n : Nat} {σ : k_St} (hn : 101 ≤ n) {a b : Nat} {lm lr : List Int} {od d c : Int} (hF : FX σ a lm lr od c d) (hbb : b = 48 ∨ b = 58) (hwb : i_wf σ b) (hI : IR σ b) (ho : od = 0 ∨ od = 1) (rc : c = 0 ∨ c = 1) (d0 : 0 ≤ d ∧ d ≤ 20) : k_run G X mX12_build [.ref 68, j_i od, j_i d, j_i c] n σ 0 0 (BQ n σ a b) := by
  have hin : (od = 0 ∨ od = 1) ∧ (c = 0 ∨ c = 1) ∧ (0 ≤ d ∧ d ≤ 20) := ⟨ho, rc, d0⟩
  have wb := IR_wf2 hwb
  have r0 := hI.1
  have r3 : σ.2.1 68 32 = σ.2.1 b 5 := hI.2.2.2.1
  have r5 : σ.2.1 68 34 = σ.2.1 b 7 := hI.2.2.2.2.2.1
  refine k_enter (by decide +kernel) (Nat.le_of_ble_eq_true rfl) ?_
  show j_at _ _ _ [(0, .ref 68), (1, j_i od), (2, j_i d), (3, j_i c)] [] _ _ _ _
  refine a_iload_n (pc := 0) (i := 1) (by decide +kernel) rfl ?_
  refine a_iconst (pc := 1) (n := 0) (by decide +kernel) ?_
  refine a_iconst (pc := 2) (n := 1) (by decide +kernel) ?_
  refine b_callS (pc := 3) (c' := 0) (sl' := 0) [j_i od, j_i 0, j_i 1] [] ml_X12_128 (by decide +kernel) rfl rfl (Nat.le_of_ble_eq_true rfl) (j_fitI rfl rfl) (s_dwithin (by omega) (by omega) (by omega)) (fun v n' σ' hq => ?_)
  obtain ⟨x, rfl, e1, e2, hx⟩ := hq
  rw [e1, e2]; clear e1 e2
  rcases hx with ⟨rfl, p3⟩ | ⟨rfl, p3⟩
  · show j_at _ _ _ [(0, .ref 68), (1, j_i od), (2, j_i d), (3, j_i c)] [j_i 1] _ _ _ _
    refine a_if_eq (pc := 6) (off := 22) (tgt := 28) (by decide +kernel) (by decide) (by omega) (fun c6 => ?_) (fun c6 => ?_)
    · exact absurd c6 (by decide)
    · refine a_iload_n (pc := 9) (i := 2) (by decide +kernel) rfl ?_
      refine a_iconst (pc := 10) (n := 0) (by decide +kernel) ?_
      refine a_bipush (pc := 11) (n := 20) (by decide +kernel) rfl ?_
      refine b_callS (pc := 13) (c' := 0) (sl' := 0) [j_i d, j_i 0, j_i 20] [] ml_X12_128 (by decide +kernel) rfl rfl (Nat.le_of_ble_eq_true rfl) (j_fitI rfl rfl) (s_dwithin (by omega) (by omega) (by omega)) (fun v n' σ' hq => ?_)
      obtain ⟨x, rfl, e1, e2, hx⟩ := hq
      rw [e1, e2]; clear e1 e2
      rcases hx with ⟨rfl, p13⟩ | ⟨rfl, p13⟩
      · show j_at _ _ _ [(0, .ref 68), (1, j_i od), (2, j_i d), (3, j_i c)] [j_i 1] _ _ _ _
        refine a_if_eq (pc := 16) (off := 12) (tgt := 28) (by decide +kernel) (by decide) (by omega) (fun c16 => ?_) (fun c16 => ?_)
        · exact absurd c16 (by decide)
        · refine a_iload_n (pc := 19) (i := 3) (by decide +kernel) rfl ?_
          refine a_iconst (pc := 20) (n := 0) (by decide +kernel) ?_
          refine a_iconst (pc := 21) (n := 1) (by decide +kernel) ?_
          refine b_callS (pc := 22) (c' := 0) (sl' := 0) [j_i c, j_i 0, j_i 1] [] ml_X12_128 (by decide +kernel) rfl rfl (Nat.le_of_ble_eq_true rfl) (j_fitI rfl rfl) (s_dwithin (by omega) (by omega) (by omega)) (fun v n' σ' hq => ?_)
          obtain ⟨x, rfl, e1, e2, hx⟩ := hq
          rw [e1, e2]; clear e1 e2
          rcases hx with ⟨rfl, p22⟩ | ⟨rfl, p22⟩
          · show j_at _ _ _ [(0, .ref 68), (1, j_i od), (2, j_i d), (3, j_i c)] [j_i 1] _ _ _ _
            refine a_if_ne (pc := 25) (off := 6) (tgt := 31) (by decide +kernel) (by decide) (by omega) (fun c25 => ?_) (fun c25 => ?_)
            · refine a_aload_n (pc := 31) (i := 0) (by decide +kernel) rfl ?_
              refine b_callV (pc := 32) (c' := 0) (sl' := 0) [] [] ml_X12_365 (by decide +kernel) rfl rfl (sh_68 hn) rfl rfl (Nat.le_of_ble_eq_true rfl) (j_fitI rfl rfl) (e_keepOld hn (by rw [r0]; exact wb.1) (by rw [r3]; exact wb.2.1) (by rw [r5]; exact wb.2.2)) (fun v n' σ' hq => ?_)
              obtain ⟨rfl, rfl, hKO⟩ := hq
              obtain ⟨σ1, hσ1⟩ : ∃ z, z = σ' := ⟨_, rfl⟩
              rw [← hσ1] at hKO ⊢
              clear hσ1
              show j_at _ _ _ [(0, .ref 68), (1, j_i od), (2, j_i d), (3, j_i c)] [] _ _ _ _
              refine a_aload_n (pc := 35) (i := 0) (by decide +kernel) rfl ?_
              refine a_iconst (pc := 36) (n := 0) (by decide +kernel) ?_
              refine b_putI (pc := 37) fl_X12_281 (by decide +kernel) (sh_68 hn) rfl rfl rfl ?_
              obtain ⟨σ2, hσ2⟩ : ∃ z, z = k_sI σ1 68 25 0 := ⟨_, rfl⟩
              rw [← hσ2]
              refine a_aload_n (pc := 40) (i := 0) (by decide +kernel) rfl ?_
              refine a_iconst (pc := 41) (n := 0) (by decide +kernel) ?_
              refine b_putI (pc := 42) fl_X12_327 (by decide +kernel) (sh_68 hn) rfl rfl rfl ?_
              obtain ⟨σ3, hσ3⟩ : ∃ z, z = k_sI σ2 68 32 0 := ⟨_, rfl⟩
              rw [← hσ3]
              refine a_aload_n (pc := 45) (i := 0) (by decide +kernel) rfl ?_
              refine a_iconst (pc := 46) (n := 0) (by decide +kernel) ?_
              refine b_putI (pc := 47) fl_X12_343 (by decide +kernel) (sh_68 hn) rfl rfl rfl ?_
              obtain ⟨σ4, hσ4⟩ : ∃ z, z = k_sI σ3 68 34 0 := ⟨_, rfl⟩
              rw [← hσ4]
              refine a_aload_n (pc := 50) (i := 0) (by decide +kernel) rfl ?_
              refine a_iconst (pc := 51) (n := 0) (by decide +kernel) ?_
              refine b_putI (pc := 52) fl_X12_297 (by decide +kernel) (sh_68 hn) rfl rfl rfl ?_
              obtain ⟨σ5, hσ5⟩ : ∃ z, z = k_sI σ4 68 43 0 := ⟨_, rfl⟩
              rw [← hσ5]
              refine a_iconst (pc := 55) (n := 0) (by decide +kernel) ?_
              refine a_istore (pc := 56) (i := 4) (lv' := [(0, .ref 68), (1, j_i od), (2, j_i d), (3, j_i c), (4, j_i 0)]) (by decide +kernel) (Nat.le_of_ble_eq_true rfl) rfl ?_
              have a5 : ∀ c, σ5.1 c = σ1.1 c := fun c => by rw [hσ5, k_I1, hσ4, k_I1, hσ3, k_I1, hσ2, k_I1]
              have c1 : cfr σ σ1 := ⟨fun c q => hKO.1.1 c (by omega), fun c j q => hKO.1.2.1 c j (by omega), hKO.1.2.2.1⟩
              have c5 : cfr σ σ5 := ⟨fun c q => by rw [a5 c]; exact c1.1 c q, fun c j q => by rw [hσ5, k_IN (by omega), hσ4, k_IN (by omega), hσ3, k_IN (by omega), hσ2, k_IN (by omega)]; exact c1.2.1 c j q, by rw [hσ5, hσ4, hσ3, hσ2]; exact c1.2.2⟩
              have O5 : OLD σ5 b := by
                refine OLD_mk hbb hwb hI c5 ?_ (by rw [hσ5, k_IN (by omega), hσ4, k_IN (by omega), hσ3, k_IN (by omega), hσ2, k_IN (by omega)]; exact hKO.1.2.2.2)
                obtain ⟨_, o1, o2, o3, o4⟩ := hKO
                rw [a5 88, a5 89, a5 90, a5 91, a5 92, a5 93, a5 94]
                exact ⟨o1, o2, o3, o4⟩
              have F5 := FX_cg c5 hF
              have K5' : RKept σ5 := F5.2.1.1
              have e25 : σ5.2.1 68 25 = 0 := by rw [hσ5, k_IN (by omega), hσ4, k_IN (by omega), hσ3, k_IN (by omega), hσ2, k_II]
              have hM5 := (KR_rg K5'.1 K5'.2.1).1.2.2
              refine l_bd58 hn K5' (fun τ6 pe6 k6 f6 hS6 => ?_) 52 0 σ5 (fun i => i) (by omega) (by omega) (by omega) fr81_r (by omega) ⟨⟨by omega, fun e k e0 e1 => by omega⟩, fun e e0 e1 => by omega, fun i j i0 i1 => by omega, fun x => ⟨fun ⟨i, i0, i1, _⟩ => by omega, fun ⟨m, m0, m1, _⟩ => by have := m1.1; omega⟩⟩
              have c56 : cfr σ5 τ6 := ⟨fun c q => f6.1 c (by omega), fun c j q => f6.2.1 c j (by omega), f6.2.2⟩
              have F6 := FX_cg c56 F5
              have K6 := F6.2.1.1
              have P6 := F6.2.1.2.1
              refine a_aload_n (pc := 180) (i := 0) (by decide +kernel) rfl ?_
              refine a_iload_n (pc := 181) (i := 1) (by decide +kernel) rfl ?_
              refine b_callV (pc := 182) (c' := 0) (sl' := 0) [j_i od] [] ml_X12_371 (by decide +kernel) rfl rfl (sh_68 hn) rfl rfl (Nat.le_of_ble_eq_true rfl) (j_fitI rfl rfl) (e_sortPaths (A := AS σ5 (σ5.1 69 1382)) hn K6 P6 ho hS6.1 (fun e e0 e1 => by rw [show h_is τ6 = h_is σ5 from funext fun x => propext (by unfold h_is; rw [f6.1 15 (by omega), f6.2.1 8 3 (by omega)])]; exact AS_ok K5' ((hS6.2.2.2 _).mp ⟨e, e0, e1, rfl⟩)) hS6.2.2.1 hS6.2.2.2) (fun v n' σ' hq => ?_)
              obtain ⟨rfl, rfl, pe7, hSP, hso⟩ := hq
              obtain ⟨σ61, hσ61⟩ : ∃ z, z = σ' := ⟨_, rfl⟩
              rw [← hσ61] at hSP ⊢
              clear hσ61
              show j_at _ _ _ [(0, .ref 68), (1, j_i od), (2, j_i d), (3, j_i c), (4, j_i k6)] [] _ _ _ _
              obtain ⟨p1, p2, p3, p4, p5⟩ := hSP
              have c67 : cfr τ6 σ61 := ⟨fun c q => p1.1 c (by omega), fun c j q => p1.2.1 c j (by omega), p1.2.2⟩
              have c7 : cfr σ σ61 := cfr_t (cfr_t c5 c56) c67
              have F7 := FX_cg c7 hF
              have n7 : σ61.2.1 68 25 = τ6.2.1 68 25 := p1.2.1 68 25 (by omega)
              have f7 := F7.2.2.2.2.1
              have eo : (fun x y => o_rel σ61 x y od (-1)) = (fun x y => o_rel τ6 x y od (-1)) := by funext x y; exact propext (o_rel_congr (fun c hc => p1.1 c (by omega)) (p1.2.1 33 1 (by omega)))
              have eA : ∀ x, AS σ61 (σ61.1 69 1382) x ↔ AS σ5 (σ5.1 69 1382) x := fun x => by
                have c57 := cfr_t c56 c67
                have em : m_is σ61 = m_is σ5 := by funext x; unfold m_is; rw [c57.1 21 (by omega), c57.2.1 16 5 (by omega)]
                have ee : ∀ m, m_epath σ61 m = m_epath σ5 m := fun m => by unfold m_epath; rw [c57.1 21 (by omega), c57.1 17 (by omega), c57.1 19 (by omega), c57.2.1 16 5 (by omega)]
                unfold AS; rw [em, c57.1 69 (by omega)]; simp only [ee]
              have hir : ∀ x, ¬ o_rel τ6 x x od (-1) := fun x => o_irr
              have htr : ∀ x y z, o_rel τ6 x y od (-1) → o_rel τ6 y z od (-1) → o_rel τ6 x z od (-1) := fun x y z => o_rel_tr
              have hu := st_u (lt := pt_lt (fun x y => o_rel τ6 x y od (-1))) (fun x => pt_irr hir) (fun x y z h1 h2 => pt_tr htr h1 h2) hso (by rw [← eo]; exact f7.1) (fun x => by rw [p5, f7.2, eA]) hS6.1.1.1 F7.2.1.2.2.2.1.1
              have k1 : K1 σ61 a (σ61.1 (a + 1)) := ⟨by rw [n7]; exact hu.1, rfl, by rw [n7]; exact hS6.1.1, fun e k e0 e1 k0 k1 => by rw [p2.2 e k e0 e1 k0 k1]; rw [n7] at e1; rw [hu.2 e e0 e1]⟩
              have z32 : σ61.2.1 68 32 = 0 := by rw [p1.2.1 68 32 (by omega), f6.2.1 68 32 (by omega), hσ5, k_IN (by omega), hσ4, k_IN (by omega), hσ3, k_II]
              have z34 : σ61.2.1 68 34 = 0 := by rw [p1.2.1 68 34 (by omega), f6.2.1 68 34 (by omega), hσ5, k_IN (by omega), hσ4, k_II]
              have z43 : σ61.2.1 68 43 = 0 := by rw [p1.2.1 68 43 (by omega), f6.2.1 68 43 (by omega), hσ5, k_II]
              have O7 : OLD σ61 b := OLD_cg (cfr_t c56 c67) (fun c q1 q2 => by rw [p1.1 c (by omega), f6.1 c (by omega)]) (by rw [p1.2.1 68 35 (by omega), f6.2.1 68 35 (by omega)]) O5
              exact k_mono (fun v n' ρ q => BQ_t hF.1 c7 q) (b_185 hn F7 O7 k1 ho rc d0 z32 z34 z43)
            · exact absurd c25 (by decide)
          · show j_at _ _ _ [(0, .ref 68), (1, j_i od), (2, j_i d), (3, j_i c)] [j_i 0] _ _ _ _
            refine a_if_ne (pc := 25) (off := 6) (tgt := 31) (by decide +kernel) (by decide) (by omega) (fun c25 => ?_) (fun c25 => ?_)
            · exact absurd c25 (by decide)
            · refine a_bipush (pc := 28) (n := (-2)) (by decide +kernel) rfl ?_
              refine a_ireturn (pc := 30) (by decide +kernel) rfl ?_
              refine k_ret ?_
              exact absurd hin (by omega)
      · show j_at _ _ _ [(0, .ref 68), (1, j_i od), (2, j_i d), (3, j_i c)] [j_i 0] _ _ _ _
        refine a_if_eq (pc := 16) (off := 12) (tgt := 28) (by decide +kernel) (by decide) (by omega) (fun c16 => ?_) (fun c16 => ?_)
        · refine a_bipush (pc := 28) (n := (-2)) (by decide +kernel) rfl ?_
          refine a_ireturn (pc := 30) (by decide +kernel) rfl ?_
          refine k_ret ?_
          exact absurd hin (by omega)
        · exact absurd c16 (by decide)
  · show j_at _ _ _ [(0, .ref 68), (1, j_i od), (2, j_i d), (3, j_i c)] [j_i 0] _ _ _ _
    refine a_if_eq (pc := 6) (off := 22) (tgt := 28) (by decide +kernel) (by decide) (by omega) (fun c6 => ?_) (fun c6 => ?_)
    · refine a_bipush (pc := 28) (n := (-2)) (by decide +kernel) rfl ?_
      refine a_ireturn (pc := 30) (by decide +kernel) rfl ?_
      refine k_ret ?_
      exact absurd hin (by omega)
    · exact absurd c6 (by decide)
