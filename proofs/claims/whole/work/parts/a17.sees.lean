def hmr (σ : k_St) (e : Int) : Prop := 0 < σ.1 82 e ∨ 0 < f_count (d_cB (σ.1 81) e) (σ.2.1 68 25).toNat
theorem SSg_cg {σ τ ρ : k_St} {e od : Int} {S : Int × Int → Prop} (h : mfr σ τ) : SSg τ ρ e od S ↔ SSg σ ρ e od S := by
  unfold SSg s_ok
  have e1 : sl τ od = sl σ od := by funext x y; unfold sl; rw [mfr_o h]
  rw [e1]
  simp only [mfr_h h]
set_option maxHeartbeats 4000000 in
theorem e_hasMore {G : j_G} {X : k_X} {n : Nat} {σ : k_St} (hn : 101 ≤ n) {pe : Int → Int} (hE : pE σ pe) {e : Int} (e0 : 0 ≤ e ∧ e < σ.2.1 68 25) (h82 : 0 ≤ σ.1 82 e ∧ σ.1 82 e ≤ 1000) : k_run G X mX12_hasMore [.ref 68, j_i e] n σ 0 0 (k_b n σ (hmr σ e)) := by
  have hE1 := hE.1
  have hE2 : 0 ≤ σ.2.1 68 25 ∧ σ.2.1 68 25 ≤ 200 := by omega
  refine k_enter (by decide +kernel) (Nat.le_of_ble_eq_true rfl) ?_
  show j_at _ _ _ [(0, .ref 68), (1, j_i e)] [] _ _ _ _
  refine a_aload_n (pc := 0) (i := 0) (by decide +kernel) rfl ?_
  refine b_getR (pc := 1) (b := 82) fl_X12_54 (by decide +kernel) (sh_68 hn) rfl ?_
  refine a_iload_n (pc := 4) (i := 1) (by decide +kernel) rfl ?_
  refine b_iaload (pc := 5) (by decide +kernel) (sh_82 hn) (by omega) (by omega) (by omega) ?_
  refine a_if_gt (pc := 6) (off := 11) (tgt := 17) (by decide +kernel) (by decide) (by omega) (fun c6 => ?_) (fun c6 => ?_)
  · refine a_iconst (pc := 17) (n := 1) (by decide +kernel) ?_
    refine a_goto (pc := 18) (off := 4) (tgt := 22) (by decide +kernel) (by decide) ?_
    refine a_zreturn (pc := 22) (by decide +kernel) rfl (by omega) ?_
    refine k_ret ?_
    exact ⟨_, rfl, rfl, rfl, Or.inl ⟨rfl, by unfold hmr; omega⟩⟩
  · refine a_aload_n (pc := 9) (i := 0) (by decide +kernel) rfl ?_
    refine a_iload_n (pc := 10) (i := 1) (by decide +kernel) rfl ?_
    refine b_pureV (pc := 11) [j_i e] [] ml_X12_349 (by decide +kernel) rfl rfl (sh_68 hn) rfl rfl (Nat.le_of_ble_eq_true rfl) (j_fitI rfl rfl) (s_dchildrenOf hn hE2 (pE_r hE) e0) ?_
    have q := f_count_in (d_cB (σ.1 81) e) (σ.2.1 68 25).toNat
    show j_at _ _ _ [(0, .ref 68), (1, j_i e)] [j_i (f_count (d_cB (σ.1 81) e) (σ.2.1 68 25).toNat)] _ _ _ _
    refine a_if_le (pc := 14) (off := 7) (tgt := 21) (by decide +kernel) (by decide) (by omega) (fun c14 => ?_) (fun c14 => ?_)
    · refine a_iconst (pc := 21) (n := 0) (by decide +kernel) ?_
      refine a_zreturn (pc := 22) (by decide +kernel) rfl (by omega) ?_
      refine k_ret ?_
      exact ⟨_, rfl, rfl, rfl, Or.inr ⟨rfl, by unfold hmr; omega⟩⟩
    · refine a_iconst (pc := 17) (n := 1) (by decide +kernel) ?_
      refine a_goto (pc := 18) (off := 4) (tgt := 22) (by decide +kernel) (by decide) ?_
      refine a_zreturn (pc := 22) (by decide +kernel) rfl (by omega) ?_
      refine k_ret ?_
      exact ⟨_, rfl, rfl, rfl, Or.inl ⟨rfl, by unfold hmr; omega⟩⟩
def LK (σ : k_St) (A : Int × Int → Prop) (P0 kd k : Int) (x : Int × Int) : Prop := ∃ m, m < k ∧ m_is σ m ∧ σ.1 17 m = kd ∧ f_head (σ.1 19 m) 0 = P0 ∧ x = (f_head (σ.1 19 m) 1, kd - 6) ∧ ∀ b, ¬ A (f_head (σ.1 19 m) 1, b)
theorem LK_n {σ : k_St} {A : Int × Int → Prop} {P0 kd k : Int} {x : Int × Int} (h : ¬ (m_is σ k ∧ σ.1 17 k = kd ∧ f_head (σ.1 19 k) 0 = P0)) : A x ∨ LK σ A P0 kd k x ↔ A x ∨ LK σ A P0 kd (k + 1) x := by
  constructor
  · rintro (w | ⟨m, a, b⟩)
    · exact Or.inl w
    · exact Or.inr ⟨m, by omega, b⟩
  · rintro (w | ⟨m, a, b, c, d, f⟩)
    · exact Or.inl w
    · by_cases q : m = k
      · rw [q] at b c d; exact absurd ⟨b, c, d⟩ h
      · exact Or.inr ⟨m, by omega, b, c, d, f⟩
theorem LK_s {σ : k_St} {A : Int × Int → Prop} {P0 kd k : Int} {x : Int × Int} (h : m_is σ k ∧ σ.1 17 k = kd ∧ f_head (σ.1 19 k) 0 = P0) : ((A x ∨ LK σ A P0 kd k x) ∨ (x = (f_head (σ.1 19 k) 1, kd - 6) ∧ ∀ b, ¬ (A (f_head (σ.1 19 k) 1, b) ∨ LK σ A P0 kd k (f_head (σ.1 19 k) 1, b)))) ↔ A x ∨ LK σ A P0 kd (k + 1) x := by
  constructor
  · rintro ((w | ⟨m, a, b⟩) | ⟨w, v⟩)
    · exact Or.inl w
    · exact Or.inr ⟨m, by omega, b⟩
    · exact Or.inr ⟨k, by omega, h.1, h.2.1, h.2.2, w, fun b z => v b (Or.inl z)⟩
  · rintro (w | ⟨m, a, b, c, d, f, g⟩)
    · exact Or.inl (Or.inl w)
    · by_cases q : m = k
      · rw [q] at f g
        by_cases z : ∃ b, LK σ A P0 kd k (f_head (σ.1 19 k) 1, b)
        · obtain ⟨b9, m', a', b', c', d', f', g'⟩ := z
          have e1 : f_head (σ.1 19 k) 1 = f_head (σ.1 19 m') 1 := congrArg Prod.fst f'
          exact Or.inl (Or.inr ⟨m', a', b', c', d', by rw [f, e1], g'⟩)
        · exact Or.inr ⟨f, fun b v => by rcases v with v | v; exact g b v; exact z ⟨b, v⟩⟩
      · exact Or.inl (Or.inr ⟨m, by omega, b, c, d, f, g⟩)
theorem see_live {σ : k_St} (hK : RKept σ) {m : Int} (h : m_is σ m) (hk : 5 < σ.1 17 m) : h_is σ (f_head (σ.1 19 m) 1) := by
  have z := hK.2.2.1.2.1 m h
  obtain ⟨z1, z2, z3, z4⟩ := z
  have z5 := (z4 hk).1
  rcases (okp_hd z1).2.1 with w | w
  · exact absurd w z5
  · exact w
set_option maxHeartbeats 4000000 in
theorem l_fs39 {G : j_G} {X : k_X} {n : Nat} {σ : k_St} (hn : 101 ≤ n) {pe : Int → Int} (hB : MB σ pe) {e od : Int} (e0 : 0 ≤ e ∧ e < σ.2.1 68 25) (ho : od = 0 ∨ od = 1) {P0 kd B0 : Int} {A : Int × Int → Prop} (hP0 : σ.1 81 (3 * e) = P0) (hkd : kd = 6 ∨ kd = 7) (hB0 : B0 ≤ 100) (hA : ∀ x, A x → x.2 ≤ kd - 6) {Q : k_P} (kk : ∀ τ k, slf σ τ e → τ.2.1 68 34 ≤ B0 + 50 → SSg σ τ e od (fun x => A x ∨ LK σ A P0 kd (σ.1 69 1382) x) → j_at G mX12_findSees 108 [(0, .ref 68), (1, j_i e), (2, j_i od), (3, j_i kd), (4, j_i k)] [] (k_h X n τ) 0 0 (k_Q X Q))  : ∀ (z : Nat) (k : Int) (τ : k_St), 50 - k < (z : Int) → 0 ≤ k → k ≤ σ.1 69 1382 → slf σ τ e → τ.2.1 68 34 ≤ B0 + k → SSg σ τ e od (fun x => A x ∨ LK σ A P0 kd k x) → j_at G mX12_findSees 39 [(0, .ref 68), (1, j_i e), (2, j_i od), (3, j_i kd), (4, j_i k)] [] (k_h X n τ) 0 0 (k_Q X Q) := by
  obtain ⟨hK, hP, hfl, hE, hok⟩ := id hB
  have hM := (KR_rg hK.1 hK.2.1).1.2.2
  have hE1 := hE.1
  have hP09 : -9 ≤ P0 ∧ P0 ≤ 29 := by
    have z := pE_r hE e 0 e0.1 e0.2 (by omega) (by omega)
    rw [show 3 * e + 0 = 3 * e by omega, hP0] at z; exact z
  intro z
  induction z with
  | zero => intro k τ h1 h2 h3; exact absurd h1 (by omega)
  | succ z ih =>
    intro k τ hz k0 kN hf hb hG
    refine a_iload (pc := 39) (i := 4) (by decide +kernel) rfl ?_
    refine a_aload_n (pc := 41) (i := 0) (by decide +kernel) rfl ?_
    refine b_pureV (pc := 42) [] [j_i k] ml_X12_135 (by decide +kernel) rfl rfl (sh_68 hn) rfl rfl (Nat.le_of_ble_eq_true rfl) (j_fitI rfl rfl) (s_dmarksEver hn) ?_
    rw [show τ.1 69 = σ.1 69 from (slf_m hf).1 69 (by omega)]
    show j_at _ _ _ [(0, .ref 68), (1, j_i e), (2, j_i od), (3, j_i kd), (4, j_i k)] [j_i (σ.1 69 1382), j_i k] _ _ _ _
    refine a_icmp_ge (pc := 45) (off := 63) (tgt := 108) (by decide +kernel) (by decide) (by omega) (by omega) (fun c45 => ?_) (fun c45 => ?_)
    · rw [show k = σ.1 69 1382 by omega] at hG
      exact kk τ k hf (by omega) hG
    · refine a_aload_n (pc := 48) (i := 0) (by decide +kernel) rfl ?_
      refine a_iload (pc := 49) (i := 4) (by decide +kernel) rfl ?_
      refine b_callV (pc := 51) (c' := 0) (sl' := 0) [j_i k] [] ml_X12_254 (by decide +kernel) rfl rfl (sh_68 hn) rfl rfl (Nat.le_of_ble_eq_true rfl) (j_fitI rfl rfl) (b_isMark hn (MB_m (slf_m hf) hB) (by omega)) (fun v n' σ' hq => ?_)
      obtain ⟨x, rfl, e1, e2, hx⟩ := hq
      rw [e1, e2]; clear e1 e2
      rcases hx with ⟨rfl, p51⟩ | ⟨rfl, p51⟩
      · show j_at _ _ _ [(0, .ref 68), (1, j_i e), (2, j_i od), (3, j_i kd), (4, j_i k)] [j_i 1] _ _ _ _
        rw [mfr_ms (slf_m hf)] at p51
        refine a_if_eq (pc := 54) (off := 48) (tgt := 102) (by decide +kernel) (by decide) (by omega) (fun c54 => ?_) (fun c54 => ?_)
        · exact absurd c54 (by decide)
        · refine a_aload_n (pc := 57) (i := 0) (by decide +kernel) rfl ?_
          refine a_iload (pc := 58) (i := 4) (by decide +kernel) rfl ?_
          refine b_pureV (pc := 60) [j_i k] [] ml_X12_257 (by decide +kernel) rfl rfl (sh_68 hn) rfl rfl (Nat.le_of_ble_eq_true rfl) (j_fitI rfl rfl) (b_kind hn (MB_m (slf_m hf) hB).1 (by omega) (by rw [(slf_m hf).1 69 (by omega)]; omega)) ?_
          rw [show τ.1 17 = σ.1 17 from (slf_m hf).1 17 (by omega)]
          have q1 := b_rg hB.1 (m := k) (by omega) (by omega)
          show j_at _ _ _ [(0, .ref 68), (1, j_i e), (2, j_i od), (3, j_i kd), (4, j_i k)] [j_i (σ.1 17 k)] _ _ _ _
          refine a_iload_n (pc := 63) (i := 3) (by decide +kernel) rfl ?_
          refine a_icmp_ne (pc := 64) (off := 38) (tgt := 102) (by decide +kernel) (by decide) (by omega) (by omega) (fun c64 => ?_) (fun c64 => ?_)
          · refine a_iinc (pc := 102) (i := 4) (n := 1) (x := k) (lv' := [(0, .ref 68), (1, j_i e), (2, j_i od), (3, j_i kd), (4, j_i (k + 1))]) (by decide +kernel) rfl (Nat.le_of_ble_eq_true rfl) rfl ?_
            refine a_goto (pc := 105) (off := -66) (tgt := 39) (by decide +kernel) (by decide) ?_
            exact ih (k + 1) τ (by omega) (by omega) (by omega) hf (by omega) (SSg_w hG (fun x => LK_n (fun w => by first | exact p51 w.1 | (have := w.2.1; omega) | (have := w.2.2; omega))))
          · refine a_aload_n (pc := 67) (i := 0) (by decide +kernel) rfl ?_
            refine a_iload (pc := 68) (i := 4) (by decide +kernel) rfl ?_
            refine a_iconst (pc := 70) (n := 0) (by decide +kernel) ?_
            refine b_pureV (pc := 71) [j_i k, j_i 0] [] ml_X12_260 (by decide +kernel) rfl rfl (sh_68 hn) rfl rfl (Nat.le_of_ble_eq_true rfl) (j_fitI rfl rfl) (b_head hn (MB_m (slf_m hf) hB).1 (by omega) (by rw [(slf_m hf).1 69 (by omega)]; omega) (by omega)) ?_
            rw [show τ.1 19 = σ.1 19 from (slf_m hf).1 19 (by omega)]
            have q2 := f_head_in (σ.1 19 k) 0
            show j_at _ _ _ [(0, .ref 68), (1, j_i e), (2, j_i od), (3, j_i kd), (4, j_i k)] [j_i (f_head (σ.1 19 k) 0)] _ _ _ _
            refine a_aload_n (pc := 74) (i := 0) (by decide +kernel) rfl ?_
            refine b_getR (pc := 75) (b := 81) fl_X12_51 (by decide +kernel) (sh_68 hn) rfl ?_
            refine a_iconst (pc := 78) (n := 3) (by decide +kernel) ?_
            refine a_iload_n (pc := 79) (i := 1) (by decide +kernel) rfl ?_
            refine a_imul (pc := 80) (by decide +kernel) ?_
            refine b_iaload (pc := 81) (by decide +kernel) (sh_81 hn) (by omega) (by omega) (by omega) ?_
            rw [show τ.1 81 = σ.1 81 from hf.1 81 (by omega) (by omega)]
            rw [show σ.1 81 (3 * e) = P0 from hP0]
            refine a_icmp_ne (pc := 82) (off := 20) (tgt := 102) (by decide +kernel) (by decide) (by omega) (by omega) (fun c82 => ?_) (fun c82 => ?_)
            · refine a_iinc (pc := 102) (i := 4) (n := 1) (x := k) (lv' := [(0, .ref 68), (1, j_i e), (2, j_i od), (3, j_i kd), (4, j_i (k + 1))]) (by decide +kernel) rfl (Nat.le_of_ble_eq_true rfl) rfl ?_
              refine a_goto (pc := 105) (off := -66) (tgt := 39) (by decide +kernel) (by decide) ?_
              exact ih (k + 1) τ (by omega) (by omega) (by omega) hf (by omega) (SSg_w hG (fun x => LK_n (fun w => by first | exact p51 w.1 | (have := w.2.1; omega) | (have := w.2.2; omega))))
            · refine a_aload_n (pc := 85) (i := 0) (by decide +kernel) rfl ?_
              refine a_iload_n (pc := 86) (i := 1) (by decide +kernel) rfl ?_
              refine a_aload_n (pc := 87) (i := 0) (by decide +kernel) rfl ?_
              refine a_iload (pc := 88) (i := 4) (by decide +kernel) rfl ?_
              refine a_iconst (pc := 90) (n := 1) (by decide +kernel) ?_
              refine b_pureV (pc := 91) [j_i k, j_i 1] [j_i e, .ref 68] ml_X12_260 (by decide +kernel) rfl rfl (sh_68 hn) rfl rfl (Nat.le_of_ble_eq_true rfl) (j_fitI rfl rfl) (b_head hn (MB_m (slf_m hf) hB).1 (by omega) (by rw [(slf_m hf).1 69 (by omega)]; omega) (by omega)) ?_
              rw [show τ.1 19 = σ.1 19 from (slf_m hf).1 19 (by omega)]
              have q3 := f_head_in (σ.1 19 k) 1
              show j_at _ _ _ [(0, .ref 68), (1, j_i e), (2, j_i od), (3, j_i kd), (4, j_i k)] [j_i (f_head (σ.1 19 k) 1), j_i e, .ref 68] _ _ _ _
              refine a_iload_n (pc := 94) (i := 3) (by decide +kernel) rfl ?_
              refine a_bipush (pc := 95) (n := 6) (by decide +kernel) rfl ?_
              refine a_isub (pc := 97) (by decide +kernel) ?_
              refine a_iload_n (pc := 98) (i := 2) (by decide +kernel) rfl ?_
              refine b_callV (pc := 99) (c' := 0) (sl' := 0) [j_i e, j_i (f_head (σ.1 19 k) 1), j_i (kd - 6), j_i od] [] ml_X12_352 (by decide +kernel) rfl rfl (sh_68 hn) rfl rfl (Nat.le_of_ble_eq_true rfl) (j_fitI rfl rfl) (e_addSee hn (MB_m (slf_m hf) hB) ho ((SSg_cg (slf_m hf)).mpr hG) (by omega) (by omega) ((mfr_h (slf_m hf) _).mpr (see_live hK p51 (by omega))) (by omega) (fun x w => by rcases w with w | w; exact hA x w; obtain ⟨_, _, _, _, _, w, _⟩ := w; rw [w]; exact Int.le_refl _)) (fun v n' σ' hq => ?_)
              obtain ⟨rfl, rfl, g1, g2', g3, g4⟩ := hq
              obtain ⟨σ4, hσ4⟩ : ∃ z, z = σ' := ⟨_, rfl⟩
              rw [← hσ4] at g1 g2' g3 g4 ⊢
              clear hσ4
              rw [SSg_cg (slf_m hf)] at g4
              show j_at _ _ _ [(0, .ref 68), (1, j_i e), (2, j_i od), (3, j_i kd), (4, j_i k)] [] _ _ _ _
              refine a_iinc (pc := 102) (i := 4) (n := 1) (x := k) (lv' := [(0, .ref 68), (1, j_i e), (2, j_i od), (3, j_i kd), (4, j_i (k + 1))]) (by decide +kernel) rfl (Nat.le_of_ble_eq_true rfl) rfl ?_
              refine a_goto (pc := 105) (off := -66) (tgt := 39) (by decide +kernel) (by decide) ?_
              exact ih (k + 1) σ4 (by omega) (by omega) (by omega) (slf_t hf g1) (by omega) (SSg_w g4 (fun x => LK_s ⟨p51, by omega, by omega⟩))
      · show j_at _ _ _ [(0, .ref 68), (1, j_i e), (2, j_i od), (3, j_i kd), (4, j_i k)] [j_i 0] _ _ _ _
        rw [mfr_ms (slf_m hf)] at p51
        refine a_if_eq (pc := 54) (off := 48) (tgt := 102) (by decide +kernel) (by decide) (by omega) (fun c54 => ?_) (fun c54 => ?_)
        · refine a_iinc (pc := 102) (i := 4) (n := 1) (x := k) (lv' := [(0, .ref 68), (1, j_i e), (2, j_i od), (3, j_i kd), (4, j_i (k + 1))]) (by decide +kernel) rfl (Nat.le_of_ble_eq_true rfl) rfl ?_
          refine a_goto (pc := 105) (off := -66) (tgt := 39) (by decide +kernel) (by decide) ?_
          exact ih (k + 1) τ (by omega) (by omega) (by omega) hf (by omega) (SSg_w hG (fun x => LK_n (fun w => by first | exact p51 w.1 | (have := w.2.1; omega) | (have := w.2.2; omega))))
        · exact absurd c54 (by decide)
def seS (σ : k_St) (P0 : Int) (x : Int × Int) : Prop := LK σ (fun _ => False) P0 6 (σ.1 69 1382) x ∨ LK σ (LK σ (fun _ => False) P0 6 (σ.1 69 1382)) P0 7 (σ.1 69 1382) x
def fsf (σ τ : k_St) (e : Int) : Prop := (∀ c, c ≠ 84 → c ≠ 85 → c ≠ 87 → τ.1 c = σ.1 c) ∧ (∀ c j, ¬ (c = 68 ∧ (j = 34 ∨ (22 ≤ j ∧ j ≤ 24))) → τ.2.1 c j = σ.2.1 c j) ∧ τ.2.2 = σ.2.2 ∧ (∀ j, j ≠ e → τ.1 84 j = σ.1 84 j ∧ τ.1 85 j = σ.1 85 j) ∧ ∀ j, j < 3 * σ.2.1 68 34 → τ.1 87 j = σ.1 87 j
def fs_post (n : Nat) (σ : k_St) (e od p : Int) : k_P := fun v n' τ => v = none ∧ n' = n ∧ fsf σ τ e ∧ τ.1 85 e = σ.2.1 68 34 ∧ ((f_head p 1 ≠ -9 ∧ τ.1 84 e = 0 ∧ τ.2.1 68 34 = σ.2.1 68 34) ∨ (f_head p 1 = -9 ∧ 0 ≤ τ.1 84 e ∧ τ.2.1 68 34 = σ.2.1 68 34 + τ.1 84 e ∧ ∃ F0 : Int → Int × Int, so (sl σ od) F0 (τ.1 84 e) ∧ (∀ x, im F0 (τ.1 84 e) x ↔ seS σ (f_head p 0) x) ∧ ∀ j, 0 ≤ j → j < τ.1 84 e → τ.1 87 (3 * (σ.2.1 68 34 + j)) = (F0 j).1 ∧ (hmr σ e → τ.1 87 (3 * (σ.2.1 68 34 + j) + 1) = 1) ∧ (¬ hmr σ e → τ.1 87 (3 * (σ.2.1 68 34 + j) + 1) = (F0 j).2)))
/-- while the sees of an entry become see-alsos -/
def FLg (ρ τ : k_St) (s k : Int) : Prop := (∀ c, c ≠ 87 → τ.1 c = ρ.1 c) ∧ τ.2 = ρ.2 ∧ (∀ x, x < 3 * s → τ.1 87 x = ρ.1 87 x) ∧ ∀ j, 0 ≤ j → τ.1 87 (3 * (s + j)) = ρ.1 87 (3 * (s + j)) ∧ (j < k → τ.1 87 (3 * (s + j) + 1) = 1) ∧ (k ≤ j → τ.1 87 (3 * (s + j) + 1) = ρ.1 87 (3 * (s + j) + 1))
theorem FLg_s {ρ τ τ' : k_St} {s k : Int} (k0 : 0 ≤ k) (h : FLg ρ τ s k) (e : τ' = k_sA τ 87 (j_up (τ.1 87) (3 * (s + k) + 1) 1)) : FLg ρ τ' s (k + 1) := by
  obtain ⟨h1, h2, h3, h4⟩ := h
  have f : τ'.1 87 = j_up (τ.1 87) (3 * (s + k) + 1) 1 := by rw [e, k_AA]
  refine ⟨fun c hc => by rw [e, k_AN hc]; exact h1 c hc, by rw [e]; exact h2, fun x hx => by rw [f, j_upN (by omega)]; exact h3 x hx, fun j j0 => ⟨by rw [f, j_upN (by omega)]; exact (h4 j j0).1, fun q => ?_, fun q => by rw [f, j_upN (by omega)]; exact (h4 j j0).2.2 (by omega)⟩⟩
  rw [f]
  by_cases c : j = k
  · rw [c, j_upS]
  · rw [j_upN (by omega)]; exact (h4 j j0).2.1 (by omega)
set_option maxHeartbeats 4000000 in
theorem l_fs116 {G : j_G} {X : k_X} {n : Nat} {σ : k_St} (hn : 101 ≤ n) {pe : Int → Int} (hE : pE σ pe) {e od : Int} (e0 : 0 ≤ e ∧ e < σ.2.1 68 25) (ho : od = 0 ∨ od = 1) (h82 : 0 ≤ σ.1 82 e ∧ σ.1 82 e ≤ 1000) (h85 : 0 ≤ σ.1 85 e ∧ 0 ≤ σ.1 84 e ∧ σ.1 85 e + σ.1 84 e ≤ 160) : ∀ (z : Nat) (k : Int) (τ : k_St), σ.1 84 e - k < (z : Int) → 0 ≤ k → k ≤ σ.1 84 e → FLg σ τ (σ.1 85 e) k → (k = 0 ∨ hmr σ e) → j_at G mX12_findSees 116 [(0, .ref 68), (1, j_i e), (2, j_i od), (3, j_i k)] [] (k_h X n τ) 0 0 (k_Q X (fun v n' τ => v = none ∧ n' = n ∧ ∃ k, FLg σ τ (σ.1 85 e) k ∧ ((k = σ.1 84 e ∧ (k = 0 ∨ hmr σ e)) ∨ (k = 0 ∧ ¬ hmr σ e)))) := by
  have hE1 := hE.1
  intro z
  induction z with
  | zero => intro k τ h1 h2 h3; exact absurd h1 (by omega)
  | succ z ih =>
    intro k τ hz k0 kN hL hk
    refine a_iload_n (pc := 116) (i := 3) (by decide +kernel) rfl ?_
    refine a_aload_n (pc := 117) (i := 0) (by decide +kernel) rfl ?_
    refine b_getR (pc := 118) (b := 84) fl_X12_60 (by decide +kernel) (sh_68 hn) rfl ?_
    refine a_iload_n (pc := 121) (i := 1) (by decide +kernel) rfl ?_
    refine b_iaload (pc := 122) (by decide +kernel) (sh_84 hn) (by omega) (by omega) (by omega) ?_
    rw [show τ.1 84 = σ.1 84 from hL.1 84 (by omega)]
    refine a_icmp_ge (pc := 123) (off := 35) (tgt := 158) (by decide +kernel) (by decide) (by omega) (by omega) (fun c123 => ?_) (fun c123 => ?_)
    · refine a_return (pc := 158) (by decide +kernel) rfl ?_
      refine k_ret ?_
      refine ⟨rfl, rfl, k, hL, ?_⟩
      first | exact Or.inl ⟨by omega, hk⟩ | (rcases hk with w | w; exact Or.inr ⟨w, p128⟩; exact absurd w p128)
    · refine a_aload_n (pc := 126) (i := 0) (by decide +kernel) rfl ?_
      refine a_iload_n (pc := 127) (i := 1) (by decide +kernel) rfl ?_
      refine b_callV (pc := 128) (c' := 0) (sl' := 0) [j_i e] [] ml_X12_356 (by decide +kernel) rfl rfl (sh_68 hn) rfl rfl (Nat.le_of_ble_eq_true rfl) (j_fitI rfl rfl) (e_hasMore (pe := pe) hn (by unfold pE; rw [hL.1 81 (by omega), hL.2.1]; exact hE) (by rw [hL.2.1]; exact e0) (by rw [hL.1 82 (by omega)]; exact h82)) (fun v n' σ' hq => ?_)
      obtain ⟨x, rfl, e1, e2, hx⟩ := hq
      rw [e1, e2]; clear e1 e2
      rcases hx with ⟨rfl, p128⟩ | ⟨rfl, p128⟩
      · show j_at _ _ _ [(0, .ref 68), (1, j_i e), (2, j_i od), (3, j_i k)] [j_i 1] _ _ _ _
        rw [show hmr τ e = hmr σ e by unfold hmr; rw [hL.1 82 (by omega), hL.1 81 (by omega), hL.2.1]] at p128
        refine a_if_eq (pc := 131) (off := 27) (tgt := 158) (by decide +kernel) (by decide) (by omega) (fun c131 => ?_) (fun c131 => ?_)
        · exact absurd c131 (by decide)
        · refine a_aload_n (pc := 134) (i := 0) (by decide +kernel) rfl ?_
          refine b_getR (pc := 135) (b := 87) fl_X12_69 (by decide +kernel) (sh_68 hn) rfl ?_
          refine a_iconst (pc := 138) (n := 3) (by decide +kernel) ?_
          refine a_aload_n (pc := 139) (i := 0) (by decide +kernel) rfl ?_
          refine b_getR (pc := 140) (b := 85) fl_X12_63 (by decide +kernel) (sh_68 hn) rfl ?_
          refine a_iload_n (pc := 143) (i := 1) (by decide +kernel) rfl ?_
          refine b_iaload (pc := 144) (by decide +kernel) (sh_85 hn) (by omega) (by omega) (by omega) ?_
          rw [show τ.1 85 = σ.1 85 from hL.1 85 (by omega)]
          refine a_iload_n (pc := 145) (i := 3) (by decide +kernel) rfl ?_
          refine a_iadd (pc := 146) (by decide +kernel) ?_
          refine a_imul (pc := 147) (by decide +kernel) ?_
          refine a_iconst (pc := 148) (n := 1) (by decide +kernel) ?_
          refine a_iadd (pc := 149) (by decide +kernel) ?_
          refine a_iconst (pc := 150) (n := 1) (by decide +kernel) ?_
          refine b_iastore (pc := 151) (by decide +kernel) (sh_87 hn) (by omega) (by omega) (by omega) ?_
          obtain ⟨σ1, hσ1⟩ : ∃ z, z = k_sA τ 87 (j_up (τ.1 87) ((3 * ((σ.1 85 e) + k)) + 1) 1) := ⟨_, rfl⟩
          rw [← hσ1]
          refine a_iinc (pc := 152) (i := 3) (n := 1) (x := k) (lv' := [(0, .ref 68), (1, j_i e), (2, j_i od), (3, j_i (k + 1))]) (by decide +kernel) rfl (Nat.le_of_ble_eq_true rfl) rfl ?_
          refine a_goto (pc := 155) (off := -39) (tgt := 116) (by decide +kernel) (by decide) ?_
          exact ih (k + 1) σ1 (by omega) (by omega) (by omega) (FLg_s k0 hL hσ1) (Or.inr p128)
      · show j_at _ _ _ [(0, .ref 68), (1, j_i e), (2, j_i od), (3, j_i k)] [j_i 0] _ _ _ _
        rw [show hmr τ e = hmr σ e by unfold hmr; rw [hL.1 82 (by omega), hL.1 81 (by omega), hL.2.1]] at p128
        refine a_if_eq (pc := 131) (off := 27) (tgt := 158) (by decide +kernel) (by decide) (by omega) (fun c131 => ?_) (fun c131 => ?_)
        · refine a_return (pc := 158) (by decide +kernel) rfl ?_
          refine k_ret ?_
          refine ⟨rfl, rfl, k, hL, ?_⟩
          first | exact Or.inl ⟨by omega, hk⟩ | (rcases hk with w | w; exact Or.inr ⟨w, p128⟩; exact absurd w p128)
        · exact absurd c131 (by decide)
set_option maxHeartbeats 4000000 in
theorem e_findSees {G : j_G} {X : k_X} {n : Nat} {σ : k_St} (hn : 101 ≤ n) {pe : Int → Int} (hB : MB σ pe) {e od : Int} (e0 : 0 ≤ e ∧ e < σ.2.1 68 25) (ho : od = 0 ∨ od = 1) (hS0 : 0 ≤ σ.2.1 68 34 ∧ σ.2.1 68 34 ≤ 50) (h82 : 0 ≤ σ.1 82 e ∧ σ.1 82 e ≤ 1000) : k_run G X mX12_findSees [.ref 68, j_i e, j_i od] n σ 0 0 (fs_post n σ e od (pe e)) := by
  obtain ⟨hK, hP, hfl, hE, hok⟩ := id hB
  have hM := (KR_rg hK.1 hK.2.1).1.2.2
  have hE1 := hE.1
  refine k_enter (by decide +kernel) (Nat.le_of_ble_eq_true rfl) ?_
  show j_at _ _ _ [(0, .ref 68), (1, j_i e), (2, j_i od)] [] _ _ _ _
  refine a_aload_n (pc := 0) (i := 0) (by decide +kernel) rfl ?_
  refine b_getR (pc := 1) (b := 85) fl_X12_63 (by decide +kernel) (sh_68 hn) rfl ?_
  refine a_iload_n (pc := 4) (i := 1) (by decide +kernel) rfl ?_
  refine a_aload_n (pc := 5) (i := 0) (by decide +kernel) rfl ?_
  refine b_getI (pc := 6) fl_X12_343 (by decide +kernel) (sh_68 hn) rfl ?_
  refine b_iastore (pc := 9) (by decide +kernel) (sh_85 hn) (by omega) (by omega) (by omega) ?_
  obtain ⟨σ1, hσ1⟩ : ∃ z, z = k_sA σ 85 (j_up (σ.1 85) e (σ.2.1 68 34)) := ⟨_, rfl⟩
  rw [← hσ1]
  refine a_aload_n (pc := 10) (i := 0) (by decide +kernel) rfl ?_
  refine b_getR (pc := 11) (b := 84) fl_X12_60 (by decide +kernel) (sh_68 hn) rfl ?_
  refine a_iload_n (pc := 14) (i := 1) (by decide +kernel) rfl ?_
  refine a_iconst (pc := 15) (n := 0) (by decide +kernel) ?_
  refine b_iastore (pc := 16) (by decide +kernel) (sh_84 hn) (by omega) (by omega) (by omega) ?_
  obtain ⟨σ2, hσ2⟩ : ∃ z, z = k_sA σ1 84 (j_up (σ1.1 84) e 0) := ⟨_, rfl⟩
  rw [← hσ2]
  refine a_aload_n (pc := 17) (i := 0) (by decide +kernel) rfl ?_
  refine a_iload_n (pc := 18) (i := 1) (by decide +kernel) rfl ?_
  refine b_pureV (pc := 19) [j_i e] [] ml_X12_346 (by decide +kernel) rfl rfl (sh_68 hn) rfl rfl (Nat.le_of_ble_eq_true rfl) (j_fitI rfl rfl) (s_ddeepOf hn (by rw [(mfr_A (by omega) (mfr_A (by omega) mfr_r hσ1) hσ2).2.1 68 25 (by omega)]; omega) (pE_r (MB_m (mfr_A (by omega) (mfr_A (by omega) mfr_r hσ1) hσ2) hB).2.2.2.1) (by rw [(mfr_A (by omega) (mfr_A (by omega) mfr_r hσ1) hσ2).2.1 68 25 (by omega)]; exact e0)) ?_
  rw [show σ2.1 81 = σ.1 81 from (mfr_A (by omega) (mfr_A (by omega) mfr_r hσ1) hσ2).1 81 (by omega)]
  have qd := d_dp_in (σ.1 81) e
  show j_at _ _ _ [(0, .ref 68), (1, j_i e), (2, j_i od)] [j_i (d_dp (σ.1 81) e)] _ _ _ _
  refine a_iconst (pc := 22) (n := 1) (by decide +kernel) ?_
  refine a_icmp_le (pc := 23) (off := 4) (tgt := 27) (by decide +kernel) (by decide) (by omega) (by omega) (fun c23 => ?_) (fun c23 => ?_)
  · refine a_bipush (pc := 27) (n := 6) (by decide +kernel) rfl ?_
    refine a_istore_n (pc := 29) (i := 3) (lv' := [(0, .ref 68), (1, j_i e), (2, j_i od), (3, j_i 6)]) (by decide +kernel) (Nat.le_of_ble_eq_true rfl) rfl ?_
    refine a_iload_n (pc := 30) (i := 3) (by decide +kernel) rfl ?_
    refine a_bipush (pc := 31) (n := 7) (by decide +kernel) rfl ?_
    refine a_icmp_gt (pc := 33) (off := 81) (tgt := 114) (by decide +kernel) (by decide) (by omega) (by omega) (fun c33 => ?_) (fun c33 => ?_)
    · exact absurd c33 (by decide)
    · refine a_iconst (pc := 36) (n := 0) (by decide +kernel) ?_
      refine a_istore (pc := 37) (i := 4) (lv' := [(0, .ref 68), (1, j_i e), (2, j_i od), (3, j_i 6), (4, j_i 0)]) (by decide +kernel) (Nat.le_of_ble_eq_true rfl) rfl ?_
      have m2 : mfr σ σ2 := (mfr_A (by omega) (mfr_A (by omega) mfr_r hσ1) hσ2)
      have hP0 : σ2.1 81 (3 * e) = f_head (pe e) 0 := by
        have z := hE.2 e 0 e0.1 e0.2 (by omega) (by omega)
        rw [show 3 * e + 0 = 3 * e by omega] at z
        rw [m2.1 81 (by omega)]; exact z
      have hp1 : f_head (pe e) 1 = -9 := by
        have z := hE.2 e 1 e0.1 e0.2 (by omega) (by omega)
        unfold d_dp at c23
        by_cases w : σ.1 81 (3 * e + 1) = -9
        · rw [← z]; exact w
        · rw [if_neg w] at c23; split at c23 <;> omega
      have n34 : σ2.2.1 68 34 = σ.2.1 68 34 := by rw [hσ2, hσ1]; rfl
      have n85 : σ2.1 85 = j_up (σ.1 85) e (σ.2.1 68 34) := by rw [hσ2, k_AN (by omega), hσ1, k_AA]
      have n84 : σ2.1 84 = j_up (σ.1 84) e 0 := by rw [hσ2, k_AA, hσ1, k_AN (by omega)]
      have n87 : σ2.1 87 = σ.1 87 := by rw [hσ2, k_AN (by omega), hσ1, k_AN (by omega)]
      have hG0 : SSg σ2 σ2 e od (fun x => False ∨ LK σ2 (fun _ => False) (f_head (pe e) 0) 6 0 x) := ⟨⟨by rw [n85, j_upS]; exact hS0.1, by rw [n84, j_upS]; omega, by rw [n85, n84, j_upS, j_upS, n34]; omega⟩, fun x w => by rcases w with w | ⟨m, a, b, _⟩; exact w.elim; have := b.1; omega, fun i j i0 i1 j1 => by rw [n84, j_upS] at j1; omega, fun x => ⟨fun ⟨i, i0, i1, _⟩ => by rw [n84, j_upS] at i1; omega, fun w => by rcases w with w | ⟨m, a, b, _⟩; exact w.elim; have := b.1; omega⟩⟩
      refine l_fs39 (σ := σ2) (A := fun _ => False) (B0 := 50) hn (MB_m m2 hB) (by rw [m2.2.1 68 25 (by omega)]; exact e0) ho hP0 (Or.inl rfl) (by omega) (fun x w => w.elim) (fun τ1 k1 hf1 hb1 hG1 => ?_) 52 0 σ2 (by omega) (by omega) (by rw [m2.1 69 (by omega)]; exact hM.1) slf_r (by omega) hG0
      refine a_iinc (pc := 108) (i := 3) (n := 1) (x := 6) (lv' := [(0, .ref 68), (1, j_i e), (2, j_i od), (3, j_i 7), (4, j_i k1)]) (by decide +kernel) rfl (Nat.le_of_ble_eq_true rfl) rfl ?_
      refine a_goto (pc := 111) (off := -81) (tgt := 30) (by decide +kernel) (by decide) ?_
      refine a_iload_n (pc := 30) (i := 3) (by decide +kernel) rfl ?_
      refine a_bipush (pc := 31) (n := 7) (by decide +kernel) rfl ?_
      refine a_icmp_gt (pc := 33) (off := 81) (tgt := 114) (by decide +kernel) (by decide) (by omega) (by omega) (fun c33 => ?_) (fun c33 => ?_)
      · exact absurd c33 (by decide)
      · refine a_iconst (pc := 36) (n := 0) (by decide +kernel) ?_
        refine a_istore (pc := 37) (i := 4) (lv' := [(0, .ref 68), (1, j_i e), (2, j_i od), (3, j_i 7), (4, j_i 0)]) (by decide +kernel) (Nat.le_of_ble_eq_true rfl) rfl ?_
        refine a_sub (pc := 39) (lv' := [(0, .ref 68), (1, j_i e), (2, j_i od), (3, j_i 7), (4, j_i 0)]) (fun q hq => by simp only [List.mem_cons, List.not_mem_nil, or_false] at hq ⊢; rcases hq with rfl | rfl | rfl | rfl | rfl <;> simp) ?_
        refine l_fs39 (σ := σ2) (A := LK σ2 (fun _ => False) (f_head (pe e) 0) 6 (σ2.1 69 1382)) (B0 := 100) hn (MB_m m2 hB) (by rw [m2.2.1 68 25 (by omega)]; exact e0) ho hP0 (Or.inr rfl) (by omega) (fun x w => by obtain ⟨_, _, _, _, _, w, _⟩ := w; rw [w]; show (6 : Int) - 6 ≤ 7 - 6; omega) (fun τ2 k2 hf2 hb2 hG2 => ?_) 52 0 τ1 (by omega) (by omega) (by rw [m2.1 69 (by omega)]; exact hM.1) hf1 (by omega) (SSg_w hG1 (fun x => ⟨fun w => by rcases w with w | w; exact w.elim; exact Or.inl w, fun w => by rcases w with w | ⟨m, a, b, _⟩; exact Or.inr w; have := b.1; omega⟩))
        refine a_iinc (pc := 108) (i := 3) (n := 1) (x := 7) (lv' := [(0, .ref 68), (1, j_i e), (2, j_i od), (3, j_i 8), (4, j_i k2)]) (by decide +kernel) rfl (Nat.le_of_ble_eq_true rfl) rfl ?_
        refine a_goto (pc := 111) (off := -81) (tgt := 30) (by decide +kernel) (by decide) ?_
        refine a_iload_n (pc := 30) (i := 3) (by decide +kernel) rfl ?_
        refine a_bipush (pc := 31) (n := 7) (by decide +kernel) rfl ?_
        refine a_icmp_gt (pc := 33) (off := 81) (tgt := 114) (by decide +kernel) (by decide) (by omega) (by omega) (fun c33 => ?_) (fun c33 => ?_)
        · refine a_iconst (pc := 114) (n := 0) (by decide +kernel) ?_
          refine a_istore_n (pc := 115) (i := 3) (lv' := [(0, .ref 68), (1, j_i e), (2, j_i od), (3, j_i 0), (4, j_i k2)]) (by decide +kernel) (Nat.le_of_ble_eq_true rfl) rfl ?_
          have hF2 := hf2
          have e85 : τ2.1 85 e = σ.2.1 68 34 := by rw [hf2.1 85 (by omega) (by omega), n85, j_upS]
          have hG3 : SSg σ2 τ2 e od (seS σ2 (f_head (pe e) 0)) := SSg_w hG2 (fun x => by unfold seS; exact Iff.rfl)
          obtain ⟨y1, y2, y3, y4⟩ := id hG3
          have e82 : τ2.1 82 = σ.1 82 := (hf2.1 82 (by omega) (by omega)).trans (by rw [hσ2, k_AN (by omega), hσ1, k_AN (by omega)])
          have m5 : mfr σ τ2 := mfr_t m2 (slf_m hf2)
          refine a_sub (pc := 116) (lv' := [(0, .ref 68), (1, j_i e), (2, j_i od), (3, j_i 0)]) (fun q hq => by simp only [List.mem_cons, List.not_mem_nil, or_false] at hq ⊢; rcases hq with rfl | rfl | rfl | rfl <;> simp) ?_
          refine k_mono (fun v' n' ρ hq => ?_) (l_fs116 (σ := τ2) (pe := pe) hn (MB_m m5 hB).2.2.2.1 (by rw [m5.2.1 68 25 (by omega)]; exact e0) ho (by rw [e82]; exact h82) (by omega) ((τ2.1 84 e).toNat + 1) 0 τ2 (by omega) (by omega) (by omega) ⟨fun _ _ => rfl, rfl, fun _ _ => rfl, fun j j0 => ⟨rfl, fun q => absurd q (by omega), fun _ => rfl⟩⟩ (Or.inl rfl))
          obtain ⟨w1, w2, k9, w3, w4⟩ := hq
          have hhm : hmr τ2 e ↔ hmr σ e := by unfold hmr; rw [e82, m5.1 81 (by omega), m5.2.1 68 25 (by omega)]
          have x84 : ρ.1 84 = τ2.1 84 := w3.1 84 (by omega)
          have x85 : ρ.1 85 = τ2.1 85 := w3.1 85 (by omega)
          rw [e85] at y1 w3
          refine ⟨w1, w2, ⟨fun c q1 q2 q3 => by rw [w3.1 c q3, hf2.1 c q1 q3, hσ2, k_AN q1, hσ1, k_AN q2], fun c j q => by rw [w3.2.1, hf2.2.1 c j q, hσ2, hσ1]; rfl, by rw [w3.2.1, hf2.2.2.1, hσ2, hσ1]; rfl, fun j hj => ⟨by rw [x84, hf2.2.2.2.1 j hj, n84, j_upN hj], by rw [x85, hf2.1 85 (by omega) (by omega), n85, j_upN hj]⟩, fun j hj => by rw [w3.2.2.1 j hj, hf2.2.2.2.2 j (by rw [n85, j_upS]; exact hj), n87]⟩, by rw [x85]; exact e85, Or.inr ⟨hp1, by rw [x84]; omega, by rw [w3.2.1, x84]; omega, fun j => g2 (τ2.1 87) (σ.2.1 68 34 + j), ?_, fun x => ?_, fun j j0 j1 => ?_⟩⟩
          · rw [x84]
            rw [e85] at y3
            have e9 : sl σ2 od = sl σ od := by funext x y; unfold sl; rw [mfr_o m2]
            rw [e9] at y3; exact y3
          · rw [x84]
            have z := y4 x
            rw [e85] at z
            rw [z]
            unfold seS LK
            rw [m2.1 69 (by omega), m2.1 17 (by omega), m2.1 19 (by omega)]
            simp only [mfr_ms m2]
          · rw [x84] at j1
            have z := w3.2.2.2 j j0
            refine ⟨z.1, fun q => ?_, fun q => ?_⟩
            · rcases w4 with ⟨v1, v2⟩ | ⟨v1, v2⟩
              · exact z.2.1 (by omega)
              · exact absurd (hhm.mpr q) v2
            · rcases w4 with ⟨v1, v2⟩ | ⟨v1, v2⟩
              · rcases v2 with v2 | v2
                · omega
                · exact absurd (hhm.mp v2) q
              · exact z.2.2 (by omega)
        · exact absurd c33 (by decide)
  · refine a_return (pc := 26) (by decide +kernel) rfl ?_
    refine k_ret ?_
    have hp1 : f_head (pe e) 1 ≠ -9 := by
      have z := hE.2 e 1 e0.1 e0.2 (by omega) (by omega)
      intro w
      unfold d_dp at c23
      rw [z, w, if_pos rfl] at c23; omega
    exact ⟨rfl, rfl, ⟨fun c q1 q2 q3 => by rw [hσ2, k_AN q1, hσ1, k_AN q2], fun c j q => by rw [hσ2, hσ1]; rfl, by rw [hσ2, hσ1]; rfl, fun j hj => ⟨by rw [hσ2, k_AA, j_upN hj, hσ1, k_AN (by omega)], by rw [hσ2, k_AN (by omega), hσ1, k_AA, j_upN hj]⟩, fun j hj => by rw [hσ2, k_AN (by omega), hσ1, k_AN (by omega)]⟩, by rw [hσ2, k_AN (by omega), hσ1, k_AA, j_upS], Or.inl ⟨hp1, by rw [hσ2, k_AA, j_upS], by rw [hσ2, hσ1]; rfl⟩⟩
