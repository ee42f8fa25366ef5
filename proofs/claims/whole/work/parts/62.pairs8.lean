/-- the first below m that is so, or -9 -/
def fst_of (P : Int → Prop) (m r : Int) : Prop := (r = -9 ∧ ∀ e, 0 ≤ e → e < m → ¬ P e) ∨ (0 ≤ r ∧ r < m ∧ P r ∧ ∀ e, 0 ≤ e → e < r → ¬ P e)
theorem fst_u {P P' : Int → Prop} {m r q : Int} (hP : ∀ e, 0 ≤ e → e < m → (P e ↔ P' e)) (h : fst_of P m r) (g : fst_of P' m q) : r = q := by
  rcases h with ⟨h1, h2⟩ | ⟨h1, h2, h3, h4⟩ <;> rcases g with ⟨g1, g2⟩ | ⟨g1, g2, g3, g4⟩
  · omega
  · exact absurd ((hP q g1 g2).mpr g3) (h2 q g1 g2)
  · exact absurd ((hP r h1 h2).mp h3) (g2 r h1 h2)
  · rcases Int.lt_trichotomy r q with k | k | k
    · exact absurd ((hP r h1 h2).mp h3) (g4 r h1 k)
    · exact k
    · exact absurd ((hP q g1 g2).mpr g3) (h4 q g1 k)
def fs_P (σ : k_St) (e : Int) : Prop := f_hin (σ.1 (ix σ + 1) e) = 1 ∧ r_alike σ (ix σ + 7) 30 (f_head (σ.1 (ix σ + 1) e) 0) 30 1 0
def fs_R (σ : k_St) (r : Int) : Prop := (σ.1 32 0 = 0 ∧ r = -3) ∨ (σ.1 32 0 ≠ 0 ∧ fst_of (fs_P σ) (σ.2.1 (ix σ) 0) r)
/-- as the Model tells it -/
def fd_P (σ : k_St) (e : Int) : Prop := d_dp (σ.1 81) e = 1 ∧ σ.2.1 68 7 ≤ σ.1 96 (σ.1 81 (3 * e)) ∧ ∀ k, 0 ≤ k → k < σ.2.1 68 7 → σ.1 97 (16 * σ.1 81 (3 * e) + k) = f_fold (σ.1 71 k)
set_option maxHeartbeats 4000000 in
theorem l_cfirst {G : j_G} {X : k_X} {n : Nat} {σ : k_St} (hn : 101 ≤ n) {ia : Nat} (hia : σ.2.2 5 8 = some ia) (hix : ix σ = ia) (hA : i_at X n ia) (wia : i_wf σ ia) (ria : r_wf σ (ia + 7) 30) (hwn : r_wf σ 30 1) (hnz : σ.1 32 0 ≠ 0)  : ∀ (m : Nat) (k : Int), 150 - k < (m : Int) → 0 ≤ k → k ≤ σ.2.1 ia 0 → (∀ e, 0 ≤ e → e < k → ¬ fs_P σ e) → j_at G mX11_first 16 [(0, .ref 5), (1, j_i k)] [] (k_h X n σ) 0 0 (k_Q X (fun v n' σ' => ∃ r : Int, v = some (j_i r) ∧ n' = n ∧ σ' = σ ∧ fs_R σ r)) := by
  intro m
  induction m with
  | zero => intro k h1 h2 h3; have := wia.1; exact absurd h1 (by omega)
  | succ m ih =>
    intro k hm h0 hN hI
    obtain ⟨hs99, hs0, hs1, hs2, hs3, hs4, hs5, hs6, hs7⟩ := id hA
    have hca := wia.1
    refine a_iload_n (pc := 16) (i := 1) (by decide +kernel) rfl ?_
    refine a_aload_n (pc := 17) (i := 0) (by decide +kernel) rfl ?_
    refine b_getM (pc := 18) (b := ia) fl_X11_68 (by decide +kernel) (sh_5 hn) rfl hia ?_
    refine b_getI (pc := 21) fl_X11_285 (by decide +kernel) hs0 rfl ?_
    refine a_icmp_ge (pc := 24) (off := 60) (tgt := 84) (by decide +kernel) (by decide) (by omega) (by omega) (fun c24 => ?_) (fun c24 => ?_)
    · refine a_bipush (pc := 84) (n := (-9)) (by decide +kernel) rfl ?_
      refine a_ireturn (pc := 86) (by decide +kernel) rfl ?_
      refine k_ret ?_
      exact ⟨_, rfl, rfl, rfl, Or.inr ⟨hnz, Or.inl ⟨rfl, fun e e0 e1 => hI e e0 (by rw [hix] at e1; omega)⟩⟩⟩
    · have hv1 := (wia.2.2.2.2 k).1
      refine a_aload_n (pc := 27) (i := 0) (by decide +kernel) rfl ?_
      refine b_getM (pc := 28) (b := ia) fl_X11_68 (by decide +kernel) (sh_5 hn) rfl hia ?_
      refine b_getR (pc := 31) (b := ia + 1) fl_X11_287 (by decide +kernel) hs0 rfl ?_
      refine a_iload_n (pc := 34) (i := 1) (by decide +kernel) rfl ?_
      refine b_iaload (pc := 35) (by decide +kernel) hs1 (by omega) (by omega) (by omega) ?_
      refine a_iconst (pc := 36) (n := 0) (by decide +kernel) ?_
      refine b_pureS (pc := 37) [j_i (σ.1 (ia + 1) k), j_i 0] [] ml_X11_290 (by decide +kernel) rfl rfl (Nat.le_of_ble_eq_true rfl) (j_fitI rfl rfl) (s_headOf (by omega) (by omega)) ?_
      have qh1 := f_head_in (σ.1 (ia + 1) k) 0
      show j_at _ _ _ [(0, .ref 5), (1, j_i k)] [j_i (f_head (σ.1 (ia + 1) k) 0)] _ _ _ _
      refine a_istore_n (pc := 40) (i := 2) (lv' := [(0, .ref 5), (1, j_i k), (2, j_i (f_head (σ.1 (ia + 1) k) 0))]) (by decide +kernel) (Nat.le_of_ble_eq_true rfl) rfl ?_
      refine a_aload_n (pc := 41) (i := 0) (by decide +kernel) rfl ?_
      refine b_getM (pc := 42) (b := ia) fl_X11_68 (by decide +kernel) (sh_5 hn) rfl hia ?_
      refine b_getR (pc := 45) (b := ia + 1) fl_X11_287 (by decide +kernel) hs0 rfl ?_
      refine a_iload_n (pc := 48) (i := 1) (by decide +kernel) rfl ?_
      refine b_iaload (pc := 49) (by decide +kernel) hs1 (by omega) (by omega) (by omega) ?_
      refine b_pureS (pc := 50) [j_i (σ.1 (ia + 1) k)] [] ml_X11_302 (by decide +kernel) rfl rfl (Nat.le_of_ble_eq_true rfl) (j_fitI rfl rfl) (s_headsIn (by omega)) ?_
      have qi := f_hin_in (σ.1 (ia + 1) k)
      show j_at _ _ _ [(0, .ref 5), (1, j_i k), (2, j_i (f_head (σ.1 (ia + 1) k) 0))] [j_i (f_hin (σ.1 (ia + 1) k))] _ _ _ _
      refine a_iconst (pc := 53) (n := 1) (by decide +kernel) ?_
      refine a_icmp_ne (pc := 54) (off := 24) (tgt := 78) (by decide +kernel) (by decide) (by omega) (by omega) (fun c54 => ?_) (fun c54 => ?_)
      · refine a_iinc (pc := 78) (i := 1) (n := 1) (x := k) (lv' := [(0, .ref 5), (1, j_i (k + 1)), (2, j_i (f_head (σ.1 (ia + 1) k) 0))]) (by decide +kernel) rfl (Nat.le_of_ble_eq_true rfl) rfl ?_
        refine a_goto (pc := 81) (off := -65) (tgt := 16) (by decide +kernel) (by decide) ?_
        exact a_sub (lv' := [(0, .ref 5), (1, j_i (k + 1))]) (fun q hq => by simp only [List.mem_cons, List.not_mem_nil, or_false] at hq ⊢; rcases hq with rfl | rfl <;> simp) (ih (k + 1) (by omega) (by omega) (by omega) (fun e e0 e1 => by by_cases g : e = k; (rw [g]; unfold fs_P; rw [hix]; first | exact fun q => c54 q.1 | exact fun q => p70 q.2); exact hI e e0 (by omega)))
      · refine a_aload_n (pc := 57) (i := 0) (by decide +kernel) rfl ?_
        refine b_getM (pc := 58) (b := ia) fl_X11_68 (by decide +kernel) (sh_5 hn) rfl hia ?_
        refine b_getR (pc := 61) (b := ia + 7) fl_X11_324 (by decide +kernel) hs0 rfl ?_
        refine a_iload_n (pc := 64) (i := 2) (by decide +kernel) rfl ?_
        refine a_aload_n (pc := 65) (i := 0) (by decide +kernel) rfl ?_
        refine b_getR (pc := 66) (b := 30) fl_X11_45 (by decide +kernel) (sh_5 hn) rfl ?_
        refine a_iconst (pc := 69) (n := 0) (by decide +kernel) ?_
        refine b_callV (pc := 70) (c' := 0) (sl' := 0) [j_i (f_head (σ.1 (ia + 1) k) 0), .ref 30, j_i 0] [] ml_X11_326 (by decide +kernel) rfl rfl hs7.2.2.1 rfl rfl (Nat.le_of_ble_eq_true rfl) (j_fitI rfl rfl) (s_beginsAlike hs7 ria (by omega) (rA_30 hn) hwn (by omega)) (fun v n' σ' hq => ?_)
        obtain ⟨x, rfl, e1, e2, hx⟩ := hq
        rw [e1, e2]; clear e1 e2
        rcases hx with ⟨rfl, p70⟩ | ⟨rfl, p70⟩
        · show j_at _ _ _ [(0, .ref 5), (1, j_i k), (2, j_i (f_head (σ.1 (ia + 1) k) 0))] [j_i 1] _ _ _ _
          refine a_if_eq (pc := 73) (off := 5) (tgt := 78) (by decide +kernel) (by decide) (by omega) (fun c73 => ?_) (fun c73 => ?_)
          · exact absurd c73 (by decide)
          · refine a_iload_n (pc := 76) (i := 1) (by decide +kernel) rfl ?_
            refine a_ireturn (pc := 77) (by decide +kernel) rfl ?_
            refine k_ret ?_
            exact ⟨_, rfl, rfl, rfl, Or.inr ⟨hnz, Or.inr ⟨h0, by rw [hix]; omega, by unfold fs_P; rw [hix]; exact ⟨c54, p70⟩, hI⟩⟩⟩
        · show j_at _ _ _ [(0, .ref 5), (1, j_i k), (2, j_i (f_head (σ.1 (ia + 1) k) 0))] [j_i 0] _ _ _ _
          refine a_if_eq (pc := 73) (off := 5) (tgt := 78) (by decide +kernel) (by decide) (by omega) (fun c73 => ?_) (fun c73 => ?_)
          · refine a_iinc (pc := 78) (i := 1) (n := 1) (x := k) (lv' := [(0, .ref 5), (1, j_i (k + 1)), (2, j_i (f_head (σ.1 (ia + 1) k) 0))]) (by decide +kernel) rfl (Nat.le_of_ble_eq_true rfl) rfl ?_
            refine a_goto (pc := 81) (off := -65) (tgt := 16) (by decide +kernel) (by decide) ?_
            exact a_sub (lv' := [(0, .ref 5), (1, j_i (k + 1))]) (fun q hq => by simp only [List.mem_cons, List.not_mem_nil, or_false] at hq ⊢; rcases hq with rfl | rfl <;> simp) (ih (k + 1) (by omega) (by omega) (by omega) (fun e e0 e1 => by by_cases g : e = k; (rw [g]; unfold fs_P; rw [hix]; first | exact fun q => c54 q.1 | exact fun q => p70 q.2); exact hI e e0 (by omega)))
          · exact absurd c73 (by decide)
set_option maxHeartbeats 4000000 in
theorem c_first {G : j_G} {X : k_X} {n : Nat} {σ : k_St} (hR : RR n σ)  : k_run G X mX11_first [.ref 5] n σ 0 0 (fun v n' σ' => ∃ r : Int, v = some (j_i r) ∧ n' = n ∧ σ' = σ ∧ fs_R σ r) := by
  obtain ⟨hK, hAc, hNm, hPs, hPt, hSm, hIx⟩ := id hR
  have hn := RR_n hR
  have hk := hK.1
  have hwh : h_wf σ 8 := hk.2.1
  have hwm : m_wf σ 16 := hk.2.2
  have hW : 0 ≤ σ.2.1 6 1 ∧ σ.2.1 6 1 ≤ 300 := hk.1
  have hfl := hSm.1
  obtain ⟨ia, ib, hab, hia, hib, wia, wib, ria, rib, hrg, h01, hIR, hchg⟩ := id hIx
  have hA : i_at X n ia := by rcases hab with q | q; rw [q.1]; exact iA_48 hn; rw [q.1]; exact iA_58 hn
  have hix : ix σ = ia := by unfold ix; rw [hia]; rfl
  have hab5 : ia = 48 ∨ ia = 58 := by omega
  obtain ⟨hs99, hs0, hs1, hs2, hs3, hs4, hs5, hs6, hs7⟩ := id hA
  obtain ⟨hc9, hp9, hl9, ho9, hv9⟩ := id wia
  have hwn : r_wf σ 30 1 := ⟨fun r h0 h1 => by rw [show r = 0 by omega]; show 0 ≤ σ.1 32 0 ∧ σ.1 32 0 ≤ 16; rw [hNm.2.1]; exact hNm.1, hNm.2.2.1⟩
  refine k_enter (by decide +kernel) (Nat.le_of_ble_eq_true rfl) ?_
  show j_at _ _ _ [(0, .ref 5)] [] _ _ _ _
  refine a_aload_n (pc := 0) (i := 0) (by decide +kernel) rfl ?_
  refine b_getR (pc := 1) (b := 30) fl_X11_45 (by decide +kernel) (sh_5 hn) rfl ?_
  refine a_iconst (pc := 4) (n := 0) (by decide +kernel) ?_
  refine b_pureV (pc := 5) [j_i 0] [] ml_X11_158 (by decide +kernel) rfl rfl (sh_30 hn) rfl rfl (Nat.le_of_ble_eq_true rfl) (j_fitI rfl rfl) (s_countOf (rA_30 hn) hwn (by omega)) ?_
  rw [show r_cnt σ 30 1 0 = σ.1 32 0 by unfold r_cnt; rw [if_pos (by omega)]]
  have hn9 : 0 ≤ σ.1 32 0 ∧ σ.1 32 0 ≤ 16 := hwn.1 0 (by omega) (by omega)
  show j_at _ _ _ [(0, .ref 5)] [j_i (σ.1 32 0)] _ _ _ _
  refine a_if_ne (pc := 8) (off := 6) (tgt := 14) (by decide +kernel) (by decide) (by omega) (fun c8 => ?_) (fun c8 => ?_)
  · refine a_iconst (pc := 14) (n := 0) (by decide +kernel) ?_
    refine a_istore_n (pc := 15) (i := 1) (lv' := [(0, .ref 5), (1, j_i 0)]) (by decide +kernel) (Nat.le_of_ble_eq_true rfl) rfl ?_
    exact l_cfirst hn hia hix hA wia ria hwn c8 151 0 (by omega) (by omega) (by omega) (fun e e0 e1 => absurd e0 (by omega))
  · refine a_bipush (pc := 11) (n := (-3)) (by decide +kernel) rfl ?_
    refine a_ireturn (pc := 13) (by decide +kernel) rfl ?_
    refine k_ret ?_
    exact ⟨_, rfl, rfl, rfl, Or.inl ⟨c8, rfl⟩⟩
set_option maxHeartbeats 4000000 in
theorem l_dfs60 {G : j_G} {X : k_X} {n : Nat} {σ : k_St} (hn : 101 ≤ n) (hE : 0 ≤ σ.2.1 68 25 ∧ σ.2.1 68 25 ≤ 200) (hpr : ∀ i k, 0 ≤ i → i < σ.2.1 68 25 → 0 ≤ k → k < 3 → -9 ≤ σ.1 81 (3 * i + k) ∧ σ.1 81 (3 * i + k) ≤ 29) (hL : 0 ≤ σ.2.1 68 7 ∧ σ.2.1 68 7 ≤ 16) (hp0 : ∀ i, 0 ≤ i → i < σ.2.1 68 25 → 0 ≤ σ.1 81 (3 * i)) (hwl : ∀ i, 0 ≤ i → i < σ.2.1 68 25 → 0 ≤ σ.1 96 (σ.1 81 (3 * i)) ∧ σ.1 96 (σ.1 81 (3 * i)) ≤ 16) (hws : ∀ i k, 0 ≤ i → i < σ.2.1 68 25 → 0 ≤ k → k < σ.1 96 (σ.1 81 (3 * i)) → -128 ≤ σ.1 97 (16 * σ.1 81 (3 * i) + k) ∧ σ.1 97 (16 * σ.1 81 (3 * i) + k) ≤ 200) (hnm : ∀ k, 0 ≤ k → k < σ.2.1 68 7 → 32 ≤ σ.1 71 k ∧ σ.1 71 k ≤ 126) {e : Int} (he : 0 ≤ e ∧ e < σ.2.1 68 25) {Q : k_P} (kk : ∀ k' b' : Int, (b' = 0 ∨ b' = 1) → (b' = 1 ↔ fd_P σ e) → j_at G mX12_first 110 [(0, .ref 68), (1, j_i e), (2, j_i (σ.1 81 (3 * e))), (3, j_i b'), (4, j_i k')] [] (k_h X n σ) 0 0 (k_Q X Q))  : ∀ (m : Nat) (k b : Int), 17 - k < (m : Int) → 0 ≤ k → k ≤ σ.2.1 68 7 → (b = 0 ∧ ¬ fd_P σ e ∨ b = 1 ∧ d_dp (σ.1 81) e = 1 ∧ σ.2.1 68 7 ≤ σ.1 96 (σ.1 81 (3 * e)) ∧ ∀ j, 0 ≤ j → j < k → σ.1 97 (16 * σ.1 81 (3 * e) + j) = f_fold (σ.1 71 j)) → j_at G mX12_first 60 [(0, .ref 68), (1, j_i e), (2, j_i (σ.1 81 (3 * e))), (3, j_i b), (4, j_i k)] [] (k_h X n σ) 0 0 (k_Q X Q) := by
  intro m
  induction m with
  | zero => intro k b h1 h2 h3; exact absurd h1 (by omega)
  | succ m ih =>
    intro k b hm h0 hN hb
    have hb01 : b = 0 ∨ b = 1 := by rcases hb with q | q <;> omega
    have hpe := hp0 e he.1 he.2
    have hpe2 := hpr e 0 he.1 he.2 (by omega) (by omega)
    rw [show 3 * e + 0 = 3 * e by omega] at hpe2
    have hwe := hwl e he.1 he.2
    refine a_iload (pc := 60) (i := 4) (by decide +kernel) rfl ?_
    refine a_aload_n (pc := 62) (i := 0) (by decide +kernel) rfl ?_
    refine b_getI (pc := 63) fl_X12_195 (by decide +kernel) (sh_68 hn) rfl ?_
    refine a_icmp_ge (pc := 66) (off := 44) (tgt := 110) (by decide +kernel) (by decide) (by omega) (by omega) (fun c66 => ?_) (fun c66 => ?_)
    · have hfin : b = 1 ↔ fd_P σ e := by
        rcases hb with ⟨q1, q2⟩ | ⟨q1, q2, q3, q4⟩
        · exact ⟨fun g => by omega, fun g => absurd g q2⟩
        · exact ⟨fun _ => ⟨q2, q3, fun j j0 j1 => q4 j j0 (by omega)⟩, fun _ => q1⟩
      exact kk k b hb01 hfin
    · refine a_iload_n (pc := 69) (i := 3) (by decide +kernel) rfl ?_
      refine a_if_eq (pc := 70) (off := 40) (tgt := 110) (by decide +kernel) (by decide) (by omega) (fun c70 => ?_) (fun c70 => ?_)
      · have hfin : b = 1 ↔ fd_P σ e := by
          rcases hb with ⟨q1, q2⟩ | ⟨q1, q2, q3, q4⟩
          · exact ⟨fun g => by omega, fun g => absurd g q2⟩
          · exact ⟨fun _ => ⟨q2, q3, fun j j0 j1 => q4 j j0 (by omega)⟩, fun _ => q1⟩
        exact kk k b hb01 hfin
      · have hb1 : b = 1 := by omega
        have hc0 := hb.resolve_left (fun q => by omega)
        have x1 := hws e k (by omega) (by omega) (by omega) (by omega)
        have x2 := hnm k (by omega) (by omega)
        have x3 := f_fold_in (s := σ.1 71 k) (by omega)
        refine a_aload_n (pc := 73) (i := 0) (by decide +kernel) rfl ?_
        refine b_getR (pc := 74) (b := 97) fl_X12_99 (by decide +kernel) (sh_68 hn) rfl ?_
        refine a_bipush (pc := 77) (n := 16) (by decide +kernel) rfl ?_
        refine a_iload_n (pc := 79) (i := 2) (by decide +kernel) rfl ?_
        refine a_imul (pc := 80) (by decide +kernel) ?_
        refine a_iload (pc := 81) (i := 4) (by decide +kernel) rfl ?_
        refine a_iadd (pc := 83) (by decide +kernel) ?_
        refine b_iaload (pc := 84) (by decide +kernel) (sh_97 hn) (by omega) (by omega) (by omega) ?_
        refine a_aload_n (pc := 85) (i := 0) (by decide +kernel) rfl ?_
        refine b_getR (pc := 86) (b := 71) fl_X12_17 (by decide +kernel) (sh_68 hn) rfl ?_
        refine a_iload (pc := 89) (i := 4) (by decide +kernel) rfl ?_
        refine b_iaload (pc := 91) (by decide +kernel) (sh_71 hn) (by omega) (by omega) (by omega) ?_
        refine b_pureS (pc := 92) [j_i (σ.1 71 k)] [j_i (σ.1 97 ((16 * (σ.1 81 (3 * e))) + k))] ml_X12_218 (by decide +kernel) rfl rfl (Nat.le_of_ble_eq_true rfl) (j_fitI rfl rfl) (s_dsmall (by omega)) ?_
        show j_at _ _ _ [(0, .ref 68), (1, j_i e), (2, j_i (σ.1 81 (3 * e))), (3, j_i b), (4, j_i k)] [j_i (f_fold (σ.1 71 k)), j_i (σ.1 97 ((16 * (σ.1 81 (3 * e))) + k))] _ _ _ _
        refine a_icmp_ne (pc := 95) (off := 7) (tgt := 102) (by decide +kernel) (by decide) (by omega) (by omega) (fun c95 => ?_) (fun c95 => ?_)
        · refine a_iconst (pc := 102) (n := 0) (by decide +kernel) ?_
          refine a_istore_n (pc := 103) (i := 3) (lv' := [(0, .ref 68), (1, j_i e), (2, j_i (σ.1 81 (3 * e))), (3, j_i 0), (4, j_i k)]) (by decide +kernel) (Nat.le_of_ble_eq_true rfl) rfl ?_
          refine a_iinc (pc := 104) (i := 4) (n := 1) (x := k) (lv' := [(0, .ref 68), (1, j_i e), (2, j_i (σ.1 81 (3 * e))), (3, j_i 0), (4, j_i (k + 1))]) (by decide +kernel) rfl (Nat.le_of_ble_eq_true rfl) rfl ?_
          refine a_goto (pc := 107) (off := -47) (tgt := 60) (by decide +kernel) (by decide) ?_
          exact ih (k + 1) 0 (by omega) (by omega) (by omega) (Or.inl ⟨rfl, fun q => c95 (q.2.2 k (by omega) (by omega))⟩)
        · refine a_iconst (pc := 98) (n := 1) (by decide +kernel) ?_
          refine a_goto (pc := 99) (off := 4) (tgt := 103) (by decide +kernel) (by decide) ?_
          refine a_istore_n (pc := 103) (i := 3) (lv' := [(0, .ref 68), (1, j_i e), (2, j_i (σ.1 81 (3 * e))), (3, j_i 1), (4, j_i k)]) (by decide +kernel) (Nat.le_of_ble_eq_true rfl) rfl ?_
          refine a_iinc (pc := 104) (i := 4) (n := 1) (x := k) (lv' := [(0, .ref 68), (1, j_i e), (2, j_i (σ.1 81 (3 * e))), (3, j_i 1), (4, j_i (k + 1))]) (by decide +kernel) rfl (Nat.le_of_ble_eq_true rfl) rfl ?_
          refine a_goto (pc := 107) (off := -47) (tgt := 60) (by decide +kernel) (by decide) ?_
          exact ih (k + 1) 1 (by omega) (by omega) (by omega) (Or.inr ⟨rfl, hc0.2.1, hc0.2.2.1, fun j j0 j1 => by by_cases g : j = k; rw [g]; exact c95; exact hc0.2.2.2 j j0 (by omega)⟩)
set_option maxHeartbeats 4000000 in
theorem l_dfs12 {G : j_G} {X : k_X} {n : Nat} {σ : k_St} (hn : 101 ≤ n) (hE : 0 ≤ σ.2.1 68 25 ∧ σ.2.1 68 25 ≤ 200) (hpr : ∀ i k, 0 ≤ i → i < σ.2.1 68 25 → 0 ≤ k → k < 3 → -9 ≤ σ.1 81 (3 * i + k) ∧ σ.1 81 (3 * i + k) ≤ 29) (hL : 0 ≤ σ.2.1 68 7 ∧ σ.2.1 68 7 ≤ 16) (hp0 : ∀ i, 0 ≤ i → i < σ.2.1 68 25 → 0 ≤ σ.1 81 (3 * i)) (hwl : ∀ i, 0 ≤ i → i < σ.2.1 68 25 → 0 ≤ σ.1 96 (σ.1 81 (3 * i)) ∧ σ.1 96 (σ.1 81 (3 * i)) ≤ 16) (hws : ∀ i k, 0 ≤ i → i < σ.2.1 68 25 → 0 ≤ k → k < σ.1 96 (σ.1 81 (3 * i)) → -128 ≤ σ.1 97 (16 * σ.1 81 (3 * i) + k) ∧ σ.1 97 (16 * σ.1 81 (3 * i) + k) ≤ 200) (hnm : ∀ k, 0 ≤ k → k < σ.2.1 68 7 → 32 ≤ σ.1 71 k ∧ σ.1 71 k ≤ 126)  : ∀ (m : Nat) (e : Int), 200 - e < (m : Int) → 0 ≤ e → e ≤ σ.2.1 68 25 → (∀ j, 0 ≤ j → j < e → ¬ fd_P σ j) → j_at G mX12_first 12 [(0, .ref 68), (1, j_i e)] [] (k_h X n σ) 0 0 (k_Q X (k_ex n σ (fst_of (fd_P σ) (σ.2.1 68 25)))) := by
  intro m
  induction m with
  | zero => intro e h1 h2 h3; exact absurd h1 (by omega)
  | succ m ih =>
    intro e hm h0 hN hI
    refine a_iload_n (pc := 12) (i := 1) (by decide +kernel) rfl ?_
    refine a_aload_n (pc := 13) (i := 0) (by decide +kernel) rfl ?_
    refine b_getI (pc := 14) fl_X12_281 (by decide +kernel) (sh_68 hn) rfl ?_
    refine a_icmp_ge (pc := 17) (off := 105) (tgt := 122) (by decide +kernel) (by decide) (by omega) (by omega) (fun c17 => ?_) (fun c17 => ?_)
    · refine a_bipush (pc := 122) (n := (-9)) (by decide +kernel) rfl ?_
      refine a_ireturn (pc := 124) (by decide +kernel) rfl ?_
      refine k_ret ?_
      exact ⟨_, rfl, rfl, rfl, Or.inl ⟨rfl, fun j j0 j1 => hI j j0 (by omega)⟩⟩
    · have hpe := hp0 e h0 (by omega)
      have hpe2 := hpr e 0 h0 (by omega) (by omega) (by omega)
      rw [show 3 * e + 0 = 3 * e by omega] at hpe2
      have hwe := hwl e h0 (by omega)
      refine a_aload_n (pc := 20) (i := 0) (by decide +kernel) rfl ?_
      refine b_getR (pc := 21) (b := 81) fl_X12_51 (by decide +kernel) (sh_68 hn) rfl ?_
      refine a_iconst (pc := 24) (n := 3) (by decide +kernel) ?_
      refine a_iload_n (pc := 25) (i := 1) (by decide +kernel) rfl ?_
      refine a_imul (pc := 26) (by decide +kernel) ?_
      refine b_iaload (pc := 27) (by decide +kernel) (sh_81 hn) (by omega) (by omega) (by omega) ?_
      refine a_istore_n (pc := 28) (i := 2) (lv' := [(0, .ref 68), (1, j_i e), (2, j_i (σ.1 81 (3 * e)))]) (by decide +kernel) (Nat.le_of_ble_eq_true rfl) rfl ?_
      refine a_aload_n (pc := 29) (i := 0) (by decide +kernel) rfl ?_
      refine a_iload_n (pc := 30) (i := 1) (by decide +kernel) rfl ?_
      refine b_pureV (pc := 31) [j_i e] [] ml_X12_346 (by decide +kernel) rfl rfl (sh_68 hn) rfl rfl (Nat.le_of_ble_eq_true rfl) (j_fitI rfl rfl) (s_ddeepOf hn hE hpr (by omega)) ?_
      have q1 := d_dp_in (σ.1 81) e
      show j_at _ _ _ [(0, .ref 68), (1, j_i e), (2, j_i (σ.1 81 (3 * e)))] [j_i (d_dp (σ.1 81) e)] _ _ _ _
      refine a_iconst (pc := 34) (n := 1) (by decide +kernel) ?_
      refine a_icmp_ne (pc := 35) (off := 20) (tgt := 55) (by decide +kernel) (by decide) (by omega) (by omega) (fun c35 => ?_) (fun c35 => ?_)
      · refine a_iconst (pc := 55) (n := 0) (by decide +kernel) ?_
        refine a_istore_n (pc := 56) (i := 3) (lv' := [(0, .ref 68), (1, j_i e), (2, j_i (σ.1 81 (3 * e))), (3, j_i 0)]) (by decide +kernel) (Nat.le_of_ble_eq_true rfl) rfl ?_
        refine a_iconst (pc := 57) (n := 0) (by decide +kernel) ?_
        refine a_istore (pc := 58) (i := 4) (lv' := [(0, .ref 68), (1, j_i e), (2, j_i (σ.1 81 (3 * e))), (3, j_i 0), (4, j_i 0)]) (by decide +kernel) (Nat.le_of_ble_eq_true rfl) rfl ?_
        refine l_dfs60 hn hE hpr hL hp0 hwl hws hnm ⟨h0, by omega⟩ (fun k' b' hb1 hb2 => ?_) 18 0 0 (by omega) (by omega) (by omega) (Or.inl ⟨rfl, fun q => by first | exact c35 q.1 | (have := q.2.1; omega)⟩)
        refine a_iload_n (pc := 110) (i := 3) (by decide +kernel) rfl ?_
        refine a_if_eq (pc := 111) (off := 5) (tgt := 116) (by decide +kernel) (by decide) (by omega) (fun c111 => ?_) (fun c111 => ?_)
        · refine a_iinc (pc := 116) (i := 1) (n := 1) (x := e) (lv' := [(0, .ref 68), (1, j_i (e + 1)), (2, j_i (σ.1 81 (3 * e))), (3, j_i b'), (4, j_i k')]) (by decide +kernel) rfl (Nat.le_of_ble_eq_true rfl) rfl ?_
          refine a_goto (pc := 119) (off := -107) (tgt := 12) (by decide +kernel) (by decide) ?_
          exact a_sub (lv' := [(0, .ref 68), (1, j_i (e + 1))]) (fun q hq => by simp only [List.mem_cons, List.not_mem_nil, or_false] at hq ⊢; rcases hq with rfl | rfl <;> simp) (ih (e + 1) (by omega) (by omega) (by omega) (fun j j0 j1 => by by_cases g : j = e; rw [g]; exact fun q => absurd (hb2.mpr q) (by omega); exact hI j j0 (by omega)))
        · refine a_iload_n (pc := 114) (i := 1) (by decide +kernel) rfl ?_
          refine a_ireturn (pc := 115) (by decide +kernel) rfl ?_
          refine k_ret ?_
          exact ⟨_, rfl, rfl, rfl, Or.inr ⟨h0, by omega, hb2.mp (by omega), hI⟩⟩
      · refine a_aload_n (pc := 38) (i := 0) (by decide +kernel) rfl ?_
        refine b_getR (pc := 39) (b := 96) fl_X12_96 (by decide +kernel) (sh_68 hn) rfl ?_
        refine a_iload_n (pc := 42) (i := 2) (by decide +kernel) rfl ?_
        refine b_iaload (pc := 43) (by decide +kernel) (sh_96 hn) (by omega) (by omega) (by omega) ?_
        refine a_aload_n (pc := 44) (i := 0) (by decide +kernel) rfl ?_
        refine b_getI (pc := 45) fl_X12_195 (by decide +kernel) (sh_68 hn) rfl ?_
        refine a_icmp_lt (pc := 48) (off := 7) (tgt := 55) (by decide +kernel) (by decide) (by omega) (by omega) (fun c48 => ?_) (fun c48 => ?_)
        · refine a_iconst (pc := 55) (n := 0) (by decide +kernel) ?_
          refine a_istore_n (pc := 56) (i := 3) (lv' := [(0, .ref 68), (1, j_i e), (2, j_i (σ.1 81 (3 * e))), (3, j_i 0)]) (by decide +kernel) (Nat.le_of_ble_eq_true rfl) rfl ?_
          refine a_iconst (pc := 57) (n := 0) (by decide +kernel) ?_
          refine a_istore (pc := 58) (i := 4) (lv' := [(0, .ref 68), (1, j_i e), (2, j_i (σ.1 81 (3 * e))), (3, j_i 0), (4, j_i 0)]) (by decide +kernel) (Nat.le_of_ble_eq_true rfl) rfl ?_
          refine l_dfs60 hn hE hpr hL hp0 hwl hws hnm ⟨h0, by omega⟩ (fun k' b' hb1 hb2 => ?_) 18 0 0 (by omega) (by omega) (by omega) (Or.inl ⟨rfl, fun q => by first | exact c35 q.1 | (have := q.2.1; omega)⟩)
          refine a_iload_n (pc := 110) (i := 3) (by decide +kernel) rfl ?_
          refine a_if_eq (pc := 111) (off := 5) (tgt := 116) (by decide +kernel) (by decide) (by omega) (fun c111 => ?_) (fun c111 => ?_)
          · refine a_iinc (pc := 116) (i := 1) (n := 1) (x := e) (lv' := [(0, .ref 68), (1, j_i (e + 1)), (2, j_i (σ.1 81 (3 * e))), (3, j_i b'), (4, j_i k')]) (by decide +kernel) rfl (Nat.le_of_ble_eq_true rfl) rfl ?_
            refine a_goto (pc := 119) (off := -107) (tgt := 12) (by decide +kernel) (by decide) ?_
            exact a_sub (lv' := [(0, .ref 68), (1, j_i (e + 1))]) (fun q hq => by simp only [List.mem_cons, List.not_mem_nil, or_false] at hq ⊢; rcases hq with rfl | rfl <;> simp) (ih (e + 1) (by omega) (by omega) (by omega) (fun j j0 j1 => by by_cases g : j = e; rw [g]; exact fun q => absurd (hb2.mpr q) (by omega); exact hI j j0 (by omega)))
          · refine a_iload_n (pc := 114) (i := 1) (by decide +kernel) rfl ?_
            refine a_ireturn (pc := 115) (by decide +kernel) rfl ?_
            refine k_ret ?_
            exact ⟨_, rfl, rfl, rfl, Or.inr ⟨h0, by omega, hb2.mp (by omega), hI⟩⟩
        · refine a_iconst (pc := 51) (n := 1) (by decide +kernel) ?_
          refine a_goto (pc := 52) (off := 4) (tgt := 56) (by decide +kernel) (by decide) ?_
          refine a_istore_n (pc := 56) (i := 3) (lv' := [(0, .ref 68), (1, j_i e), (2, j_i (σ.1 81 (3 * e))), (3, j_i 1)]) (by decide +kernel) (Nat.le_of_ble_eq_true rfl) rfl ?_
          refine a_iconst (pc := 57) (n := 0) (by decide +kernel) ?_
          refine a_istore (pc := 58) (i := 4) (lv' := [(0, .ref 68), (1, j_i e), (2, j_i (σ.1 81 (3 * e))), (3, j_i 1), (4, j_i 0)]) (by decide +kernel) (Nat.le_of_ble_eq_true rfl) rfl ?_
          refine l_dfs60 hn hE hpr hL hp0 hwl hws hnm ⟨h0, by omega⟩ (fun k' b' hb1 hb2 => ?_) 18 0 1 (by omega) (by omega) (by omega) (Or.inr ⟨rfl, c35, c48, fun j j0 j1 => absurd j0 (by omega)⟩)
          refine a_iload_n (pc := 110) (i := 3) (by decide +kernel) rfl ?_
          refine a_if_eq (pc := 111) (off := 5) (tgt := 116) (by decide +kernel) (by decide) (by omega) (fun c111 => ?_) (fun c111 => ?_)
          · refine a_iinc (pc := 116) (i := 1) (n := 1) (x := e) (lv' := [(0, .ref 68), (1, j_i (e + 1)), (2, j_i (σ.1 81 (3 * e))), (3, j_i b'), (4, j_i k')]) (by decide +kernel) rfl (Nat.le_of_ble_eq_true rfl) rfl ?_
            refine a_goto (pc := 119) (off := -107) (tgt := 12) (by decide +kernel) (by decide) ?_
            exact a_sub (lv' := [(0, .ref 68), (1, j_i (e + 1))]) (fun q hq => by simp only [List.mem_cons, List.not_mem_nil, or_false] at hq ⊢; rcases hq with rfl | rfl <;> simp) (ih (e + 1) (by omega) (by omega) (by omega) (fun j j0 j1 => by by_cases g : j = e; rw [g]; exact fun q => absurd (hb2.mpr q) (by omega); exact hI j j0 (by omega)))
          · refine a_iload_n (pc := 114) (i := 1) (by decide +kernel) rfl ?_
            refine a_ireturn (pc := 115) (by decide +kernel) rfl ?_
            refine k_ret ?_
            exact ⟨_, rfl, rfl, rfl, Or.inr ⟨h0, by omega, hb2.mp (by omega), hI⟩⟩
theorem fs_fd {n : Nat} {σ : k_St} (hR : RR n σ) {ia : Nat} (hix : ix σ = ia) (wia : i_wf σ ia) (hIR : IR σ ia) (hnz : σ.1 32 0 ≠ 0) {e : Int} (e0 : 0 ≤ e) (e1 : e < σ.2.1 ia 0) : fs_P σ e ↔ fd_P σ e := by
  obtain ⟨n1, n2, n3, n4⟩ := hR.2.2.1
  obtain ⟨x1, _, _, x4, x5, x6⟩ := hIR.2.1 e e0 e1
  have hr0 := (row_3 (F := σ.1 81) x1).1
  have hd := row_dp (F := σ.1 81) x1 x4.2.2
  have hh := f_head_in (σ.1 (ia + 1) e) 0
  have hh0 : 0 ≤ f_head (σ.1 (ia + 1) e) 0 := by
    obtain ⟨a, b, c, ha, hb, hc, he⟩ := dig3 (wia.2.2.2.2 e).1
    have q := x4.2.1
    rw [he, (hd3 ha hb hc).1] at q ⊢
    split at q
    · exact absurd rfl q
    · rw [if_neg (by assumption)]; omega
  unfold fs_P fd_P
  rw [hix, hd, hr0, x5]
  generalize f_head (σ.1 (ia + 1) e) 0 = h at *
  have hcn : r_cnt σ 30 1 0 = σ.2.1 68 7 := by unfold r_cnt; rw [if_pos (by omega)]; exact n2
  have hnn : ∀ i, 0 ≤ i → i < σ.2.1 68 7 → r_sgn σ 30 1 0 i = σ.1 31 i := fun i i0 i1 => by
    unfold r_sgn; rw [if_pos ⟨by omega, by omega, i0, by rw [show (30 + 2 : Nat) = 32 by rfl, n2]; exact i1⟩, show (0 : Int) * 16 + i = i by omega]
  have hsg : ∀ i, 0 ≤ i → r_sgn σ (ia + 7) 30 h i = if i < σ.1 (ia + 9) h then σ.1 (ia + 8) (h * 16 + i) else -9 := fun i i0 => by
    unfold r_sgn
    show (if 0 ≤ h ∧ h < (30 : Nat) ∧ 0 ≤ i ∧ i < σ.1 (ia + 9) h then σ.1 (ia + 8) (h * 16 + i) else -9) = _
    by_cases q : i < σ.1 (ia + 9) h
    · rw [if_pos (by omega), if_pos q]
    · rw [if_neg (by omega), if_neg q]
  have f9 : f_fold (-9) = -9 := by decide
  refine and_congr Iff.rfl ?_
  unfold r_alike
  rw [hcn]
  constructor
  · intro h1
    have hle : σ.2.1 68 7 ≤ σ.1 (ia + 9) h := by
      refine Int.not_lt.mp (fun g => ?_)
      obtain ⟨c, hc⟩ : ∃ c, c = max 0 (σ.1 (ia + 9) h) := ⟨_, rfl⟩
      have c0 : 0 ≤ c := by omega
      have hc1 : c < σ.2.1 68 7 := by omega
      have := h1 c c0 hc1
      have q := n4 c c0 hc1
      have q2 := f_fold_in (s := σ.1 31 c) (by omega)
      rw [hsg c c0, if_neg (by omega), f9, hnn c c0 hc1] at this
      have : 32 ≤ f_fold (σ.1 31 c) := by unfold f_fold; split <;> omega
      omega
    refine ⟨hle, fun k k0 k1 => ?_⟩
    have := h1 k k0 k1
    rw [hsg k k0, if_pos (by omega), hnn k k0 k1, (n4 k k0 k1).1] at this
    rw [x6 k k0 (by omega)]; exact this
  · rintro ⟨hle, h1⟩ i i0 i1
    have := h1 i i0 i1
    rw [x6 i i0 (by omega)] at this
    rw [hsg i i0, if_pos (by omega), hnn i i0 i1, (n4 i i0 i1).1]; exact this
set_option maxHeartbeats 4000000 in
theorem d_first {G : j_G} {X : k_X} {n : Nat} {σ : k_St} (hR : RR n σ) {r : Int} (hP : fs_R σ r)  : k_run G X mX12_first [.ref 68] n σ 0 0 (fun v2 n2 σ2 => v2 = some (j_i r) ∧ RR n2 σ2) := by
  obtain ⟨hK, hAc, hNm, hPs, hPt, hSm, hIx⟩ := id hR
  have hn := RR_n hR
  have hk := hK.1
  have hwh : h_wf σ 8 := hk.2.1
  have hwm : m_wf σ 16 := hk.2.2
  have hW : 0 ≤ σ.2.1 6 1 ∧ σ.2.1 6 1 ≤ 300 := hk.1
  have hfl := hSm.1
  have hg := hK.2.2.2
  obtain ⟨⟨hgW, hgE, hgM⟩, hgh, hgm⟩ := KR_rg hk hK.2.1
  have hW0 : σ.2.1 6 1 = σ.1 69 0 := hK.2.1.1.1
  have hE0 : σ.2.1 8 3 = σ.1 69 301 := hK.2.1.2.1.1
  have hM0 : σ.2.1 16 5 = σ.1 69 1382 := hK.2.1.2.2.1
  have hfl8 : σ.2.1 68 11 = σ.2.1 5 10 := hSm.2.1
  obtain ⟨ia, ib, hab, hia, hib, wia, wib, ria, rib, hrg, h01, hIR, hchg⟩ := id hIx
  have hA : i_at X n ia := by rcases hab with q | q; rw [q.1]; exact iA_48 hn; rw [q.1]; exact iA_58 hn
  have hix : ix σ = ia := by unfold ix; rw [hia]; rfl
  have hab5 : ia = 48 ∨ ia = 58 := by omega
  obtain ⟨hs99, hs0, hs1, hs2, hs3, hs4, hs5, hs6, hs7⟩ := id hA
  obtain ⟨hc9, hp9, hl9, ho9, hv9⟩ := id wia
  obtain ⟨hI0, hI1, hI2, hI3, hI4, hI5, hI6, hI7, hI8⟩ := id hIR
  have hE : 0 ≤ σ.2.1 68 25 ∧ σ.2.1 68 25 ≤ 200 := by omega
  have hpr : ∀ i k, 0 ≤ i → i < σ.2.1 68 25 → 0 ≤ k → k < 3 → -9 ≤ σ.1 81 (3 * i + k) ∧ σ.1 81 (3 * i + k) ≤ 29 := fun i k i0 i1 k0 k1 => by rw [(hI1 i i0 (by omega)).1 k k0 k1]; exact f_head_in _ _
  have hNL := hNm.1
  have hN2 := hNm.2.1
  unfold fs_R at hP
  refine k_enter (by decide +kernel) (Nat.le_of_ble_eq_true rfl) ?_
  show j_at _ _ _ [(0, .ref 68)] [] _ _ _ _
  refine a_aload_n (pc := 0) (i := 0) (by decide +kernel) rfl ?_
  refine b_getI (pc := 1) fl_X12_195 (by decide +kernel) (sh_68 hn) rfl ?_
  refine a_if_ne (pc := 4) (off := 6) (tgt := 10) (by decide +kernel) (by decide) (by omega) (fun c4 => ?_) (fun c4 => ?_)
  · refine a_iconst (pc := 10) (n := 0) (by decide +kernel) ?_
    refine a_istore_n (pc := 11) (i := 1) (lv' := [(0, .ref 68), (1, j_i 0)]) (by decide +kernel) (Nat.le_of_ble_eq_true rfl) rfl ?_
    have hp00 : ∀ i, 0 ≤ i → i < σ.2.1 68 25 → 0 ≤ σ.1 81 (3 * i) ∧ σ.1 81 (3 * i) = f_head (σ.1 (ia + 1) i) 0 := fun i i0 i1 => by
      obtain ⟨x1, _, _, x4, _⟩ := hI1 i i0 (by omega)
      have hr0 := (row_3 (F := σ.1 81) x1).1
      have hh := f_head_in (σ.1 (ia + 1) i) 0
      refine ⟨?_, hr0⟩
      rw [hr0]
      obtain ⟨a, b, c, ha, hb, hc, he⟩ := dig3 (hv9 i).1
      have q := x4.2.1
      rw [he, (hd3 ha hb hc).1] at q ⊢
      split at q
      · exact absurd rfl q
      · rw [if_neg (by assumption)]; omega
    have hrow : ∀ i, 0 ≤ i → i < σ.2.1 68 25 → 0 ≤ σ.1 (ia + 9) (f_head (σ.1 (ia + 1) i) 0) ∧ σ.1 (ia + 9) (f_head (σ.1 (ia + 1) i) 0) ≤ 16 := fun i i0 i1 => by
      have q := hp00 i i0 i1
      have q2 := f_head_in (σ.1 (ia + 1) i) 0
      exact ria.1 _ (by omega) (by omega)
    refine k_mono (fun v n' σ' hq => ?_) (l_dfs12 hn hE hpr hNm.1 (fun i i0 i1 => (hp00 i i0 i1).1) (fun i i0 i1 => by rw [(hp00 i i0 i1).2, (hI1 i i0 (by omega)).2.2.2.2.1]; exact hrow i i0 i1) (fun i k i0 i1 k0 k1 => by
      rw [(hp00 i i0 i1).2] at k1 ⊢
      rw [(hI1 i i0 (by omega)).2.2.2.2.1] at k1
      rw [(hI1 i i0 (by omega)).2.2.2.2.2 k k0 k1]
      have q := ria.2 (f_head (σ.1 (ia + 1) i) 0 * 16 + k)
      have q3 : -128 ≤ σ.1 (ia + 8) (f_head (σ.1 (ia + 1) i) 0 * 16 + k) ∧ σ.1 (ia + 8) (f_head (σ.1 (ia + 1) i) 0 * 16 + k) ≤ 127 := q
      unfold f_fold; split <;> omega) (fun k k0 k1 => by have := hNm.2.2.2 k k0 k1; omega) 201 0 (by omega) (by omega) (by omega) (fun j j0 j1 => absurd j0 (by omega)))
    obtain ⟨q, q1, q2, q3, q4⟩ := hq
    rw [q1, q2, q3]
    rcases hP with hP | hP
    · exfalso; have := hNm.2.1; omega
    · have := fst_u (fun e e0 e1 => fs_fd hR hix wia hIR hP.1 e0 (by rw [hix] at e1; exact e1)) hP.2 (by rw [hix, ← hI0]; exact q4)
      exact ⟨by rw [this], hR⟩
  · refine a_bipush (pc := 7) (n := (-3)) (by decide +kernel) rfl ?_
    refine a_ireturn (pc := 9) (by decide +kernel) rfl ?_
    refine k_ret ?_
    have hr : ((-3) : Int) = r := by
      rcases hP with hP | hP
      · omega
      · omega
    exact ⟨by rw [hr], hR⟩
set_option maxHeartbeats 4000000 in
theorem p_first {G : j_G} {X : k_X} {n : Nat} {σ : k_St} (hR : RR n σ)  : pr_ok G X mX11_first mX12_first [] n σ 0 0 := by
  refine ⟨_, c_first hR  , fun v n' σ' hq => ?_⟩
  obtain ⟨r, hv, rfl, rfl, hP⟩ := hq
  exact ⟨RR_n hR, r, hv, d_first hR   hP⟩
