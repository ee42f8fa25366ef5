theorem RN_wf {σ : k_St} (h : RName σ) : r_wf σ 30 1 := ⟨fun r h0 h1 => by rw [show r = 0 by omega]; show 0 ≤ σ.1 32 0 ∧ σ.1 32 0 ≤ 16; rw [h.2.1]; exact h.1, h.2.2.1⟩
def nm_ok (w : Int64) (m : Int) : Prop := ∀ k, 0 ≤ k → k < m → 32 ≤ f_byte w k ∧ f_byte w k ≤ 126
/-- THE NAME with j more of the m bytes of w -/
def nm_st (S S' : Int → Int) (w : Int64) (m c j : Int) : Prop := (∀ i, i < c ∨ c + j ≤ i → S' i = S i) ∧ ∀ i, 0 ≤ i → i < j → S' (c + i) = f_byte w (m - 1 - i)
theorem nm_0 {S : Int → Int} {w : Int64} {m c : Int} : nm_st S S w m c 0 := ⟨fun _ _ => rfl, fun i h0 h1 => absurd h0 (by omega)⟩
theorem nm_s {S S' : Int → Int} {w : Int64} {m c j x : Int} (h : nm_st S S' w m c j) (hj : 0 ≤ j) (hx : x = f_byte w (m - 1 - j)) : nm_st S (j_up S' (c + j) x) w m c (j + 1) := by
  refine ⟨fun i hi => by rw [j_upN (by omega)]; exact h.1 i (by omega), fun i i0 i1 => ?_⟩
  by_cases g : i = j
  · rw [g, j_upS, hx]
  · rw [j_upN (by omega)]; exact h.2 i i0 (by omega)
def nm_fr (σ τ : k_St) : Prop := (∀ c, c ≠ 31 → c ≠ 32 → τ.1 c = σ.1 c) ∧ τ.2 = σ.2
def nm_C (σ : k_St) (w : Int64) (m r : Int) (τ : k_St) : Prop := (¬ (1 ≤ m ∧ m ≤ 8) ∧ r = -2 ∧ τ = σ) ∨ ((1 ≤ m ∧ m ≤ 8) ∧ ¬ nm_ok w m ∧ r = -2 ∧ τ = σ) ∨ ((1 ≤ m ∧ m ≤ 8) ∧ nm_ok w m ∧ 16 < σ.1 32 0 + m ∧ r = -4 ∧ τ = σ) ∨ ((1 ≤ m ∧ m ≤ 8) ∧ nm_ok w m ∧ σ.1 32 0 + m ≤ 16 ∧ r = σ.1 32 0 + m ∧ nm_fr σ τ ∧ τ.1 32 0 = σ.1 32 0 + m ∧ nm_st (σ.1 31) (τ.1 31) w m (σ.1 32 0) m)
set_option maxHeartbeats 4000000 in
theorem l_cname77 {G : j_G} {X : k_X} {n : Nat} {σ : k_St} (hn : 101 ≤ n) {w : Int64} {m c : Int} (hm : 1 ≤ m ∧ m ≤ 8) (hok : nm_ok w m) (hc0 : σ.1 32 0 = c) (hc : 0 ≤ c ∧ c + m ≤ 16)  : ∀ (z : Nat) (k : Int) (τ : k_St), k + 1 < (z : Int) → -1 ≤ k → k < m → nm_fr σ τ → τ.1 32 0 = c + (m - 1 - k) → nm_st (σ.1 31) (τ.1 31) w m c (m - 1 - k) → r_wf τ 30 1 → j_at G mX11_name 77 [(0, .ref 5), (1, .long w), (3, j_i m), (4, j_i k)] [] (k_h X n τ) 0 0 (k_Q X (fun v n' σ' => ∃ r : Int, v = some (j_i r) ∧ n' = n ∧ nm_C σ w m r σ')) := by
  intro z
  induction z with
  | zero => intro k τ h1 h2 h3; exact absurd h1 (by omega)
  | succ z ih =>
    intro k τ hz h0 hk hf hct hst hwt
    refine a_iload (pc := 77) (i := 4) (by decide +kernel) rfl ?_
    refine a_if_lt (pc := 79) (off := 23) (tgt := 102) (by decide +kernel) (by decide) (by omega) (fun c79 => ?_) (fun c79 => ?_)
    · refine a_aload_n (pc := 102) (i := 0) (by decide +kernel) rfl ?_
      refine b_getR (pc := 103) (b := 30) fl_X11_45 (by decide +kernel) (sh_5 hn) rfl ?_
      refine a_iconst (pc := 106) (n := 0) (by decide +kernel) ?_
      refine b_pureV (pc := 107) [j_i 0] [] ml_X11_158 (by decide +kernel) rfl rfl (sh_30 hn) rfl rfl (Nat.le_of_ble_eq_true rfl) (j_fitI rfl rfl) (s_countOf (rA_30 hn) hwt (by omega)) ?_
      rw [show r_cnt τ 30 1 0 = τ.1 32 0 by unfold r_cnt; rw [if_pos (by omega)]]
      show j_at _ _ _ [(0, .ref 5), (1, .long w), (3, j_i m), (4, j_i k)] [j_i (τ.1 32 0)] _ _ _ _
      refine a_ireturn (pc := 110) (by decide +kernel) rfl ?_
      refine k_ret ?_
      exact ⟨_, rfl, rfl, Or.inr (Or.inr (Or.inr ⟨hm, hok, by omega, by rw [hct, hc0]; omega, hf, by rw [hct, hc0]; omega, by rw [hc0]; rw [show m - 1 - k = m by omega] at hst; exact hst⟩))⟩
    · refine a_aload_n (pc := 82) (i := 0) (by decide +kernel) rfl ?_
      refine b_getR (pc := 83) (b := 30) fl_X11_45 (by decide +kernel) (sh_5 hn) rfl ?_
      refine a_iconst (pc := 86) (n := 0) (by decide +kernel) ?_
      refine a_lload_n (pc := 87) (i := 1) (by decide +kernel) rfl ?_
      have hg9 := hok k (by omega) (by omega)
      refine a_iload (pc := 88) (i := 4) (by decide +kernel) rfl ?_
      refine b_pureS (pc := 90) [.long w, j_i k] [j_i 0, .ref 30] ml_X11_154 (by decide +kernel) rfl rfl (Nat.le_of_ble_eq_true rfl) (j_fitI rfl rfl) (s_byteOf (by omega)) ?_
      have qb := f_byte_in w k
      show j_at _ _ _ [(0, .ref 5), (1, .long w), (3, j_i m), (4, j_i k)] [j_i (f_byte w k), j_i 0, .ref 30] _ _ _ _
      refine b_callV (pc := 93) (c' := 0) (sl' := 0) [j_i 0, j_i (f_byte w k)] [] ml_X11_161 (by decide +kernel) rfl rfl (sh_30 hn) rfl rfl (Nat.le_of_ble_eq_true rfl) (j_fitI rfl rfl) (s_append (rA_30 hn) hwt (by omega) (by omega) (by show τ.1 32 0 < 16; omega) (by omega)) (fun v n' σ' hq => ?_)
      obtain ⟨rfl, e1, e2⟩ := hq
      rw [e1, e2]; clear e1 e2
      obtain ⟨σ2, hσ2⟩ : ∃ z, z = k_sA (k_sA τ 31 (j_up (τ.1 31) (0 * 16 + τ.1 32 0) (f_byte w k))) 32 (j_up (τ.1 32) 0 (τ.1 32 0 + 1)) := ⟨_, rfl⟩
      rw [← hσ2]
      show j_at _ _ _ [(0, .ref 5), (1, .long w), (3, j_i m), (4, j_i k)] [] _ _ _ _
      refine a_iinc (pc := 96) (i := 4) (n := -1) (x := k) (lv' := [(0, .ref 5), (1, .long w), (3, j_i m), (4, j_i (k + (-1)))]) (by decide +kernel) rfl (Nat.le_of_ble_eq_true rfl) rfl ?_
      refine a_goto (pc := 99) (off := -22) (tgt := 77) (by decide +kernel) (by decide) ?_
      have e31 : σ2.1 31 = j_up (τ.1 31) (c + (m - 1 - k)) (f_byte w k) := by rw [hσ2, k_AN (by omega), k_AA, hct]; congr 1; omega
      have e32 : σ2.1 32 0 = c + (m - 1 - (k + -1)) := by rw [hσ2, k_AA, j_upS, hct]; omega
      refine ih (k + -1) σ2 (by omega) (by omega) (by omega) ⟨fun q q1 q2 => by rw [hσ2, k_AN q2, k_AN q1]; exact hf.1 q q1 q2, by rw [hσ2]; exact hf.2⟩ e32 (by rw [e31, show m - 1 - (k + -1) = m - 1 - k + 1 by omega]; exact nm_s hst (by omega) (by congr 1; omega)) ⟨fun r r0 r1 => by rw [show r = 0 by omega]; show 0 ≤ σ2.1 32 0 ∧ σ2.1 32 0 ≤ 16; omega, fun i => ?_⟩
      show -128 ≤ σ2.1 31 i ∧ σ2.1 31 i ≤ 127
      rw [e31]; unfold j_up; split
      · omega
      · exact hwt.2 i
set_option maxHeartbeats 4000000 in
theorem l_cname17 {G : j_G} {X : k_X} {n : Nat} {σ : k_St} (hn : 101 ≤ n) {w : Int64} {m : Int} (hm : 1 ≤ m ∧ m ≤ 8) (hwn : r_wf σ 30 1) (hc : 0 ≤ σ.1 32 0 ∧ σ.1 32 0 ≤ 16)  : ∀ (z : Nat) (k : Int), m - k < (z : Int) → 0 ≤ k → k ≤ m → (∀ j, 0 ≤ j → j < k → 32 ≤ f_byte w j ∧ f_byte w j ≤ 126) → j_at G mX11_name 17 [(0, .ref 5), (1, .long w), (3, j_i m), (4, j_i k)] [] (k_h X n σ) 0 0 (k_Q X (fun v n' σ' => ∃ r : Int, v = some (j_i r) ∧ n' = n ∧ nm_C σ w m r σ')) := by
  intro z
  induction z with
  | zero => intro k h1 h2 h3; exact absurd h1 (by omega)
  | succ z ih =>
    intro k hz h0 hk hI
    refine a_iload (pc := 17) (i := 4) (by decide +kernel) rfl ?_
    refine a_iload_n (pc := 19) (i := 3) (by decide +kernel) rfl ?_
    refine a_icmp_ge (pc := 20) (off := 34) (tgt := 54) (by decide +kernel) (by decide) (by omega) (by omega) (fun c20 => ?_) (fun c20 => ?_)
    · refine a_aload_n (pc := 54) (i := 0) (by decide +kernel) rfl ?_
      refine b_getR (pc := 55) (b := 30) fl_X11_45 (by decide +kernel) (sh_5 hn) rfl ?_
      refine a_iconst (pc := 58) (n := 0) (by decide +kernel) ?_
      refine b_pureV (pc := 59) [j_i 0] [] ml_X11_158 (by decide +kernel) rfl rfl (sh_30 hn) rfl rfl (Nat.le_of_ble_eq_true rfl) (j_fitI rfl rfl) (s_countOf (rA_30 hn) hwn (by omega)) ?_
      rw [show r_cnt σ 30 1 0 = σ.1 32 0 by unfold r_cnt; rw [if_pos (by omega)]]
      show j_at _ _ _ [(0, .ref 5), (1, .long w), (3, j_i m), (4, j_i k)] [j_i (σ.1 32 0)] _ _ _ _
      refine a_iload_n (pc := 62) (i := 3) (by decide +kernel) rfl ?_
      refine a_iadd (pc := 63) (by decide +kernel) ?_
      refine a_bipush (pc := 64) (n := 16) (by decide +kernel) rfl ?_
      refine a_icmp_le (pc := 66) (off := 6) (tgt := 72) (by decide +kernel) (by decide) (by omega) (by omega) (fun c66 => ?_) (fun c66 => ?_)
      · refine a_iload_n (pc := 72) (i := 3) (by decide +kernel) rfl ?_
        refine a_iconst (pc := 73) (n := 1) (by decide +kernel) ?_
        refine a_isub (pc := 74) (by decide +kernel) ?_
        refine a_istore (pc := 75) (i := 4) (lv' := [(0, .ref 5), (1, .long w), (3, j_i m), (4, j_i (m - 1))]) (by decide +kernel) (Nat.le_of_ble_eq_true rfl) rfl ?_
        have hok : nm_ok w m := fun j j0 j1 => hI j j0 (by omega)
        exact l_cname77 hn hm hok rfl (by omega) 10 (m - 1) σ (by omega) (by omega) (by omega) ⟨fun _ _ _ => rfl, rfl⟩ (by omega) (by rw [show m - 1 - (m - 1) = 0 by omega]; exact nm_0) hwn
      · refine a_bipush (pc := 69) (n := (-4)) (by decide +kernel) rfl ?_
        refine a_ireturn (pc := 71) (by decide +kernel) rfl ?_
        refine k_ret ?_
        exact ⟨_, rfl, rfl, Or.inr (Or.inr (Or.inl ⟨hm, fun j j0 j1 => hI j j0 (by omega), by omega, rfl, rfl⟩))⟩
    · refine a_lload_n (pc := 23) (i := 1) (by decide +kernel) rfl ?_
      refine a_iload (pc := 24) (i := 4) (by decide +kernel) rfl ?_
      refine b_pureS (pc := 26) [.long w, j_i k] [] ml_X11_154 (by decide +kernel) rfl rfl (Nat.le_of_ble_eq_true rfl) (j_fitI rfl rfl) (s_byteOf (by omega)) ?_
      have qb := f_byte_in w k
      show j_at _ _ _ [(0, .ref 5), (1, .long w), (3, j_i m), (4, j_i k)] [j_i (f_byte w k)] _ _ _ _
      refine a_bipush (pc := 29) (n := 32) (by decide +kernel) rfl ?_
      refine a_icmp_lt (pc := 31) (off := 14) (tgt := 45) (by decide +kernel) (by decide) (by omega) (by omega) (fun c31 => ?_) (fun c31 => ?_)
      · refine a_bipush (pc := 45) (n := (-2)) (by decide +kernel) rfl ?_
        refine a_ireturn (pc := 47) (by decide +kernel) rfl ?_
        refine k_ret ?_
        exact ⟨_, rfl, rfl, Or.inr (Or.inl ⟨hm, fun g => by have := g k h0 (by omega); omega, rfl, rfl⟩)⟩
      · refine a_lload_n (pc := 34) (i := 1) (by decide +kernel) rfl ?_
        refine a_iload (pc := 35) (i := 4) (by decide +kernel) rfl ?_
        refine b_pureS (pc := 37) [.long w, j_i k] [] ml_X11_154 (by decide +kernel) rfl rfl (Nat.le_of_ble_eq_true rfl) (j_fitI rfl rfl) (s_byteOf (by omega)) ?_
        have qb := f_byte_in w k
        show j_at _ _ _ [(0, .ref 5), (1, .long w), (3, j_i m), (4, j_i k)] [j_i (f_byte w k)] _ _ _ _
        refine a_bipush (pc := 40) (n := 126) (by decide +kernel) rfl ?_
        refine a_icmp_le (pc := 42) (off := 6) (tgt := 48) (by decide +kernel) (by decide) (by omega) (by omega) (fun c42 => ?_) (fun c42 => ?_)
        · refine a_iinc (pc := 48) (i := 4) (n := 1) (x := k) (lv' := [(0, .ref 5), (1, .long w), (3, j_i m), (4, j_i (k + 1))]) (by decide +kernel) rfl (Nat.le_of_ble_eq_true rfl) rfl ?_
          refine a_goto (pc := 51) (off := -34) (tgt := 17) (by decide +kernel) (by decide) ?_
          exact ih (k + 1) (by omega) (by omega) (by omega) (fun j j0 j1 => by by_cases g : j = k; rw [g]; omega; exact hI j j0 (by omega))
        · refine a_bipush (pc := 45) (n := (-2)) (by decide +kernel) rfl ?_
          refine a_ireturn (pc := 47) (by decide +kernel) rfl ?_
          refine k_ret ?_
          exact ⟨_, rfl, rfl, Or.inr (Or.inl ⟨hm, fun g => by have := g k h0 (by omega); omega, rfl, rfl⟩)⟩
set_option maxHeartbeats 4000000 in
theorem c_name {G : j_G} {X : k_X} {n : Nat} {σ : k_St} (hR : RR n σ) {w : Int64} {m : Int} (hm : -2147483648 ≤ m ∧ m ≤ 2147483647)  : k_run G X mX11_name [.ref 5, .long w, j_i m] n σ 0 0 (fun v n' σ' => ∃ r : Int, v = some (j_i r) ∧ n' = n ∧ nm_C σ w m r σ') := by
  obtain ⟨hK, hAc, hNm, hPs, hPt, hSm, hIx⟩ := id hR
  have hn := RR_n hR
  have hk := hK.1
  have hwh : h_wf σ 8 := hk.2.1
  have hwm : m_wf σ 16 := hk.2.2
  have hW : 0 ≤ σ.2.1 6 1 ∧ σ.2.1 6 1 ≤ 300 := hk.1
  have hfl := hSm.1
  refine k_enter (by decide +kernel) (Nat.le_of_ble_eq_true rfl) ?_
  show j_at _ _ _ [(0, .ref 5), (1, .long w), (3, j_i m)] [] _ _ _ _
  refine a_iload_n (pc := 0) (i := 3) (by decide +kernel) rfl ?_
  refine a_iconst (pc := 1) (n := 1) (by decide +kernel) ?_
  refine a_icmp_lt (pc := 2) (off := 9) (tgt := 11) (by decide +kernel) (by decide) (by omega) (by omega) (fun c2 => ?_) (fun c2 => ?_)
  · refine a_bipush (pc := 11) (n := (-2)) (by decide +kernel) rfl ?_
    refine a_ireturn (pc := 13) (by decide +kernel) rfl ?_
    refine k_ret ?_
    exact ⟨_, rfl, rfl, Or.inl ⟨by omega, rfl, rfl⟩⟩
  · refine a_iload_n (pc := 5) (i := 3) (by decide +kernel) rfl ?_
    refine a_bipush (pc := 6) (n := 8) (by decide +kernel) rfl ?_
    refine a_icmp_le (pc := 8) (off := 6) (tgt := 14) (by decide +kernel) (by decide) (by omega) (by omega) (fun c8 => ?_) (fun c8 => ?_)
    · refine a_iconst (pc := 14) (n := 0) (by decide +kernel) ?_
      refine a_istore (pc := 15) (i := 4) (lv' := [(0, .ref 5), (1, .long w), (3, j_i m), (4, j_i 0)]) (by decide +kernel) (Nat.le_of_ble_eq_true rfl) rfl ?_
      exact l_cname17 hn (by omega) (RN_wf hNm) (by have := hNm.1; have := hNm.2.1; omega) 10 0 (by omega) (by omega) (by omega) (fun j j0 j1 => absurd j0 (by omega))
    · refine a_bipush (pc := 11) (n := (-2)) (by decide +kernel) rfl ?_
      refine a_ireturn (pc := 13) (by decide +kernel) rfl ?_
      refine k_ret ?_
      exact ⟨_, rfl, rfl, Or.inl ⟨by omega, rfl, rfl⟩⟩
def nd_fr (σ τ : k_St) : Prop := (∀ c, c ≠ 71 → τ.1 c = σ.1 c) ∧ (∀ c j, ¬ (c = 68 ∧ j = 7) → τ.2.1 c j = σ.2.1 c j) ∧ τ.2.2 = σ.2.2
def nm_D (σ : k_St) (w : Int64) (m r : Int) (τ : k_St) : Prop := (¬ (1 ≤ m ∧ m ≤ 8) ∧ r = -2 ∧ τ = σ) ∨ ((1 ≤ m ∧ m ≤ 8) ∧ ¬ nm_ok w m ∧ r = -2 ∧ τ = σ) ∨ ((1 ≤ m ∧ m ≤ 8) ∧ nm_ok w m ∧ 16 < σ.2.1 68 7 + m ∧ r = -4 ∧ τ = σ) ∨ ((1 ≤ m ∧ m ≤ 8) ∧ nm_ok w m ∧ σ.2.1 68 7 + m ≤ 16 ∧ r = σ.2.1 68 7 + m ∧ nd_fr σ τ ∧ τ.2.1 68 7 = σ.2.1 68 7 + m ∧ nm_st (σ.1 71) (τ.1 71) w m (σ.2.1 68 7) m)
set_option maxHeartbeats 4000000 in
theorem l_dname72 {G : j_G} {X : k_X} {n : Nat} {σ : k_St} (hn : 101 ≤ n) {w : Int64} {m c : Int} (hm : 1 ≤ m ∧ m ≤ 8) (hok : nm_ok w m) (hc0 : σ.2.1 68 7 = c) (hc : 0 ≤ c ∧ c + m ≤ 16)  : ∀ (z : Nat) (k : Int) (τ : k_St), k + 1 < (z : Int) → -1 ≤ k → k < m → nd_fr σ τ → τ.2.1 68 7 = c + (m - 1 - k) → nm_st (σ.1 71) (τ.1 71) w m c (m - 1 - k) → j_at G mX12_name 72 [(0, .ref 68), (1, .long w), (3, j_i m), (4, j_i k)] [] (k_h X n τ) 0 0 (k_Q X (fun v n' σ' => ∃ r : Int, v = some (j_i r) ∧ n' = n ∧ nm_D σ w m r σ')) := by
  intro z
  induction z with
  | zero => intro k τ h1 h2 h3; exact absurd h1 (by omega)
  | succ z ih =>
    intro k τ hz h0 hk hf hct hst
    refine a_iload (pc := 72) (i := 4) (by decide +kernel) rfl ?_
    refine a_if_lt (pc := 74) (off := 40) (tgt := 114) (by decide +kernel) (by decide) (by omega) (fun c74 => ?_) (fun c74 => ?_)
    · refine a_aload_n (pc := 114) (i := 0) (by decide +kernel) rfl ?_
      refine b_getI (pc := 115) fl_X12_195 (by decide +kernel) (sh_68 hn) rfl ?_
      rw [show τ.2.1 68 7 = c + (m - 1 - k) from hct]
      refine a_ireturn (pc := 118) (by decide +kernel) rfl ?_
      refine k_ret ?_
      exact ⟨_, rfl, rfl, Or.inr (Or.inr (Or.inr ⟨hm, hok, by omega, by rw [hc0]; omega, hf, by rw [hct, hc0]; omega, by rw [hc0]; rw [show m - 1 - k = m by omega] at hst; exact hst⟩))⟩
    · refine a_aload_n (pc := 77) (i := 0) (by decide +kernel) rfl ?_
      refine b_getR (pc := 78) (b := 71) fl_X12_17 (by decide +kernel) (sh_68 hn) rfl ?_
      refine a_aload_n (pc := 81) (i := 0) (by decide +kernel) rfl ?_
      refine b_getI (pc := 82) fl_X12_195 (by decide +kernel) (sh_68 hn) rfl ?_
      rw [show τ.2.1 68 7 = c + (m - 1 - k) from hct]
      refine a_lload_n (pc := 85) (i := 1) (by decide +kernel) rfl ?_
      refine a_bipush (pc := 86) (n := 8) (by decide +kernel) rfl ?_
      refine a_iload (pc := 88) (i := 4) (by decide +kernel) rfl ?_
      refine a_imul (pc := 90) (by decide +kernel) ?_
      refine a_lushr (pc := 91) (v := lN (w.toBitVec.toNat / 2 ^ (8 * k).toNat)) (by decide +kernel) (w_shr w (by omega) (by omega)) ?_
      refine a_ldc2_w (pc := 92) (n := 255) (by decide +kernel) kc_X12_193 ?_
      refine a_land (pc := 95) (by decide +kernel) ?_
      have hg9 := hok k (by omega) (by omega)
      refine a_l2i (pc := 96) (v := Int32.ofInt (f_byte w k)) (by decide +kernel) (w_byteB w) ?_
      have qb := f_byte_in w k
      refine b_iastore (pc := 97) (by decide +kernel) (sh_71 hn) (by omega) (by omega) (by omega) ?_
      obtain ⟨σ1, hσ1⟩ : ∃ z, z = k_sA τ 71 (j_up (τ.1 71) (c + (m - 1 - k)) (f_byte w k)) := ⟨_, rfl⟩
      rw [← hσ1]
      have hcσ1 : σ1.2.1 68 7 = c + (m - 1 - k) := by rw [hσ1]; exact hct
      have e71σ1 : σ1.1 71 = j_up (τ.1 71) (c + (m - 1 - k)) (f_byte w k) := by rw [hσ1, k_AA]
      refine a_aload_n (pc := 98) (i := 0) (by decide +kernel) rfl ?_
      refine a_dup (pc := 99) (by decide +kernel) rfl ?_
      refine b_getI (pc := 100) fl_X12_195 (by decide +kernel) (sh_68 hn) rfl ?_
      rw [show σ1.2.1 68 7 = τ.2.1 68 7 by rw [hσ1]; rfl]
      rw [show τ.2.1 68 7 = c + (m - 1 - k) from hct]
      refine a_iconst (pc := 103) (n := 1) (by decide +kernel) ?_
      refine a_iadd (pc := 104) (by decide +kernel) ?_
      refine b_putI (pc := 105) fl_X12_195 (by decide +kernel) (sh_68 hn) rfl rfl rfl ?_
      obtain ⟨σ2, hσ2⟩ : ∃ z, z = k_sI σ1 68 7 ((c + (m - 1 - k)) + 1) := ⟨_, rfl⟩
      rw [← hσ2]
      refine a_iinc (pc := 108) (i := 4) (n := -1) (x := k) (lv' := [(0, .ref 68), (1, .long w), (3, j_i m), (4, j_i (k + (-1)))]) (by decide +kernel) rfl (Nat.le_of_ble_eq_true rfl) rfl ?_
      refine a_goto (pc := 111) (off := -39) (tgt := 72) (by decide +kernel) (by decide) ?_
      have e7 : σ2.2.1 68 7 = c + (m - 1 - (k + -1)) := by rw [hσ2, k_II]; omega
      exact ih (k + -1) σ2 (by omega) (by omega) (by omega) ⟨fun q q1 => by rw [hσ2, k_I1, hσ1, k_AN q1]; exact hf.1 q q1, fun q j q1 => by rw [hσ2, k_IN q1, hσ1]; exact hf.2.1 q j q1, by rw [hσ2, hσ1]; exact hf.2.2⟩ e7 (by rw [hσ2, k_I1, e71σ1, show m - 1 - (k + -1) = m - 1 - k + 1 by omega]; exact nm_s hst (by omega) (by congr 1; omega))
set_option maxHeartbeats 4000000 in
theorem l_dname16 {G : j_G} {X : k_X} {n : Nat} {σ : k_St} (hn : 101 ≤ n) {w : Int64} {m : Int} (hm : 1 ≤ m ∧ m ≤ 8) (hc : 0 ≤ σ.2.1 68 7 ∧ σ.2.1 68 7 ≤ 16)  : ∀ (z : Nat) (k : Int), m - k < (z : Int) → 0 ≤ k → k ≤ m → (∀ j, 0 ≤ j → j < k → 32 ≤ f_byte w j ∧ f_byte w j ≤ 126) → j_at G mX12_name 16 [(0, .ref 68), (1, .long w), (3, j_i m), (4, j_i k)] [] (k_h X n σ) 0 0 (k_Q X (fun v n' σ' => ∃ r : Int, v = some (j_i r) ∧ n' = n ∧ nm_D σ w m r σ')) := by
  intro z
  induction z with
  | zero => intro k h1 h2 h3; exact absurd h1 (by omega)
  | succ z ih =>
    intro k hz h0 hk hI
    refine a_iload (pc := 16) (i := 4) (by decide +kernel) rfl ?_
    refine a_iload_n (pc := 18) (i := 3) (by decide +kernel) rfl ?_
    refine a_icmp_ge (pc := 19) (off := 34) (tgt := 53) (by decide +kernel) (by decide) (by omega) (by omega) (fun c19 => ?_) (fun c19 => ?_)
    · refine a_aload_n (pc := 53) (i := 0) (by decide +kernel) rfl ?_
      refine b_getI (pc := 54) fl_X12_195 (by decide +kernel) (sh_68 hn) rfl ?_
      refine a_iload_n (pc := 57) (i := 3) (by decide +kernel) rfl ?_
      refine a_iadd (pc := 58) (by decide +kernel) ?_
      refine a_bipush (pc := 59) (n := 16) (by decide +kernel) rfl ?_
      refine a_icmp_le (pc := 61) (off := 6) (tgt := 67) (by decide +kernel) (by decide) (by omega) (by omega) (fun c61 => ?_) (fun c61 => ?_)
      · refine a_iload_n (pc := 67) (i := 3) (by decide +kernel) rfl ?_
        refine a_iconst (pc := 68) (n := 1) (by decide +kernel) ?_
        refine a_isub (pc := 69) (by decide +kernel) ?_
        refine a_istore (pc := 70) (i := 4) (lv' := [(0, .ref 68), (1, .long w), (3, j_i m), (4, j_i (m - 1))]) (by decide +kernel) (Nat.le_of_ble_eq_true rfl) rfl ?_
        have hok : nm_ok w m := fun j j0 j1 => hI j j0 (by omega)
        exact l_dname72 hn hm hok rfl (by omega) 10 (m - 1) σ (by omega) (by omega) (by omega) ⟨fun _ _ => rfl, fun _ _ _ => rfl, rfl⟩ (by omega) (by rw [show m - 1 - (m - 1) = 0 by omega]; exact nm_0)
      · refine a_bipush (pc := 64) (n := (-4)) (by decide +kernel) rfl ?_
        refine a_ireturn (pc := 66) (by decide +kernel) rfl ?_
        refine k_ret ?_
        exact ⟨_, rfl, rfl, Or.inr (Or.inr (Or.inl ⟨hm, fun j j0 j1 => hI j j0 (by omega), by omega, rfl, rfl⟩))⟩
    · refine a_lload_n (pc := 22) (i := 1) (by decide +kernel) rfl ?_
      refine a_bipush (pc := 23) (n := 8) (by decide +kernel) rfl ?_
      refine a_iload (pc := 25) (i := 4) (by decide +kernel) rfl ?_
      refine a_imul (pc := 27) (by decide +kernel) ?_
      refine a_lushr (pc := 28) (v := lN (w.toBitVec.toNat / 2 ^ (8 * k).toNat)) (by decide +kernel) (w_shr w (by omega) (by omega)) ?_
      refine a_ldc2_w (pc := 29) (n := 255) (by decide +kernel) kc_X12_193 ?_
      refine a_land (pc := 32) (by decide +kernel) ?_
      refine a_l2i (pc := 33) (v := Int32.ofInt (f_byte w k)) (by decide +kernel) (w_byteB w) ?_
      have qb := f_byte_in w k
      refine a_bipush (pc := 34) (n := 32) (by decide +kernel) rfl ?_
      refine a_bipush (pc := 36) (n := 126) (by decide +kernel) rfl ?_
      refine b_callS (pc := 38) (c' := 0) (sl' := 0) [j_i (f_byte w k), j_i 32, j_i 126] [] ml_X12_128 (by decide +kernel) rfl rfl (Nat.le_of_ble_eq_true rfl) (j_fitI rfl rfl) (s_dwithin (by omega) (by omega) (by omega)) (fun v n' σ' hq => ?_)
      obtain ⟨x, rfl, e1, e2, hx⟩ := hq
      rw [e1, e2]; clear e1 e2
      rcases hx with ⟨rfl, p38⟩ | ⟨rfl, p38⟩
      · show j_at _ _ _ [(0, .ref 68), (1, .long w), (3, j_i m), (4, j_i k)] [j_i 1] _ _ _ _
        refine a_if_ne (pc := 41) (off := 6) (tgt := 47) (by decide +kernel) (by decide) (by omega) (fun c41 => ?_) (fun c41 => ?_)
        · refine a_iinc (pc := 47) (i := 4) (n := 1) (x := k) (lv' := [(0, .ref 68), (1, .long w), (3, j_i m), (4, j_i (k + 1))]) (by decide +kernel) rfl (Nat.le_of_ble_eq_true rfl) rfl ?_
          refine a_goto (pc := 50) (off := -34) (tgt := 16) (by decide +kernel) (by decide) ?_
          exact ih (k + 1) (by omega) (by omega) (by omega) (fun j j0 j1 => by by_cases g : j = k; rw [g]; omega; exact hI j j0 (by omega))
        · exact absurd c41 (by decide)
      · show j_at _ _ _ [(0, .ref 68), (1, .long w), (3, j_i m), (4, j_i k)] [j_i 0] _ _ _ _
        refine a_if_ne (pc := 41) (off := 6) (tgt := 47) (by decide +kernel) (by decide) (by omega) (fun c41 => ?_) (fun c41 => ?_)
        · exact absurd c41 (by decide)
        · refine a_bipush (pc := 44) (n := (-2)) (by decide +kernel) rfl ?_
          refine a_ireturn (pc := 46) (by decide +kernel) rfl ?_
          refine k_ret ?_
          exact ⟨_, rfl, rfl, Or.inr (Or.inl ⟨hm, fun g => by have := g k h0 (by omega); omega, rfl, rfl⟩)⟩
set_option maxHeartbeats 4000000 in
theorem d_name {G : j_G} {X : k_X} {n : Nat} {σ : k_St} (hn : 101 ≤ n) (hL : 0 ≤ σ.2.1 68 7 ∧ σ.2.1 68 7 ≤ 16) {w : Int64} {m : Int} (hm : -2147483648 ≤ m ∧ m ≤ 2147483647)  : k_run G X mX12_name [.ref 68, .long w, j_i m] n σ 0 0 (fun v n' σ' => ∃ r : Int, v = some (j_i r) ∧ n' = n ∧ nm_D σ w m r σ') := by
  refine k_enter (by decide +kernel) (Nat.le_of_ble_eq_true rfl) ?_
  show j_at _ _ _ [(0, .ref 68), (1, .long w), (3, j_i m)] [] _ _ _ _
  refine a_iload_n (pc := 0) (i := 3) (by decide +kernel) rfl ?_
  refine a_iconst (pc := 1) (n := 1) (by decide +kernel) ?_
  refine a_bipush (pc := 2) (n := 8) (by decide +kernel) rfl ?_
  refine b_callS (pc := 4) (c' := 0) (sl' := 0) [j_i m, j_i 1, j_i 8] [] ml_X12_128 (by decide +kernel) rfl rfl (Nat.le_of_ble_eq_true rfl) (j_fitI rfl rfl) (s_dwithin (by omega) (by omega) (by omega)) (fun v n' σ' hq => ?_)
  obtain ⟨x, rfl, e1, e2, hx⟩ := hq
  rw [e1, e2]; clear e1 e2
  rcases hx with ⟨rfl, p4⟩ | ⟨rfl, p4⟩
  · show j_at _ _ _ [(0, .ref 68), (1, .long w), (3, j_i m)] [j_i 1] _ _ _ _
    refine a_if_ne (pc := 7) (off := 6) (tgt := 13) (by decide +kernel) (by decide) (by omega) (fun c7 => ?_) (fun c7 => ?_)
    · refine a_iconst (pc := 13) (n := 0) (by decide +kernel) ?_
      refine a_istore (pc := 14) (i := 4) (lv' := [(0, .ref 68), (1, .long w), (3, j_i m), (4, j_i 0)]) (by decide +kernel) (Nat.le_of_ble_eq_true rfl) rfl ?_
      exact l_dname16 hn (by omega) hL 10 0 (by omega) (by omega) (by omega) (fun j j0 j1 => absurd j0 (by omega))
    · exact absurd c7 (by decide)
  · show j_at _ _ _ [(0, .ref 68), (1, .long w), (3, j_i m)] [j_i 0] _ _ _ _
    refine a_if_ne (pc := 7) (off := 6) (tgt := 13) (by decide +kernel) (by decide) (by omega) (fun c7 => ?_) (fun c7 => ?_)
    · exact absurd c7 (by decide)
    · refine a_bipush (pc := 10) (n := (-2)) (by decide +kernel) rfl ?_
      refine a_ireturn (pc := 12) (by decide +kernel) rfl ?_
      refine k_ret ?_
      exact ⟨_, rfl, rfl, Or.inl ⟨by omega, rfl, rfl⟩⟩
/-- all but THE NAME -/
theorem RR_nm {n : Nat} {σ τ : k_St} (h1 : ∀ c, c ≠ 31 → c ≠ 32 → c ≠ 71 → τ.1 c = σ.1 c) (h2 : ∀ c j, ¬ (c = 68 ∧ j = 7) → τ.2.1 c j = σ.2.1 c j) (h3 : τ.2.2 = σ.2.2) (hN : RName τ) (hR : RR n σ) : RR n τ := by
  obtain ⟨r1, r2, r3, r4, r5, r6, r7⟩ := hR
  exact ⟨RKept_cg (fun c _ _ => h1 c (by omega) (by omega) (by omega)) (fun c j _ _ => h2 c j (by omega)) (h1 69 (by omega) (by omega) (by omega)) r1, RActs_cg (fun c _ => h1 c (by omega) (by omega) (by omega)) (fun c j _ => h2 c j (by omega)) (by rw [h3]) r2, hN, RPass_cg (h1 _ (by omega) (by omega) (by omega)) (h1 _ (by omega) (by omega) (by omega)) (h1 _ (by omega) (by omega) (by omega)) (h1 _ (by omega) (by omega) (by omega)) (h2 _ _ (by omega)) (h2 _ _ (by omega)) r4, RPart_cg (fun c _ _ => h1 c (by omega) (by omega) (by omega)) (fun c _ _ => h1 c (by omega) (by omega) (by omega)) (h2 _ _ (by omega)) (h2 _ _ (by omega)) r5, RSmall_cg (fun j _ _ => h2 5 j (by omega)) (fun j _ => h2 68 j (by omega)) r6, RIdx_cg (fun c _ _ _ => h1 c (by omega) (by omega) (by omega)) (fun c j _ => h2 c j (by omega)) (fun c _ => h1 c (by omega) (by omega) (by omega)) (fun j _ => h2 68 j (by omega)) (by rw [h3]) r7⟩
theorem p_name {G : j_G} {X : k_X} {n : Nat} {σ : k_St} (hR : RR n σ) {w : Int64} {m : Int} (hm : -2147483648 ≤ m ∧ m ≤ 2147483647) : pr_ok G X mX11_name mX12_name [.long w, j_i m] n σ 0 0 := by
  have hn := RR_n hR
  refine ⟨_, c_name hR hm, fun v n' σ' hq => ?_⟩
  obtain ⟨r, hv, rfl, hC⟩ := hq
  obtain ⟨N1, N2, N3, N4⟩ := hR.2.2.1
  have hL : σ'.2.1 68 7 = σ.2.1 68 7 := by
    rcases hC with ⟨_, _, q⟩ | ⟨_, _, _, q⟩ | ⟨_, _, _, _, q⟩ | ⟨_, _, _, _, q, _⟩
    · rw [q]
    · rw [q]
    · rw [q]
    · rw [q.2]
  refine ⟨hn, r, hv, k_runw (fun v2 n2 σ2 q => ?_) (d_name hn (by rw [hL]; exact N1) hm)⟩
  obtain ⟨r2, q1, rfl, hD⟩ := q
  rw [q1]
  rcases hC with ⟨c1, c2, c3⟩ | ⟨c1, c2, c3, c4⟩ | ⟨c1, c2, c3, c4, c5⟩ | ⟨c1, c2, c3, c4, c5, c6, c7⟩
  · subst c3
    rcases hD with ⟨d1, d2, d3⟩ | ⟨d1, _⟩ | ⟨d1, _⟩ | ⟨d1, _⟩
    · subst d3; exact ⟨by rw [c2, d2], hR⟩
    · exact absurd d1 c1
    · exact absurd d1 c1
    · exact absurd d1 c1
  · subst c4
    rcases hD with ⟨d1, _⟩ | ⟨d1, d2, d3, d4⟩ | ⟨d1, d2, _⟩ | ⟨d1, d2, _⟩
    · exact absurd c1 d1
    · subst d4; exact ⟨by rw [c3, d3], hR⟩
    · exact absurd d2 c2
    · exact absurd d2 c2
  · subst c5
    rw [N2] at c3
    rcases hD with ⟨d1, _⟩ | ⟨d1, d2, _⟩ | ⟨d1, d2, d3, d4, d5⟩ | ⟨d1, d2, d3, _⟩
    · exact absurd c1 d1
    · exact absurd c2 d2
    · subst d5; exact ⟨by rw [c4, d4], hR⟩
    · omega
  · rw [N2] at c3 c4 c6 c7
    rcases hD with ⟨d1, _⟩ | ⟨d1, d2, _⟩ | ⟨d1, d2, d3, _⟩ | ⟨d1, d2, d3, d4, d5, d6, d7⟩
    · exact absurd c1 d1
    · exact absurd c2 d2
    · rw [hL] at d3; omega
    · rw [hL] at d3 d4 d6 d7
      refine ⟨by rw [c4, d4], RR_nm (σ := σ) (fun c g1 g2 g3 => by rw [d5.1 c g3, c5.1 c g1 g2]) (fun c j g => by rw [d5.2.1 c j g, c5.2]) (by rw [d5.2.2, c5.2]) ?_ hR⟩
      have e31 : σ2.1 31 = σ'.1 31 := d5.1 31 (by omega)
      have e32 : σ2.1 32 = σ'.1 32 := d5.1 32 (by omega)
      have e71 : σ'.1 71 = σ.1 71 := c5.1 71 (by omega) (by omega)
      rw [e71] at d7
      have hb : ∀ k, 0 ≤ k → k < m → 32 ≤ f_byte w (m - 1 - k) ∧ f_byte w (m - 1 - k) ≤ 126 := fun k k0 k1 => c2 _ (by omega) (by omega)
      unfold RName
      rw [e31, e32, d6]
      refine ⟨by omega, c6, fun i => ?_, fun i i0 i1 => ?_⟩
      · by_cases g : σ.2.1 68 7 ≤ i ∧ i < σ.2.1 68 7 + m
        · have := c7.2 (i - σ.2.1 68 7) (by omega) (by omega)
          rw [show σ.2.1 68 7 + (i - σ.2.1 68 7) = i by omega] at this
          have := hb (i - σ.2.1 68 7) (by omega) (by omega)
          omega
        · rw [c7.1 i (by omega)]; exact N3 i
      · by_cases g : i < σ.2.1 68 7
        · rw [c7.1 i (by omega), d7.1 i (by omega)]; exact N4 i i0 g
        · have x1 := c7.2 (i - σ.2.1 68 7) (by omega) (by omega)
          have x2 := d7.2 (i - σ.2.1 68 7) (by omega) (by omega)
          rw [show σ.2.1 68 7 + (i - σ.2.1 68 7) = i by omega] at x1 x2
          have := hb (i - σ.2.1 68 7) (by omega) (by omega)
          omega
set_option maxHeartbeats 4000000 in
theorem c_unname {G : j_G} {X : k_X} {n : Nat} {σ : k_St} (hn : 101 ≤ n) (hwn : r_wf σ 30 1)  : k_run G X mX11_unname [.ref 5] n σ 0 0 (k_is n (k_sA σ 32 (j_up (σ.1 32) 0 0)) (some (j_i (σ.1 32 0)))) := by
  refine k_enter (by decide +kernel) (Nat.le_of_ble_eq_true rfl) ?_
  show j_at _ _ _ [(0, .ref 5)] [] _ _ _ _
  refine a_aload_n (pc := 0) (i := 0) (by decide +kernel) rfl ?_
  refine b_getR (pc := 1) (b := 30) fl_X11_45 (by decide +kernel) (sh_5 hn) rfl ?_
  refine a_iconst (pc := 4) (n := 0) (by decide +kernel) ?_
  refine b_pureV (pc := 5) [j_i 0] [] ml_X11_158 (by decide +kernel) rfl rfl (sh_30 hn) rfl rfl (Nat.le_of_ble_eq_true rfl) (j_fitI rfl rfl) (s_countOf (rA_30 hn) hwn (by omega)) ?_
  rw [show r_cnt σ 30 1 0 = σ.1 32 0 by unfold r_cnt; rw [if_pos (by omega)]]
  show j_at _ _ _ [(0, .ref 5)] [j_i (σ.1 32 0)] _ _ _ _
  refine a_istore_n (pc := 8) (i := 1) (lv' := [(0, .ref 5), (1, j_i (σ.1 32 0))]) (by decide +kernel) (Nat.le_of_ble_eq_true rfl) rfl ?_
  refine a_aload_n (pc := 9) (i := 0) (by decide +kernel) rfl ?_
  refine b_getR (pc := 10) (b := 30) fl_X11_45 (by decide +kernel) (sh_5 hn) rfl ?_
  refine a_iconst (pc := 13) (n := 0) (by decide +kernel) ?_
  refine b_callV (pc := 14) (c' := 0) (sl' := 0) [j_i 0] [] ml_X11_164 (by decide +kernel) rfl rfl (sh_30 hn) rfl rfl (Nat.le_of_ble_eq_true rfl) (j_fitI rfl rfl) (s_clear (rA_30 hn) (by omega) (by omega)) (fun v n' σ' hq => ?_)
  obtain ⟨rfl, e1, e2⟩ := hq
  rw [e1, e2]; clear e1 e2
  obtain ⟨σ1, hσ1⟩ : ∃ z, z = k_sA σ 32 (j_up (σ.1 32) 0 0) := ⟨_, rfl⟩
  rw [← hσ1]
  show j_at _ _ _ [(0, .ref 5), (1, j_i (σ.1 32 0))] [] _ _ _ _
  refine a_iload_n (pc := 17) (i := 1) (by decide +kernel) rfl ?_
  refine a_ireturn (pc := 18) (by decide +kernel) rfl ?_
  refine k_ret ?_
  exact ⟨rfl, rfl, by first | rw [hσ1] | rfl⟩
set_option maxHeartbeats 4000000 in
theorem d_unname {G : j_G} {X : k_X} {n : Nat} {σ : k_St} (hn : 101 ≤ n)  : k_run G X mX12_unname [.ref 68] n σ 0 0 (k_is n (k_sI σ 68 7 0) (some (j_i (σ.2.1 68 7)))) := by
  refine k_enter (by decide +kernel) (Nat.le_of_ble_eq_true rfl) ?_
  show j_at _ _ _ [(0, .ref 68)] [] _ _ _ _
  refine a_aload_n (pc := 0) (i := 0) (by decide +kernel) rfl ?_
  refine b_getI (pc := 1) fl_X12_195 (by decide +kernel) (sh_68 hn) rfl ?_
  refine a_istore_n (pc := 4) (i := 1) (lv' := [(0, .ref 68), (1, j_i (σ.2.1 68 7))]) (by decide +kernel) (Nat.le_of_ble_eq_true rfl) rfl ?_
  refine a_aload_n (pc := 5) (i := 0) (by decide +kernel) rfl ?_
  refine a_iconst (pc := 6) (n := 0) (by decide +kernel) ?_
  refine b_putI (pc := 7) fl_X12_195 (by decide +kernel) (sh_68 hn) rfl rfl rfl ?_
  obtain ⟨σ1, hσ1⟩ : ∃ z, z = k_sI σ 68 7 0 := ⟨_, rfl⟩
  rw [← hσ1]
  refine a_iload_n (pc := 10) (i := 1) (by decide +kernel) rfl ?_
  refine a_ireturn (pc := 11) (by decide +kernel) rfl ?_
  refine k_ret ?_
  exact ⟨rfl, rfl, by first | rw [hσ1] | rfl⟩
theorem p_unname {G : j_G} {X : k_X} {n : Nat} {σ : k_St} (hR : RR n σ) : pr_ok G X mX11_unname mX12_unname [] n σ 0 0 := by
  have hn := RR_n hR
  obtain ⟨N1, N2, N3, N4⟩ := hR.2.2.1
  refine ⟨_, c_unname hn (RN_wf hR.2.2.1), fun v n' σ' hq => ?_⟩
  obtain ⟨hv, rfl, rfl⟩ := hq
  refine ⟨hn, _, hv, k_runw (fun v2 n2 σ2 q => ?_) (d_unname hn)⟩
  obtain ⟨q1, rfl, rfl⟩ := q
  refine ⟨by rw [q1, N2]; rfl, RR_nm (σ := σ) (fun c g1 g2 g3 => by rw [k_I1, k_AN g2]) (fun c j g => by rw [k_IN g]; rfl) rfl ?_ hR⟩
  unfold RName
  rw [k_I1, k_AN (by omega), k_AA, k_AN (by omega), k_II]
  exact ⟨by omega, j_upS, N3, fun i i0 i1 => absurd i0 (by omega)⟩
