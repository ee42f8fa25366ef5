set_option maxHeartbeats 4000000 in
theorem s_disEntry {G : j_G} {X : k_X} {n : Nat} {σ : k_St} (hn : 101 ≤ n) (hE : 0 ≤ σ.2.1 68 25 ∧ σ.2.1 68 25 ≤ 200) {e : Int} (he : -2147483648 ≤ e ∧ e ≤ 2147483647) : k_run G X mX12_isEntry [.ref 68, j_i e] n σ 0 0 (k_b n σ (0 ≤ e ∧ e < σ.2.1 68 25)) := by
  refine k_enter (by decide +kernel) (Nat.le_of_ble_eq_true rfl) ?_
  show j_at _ _ _ [(0, .ref 68), (1, j_i e)] [] _ _ _ _
  refine a_iload_n (pc := 0) (i := 1) (by decide +kernel) rfl ?_
  refine a_if_lt (pc := 1) (off := 15) (tgt := 16) (by decide +kernel) (by decide) (by omega) (fun c1 => ?_) (fun c1 => ?_)
  · refine a_iconst (pc := 16) (n := 0) (by decide +kernel) ?_
    refine a_zreturn (pc := 17) (by decide +kernel) rfl (by omega) ?_
    refine k_ret ?_
    exact k_bn (by omega)
  · refine a_iload_n (pc := 4) (i := 1) (by decide +kernel) rfl ?_
    refine a_aload_n (pc := 5) (i := 0) (by decide +kernel) rfl ?_
    refine b_getI (pc := 6) fl_X12_281 (by decide +kernel) (sh_68 hn) rfl ?_
    refine a_icmp_ge (pc := 9) (off := 7) (tgt := 16) (by decide +kernel) (by decide) (by omega) (by omega) (fun c9 => ?_) (fun c9 => ?_)
    · refine a_iconst (pc := 16) (n := 0) (by decide +kernel) ?_
      refine a_zreturn (pc := 17) (by decide +kernel) rfl (by omega) ?_
      refine k_ret ?_
      exact k_bn (by omega)
    · refine a_iconst (pc := 12) (n := 1) (by decide +kernel) ?_
      refine a_goto (pc := 13) (off := 4) (tgt := 17) (by decide +kernel) (by decide) ?_
      refine a_zreturn (pc := 17) (by decide +kernel) rfl (by omega) ?_
      refine k_ret ?_
      exact k_by (by omega)
/-- how many heads the path of entry e has -/
def d_dp (F : Int → Int) (e : Int) : Int := if F (3 * e + 1) = -9 then 1 else if F (3 * e + 2) = -9 then 2 else 3
theorem d_dp_in (F : Int → Int) (e : Int) : 1 ≤ d_dp F e ∧ d_dp F e ≤ 3 := by unfold d_dp; split; omega; split <;> omega
def d_ip (F : Int → Int) (e a b c : Int) : Prop := F (3 * e) = a ∧ F (3 * e + 1) = b ∧ F (3 * e + 2) = c
/-- entry f lies just within entry e -/
def d_ch (F : Int → Int) (e f : Int) : Prop := d_dp F f = d_dp F e + 1 ∧ ∀ i, 0 ≤ i → i < d_dp F e → F (3 * e + i) = F (3 * f + i)
/-- the last of the first m entries with that path, or -9 -/
def d_eo (F : Int → Int) (m a b c r : Int) : Prop := (r = -9 ∧ ∀ e, 0 ≤ e → e < m → ¬ d_ip F e a b c) ∨ (0 ≤ r ∧ r < m ∧ d_ip F r a b c ∧ ∀ e, r < e → e < m → ¬ d_ip F e a b c)
set_option maxHeartbeats 4000000 in
theorem s_ddeepOf {G : j_G} {X : k_X} {n : Nat} {σ : k_St} (hn : 101 ≤ n) (hE : 0 ≤ σ.2.1 68 25 ∧ σ.2.1 68 25 ≤ 200) (hpr : ∀ i k, 0 ≤ i → i < σ.2.1 68 25 → 0 ≤ k → k < 3 → -9 ≤ σ.1 81 (3 * i + k) ∧ σ.1 81 (3 * i + k) ≤ 29) {e : Int} (he : 0 ≤ e ∧ e < σ.2.1 68 25)  : k_run G X mX12_deepOf [.ref 68, j_i e] n σ 0 0 (k_is n σ (some (j_i (d_dp (σ.1 81) e)))) := by
  have q0 := hpr e 0 (by omega) (by omega) (by omega) (by omega)
  rw [show 3 * e + 0 = 3 * e by omega] at q0
  have q1 := hpr e 1 (by omega) (by omega) (by omega) (by omega)
  have q2 := hpr e 2 (by omega) (by omega) (by omega) (by omega)
  refine k_enter (by decide +kernel) (Nat.le_of_ble_eq_true rfl) ?_
  show j_at _ _ _ [(0, .ref 68), (1, j_i e)] [] _ _ _ _
  refine a_aload_n (pc := 0) (i := 0) (by decide +kernel) rfl ?_
  refine b_getR (pc := 1) (b := 81) fl_X12_51 (by decide +kernel) (sh_68 hn) rfl ?_
  refine a_iconst (pc := 4) (n := 3) (by decide +kernel) ?_
  refine a_iload_n (pc := 5) (i := 1) (by decide +kernel) rfl ?_
  refine a_imul (pc := 6) (by decide +kernel) ?_
  refine a_iconst (pc := 7) (n := 1) (by decide +kernel) ?_
  refine a_iadd (pc := 8) (by decide +kernel) ?_
  refine b_iaload (pc := 9) (by decide +kernel) (sh_81 hn) (by omega) (by omega) (by omega) ?_
  refine a_bipush (pc := 10) (n := (-9)) (by decide +kernel) rfl ?_
  refine a_icmp_ne (pc := 12) (off := 7) (tgt := 19) (by decide +kernel) (by decide) (by omega) (by omega) (fun c12 => ?_) (fun c12 => ?_)
  · refine a_aload_n (pc := 19) (i := 0) (by decide +kernel) rfl ?_
    refine b_getR (pc := 20) (b := 81) fl_X12_51 (by decide +kernel) (sh_68 hn) rfl ?_
    refine a_iconst (pc := 23) (n := 3) (by decide +kernel) ?_
    refine a_iload_n (pc := 24) (i := 1) (by decide +kernel) rfl ?_
    refine a_imul (pc := 25) (by decide +kernel) ?_
    refine a_iconst (pc := 26) (n := 2) (by decide +kernel) ?_
    refine a_iadd (pc := 27) (by decide +kernel) ?_
    refine b_iaload (pc := 28) (by decide +kernel) (sh_81 hn) (by omega) (by omega) (by omega) ?_
    refine a_bipush (pc := 29) (n := (-9)) (by decide +kernel) rfl ?_
    refine a_icmp_ne (pc := 31) (off := 7) (tgt := 38) (by decide +kernel) (by decide) (by omega) (by omega) (fun c31 => ?_) (fun c31 => ?_)
    · refine a_iconst (pc := 38) (n := 3) (by decide +kernel) ?_
      refine a_ireturn (pc := 39) (by decide +kernel) rfl ?_
      refine k_ret ?_
      refine ⟨?_, rfl, rfl⟩
      unfold d_dp
      first | rw [if_pos (by omega)] | rw [if_neg (by omega), if_pos (by omega)] | rw [if_neg (by omega), if_neg (by omega)]
    · refine a_iconst (pc := 34) (n := 2) (by decide +kernel) ?_
      refine a_goto (pc := 35) (off := 4) (tgt := 39) (by decide +kernel) (by decide) ?_
      refine a_ireturn (pc := 39) (by decide +kernel) rfl ?_
      refine k_ret ?_
      refine ⟨?_, rfl, rfl⟩
      unfold d_dp
      first | rw [if_pos (by omega)] | rw [if_neg (by omega), if_pos (by omega)] | rw [if_neg (by omega), if_neg (by omega)]
  · refine a_iconst (pc := 15) (n := 1) (by decide +kernel) ?_
    refine a_goto (pc := 16) (off := 23) (tgt := 39) (by decide +kernel) (by decide) ?_
    refine a_ireturn (pc := 39) (by decide +kernel) rfl ?_
    refine k_ret ?_
    refine ⟨?_, rfl, rfl⟩
    unfold d_dp
    first | rw [if_pos (by omega)] | rw [if_neg (by omega), if_pos (by omega)] | rw [if_neg (by omega), if_neg (by omega)]
set_option maxHeartbeats 4000000 in
theorem s_disPath {G : j_G} {X : k_X} {n : Nat} {σ : k_St} (hn : 101 ≤ n) (hE : 0 ≤ σ.2.1 68 25 ∧ σ.2.1 68 25 ≤ 200) (hpr : ∀ i k, 0 ≤ i → i < σ.2.1 68 25 → 0 ≤ k → k < 3 → -9 ≤ σ.1 81 (3 * i + k) ∧ σ.1 81 (3 * i + k) ≤ 29) {e : Int} (he : 0 ≤ e ∧ e < σ.2.1 68 25) {a : Int} (ha : -2147483648 ≤ a ∧ a ≤ 2147483647) {b : Int} (hb : -2147483648 ≤ b ∧ b ≤ 2147483647) {c : Int} (hc : -2147483648 ≤ c ∧ c ≤ 2147483647)  : k_run G X mX12_isPath [.ref 68, j_i e, j_i a, j_i b, j_i c] n σ 0 0 (k_b n σ (d_ip (σ.1 81) e a b c)) := by
  have q0 := hpr e 0 (by omega) (by omega) (by omega) (by omega)
  rw [show 3 * e + 0 = 3 * e by omega] at q0
  have q1 := hpr e 1 (by omega) (by omega) (by omega) (by omega)
  have q2 := hpr e 2 (by omega) (by omega) (by omega) (by omega)
  refine k_enter (by decide +kernel) (Nat.le_of_ble_eq_true rfl) ?_
  show j_at _ _ _ [(0, .ref 68), (1, j_i e), (2, j_i a), (3, j_i b), (4, j_i c)] [] _ _ _ _
  refine a_aload_n (pc := 0) (i := 0) (by decide +kernel) rfl ?_
  refine b_getR (pc := 1) (b := 81) fl_X12_51 (by decide +kernel) (sh_68 hn) rfl ?_
  refine a_iconst (pc := 4) (n := 3) (by decide +kernel) ?_
  refine a_iload_n (pc := 5) (i := 1) (by decide +kernel) rfl ?_
  refine a_imul (pc := 6) (by decide +kernel) ?_
  refine b_iaload (pc := 7) (by decide +kernel) (sh_81 hn) (by omega) (by omega) (by omega) ?_
  refine a_iload_n (pc := 8) (i := 2) (by decide +kernel) rfl ?_
  refine a_icmp_ne (pc := 9) (off := 36) (tgt := 45) (by decide +kernel) (by decide) (by omega) (by omega) (fun c9 => ?_) (fun c9 => ?_)
  · refine a_iconst (pc := 45) (n := 0) (by decide +kernel) ?_
    refine a_zreturn (pc := 46) (by decide +kernel) rfl (by omega) ?_
    refine k_ret ?_
    exact k_bn (by unfold d_ip; omega)
  · refine a_aload_n (pc := 12) (i := 0) (by decide +kernel) rfl ?_
    refine b_getR (pc := 13) (b := 81) fl_X12_51 (by decide +kernel) (sh_68 hn) rfl ?_
    refine a_iconst (pc := 16) (n := 3) (by decide +kernel) ?_
    refine a_iload_n (pc := 17) (i := 1) (by decide +kernel) rfl ?_
    refine a_imul (pc := 18) (by decide +kernel) ?_
    refine a_iconst (pc := 19) (n := 1) (by decide +kernel) ?_
    refine a_iadd (pc := 20) (by decide +kernel) ?_
    refine b_iaload (pc := 21) (by decide +kernel) (sh_81 hn) (by omega) (by omega) (by omega) ?_
    refine a_iload_n (pc := 22) (i := 3) (by decide +kernel) rfl ?_
    refine a_icmp_ne (pc := 23) (off := 22) (tgt := 45) (by decide +kernel) (by decide) (by omega) (by omega) (fun c23 => ?_) (fun c23 => ?_)
    · refine a_iconst (pc := 45) (n := 0) (by decide +kernel) ?_
      refine a_zreturn (pc := 46) (by decide +kernel) rfl (by omega) ?_
      refine k_ret ?_
      exact k_bn (by unfold d_ip; omega)
    · refine a_aload_n (pc := 26) (i := 0) (by decide +kernel) rfl ?_
      refine b_getR (pc := 27) (b := 81) fl_X12_51 (by decide +kernel) (sh_68 hn) rfl ?_
      refine a_iconst (pc := 30) (n := 3) (by decide +kernel) ?_
      refine a_iload_n (pc := 31) (i := 1) (by decide +kernel) rfl ?_
      refine a_imul (pc := 32) (by decide +kernel) ?_
      refine a_iconst (pc := 33) (n := 2) (by decide +kernel) ?_
      refine a_iadd (pc := 34) (by decide +kernel) ?_
      refine b_iaload (pc := 35) (by decide +kernel) (sh_81 hn) (by omega) (by omega) (by omega) ?_
      refine a_iload (pc := 36) (i := 4) (by decide +kernel) rfl ?_
      refine a_icmp_ne (pc := 38) (off := 7) (tgt := 45) (by decide +kernel) (by decide) (by omega) (by omega) (fun c38 => ?_) (fun c38 => ?_)
      · refine a_iconst (pc := 45) (n := 0) (by decide +kernel) ?_
        refine a_zreturn (pc := 46) (by decide +kernel) rfl (by omega) ?_
        refine k_ret ?_
        exact k_bn (by unfold d_ip; omega)
      · refine a_iconst (pc := 41) (n := 1) (by decide +kernel) ?_
        refine a_goto (pc := 42) (off := 4) (tgt := 46) (by decide +kernel) (by decide) ?_
        refine a_zreturn (pc := 46) (by decide +kernel) rfl (by omega) ?_
        refine k_ret ?_
        exact k_by (by unfold d_ip; omega)
set_option maxHeartbeats 4000000 in
theorem l_dentryOf {G : j_G} {X : k_X} {n : Nat} {σ : k_St} (hn : 101 ≤ n) (hE : 0 ≤ σ.2.1 68 25 ∧ σ.2.1 68 25 ≤ 200) (hpr : ∀ i k, 0 ≤ i → i < σ.2.1 68 25 → 0 ≤ k → k < 3 → -9 ≤ σ.1 81 (3 * i + k) ∧ σ.1 81 (3 * i + k) ≤ 29) {a : Int} (ha : -2147483648 ≤ a ∧ a ≤ 2147483647) {b : Int} (hb : -2147483648 ≤ b ∧ b ≤ 2147483647) {c : Int} (hc : -2147483648 ≤ c ∧ c ≤ 2147483647)  : ∀ (m : Nat) (k f : Int), σ.2.1 68 25 - k < (m : Int) → 0 ≤ k → k ≤ σ.2.1 68 25 → d_eo (σ.1 81) k a b c f → j_at G mX12_entryOf 7 [(0, .ref 68), (1, j_i a), (2, j_i b), (3, j_i c), (4, j_i f), (5, j_i k)] [] (k_h X n σ) 0 0 (k_Q X (k_ex n σ (d_eo (σ.1 81) (σ.2.1 68 25) a b c))) := by
  intro m
  induction m with
  | zero => intro k f h1 h2 h3; exact absurd h1 (by omega)
  | succ m ih =>
    intro k f hm h0 hN hI
    have hfr : -9 ≤ f ∧ f < 200 := by rcases hI with q | q <;> omega
    refine a_iload (pc := 7) (i := 5) (by decide +kernel) rfl ?_
    refine a_aload_n (pc := 9) (i := 0) (by decide +kernel) rfl ?_
    refine b_getI (pc := 10) fl_X12_281 (by decide +kernel) (sh_68 hn) rfl ?_
    refine a_icmp_ge (pc := 13) (off := 30) (tgt := 43) (by decide +kernel) (by decide) (by omega) (by omega) (fun c13 => ?_) (fun c13 => ?_)
    · refine a_iload (pc := 43) (i := 4) (by decide +kernel) rfl ?_
      refine a_ireturn (pc := 45) (by decide +kernel) rfl ?_
      refine k_ret ?_
      exact ⟨_, rfl, rfl, rfl, by rw [show σ.2.1 68 25 = k by omega]; exact hI⟩
    · refine a_aload_n (pc := 16) (i := 0) (by decide +kernel) rfl ?_
      refine a_iload (pc := 17) (i := 5) (by decide +kernel) rfl ?_
      refine a_iload_n (pc := 19) (i := 1) (by decide +kernel) rfl ?_
      refine a_iload_n (pc := 20) (i := 2) (by decide +kernel) rfl ?_
      refine a_iload_n (pc := 21) (i := 3) (by decide +kernel) rfl ?_
      refine b_callV (pc := 22) (c' := 0) (sl' := 0) [j_i k, j_i a, j_i b, j_i c] [] ml_X12_284 (by decide +kernel) rfl rfl (sh_68 hn) rfl rfl (Nat.le_of_ble_eq_true rfl) (j_fitI rfl rfl) (s_disPath hn hE hpr (by omega) (by omega) (by omega) (by omega)) (fun v n' σ' hq => ?_)
      obtain ⟨x, rfl, e1, e2, hx⟩ := hq
      rw [e1, e2]; clear e1 e2
      rcases hx with ⟨rfl, p22⟩ | ⟨rfl, p22⟩
      · show j_at _ _ _ [(0, .ref 68), (1, j_i a), (2, j_i b), (3, j_i c), (4, j_i f), (5, j_i k)] [j_i 1] _ _ _ _
        have hy := p22
        refine a_if_eq (pc := 25) (off := 8) (tgt := 33) (by decide +kernel) (by decide) (by omega) (fun c25 => ?_) (fun c25 => ?_)
        · exact absurd c25 (by decide)
        · refine a_iload (pc := 28) (i := 5) (by decide +kernel) rfl ?_
          refine a_goto (pc := 30) (off := 5) (tgt := 35) (by decide +kernel) (by decide) ?_
          refine a_istore (pc := 35) (i := 4) (lv' := [(0, .ref 68), (1, j_i a), (2, j_i b), (3, j_i c), (4, j_i k), (5, j_i k)]) (by decide +kernel) (Nat.le_of_ble_eq_true rfl) rfl ?_
          refine a_iinc (pc := 37) (i := 5) (n := 1) (x := k) (lv' := [(0, .ref 68), (1, j_i a), (2, j_i b), (3, j_i c), (4, j_i k), (5, j_i (k + 1))]) (by decide +kernel) rfl (Nat.le_of_ble_eq_true rfl) rfl ?_
          refine a_goto (pc := 40) (off := -33) (tgt := 7) (by decide +kernel) (by decide) ?_
          refine ih (k + 1) (k) (by omega) (by omega) (by omega) ?_
          exact Or.inr ⟨by omega, by omega, hy, fun e e0 e1 => absurd e0 (by omega)⟩
      · show j_at _ _ _ [(0, .ref 68), (1, j_i a), (2, j_i b), (3, j_i c), (4, j_i f), (5, j_i k)] [j_i 0] _ _ _ _
        have hy := p22
        refine a_if_eq (pc := 25) (off := 8) (tgt := 33) (by decide +kernel) (by decide) (by omega) (fun c25 => ?_) (fun c25 => ?_)
        · refine a_iload (pc := 33) (i := 4) (by decide +kernel) rfl ?_
          refine a_istore (pc := 35) (i := 4) (lv' := [(0, .ref 68), (1, j_i a), (2, j_i b), (3, j_i c), (4, j_i f), (5, j_i k)]) (by decide +kernel) (Nat.le_of_ble_eq_true rfl) rfl ?_
          refine a_iinc (pc := 37) (i := 5) (n := 1) (x := k) (lv' := [(0, .ref 68), (1, j_i a), (2, j_i b), (3, j_i c), (4, j_i f), (5, j_i (k + 1))]) (by decide +kernel) rfl (Nat.le_of_ble_eq_true rfl) rfl ?_
          refine a_goto (pc := 40) (off := -33) (tgt := 7) (by decide +kernel) (by decide) ?_
          refine ih (k + 1) (f) (by omega) (by omega) (by omega) ?_
          rcases hI with ⟨q1, q2⟩ | ⟨q1, q2, q3, q4⟩
          · exact Or.inl ⟨q1, fun e e0 e1 => by by_cases g : e = k; rw [g]; exact hy; exact q2 e e0 (by omega)⟩
          · exact Or.inr ⟨q1, by omega, q3, fun e e0 e1 => by by_cases g : e = k; rw [g]; exact hy; exact q4 e e0 (by omega)⟩
        · exact absurd c25 (by decide)
set_option maxHeartbeats 4000000 in
theorem s_dentryOf {G : j_G} {X : k_X} {n : Nat} {σ : k_St} (hn : 101 ≤ n) (hE : 0 ≤ σ.2.1 68 25 ∧ σ.2.1 68 25 ≤ 200) (hpr : ∀ i k, 0 ≤ i → i < σ.2.1 68 25 → 0 ≤ k → k < 3 → -9 ≤ σ.1 81 (3 * i + k) ∧ σ.1 81 (3 * i + k) ≤ 29) {a : Int} (ha : -2147483648 ≤ a ∧ a ≤ 2147483647) {b : Int} (hb : -2147483648 ≤ b ∧ b ≤ 2147483647) {c : Int} (hc : -2147483648 ≤ c ∧ c ≤ 2147483647)  : k_run G X mX12_entryOf [.ref 68, j_i a, j_i b, j_i c] n σ 0 0 (k_ex n σ (d_eo (σ.1 81) (σ.2.1 68 25) a b c)) := by
  refine k_enter (by decide +kernel) (Nat.le_of_ble_eq_true rfl) ?_
  show j_at _ _ _ [(0, .ref 68), (1, j_i a), (2, j_i b), (3, j_i c)] [] _ _ _ _
  refine a_bipush (pc := 0) (n := (-9)) (by decide +kernel) rfl ?_
  refine a_istore (pc := 2) (i := 4) (lv' := [(0, .ref 68), (1, j_i a), (2, j_i b), (3, j_i c), (4, j_i (-9))]) (by decide +kernel) (Nat.le_of_ble_eq_true rfl) rfl ?_
  refine a_iconst (pc := 4) (n := 0) (by decide +kernel) ?_
  refine a_istore (pc := 5) (i := 5) (lv' := [(0, .ref 68), (1, j_i a), (2, j_i b), (3, j_i c), (4, j_i (-9)), (5, j_i 0)]) (by decide +kernel) (Nat.le_of_ble_eq_true rfl) rfl ?_
  exact l_dentryOf hn hE hpr ha hb hc 201 0 (-9) (by omega) (by omega) (by omega) (Or.inl ⟨rfl, fun e e0 e1 => absurd e0 (by omega)⟩)
set_option maxHeartbeats 4000000 in
theorem l_dch47 {G : j_G} {X : k_X} {n : Nat} {σ : k_St} (hn : 101 ≤ n) (hE : 0 ≤ σ.2.1 68 25 ∧ σ.2.1 68 25 ≤ 200) (hpr : ∀ i k, 0 ≤ i → i < σ.2.1 68 25 → 0 ≤ k → k < 3 → -9 ≤ σ.1 81 (3 * i + k) ∧ σ.1 81 (3 * i + k) ≤ 29) {e : Int} (he : 0 ≤ e ∧ e < σ.2.1 68 25) {k s : Int} (hk : 0 ≤ k ∧ k < σ.2.1 68 25) {Q : k_P} (kk : ∀ i' b' : Int, (b' = 0 ∨ b' = 1) → (b' = 1 ↔ d_ch (σ.1 81) e k) → j_at G mX12_childrenOf 97 [(0, .ref 68), (1, j_i e), (2, j_i s), (3, j_i k), (4, j_i (d_dp (σ.1 81) e)), (5, j_i b'), (6, j_i i')] [] (k_h X n σ) 0 0 (k_Q X Q))  : ∀ (m : Nat) (i b : Int), 4 - i < (m : Int) → 0 ≤ i → i ≤ d_dp (σ.1 81) e → (b = 0 ∧ ¬ d_ch (σ.1 81) e k ∨ b = 1 ∧ d_dp (σ.1 81) k = d_dp (σ.1 81) e + 1 ∧ ∀ j, 0 ≤ j → j < i → σ.1 81 (3 * e + j) = σ.1 81 (3 * k + j)) → j_at G mX12_childrenOf 47 [(0, .ref 68), (1, j_i e), (2, j_i s), (3, j_i k), (4, j_i (d_dp (σ.1 81) e)), (5, j_i b), (6, j_i i)] [] (k_h X n σ) 0 0 (k_Q X Q) := by
  intro m
  induction m with
  | zero => intro i b h1 h2 h3; have := d_dp_in (σ.1 81) e; exact absurd h1 (by omega)
  | succ m ih =>
    intro i b hm h0 hN hb
    have hd := d_dp_in (σ.1 81) e
    have hb01 : b = 0 ∨ b = 1 := by rcases hb with q | q <;> omega
    refine a_iload (pc := 47) (i := 6) (by decide +kernel) rfl ?_
    refine a_iload (pc := 49) (i := 4) (by decide +kernel) rfl ?_
    refine a_icmp_ge (pc := 51) (off := 46) (tgt := 97) (by decide +kernel) (by decide) (by omega) (by omega) (fun c51 => ?_) (fun c51 => ?_)
    · have hfin : b = 1 ↔ d_ch (σ.1 81) e k := by
        rcases hb with ⟨q1, q2⟩ | ⟨q1, q2, q3⟩
        · exact ⟨fun g => by omega, fun g => absurd g q2⟩
        · exact ⟨fun _ => ⟨q2, fun j j0 j1 => q3 j j0 (by omega)⟩, fun _ => q1⟩
      exact kk i b hb01 hfin
    · refine a_iload (pc := 54) (i := 5) (by decide +kernel) rfl ?_
      refine a_if_eq (pc := 56) (off := 41) (tgt := 97) (by decide +kernel) (by decide) (by omega) (fun c56 => ?_) (fun c56 => ?_)
      · have hfin : b = 1 ↔ d_ch (σ.1 81) e k := by
          rcases hb with ⟨q1, q2⟩ | ⟨q1, q2, q3⟩
          · exact ⟨fun g => by omega, fun g => absurd g q2⟩
          · exact ⟨fun _ => ⟨q2, fun j j0 j1 => q3 j j0 (by omega)⟩, fun _ => q1⟩
        exact kk i b hb01 hfin
      · have hb1 : b = 1 := by omega
        have hc0 : d_dp (σ.1 81) k = d_dp (σ.1 81) e + 1 := (hb.resolve_left (fun q => by omega)).2.1
        have x1 := hpr e i (by omega) (by omega) (by omega) (by omega)
        have x2 := hpr k i (by omega) (by omega) (by omega) (by omega)
        refine a_aload_n (pc := 59) (i := 0) (by decide +kernel) rfl ?_
        refine b_getR (pc := 60) (b := 81) fl_X12_51 (by decide +kernel) (sh_68 hn) rfl ?_
        refine a_iconst (pc := 63) (n := 3) (by decide +kernel) ?_
        refine a_iload_n (pc := 64) (i := 1) (by decide +kernel) rfl ?_
        refine a_imul (pc := 65) (by decide +kernel) ?_
        refine a_iload (pc := 66) (i := 6) (by decide +kernel) rfl ?_
        refine a_iadd (pc := 68) (by decide +kernel) ?_
        refine b_iaload (pc := 69) (by decide +kernel) (sh_81 hn) (by omega) (by omega) (by omega) ?_
        refine a_aload_n (pc := 70) (i := 0) (by decide +kernel) rfl ?_
        refine b_getR (pc := 71) (b := 81) fl_X12_51 (by decide +kernel) (sh_68 hn) rfl ?_
        refine a_iconst (pc := 74) (n := 3) (by decide +kernel) ?_
        refine a_iload_n (pc := 75) (i := 3) (by decide +kernel) rfl ?_
        refine a_imul (pc := 76) (by decide +kernel) ?_
        refine a_iload (pc := 77) (i := 6) (by decide +kernel) rfl ?_
        refine a_iadd (pc := 79) (by decide +kernel) ?_
        refine b_iaload (pc := 80) (by decide +kernel) (sh_81 hn) (by omega) (by omega) (by omega) ?_
        refine a_icmp_ne (pc := 81) (off := 7) (tgt := 88) (by decide +kernel) (by decide) (by omega) (by omega) (fun c81 => ?_) (fun c81 => ?_)
        · refine a_iconst (pc := 88) (n := 0) (by decide +kernel) ?_
          refine a_istore (pc := 89) (i := 5) (lv' := [(0, .ref 68), (1, j_i e), (2, j_i s), (3, j_i k), (4, j_i (d_dp (σ.1 81) e)), (5, j_i 0), (6, j_i i)]) (by decide +kernel) (Nat.le_of_ble_eq_true rfl) rfl ?_
          refine a_iinc (pc := 91) (i := 6) (n := 1) (x := i) (lv' := [(0, .ref 68), (1, j_i e), (2, j_i s), (3, j_i k), (4, j_i (d_dp (σ.1 81) e)), (5, j_i 0), (6, j_i (i + 1))]) (by decide +kernel) rfl (Nat.le_of_ble_eq_true rfl) rfl ?_
          refine a_goto (pc := 94) (off := -47) (tgt := 47) (by decide +kernel) (by decide) ?_
          exact ih (i + 1) 0 (by omega) (by omega) (by omega) (Or.inl ⟨rfl, fun q => c81 (q.2 i (by omega) (by omega))⟩)
        · refine a_iconst (pc := 84) (n := 1) (by decide +kernel) ?_
          refine a_goto (pc := 85) (off := 4) (tgt := 89) (by decide +kernel) (by decide) ?_
          refine a_istore (pc := 89) (i := 5) (lv' := [(0, .ref 68), (1, j_i e), (2, j_i s), (3, j_i k), (4, j_i (d_dp (σ.1 81) e)), (5, j_i 1), (6, j_i i)]) (by decide +kernel) (Nat.le_of_ble_eq_true rfl) rfl ?_
          refine a_iinc (pc := 91) (i := 6) (n := 1) (x := i) (lv' := [(0, .ref 68), (1, j_i e), (2, j_i s), (3, j_i k), (4, j_i (d_dp (σ.1 81) e)), (5, j_i 1), (6, j_i (i + 1))]) (by decide +kernel) rfl (Nat.le_of_ble_eq_true rfl) rfl ?_
          refine a_goto (pc := 94) (off := -47) (tgt := 47) (by decide +kernel) (by decide) ?_
          exact ih (i + 1) 1 (by omega) (by omega) (by omega) (Or.inr ⟨rfl, hc0, fun j j0 j1 => by by_cases g : j = i; rw [g]; exact c81; exact (hb.resolve_left (fun q => by omega)).2.2 j j0 (by omega)⟩)
noncomputable def d_cB (F : Int → Int) (e : Int) : Int → Bool := fun f => @decide (d_ch F e f) (Classical.propDecidable _)
theorem d_cB_y {F : Int → Int} {e f : Int} (h : d_ch F e f) : d_cB F e f = true := by unfold d_cB; exact @decide_eq_true _ (Classical.propDecidable _) h
theorem d_cB_n {F : Int → Int} {e f : Int} (h : ¬ d_ch F e f) : d_cB F e f = false := by unfold d_cB; exact @decide_eq_false _ (Classical.propDecidable _) h
set_option maxHeartbeats 4000000 in
theorem l_dch4 {G : j_G} {X : k_X} {n : Nat} {σ : k_St} (hn : 101 ≤ n) (hE : 0 ≤ σ.2.1 68 25 ∧ σ.2.1 68 25 ≤ 200) (hpr : ∀ i k, 0 ≤ i → i < σ.2.1 68 25 → 0 ≤ k → k < 3 → -9 ≤ σ.1 81 (3 * i + k) ∧ σ.1 81 (3 * i + k) ≤ 29) {e : Int} (he : 0 ≤ e ∧ e < σ.2.1 68 25)  : ∀ (m : Nat) (k s : Int), 200 - k < (m : Int) → 0 ≤ k → k ≤ σ.2.1 68 25 → s = f_count (d_cB (σ.1 81) e) k.toNat → j_at G mX12_childrenOf 4 [(0, .ref 68), (1, j_i e), (2, j_i s), (3, j_i k)] [] (k_h X n σ) 0 0 (k_Q X (k_is n σ (some (j_i (f_count (d_cB (σ.1 81) e) (σ.2.1 68 25).toNat))))) := by
  intro m
  induction m with
  | zero => intro k s h1 h2 h3; exact absurd h1 (by omega)
  | succ m ih =>
    intro k s hm h0 hN hs
    have hd := d_dp_in (σ.1 81) e
    have hd9 := d_dp_in (σ.1 81) k
    refine a_iload_n (pc := 4) (i := 3) (by decide +kernel) rfl ?_
    refine a_aload_n (pc := 5) (i := 0) (by decide +kernel) rfl ?_
    refine b_getI (pc := 6) fl_X12_281 (by decide +kernel) (sh_68 hn) rfl ?_
    refine a_icmp_ge (pc := 9) (off := 107) (tgt := 116) (by decide +kernel) (by decide) (by omega) (by omega) (fun c9 => ?_) (fun c9 => ?_)
    · refine a_iload_n (pc := 116) (i := 2) (by decide +kernel) rfl ?_
      refine a_ireturn (pc := 117) (by decide +kernel) rfl ?_
      refine k_ret ?_
      refine ⟨?_, rfl, rfl⟩
      rw [hs, show k = σ.2.1 68 25 by omega]
    · refine a_aload_n (pc := 12) (i := 0) (by decide +kernel) rfl ?_
      refine a_iload_n (pc := 13) (i := 1) (by decide +kernel) rfl ?_
      refine b_pureV (pc := 14) [j_i e] [] ml_X12_346 (by decide +kernel) rfl rfl (sh_68 hn) rfl rfl (Nat.le_of_ble_eq_true rfl) (j_fitI rfl rfl) (s_ddeepOf hn hE hpr (by omega)) ?_
      have q1 := d_dp_in (σ.1 81) e
      show j_at _ _ _ [(0, .ref 68), (1, j_i e), (2, j_i s), (3, j_i k)] [j_i (d_dp (σ.1 81) e)] _ _ _ _
      refine a_istore (pc := 17) (i := 4) (lv' := [(0, .ref 68), (1, j_i e), (2, j_i s), (3, j_i k), (4, j_i (d_dp (σ.1 81) e))]) (by decide +kernel) (Nat.le_of_ble_eq_true rfl) rfl ?_
      refine a_iload (pc := 19) (i := 4) (by decide +kernel) rfl ?_
      refine a_iconst (pc := 21) (n := 3) (by decide +kernel) ?_
      refine a_icmp_ge (pc := 22) (off := 19) (tgt := 41) (by decide +kernel) (by decide) (by omega) (by omega) (fun c22 => ?_) (fun c22 => ?_)
      · refine a_iconst (pc := 41) (n := 0) (by decide +kernel) ?_
        refine a_istore (pc := 42) (i := 5) (lv' := [(0, .ref 68), (1, j_i e), (2, j_i s), (3, j_i k), (4, j_i (d_dp (σ.1 81) e)), (5, j_i 0)]) (by decide +kernel) (Nat.le_of_ble_eq_true rfl) rfl ?_
        refine a_iconst (pc := 44) (n := 0) (by decide +kernel) ?_
        refine a_istore (pc := 45) (i := 6) (lv' := [(0, .ref 68), (1, j_i e), (2, j_i s), (3, j_i k), (4, j_i (d_dp (σ.1 81) e)), (5, j_i 0), (6, j_i 0)]) (by decide +kernel) (Nat.le_of_ble_eq_true rfl) rfl ?_
        refine l_dch47 hn hE hpr he (by omega) (fun i' b' hb1 hb2 => ?_) 5 0 0 (by omega) (by omega) (by omega) (Or.inl ⟨rfl, fun q => absurd q.1 (by omega)⟩)
        refine a_iload_n (pc := 97) (i := 2) (by decide +kernel) rfl ?_
        refine a_iload (pc := 98) (i := 5) (by decide +kernel) rfl ?_
        refine a_if_eq (pc := 100) (off := 7) (tgt := 107) (by decide +kernel) (by decide) (by omega) (fun c100 => ?_) (fun c100 => ?_)
        · refine a_iconst (pc := 107) (n := 0) (by decide +kernel) ?_
          refine a_iadd (pc := 108) (by decide +kernel) ?_
          refine a_istore_n (pc := 109) (i := 2) (lv' := [(0, .ref 68), (1, j_i e), (2, j_i (s + 0)), (3, j_i k), (4, j_i (d_dp (σ.1 81) e)), (5, j_i b'), (6, j_i i')]) (by decide +kernel) (Nat.le_of_ble_eq_true rfl) rfl ?_
          refine a_iinc (pc := 110) (i := 3) (n := 1) (x := k) (lv' := [(0, .ref 68), (1, j_i e), (2, j_i (s + 0)), (3, j_i (k + 1)), (4, j_i (d_dp (σ.1 81) e)), (5, j_i b'), (6, j_i i')]) (by decide +kernel) rfl (Nat.le_of_ble_eq_true rfl) rfl ?_
          refine a_goto (pc := 113) (off := -109) (tgt := 4) (by decide +kernel) (by decide) ?_
          refine a_sub (pc := 4) (lv' := [(0, .ref 68), (1, j_i e), (2, j_i (s + 0)), (3, j_i (k + 1))]) (fun q hq => by simp only [List.mem_cons, List.not_mem_nil, or_false] at hq ⊢; rcases hq with rfl | rfl | rfl | rfl <;> simp) (ih (k + 1) (s + 0) (by omega) (by omega) (by omega) ?_)
          rw [f_count_n (by omega) (d_cB_n (fun q => absurd (hb2.mpr q) (by omega)))]; omega
        · refine a_iconst (pc := 103) (n := 1) (by decide +kernel) ?_
          refine a_goto (pc := 104) (off := 4) (tgt := 108) (by decide +kernel) (by decide) ?_
          refine a_iadd (pc := 108) (by decide +kernel) ?_
          refine a_istore_n (pc := 109) (i := 2) (lv' := [(0, .ref 68), (1, j_i e), (2, j_i (s + 1)), (3, j_i k), (4, j_i (d_dp (σ.1 81) e)), (5, j_i b'), (6, j_i i')]) (by decide +kernel) (Nat.le_of_ble_eq_true rfl) rfl ?_
          refine a_iinc (pc := 110) (i := 3) (n := 1) (x := k) (lv' := [(0, .ref 68), (1, j_i e), (2, j_i (s + 1)), (3, j_i (k + 1)), (4, j_i (d_dp (σ.1 81) e)), (5, j_i b'), (6, j_i i')]) (by decide +kernel) rfl (Nat.le_of_ble_eq_true rfl) rfl ?_
          refine a_goto (pc := 113) (off := -109) (tgt := 4) (by decide +kernel) (by decide) ?_
          refine a_sub (pc := 4) (lv' := [(0, .ref 68), (1, j_i e), (2, j_i (s + 1)), (3, j_i (k + 1))]) (fun q hq => by simp only [List.mem_cons, List.not_mem_nil, or_false] at hq ⊢; rcases hq with rfl | rfl | rfl | rfl <;> simp) (ih (k + 1) (s + 1) (by omega) (by omega) (by omega) ?_)
          rw [f_count_y (by omega) (d_cB_y (hb2.mp (by omega)))]; omega
      · refine a_aload_n (pc := 25) (i := 0) (by decide +kernel) rfl ?_
        refine a_iload_n (pc := 26) (i := 3) (by decide +kernel) rfl ?_
        refine b_pureV (pc := 27) [j_i k] [] ml_X12_346 (by decide +kernel) rfl rfl (sh_68 hn) rfl rfl (Nat.le_of_ble_eq_true rfl) (j_fitI rfl rfl) (s_ddeepOf hn hE hpr (by omega)) ?_
        have q2 := d_dp_in (σ.1 81) k
        show j_at _ _ _ [(0, .ref 68), (1, j_i e), (2, j_i s), (3, j_i k), (4, j_i (d_dp (σ.1 81) e))] [j_i (d_dp (σ.1 81) k)] _ _ _ _
        refine a_iload (pc := 30) (i := 4) (by decide +kernel) rfl ?_
        refine a_iconst (pc := 32) (n := 1) (by decide +kernel) ?_
        refine a_iadd (pc := 33) (by decide +kernel) ?_
        refine a_icmp_ne (pc := 34) (off := 7) (tgt := 41) (by decide +kernel) (by decide) (by omega) (by omega) (fun c34 => ?_) (fun c34 => ?_)
        · refine a_iconst (pc := 41) (n := 0) (by decide +kernel) ?_
          refine a_istore (pc := 42) (i := 5) (lv' := [(0, .ref 68), (1, j_i e), (2, j_i s), (3, j_i k), (4, j_i (d_dp (σ.1 81) e)), (5, j_i 0)]) (by decide +kernel) (Nat.le_of_ble_eq_true rfl) rfl ?_
          refine a_iconst (pc := 44) (n := 0) (by decide +kernel) ?_
          refine a_istore (pc := 45) (i := 6) (lv' := [(0, .ref 68), (1, j_i e), (2, j_i s), (3, j_i k), (4, j_i (d_dp (σ.1 81) e)), (5, j_i 0), (6, j_i 0)]) (by decide +kernel) (Nat.le_of_ble_eq_true rfl) rfl ?_
          refine l_dch47 hn hE hpr he (by omega) (fun i' b' hb1 hb2 => ?_) 5 0 0 (by omega) (by omega) (by omega) (Or.inl ⟨rfl, fun q => absurd q.1 (by omega)⟩)
          refine a_iload_n (pc := 97) (i := 2) (by decide +kernel) rfl ?_
          refine a_iload (pc := 98) (i := 5) (by decide +kernel) rfl ?_
          refine a_if_eq (pc := 100) (off := 7) (tgt := 107) (by decide +kernel) (by decide) (by omega) (fun c100 => ?_) (fun c100 => ?_)
          · refine a_iconst (pc := 107) (n := 0) (by decide +kernel) ?_
            refine a_iadd (pc := 108) (by decide +kernel) ?_
            refine a_istore_n (pc := 109) (i := 2) (lv' := [(0, .ref 68), (1, j_i e), (2, j_i (s + 0)), (3, j_i k), (4, j_i (d_dp (σ.1 81) e)), (5, j_i b'), (6, j_i i')]) (by decide +kernel) (Nat.le_of_ble_eq_true rfl) rfl ?_
            refine a_iinc (pc := 110) (i := 3) (n := 1) (x := k) (lv' := [(0, .ref 68), (1, j_i e), (2, j_i (s + 0)), (3, j_i (k + 1)), (4, j_i (d_dp (σ.1 81) e)), (5, j_i b'), (6, j_i i')]) (by decide +kernel) rfl (Nat.le_of_ble_eq_true rfl) rfl ?_
            refine a_goto (pc := 113) (off := -109) (tgt := 4) (by decide +kernel) (by decide) ?_
            refine a_sub (pc := 4) (lv' := [(0, .ref 68), (1, j_i e), (2, j_i (s + 0)), (3, j_i (k + 1))]) (fun q hq => by simp only [List.mem_cons, List.not_mem_nil, or_false] at hq ⊢; rcases hq with rfl | rfl | rfl | rfl <;> simp) (ih (k + 1) (s + 0) (by omega) (by omega) (by omega) ?_)
            rw [f_count_n (by omega) (d_cB_n (fun q => absurd (hb2.mpr q) (by omega)))]; omega
          · refine a_iconst (pc := 103) (n := 1) (by decide +kernel) ?_
            refine a_goto (pc := 104) (off := 4) (tgt := 108) (by decide +kernel) (by decide) ?_
            refine a_iadd (pc := 108) (by decide +kernel) ?_
            refine a_istore_n (pc := 109) (i := 2) (lv' := [(0, .ref 68), (1, j_i e), (2, j_i (s + 1)), (3, j_i k), (4, j_i (d_dp (σ.1 81) e)), (5, j_i b'), (6, j_i i')]) (by decide +kernel) (Nat.le_of_ble_eq_true rfl) rfl ?_
            refine a_iinc (pc := 110) (i := 3) (n := 1) (x := k) (lv' := [(0, .ref 68), (1, j_i e), (2, j_i (s + 1)), (3, j_i (k + 1)), (4, j_i (d_dp (σ.1 81) e)), (5, j_i b'), (6, j_i i')]) (by decide +kernel) rfl (Nat.le_of_ble_eq_true rfl) rfl ?_
            refine a_goto (pc := 113) (off := -109) (tgt := 4) (by decide +kernel) (by decide) ?_
            refine a_sub (pc := 4) (lv' := [(0, .ref 68), (1, j_i e), (2, j_i (s + 1)), (3, j_i (k + 1))]) (fun q hq => by simp only [List.mem_cons, List.not_mem_nil, or_false] at hq ⊢; rcases hq with rfl | rfl | rfl | rfl <;> simp) (ih (k + 1) (s + 1) (by omega) (by omega) (by omega) ?_)
            rw [f_count_y (by omega) (d_cB_y (hb2.mp (by omega)))]; omega
        · refine a_iconst (pc := 37) (n := 1) (by decide +kernel) ?_
          refine a_goto (pc := 38) (off := 4) (tgt := 42) (by decide +kernel) (by decide) ?_
          refine a_istore (pc := 42) (i := 5) (lv' := [(0, .ref 68), (1, j_i e), (2, j_i s), (3, j_i k), (4, j_i (d_dp (σ.1 81) e)), (5, j_i 1)]) (by decide +kernel) (Nat.le_of_ble_eq_true rfl) rfl ?_
          refine a_iconst (pc := 44) (n := 0) (by decide +kernel) ?_
          refine a_istore (pc := 45) (i := 6) (lv' := [(0, .ref 68), (1, j_i e), (2, j_i s), (3, j_i k), (4, j_i (d_dp (σ.1 81) e)), (5, j_i 1), (6, j_i 0)]) (by decide +kernel) (Nat.le_of_ble_eq_true rfl) rfl ?_
          refine l_dch47 hn hE hpr he (by omega) (fun i' b' hb1 hb2 => ?_) 5 0 1 (by omega) (by omega) (by omega) (Or.inr ⟨rfl, by omega, fun j j0 j1 => absurd j0 (by omega)⟩)
          refine a_iload_n (pc := 97) (i := 2) (by decide +kernel) rfl ?_
          refine a_iload (pc := 98) (i := 5) (by decide +kernel) rfl ?_
          refine a_if_eq (pc := 100) (off := 7) (tgt := 107) (by decide +kernel) (by decide) (by omega) (fun c100 => ?_) (fun c100 => ?_)
          · refine a_iconst (pc := 107) (n := 0) (by decide +kernel) ?_
            refine a_iadd (pc := 108) (by decide +kernel) ?_
            refine a_istore_n (pc := 109) (i := 2) (lv' := [(0, .ref 68), (1, j_i e), (2, j_i (s + 0)), (3, j_i k), (4, j_i (d_dp (σ.1 81) e)), (5, j_i b'), (6, j_i i')]) (by decide +kernel) (Nat.le_of_ble_eq_true rfl) rfl ?_
            refine a_iinc (pc := 110) (i := 3) (n := 1) (x := k) (lv' := [(0, .ref 68), (1, j_i e), (2, j_i (s + 0)), (3, j_i (k + 1)), (4, j_i (d_dp (σ.1 81) e)), (5, j_i b'), (6, j_i i')]) (by decide +kernel) rfl (Nat.le_of_ble_eq_true rfl) rfl ?_
            refine a_goto (pc := 113) (off := -109) (tgt := 4) (by decide +kernel) (by decide) ?_
            refine a_sub (pc := 4) (lv' := [(0, .ref 68), (1, j_i e), (2, j_i (s + 0)), (3, j_i (k + 1))]) (fun q hq => by simp only [List.mem_cons, List.not_mem_nil, or_false] at hq ⊢; rcases hq with rfl | rfl | rfl | rfl <;> simp) (ih (k + 1) (s + 0) (by omega) (by omega) (by omega) ?_)
            rw [f_count_n (by omega) (d_cB_n (fun q => absurd (hb2.mpr q) (by omega)))]; omega
          · refine a_iconst (pc := 103) (n := 1) (by decide +kernel) ?_
            refine a_goto (pc := 104) (off := 4) (tgt := 108) (by decide +kernel) (by decide) ?_
            refine a_iadd (pc := 108) (by decide +kernel) ?_
            refine a_istore_n (pc := 109) (i := 2) (lv' := [(0, .ref 68), (1, j_i e), (2, j_i (s + 1)), (3, j_i k), (4, j_i (d_dp (σ.1 81) e)), (5, j_i b'), (6, j_i i')]) (by decide +kernel) (Nat.le_of_ble_eq_true rfl) rfl ?_
            refine a_iinc (pc := 110) (i := 3) (n := 1) (x := k) (lv' := [(0, .ref 68), (1, j_i e), (2, j_i (s + 1)), (3, j_i (k + 1)), (4, j_i (d_dp (σ.1 81) e)), (5, j_i b'), (6, j_i i')]) (by decide +kernel) rfl (Nat.le_of_ble_eq_true rfl) rfl ?_
            refine a_goto (pc := 113) (off := -109) (tgt := 4) (by decide +kernel) (by decide) ?_
            refine a_sub (pc := 4) (lv' := [(0, .ref 68), (1, j_i e), (2, j_i (s + 1)), (3, j_i (k + 1))]) (fun q hq => by simp only [List.mem_cons, List.not_mem_nil, or_false] at hq ⊢; rcases hq with rfl | rfl | rfl | rfl <;> simp) (ih (k + 1) (s + 1) (by omega) (by omega) (by omega) ?_)
            rw [f_count_y (by omega) (d_cB_y (hb2.mp (by omega)))]; omega
set_option maxHeartbeats 4000000 in
theorem s_dchildrenOf {G : j_G} {X : k_X} {n : Nat} {σ : k_St} (hn : 101 ≤ n) (hE : 0 ≤ σ.2.1 68 25 ∧ σ.2.1 68 25 ≤ 200) (hpr : ∀ i k, 0 ≤ i → i < σ.2.1 68 25 → 0 ≤ k → k < 3 → -9 ≤ σ.1 81 (3 * i + k) ∧ σ.1 81 (3 * i + k) ≤ 29) {e : Int} (he : 0 ≤ e ∧ e < σ.2.1 68 25)  : k_run G X mX12_childrenOf [.ref 68, j_i e] n σ 0 0 (k_is n σ (some (j_i (f_count (d_cB (σ.1 81) e) (σ.2.1 68 25).toNat)))) := by
  refine k_enter (by decide +kernel) (Nat.le_of_ble_eq_true rfl) ?_
  show j_at _ _ _ [(0, .ref 68), (1, j_i e)] [] _ _ _ _
  refine a_iconst (pc := 0) (n := 0) (by decide +kernel) ?_
  refine a_istore_n (pc := 1) (i := 2) (lv' := [(0, .ref 68), (1, j_i e), (2, j_i 0)]) (by decide +kernel) (Nat.le_of_ble_eq_true rfl) rfl ?_
  refine a_iconst (pc := 2) (n := 0) (by decide +kernel) ?_
  refine a_istore_n (pc := 3) (i := 3) (lv' := [(0, .ref 68), (1, j_i e), (2, j_i 0), (3, j_i 0)]) (by decide +kernel) (Nat.le_of_ble_eq_true rfl) rfl ?_
  exact l_dch4 hn hE hpr he 201 0 0 (by omega) (by omega) (by omega) rfl
