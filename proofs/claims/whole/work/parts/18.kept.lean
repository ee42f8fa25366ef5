def f_rev (w : Int → Int) (f e : Int) : Int → Int := fun k => if f ≤ k ∧ k < e then w (f + e - 1 - k) else w k
def f_rv (w : Int → Int) (f e a b : Int) : Int → Int := fun k => if (f ≤ k ∧ k < a) ∨ (b < k ∧ k < e) then w (f + e - 1 - k) else w k
theorem f_rv_s {w : Int → Int} {f e a b : Int} (h1 : a + b = f + e - 1) (h2 : a < b) (h3 : f ≤ a) (h4 : b < e) : j_up (j_up (f_rv w f e a b) a (w b)) b (w a) = f_rv w f e (a + 1) (b + -1) := by
  funext k
  unfold j_up f_rv
  by_cases k1 : k = b
  · rw [if_pos k1, if_pos (by omega), k1]; congr 1; omega
  · rw [if_neg k1]
    by_cases k2 : k = a
    · rw [if_pos k2, if_pos (by omega), k2]; congr 1; omega
    · rw [if_neg k2]
      by_cases k3 : (f ≤ k ∧ k < a) ∨ (b < k ∧ k < e)
      · rw [if_pos k3, if_pos (by omega)]
      · rw [if_neg k3, if_neg (by omega)]
theorem f_rv_e {w : Int → Int} {f e a b : Int} (h1 : a + b = f + e - 1) (h2 : b ≤ a) (h3 : f ≤ a) (h4 : b < e) (h5 : a ≤ e) : f_rv w f e a b = f_rev w f e := by
  funext k
  unfold f_rv f_rev
  by_cases k1 : f ≤ k ∧ k < e
  · rw [if_pos k1]
    by_cases k2 : (f ≤ k ∧ k < a) ∨ (b < k ∧ k < e)
    · rw [if_pos k2]
    · rw [if_neg k2]; congr 1; omega
  · rw [if_neg k1, if_neg (by omega)]
theorem f_rv_0 {w : Int → Int} {f e : Int} : f_rv w f e f (e - 1) = w := by
  funext k; unfold f_rv; rw [if_neg (by omega)]
/-- m words from i on go to j -/
def f_mv (w : Int → Int) (i m j : Int) : Int → Int := fun k => if j ≤ k ∧ k < j + m then w (i + (k - j)) else if (if k < j then k else k - m) < i then w (if k < j then k else k - m) else w ((if k < j then k else k - m) + m)
theorem f_swap {w : Int → Int} {f m e : Int} (h1 : f ≤ m) (h2 : m ≤ e) (k : Int) : f_rev (f_rev (f_rev w f m) m e) f e k = if f ≤ k ∧ k < e then (if k < f + e - m then w (m + (k - f)) else w (f + (k - (f + e - m)))) else w k := by
  unfold f_rev
  by_cases k1 : f ≤ k ∧ k < e
  · rw [if_pos k1, if_pos k1]
    by_cases k2 : k < f + e - m
    · rw [if_pos k2, if_pos (by omega), if_neg (by omega)]; congr 1; omega
    · rw [if_neg k2, if_neg (by omega), if_pos (by omega)]; congr 1; omega
  · rw [if_neg k1, if_neg k1]
    by_cases k2 : m ≤ k ∧ k < e
    · exact absurd k2 (by omega)
    · rw [if_neg k2, if_neg (by omega)]
theorem f_swap_l {w : Int → Int} {i m j : Int} (h0 : 0 ≤ m) (h : j < i) : f_rev (f_rev (f_rev w j i) i (i + m)) j (i + m) = f_mv w i m j := by
  funext k
  rw [f_swap (by omega) (by omega)]
  unfold f_mv
  by_cases k1 : j ≤ k ∧ k < i + m
  · rw [if_pos k1]
    by_cases k2 : k < j + (i + m) - i
    · rw [if_pos k2, if_pos (by omega)]
    · rw [if_neg k2, if_neg (by omega), if_neg (show ¬ k < j by omega), if_pos (by omega)]; congr 1; omega
  · rw [if_neg k1, if_neg (by omega)]
    by_cases k2 : k < j
    · simp only [if_pos k2]; rw [if_pos (by omega)]
    · simp only [if_neg k2]; rw [if_neg (by omega)]; congr 1; omega
theorem f_swap_r {w : Int → Int} {i m j : Int} (h0 : 0 ≤ m) (h : i ≤ j) : f_rev (f_rev (f_rev w i (i + m)) (i + m) (j + m)) i (j + m) = f_mv w i m j := by
  funext k
  rw [f_swap (by omega) (by omega)]
  unfold f_mv
  by_cases k1 : i ≤ k ∧ k < j + m
  · rw [if_pos k1]
    by_cases k2 : k < i + (j + m) - (i + m)
    · rw [if_pos k2, if_neg (by omega)]
      simp only [if_pos (show k < j by omega)]; rw [if_neg (by omega)]; congr 1; omega
    · rw [if_neg k2, if_pos (by omega)]; congr 1; omega
  · rw [if_neg k1, if_neg (by omega)]
    by_cases k2 : k < j
    · simp only [if_pos k2]; rw [if_pos (by omega)]
    · simp only [if_neg k2]; rw [if_neg (by omega)]; congr 1; omega
/-- what a kept's cells may hold -/
def kp_wf (σ : k_St) (a : Nat) : Prop := (0 ≤ σ.2.1 a 1 ∧ σ.2.1 a 1 ≤ 300) ∧ h_wf σ (a + 2) ∧ m_wf σ (a + 10)
set_option maxHeartbeats 4000000 in
theorem s_hasWord {G : j_G} {X : k_X} {n : Nat} {σ : k_St} (hn : 101 ≤ n) (hc : 0 ≤ σ.2.1 6 1 ∧ σ.2.1 6 1 ≤ 300) {i : Int} (hi : -2147483648 ≤ i ∧ i ≤ 2147483647) : k_run G X mX4_hasWord [.ref 6, j_i i] n σ 0 0 (k_b n σ (0 ≤ i ∧ i < σ.2.1 6 1)) := by
  refine k_enter (by decide +kernel) (Nat.le_of_ble_eq_true rfl) ?_
  show j_at _ _ _ [(0, .ref 6), (1, j_i i)] [] _ _ _ _
  refine a_iload_n (pc := 0) (i := 1) (by decide +kernel) rfl ?_
  refine a_if_lt (pc := 1) (off := 15) (tgt := 16) (by decide +kernel) (by decide) (by omega) (fun c1 => ?_) (fun c1 => ?_)
  · refine a_iconst (pc := 16) (n := 0) (by decide +kernel) ?_
    refine a_zreturn (pc := 17) (by decide +kernel) rfl (by omega) ?_
    refine k_ret ?_
    exact k_bn (by omega)
  · refine a_iload_n (pc := 4) (i := 1) (by decide +kernel) rfl ?_
    refine a_aload_n (pc := 5) (i := 0) (by decide +kernel) rfl ?_
    refine b_getI (pc := 6) fl_X4_15 (by decide +kernel) (sh_6 hn) rfl ?_
    refine a_icmp_ge (pc := 9) (off := 7) (tgt := 16) (by decide +kernel) (by decide) (by omega) (by omega) (fun c9 => ?_) (fun c9 => ?_)
    · refine a_iconst (pc := 16) (n := 0) (by decide +kernel) ?_
      refine a_zreturn (pc := 17) (by decide +kernel) rfl (by omega) ?_
      refine k_ret ?_
      exact k_bn (by omega)
    · refine a_iconst (pc := 12) (n := 1) (by decide +kernel) ?_
      refine a_goto (pc := 13) (off := 4) (tgt := 17) (by decide +kernel) (by decide) ?_
      refine a_zreturn (pc := 17) (by decide +kernel) rfl (by omega) ?_
      refine k_ret ?_
      exact k_by (by omega)
set_option maxHeartbeats 4000000 in
theorem s_hasGap {G : j_G} {X : k_X} {n : Nat} {σ : k_St} (hn : 101 ≤ n) (hc : 0 ≤ σ.2.1 6 1 ∧ σ.2.1 6 1 ≤ 300) {i : Int} (hi : -2147483648 ≤ i ∧ i ≤ 2147483647) : k_run G X mX4_hasGap [.ref 6, j_i i] n σ 0 0 (k_b n σ (0 ≤ i ∧ i ≤ σ.2.1 6 1)) := by
  refine k_enter (by decide +kernel) (Nat.le_of_ble_eq_true rfl) ?_
  show j_at _ _ _ [(0, .ref 6), (1, j_i i)] [] _ _ _ _
  refine a_iload_n (pc := 0) (i := 1) (by decide +kernel) rfl ?_
  refine a_if_lt (pc := 1) (off := 15) (tgt := 16) (by decide +kernel) (by decide) (by omega) (fun c1 => ?_) (fun c1 => ?_)
  · refine a_iconst (pc := 16) (n := 0) (by decide +kernel) ?_
    refine a_zreturn (pc := 17) (by decide +kernel) rfl (by omega) ?_
    refine k_ret ?_
    exact k_bn (by omega)
  · refine a_iload_n (pc := 4) (i := 1) (by decide +kernel) rfl ?_
    refine a_aload_n (pc := 5) (i := 0) (by decide +kernel) rfl ?_
    refine b_getI (pc := 6) fl_X4_15 (by decide +kernel) (sh_6 hn) rfl ?_
    refine a_icmp_gt (pc := 9) (off := 7) (tgt := 16) (by decide +kernel) (by decide) (by omega) (by omega) (fun c9 => ?_) (fun c9 => ?_)
    · refine a_iconst (pc := 16) (n := 0) (by decide +kernel) ?_
      refine a_zreturn (pc := 17) (by decide +kernel) rfl (by omega) ?_
      refine k_ret ?_
      exact k_bn (by omega)
    · refine a_iconst (pc := 12) (n := 1) (by decide +kernel) ?_
      refine a_goto (pc := 13) (off := 4) (tgt := 17) (by decide +kernel) (by decide) ?_
      refine a_zreturn (pc := 17) (by decide +kernel) rfl (by omega) ?_
      refine k_ret ?_
      exact k_by (by omega)
def kp_ins (σ : k_St) (i w : Int) : k_St := k_sA (k_sI (k_sA σ 7 (j_up (j_cpy (σ.1 7) (σ.1 7) i (i + 1) (σ.2.1 6 1 - i)) i w)) 6 1 (σ.2.1 6 1 + 1)) 18 (f_map (f_shB i 1) (σ.1 18) (σ.2.1 16 5))
def kp_rem (σ : k_St) (i : Int) : k_St := k_sA (k_sI (k_sA σ 7 (j_cpy (σ.1 7) (σ.1 7) (i + 1) i (σ.2.1 6 1 - i - 1))) 6 1 (σ.2.1 6 1 - 1)) 18 (f_map (f_shB i (-1)) (σ.1 18) (σ.2.1 16 5))
def kp_mov (σ : k_St) (i m j : Int) : k_St := k_sA (k_sA σ 7 (f_mv (σ.1 7) i m j)) 18 (f_map (f_shW i m j) (σ.1 18) (σ.2.1 16 5))
set_option maxHeartbeats 4000000 in
theorem s_insertWord {G : j_G} {X : k_X} {n : Nat} {σ : k_St} (hn : 101 ≤ n) (hc : 0 ≤ σ.2.1 6 1 ∧ σ.2.1 6 1 ≤ 300) (hm : m_wf σ 16) {i w : Int} (h0 : 0 ≤ i) (h1 : i ≤ σ.2.1 6 1) (h2 : σ.2.1 6 1 < 300) : k_run G X mX4_insertWord [.ref 6, j_i i, j_i w] n σ 0 0 (k_is n (kp_ins σ i w) none) := by
  refine k_enter (by decide +kernel) (Nat.le_of_ble_eq_true rfl) ?_
  show j_at _ _ _ [(0, .ref 6), (1, j_i i), (2, j_i w)] [] _ _ _ _
  refine a_aload_n (pc := 0) (i := 0) (by decide +kernel) rfl ?_
  refine a_iload_n (pc := 1) (i := 1) (by decide +kernel) rfl ?_
  refine b_callV (pc := 2) (c' := 0) (sl' := 0) [j_i i] [] ml_X4_33 (by decide +kernel) rfl rfl (sh_6 hn) rfl rfl (Nat.le_of_ble_eq_true rfl) (j_fitI rfl rfl) (s_hasGap hn (by omega) (by omega)) (fun v n' σ' hq => ?_)
  obtain ⟨x, rfl, e1, e2, hx⟩ := hq
  rw [e1, e2]; clear e1 e2
  rcases hx with ⟨rfl, p2⟩ | ⟨rfl, p2⟩
  · show j_at _ _ _ [(0, .ref 6), (1, j_i i), (2, j_i w)] [j_i 1] _ _ _ _
    refine a_if_eq (pc := 5) (off := 13) (tgt := 18) (by decide +kernel) (by decide) (by omega) (fun c5 => ?_) (fun c5 => ?_)
    · exact absurd c5 (by decide)
    · refine a_aload_n (pc := 8) (i := 0) (by decide +kernel) rfl ?_
      refine b_getI (pc := 9) fl_X4_15 (by decide +kernel) (sh_6 hn) rfl ?_
      refine a_sipush (pc := 12) (n := 300) (by decide +kernel) rfl ?_
      refine a_icmp_lt (pc := 15) (off := 4) (tgt := 19) (by decide +kernel) (by decide) (by omega) (by omega) (fun c15 => ?_) (fun c15 => ?_)
      · refine a_aload_n (pc := 19) (i := 0) (by decide +kernel) rfl ?_
        refine b_getR (pc := 20) (b := 7) fl_X4_9 (by decide +kernel) (sh_6 hn) rfl ?_
        refine a_iload_n (pc := 23) (i := 1) (by decide +kernel) rfl ?_
        refine a_aload_n (pc := 24) (i := 0) (by decide +kernel) rfl ?_
        refine b_getR (pc := 25) (b := 7) fl_X4_9 (by decide +kernel) (sh_6 hn) rfl ?_
        refine a_iload_n (pc := 28) (i := 1) (by decide +kernel) rfl ?_
        refine a_iconst (pc := 29) (n := 1) (by decide +kernel) ?_
        refine a_iadd (pc := 30) (by decide +kernel) ?_
        refine a_aload_n (pc := 31) (i := 0) (by decide +kernel) rfl ?_
        refine b_getI (pc := 32) fl_X4_15 (by decide +kernel) (sh_6 hn) rfl ?_
        refine a_iload_n (pc := 35) (i := 1) (by decide +kernel) rfl ?_
        refine a_isub (pc := 36) (by decide +kernel) ?_
        refine b_arraycopy (pc := 37) (by decide +kernel) ol_X4_37 (sh_7 hn) (sh_7 hn) (by omega) (by omega) (by decide) (by omega) (by omega) (by omega) (by omega) (by omega) (by omega) (by omega) (fun _ _ _ => rfl) (Nat.le_of_ble_eq_true rfl) (Nat.le_of_ble_eq_true rfl) ?_
        obtain ⟨σ1, hσ1⟩ : ∃ z, z = k_sA σ 7 (j_cpy (σ.1 7) (σ.1 7) i (i + 1) ((σ.2.1 6 1) - i)) := ⟨_, rfl⟩
        rw [← hσ1]
        refine a_aload_n (pc := 40) (i := 0) (by decide +kernel) rfl ?_
        refine b_getR (pc := 41) (b := 7) fl_X4_9 (by decide +kernel) (sh_6 hn) rfl ?_
        refine a_iload_n (pc := 44) (i := 1) (by decide +kernel) rfl ?_
        refine a_iload_n (pc := 45) (i := 2) (by decide +kernel) rfl ?_
        refine b_iastore (pc := 46) (by decide +kernel) (sh_7 hn) (by omega) (by omega) (by omega) ?_
        obtain ⟨σ2, hσ2⟩ : ∃ z, z = k_sA σ1 7 (j_up (σ1.1 7) i w) := ⟨_, rfl⟩
        rw [← hσ2]
        refine a_aload_n (pc := 47) (i := 0) (by decide +kernel) rfl ?_
        refine a_dup (pc := 48) (by decide +kernel) rfl ?_
        refine b_getI (pc := 49) fl_X4_15 (by decide +kernel) (sh_6 hn) rfl ?_
        rw [show σ2.2.1 6 1 = σ1.2.1 6 1 by rw [hσ2]; rfl]
        rw [show σ1.2.1 6 1 = σ.2.1 6 1 by rw [hσ1]; rfl]
        refine a_iconst (pc := 52) (n := 1) (by decide +kernel) ?_
        refine a_iadd (pc := 53) (by decide +kernel) ?_
        refine b_putI (pc := 54) fl_X4_15 (by decide +kernel) (sh_6 hn) rfl rfl rfl ?_
        obtain ⟨σ3, hσ3⟩ : ∃ z, z = k_sI σ2 6 1 ((σ.2.1 6 1) + 1) := ⟨_, rfl⟩
        rw [← hσ3]
        have hm8 : m_wf σ3 16 := by subst hσ3; subst hσ2; subst hσ1; exact m_wf_congr (σ := σ) rfl rfl rfl rfl rfl rfl hm
        refine a_aload_n (pc := 57) (i := 0) (by decide +kernel) rfl ?_
        refine b_getR (pc := 58) (b := 16) fl_X4_29 (by decide +kernel) (sh_6 hn) rfl ?_
        refine a_iload_n (pc := 61) (i := 1) (by decide +kernel) rfl ?_
        refine a_iconst (pc := 62) (n := 1) (by decide +kernel) ?_
        refine b_callV (pc := 63) (c' := 0) (sl' := 0) [j_i i, j_i 1] [] ml_X4_43 (by decide +kernel) rfl rfl (sh_16 hn) rfl rfl (Nat.le_of_ble_eq_true rfl) (j_fitI rfl rfl) (s_shiftBehind (g := i) (b := 1) hn hm8 (by omega)) (fun v n' σ' hq => ?_)
        obtain ⟨rfl, e1, e2⟩ := hq
        rw [e1, e2]; clear e1 e2
        obtain ⟨σ4, hσ4⟩ : ∃ z, z = k_sA σ3 18 (f_map (f_shB i 1) (σ3.1 18) (σ3.2.1 16 5)) := ⟨_, rfl⟩
        rw [← hσ4]
        show j_at _ _ _ [(0, .ref 6), (1, j_i i), (2, j_i w)] [] _ _ _ _
        refine a_return (pc := 66) (by decide +kernel) rfl ?_
        refine k_ret ?_
        first | (exfalso; first | exact p2 ⟨h0, h1⟩ | omega) | (subst hσ4; subst hσ3; subst hσ2; subst hσ1; refine ⟨rfl, rfl, ?_⟩; unfold kp_ins; rw [k_sA_sA, k_AA]; rfl)
      · refine a_return (pc := 18) (by decide +kernel) rfl ?_
        refine k_ret ?_
        first | (exfalso; first | exact p2 ⟨h0, h1⟩ | omega) | (subst hσ4; subst hσ3; subst hσ2; subst hσ1; refine ⟨rfl, rfl, ?_⟩; unfold kp_ins; rw [k_sA_sA, k_AA]; rfl)
  · show j_at _ _ _ [(0, .ref 6), (1, j_i i), (2, j_i w)] [j_i 0] _ _ _ _
    refine a_if_eq (pc := 5) (off := 13) (tgt := 18) (by decide +kernel) (by decide) (by omega) (fun c5 => ?_) (fun c5 => ?_)
    · refine a_return (pc := 18) (by decide +kernel) rfl ?_
      refine k_ret ?_
      first | (exfalso; first | exact p2 ⟨h0, h1⟩ | omega) | (subst hσ4; subst hσ3; subst hσ2; subst hσ1; refine ⟨rfl, rfl, ?_⟩; unfold kp_ins; rw [k_sA_sA, k_AA]; rfl)
    · exact absurd c5 (by decide)
set_option maxHeartbeats 4000000 in
theorem s_removeWord {G : j_G} {X : k_X} {n : Nat} {σ : k_St} (hn : 101 ≤ n) (hc : 0 ≤ σ.2.1 6 1 ∧ σ.2.1 6 1 ≤ 300) (hm : m_wf σ 16) {i : Int} (h0 : 0 ≤ i) (h1 : i < σ.2.1 6 1) : k_run G X mX4_removeWord [.ref 6, j_i i] n σ 0 0 (k_is n (kp_rem σ i) (some (j_i (σ.1 7 i)))) := by
  refine k_enter (by decide +kernel) (Nat.le_of_ble_eq_true rfl) ?_
  show j_at _ _ _ [(0, .ref 6), (1, j_i i)] [] _ _ _ _
  refine a_aload_n (pc := 0) (i := 0) (by decide +kernel) rfl ?_
  refine a_iload_n (pc := 1) (i := 1) (by decide +kernel) rfl ?_
  refine b_callV (pc := 2) (c' := 0) (sl' := 0) [j_i i] [] ml_X4_47 (by decide +kernel) rfl rfl (sh_6 hn) rfl rfl (Nat.le_of_ble_eq_true rfl) (j_fitI rfl rfl) (s_hasWord hn (by omega) (by omega)) (fun v n' σ' hq => ?_)
  obtain ⟨x, rfl, e1, e2, hx⟩ := hq
  rw [e1, e2]; clear e1 e2
  rcases hx with ⟨rfl, p2⟩ | ⟨rfl, p2⟩
  · show j_at _ _ _ [(0, .ref 6), (1, j_i i)] [j_i 1] _ _ _ _
    refine a_if_ne (pc := 5) (off := 5) (tgt := 10) (by decide +kernel) (by decide) (by omega) (fun c5 => ?_) (fun c5 => ?_)
    · refine a_aload_n (pc := 10) (i := 0) (by decide +kernel) rfl ?_
      refine b_getR (pc := 11) (b := 7) fl_X4_9 (by decide +kernel) (sh_6 hn) rfl ?_
      refine a_iload_n (pc := 14) (i := 1) (by decide +kernel) rfl ?_
      refine b_iaload (pc := 15) (by decide +kernel) (sh_7 hn) (by omega) (by omega) (by omega) ?_
      refine a_istore_n (pc := 16) (i := 2) (lv' := [(0, .ref 6), (1, j_i i), (2, j_i (σ.1 7 i))]) (by decide +kernel) (Nat.le_of_ble_eq_true rfl) rfl ?_
      refine a_aload_n (pc := 17) (i := 0) (by decide +kernel) rfl ?_
      refine b_getR (pc := 18) (b := 7) fl_X4_9 (by decide +kernel) (sh_6 hn) rfl ?_
      refine a_iload_n (pc := 21) (i := 1) (by decide +kernel) rfl ?_
      refine a_iconst (pc := 22) (n := 1) (by decide +kernel) ?_
      refine a_iadd (pc := 23) (by decide +kernel) ?_
      refine a_aload_n (pc := 24) (i := 0) (by decide +kernel) rfl ?_
      refine b_getR (pc := 25) (b := 7) fl_X4_9 (by decide +kernel) (sh_6 hn) rfl ?_
      refine a_iload_n (pc := 28) (i := 1) (by decide +kernel) rfl ?_
      refine a_aload_n (pc := 29) (i := 0) (by decide +kernel) rfl ?_
      refine b_getI (pc := 30) fl_X4_15 (by decide +kernel) (sh_6 hn) rfl ?_
      refine a_iload_n (pc := 33) (i := 1) (by decide +kernel) rfl ?_
      refine a_isub (pc := 34) (by decide +kernel) ?_
      refine a_iconst (pc := 35) (n := 1) (by decide +kernel) ?_
      refine a_isub (pc := 36) (by decide +kernel) ?_
      refine b_arraycopy (pc := 37) (by decide +kernel) ol_X4_37 (sh_7 hn) (sh_7 hn) (by omega) (by omega) (by decide) (by omega) (by omega) (by omega) (by omega) (by omega) (by omega) (by omega) (fun _ _ _ => rfl) (Nat.le_of_ble_eq_true rfl) (Nat.le_of_ble_eq_true rfl) ?_
      obtain ⟨σ1, hσ1⟩ : ∃ z, z = k_sA σ 7 (j_cpy (σ.1 7) (σ.1 7) (i + 1) i (((σ.2.1 6 1) - i) - 1)) := ⟨_, rfl⟩
      rw [← hσ1]
      refine a_aload_n (pc := 40) (i := 0) (by decide +kernel) rfl ?_
      refine a_dup (pc := 41) (by decide +kernel) rfl ?_
      refine b_getI (pc := 42) fl_X4_15 (by decide +kernel) (sh_6 hn) rfl ?_
      rw [show σ1.2.1 6 1 = σ.2.1 6 1 by rw [hσ1]; rfl]
      refine a_iconst (pc := 45) (n := 1) (by decide +kernel) ?_
      refine a_isub (pc := 46) (by decide +kernel) ?_
      refine b_putI (pc := 47) fl_X4_15 (by decide +kernel) (sh_6 hn) rfl rfl rfl ?_
      obtain ⟨σ2, hσ2⟩ : ∃ z, z = k_sI σ1 6 1 ((σ.2.1 6 1) - 1) := ⟨_, rfl⟩
      rw [← hσ2]
      have hm8 : m_wf σ2 16 := by subst hσ2; subst hσ1; exact m_wf_congr (σ := σ) rfl rfl rfl rfl rfl rfl hm
      refine a_aload_n (pc := 50) (i := 0) (by decide +kernel) rfl ?_
      refine b_getR (pc := 51) (b := 16) fl_X4_29 (by decide +kernel) (sh_6 hn) rfl ?_
      refine a_iload_n (pc := 54) (i := 1) (by decide +kernel) rfl ?_
      refine a_iconst (pc := 55) (n := (-1)) (by decide +kernel) ?_
      refine b_callV (pc := 56) (c' := 0) (sl' := 0) [j_i i, j_i (-1)] [] ml_X4_43 (by decide +kernel) rfl rfl (sh_16 hn) rfl rfl (Nat.le_of_ble_eq_true rfl) (j_fitI rfl rfl) (s_shiftBehind (g := i) (b := (-1)) hn hm8 (by omega)) (fun v n' σ' hq => ?_)
      obtain ⟨rfl, e1, e2⟩ := hq
      rw [e1, e2]; clear e1 e2
      obtain ⟨σ3, hσ3⟩ : ∃ z, z = k_sA σ2 18 (f_map (f_shB i (-1)) (σ2.1 18) (σ2.2.1 16 5)) := ⟨_, rfl⟩
      rw [← hσ3]
      show j_at _ _ _ [(0, .ref 6), (1, j_i i), (2, j_i (σ.1 7 i))] [] _ _ _ _
      refine a_iload_n (pc := 59) (i := 2) (by decide +kernel) rfl ?_
      refine a_ireturn (pc := 60) (by decide +kernel) rfl ?_
      refine k_ret ?_
      subst hσ3; subst hσ2; subst hσ1; exact ⟨rfl, rfl, rfl⟩
    · exact absurd c5 (by decide)
  · show j_at _ _ _ [(0, .ref 6), (1, j_i i)] [j_i 0] _ _ _ _
    refine a_if_ne (pc := 5) (off := 5) (tgt := 10) (by decide +kernel) (by decide) (by omega) (fun c5 => ?_) (fun c5 => ?_)
    · exact absurd c5 (by decide)
    · refine a_iconst (pc := 8) (n := (-1)) (by decide +kernel) ?_
      refine a_ireturn (pc := 9) (by decide +kernel) rfl ?_
      refine k_ret ?_
      exact absurd (And.intro h0 h1) p2
set_option maxHeartbeats 4000000 in
theorem l_turn {G : j_G} {X : k_X} {n : Nat} {σ : k_St} (hn : 101 ≤ n) (hc : 0 ≤ σ.2.1 6 1 ∧ σ.2.1 6 1 ≤ 300) {f e : Int} (hf : 0 ≤ f) (hf2 : f ≤ e) (hfe : e ≤ σ.2.1 6 1) : ∀ (m : Nat) (a b : Int), 300 - a < (m : Int) → a + b = f + e - 1 → f ≤ a → b < e → a ≤ b + 2 → j_at G mX4_turn 20 [(0, .ref 6), (1, j_i f), (2, j_i e), (3, j_i a), (4, j_i b)] [] (k_h X n (k_sA σ 7 (f_rv (σ.1 7) f e a b))) 0 0 (k_Q X (k_is n (k_sA σ 7 (f_rev (σ.1 7) f e)) none)) := by
  intro m
  induction m with
  | zero => intro a b h1 h2 h3 h4 h5; exact absurd h1 (by omega)
  | succ m ih =>
    intro a b hm hab ha hb hab2
    obtain ⟨τ, hτ⟩ : ∃ z, z = (k_sA σ 7 (f_rv (σ.1 7) f e a b)) := ⟨_, rfl⟩
    rw [← hτ]
    have e1 : τ.1 7 = f_rv (σ.1 7) f e a b := by rw [hτ, k_AA]
    refine a_iload_n (pc := 20) (i := 3) (by decide +kernel) rfl ?_
    refine a_iload (pc := 21) (i := 4) (by decide +kernel) rfl ?_
    refine a_icmp_ge (pc := 23) (off := 42) (tgt := 65) (by decide +kernel) (by decide) (by omega) (by omega) (fun c23 => ?_) (fun c23 => ?_)
    · refine a_return (pc := 65) (by decide +kernel) rfl ?_
      refine k_ret ?_
      rw [hτ, f_rv_e hab c23 ha hb (by omega)]; exact ⟨rfl, rfl, rfl⟩
    · refine a_aload_n (pc := 26) (i := 0) (by decide +kernel) rfl ?_
      refine b_getR (pc := 27) (b := 7) fl_X4_9 (by decide +kernel) (sh_6 hn) rfl ?_
      refine a_iload_n (pc := 30) (i := 3) (by decide +kernel) rfl ?_
      refine b_iaload (pc := 31) (by decide +kernel) (sh_7 hn) (by omega) (by omega) (by omega) ?_
      refine a_istore (pc := 32) (i := 5) (lv' := [(0, .ref 6), (1, j_i f), (2, j_i e), (3, j_i a), (4, j_i b), (5, j_i (τ.1 7 a))]) (by decide +kernel) (Nat.le_of_ble_eq_true rfl) rfl ?_
      refine a_aload_n (pc := 34) (i := 0) (by decide +kernel) rfl ?_
      refine b_getR (pc := 35) (b := 7) fl_X4_9 (by decide +kernel) (sh_6 hn) rfl ?_
      refine a_iload_n (pc := 38) (i := 3) (by decide +kernel) rfl ?_
      refine a_aload_n (pc := 39) (i := 0) (by decide +kernel) rfl ?_
      refine b_getR (pc := 40) (b := 7) fl_X4_9 (by decide +kernel) (sh_6 hn) rfl ?_
      refine a_iload (pc := 43) (i := 4) (by decide +kernel) rfl ?_
      refine b_iaload (pc := 45) (by decide +kernel) (sh_7 hn) (by omega) (by omega) (by omega) ?_
      refine b_iastore (pc := 46) (by decide +kernel) (sh_7 hn) (by omega) (by omega) (by omega) ?_
      obtain ⟨σ1, hσ1⟩ : ∃ z, z = k_sA τ 7 (j_up (τ.1 7) a (τ.1 7 b)) := ⟨_, rfl⟩
      rw [← hσ1]
      refine a_aload_n (pc := 47) (i := 0) (by decide +kernel) rfl ?_
      refine b_getR (pc := 48) (b := 7) fl_X4_9 (by decide +kernel) (sh_6 hn) rfl ?_
      refine a_iload (pc := 51) (i := 4) (by decide +kernel) rfl ?_
      refine a_iload (pc := 53) (i := 5) (by decide +kernel) rfl ?_
      refine b_iastore (pc := 55) (by decide +kernel) (sh_7 hn) (by omega) (by omega) (by omega) ?_
      obtain ⟨σ2, hσ2⟩ : ∃ z, z = k_sA σ1 7 (j_up (σ1.1 7) b (τ.1 7 a)) := ⟨_, rfl⟩
      rw [← hσ2]
      refine a_iinc (pc := 56) (i := 3) (n := 1) (x := a) (lv' := [(0, .ref 6), (1, j_i f), (2, j_i e), (3, j_i (a + 1)), (4, j_i b), (5, j_i (τ.1 7 a))]) (by decide +kernel) rfl (Nat.le_of_ble_eq_true rfl) rfl ?_
      refine a_iinc (pc := 59) (i := 4) (n := -1) (x := b) (lv' := [(0, .ref 6), (1, j_i f), (2, j_i e), (3, j_i (a + 1)), (4, j_i (b + (-1))), (5, j_i (τ.1 7 a))]) (by decide +kernel) rfl (Nat.le_of_ble_eq_true rfl) rfl ?_
      refine a_goto (pc := 62) (off := -42) (tgt := 20) (by decide +kernel) (by decide) ?_
      have ea : τ.1 7 a = σ.1 7 a := by rw [e1]; unfold f_rv; rw [if_neg (by omega)]
      have eb : τ.1 7 b = σ.1 7 b := by rw [e1]; unfold f_rv; rw [if_neg (by omega)]
      rw [eb] at hσ1
      rw [ea] at hσ2
      have e9 : σ2 = k_sA σ 7 (f_rv (σ.1 7) f e (a + 1) (b + -1)) := by
        rw [hσ2, hσ1, k_AA, k_sA_sA, e1, f_rv_s hab c23 ha hb, hτ, k_sA_sA]
      rw [e9]
      exact a_sub (fun q hq => by simp only [List.mem_cons, List.not_mem_nil, or_false] at hq ⊢; rcases hq with rfl | rfl | rfl | rfl | rfl <;> simp) (ih (a + 1) (b + -1) (by omega) (by omega) (by omega) (by omega) (by omega))
set_option maxHeartbeats 4000000 in
theorem s_turn {G : j_G} {X : k_X} {n : Nat} {σ : k_St} (hn : 101 ≤ n) (hc : 0 ≤ σ.2.1 6 1 ∧ σ.2.1 6 1 ≤ 300) {f e : Int} (hf : 0 ≤ f) (hf2 : f ≤ e) (hfe : e ≤ σ.2.1 6 1) : k_run G X mX4_turn [.ref 6, j_i f, j_i e] n σ 0 0 (k_is n (k_sA σ 7 (f_rev (σ.1 7) f e)) none) := by
  refine k_enter (by decide +kernel) (Nat.le_of_ble_eq_true rfl) ?_
  show j_at _ _ _ [(0, .ref 6), (1, j_i f), (2, j_i e)] [] _ _ _ _
  refine a_iload_n (pc := 0) (i := 1) (by decide +kernel) rfl ?_
  refine a_if_lt (pc := 1) (off := 11) (tgt := 12) (by decide +kernel) (by decide) (by omega) (fun c1 => ?_) (fun c1 => ?_)
  · refine a_return (pc := 12) (by decide +kernel) rfl ?_
    refine k_ret ?_
    exfalso; omega
  · refine a_iload_n (pc := 4) (i := 2) (by decide +kernel) rfl ?_
    refine a_aload_n (pc := 5) (i := 0) (by decide +kernel) rfl ?_
    refine b_getI (pc := 6) fl_X4_15 (by decide +kernel) (sh_6 hn) rfl ?_
    refine a_icmp_le (pc := 9) (off := 4) (tgt := 13) (by decide +kernel) (by decide) (by omega) (by omega) (fun c9 => ?_) (fun c9 => ?_)
    · refine a_iload_n (pc := 13) (i := 1) (by decide +kernel) rfl ?_
      refine a_istore_n (pc := 14) (i := 3) (lv' := [(0, .ref 6), (1, j_i f), (2, j_i e), (3, j_i f)]) (by decide +kernel) (Nat.le_of_ble_eq_true rfl) rfl ?_
      refine a_iload_n (pc := 15) (i := 2) (by decide +kernel) rfl ?_
      refine a_iconst (pc := 16) (n := 1) (by decide +kernel) ?_
      refine a_isub (pc := 17) (by decide +kernel) ?_
      refine a_istore (pc := 18) (i := 4) (lv' := [(0, .ref 6), (1, j_i f), (2, j_i e), (3, j_i f), (4, j_i (e - 1))]) (by decide +kernel) (Nat.le_of_ble_eq_true rfl) rfl ?_
      have e0 : σ = k_sA σ 7 (f_rv (σ.1 7) f e f (e - 1)) := by rw [f_rv_0]; exact (k_sA_id rfl).symm
      have e1 := l_turn (G := G) (X := X) hn hc hf hf2 hfe 301 f (e - 1) (by omega) (by omega) (by omega) (by omega) (by omega)
      rw [← e0] at e1
      exact e1
    · refine a_return (pc := 12) (by decide +kernel) rfl ?_
      refine k_ret ?_
      exfalso; omega
set_option maxHeartbeats 4000000 in
theorem s_swapParts {G : j_G} {X : k_X} {n : Nat} {σ : k_St} (hn : 101 ≤ n) (hc : 0 ≤ σ.2.1 6 1 ∧ σ.2.1 6 1 ≤ 300) {f m e : Int} (h0 : 0 ≤ f) (h1 : f ≤ m) (h2 : m ≤ e) (h3 : e ≤ σ.2.1 6 1) : k_run G X mX4_swapParts [.ref 6, j_i f, j_i m, j_i e] n σ 0 0 (k_is n (k_sA σ 7 (f_rev (f_rev (f_rev (σ.1 7) f m) m e) f e)) none) := by
  refine k_enter (by decide +kernel) (Nat.le_of_ble_eq_true rfl) ?_
  show j_at _ _ _ [(0, .ref 6), (1, j_i f), (2, j_i m), (3, j_i e)] [] _ _ _ _
  refine a_aload_n (pc := 0) (i := 0) (by decide +kernel) rfl ?_
  refine a_iload_n (pc := 1) (i := 1) (by decide +kernel) rfl ?_
  refine a_iload_n (pc := 2) (i := 2) (by decide +kernel) rfl ?_
  refine b_callV (pc := 3) (c' := 0) (sl' := 0) [j_i f, j_i m] [] ml_X4_57 (by decide +kernel) rfl rfl (sh_6 hn) rfl rfl (Nat.le_of_ble_eq_true rfl) (j_fitI rfl rfl) (s_turn (f := f) (e := m) hn hc (by omega) (by omega) (by omega)) (fun v n' σ' hq => ?_)
  obtain ⟨rfl, e1, e2⟩ := hq
  rw [e1, e2]; clear e1 e2
  obtain ⟨σ1, hσ1⟩ : ∃ z, z = k_sA σ 7 (f_rev (σ.1 7) f m) := ⟨_, rfl⟩
  rw [← hσ1]
  show j_at _ _ _ [(0, .ref 6), (1, j_i f), (2, j_i m), (3, j_i e)] [] _ _ _ _
  refine a_aload_n (pc := 6) (i := 0) (by decide +kernel) rfl ?_
  refine a_iload_n (pc := 7) (i := 2) (by decide +kernel) rfl ?_
  refine a_iload_n (pc := 8) (i := 3) (by decide +kernel) rfl ?_
  refine b_callV (pc := 9) (c' := 0) (sl' := 0) [j_i m, j_i e] [] ml_X4_57 (by decide +kernel) rfl rfl (sh_6 hn) rfl rfl (Nat.le_of_ble_eq_true rfl) (j_fitI rfl rfl) (s_turn (f := m) (e := e) hn (by rw [hσ1]; exact hc) (by omega) (by omega) (by rw [hσ1]; show _ ≤ σ.2.1 6 1; omega)) (fun v n' σ' hq => ?_)
  obtain ⟨rfl, e1, e2⟩ := hq
  rw [e1, e2]; clear e1 e2
  obtain ⟨σ2, hσ2⟩ : ∃ z, z = k_sA σ1 7 (f_rev (σ1.1 7) m e) := ⟨_, rfl⟩
  rw [← hσ2]
  show j_at _ _ _ [(0, .ref 6), (1, j_i f), (2, j_i m), (3, j_i e)] [] _ _ _ _
  refine a_aload_n (pc := 12) (i := 0) (by decide +kernel) rfl ?_
  refine a_iload_n (pc := 13) (i := 1) (by decide +kernel) rfl ?_
  refine a_iload_n (pc := 14) (i := 3) (by decide +kernel) rfl ?_
  refine b_callV (pc := 15) (c' := 0) (sl' := 0) [j_i f, j_i e] [] ml_X4_57 (by decide +kernel) rfl rfl (sh_6 hn) rfl rfl (Nat.le_of_ble_eq_true rfl) (j_fitI rfl rfl) (s_turn (f := f) (e := e) hn (by rw [hσ2, hσ1]; exact hc) (by omega) (by omega) (by rw [hσ2, hσ1]; show _ ≤ σ.2.1 6 1; omega)) (fun v n' σ' hq => ?_)
  obtain ⟨rfl, e1, e2⟩ := hq
  rw [e1, e2]; clear e1 e2
  obtain ⟨σ3, hσ3⟩ : ∃ z, z = k_sA σ2 7 (f_rev (σ2.1 7) f e) := ⟨_, rfl⟩
  rw [← hσ3]
  show j_at _ _ _ [(0, .ref 6), (1, j_i f), (2, j_i m), (3, j_i e)] [] _ _ _ _
  refine a_return (pc := 18) (by decide +kernel) rfl ?_
  refine k_ret ?_
  subst hσ3; subst hσ2; subst hσ1; refine ⟨rfl, rfl, ?_⟩; rw [k_sA_sA, k_sA_sA, k_AA, k_AA]
set_option maxHeartbeats 4000000 in
theorem s_shiftWords {G : j_G} {X : k_X} {n : Nat} {σ : k_St} (hn : 101 ≤ n) (hc : 0 ≤ σ.2.1 6 1 ∧ σ.2.1 6 1 ≤ 300) (hm : m_wf σ 16) {i m j : Int} (h0 : 0 ≤ i) (h1 : i + m ≤ σ.2.1 6 1) (h2 : 0 ≤ m) (h3 : 0 ≤ j) (h4 : j + m ≤ σ.2.1 6 1) : k_run G X mX4_shiftWords [.ref 6, j_i i, j_i m, j_i j] n σ 0 0 (k_is n (kp_mov σ i m j) none) := by
  refine k_enter (by decide +kernel) (Nat.le_of_ble_eq_true rfl) ?_
  show j_at _ _ _ [(0, .ref 6), (1, j_i i), (2, j_i m), (3, j_i j)] [] _ _ _ _
  refine a_iload_n (pc := 0) (i := 3) (by decide +kernel) rfl ?_
  refine a_iload_n (pc := 1) (i := 1) (by decide +kernel) rfl ?_
  refine a_icmp_ge (pc := 2) (off := 15) (tgt := 17) (by decide +kernel) (by decide) (by omega) (by omega) (fun c2 => ?_) (fun c2 => ?_)
  · refine a_aload_n (pc := 17) (i := 0) (by decide +kernel) rfl ?_
    refine a_iload_n (pc := 18) (i := 1) (by decide +kernel) rfl ?_
    refine a_iload_n (pc := 19) (i := 1) (by decide +kernel) rfl ?_
    refine a_iload_n (pc := 20) (i := 2) (by decide +kernel) rfl ?_
    refine a_iadd (pc := 21) (by decide +kernel) ?_
    refine a_iload_n (pc := 22) (i := 3) (by decide +kernel) rfl ?_
    refine a_iload_n (pc := 23) (i := 2) (by decide +kernel) rfl ?_
    refine a_iadd (pc := 24) (by decide +kernel) ?_
    refine b_callV (pc := 25) (c' := 0) (sl' := 0) [j_i i, j_i (i + m), j_i (j + m)] [] ml_X4_50 (by decide +kernel) rfl rfl (sh_6 hn) rfl rfl (Nat.le_of_ble_eq_true rfl) (j_fitI rfl rfl) (s_swapParts (f := i) (m := (i + m)) (e := (j + m)) hn hc (by omega) (by omega) (by omega) (by omega)) (fun v n' σ' hq => ?_)
    obtain ⟨rfl, e1, e2⟩ := hq
    rw [e1, e2]; clear e1 e2
    obtain ⟨σ1, hσ1⟩ : ∃ z, z = k_sA σ 7 (f_rev (f_rev (f_rev (σ.1 7) i (i + m)) (i + m) (j + m)) i (j + m)) := ⟨_, rfl⟩
    rw [← hσ1]
    have hm8 : m_wf σ1 16 := by rw [hσ1]; exact m_wf_congr (σ := σ) rfl rfl rfl rfl rfl rfl hm
    show j_at _ _ _ [(0, .ref 6), (1, j_i i), (2, j_i m), (3, j_i j)] [] _ _ _ _
    refine a_aload_n (pc := 28) (i := 0) (by decide +kernel) rfl ?_
    refine b_getR (pc := 29) (b := 16) fl_X4_29 (by decide +kernel) (sh_6 hn) rfl ?_
    refine a_iload_n (pc := 32) (i := 1) (by decide +kernel) rfl ?_
    refine a_iload_n (pc := 33) (i := 2) (by decide +kernel) rfl ?_
    refine a_iload_n (pc := 34) (i := 3) (by decide +kernel) rfl ?_
    refine b_callV (pc := 35) (c' := 0) (sl' := 0) [j_i i, j_i m, j_i j] [] ml_X4_54 (by decide +kernel) rfl rfl (sh_16 hn) rfl rfl (Nat.le_of_ble_eq_true rfl) (j_fitI rfl rfl) (s_shiftWithWords (a := i) (m9 := m) (b := j) hn hm8 (by omega) (by omega) (by omega)) (fun v n' σ' hq => ?_)
    obtain ⟨rfl, e1, e2⟩ := hq
    rw [e1, e2]; clear e1 e2
    obtain ⟨σ2, hσ2⟩ : ∃ z, z = k_sA σ1 18 (f_map (f_shW i m j) (σ1.1 18) (σ1.2.1 16 5)) := ⟨_, rfl⟩
    rw [← hσ2]
    show j_at _ _ _ [(0, .ref 6), (1, j_i i), (2, j_i m), (3, j_i j)] [] _ _ _ _
    refine a_return (pc := 38) (by decide +kernel) rfl ?_
    refine k_ret ?_
    have hz : σ2 = kp_mov σ i m j := by
      rw [hσ2, hσ1]
      first | rw [f_swap_l h2 c2] | rw [f_swap_r h2 c2]
      rfl
    exact ⟨rfl, rfl, hz⟩
  · refine a_aload_n (pc := 5) (i := 0) (by decide +kernel) rfl ?_
    refine a_iload_n (pc := 6) (i := 3) (by decide +kernel) rfl ?_
    refine a_iload_n (pc := 7) (i := 1) (by decide +kernel) rfl ?_
    refine a_iload_n (pc := 8) (i := 1) (by decide +kernel) rfl ?_
    refine a_iload_n (pc := 9) (i := 2) (by decide +kernel) rfl ?_
    refine a_iadd (pc := 10) (by decide +kernel) ?_
    refine b_callV (pc := 11) (c' := 0) (sl' := 0) [j_i j, j_i i, j_i (i + m)] [] ml_X4_50 (by decide +kernel) rfl rfl (sh_6 hn) rfl rfl (Nat.le_of_ble_eq_true rfl) (j_fitI rfl rfl) (s_swapParts (f := j) (m := i) (e := (i + m)) hn hc (by omega) (by omega) (by omega) (by omega)) (fun v n' σ' hq => ?_)
    obtain ⟨rfl, e1, e2⟩ := hq
    rw [e1, e2]; clear e1 e2
    obtain ⟨σ3, hσ3⟩ : ∃ z, z = k_sA σ 7 (f_rev (f_rev (f_rev (σ.1 7) j i) i (i + m)) j (i + m)) := ⟨_, rfl⟩
    rw [← hσ3]
    have hm8 : m_wf σ3 16 := by rw [hσ3]; exact m_wf_congr (σ := σ) rfl rfl rfl rfl rfl rfl hm
    show j_at _ _ _ [(0, .ref 6), (1, j_i i), (2, j_i m), (3, j_i j)] [] _ _ _ _
    refine a_goto (pc := 14) (off := 14) (tgt := 28) (by decide +kernel) (by decide) ?_
    refine a_aload_n (pc := 28) (i := 0) (by decide +kernel) rfl ?_
    refine b_getR (pc := 29) (b := 16) fl_X4_29 (by decide +kernel) (sh_6 hn) rfl ?_
    refine a_iload_n (pc := 32) (i := 1) (by decide +kernel) rfl ?_
    refine a_iload_n (pc := 33) (i := 2) (by decide +kernel) rfl ?_
    refine a_iload_n (pc := 34) (i := 3) (by decide +kernel) rfl ?_
    refine b_callV (pc := 35) (c' := 0) (sl' := 0) [j_i i, j_i m, j_i j] [] ml_X4_54 (by decide +kernel) rfl rfl (sh_16 hn) rfl rfl (Nat.le_of_ble_eq_true rfl) (j_fitI rfl rfl) (s_shiftWithWords (a := i) (m9 := m) (b := j) hn hm8 (by omega) (by omega) (by omega)) (fun v n' σ' hq => ?_)
    obtain ⟨rfl, e1, e2⟩ := hq
    rw [e1, e2]; clear e1 e2
    obtain ⟨σ4, hσ4⟩ : ∃ z, z = k_sA σ3 18 (f_map (f_shW i m j) (σ3.1 18) (σ3.2.1 16 5)) := ⟨_, rfl⟩
    rw [← hσ4]
    show j_at _ _ _ [(0, .ref 6), (1, j_i i), (2, j_i m), (3, j_i j)] [] _ _ _ _
    refine a_return (pc := 38) (by decide +kernel) rfl ?_
    refine k_ret ?_
    have hz : σ4 = kp_mov σ i m j := by
      rw [hσ4, hσ3]
      first | rw [f_swap_l h2 c2] | rw [f_swap_r h2 c2]
      rfl
    exact ⟨rfl, rfl, hz⟩
