theorem rA_9 {X : k_X} {n : Nat} (hn : 101 ≤ n) : r_at X n 9 30 := ⟨by omega, by omega, sh_9 hn, sh_10 hn, sh_11 hn⟩
theorem rA_12 {X : k_X} {n : Nat} (hn : 101 ≤ n) : r_at X n 12 30 := ⟨by omega, by omega, sh_12 hn, sh_13 hn, sh_14 hn⟩
theorem rA_30 {X : k_X} {n : Nat} (hn : 101 ≤ n) : r_at X n 30 1 := ⟨by omega, by omega, sh_30 hn, sh_31 hn, sh_32 hn⟩
theorem rA_34 {X : k_X} {n : Nat} (hn : 101 ≤ n) : r_at X n 34 4 := ⟨by omega, by omega, sh_34 hn, sh_35 hn, sh_36 hn⟩
theorem rA_55 {X : k_X} {n : Nat} (hn : 101 ≤ n) : r_at X n 55 30 := ⟨by omega, by omega, sh_55 hn, sh_56 hn, sh_57 hn⟩
theorem rA_65 {X : k_X} {n : Nat} (hn : 101 ≤ n) : r_at X n 65 30 := ⟨by omega, by omega, sh_65 hn, sh_66 hn, sh_67 hn⟩
/-- counts the zeros -/
def f_zeros (g : Int → Int) : Nat → Int
  | 0 => 0
  | k + 1 => f_zeros g k + if g (k : Int) = 0 then 1 else 0
theorem f_zeros_in (g : Int → Int) : ∀ k : Nat, 0 ≤ f_zeros g k ∧ f_zeros g k ≤ k
  | 0 => by simp [f_zeros]
  | k + 1 => by have := f_zeros_in g k; unfold f_zeros; split <;> omega
theorem f_zeros_s {g : Int → Int} {i : Int} (h : 0 ≤ i) : f_zeros g (i + 1).toNat = f_zeros g i.toNat + if g i = 0 then 1 else 0 := by
  rw [show (i + 1).toNat = i.toNat + 1 by omega]
  show f_zeros g i.toNat + (if g ((i.toNat : Nat) : Int) = 0 then 1 else 0) = _
  rw [show ((i.toNat : Nat) : Int) = i by omega]
/-- the heads' cells hold what they may -/
def h_wf (σ : k_St) (a : Nat) : Prop := (0 ≤ σ.2.1 a 3 ∧ σ.2.1 a 3 ≤ 30) ∧ r_wf σ (a + 1) 30 ∧ r_wf σ (a + 4) 30 ∧ ∀ i : Int, σ.1 (a + 7) i = 0 ∨ σ.1 (a + 7) i = 1
def h_is (σ : k_St) (h : Int) : Prop := 0 ≤ h ∧ h < σ.2.1 8 3 ∧ σ.1 15 h = 0
def h_sgs (σ : k_St) (b R : Nat) : Prop := ∃ h : Int, 0 ≤ h ∧ h < σ.2.1 8 3 ∧ σ.1 15 h = 0 ∧ ∀ i, 0 ≤ i → i < 16 → r_sgn σ 9 30 h i = r_sgn σ b R 0 i
set_option maxHeartbeats 4000000 in
theorem s_hhas {G : j_G} {X : k_X} {n : Nat} {σ : k_St} (hn : 101 ≤ n) (hw : h_wf σ 8) {h : Int} (hh : -2147483648 ≤ h ∧ h ≤ 2147483647) : k_run G X mX2_has [.ref 8, j_i h] n σ 0 0 (k_b n σ (h_is σ h)) := by
  obtain ⟨he, hw9, hw12, hg⟩ := id hw
  have hw9 : r_wf σ 9 30 := hw9
  have hw12 : r_wf σ 12 30 := hw12
  have hg : ∀ i : Int, σ.1 15 i = 0 ∨ σ.1 15 i = 1 := hg
  refine k_enter (by decide +kernel) (Nat.le_of_ble_eq_true rfl) ?_
  show j_at _ _ _ [(0, .ref 8), (1, j_i h)] [] _ _ _ _
  refine a_iload_n (pc := 0) (i := 1) (by decide +kernel) rfl ?_
  refine a_if_lt (pc := 1) (off := 24) (tgt := 25) (by decide +kernel) (by decide) (by omega) (fun c1 => ?_) (fun c1 => ?_)
  · refine a_iconst (pc := 25) (n := 0) (by decide +kernel) ?_
    refine a_zreturn (pc := 26) (by decide +kernel) rfl (by omega) ?_
    refine k_ret ?_
    exact k_bn (by unfold h_is; omega)
  · refine a_iload_n (pc := 4) (i := 1) (by decide +kernel) rfl ?_
    refine a_aload_n (pc := 5) (i := 0) (by decide +kernel) rfl ?_
    refine b_getI (pc := 6) fl_X2_27 (by decide +kernel) (sh_8 hn) rfl ?_
    refine a_icmp_ge (pc := 9) (off := 16) (tgt := 25) (by decide +kernel) (by decide) (by omega) (by omega) (fun c9 => ?_) (fun c9 => ?_)
    · refine a_iconst (pc := 25) (n := 0) (by decide +kernel) ?_
      refine a_zreturn (pc := 26) (by decide +kernel) rfl (by omega) ?_
      refine k_ret ?_
      exact k_bn (by unfold h_is; omega)
    · refine a_aload_n (pc := 12) (i := 0) (by decide +kernel) rfl ?_
      refine b_getR (pc := 13) (b := 15) fl_X2_23 (by decide +kernel) (sh_8 hn) rfl ?_
      refine a_iload_n (pc := 16) (i := 1) (by decide +kernel) rfl ?_
      refine b_zaload (pc := 17) (by decide +kernel) (sh_15 hn) (by omega) (by omega) (by omega) ?_
      have hg9 := hg h
      refine a_if_ne (pc := 18) (off := 7) (tgt := 25) (by decide +kernel) (by decide) (by omega) (fun c18 => ?_) (fun c18 => ?_)
      · refine a_iconst (pc := 25) (n := 0) (by decide +kernel) ?_
        refine a_zreturn (pc := 26) (by decide +kernel) rfl (by omega) ?_
        refine k_ret ?_
        exact k_bn (by unfold h_is; omega)
      · refine a_iconst (pc := 21) (n := 1) (by decide +kernel) ?_
        refine a_goto (pc := 22) (off := 4) (tgt := 26) (by decide +kernel) (by decide) ?_
        refine a_zreturn (pc := 26) (by decide +kernel) rfl (by omega) ?_
        refine k_ret ?_
        exact k_by (by unfold h_is; omega)
set_option maxHeartbeats 4000000 in
theorem l_hcount {G : j_G} {X : k_X} {n : Nat} {σ : k_St} (hn : 101 ≤ n) (hw : h_wf σ 8)  : ∀ (m : Nat) (i : Int), 30 - i < (m : Int) → 0 ≤ i → i ≤ σ.2.1 8 3 → j_at G mX2_countThere 4 [(0, .ref 8), (1, j_i (f_zeros (σ.1 15) i.toNat)), (2, j_i i)] [] (k_h X n σ) 0 0 (k_Q X (k_is n σ (some (j_i (f_zeros (σ.1 15) (σ.2.1 8 3).toNat))))) := by
  intro m
  induction m with
  | zero => intro i h1 h2 h3; exact absurd h3 (by have := hw.1; omega)
  | succ m ih =>
    intro i hm h0 hN
    obtain ⟨he, hw9, hw12, hg⟩ := id hw
    have hw9 : r_wf σ 9 30 := hw9
    have hw12 : r_wf σ 12 30 := hw12
    have hg : ∀ i : Int, σ.1 15 i = 0 ∨ σ.1 15 i = 1 := hg
    refine a_iload_n (pc := 4) (i := 2) (by decide +kernel) rfl ?_
    refine a_aload_n (pc := 5) (i := 0) (by decide +kernel) rfl ?_
    refine b_getI (pc := 6) fl_X2_27 (by decide +kernel) (sh_8 hn) rfl ?_
    refine a_icmp_ge (pc := 9) (off := 21) (tgt := 30) (by decide +kernel) (by decide) (by omega) (by omega) (fun c9 => ?_) (fun c9 => ?_)
    · refine a_iload_n (pc := 30) (i := 1) (by decide +kernel) rfl ?_
      refine a_ireturn (pc := 31) (by decide +kernel) rfl ?_
      refine k_ret ?_
      rw [show i = σ.2.1 8 3 by omega]; exact ⟨rfl, rfl, rfl⟩
    · refine a_aload_n (pc := 12) (i := 0) (by decide +kernel) rfl ?_
      refine b_getR (pc := 13) (b := 15) fl_X2_23 (by decide +kernel) (sh_8 hn) rfl ?_
      refine a_iload_n (pc := 16) (i := 2) (by decide +kernel) rfl ?_
      refine b_zaload (pc := 17) (by decide +kernel) (sh_15 hn) (by omega) (by omega) (by omega) ?_
      have hg9 := hg i
      refine a_if_ne (pc := 18) (off := 6) (tgt := 24) (by decide +kernel) (by decide) (by omega) (fun c18 => ?_) (fun c18 => ?_)
      · refine a_iinc (pc := 24) (i := 2) (n := 1) (x := i) (lv' := [(0, .ref 8), (1, j_i (f_zeros (σ.1 15) i.toNat)), (2, j_i (i + 1))]) (by decide +kernel) rfl (Nat.le_of_ble_eq_true rfl) rfl ?_
        refine a_goto (pc := 27) (off := -23) (tgt := 4) (by decide +kernel) (by decide) ?_
        have e9 := f_zeros_s (g := σ.1 15) h0
        have e8 := ih (i + 1) (by omega) (by omega) (by omega)
        rw [e9] at e8
        first | (rw [if_pos c18] at e8; exact e8) | (rw [if_neg c18, Int.add_zero] at e8; exact e8)
      · refine a_iinc (pc := 21) (i := 1) (n := 1) (x := f_zeros (σ.1 15) i.toNat) (lv' := [(0, .ref 8), (1, j_i ((f_zeros (σ.1 15) i.toNat) + 1)), (2, j_i i)]) (by decide +kernel) rfl (Nat.le_of_ble_eq_true rfl) rfl ?_
        refine a_iinc (pc := 24) (i := 2) (n := 1) (x := i) (lv' := [(0, .ref 8), (1, j_i ((f_zeros (σ.1 15) i.toNat) + 1)), (2, j_i (i + 1))]) (by decide +kernel) rfl (Nat.le_of_ble_eq_true rfl) rfl ?_
        refine a_goto (pc := 27) (off := -23) (tgt := 4) (by decide +kernel) (by decide) ?_
        have e9 := f_zeros_s (g := σ.1 15) h0
        have e8 := ih (i + 1) (by omega) (by omega) (by omega)
        rw [e9] at e8
        first | (rw [if_pos c18] at e8; exact e8) | (rw [if_neg c18, Int.add_zero] at e8; exact e8)
set_option maxHeartbeats 4000000 in
theorem s_hcount {G : j_G} {X : k_X} {n : Nat} {σ : k_St} (hn : 101 ≤ n) (hw : h_wf σ 8)  : k_run G X mX2_countThere [.ref 8] n σ 0 0 (k_is n σ (some (j_i (f_zeros (σ.1 15) (σ.2.1 8 3).toNat)))) := by
  obtain ⟨he, hw9, hw12, hg⟩ := id hw
  have hw9 : r_wf σ 9 30 := hw9
  have hw12 : r_wf σ 12 30 := hw12
  have hg : ∀ i : Int, σ.1 15 i = 0 ∨ σ.1 15 i = 1 := hg
  refine k_enter (by decide +kernel) (Nat.le_of_ble_eq_true rfl) ?_
  show j_at _ _ _ [(0, .ref 8)] [] _ _ _ _
  refine a_iconst (pc := 0) (n := 0) (by decide +kernel) ?_
  refine a_istore_n (pc := 1) (i := 1) (lv' := [(0, .ref 8), (1, j_i 0)]) (by decide +kernel) (Nat.le_of_ble_eq_true rfl) rfl ?_
  refine a_iconst (pc := 2) (n := 0) (by decide +kernel) ?_
  refine a_istore_n (pc := 3) (i := 2) (lv' := [(0, .ref 8), (1, j_i 0), (2, j_i 0)]) (by decide +kernel) (Nat.le_of_ble_eq_true rfl) rfl ?_
  exact l_hcount hn hw 31 0 (by omega) (by omega) he.1
set_option maxHeartbeats 4000000 in
theorem l_hasSigns {G : j_G} {X : k_X} {n : Nat} {σ : k_St} (hn : 101 ≤ n) (hw : h_wf σ 8) {b R : Nat} (hRb : r_at X n b R) (hwb : r_wf σ b R)  : ∀ (m : Nat) (i : Int), 30 - i < (m : Int) → 0 ≤ i → i ≤ σ.2.1 8 3 → (∀ j, 0 ≤ j → j < i → σ.1 15 j = 0 → ¬ ∀ k, 0 ≤ k → k < 16 → r_sgn σ 9 30 j k = r_sgn σ b R 0 k) → j_at G mX2_hasSigns 2 [(0, .ref 8), (1, .ref b), (2, j_i i)] [] (k_h X n σ) 0 0 (k_Q X (k_b n σ (h_sgs σ b R))) := by
  intro m
  induction m with
  | zero => intro i h1 h2 h3; exact absurd h3 (by have := hw.1; omega)
  | succ m ih =>
    intro i hm h0 hN hI
    obtain ⟨he, hw9, hw12, hg⟩ := id hw
    have hw9 : r_wf σ 9 30 := hw9
    have hw12 : r_wf σ 12 30 := hw12
    have hg : ∀ i : Int, σ.1 15 i = 0 ∨ σ.1 15 i = 1 := hg
    refine a_iload_n (pc := 2) (i := 2) (by decide +kernel) rfl ?_
    refine a_aload_n (pc := 3) (i := 0) (by decide +kernel) rfl ?_
    refine b_getI (pc := 4) fl_X2_27 (by decide +kernel) (sh_8 hn) rfl ?_
    refine a_icmp_ge (pc := 7) (off := 33) (tgt := 40) (by decide +kernel) (by decide) (by omega) (by omega) (fun c7 => ?_) (fun c7 => ?_)
    · refine a_iconst (pc := 40) (n := 0) (by decide +kernel) ?_
      refine a_zreturn (pc := 41) (by decide +kernel) rfl (by omega) ?_
      refine k_ret ?_
      exact k_bn (fun ⟨h, a1, a2, a3, a4⟩ => hI h a1 (by omega) a3 a4)
    · refine a_aload_n (pc := 10) (i := 0) (by decide +kernel) rfl ?_
      refine b_getR (pc := 11) (b := 15) fl_X2_23 (by decide +kernel) (sh_8 hn) rfl ?_
      refine a_iload_n (pc := 14) (i := 2) (by decide +kernel) rfl ?_
      refine b_zaload (pc := 15) (by decide +kernel) (sh_15 hn) (by omega) (by omega) (by omega) ?_
      have hg9 := hg i
      refine a_if_ne (pc := 16) (off := 18) (tgt := 34) (by decide +kernel) (by decide) (by omega) (fun c16 => ?_) (fun c16 => ?_)
      · refine a_iinc (pc := 34) (i := 2) (n := 1) (x := i) (lv' := [(0, .ref 8), (1, .ref b), (2, j_i (i + 1))]) (by decide +kernel) rfl (Nat.le_of_ble_eq_true rfl) rfl ?_
        refine a_goto (pc := 37) (off := -35) (tgt := 2) (by decide +kernel) (by decide) ?_
        refine ih (i + 1) (by omega) (by omega) (by omega) (lt_succ_cases hI ?_)
        first | exact fun h9 => absurd h9 c16 | exact fun _ h8 => by rcases hy1 with ⟨h1, h2⟩ | ⟨j, j0, j1, _, j3, _⟩ <;> first | exact c29 h1 | exact j3 (h8 j j0 j1)
      · refine a_aload_n (pc := 19) (i := 0) (by decide +kernel) rfl ?_
        refine b_getR (pc := 20) (b := 9) fl_X2_14 (by decide +kernel) (sh_8 hn) rfl ?_
        refine a_iload_n (pc := 23) (i := 2) (by decide +kernel) rfl ?_
        refine a_aload_n (pc := 24) (i := 1) (by decide +kernel) rfl ?_
        refine a_iconst (pc := 25) (n := 0) (by decide +kernel) ?_
        refine b_callV (pc := 26) (c' := 0) (sl' := 0) [j_i i, .ref b, j_i 0] [] ml_X2_31 (by decide +kernel) rfl rfl (sh_9 hn) rfl rfl (Nat.le_of_ble_eq_true rfl) (j_fitI rfl rfl) (s_byBytes (rA_9 hn) hw9 (by omega) hRb hwb (by omega)) (fun v n' σ' hq => ?_)
        obtain ⟨y1, rfl, e1, e2, hy1⟩ := hq
        rw [e1, e2]; clear e1 e2
        show j_at _ _ _ [(0, .ref 8), (1, .ref b), (2, j_i i)] [j_i y1] _ _ _ _
        refine a_if_ne (pc := 29) (off := 5) (tgt := 34) (by decide +kernel) (by decide) (by rcases hy1 with hy1 | ⟨j, _, _, _, _, hy1⟩ <;> first | omega | (have := f_sgn_cases (r_sgn σ 9 30 i j) (r_sgn σ b R 0 j); omega)) (fun c29 => ?_) (fun c29 => ?_)
        · refine a_iinc (pc := 34) (i := 2) (n := 1) (x := i) (lv' := [(0, .ref 8), (1, .ref b), (2, j_i (i + 1))]) (by decide +kernel) rfl (Nat.le_of_ble_eq_true rfl) rfl ?_
          refine a_goto (pc := 37) (off := -35) (tgt := 2) (by decide +kernel) (by decide) ?_
          refine ih (i + 1) (by omega) (by omega) (by omega) (lt_succ_cases hI ?_)
          first | exact fun h9 => absurd h9 c16 | exact fun _ h8 => by rcases hy1 with ⟨h1, h2⟩ | ⟨j, j0, j1, _, j3, _⟩ <;> first | exact c29 h1 | exact j3 (h8 j j0 j1)
        · refine a_iconst (pc := 32) (n := 1) (by decide +kernel) ?_
          refine a_zreturn (pc := 33) (by decide +kernel) rfl (by omega) ?_
          refine k_ret ?_
          refine k_by ⟨i, h0, c7, c16, ?_⟩
          rcases hy1 with ⟨h1, h2⟩ | ⟨j, j0, j1, _, j3, h1⟩
          · exact h2
          · exfalso; have := f_sgn_cases (r_sgn σ 9 30 i j) (r_sgn σ b R 0 j); omega
set_option maxHeartbeats 4000000 in
theorem s_hasSigns {G : j_G} {X : k_X} {n : Nat} {σ : k_St} (hn : 101 ≤ n) (hw : h_wf σ 8) {b R : Nat} (hRb : r_at X n b R) (hwb : r_wf σ b R)  : k_run G X mX2_hasSigns [.ref 8, .ref b] n σ 0 0 (k_b n σ (h_sgs σ b R)) := by
  obtain ⟨he, hw9, hw12, hg⟩ := id hw
  have hw9 : r_wf σ 9 30 := hw9
  have hw12 : r_wf σ 12 30 := hw12
  have hg : ∀ i : Int, σ.1 15 i = 0 ∨ σ.1 15 i = 1 := hg
  refine k_enter (by decide +kernel) (Nat.le_of_ble_eq_true rfl) ?_
  show j_at _ _ _ [(0, .ref 8), (1, .ref b)] [] _ _ _ _
  refine a_iconst (pc := 0) (n := 0) (by decide +kernel) ?_
  refine a_istore_n (pc := 1) (i := 2) (lv' := [(0, .ref 8), (1, .ref b), (2, j_i 0)]) (by decide +kernel) (Nat.le_of_ble_eq_true rfl) rfl ?_
  exact l_hasSigns hn hw hRb hwb 31 0 (by omega) (by omega) he.1 (fun j h0 h1 => absurd h0 (by omega))
def h_add (σ : k_St) (b : Nat) : k_St := k_sI (k_sA (k_sA (r_cpS σ 9 b (σ.2.1 8 3) 0 (σ.1 (b + 2) 0)) 14 (j_up (σ.1 14) (σ.2.1 8 3) 0)) 15 (j_up (σ.1 15) (σ.2.1 8 3) 0)) 8 3 (σ.2.1 8 3 + 1)
set_option maxHeartbeats 4000000 in
theorem s_hadd {G : j_G} {X : k_X} {n : Nat} {σ : k_St} (hn : 101 ≤ n) (hw : h_wf σ 8) (h30 : σ.2.1 8 3 < 30) {b R : Nat} (hRb : r_at X n b R) (hwb : r_wf σ b R) (h1R : 1 ≤ R) (hb : 14 < b) : k_run G X mX2_add [.ref 8, .ref b] n σ 0 0 (k_is n (h_add σ b) (some (j_i (σ.2.1 8 3)))) := by
  obtain ⟨he, hw9, hw12, hg⟩ := id hw
  have hw9 : r_wf σ 9 30 := hw9
  have hw12 : r_wf σ 12 30 := hw12
  have hg : ∀ i : Int, σ.1 15 i = 0 ∨ σ.1 15 i = 1 := hg
  refine k_enter (by decide +kernel) (Nat.le_of_ble_eq_true rfl) ?_
  show j_at _ _ _ [(0, .ref 8), (1, .ref b)] [] _ _ _ _
  refine a_aload_n (pc := 0) (i := 0) (by decide +kernel) rfl ?_
  refine b_getI (pc := 1) fl_X2_27 (by decide +kernel) (sh_8 hn) rfl ?_
  refine a_bipush (pc := 4) (n := 30) (by decide +kernel) rfl ?_
  refine a_icmp_lt (pc := 6) (off := 6) (tgt := 12) (by decide +kernel) (by decide) (by omega) (by omega) (fun c6 => ?_) (fun c6 => ?_)
  · refine a_aload_n (pc := 12) (i := 0) (by decide +kernel) rfl ?_
    refine b_getR (pc := 13) (b := 9) fl_X2_14 (by decide +kernel) (sh_8 hn) rfl ?_
    refine a_aload_n (pc := 16) (i := 0) (by decide +kernel) rfl ?_
    refine b_getI (pc := 17) fl_X2_27 (by decide +kernel) (sh_8 hn) rfl ?_
    refine a_aload_n (pc := 20) (i := 1) (by decide +kernel) rfl ?_
    refine a_iconst (pc := 21) (n := 0) (by decide +kernel) ?_
    refine b_callV (pc := 22) (c' := 0) (sl' := 0) [j_i (σ.2.1 8 3), .ref b, j_i 0] [] ml_X2_35 (by decide +kernel) rfl rfl (sh_9 hn) rfl rfl (Nat.le_of_ble_eq_true rfl) (j_fitI rfl rfl) (s_copyRow (rA_9 hn) hw9 hRb hwb (by omega) (by omega) (by omega) (by omega) (by omega)) (fun v n' σ' hq => ?_)
    obtain ⟨rfl, e1, e2⟩ := hq
    rw [e1, e2]; clear e1 e2
    obtain ⟨σ1, hσ1⟩ : ∃ z, z = r_cpS σ 9 b (σ.2.1 8 3) 0 (σ.1 (b + 2) 0) := ⟨_, rfl⟩
    rw [← hσ1]
    show j_at _ _ _ [(0, .ref 8), (1, .ref b)] [] _ _ _ _
    refine a_aload_n (pc := 25) (i := 0) (by decide +kernel) rfl ?_
    refine b_getR (pc := 26) (b := 12) fl_X2_20 (by decide +kernel) (sh_8 hn) rfl ?_
    refine a_aload_n (pc := 29) (i := 0) (by decide +kernel) rfl ?_
    refine b_getI (pc := 30) fl_X2_27 (by decide +kernel) (sh_8 hn) rfl ?_
    rw [show σ1.2.1 8 3 = σ.2.1 8 3 by rw [hσ1]; rfl]
    refine b_callV (pc := 33) (c' := 0) (sl' := 0) [j_i (σ.2.1 8 3)] [] ml_X2_39 (by decide +kernel) rfl rfl (sh_12 hn) rfl rfl (Nat.le_of_ble_eq_true rfl) (j_fitI rfl rfl) (s_clear (rA_12 hn) (by omega) (by omega)) (fun v n' σ' hq => ?_)
    obtain ⟨rfl, e1, e2⟩ := hq
    rw [e1, e2]; clear e1 e2
    obtain ⟨σ2, hσ2⟩ : ∃ z, z = k_sA σ1 14 (j_up (σ1.1 14) (σ.2.1 8 3) 0) := ⟨_, rfl⟩
    rw [← hσ2]
    show j_at _ _ _ [(0, .ref 8), (1, .ref b)] [] _ _ _ _
    refine a_aload_n (pc := 36) (i := 0) (by decide +kernel) rfl ?_
    refine b_getR (pc := 37) (b := 15) fl_X2_23 (by decide +kernel) (sh_8 hn) rfl ?_
    refine a_aload_n (pc := 40) (i := 0) (by decide +kernel) rfl ?_
    refine b_getI (pc := 41) fl_X2_27 (by decide +kernel) (sh_8 hn) rfl ?_
    rw [show σ2.2.1 8 3 = σ1.2.1 8 3 by rw [hσ2]; rfl]
    rw [show σ1.2.1 8 3 = σ.2.1 8 3 by rw [hσ1]; rfl]
    refine a_iconst (pc := 44) (n := 0) (by decide +kernel) ?_
    refine b_zastore (pc := 45) (by decide +kernel) (sh_15 hn) (by omega) (by omega) (by omega) (by decide) ?_
    obtain ⟨σ3, hσ3⟩ : ∃ z, z = k_sA σ2 15 (j_up (σ2.1 15) (σ.2.1 8 3) 0) := ⟨_, rfl⟩
    rw [← hσ3]
    refine a_aload_n (pc := 46) (i := 0) (by decide +kernel) rfl ?_
    refine a_dup (pc := 47) (by decide +kernel) rfl ?_
    refine b_getI (pc := 48) fl_X2_27 (by decide +kernel) (sh_8 hn) rfl ?_
    rw [show σ3.2.1 8 3 = σ2.2.1 8 3 by rw [hσ3]; rfl]
    rw [show σ2.2.1 8 3 = σ1.2.1 8 3 by rw [hσ2]; rfl]
    rw [show σ1.2.1 8 3 = σ.2.1 8 3 by rw [hσ1]; rfl]
    refine a_iconst (pc := 51) (n := 1) (by decide +kernel) ?_
    refine a_iadd (pc := 52) (by decide +kernel) ?_
    refine b_putI (pc := 53) fl_X2_27 (by decide +kernel) (sh_8 hn) rfl rfl rfl ?_
    obtain ⟨σ4, hσ4⟩ : ∃ z, z = k_sI σ3 8 3 ((σ.2.1 8 3) + 1) := ⟨_, rfl⟩
    rw [← hσ4]
    refine a_aload_n (pc := 56) (i := 0) (by decide +kernel) rfl ?_
    refine b_getI (pc := 57) fl_X2_27 (by decide +kernel) (sh_8 hn) rfl ?_
    rw [show σ4.2.1 8 3 = (σ.2.1 8 3) + 1 by rw [hσ4]; exact k_II]
    refine a_iconst (pc := 60) (n := 1) (by decide +kernel) ?_
    refine a_isub (pc := 61) (by decide +kernel) ?_
    refine a_ireturn (pc := 62) (by decide +kernel) rfl ?_
    refine k_ret ?_
    refine ⟨?_, rfl, ?_⟩
    · congr 3; omega
    · subst hσ4; subst hσ3; subst hσ2; subst hσ1; unfold h_add
      rw [k_AN (show (15 : Nat) ≠ 14 by omega), r_cpS_o (c := 14) (by omega) (by omega), r_cpS_o (c := 15) (by omega) (by omega)]
  · refine a_bipush (pc := 9) (n := (-4)) (by decide +kernel) rfl ?_
    refine a_ireturn (pc := 11) (by decide +kernel) rfl ?_
    refine k_ret ?_
    exfalso; omega
set_option maxHeartbeats 4000000 in
theorem s_hremove {G : j_G} {X : k_X} {n : Nat} {σ : k_St} (hn : 101 ≤ n) (hw : h_wf σ 8) {h : Int} (hi : h_is σ h) : k_run G X mX2_remove [.ref 8, j_i h] n σ 0 0 (k_is n (k_sA σ 15 (j_up (σ.1 15) h 1)) none) := by
  obtain ⟨he, hw9, hw12, hg⟩ := id hw
  have hw9 : r_wf σ 9 30 := hw9
  have hw12 : r_wf σ 12 30 := hw12
  have hg : ∀ i : Int, σ.1 15 i = 0 ∨ σ.1 15 i = 1 := hg
  have hh := hi.2.1
  have hh0 := hi.1
  refine k_enter (by decide +kernel) (Nat.le_of_ble_eq_true rfl) ?_
  show j_at _ _ _ [(0, .ref 8), (1, j_i h)] [] _ _ _ _
  refine a_aload_n (pc := 0) (i := 0) (by decide +kernel) rfl ?_
  refine a_iload_n (pc := 1) (i := 1) (by decide +kernel) rfl ?_
  refine b_callV (pc := 2) (c' := 0) (sl' := 0) [j_i h] [] ml_X2_42 (by decide +kernel) rfl rfl (sh_8 hn) rfl rfl (Nat.le_of_ble_eq_true rfl) (j_fitI rfl rfl) (s_hhas hn hw (by omega)) (fun v n' σ' hq => ?_)
  obtain ⟨x, rfl, e1, e2, hx⟩ := hq
  rw [e1, e2]; clear e1 e2
  rcases hx with ⟨rfl, p2⟩ | ⟨rfl, p2⟩
  · show j_at _ _ _ [(0, .ref 8), (1, j_i h)] [j_i 1] _ _ _ _
    refine a_if_eq (pc := 5) (off := 10) (tgt := 15) (by decide +kernel) (by decide) (by omega) (fun c5 => ?_) (fun c5 => ?_)
    · exact absurd c5 (by decide)
    · obtain ⟨i0, i1, i2⟩ := id hi
      refine a_aload_n (pc := 8) (i := 0) (by decide +kernel) rfl ?_
      refine b_getR (pc := 9) (b := 15) fl_X2_23 (by decide +kernel) (sh_8 hn) rfl ?_
      refine a_iload_n (pc := 12) (i := 1) (by decide +kernel) rfl ?_
      refine a_iconst (pc := 13) (n := 1) (by decide +kernel) ?_
      refine b_zastore (pc := 14) (by decide +kernel) (sh_15 hn) (by omega) (by omega) (by omega) (by decide) ?_
      obtain ⟨σ1, hσ1⟩ : ∃ z, z = k_sA σ 15 (j_up (σ.1 15) h 1) := ⟨_, rfl⟩
      rw [← hσ1]
      refine a_return (pc := 15) (by decide +kernel) rfl ?_
      refine k_ret ?_
      first | (exact absurd hi p2) | (subst hσ1; exact ⟨rfl, rfl, rfl⟩)
  · show j_at _ _ _ [(0, .ref 8), (1, j_i h)] [j_i 0] _ _ _ _
    refine a_if_eq (pc := 5) (off := 10) (tgt := 15) (by decide +kernel) (by decide) (by omega) (fun c5 => ?_) (fun c5 => ?_)
    · refine a_return (pc := 15) (by decide +kernel) rfl ?_
      refine k_ret ?_
      first | (exact absurd hi p2) | (subst hσ1; exact ⟨rfl, rfl, rfl⟩)
    · exact absurd c5 (by decide)
def h_rows (σ : k_St) (h w : Int) : Nat := if w = 1 ∧ 0 < r_cnt σ 12 30 h then 12 else 9
set_option maxHeartbeats 4000000 in
theorem s_hrows {G : j_G} {X : k_X} {n : Nat} {σ : k_St} (hn : 101 ≤ n) (hw : h_wf σ 8) {h w : Int} (hh : -2147483648 ≤ h ∧ h ≤ 2147483647) (hw9 : -2147483648 ≤ w ∧ w ≤ 2147483647) : k_run G X mX2_rows [.ref 8, j_i h, j_i w] n σ 0 0 (k_is n σ (some (.ref (h_rows σ h w)))) := by
  obtain ⟨he, hwn, hw12, hg⟩ := id hw
  have hwn : r_wf σ 9 30 := hwn
  have hw12 : r_wf σ 12 30 := hw12
  have hg : ∀ i : Int, σ.1 15 i = 0 ∨ σ.1 15 i = 1 := hg
  refine k_enter (by decide +kernel) (Nat.le_of_ble_eq_true rfl) ?_
  show j_at _ _ _ [(0, .ref 8), (1, j_i h), (2, j_i w)] [] _ _ _ _
  refine a_iload_n (pc := 0) (i := 2) (by decide +kernel) rfl ?_
  refine a_iconst (pc := 1) (n := 1) (by decide +kernel) ?_
  refine a_icmp_ne (pc := 2) (off := 21) (tgt := 23) (by decide +kernel) (by decide) (by omega) (by omega) (fun c2 => ?_) (fun c2 => ?_)
  · refine a_aload_n (pc := 23) (i := 0) (by decide +kernel) rfl ?_
    refine b_getR (pc := 24) (b := 9) fl_X2_14 (by decide +kernel) (sh_8 hn) rfl ?_
    refine a_areturn (pc := 27) (by decide +kernel) rfl ?_
    refine k_ret ?_
    refine ⟨?_, rfl, rfl⟩
    unfold h_rows
    first | rw [if_pos (by omega)] | rw [if_neg (by omega)]
  · refine a_aload_n (pc := 5) (i := 0) (by decide +kernel) rfl ?_
    refine b_getR (pc := 6) (b := 12) fl_X2_20 (by decide +kernel) (sh_8 hn) rfl ?_
    refine a_iload_n (pc := 9) (i := 1) (by decide +kernel) rfl ?_
    refine b_pureV (pc := 10) [j_i h] [] ml_X2_46 (by decide +kernel) rfl rfl (sh_12 hn) rfl rfl (Nat.le_of_ble_eq_true rfl) (j_fitI rfl rfl) (s_countOf (rA_12 hn) hw12 (by omega)) ?_
    have qc := r_cnt_in hw12 h
    show j_at _ _ _ [(0, .ref 8), (1, j_i h), (2, j_i w)] [j_i (r_cnt σ 12 30 h)] _ _ _ _
    refine a_if_le (pc := 13) (off := 10) (tgt := 23) (by decide +kernel) (by decide) (by omega) (fun c13 => ?_) (fun c13 => ?_)
    · refine a_aload_n (pc := 23) (i := 0) (by decide +kernel) rfl ?_
      refine b_getR (pc := 24) (b := 9) fl_X2_14 (by decide +kernel) (sh_8 hn) rfl ?_
      refine a_areturn (pc := 27) (by decide +kernel) rfl ?_
      refine k_ret ?_
      refine ⟨?_, rfl, rfl⟩
      unfold h_rows
      first | rw [if_pos (by omega)] | rw [if_neg (by omega)]
    · refine a_aload_n (pc := 16) (i := 0) (by decide +kernel) rfl ?_
      refine b_getR (pc := 17) (b := 12) fl_X2_20 (by decide +kernel) (sh_8 hn) rfl ?_
      refine a_goto (pc := 20) (off := 7) (tgt := 27) (by decide +kernel) (by decide) ?_
      refine a_areturn (pc := 27) (by decide +kernel) rfl ?_
      refine k_ret ?_
      refine ⟨?_, rfl, rfl⟩
      unfold h_rows
      first | rw [if_pos (by omega)] | rw [if_neg (by omega)]
