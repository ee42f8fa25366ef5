theorem k_I1 {σ : k_St} {a j : Nat} {x : Int} : (k_sI σ a j x).1 = σ.1 := rfl
theorem k_A2 {σ : k_St} {a : Nat} {f : Int → Int} : (k_sA σ a f).2.1 = σ.2.1 := rfl
theorem k_A3 {σ : k_St} {a : Nat} {f : Int → Int} : (k_sA σ a f).2.2 = σ.2.2 := rfl
theorem k_I3 {σ : k_St} {a j : Nat} {x : Int} : (k_sI σ a j x).2.2 = σ.2.2 := rfl
def h_at (X : k_X) (n a : Nat) : Prop := 5 ≤ a ∧ k_has X n a (.inr (.inr (2, [a + 1 + 3, a + 4 + 3, a + 7 + 3, 0]))) ∧ r_at X n (a + 1) 30 ∧ r_at X n (a + 4) 30 ∧ k_has X n (a + 7) (.inl (2, 30))
def m_at (X : k_X) (n a : Nat) : Prop := 5 ≤ a ∧ k_has X n a (.inr (.inr (7, [a + 1 + 3, a + 2 + 3, a + 3 + 3, a + 4 + 3, a + 5 + 3, 0]))) ∧ k_has X n (a + 1) (.inl (0, 50)) ∧ k_has X n (a + 2) (.inl (0, 50)) ∧ k_has X n (a + 3) (.inl (0, 50)) ∧ k_has X n (a + 4) (.inl (0, 50)) ∧ k_has X n (a + 5) (.inl (2, 50))
def kp_at (X : k_X) (n a : Nat) : Prop := 5 ≤ a ∧ k_has X n a (.inr (.inr (4, [a + 1 + 3, 0, a + 2 + 3, a + 10 + 3]))) ∧ k_has X n (a + 1) (.inl (0, 300)) ∧ h_at X n (a + 2) ∧ m_at X n (a + 10)
theorem kA_6 {X : k_X} {n : Nat} (hn : 101 ≤ n) : kp_at X n 6 := ⟨by omega, sh_6 hn, sh_7 hn, ⟨by omega, sh_8 hn, rA_9 hn, rA_12 hn, sh_15 hn⟩, ⟨by omega, sh_16 hn, sh_17 hn, sh_18 hn, sh_19 hn, sh_20 hn, sh_21 hn⟩⟩
theorem k_ring {L s d : Nat} (hs : s < 40) (hd : d < 16) : k_SH L (101 + 16 * s + d) = (k_kp (101 + 16 * s))[d]? := by
  unfold k_SH
  rw [if_neg (by omega), if_pos (by omega), show (101 + 16 * s + d - 101) / 16 = s by omega, show (101 + 16 * s + d - 101) % 16 = d by omega]
theorem kA_r {X : k_X} {n s : Nat} (hs : s < 40) (hn : 101 + 16 * s + 16 ≤ n) : kp_at X n (101 + 16 * s) := by
  have r : ∀ d, d < 16 → ∀ sh, (k_kp (101 + 16 * s))[d]? = some sh → k_has X n (101 + 16 * s + d) sh := fun d hd sh h => ⟨by omega, by rw [k_ring hs hd]; exact h⟩
  exact ⟨by omega, r 0 (by omega) _ rfl, r 1 (by omega) _ rfl, ⟨by omega, r 2 (by omega) _ rfl, ⟨by omega, by omega, r 3 (by omega) _ rfl, r 4 (by omega) _ rfl, r 5 (by omega) _ rfl⟩, ⟨by omega, by omega, r 6 (by omega) _ rfl, r 7 (by omega) _ rfl, r 8 (by omega) _ rfl⟩, r 9 (by omega) _ rfl⟩, ⟨by omega, r 10 (by omega) _ rfl, r 11 (by omega) _ rfl, r 12 (by omega) _ rfl, r 13 (by omega) _ rfl, r 14 (by omega) _ rfl, r 15 (by omega) _ rfl⟩⟩
def h_cp (σ : k_St) (a b : Nat) : k_St := k_sI (k_sA (r_cpA (r_cpA σ (a + 1) (b + 1) 30) (a + 4) (b + 4) 30) (a + 7) (j_cpy ((r_cpA (r_cpA σ (a + 1) (b + 1) 30) (a + 4) (b + 4) 30).1 (b + 7)) ((r_cpA (r_cpA σ (a + 1) (b + 1) 30) (a + 4) (b + 4) 30).1 (a + 7)) 0 0 30)) a 3 (σ.2.1 b 3)
def m_cp1 (σ : k_St) (a b : Nat) : k_St := k_sA σ a (j_cpy (σ.1 b) (σ.1 a) 0 0 50)
def m_cp (σ : k_St) (a b : Nat) : k_St := k_sI (m_cp1 (m_cp1 (m_cp1 (m_cp1 (m_cp1 σ (a + 1) (b + 1)) (a + 2) (b + 2)) (a + 3) (b + 3)) (a + 4) (b + 4)) (a + 5) (b + 5)) a 5 (σ.2.1 b 5)
def kp_cp (σ : k_St) (a b : Nat) : k_St := m_cp (h_cp (k_sI (k_sA σ (a + 1) (j_cpy (σ.1 (b + 1)) (σ.1 (a + 1)) 0 0 (σ.2.1 b 1))) a 1 (σ.2.1 b 1)) (a + 2) (b + 2)) (a + 10) (b + 10)
theorem j_cpy_up0 {F g : Int → Int} {i : Int} (hi : 0 ≤ i) : j_up (j_cpy F g 0 0 i) i (F i) = j_cpy F g 0 0 (i + 1) := by
  have e := j_cpy_up (F := F) (g := g) (sp := 0) (dp := 0) (i := i) (x := F i) hi (by rw [Int.zero_add])
  rw [Int.zero_add] at e; exact e
set_option maxHeartbeats 4000000 in
theorem l_hgone {G : j_G} {X : k_X} {n : Nat} {σ : k_St} {a b : Nat} (ha5 : 5 ≤ a) (hb5 : 5 ≤ b) (ha0 : k_has X n a (.inr (.inr (2, [a + 1 + 3, a + 4 + 3, a + 7 + 3, 0])))) (hb0 : k_has X n b (.inr (.inr (2, [b + 1 + 3, b + 4 + 3, b + 7 + 3, 0])))) (ha7 : k_has X n (a + 7) (.inl (2, 30))) (hb7 : k_has X n (b + 7) (.inl (2, 30))) (hgb : ∀ i : Int, σ.1 (b + 7) i = 0 ∨ σ.1 (b + 7) i = 1) (hab : a + 7 < b ∨ b + 7 < a) : ∀ (m : Nat) (i : Int), 30 - i < (m : Int) → 0 ≤ i → i ≤ 30 → j_at G mX2_copyFrom 24 [(0, .ref a), (1, .ref b), (2, j_i i)] [] (k_h X n (k_sA σ (a + 7) (j_cpy (σ.1 (b + 7)) (σ.1 (a + 7)) 0 0 i))) 0 0 (k_Q X (k_is n (k_sI (k_sA σ (a + 7) (j_cpy (σ.1 (b + 7)) (σ.1 (a + 7)) 0 0 30)) a 3 (σ.2.1 b 3)) none)) := by
  intro m
  induction m with
  | zero => intro i h1 h2 h3; exact absurd h1 (by omega)
  | succ m ih =>
    intro i hm h0 hN
    obtain ⟨τ, hτ⟩ : ∃ z, z = (k_sA σ (a + 7) (j_cpy (σ.1 (b + 7)) (σ.1 (a + 7)) 0 0 i)) := ⟨_, rfl⟩
    rw [← hτ]
    have e1 : τ.1 (a + 7) = j_cpy (σ.1 (b + 7)) (σ.1 (a + 7)) 0 0 i := by rw [hτ, k_AA]
    refine a_iload_n (pc := 24) (i := 2) (by decide +kernel) rfl ?_
    refine a_bipush (pc := 25) (n := 30) (by decide +kernel) rfl ?_
    refine a_icmp_ge (pc := 27) (off := 21) (tgt := 48) (by decide +kernel) (by decide) (by omega) (by omega) (fun c27 => ?_) (fun c27 => ?_)
    · refine a_aload_n (pc := 48) (i := 0) (by decide +kernel) rfl ?_
      refine a_aload_n (pc := 49) (i := 1) (by decide +kernel) rfl ?_
      refine b_getI (pc := 50) fl_X2_27 (by decide +kernel) hb0 rfl ?_
      rw [show τ.2.1 b 3 = σ.2.1 b 3 by rw [hτ]; rfl]
      refine b_putI (pc := 53) fl_X2_27 (by decide +kernel) ha0 rfl rfl rfl ?_
      obtain ⟨σ1, hσ1⟩ : ∃ z, z = k_sI τ a 3 (σ.2.1 b 3) := ⟨_, rfl⟩
      rw [← hσ1]
      refine a_return (pc := 56) (by decide +kernel) rfl ?_
      refine k_ret ?_
      obtain rfl : i = 30 := by omega
      subst hσ1; subst hτ; exact ⟨rfl, rfl, rfl⟩
    · refine a_aload_n (pc := 30) (i := 0) (by decide +kernel) rfl ?_
      refine b_getR (pc := 31) (b := a + 7) fl_X2_23 (by decide +kernel) ha0 rfl ?_
      refine a_iload_n (pc := 34) (i := 2) (by decide +kernel) rfl ?_
      refine a_aload_n (pc := 35) (i := 1) (by decide +kernel) rfl ?_
      refine b_getR (pc := 36) (b := b + 7) fl_X2_23 (by decide +kernel) hb0 rfl ?_
      refine a_iload_n (pc := 39) (i := 2) (by decide +kernel) rfl ?_
      refine b_zaload (pc := 40) (by decide +kernel) hb7 (by omega) (by omega) (by omega) ?_
      rw [show τ.1 (b + 7) = σ.1 (b + 7) by rw [hτ]; exact k_AN (by omega)]
      refine b_zastore (pc := 41) (by decide +kernel) ha7 (by omega) (by omega) (by omega) (hgb _) ?_
      obtain ⟨σ2, hσ2⟩ : ∃ z, z = k_sA τ (a + 7) (j_up (τ.1 (a + 7)) i (σ.1 (b + 7) i)) := ⟨_, rfl⟩
      rw [← hσ2]
      refine a_iinc (pc := 42) (i := 2) (n := 1) (x := i) (lv' := [(0, .ref a), (1, .ref b), (2, j_i (i + 1))]) (by decide +kernel) rfl (Nat.le_of_ble_eq_true rfl) rfl ?_
      refine a_goto (pc := 45) (off := -21) (tgt := 24) (by decide +kernel) (by decide) ?_
      have e9 : σ2 = k_sA σ (a + 7) (j_cpy (σ.1 (b + 7)) (σ.1 (a + 7)) 0 0 (i + 1)) := by rw [hσ2, e1, j_cpy_up0 h0, hτ, k_sA_sA]
      rw [e9]
      exact ih (i + 1) (by omega) (by omega) (by omega)
theorem r_cpA_o {σ : k_St} {a b R c : Nat} (h1 : c ≠ a + 1) (h2 : c ≠ a + 2) : (r_cpA σ a b R).1 c = σ.1 c := by unfold r_cpA; rw [k_AN h2, k_AN h1]
theorem r_cpA_1 {σ : k_St} {a b R : Nat} : (r_cpA σ a b R).1 (a + 1) = j_cpy (σ.1 (b + 1)) (σ.1 (a + 1)) 0 0 (16 * R) := by unfold r_cpA; rw [k_AN (by omega), k_AA]
theorem r_cpA_2 {σ : k_St} {a b R : Nat} : (r_cpA σ a b R).1 (a + 2) = j_cpy (σ.1 (b + 2)) (σ.1 (a + 2)) 0 0 R := by unfold r_cpA; rw [k_AA]
theorem r_cpA_f {σ : k_St} {a b R : Nat} : (r_cpA σ a b R).2 = σ.2 := rfl
set_option maxHeartbeats 4000000 in
theorem s_hcopy {G : j_G} {X : k_X} {n : Nat} {σ : k_St} {a b : Nat} (ha : h_at X n a) (hb : h_at X n b) (hw : h_wf σ b) (hab : a + 7 < b ∨ b + 7 < a) : k_run G X mX2_copyFrom [.ref a, .ref b] n σ 0 0 (k_is n (h_cp σ a b) none) := by
  obtain ⟨ha5, ha0, ha1, ha4, ha7⟩ := ha
  obtain ⟨hb5, hb0, hb1, hb4, hb7⟩ := hb
  obtain ⟨hwe, hwb1, hwb4, hgb⟩ := hw
  refine k_enter (by decide +kernel) (Nat.le_of_ble_eq_true rfl) ?_
  show j_at _ _ _ [(0, .ref a), (1, .ref b)] [] _ _ _ _
  refine a_aload_n (pc := 0) (i := 0) (by decide +kernel) rfl ?_
  refine b_getR (pc := 1) (b := a + 1) fl_X2_14 (by decide +kernel) ha0 rfl ?_
  refine a_aload_n (pc := 4) (i := 1) (by decide +kernel) rfl ?_
  refine b_getR (pc := 5) (b := b + 1) fl_X2_14 (by decide +kernel) hb0 rfl ?_
  refine b_callV (pc := 8) (c' := 0) (sl' := 0) [.ref (b + 1)] [] ml_X2_50 (by decide +kernel) rfl rfl ha1.2.2.1 rfl rfl (Nat.le_of_ble_eq_true rfl) (j_fitI rfl rfl) (s_copyAll ha1 hb1 hwb1 (by omega)) (fun v n' σ' hq => ?_)
  obtain ⟨rfl, e1, e2⟩ := hq
  rw [e1, e2]; clear e1 e2
  obtain ⟨σ1, hσ1⟩ : ∃ z, z = r_cpA σ (a + 1) (b + 1) 30 := ⟨_, rfl⟩
  rw [← hσ1]
  show j_at _ _ _ [(0, .ref a), (1, .ref b)] [] _ _ _ _
  refine a_aload_n (pc := 11) (i := 0) (by decide +kernel) rfl ?_
  refine b_getR (pc := 12) (b := a + 4) fl_X2_20 (by decide +kernel) ha0 rfl ?_
  refine a_aload_n (pc := 15) (i := 1) (by decide +kernel) rfl ?_
  refine b_getR (pc := 16) (b := b + 4) fl_X2_20 (by decide +kernel) hb0 rfl ?_
  refine b_callV (pc := 19) (c' := 0) (sl' := 0) [.ref (b + 4)] [] ml_X2_50 (by decide +kernel) rfl rfl ha4.2.2.1 rfl rfl (Nat.le_of_ble_eq_true rfl) (j_fitI rfl rfl) (s_copyAll ha4 hb4 (by rw [hσ1]; exact r_wf_congr (r_cpA_o (by omega) (by omega)) (r_cpA_o (by omega) (by omega)) hwb4) (by omega)) (fun v n' σ' hq => ?_)
  obtain ⟨rfl, e1, e2⟩ := hq
  rw [e1, e2]; clear e1 e2
  obtain ⟨σ2, hσ2⟩ : ∃ z, z = r_cpA σ1 (a + 4) (b + 4) 30 := ⟨_, rfl⟩
  rw [← hσ2]
  show j_at _ _ _ [(0, .ref a), (1, .ref b)] [] _ _ _ _
  refine a_iconst (pc := 22) (n := 0) (by decide +kernel) ?_
  refine a_istore_n (pc := 23) (i := 2) (lv' := [(0, .ref a), (1, .ref b), (2, j_i 0)]) (by decide +kernel) (Nat.le_of_ble_eq_true rfl) rfl ?_
  have e0 : σ2 = k_sA σ2 (a + 7) (j_cpy (σ2.1 (b + 7)) (σ2.1 (a + 7)) 0 0 0) := by rw [j_cpy_0]; exact (k_sA_id rfl).symm
  have e1 := l_hgone (G := G) (X := X) (n := n) (σ := σ2) ha5 hb5 ha0 hb0 ha7 hb7 (fun i => by rw [hσ2, hσ1, r_cpA_o (by omega) (by omega), r_cpA_o (by omega) (by omega)]; exact hgb i) (by omega) 31 0 (by omega) (by omega) (by omega)
  rw [← e0] at e1
  clear e0
  subst hσ2; subst hσ1
  exact e1
set_option maxHeartbeats 4000000 in
theorem l_mgone {G : j_G} {X : k_X} {n : Nat} {σ : k_St} {a b : Nat} (ha9 : 5 ≤ a) (hb9 : 5 ≤ b) (ha0 : k_has X n a (.inr (.inr (7, [a + 1 + 3, a + 2 + 3, a + 3 + 3, a + 4 + 3, a + 5 + 3, 0])))) (hb0 : k_has X n b (.inr (.inr (7, [b + 1 + 3, b + 2 + 3, b + 3 + 3, b + 4 + 3, b + 5 + 3, 0])))) (ha5 : k_has X n (a + 5) (.inl (2, 50))) (hb5 : k_has X n (b + 5) (.inl (2, 50))) (hgb : ∀ i : Int, σ.1 (b + 5) i = 0 ∨ σ.1 (b + 5) i = 1) (hab : a + 5 < b ∨ b + 5 < a) : ∀ (m : Nat) (i : Int), 50 - i < (m : Int) → 0 ≤ i → i ≤ 50 → j_at G mX7_copyFrom 62 [(0, .ref a), (1, .ref b), (2, j_i i)] [] (k_h X n (k_sA σ (a + 5) (j_cpy (σ.1 (b + 5)) (σ.1 (a + 5)) 0 0 i))) 0 0 (k_Q X (k_is n (k_sI (k_sA σ (a + 5) (j_cpy (σ.1 (b + 5)) (σ.1 (a + 5)) 0 0 50)) a 5 (σ.2.1 b 5)) none)) := by
  intro m
  induction m with
  | zero => intro i h1 h2 h3; exact absurd h1 (by omega)
  | succ m ih =>
    intro i hm h0 hN
    obtain ⟨τ, hτ⟩ : ∃ z, z = (k_sA σ (a + 5) (j_cpy (σ.1 (b + 5)) (σ.1 (a + 5)) 0 0 i)) := ⟨_, rfl⟩
    rw [← hτ]
    have e1 : τ.1 (a + 5) = j_cpy (σ.1 (b + 5)) (σ.1 (a + 5)) 0 0 i := by rw [hτ, k_AA]
    refine a_iload_n (pc := 62) (i := 2) (by decide +kernel) rfl ?_
    refine a_bipush (pc := 63) (n := 50) (by decide +kernel) rfl ?_
    refine a_icmp_ge (pc := 65) (off := 21) (tgt := 86) (by decide +kernel) (by decide) (by omega) (by omega) (fun c65 => ?_) (fun c65 => ?_)
    · refine a_aload_n (pc := 86) (i := 0) (by decide +kernel) rfl ?_
      refine a_aload_n (pc := 87) (i := 1) (by decide +kernel) rfl ?_
      refine b_getI (pc := 88) fl_X7_28 (by decide +kernel) hb0 rfl ?_
      rw [show τ.2.1 b 5 = σ.2.1 b 5 by rw [hτ]; rfl]
      refine b_putI (pc := 91) fl_X7_28 (by decide +kernel) ha0 rfl rfl rfl ?_
      obtain ⟨σ1, hσ1⟩ : ∃ z, z = k_sI τ a 5 (σ.2.1 b 5) := ⟨_, rfl⟩
      rw [← hσ1]
      refine a_return (pc := 94) (by decide +kernel) rfl ?_
      refine k_ret ?_
      obtain rfl : i = 50 := by omega
      subst hσ1; subst hτ; exact ⟨rfl, rfl, rfl⟩
    · refine a_aload_n (pc := 68) (i := 0) (by decide +kernel) rfl ?_
      refine b_getR (pc := 69) (b := a + 5) fl_X7_24 (by decide +kernel) ha0 rfl ?_
      refine a_iload_n (pc := 72) (i := 2) (by decide +kernel) rfl ?_
      refine a_aload_n (pc := 73) (i := 1) (by decide +kernel) rfl ?_
      refine b_getR (pc := 74) (b := b + 5) fl_X7_24 (by decide +kernel) hb0 rfl ?_
      refine a_iload_n (pc := 77) (i := 2) (by decide +kernel) rfl ?_
      refine b_zaload (pc := 78) (by decide +kernel) hb5 (by omega) (by omega) (by omega) ?_
      rw [show τ.1 (b + 5) = σ.1 (b + 5) by rw [hτ]; exact k_AN (by omega)]
      refine b_zastore (pc := 79) (by decide +kernel) ha5 (by omega) (by omega) (by omega) (hgb _) ?_
      obtain ⟨σ2, hσ2⟩ : ∃ z, z = k_sA τ (a + 5) (j_up (τ.1 (a + 5)) i (σ.1 (b + 5) i)) := ⟨_, rfl⟩
      rw [← hσ2]
      refine a_iinc (pc := 80) (i := 2) (n := 1) (x := i) (lv' := [(0, .ref a), (1, .ref b), (2, j_i (i + 1))]) (by decide +kernel) rfl (Nat.le_of_ble_eq_true rfl) rfl ?_
      refine a_goto (pc := 83) (off := -21) (tgt := 62) (by decide +kernel) (by decide) ?_
      have e9 : σ2 = k_sA σ (a + 5) (j_cpy (σ.1 (b + 5)) (σ.1 (a + 5)) 0 0 (i + 1)) := by rw [hσ2, e1, j_cpy_up0 h0, hτ, k_sA_sA]
      rw [e9]
      exact ih (i + 1) (by omega) (by omega) (by omega)
set_option maxHeartbeats 4000000 in
theorem s_mcopy {G : j_G} {X : k_X} {n : Nat} {σ : k_St} {a b : Nat} (ha : m_at X n a) (hb : m_at X n b) (hw : m_wf σ b) (hab : a + 5 < b ∨ b + 5 < a) : k_run G X mX7_copyFrom [.ref a, .ref b] n σ 0 0 (k_is n (m_cp σ a b) none) := by
  obtain ⟨ha9, ha0, ha1, ha2, ha3, ha4, ha5⟩ := ha
  obtain ⟨hb9, hb0, hb1, hb2, hb3, hb4, hb5⟩ := hb
  obtain ⟨hwe, hgb, -⟩ := hw
  refine k_enter (by decide +kernel) (Nat.le_of_ble_eq_true rfl) ?_
  show j_at _ _ _ [(0, .ref a), (1, .ref b)] [] _ _ _ _
  refine a_aload_n (pc := 0) (i := 1) (by decide +kernel) rfl ?_
  refine b_getR (pc := 1) (b := b + 1) fl_X7_9 (by decide +kernel) hb0 rfl ?_
  refine a_iconst (pc := 4) (n := 0) (by decide +kernel) ?_
  refine a_aload_n (pc := 5) (i := 0) (by decide +kernel) rfl ?_
  refine b_getR (pc := 6) (b := a + 1) fl_X7_9 (by decide +kernel) ha0 rfl ?_
  refine a_iconst (pc := 9) (n := 0) (by decide +kernel) ?_
  refine a_bipush (pc := 10) (n := 50) (by decide +kernel) rfl ?_
  refine b_arraycopy (pc := 12) (by decide +kernel) ol_X7_53 hb1 ha1 (by omega) (by omega) (by decide) (by omega) (by omega) (by omega) (by omega) (by omega) (by omega) (by omega) (fun _ _ _ => rfl) (Nat.le_of_ble_eq_true rfl) (Nat.le_of_ble_eq_true rfl) ?_
  obtain ⟨σ1, hσ1⟩ : ∃ z, z = k_sA σ (a + 1) (j_cpy (σ.1 (b + 1)) (σ.1 (a + 1)) 0 0 50) := ⟨_, rfl⟩
  rw [← hσ1]
  refine a_aload_n (pc := 15) (i := 1) (by decide +kernel) rfl ?_
  refine b_getR (pc := 16) (b := b + 2) fl_X7_15 (by decide +kernel) hb0 rfl ?_
  refine a_iconst (pc := 19) (n := 0) (by decide +kernel) ?_
  refine a_aload_n (pc := 20) (i := 0) (by decide +kernel) rfl ?_
  refine b_getR (pc := 21) (b := a + 2) fl_X7_15 (by decide +kernel) ha0 rfl ?_
  refine a_iconst (pc := 24) (n := 0) (by decide +kernel) ?_
  refine a_bipush (pc := 25) (n := 50) (by decide +kernel) rfl ?_
  refine b_arraycopy (pc := 27) (by decide +kernel) ol_X7_53 hb2 ha2 (by omega) (by omega) (by decide) (by omega) (by omega) (by omega) (by omega) (by omega) (by omega) (by omega) (fun _ _ _ => rfl) (Nat.le_of_ble_eq_true rfl) (Nat.le_of_ble_eq_true rfl) ?_
  obtain ⟨σ2, hσ2⟩ : ∃ z, z = k_sA σ1 (a + 2) (j_cpy (σ1.1 (b + 2)) (σ1.1 (a + 2)) 0 0 50) := ⟨_, rfl⟩
  rw [← hσ2]
  refine a_aload_n (pc := 30) (i := 1) (by decide +kernel) rfl ?_
  refine b_getR (pc := 31) (b := b + 3) fl_X7_18 (by decide +kernel) hb0 rfl ?_
  refine a_iconst (pc := 34) (n := 0) (by decide +kernel) ?_
  refine a_aload_n (pc := 35) (i := 0) (by decide +kernel) rfl ?_
  refine b_getR (pc := 36) (b := a + 3) fl_X7_18 (by decide +kernel) ha0 rfl ?_
  refine a_iconst (pc := 39) (n := 0) (by decide +kernel) ?_
  refine a_bipush (pc := 40) (n := 50) (by decide +kernel) rfl ?_
  refine b_arraycopy (pc := 42) (by decide +kernel) ol_X7_53 hb3 ha3 (by omega) (by omega) (by decide) (by omega) (by omega) (by omega) (by omega) (by omega) (by omega) (by omega) (fun _ _ _ => rfl) (Nat.le_of_ble_eq_true rfl) (Nat.le_of_ble_eq_true rfl) ?_
  obtain ⟨σ3, hσ3⟩ : ∃ z, z = k_sA σ2 (a + 3) (j_cpy (σ2.1 (b + 3)) (σ2.1 (a + 3)) 0 0 50) := ⟨_, rfl⟩
  rw [← hσ3]
  refine a_aload_n (pc := 45) (i := 1) (by decide +kernel) rfl ?_
  refine b_getR (pc := 46) (b := b + 4) fl_X7_21 (by decide +kernel) hb0 rfl ?_
  refine a_iconst (pc := 49) (n := 0) (by decide +kernel) ?_
  refine a_aload_n (pc := 50) (i := 0) (by decide +kernel) rfl ?_
  refine b_getR (pc := 51) (b := a + 4) fl_X7_21 (by decide +kernel) ha0 rfl ?_
  refine a_iconst (pc := 54) (n := 0) (by decide +kernel) ?_
  refine a_bipush (pc := 55) (n := 50) (by decide +kernel) rfl ?_
  refine b_arraycopy (pc := 57) (by decide +kernel) ol_X7_53 hb4 ha4 (by omega) (by omega) (by decide) (by omega) (by omega) (by omega) (by omega) (by omega) (by omega) (by omega) (fun _ _ _ => rfl) (Nat.le_of_ble_eq_true rfl) (Nat.le_of_ble_eq_true rfl) ?_
  obtain ⟨σ4, hσ4⟩ : ∃ z, z = k_sA σ3 (a + 4) (j_cpy (σ3.1 (b + 4)) (σ3.1 (a + 4)) 0 0 50) := ⟨_, rfl⟩
  rw [← hσ4]
  refine a_iconst (pc := 60) (n := 0) (by decide +kernel) ?_
  refine a_istore_n (pc := 61) (i := 2) (lv' := [(0, .ref a), (1, .ref b), (2, j_i 0)]) (by decide +kernel) (Nat.le_of_ble_eq_true rfl) rfl ?_
  have e0 : σ4 = k_sA σ4 (a + 5) (j_cpy (σ4.1 (b + 5)) (σ4.1 (a + 5)) 0 0 0) := by rw [j_cpy_0]; exact (k_sA_id rfl).symm
  have e1 := l_mgone (G := G) (X := X) (n := n) (σ := σ4) ha9 hb9 ha0 hb0 ha5 hb5 (fun i => by rw [hσ4, hσ3, hσ2, hσ1]; (repeat rw [k_AN (by omega)]); exact hgb i) (by omega) 51 0 (by omega) (by omega) (by omega)
  rw [← e0] at e1
  clear e0
  subst hσ4; subst hσ3; subst hσ2; subst hσ1
  exact e1
theorem h_cp_o {σ : k_St} {a b c : Nat} (h : c ≤ a + 1 ∨ a + 7 < c ∨ c = a + 4) : (h_cp σ a b).1 c = σ.1 c := by
  unfold h_cp; rw [k_I1, k_AN (by omega), r_cpA_o (by omega) (by omega), r_cpA_o (by omega) (by omega)]
theorem h_cp_f {σ : k_St} {a b c j : Nat} (h : ¬ (c = a ∧ j = 3)) : (h_cp σ a b).2.1 c j = σ.2.1 c j := by unfold h_cp; rw [k_IN h]; rfl
theorem h_cp_e {σ : k_St} {a b : Nat} : (h_cp σ a b).2.1 a 3 = σ.2.1 b 3 := by unfold h_cp; rw [k_II]
theorem h_cp_2 {σ : k_St} {a b : Nat} (h : a + 7 < b ∨ b + 7 < a) : (h_cp σ a b).1 (a + 2) = j_cpy (σ.1 (b + 2)) (σ.1 (a + 2)) 0 0 480 ∧ (h_cp σ a b).1 (a + 3) = j_cpy (σ.1 (b + 3)) (σ.1 (a + 3)) 0 0 30 ∧ (h_cp σ a b).1 (a + 5) = j_cpy (σ.1 (b + 5)) (σ.1 (a + 5)) 0 0 480 ∧ (h_cp σ a b).1 (a + 6) = j_cpy (σ.1 (b + 6)) (σ.1 (a + 6)) 0 0 30 ∧ (h_cp σ a b).1 (a + 7) = j_cpy (σ.1 (b + 7)) (σ.1 (a + 7)) 0 0 30 := by
  unfold h_cp; rw [k_I1, k_AA]
  refine ⟨?_, ?_, ?_, ?_, ?_⟩
  · rw [k_AN (by omega), r_cpA_o (by omega) (by omega)]; exact r_cpA_1
  · rw [k_AN (by omega), r_cpA_o (by omega) (by omega)]; exact r_cpA_2
  · rw [k_AN (by omega)]; refine r_cpA_1.trans ?_; rw [r_cpA_o (by omega) (by omega), r_cpA_o (by omega) (by omega)]; rfl
  · rw [k_AN (by omega)]; refine r_cpA_2.trans ?_; rw [r_cpA_o (by omega) (by omega), r_cpA_o (by omega) (by omega)]; rfl
  · rw [r_cpA_o (by omega) (by omega), r_cpA_o (by omega) (by omega), r_cpA_o (by omega) (by omega), r_cpA_o (by omega) (by omega)]
theorem m_cp1_o {σ : k_St} {a b c : Nat} (h : c ≠ a) : (m_cp1 σ a b).1 c = σ.1 c := k_AN h
theorem m_cp1_s {σ : k_St} {a b : Nat} : (m_cp1 σ a b).1 a = j_cpy (σ.1 b) (σ.1 a) 0 0 50 := k_AA
theorem m_cp_o {σ : k_St} {a b c : Nat} (h : c ≤ a ∨ a + 5 < c) : (m_cp σ a b).1 c = σ.1 c := by
  unfold m_cp; rw [k_I1, m_cp1_o (by omega), m_cp1_o (by omega), m_cp1_o (by omega), m_cp1_o (by omega), m_cp1_o (by omega)]
theorem m_cp_d {σ : k_St} {a b d : Nat} (h : a + 5 < b ∨ b + 5 < a) (h1 : 1 ≤ d) (h5 : d ≤ 5) : (m_cp σ a b).1 (a + d) = j_cpy (σ.1 (b + d)) (σ.1 (a + d)) 0 0 50 := by
  unfold m_cp; rw [k_I1]
  rcases (show d = 1 ∨ d = 2 ∨ d = 3 ∨ d = 4 ∨ d = 5 by omega) with rfl | rfl | rfl | rfl | rfl
  · rw [m_cp1_o (by omega), m_cp1_o (by omega), m_cp1_o (by omega), m_cp1_o (by omega), m_cp1_s]
  · rw [m_cp1_o (by omega), m_cp1_o (by omega), m_cp1_o (by omega), m_cp1_s, m_cp1_o (by omega), m_cp1_o (by omega)]
  · rw [m_cp1_o (by omega), m_cp1_o (by omega), m_cp1_s, m_cp1_o (by omega), m_cp1_o (by omega), m_cp1_o (by omega), m_cp1_o (by omega)]
  · rw [m_cp1_o (by omega), m_cp1_s, m_cp1_o (by omega), m_cp1_o (by omega), m_cp1_o (by omega), m_cp1_o (by omega), m_cp1_o (by omega), m_cp1_o (by omega)]
  · rw [m_cp1_s, m_cp1_o (by omega), m_cp1_o (by omega), m_cp1_o (by omega), m_cp1_o (by omega), m_cp1_o (by omega), m_cp1_o (by omega), m_cp1_o (by omega), m_cp1_o (by omega)]
theorem m_cp_f {σ : k_St} {a b c j : Nat} (h : ¬ (c = a ∧ j = 5)) : (m_cp σ a b).2.1 c j = σ.2.1 c j := by unfold m_cp; rw [k_IN h]; rfl
theorem m_cp_e {σ : k_St} {a b : Nat} : (m_cp σ a b).2.1 a 5 = σ.2.1 b 5 := by unfold m_cp; rw [k_II]
theorem h_wf_congr {σ τ : k_St} {a : Nat} (h1 : τ.1 (a + 1 + 1) = σ.1 (a + 1 + 1)) (h2 : τ.1 (a + 1 + 2) = σ.1 (a + 1 + 2)) (h3 : τ.1 (a + 4 + 1) = σ.1 (a + 4 + 1)) (h4 : τ.1 (a + 4 + 2) = σ.1 (a + 4 + 2)) (h5 : τ.1 (a + 7) = σ.1 (a + 7)) (h6 : τ.2.1 a 3 = σ.2.1 a 3) (h : h_wf σ a) : h_wf τ a := by
  unfold h_wf r_wf; rw [h1, h2, h3, h4, h5, h6]; exact h
set_option maxHeartbeats 4000000 in
theorem s_kcopy {G : j_G} {X : k_X} {n : Nat} {σ : k_St} {a b : Nat} (ha : kp_at X n a) (hb : kp_at X n b) (hw : kp_wf σ b) (hab : a + 15 < b ∨ b + 15 < a) : k_run G X mX4_copyFrom [.ref a, .ref b] n σ 0 0 (k_is n (kp_cp σ a b) none) := by
  obtain ⟨ha9, ha0, ha1, ha2, ha10⟩ := ha
  obtain ⟨hb9, hb0, hb1, hb2, hb10⟩ := hb
  obtain ⟨hwc, hwh, hwm⟩ := hw
  refine k_enter (by decide +kernel) (Nat.le_of_ble_eq_true rfl) ?_
  show j_at _ _ _ [(0, .ref a), (1, .ref b)] [] _ _ _ _
  refine a_aload_n (pc := 0) (i := 1) (by decide +kernel) rfl ?_
  refine b_getR (pc := 1) (b := b + 1) fl_X4_9 (by decide +kernel) hb0 rfl ?_
  refine a_iconst (pc := 4) (n := 0) (by decide +kernel) ?_
  refine a_aload_n (pc := 5) (i := 0) (by decide +kernel) rfl ?_
  refine b_getR (pc := 6) (b := a + 1) fl_X4_9 (by decide +kernel) ha0 rfl ?_
  refine a_iconst (pc := 9) (n := 0) (by decide +kernel) ?_
  refine a_aload_n (pc := 10) (i := 1) (by decide +kernel) rfl ?_
  refine b_getI (pc := 11) fl_X4_15 (by decide +kernel) hb0 rfl ?_
  refine b_arraycopy (pc := 14) (by decide +kernel) ol_X4_37 hb1 ha1 (by omega) (by omega) (by decide) (by omega) (by omega) (by omega) (by omega) (by omega) (by omega) (by omega) (fun _ _ _ => rfl) (Nat.le_of_ble_eq_true rfl) (Nat.le_of_ble_eq_true rfl) ?_
  obtain ⟨σ1, hσ1⟩ : ∃ z, z = k_sA σ (a + 1) (j_cpy (σ.1 (b + 1)) (σ.1 (a + 1)) 0 0 (σ.2.1 b 1)) := ⟨_, rfl⟩
  rw [← hσ1]
  refine a_aload_n (pc := 17) (i := 0) (by decide +kernel) rfl ?_
  refine a_aload_n (pc := 18) (i := 1) (by decide +kernel) rfl ?_
  refine b_getI (pc := 19) fl_X4_15 (by decide +kernel) hb0 rfl ?_
  rw [show σ1.2.1 b 1 = σ.2.1 b 1 by rw [hσ1]; rfl]
  refine b_putI (pc := 22) fl_X4_15 (by decide +kernel) ha0 rfl rfl rfl ?_
  obtain ⟨σ2, hσ2⟩ : ∃ z, z = k_sI σ1 a 1 (σ.2.1 b 1) := ⟨_, rfl⟩
  rw [← hσ2]
  refine a_aload_n (pc := 25) (i := 0) (by decide +kernel) rfl ?_
  refine b_getR (pc := 26) (b := a + 2) fl_X4_22 (by decide +kernel) ha0 rfl ?_
  refine a_aload_n (pc := 29) (i := 1) (by decide +kernel) rfl ?_
  refine b_getR (pc := 30) (b := b + 2) fl_X4_22 (by decide +kernel) hb0 rfl ?_
  refine b_callV (pc := 33) (c' := 0) (sl' := 0) [.ref (b + 2)] [] ml_X4_60 (by decide +kernel) rfl rfl ha2.2.1 rfl rfl (Nat.le_of_ble_eq_true rfl) (j_fitI rfl rfl) (s_hcopy ha2 hb2 (by rw [hσ2, hσ1]; exact h_wf_congr (σ := σ) (k_AN (by omega)) (k_AN (by omega)) (k_AN (by omega)) (k_AN (by omega)) (k_AN (by omega)) (k_IN (by omega)) hwh) (by omega)) (fun v n' σ' hq => ?_)
  obtain ⟨rfl, e1, e2⟩ := hq
  rw [e1, e2]; clear e1 e2
  obtain ⟨σ3, hσ3⟩ : ∃ z, z = h_cp σ2 (a + 2) (b + 2) := ⟨_, rfl⟩
  rw [← hσ3]
  show j_at _ _ _ [(0, .ref a), (1, .ref b)] [] _ _ _ _
  refine a_aload_n (pc := 36) (i := 0) (by decide +kernel) rfl ?_
  refine b_getR (pc := 37) (b := a + 10) fl_X4_29 (by decide +kernel) ha0 rfl ?_
  refine a_aload_n (pc := 40) (i := 1) (by decide +kernel) rfl ?_
  refine b_getR (pc := 41) (b := b + 10) fl_X4_29 (by decide +kernel) hb0 rfl ?_
  refine b_callV (pc := 44) (c' := 0) (sl' := 0) [.ref (b + 10)] [] ml_X4_64 (by decide +kernel) rfl rfl ha10.2.1 rfl rfl (Nat.le_of_ble_eq_true rfl) (j_fitI rfl rfl) (s_mcopy ha10 hb10 (by rw [hσ3]; refine m_wf_congr (σ := σ) ?_ ?_ ?_ ?_ ?_ ?_ hwm <;> first | rw [h_cp_o (by omega), hσ2, hσ1, k_I1, k_AN (by omega)] | rw [h_cp_f (by omega), hσ2, hσ1, k_IN (by omega), k_A2]) (by omega)) (fun v n' σ' hq => ?_)
  obtain ⟨rfl, e1, e2⟩ := hq
  rw [e1, e2]; clear e1 e2
  obtain ⟨σ4, hσ4⟩ : ∃ z, z = m_cp σ3 (a + 10) (b + 10) := ⟨_, rfl⟩
  rw [← hσ4]
  show j_at _ _ _ [(0, .ref a), (1, .ref b)] [] _ _ _ _
  refine a_return (pc := 47) (by decide +kernel) rfl ?_
  refine k_ret ?_
  subst hσ4; subst hσ3; subst hσ2; subst hσ1; exact ⟨rfl, rfl, rfl⟩
/-- what a copy is, cell by cell -/
theorem kp_cp_o {σ : k_St} {a b c : Nat} (h : c < a ∨ a + 15 < c) : (kp_cp σ a b).1 c = σ.1 c := by
  unfold kp_cp; rw [m_cp_o (by omega), h_cp_o (by omega), k_I1, k_AN (by omega)]
theorem kp_cp_f {σ : k_St} {a b c j : Nat} (h : c < a ∨ a + 15 < c) : (kp_cp σ a b).2.1 c j = σ.2.1 c j := by
  unfold kp_cp; rw [m_cp_f (by omega), h_cp_f (by omega), k_IN (by omega)]; rfl
theorem kp_cp_r {σ : k_St} {a b : Nat} : (kp_cp σ a b).2.2 = σ.2.2 := rfl
theorem kp_cp_w {σ : k_St} {a b : Nat} : (kp_cp σ a b).1 (a + 1) = j_cpy (σ.1 (b + 1)) (σ.1 (a + 1)) 0 0 (σ.2.1 b 1) := by
  unfold kp_cp; rw [m_cp_o (by omega), h_cp_o (by omega), k_I1, k_AA]
theorem kp_cp_h {σ : k_St} {a b : Nat} (h : a + 15 < b ∨ b + 15 < a) : (kp_cp σ a b).1 (a + 4) = j_cpy (σ.1 (b + 4)) (σ.1 (a + 4)) 0 0 480 ∧ (kp_cp σ a b).1 (a + 5) = j_cpy (σ.1 (b + 5)) (σ.1 (a + 5)) 0 0 30 ∧ (kp_cp σ a b).1 (a + 7) = j_cpy (σ.1 (b + 7)) (σ.1 (a + 7)) 0 0 480 ∧ (kp_cp σ a b).1 (a + 8) = j_cpy (σ.1 (b + 8)) (σ.1 (a + 8)) 0 0 30 ∧ (kp_cp σ a b).1 (a + 9) = j_cpy (σ.1 (b + 9)) (σ.1 (a + 9)) 0 0 30 := by
  unfold kp_cp
  generalize hτ : k_sI (k_sA σ (a + 1) (j_cpy (σ.1 (b + 1)) (σ.1 (a + 1)) 0 0 (σ.2.1 b 1))) a 1 (σ.2.1 b 1) = τ
  have e : ∀ c, c ≠ a + 1 → τ.1 c = σ.1 c := fun c hc => by rw [← hτ, k_I1, k_AN hc]
  obtain ⟨h1, h2, h3, h4, h5⟩ := h_cp_2 (σ := τ) (a := a + 2) (b := b + 2) (by omega)
  refine ⟨?_, ?_, ?_, ?_, ?_⟩
  · rw [m_cp_o (by omega)]; refine h1.trans ?_; rw [e _ (by omega), e _ (by omega)]
  · rw [m_cp_o (by omega)]; refine h2.trans ?_; rw [e _ (by omega), e _ (by omega)]
  · rw [m_cp_o (by omega)]; refine h3.trans ?_; rw [e _ (by omega), e _ (by omega)]
  · rw [m_cp_o (by omega)]; refine h4.trans ?_; rw [e _ (by omega), e _ (by omega)]
  · rw [m_cp_o (by omega)]; refine h5.trans ?_; rw [e _ (by omega), e _ (by omega)]
theorem kp_cp_m {σ : k_St} {a b d : Nat} (h : a + 15 < b ∨ b + 15 < a) (h1 : 11 ≤ d) (h5 : d ≤ 15) : (kp_cp σ a b).1 (a + d) = j_cpy (σ.1 (b + d)) (σ.1 (a + d)) 0 0 50 := by
  unfold kp_cp
  have e := m_cp_d (σ := h_cp (k_sI (k_sA σ (a + 1) (j_cpy (σ.1 (b + 1)) (σ.1 (a + 1)) 0 0 (σ.2.1 b 1))) a 1 (σ.2.1 b 1)) (a + 2) (b + 2)) (a := a + 10) (b := b + 10) (d := d - 10) (by omega) (by omega) (by omega)
  rw [show a + 10 + (d - 10) = a + d by omega, show b + 10 + (d - 10) = b + d by omega] at e
  rw [e, h_cp_o (by omega), h_cp_o (by omega), k_I1, k_AN (by omega), k_AN (by omega)]
theorem kp_cp_n {σ : k_St} {a b : Nat} (h : a + 15 < b ∨ b + 15 < a) : (kp_cp σ a b).2.1 a 1 = σ.2.1 b 1 ∧ (kp_cp σ a b).2.1 (a + 2) 3 = σ.2.1 (b + 2) 3 ∧ (kp_cp σ a b).2.1 (a + 10) 5 = σ.2.1 (b + 10) 5 := by
  unfold kp_cp
  refine ⟨?_, ?_, ?_⟩
  · rw [m_cp_f (by omega), h_cp_f (by omega), k_II]
  · rw [m_cp_f (by omega), h_cp_e, k_IN (by omega)]; rfl
  · rw [m_cp_e, h_cp_f (by omega), k_IN (by omega)]; rfl
theorem j_cpy_in {f g : Int → Int} {n i : Int} (h0 : 0 ≤ i) (h1 : i < n) : j_cpy f g 0 0 n i = f i := by unfold j_cpy; rw [if_pos (by omega)]; congr 1; omega
theorem j_cpy_or (f g : Int → Int) (n i : Int) : j_cpy f g 0 0 n i = f i ∨ j_cpy f g 0 0 n i = g i := by
  unfold j_cpy; split
  · exact Or.inl (by congr 1; omega)
  · exact Or.inr rfl
theorem kp_cp_wf {σ : k_St} {a b : Nat} (h : a + 15 < b ∨ b + 15 < a) (ha : kp_wf σ a) (hb : kp_wf σ b) : kp_wf (kp_cp σ a b) a := by
  obtain ⟨h4, h5, h7, h8, h9⟩ := kp_cp_h (σ := σ) h
  obtain ⟨n1, n2, n3⟩ := kp_cp_n (σ := σ) h
  obtain ⟨a1, ⟨a2, ⟨a3, a4⟩, ⟨a5, a6⟩, a7⟩, ⟨a8, a9, a10⟩⟩ := ha
  obtain ⟨b1, ⟨b2, ⟨b3, b4⟩, ⟨b5, b6⟩, b7⟩, ⟨b8, b9, b10⟩⟩ := hb
  refine ⟨by rw [n1]; exact b1, ⟨by rw [n2]; exact b2, ⟨fun r r0 r1 => ?_, fun i => ?_⟩, ⟨fun r r0 r1 => ?_, fun i => ?_⟩, fun i => ?_⟩, ⟨by rw [n3]; exact b8, fun i => ?_, fun m m0 m1 => ?_⟩⟩
  · show 0 ≤ (kp_cp σ a b).1 (a + 5) r ∧ _; rw [h5, j_cpy_in r0 (by omega)]; exact b3 r r0 r1
  · show -128 ≤ (kp_cp σ a b).1 (a + 4) i ∧ (kp_cp σ a b).1 (a + 4) i ≤ 127
    rw [h4]; rcases j_cpy_or (σ.1 (b + 4)) (σ.1 (a + 4)) 480 i with e | e <;> rw [e]
    · exact b4 i
    · exact a4 i
  · show 0 ≤ (kp_cp σ a b).1 (a + 8) r ∧ _; rw [h8, j_cpy_in r0 (by omega)]; exact b5 r r0 r1
  · show -128 ≤ (kp_cp σ a b).1 (a + 7) i ∧ (kp_cp σ a b).1 (a + 7) i ≤ 127
    rw [h7]; rcases j_cpy_or (σ.1 (b + 7)) (σ.1 (a + 7)) 480 i with e | e <;> rw [e]
    · exact b6 i
    · exact a6 i
  · show (kp_cp σ a b).1 (a + 9) i = 0 ∨ _
    rw [h9]; rcases j_cpy_or (σ.1 (b + 9)) (σ.1 (a + 9)) 30 i with e | e <;> rw [e]
    · exact b7 i
    · exact a7 i
  · show (kp_cp σ a b).1 (a + 15) i = 0 ∨ _
    rw [kp_cp_m h (by omega) (by omega)]; rcases j_cpy_or (σ.1 (b + 15)) (σ.1 (a + 15)) 50 i with e | e <;> rw [e]
    · exact b9 i
    · exact a9 i
  · rw [n3] at m1
    have hb8 := b8
    have hq := b10 m m0 m1
    show (0 ≤ (kp_cp σ a b).1 (a + 11) m ∧ (kp_cp σ a b).1 (a + 11) m ≤ 7) ∧ (0 ≤ (kp_cp σ a b).1 (a + 12) m ∧ (kp_cp σ a b).1 (a + 12) m ≤ 300) ∧ (0 ≤ (kp_cp σ a b).1 (a + 13) m ∧ (kp_cp σ a b).1 (a + 13) m ≤ 29790) ∧ (0 ≤ (kp_cp σ a b).1 (a + 14) m ∧ (kp_cp σ a b).1 (a + 14) m ≤ 99)
    rw [kp_cp_m h (by omega) (by omega), kp_cp_m h (by omega) (by omega), kp_cp_m h (by omega) (by omega), kp_cp_m h (by omega) (by omega), j_cpy_in m0 (by omega), j_cpy_in m0 (by omega), j_cpy_in m0 (by omega), j_cpy_in m0 (by omega)]
    exact hq
