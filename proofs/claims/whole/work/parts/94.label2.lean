def d_of (σ : k_St) (g k : Int) : Prop := (k = -9 ∧ ∀ q, 0 ≤ q → q < σ.2.1 68 12 → g < σ.1 74 q) ∨ (0 ≤ k ∧ k < σ.2.1 68 12 ∧ σ.1 74 k ≤ g ∧ ∀ q, k < q → q < σ.2.1 68 12 → g < σ.1 74 q)
theorem pd_of {σ : k_St} {g k p : Int} (h : RPart σ) (hk : d_of σ g k) (hp : p_of σ g p) : (k = -9 ∧ p = -9) ∨ (0 ≤ k ∧ k < σ.2.1 68 12 ∧ 0 ≤ p ∧ p < σ.2.1 68 12 ∧ σ.1 74 k = σ.1 25 p ∧ σ.1 75 k = σ.1 26 p ∧ σ.1 76 k = σ.1 27 p ∧ σ.1 77 k = σ.1 28 p) := by
  obtain ⟨a1, a2, a3, a4, a5, a6⟩ := h
  unfold p_of at hp
  rw [a2] at hp
  rcases hk with ⟨k1, k2⟩ | ⟨k1, k2, k3, k4⟩
  · rcases hp with ⟨p1, p2⟩ | ⟨p1, p2, p3, p4⟩
    · exact Or.inl ⟨k1, p1⟩
    · obtain ⟨_, q, q0, q1, q2, _⟩ := a5 p p1 p2
      have := k2 q q0 q1; omega
  · rcases hp with ⟨p1, p2⟩ | ⟨p1, p2, p3, p4⟩
    · obtain ⟨x, x0, x1, x2, _⟩ := a6 k k1 k2
      have := p2 x x0 x1; omega
    · obtain ⟨x, x0, x1, x2, x3, x4, x5⟩ := a6 k k1 k2
      obtain ⟨_, q, q0, q1, q2, _⟩ := a5 p p1 p2
      have g1 := p4 x x0 x1 (by omega)
      have g2 : q ≤ k := by
        rcases Int.lt_or_le k q with z | z
        · have := k4 q z q1; omega
        · exact z
      have g3 : σ.1 74 q ≤ σ.1 74 k := by
        by_cases e : q = k
        · rw [e]; exact Int.le_refl _
        · have := a3 q k q0 (by omega) k2; omega
      have e : x = p := a4 x p x0 x1 p1 p2 (by omega)
      subst e
      exact Or.inr ⟨k1, k2, p1, p2, x2, x3, x4, x5⟩
theorem p_of_ex {σ : k_St} {g : Int} (c : Nat) : ∃ p, (p = -9 ∧ ∀ q, 0 ≤ q → q < (c : Int) → g < σ.1 25 q) ∨ (0 ≤ p ∧ p < (c : Int) ∧ σ.1 25 p ≤ g ∧ ∀ q, 0 ≤ q → q < (c : Int) → σ.1 25 q ≤ g → σ.1 25 q ≤ σ.1 25 p) := by
  induction c with
  | zero => exact ⟨-9, Or.inl ⟨rfl, fun q q0 q1 => absurd q1 (by omega)⟩⟩
  | succ c ih =>
    obtain ⟨p, h⟩ := ih
    by_cases hc : σ.1 25 (c : Int) ≤ g
    · rcases h with ⟨h1, h2⟩ | ⟨h1, h2, h3, h4⟩
      · exact ⟨c, Or.inr ⟨by omega, by omega, hc, fun q q0 q1 q2 => by
          by_cases e : q = c
          · rw [e]; exact Int.le_refl _
          · have := h2 q q0 (by omega); omega⟩⟩
      · by_cases hd : σ.1 25 p ≤ σ.1 25 (c : Int)
        · exact ⟨c, Or.inr ⟨by omega, by omega, hc, fun q q0 q1 q2 => by
            by_cases e : q = c
            · rw [e]; exact Int.le_refl _
            · have := h4 q q0 (by omega) q2; omega⟩⟩
        · exact ⟨p, Or.inr ⟨h1, by omega, h3, fun q q0 q1 q2 => by
            by_cases e : q = c
            · rw [e]; omega
            · exact h4 q q0 (by omega) q2⟩⟩
    · rcases h with ⟨h1, h2⟩ | ⟨h1, h2, h3, h4⟩
      · exact ⟨-9, Or.inl ⟨rfl, fun q q0 q1 => by
          by_cases e : q = c
          · rw [e]; omega
          · exact h2 q q0 (by omega)⟩⟩
      · exact ⟨p, Or.inr ⟨h1, by omega, h3, fun q q0 q1 q2 => by
          by_cases e : q = c
          · rw [e] at q2; omega
          · exact h4 q q0 (by omega) q2⟩⟩
theorem RT_of {σ : k_St} (h : RPart σ) (g : Int) : ∃ p, p_of σ g p := by
  have a := (RT_wf h).1
  obtain ⟨p, hp⟩ := p_of_ex (σ := σ) (g := g) (σ.2.1 24 4).toNat
  rw [show ((σ.2.1 24 4).toNat : Int) = σ.2.1 24 4 by omega] at hp
  exact ⟨p, hp⟩
theorem RT_u {σ : k_St} (h : RPart σ) {g a b : Int} (ha : p_of σ g a) (hb : p_of σ g b) : a = b := by
  rcases p_of_page ha hb with ⟨q, r⟩ | ⟨q1, q2, q3, q4, q5⟩
  · rw [q, r]
  · obtain ⟨a1, a2, a3, a4, a5, a6⟩ := h
    exact a4 a b q1 (by omega) q3 (by omega) q5
theorem RT_pg {σ : k_St} (h : RPart σ) : ∀ q, 0 ≤ q → q < σ.2.1 68 12 → 0 ≤ σ.1 74 q ∧ σ.1 74 q ≤ 299 := fun q q0 q1 => by
  obtain ⟨a1, a2, a3, a4, a5, a6⟩ := h
  obtain ⟨p, p0, p1, e, _⟩ := a6 q q0 q1
  rw [e]; exact (a5 p p0 p1).1.1
set_option maxHeartbeats 4000000 in
theorem l_dpartOf {G : j_G} {X : k_X} {n : Nat} {σ : k_St} (hn : 101 ≤ n) (hT : RPart σ) {g : Int} (hg : -2147483648 ≤ g ∧ g ≤ 2147483647) : ∀ (z : Nat) (i b : Int), 8 - i < (z : Int) → 0 ≤ i → i ≤ σ.2.1 68 12 → ((b = -9 ∧ ∀ q, 0 ≤ q → q < i → g < σ.1 74 q) ∨ (0 ≤ b ∧ b < i ∧ σ.1 74 b ≤ g ∧ ∀ q, b < q → q < i → g < σ.1 74 q)) → j_at G mX12_partOf 5 [(0, .ref 68), (1, j_i g), (2, j_i b), (3, j_i i)] [] (k_h X n σ) 0 0 (k_Q X (k_ex n σ (d_of σ g))) := by
  have hm := hT.1
  have hpg := RT_pg hT
  intro z
  induction z with
  | zero => intro i b h1 h2 h3; exact absurd h1 (by omega)
  | succ z ih =>
    intro i b hz h0 hN hI
    refine a_iload_n (pc := 5) (i := 3) (by decide +kernel) rfl ?_
    refine a_aload_n (pc := 6) (i := 0) (by decide +kernel) rfl ?_
    refine b_getI (pc := 7) fl_X12_145 (by decide +kernel) (sh_68 hn) rfl ?_
    refine a_icmp_ge (pc := 10) (off := 25) (tgt := 35) (by decide +kernel) (by decide) (by omega) (by omega) (fun c10 => ?_) (fun c10 => ?_)
    · refine a_iload_n (pc := 35) (i := 2) (by decide +kernel) rfl ?_
      refine a_ireturn (pc := 36) (by decide +kernel) rfl ?_
      refine k_ret ?_
      refine ⟨_, rfl, rfl, rfl, ?_⟩
      rw [show i = σ.2.1 68 12 by omega] at hI
      exact hI
    · have x1 := hpg i h0 (by omega)
      refine a_aload_n (pc := 13) (i := 0) (by decide +kernel) rfl ?_
      refine b_getR (pc := 14) (b := 74) fl_X12_30 (by decide +kernel) (sh_68 hn) rfl ?_
      refine a_iload_n (pc := 17) (i := 3) (by decide +kernel) rfl ?_
      refine b_iaload (pc := 18) (by decide +kernel) (sh_74 hn) (by omega) (by omega) (by omega) ?_
      refine a_iload_n (pc := 19) (i := 1) (by decide +kernel) rfl ?_
      refine a_icmp_gt (pc := 20) (off := 7) (tgt := 27) (by decide +kernel) (by decide) (by omega) (by omega) (fun c20 => ?_) (fun c20 => ?_)
      · refine a_iload_n (pc := 27) (i := 2) (by decide +kernel) rfl ?_
        refine a_istore_n (pc := 28) (i := 2) (lv' := [(0, .ref 68), (1, j_i g), (2, j_i b), (3, j_i i)]) (by decide +kernel) (Nat.le_of_ble_eq_true rfl) rfl ?_
        refine a_iinc (pc := 29) (i := 3) (n := 1) (x := i) (lv' := [(0, .ref 68), (1, j_i g), (2, j_i b), (3, j_i (i + 1))]) (by decide +kernel) rfl (Nat.le_of_ble_eq_true rfl) rfl ?_
        refine a_goto (pc := 32) (off := -27) (tgt := 5) (by decide +kernel) (by decide) ?_
        exact ih (i + 1) b (by omega) (by omega) (by omega) (by
          rcases hI with ⟨q1, q2⟩ | ⟨q1, q2, q3, q4⟩
          · exact Or.inl ⟨q1, fun q q0 q1 => by by_cases e : q = i; rw [e]; omega; exact q2 q q0 (by omega)⟩
          · exact Or.inr ⟨q1, by omega, q3, fun q q0 q1 => by by_cases e : q = i; rw [e]; omega; exact q4 q q0 (by omega)⟩)
      · refine a_iload_n (pc := 23) (i := 3) (by decide +kernel) rfl ?_
        refine a_goto (pc := 24) (off := 4) (tgt := 28) (by decide +kernel) (by decide) ?_
        refine a_istore_n (pc := 28) (i := 2) (lv' := [(0, .ref 68), (1, j_i g), (2, j_i i), (3, j_i i)]) (by decide +kernel) (Nat.le_of_ble_eq_true rfl) rfl ?_
        refine a_iinc (pc := 29) (i := 3) (n := 1) (x := i) (lv' := [(0, .ref 68), (1, j_i g), (2, j_i i), (3, j_i (i + 1))]) (by decide +kernel) rfl (Nat.le_of_ble_eq_true rfl) rfl ?_
        refine a_goto (pc := 32) (off := -27) (tgt := 5) (by decide +kernel) (by decide) ?_
        exact ih (i + 1) i (by omega) (by omega) (by omega) (Or.inr ⟨h0, by omega, by omega, fun q q0 q1 => absurd q0 (by omega)⟩)
set_option maxHeartbeats 4000000 in
theorem e_partOf {G : j_G} {X : k_X} {n : Nat} {σ : k_St} (hn : 101 ≤ n) (hT : RPart σ) {g : Int} (hg : -2147483648 ≤ g ∧ g ≤ 2147483647) : k_run G X mX12_partOf [.ref 68, j_i g] n σ 0 0 (k_ex n σ (d_of σ g)) := by
  refine k_enter (by decide +kernel) (Nat.le_of_ble_eq_true rfl) ?_
  show j_at _ _ _ [(0, .ref 68), (1, j_i g)] [] _ _ _ _
  refine a_bipush (pc := 0) (n := (-9)) (by decide +kernel) rfl ?_
  refine a_istore_n (pc := 2) (i := 2) (lv' := [(0, .ref 68), (1, j_i g), (2, j_i (-9))]) (by decide +kernel) (Nat.le_of_ble_eq_true rfl) rfl ?_
  refine a_iconst (pc := 3) (n := 0) (by decide +kernel) ?_
  refine a_istore_n (pc := 4) (i := 3) (lv' := [(0, .ref 68), (1, j_i g), (2, j_i (-9)), (3, j_i 0)]) (by decide +kernel) (Nat.le_of_ble_eq_true rfl) rfl ?_
  exact l_dpartOf hn hT hg 10 0 (-9) (by omega) (by omega) hT.1.1 (Or.inl ⟨rfl, fun q q0 q1 => absurd q0 (by omega)⟩)
set_option maxHeartbeats 4000000 in
theorem e_formOf {G : j_G} {X : k_X} {n : Nat} {σ : k_St} (hn : 101 ≤ n) (hT : RPart σ) {g p : Int} (hg : -2147483648 ≤ g ∧ g ≤ 2147483647) (hp : p_of σ g p) : k_run G X mX12_formOf [.ref 68, j_i g] n σ 0 0 (k_is n σ (some (j_i (p_form σ p)))) := by
  have hm := hT.1
  have hpg := RT_pg hT
  refine k_enter (by decide +kernel) (Nat.le_of_ble_eq_true rfl) ?_
  show j_at _ _ _ [(0, .ref 68), (1, j_i g)] [] _ _ _ _
  refine a_aload_n (pc := 0) (i := 0) (by decide +kernel) rfl ?_
  refine a_iload_n (pc := 1) (i := 1) (by decide +kernel) rfl ?_
  refine b_callV (pc := 2) (c' := 0) (sl' := 0) [j_i g] [] ml_X12_158 (by decide +kernel) rfl rfl (sh_68 hn) rfl rfl (Nat.le_of_ble_eq_true rfl) (j_fitI rfl rfl) (e_partOf hn hT hg) (fun v n' σ' hq => ?_)
  obtain ⟨k1, rfl, e1, e2, hk1⟩ := hq
  rw [e1, e2]; clear e1 e2
  have z := pd_of hT hk1 hp
  show j_at _ _ _ [(0, .ref 68), (1, j_i g)] [j_i k1] _ _ _ _
  refine a_istore_n (pc := 5) (i := 2) (lv' := [(0, .ref 68), (1, j_i g), (2, j_i k1)]) (by decide +kernel) (Nat.le_of_ble_eq_true rfl) rfl ?_
  refine a_iload_n (pc := 6) (i := 2) (by decide +kernel) rfl ?_
  refine a_bipush (pc := 7) (n := (-9)) (by decide +kernel) rfl ?_
  refine a_icmp_ne (pc := 9) (off := 7) (tgt := 16) (by decide +kernel) (by decide) (by omega) (by omega) (fun c9 => ?_) (fun c9 => ?_)
  · refine a_aload_n (pc := 16) (i := 0) (by decide +kernel) rfl ?_
    refine b_getR (pc := 17) (b := 75) fl_X12_33 (by decide +kernel) (sh_68 hn) rfl ?_
    refine a_iload_n (pc := 20) (i := 2) (by decide +kernel) rfl ?_
    refine b_iaload (pc := 21) (by decide +kernel) (sh_75 hn) (by omega) (by omega) (by omega) ?_
    refine a_ireturn (pc := 22) (by decide +kernel) rfl ?_
    refine k_ret ?_
    refine ⟨?_, rfl, rfl⟩
    rcases z with ⟨z1, z2⟩ | ⟨z1, z2, z3, z4, z5, z6, z7, z8⟩
    · first | exact absurd z1 (by omega) | (unfold p_form; rw [if_pos z2] <;> rw [Int.add_comm])
    · first | exact absurd z1 (by omega) | (unfold p_form; rw [if_neg (by omega)]; first | rw [z6] | rw [z7, z5])
  · refine a_iconst (pc := 12) (n := 1) (by decide +kernel) ?_
    refine a_goto (pc := 13) (off := 9) (tgt := 22) (by decide +kernel) (by decide) ?_
    refine a_ireturn (pc := 22) (by decide +kernel) rfl ?_
    refine k_ret ?_
    refine ⟨?_, rfl, rfl⟩
    rcases z with ⟨z1, z2⟩ | ⟨z1, z2, z3, z4, z5, z6, z7, z8⟩
    · first | exact absurd z1 (by omega) | (unfold p_form; rw [if_pos z2] <;> rw [Int.add_comm])
    · first | exact absurd z1 (by omega) | (unfold p_form; rw [if_neg (by omega)]; first | rw [z6] | rw [z7, z5])
set_option maxHeartbeats 4000000 in
theorem e_numberOf {G : j_G} {X : k_X} {n : Nat} {σ : k_St} (hn : 101 ≤ n) (hT : RPart σ) {g p : Int} (hg : -2147483648 ≤ g ∧ g ≤ 2147483647) (hp : p_of σ g p) : k_run G X mX12_numberOf [.ref 68, j_i g] n σ 0 0 (k_is n σ (some (j_i (p_num σ p g)))) := by
  have hm := hT.1
  have hpg := RT_pg hT
  refine k_enter (by decide +kernel) (Nat.le_of_ble_eq_true rfl) ?_
  show j_at _ _ _ [(0, .ref 68), (1, j_i g)] [] _ _ _ _
  refine a_aload_n (pc := 0) (i := 0) (by decide +kernel) rfl ?_
  refine a_iload_n (pc := 1) (i := 1) (by decide +kernel) rfl ?_
  refine b_callV (pc := 2) (c' := 0) (sl' := 0) [j_i g] [] ml_X12_158 (by decide +kernel) rfl rfl (sh_68 hn) rfl rfl (Nat.le_of_ble_eq_true rfl) (j_fitI rfl rfl) (e_partOf hn hT hg) (fun v n' σ' hq => ?_)
  obtain ⟨k1, rfl, e1, e2, hk1⟩ := hq
  rw [e1, e2]; clear e1 e2
  have z := pd_of hT hk1 hp
  show j_at _ _ _ [(0, .ref 68), (1, j_i g)] [j_i k1] _ _ _ _
  refine a_istore_n (pc := 5) (i := 2) (lv' := [(0, .ref 68), (1, j_i g), (2, j_i k1)]) (by decide +kernel) (Nat.le_of_ble_eq_true rfl) rfl ?_
  refine a_iload_n (pc := 6) (i := 2) (by decide +kernel) rfl ?_
  refine a_bipush (pc := 7) (n := (-9)) (by decide +kernel) rfl ?_
  refine a_icmp_ne (pc := 9) (off := 9) (tgt := 18) (by decide +kernel) (by decide) (by omega) (by omega) (fun c9 => ?_) (fun c9 => ?_)
  · refine a_aload_n (pc := 18) (i := 0) (by decide +kernel) rfl ?_
    refine b_getR (pc := 19) (b := 76) fl_X12_36 (by decide +kernel) (sh_68 hn) rfl ?_
    refine a_iload_n (pc := 22) (i := 2) (by decide +kernel) rfl ?_
    refine b_iaload (pc := 23) (by decide +kernel) (sh_76 hn) (by omega) (by omega) (by omega) ?_
    refine a_iload_n (pc := 24) (i := 1) (by decide +kernel) rfl ?_
    refine a_iadd (pc := 25) (by decide +kernel) ?_
    refine a_aload_n (pc := 26) (i := 0) (by decide +kernel) rfl ?_
    refine b_getR (pc := 27) (b := 74) fl_X12_30 (by decide +kernel) (sh_68 hn) rfl ?_
    refine a_iload_n (pc := 30) (i := 2) (by decide +kernel) rfl ?_
    refine b_iaload (pc := 31) (by decide +kernel) (sh_74 hn) (by omega) (by omega) (by omega) ?_
    refine a_isub (pc := 32) (by decide +kernel) ?_
    refine a_ireturn (pc := 33) (by decide +kernel) rfl ?_
    refine k_ret ?_
    refine ⟨?_, rfl, rfl⟩
    rcases z with ⟨z1, z2⟩ | ⟨z1, z2, z3, z4, z5, z6, z7, z8⟩
    · first | exact absurd z1 (by omega) | (unfold p_num; rw [if_pos z2] <;> rw [Int.add_comm])
    · first | exact absurd z1 (by omega) | (unfold p_num; rw [if_neg (by omega)]; first | rw [z6] | rw [z7, z5])
  · refine a_iconst (pc := 12) (n := 1) (by decide +kernel) ?_
    refine a_iload_n (pc := 13) (i := 1) (by decide +kernel) rfl ?_
    refine a_iadd (pc := 14) (by decide +kernel) ?_
    refine a_goto (pc := 15) (off := 18) (tgt := 33) (by decide +kernel) (by decide) ?_
    refine a_ireturn (pc := 33) (by decide +kernel) rfl ?_
    refine k_ret ?_
    refine ⟨?_, rfl, rfl⟩
    rcases z with ⟨z1, z2⟩ | ⟨z1, z2, z3, z4, z5, z6, z7, z8⟩
    · first | exact absurd z1 (by omega) | (unfold p_num; rw [if_pos z2] <;> rw [Int.add_comm])
    · first | exact absurd z1 (by omega) | (unfold p_num; rw [if_neg (by omega)]; first | rw [z6] | rw [z7, z5])
theorem RT_lb {σ τ : k_St} {L : List Int} (h : lb σ τ L) (hT : RPart σ) : RPart τ := RPart_cg (fun c _ _ => h.1 c (by omega)) (fun c _ _ => h.1 c (by omega)) (h.2.1 _ _ (by omega)) (h.2.1 _ _ (by omega)) hT
theorem p_of_lb {σ τ : k_St} {L : List Int} {g p : Int} (h : lb σ τ L) (hp : p_of σ g p) : p_of τ g p := by
  unfold p_of at hp ⊢
  rw [h.1 25 (by omega), h.2.1 24 4 (by omega)]; exact hp
theorem p_form_lb {σ τ : k_St} {L : List Int} {p : Int} (h : lb σ τ L) : p_form τ p = p_form σ p := by unfold p_form; rw [h.1 26 (by omega)]
theorem p_num_lb {σ τ : k_St} {L : List Int} {p g : Int} (h : lb σ τ L) : p_num τ p g = p_num σ p g := by unfold p_num; rw [h.1 27 (by omega), h.1 25 (by omega)]
set_option maxHeartbeats 4000000 in
theorem e_makeLabel {G : j_G} {X : k_X} {n : Nat} {σ : k_St} (hn : 101 ≤ n) (hT : RPart σ) {g p : Int} (hg : 0 ≤ g ∧ g ≤ 299) (hp : p_of σ g p) : k_run G X mX12_makeLabel [.ref 68, j_i g] n σ 0 0 (fun v' n' σ' => v' = none ∧ n' = n ∧ lb σ σ' (p_signs σ p g)) := by
  have hf := p_form_in (RT_wf hT) (p_of_r hp)
  have hx := p_num_in (RT_wf hT) (p_of_r hp) hg
  have hx1 := p_num_pos (RT_wf hT) hp hg
  refine k_enter (by decide +kernel) (Nat.le_of_ble_eq_true rfl) ?_
  show j_at _ _ _ [(0, .ref 68), (1, j_i g)] [] _ _ _ _
  refine a_aload_n (pc := 0) (i := 0) (by decide +kernel) rfl ?_
  refine a_iconst (pc := 1) (n := 0) (by decide +kernel) ?_
  refine b_putI (pc := 2) fl_X12_148 (by decide +kernel) (sh_68 hn) rfl rfl rfl ?_
  obtain ⟨σ1, hσ1⟩ : ∃ z, z = k_sI σ 68 20 0 := ⟨_, rfl⟩
  rw [← hσ1]
  have lσ1 := lb_0 hσ1
  refine a_aload_n (pc := 5) (i := 0) (by decide +kernel) rfl ?_
  refine a_iload_n (pc := 6) (i := 1) (by decide +kernel) rfl ?_
  refine b_pureV (pc := 7) [j_i g] [] ml_X12_161 (by decide +kernel) rfl rfl (sh_68 hn) rfl rfl (Nat.le_of_ble_eq_true rfl) (j_fitI rfl rfl) (e_formOf hn (RT_lb lσ1 hT) (by omega) (p_of_lb lσ1 hp)) ?_
  rw [p_form_lb lσ1]
  show j_at _ _ _ [(0, .ref 68), (1, j_i g)] [j_i (p_form σ p)] _ _ _ _
  refine a_istore_n (pc := 10) (i := 2) (lv' := [(0, .ref 68), (1, j_i g), (2, j_i (p_form σ p))]) (by decide +kernel) (Nat.le_of_ble_eq_true rfl) rfl ?_
  refine a_iload_n (pc := 11) (i := 2) (by decide +kernel) rfl ?_
  refine a_if_ne (pc := 12) (off := 137) (tgt := 149) (by decide +kernel) (by decide) (by omega) (fun c12 => ?_) (fun c12 => ?_)
  · refine a_iload_n (pc := 149) (i := 2) (by decide +kernel) rfl ?_
    refine a_iconst (pc := 150) (n := 2) (by decide +kernel) ?_
    refine a_icmp_ne (pc := 151) (off := 23) (tgt := 174) (by decide +kernel) (by decide) (by omega) (by omega) (fun c151 => ?_) (fun c151 => ?_)
    · refine a_aload_n (pc := 174) (i := 0) (by decide +kernel) rfl ?_
      refine a_aload_n (pc := 175) (i := 0) (by decide +kernel) rfl ?_
      refine a_iload_n (pc := 176) (i := 1) (by decide +kernel) rfl ?_
      refine b_pureV (pc := 177) [j_i g] [.ref 68] ml_X12_164 (by decide +kernel) rfl rfl (sh_68 hn) rfl rfl (Nat.le_of_ble_eq_true rfl) (j_fitI rfl rfl) (e_numberOf hn (RT_lb lσ1 hT) (by omega) (p_of_lb lσ1 hp)) ?_
      rw [p_num_lb lσ1]
      show j_at _ _ _ [(0, .ref 68), (1, j_i g), (2, j_i (p_form σ p))] [j_i (p_num σ p g), .ref 68] _ _ _ _
      refine b_callV (pc := 180) (c' := 0) (sl' := 0) [j_i (p_num σ p g)] [] ml_X12_171 (by decide +kernel) rfl rfl (sh_68 hn) rfl rfl (Nat.le_of_ble_eq_true rfl) (j_fitI rfl rfl) (e_sayTens (T := p_signs σ p g) (L := []) hn (by omega) lσ1 (by simp) (by unfold p_signs; rw [if_neg (by omega)]; first | rw [if_pos (by exact ⟨hp9, by omega⟩)]; rfl | (rw [if_neg (by omega)]))) (fun v n' σ' hq => ?_)
      obtain ⟨rfl, rfl, hfin⟩ := hq
      show j_at _ _ _ [(0, .ref 68), (1, j_i g), (2, j_i (p_form σ p))] [] _ _ _ _
      refine a_return (pc := 183) (by decide +kernel) rfl ?_
      refine k_ret ?_
      exact ⟨rfl, rfl, hfin⟩
    · refine a_aload_n (pc := 154) (i := 0) (by decide +kernel) rfl ?_
      refine a_aload_n (pc := 155) (i := 0) (by decide +kernel) rfl ?_
      refine b_getR (pc := 156) (b := 77) fl_X12_39 (by decide +kernel) (sh_68 hn) rfl ?_
      refine a_aload_n (pc := 159) (i := 0) (by decide +kernel) rfl ?_
      refine a_iload_n (pc := 160) (i := 1) (by decide +kernel) rfl ?_
      refine b_callV (pc := 161) (c' := 0) (sl' := 0) [j_i g] [.ref 77, .ref 68] ml_X12_158 (by decide +kernel) rfl rfl (sh_68 hn) rfl rfl (Nat.le_of_ble_eq_true rfl) (j_fitI rfl rfl) (e_partOf hn (RT_lb lσ1 hT) (by omega)) (fun v n' σ' hq => ?_)
      obtain ⟨k3, rfl, e1, e2, hk3⟩ := hq
      rw [e1, e2]; clear e1 e2
      have z := pd_of (RT_lb lσ1 hT) hk3 (p_of_lb lσ1 hp)
      have hp9 : p ≠ -9 := fun e => by unfold p_form at c151; rw [if_pos e] at c151; omega
      have zk : 0 ≤ k3 ∧ k3 < 8 := by have := hT.1; have := lσ1.2.1 68 12 (by omega); omega
      show j_at _ _ _ [(0, .ref 68), (1, j_i g), (2, j_i (p_form σ p))] [j_i k3, .ref 77, .ref 68] _ _ _ _
      refine b_iaload (pc := 164) (by decide +kernel) (sh_77 hn) (by omega) (by omega) (by omega) ?_
      rw [show σ1.1 77 = σ.1 77 by rw [hσ1]; rfl]
      rw [show σ.1 77 k3 = σ.1 28 p by rw [← lσ1.1 77 (by omega), ← lσ1.1 28 (by omega)]; omega]
      refine b_callV (pc := 165) (c' := 0) (sl' := 0) [j_i (σ.1 28 p)] [] ml_X12_151 (by decide +kernel) rfl rfl (sh_68 hn) rfl rfl (Nat.le_of_ble_eq_true rfl) (j_fitI rfl rfl) (e_say hn (by rw [lσ1.2.2.2.1]; show 0 ≤ ((_ : Nat) : Int) ∧ ((_ : Nat) : Int) < 24; simp)) (fun v n' σ' hq => ?_)
      obtain ⟨rfl, e1, e2⟩ := hq
      rw [e1, e2]; clear e1 e2
      obtain ⟨σ4, hσ4⟩ : ∃ z, z = e_app 80 68 20 σ1 (σ.1 28 p) := ⟨_, rfl⟩
      rw [← hσ4]
      have lσ4 := lb_app (x := σ.1 28 p) lσ1 hσ4
      show j_at _ _ _ [(0, .ref 68), (1, j_i g), (2, j_i (p_form σ p))] [] _ _ _ _
      refine a_aload_n (pc := 168) (i := 0) (by decide +kernel) rfl ?_
      refine a_bipush (pc := 169) (n := 45) (by decide +kernel) rfl ?_
      refine b_callV (pc := 171) (c' := 0) (sl' := 0) [j_i 45] [] ml_X12_151 (by decide +kernel) rfl rfl (sh_68 hn) rfl rfl (Nat.le_of_ble_eq_true rfl) (j_fitI rfl rfl) (e_say hn (by rw [lσ4.1.2.2.2.1]; show 0 ≤ ((_ : Nat) : Int) ∧ ((_ : Nat) : Int) < 24; simp)) (fun v n' σ' hq => ?_)
      obtain ⟨rfl, e1, e2⟩ := hq
      rw [e1, e2]; clear e1 e2
      obtain ⟨σ5, hσ5⟩ : ∃ z, z = e_app 80 68 20 σ4 45 := ⟨_, rfl⟩
      rw [← hσ5]
      have lσ5 := lb_app (x := 45) lσ4.1 hσ5
      show j_at _ _ _ [(0, .ref 68), (1, j_i g), (2, j_i (p_form σ p))] [] _ _ _ _
      refine a_aload_n (pc := 174) (i := 0) (by decide +kernel) rfl ?_
      refine a_aload_n (pc := 175) (i := 0) (by decide +kernel) rfl ?_
      refine a_iload_n (pc := 176) (i := 1) (by decide +kernel) rfl ?_
      refine b_pureV (pc := 177) [j_i g] [.ref 68] ml_X12_164 (by decide +kernel) rfl rfl (sh_68 hn) rfl rfl (Nat.le_of_ble_eq_true rfl) (j_fitI rfl rfl) (e_numberOf hn (RT_lb lσ5.1 hT) (by omega) (p_of_lb lσ5.1 hp)) ?_
      rw [p_num_lb lσ5.1]
      show j_at _ _ _ [(0, .ref 68), (1, j_i g), (2, j_i (p_form σ p))] [j_i (p_num σ p g), .ref 68] _ _ _ _
      refine b_callV (pc := 180) (c' := 0) (sl' := 0) [j_i (p_num σ p g)] [] ml_X12_171 (by decide +kernel) rfl rfl (sh_68 hn) rfl rfl (Nat.le_of_ble_eq_true rfl) (j_fitI rfl rfl) (e_sayTens (T := p_signs σ p g) (L := (([] ++ [σ.1 28 p]) ++ [45])) hn (by omega) lσ5.1 (by simp) (by unfold p_signs; rw [if_neg (by omega)]; first | rw [if_pos (by exact ⟨hp9, by omega⟩)]; rfl | (rw [if_neg (by omega)]))) (fun v n' σ' hq => ?_)
      obtain ⟨rfl, rfl, hfin⟩ := hq
      show j_at _ _ _ [(0, .ref 68), (1, j_i g), (2, j_i (p_form σ p))] [] _ _ _ _
      refine a_return (pc := 183) (by decide +kernel) rfl ?_
      refine k_ret ?_
      exact ⟨rfl, rfl, hfin⟩
  · have hlen : (f_romK 0 (p_num σ p g)).length ≤ 14 := by have := p_signs_len (RT_wf hT) hp hg; unfold p_signs at this; rw [if_pos (by omega)] at this; exact this
    have hT0 : f_romK 0 (p_num σ p g) = [] ++ f_rom f_tbl (p_num σ p g) := rfl
    refine a_aload_n (pc := 15) (i := 0) (by decide +kernel) rfl ?_
    refine a_aload_n (pc := 16) (i := 0) (by decide +kernel) rfl ?_
    refine a_iload_n (pc := 17) (i := 1) (by decide +kernel) rfl ?_
    refine b_pureV (pc := 18) [j_i g] [.ref 68] ml_X12_164 (by decide +kernel) rfl rfl (sh_68 hn) rfl rfl (Nat.le_of_ble_eq_true rfl) (j_fitI rfl rfl) (e_numberOf hn (RT_lb lσ1 hT) (by omega) (p_of_lb lσ1 hp)) ?_
    rw [p_num_lb lσ1]
    show j_at _ _ _ [(0, .ref 68), (1, j_i g), (2, j_i (p_form σ p))] [j_i (p_num σ p g), .ref 68] _ _ _ _
    refine b_putI (pc := 21) fl_X12_155 (by decide +kernel) (sh_68 hn) rfl rfl rfl ?_
    obtain ⟨σ7, hσ7⟩ : ∃ z, z = k_sI σ1 68 21 (p_num σ p g) := ⟨_, rfl⟩
    rw [← hσ7]
    have lσ7 := lb_21 (L := []) lσ1 hσ7
    refine a_aload_n (pc := 24) (i := 0) (by decide +kernel) rfl ?_
    refine a_sipush (pc := 25) (n := 1000) (by decide +kernel) rfl ?_
    refine a_bipush (pc := 28) (n := 109) (by decide +kernel) rfl ?_
    refine a_iconst (pc := 30) (n := 0) (by decide +kernel) ?_
    refine b_callV (pc := 31) (c' := 0) (sl' := 0) [j_i 1000, j_i 109, j_i 0] [] ml_X12_167 (by decide +kernel) rfl rfl (sh_68 hn) rfl rfl (Nat.le_of_ble_eq_true rfl) (j_fitI rfl rfl) (e_sayRoman hn (by omega) (by omega) (by constructor <;> intro q <;> first | rfl | exact absurd q (by omega)) hlen (by omega) lσ7.1 lσ7.2 hT0) (fun v n' σ' hq => ?_)
    obtain ⟨rfl, rfl, Lσ8, xσ8, u1σ8, u2σ8, u3σ8, u4σ8⟩ := hq
    obtain ⟨σ8, hσ8⟩ : ∃ z, z = σ' := ⟨_, rfl⟩
    rw [← hσ8] at u1σ8 u2σ8 ⊢
    clear hσ8
    show j_at _ _ _ [(0, .ref 68), (1, j_i g), (2, j_i (p_form σ p))] [] _ _ _ _
    refine a_aload_n (pc := 34) (i := 0) (by decide +kernel) rfl ?_
    refine a_sipush (pc := 35) (n := 900) (by decide +kernel) rfl ?_
    refine a_bipush (pc := 38) (n := 99) (by decide +kernel) rfl ?_
    refine a_bipush (pc := 40) (n := 109) (by decide +kernel) rfl ?_
    refine b_callV (pc := 42) (c' := 0) (sl' := 0) [j_i 900, j_i 99, j_i 109] [] ml_X12_167 (by decide +kernel) rfl rfl (sh_68 hn) rfl rfl (Nat.le_of_ble_eq_true rfl) (j_fitI rfl rfl) (e_sayRoman hn (by omega) (by omega) (by constructor <;> intro q <;> first | rfl | exact absurd q (by omega)) hlen u3σ8 u1σ8 u2σ8 u4σ8) (fun v n' σ' hq => ?_)
    obtain ⟨rfl, rfl, Lσ9, xσ9, u1σ9, u2σ9, u3σ9, u4σ9⟩ := hq
    obtain ⟨σ9, hσ9⟩ : ∃ z, z = σ' := ⟨_, rfl⟩
    rw [← hσ9] at u1σ9 u2σ9 ⊢
    clear hσ9
    show j_at _ _ _ [(0, .ref 68), (1, j_i g), (2, j_i (p_form σ p))] [] _ _ _ _
    refine a_aload_n (pc := 45) (i := 0) (by decide +kernel) rfl ?_
    refine a_sipush (pc := 46) (n := 500) (by decide +kernel) rfl ?_
    refine a_bipush (pc := 49) (n := 100) (by decide +kernel) rfl ?_
    refine a_iconst (pc := 51) (n := 0) (by decide +kernel) ?_
    refine b_callV (pc := 52) (c' := 0) (sl' := 0) [j_i 500, j_i 100, j_i 0] [] ml_X12_167 (by decide +kernel) rfl rfl (sh_68 hn) rfl rfl (Nat.le_of_ble_eq_true rfl) (j_fitI rfl rfl) (e_sayRoman hn (by omega) (by omega) (by constructor <;> intro q <;> first | rfl | exact absurd q (by omega)) hlen u3σ9 u1σ9 u2σ9 u4σ9) (fun v n' σ' hq => ?_)
    obtain ⟨rfl, rfl, Lσ10, xσ10, u1σ10, u2σ10, u3σ10, u4σ10⟩ := hq
    obtain ⟨σ10, hσ10⟩ : ∃ z, z = σ' := ⟨_, rfl⟩
    rw [← hσ10] at u1σ10 u2σ10 ⊢
    clear hσ10
    show j_at _ _ _ [(0, .ref 68), (1, j_i g), (2, j_i (p_form σ p))] [] _ _ _ _
    refine a_aload_n (pc := 55) (i := 0) (by decide +kernel) rfl ?_
    refine a_sipush (pc := 56) (n := 400) (by decide +kernel) rfl ?_
    refine a_bipush (pc := 59) (n := 99) (by decide +kernel) rfl ?_
    refine a_bipush (pc := 61) (n := 100) (by decide +kernel) rfl ?_
    refine b_callV (pc := 63) (c' := 0) (sl' := 0) [j_i 400, j_i 99, j_i 100] [] ml_X12_167 (by decide +kernel) rfl rfl (sh_68 hn) rfl rfl (Nat.le_of_ble_eq_true rfl) (j_fitI rfl rfl) (e_sayRoman hn (by omega) (by omega) (by constructor <;> intro q <;> first | rfl | exact absurd q (by omega)) hlen u3σ10 u1σ10 u2σ10 u4σ10) (fun v n' σ' hq => ?_)
    obtain ⟨rfl, rfl, Lσ11, xσ11, u1σ11, u2σ11, u3σ11, u4σ11⟩ := hq
    obtain ⟨σ11, hσ11⟩ : ∃ z, z = σ' := ⟨_, rfl⟩
    rw [← hσ11] at u1σ11 u2σ11 ⊢
    clear hσ11
    show j_at _ _ _ [(0, .ref 68), (1, j_i g), (2, j_i (p_form σ p))] [] _ _ _ _
    refine a_aload_n (pc := 66) (i := 0) (by decide +kernel) rfl ?_
    refine a_bipush (pc := 67) (n := 100) (by decide +kernel) rfl ?_
    refine a_bipush (pc := 69) (n := 99) (by decide +kernel) rfl ?_
    refine a_iconst (pc := 71) (n := 0) (by decide +kernel) ?_
    refine b_callV (pc := 72) (c' := 0) (sl' := 0) [j_i 100, j_i 99, j_i 0] [] ml_X12_167 (by decide +kernel) rfl rfl (sh_68 hn) rfl rfl (Nat.le_of_ble_eq_true rfl) (j_fitI rfl rfl) (e_sayRoman hn (by omega) (by omega) (by constructor <;> intro q <;> first | rfl | exact absurd q (by omega)) hlen u3σ11 u1σ11 u2σ11 u4σ11) (fun v n' σ' hq => ?_)
    obtain ⟨rfl, rfl, Lσ12, xσ12, u1σ12, u2σ12, u3σ12, u4σ12⟩ := hq
    obtain ⟨σ12, hσ12⟩ : ∃ z, z = σ' := ⟨_, rfl⟩
    rw [← hσ12] at u1σ12 u2σ12 ⊢
    clear hσ12
    show j_at _ _ _ [(0, .ref 68), (1, j_i g), (2, j_i (p_form σ p))] [] _ _ _ _
    refine a_aload_n (pc := 75) (i := 0) (by decide +kernel) rfl ?_
    refine a_bipush (pc := 76) (n := 90) (by decide +kernel) rfl ?_
    refine a_bipush (pc := 78) (n := 120) (by decide +kernel) rfl ?_
    refine a_bipush (pc := 80) (n := 99) (by decide +kernel) rfl ?_
    refine b_callV (pc := 82) (c' := 0) (sl' := 0) [j_i 90, j_i 120, j_i 99] [] ml_X12_167 (by decide +kernel) rfl rfl (sh_68 hn) rfl rfl (Nat.le_of_ble_eq_true rfl) (j_fitI rfl rfl) (e_sayRoman hn (by omega) (by omega) (by constructor <;> intro q <;> first | rfl | exact absurd q (by omega)) hlen u3σ12 u1σ12 u2σ12 u4σ12) (fun v n' σ' hq => ?_)
    obtain ⟨rfl, rfl, Lσ13, xσ13, u1σ13, u2σ13, u3σ13, u4σ13⟩ := hq
    obtain ⟨σ13, hσ13⟩ : ∃ z, z = σ' := ⟨_, rfl⟩
    rw [← hσ13] at u1σ13 u2σ13 ⊢
    clear hσ13
    show j_at _ _ _ [(0, .ref 68), (1, j_i g), (2, j_i (p_form σ p))] [] _ _ _ _
    refine a_aload_n (pc := 85) (i := 0) (by decide +kernel) rfl ?_
    refine a_bipush (pc := 86) (n := 50) (by decide +kernel) rfl ?_
    refine a_bipush (pc := 88) (n := 108) (by decide +kernel) rfl ?_
    refine a_iconst (pc := 90) (n := 0) (by decide +kernel) ?_
    refine b_callV (pc := 91) (c' := 0) (sl' := 0) [j_i 50, j_i 108, j_i 0] [] ml_X12_167 (by decide +kernel) rfl rfl (sh_68 hn) rfl rfl (Nat.le_of_ble_eq_true rfl) (j_fitI rfl rfl) (e_sayRoman hn (by omega) (by omega) (by constructor <;> intro q <;> first | rfl | exact absurd q (by omega)) hlen u3σ13 u1σ13 u2σ13 u4σ13) (fun v n' σ' hq => ?_)
    obtain ⟨rfl, rfl, Lσ14, xσ14, u1σ14, u2σ14, u3σ14, u4σ14⟩ := hq
    obtain ⟨σ14, hσ14⟩ : ∃ z, z = σ' := ⟨_, rfl⟩
    rw [← hσ14] at u1σ14 u2σ14 ⊢
    clear hσ14
    show j_at _ _ _ [(0, .ref 68), (1, j_i g), (2, j_i (p_form σ p))] [] _ _ _ _
    refine a_aload_n (pc := 94) (i := 0) (by decide +kernel) rfl ?_
    refine a_bipush (pc := 95) (n := 40) (by decide +kernel) rfl ?_
    refine a_bipush (pc := 97) (n := 120) (by decide +kernel) rfl ?_
    refine a_bipush (pc := 99) (n := 108) (by decide +kernel) rfl ?_
    refine b_callV (pc := 101) (c' := 0) (sl' := 0) [j_i 40, j_i 120, j_i 108] [] ml_X12_167 (by decide +kernel) rfl rfl (sh_68 hn) rfl rfl (Nat.le_of_ble_eq_true rfl) (j_fitI rfl rfl) (e_sayRoman hn (by omega) (by omega) (by constructor <;> intro q <;> first | rfl | exact absurd q (by omega)) hlen u3σ14 u1σ14 u2σ14 u4σ14) (fun v n' σ' hq => ?_)
    obtain ⟨rfl, rfl, Lσ15, xσ15, u1σ15, u2σ15, u3σ15, u4σ15⟩ := hq
    obtain ⟨σ15, hσ15⟩ : ∃ z, z = σ' := ⟨_, rfl⟩
    rw [← hσ15] at u1σ15 u2σ15 ⊢
    clear hσ15
    show j_at _ _ _ [(0, .ref 68), (1, j_i g), (2, j_i (p_form σ p))] [] _ _ _ _
    refine a_aload_n (pc := 104) (i := 0) (by decide +kernel) rfl ?_
    refine a_bipush (pc := 105) (n := 10) (by decide +kernel) rfl ?_
    refine a_bipush (pc := 107) (n := 120) (by decide +kernel) rfl ?_
    refine a_iconst (pc := 109) (n := 0) (by decide +kernel) ?_
    refine b_callV (pc := 110) (c' := 0) (sl' := 0) [j_i 10, j_i 120, j_i 0] [] ml_X12_167 (by decide +kernel) rfl rfl (sh_68 hn) rfl rfl (Nat.le_of_ble_eq_true rfl) (j_fitI rfl rfl) (e_sayRoman hn (by omega) (by omega) (by constructor <;> intro q <;> first | rfl | exact absurd q (by omega)) hlen u3σ15 u1σ15 u2σ15 u4σ15) (fun v n' σ' hq => ?_)
    obtain ⟨rfl, rfl, Lσ16, xσ16, u1σ16, u2σ16, u3σ16, u4σ16⟩ := hq
    obtain ⟨σ16, hσ16⟩ : ∃ z, z = σ' := ⟨_, rfl⟩
    rw [← hσ16] at u1σ16 u2σ16 ⊢
    clear hσ16
    show j_at _ _ _ [(0, .ref 68), (1, j_i g), (2, j_i (p_form σ p))] [] _ _ _ _
    refine a_aload_n (pc := 113) (i := 0) (by decide +kernel) rfl ?_
    refine a_bipush (pc := 114) (n := 9) (by decide +kernel) rfl ?_
    refine a_bipush (pc := 116) (n := 105) (by decide +kernel) rfl ?_
    refine a_bipush (pc := 118) (n := 120) (by decide +kernel) rfl ?_
    refine b_callV (pc := 120) (c' := 0) (sl' := 0) [j_i 9, j_i 105, j_i 120] [] ml_X12_167 (by decide +kernel) rfl rfl (sh_68 hn) rfl rfl (Nat.le_of_ble_eq_true rfl) (j_fitI rfl rfl) (e_sayRoman hn (by omega) (by omega) (by constructor <;> intro q <;> first | rfl | exact absurd q (by omega)) hlen u3σ16 u1σ16 u2σ16 u4σ16) (fun v n' σ' hq => ?_)
    obtain ⟨rfl, rfl, Lσ17, xσ17, u1σ17, u2σ17, u3σ17, u4σ17⟩ := hq
    obtain ⟨σ17, hσ17⟩ : ∃ z, z = σ' := ⟨_, rfl⟩
    rw [← hσ17] at u1σ17 u2σ17 ⊢
    clear hσ17
    show j_at _ _ _ [(0, .ref 68), (1, j_i g), (2, j_i (p_form σ p))] [] _ _ _ _
    refine a_aload_n (pc := 123) (i := 0) (by decide +kernel) rfl ?_
    refine a_iconst (pc := 124) (n := 5) (by decide +kernel) ?_
    refine a_bipush (pc := 125) (n := 118) (by decide +kernel) rfl ?_
    refine a_iconst (pc := 127) (n := 0) (by decide +kernel) ?_
    refine b_callV (pc := 128) (c' := 0) (sl' := 0) [j_i 5, j_i 118, j_i 0] [] ml_X12_167 (by decide +kernel) rfl rfl (sh_68 hn) rfl rfl (Nat.le_of_ble_eq_true rfl) (j_fitI rfl rfl) (e_sayRoman hn (by omega) (by omega) (by constructor <;> intro q <;> first | rfl | exact absurd q (by omega)) hlen u3σ17 u1σ17 u2σ17 u4σ17) (fun v n' σ' hq => ?_)
    obtain ⟨rfl, rfl, Lσ18, xσ18, u1σ18, u2σ18, u3σ18, u4σ18⟩ := hq
    obtain ⟨σ18, hσ18⟩ : ∃ z, z = σ' := ⟨_, rfl⟩
    rw [← hσ18] at u1σ18 u2σ18 ⊢
    clear hσ18
    show j_at _ _ _ [(0, .ref 68), (1, j_i g), (2, j_i (p_form σ p))] [] _ _ _ _
    refine a_aload_n (pc := 131) (i := 0) (by decide +kernel) rfl ?_
    refine a_iconst (pc := 132) (n := 4) (by decide +kernel) ?_
    refine a_bipush (pc := 133) (n := 105) (by decide +kernel) rfl ?_
    refine a_bipush (pc := 135) (n := 118) (by decide +kernel) rfl ?_
    refine b_callV (pc := 137) (c' := 0) (sl' := 0) [j_i 4, j_i 105, j_i 118] [] ml_X12_167 (by decide +kernel) rfl rfl (sh_68 hn) rfl rfl (Nat.le_of_ble_eq_true rfl) (j_fitI rfl rfl) (e_sayRoman hn (by omega) (by omega) (by constructor <;> intro q <;> first | rfl | exact absurd q (by omega)) hlen u3σ18 u1σ18 u2σ18 u4σ18) (fun v n' σ' hq => ?_)
    obtain ⟨rfl, rfl, Lσ19, xσ19, u1σ19, u2σ19, u3σ19, u4σ19⟩ := hq
    obtain ⟨σ19, hσ19⟩ : ∃ z, z = σ' := ⟨_, rfl⟩
    rw [← hσ19] at u1σ19 u2σ19 ⊢
    clear hσ19
    show j_at _ _ _ [(0, .ref 68), (1, j_i g), (2, j_i (p_form σ p))] [] _ _ _ _
    refine a_aload_n (pc := 140) (i := 0) (by decide +kernel) rfl ?_
    refine a_iconst (pc := 141) (n := 1) (by decide +kernel) ?_
    refine a_bipush (pc := 142) (n := 105) (by decide +kernel) rfl ?_
    refine a_iconst (pc := 144) (n := 0) (by decide +kernel) ?_
    refine b_callV (pc := 145) (c' := 0) (sl' := 0) [j_i 1, j_i 105, j_i 0] [] ml_X12_167 (by decide +kernel) rfl rfl (sh_68 hn) rfl rfl (Nat.le_of_ble_eq_true rfl) (j_fitI rfl rfl) (e_sayRoman hn (by omega) (by omega) (by constructor <;> intro q <;> first | rfl | exact absurd q (by omega)) hlen u3σ19 u1σ19 u2σ19 u4σ19) (fun v n' σ' hq => ?_)
    obtain ⟨rfl, rfl, Lσ20, xσ20, u1σ20, u2σ20, u3σ20, u4σ20⟩ := hq
    obtain ⟨σ20, hσ20⟩ : ∃ z, z = σ' := ⟨_, rfl⟩
    rw [← hσ20] at u1σ20 u2σ20 ⊢
    clear hσ20
    show j_at _ _ _ [(0, .ref 68), (1, j_i g), (2, j_i (p_form σ p))] [] _ _ _ _
    refine a_return (pc := 148) (by decide +kernel) rfl ?_
    refine k_ret ?_
    exact ⟨rfl, rfl, by rw [show p_signs σ p g = Lσ20 by unfold p_signs; rw [if_pos (by omega), u4σ20]; exact List.append_nil _]; exact u1σ20⟩
