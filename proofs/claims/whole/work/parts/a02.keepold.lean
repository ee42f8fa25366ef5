def KOf (σ τ : k_St) : Prop := (∀ c, ¬ (88 ≤ c ∧ c ≤ 94) → τ.1 c = σ.1 c) ∧ (∀ c j, ¬ (c = 68 ∧ j = 35) → τ.2.1 c j = σ.2.1 c j) ∧ τ.2.2 = σ.2.2 ∧ τ.2.1 68 35 = σ.2.1 68 25
def KO (σ τ : k_St) (a b c d : Int) : Prop := KOf σ τ ∧ (∀ q, 0 ≤ q → q < a → τ.1 88 q = σ.1 81 q) ∧ (∀ q, 0 ≤ q → q < b → τ.1 89 q = σ.1 82 q ∧ τ.1 90 q = σ.1 83 q ∧ τ.1 91 q = σ.1 84 q ∧ τ.1 92 q = σ.1 85 q) ∧ (∀ q, 0 ≤ q → q < c → τ.1 93 q = σ.1 86 q) ∧ ∀ q, 0 ≤ q → q < d → τ.1 94 q = σ.1 87 q
theorem KOf_s {σ τ τ' : k_St} {x : Nat} {f : Int → Int} (h : KOf σ τ) (hx : 88 ≤ x ∧ x ≤ 94) (e : τ' = k_sA τ x f) : KOf σ τ' := by
  subst e; exact ⟨fun c hc => by rw [k_AN (by omega)]; exact h.1 c hc, h.2⟩
theorem up_to {f g : Int → Int} {k x : Int} (hx : x = g k) (h : ∀ q, 0 ≤ q → q < k → f q = g q) : ∀ q, 0 ≤ q → q < k + 1 → j_up f k x q = g q := fun q q0 q1 => by
  by_cases e : q = k
  · rw [e, j_upS]; exact hx
  · rw [j_upN e]; exact h q q0 (by omega)
theorem KO_a {σ τ τ' : k_St} {a b c d : Int} (h : KO σ τ a b c d) (e : τ' = k_sA τ 88 (j_up (τ.1 88) a (σ.1 81 a))) : KO σ τ' (a + 1) b c d := by
  obtain ⟨h0, h1, h2, h3, h4⟩ := h
  refine ⟨KOf_s h0 (by omega) e, ?_, ?_, ?_, ?_⟩
  · rw [e, k_AA]; exact up_to rfl h1
  · rw [e, k_AN (by omega), k_AN (by omega), k_AN (by omega), k_AN (by omega)]; exact h2
  · rw [e, k_AN (by omega)]; exact h3
  · rw [e, k_AN (by omega)]; exact h4
theorem KO_c {σ τ τ' : k_St} {a b c d : Int} (h : KO σ τ a b c d) (e : τ' = k_sA τ 93 (j_up (τ.1 93) c (σ.1 86 c))) : KO σ τ' a b (c + 1) d := by
  obtain ⟨h0, h1, h2, h3, h4⟩ := h
  refine ⟨KOf_s h0 (by omega) e, ?_, ?_, ?_, ?_⟩
  · rw [e, k_AN (by omega)]; exact h1
  · rw [e, k_AN (by omega), k_AN (by omega), k_AN (by omega), k_AN (by omega)]; exact h2
  · rw [e, k_AA]; exact up_to rfl h3
  · rw [e, k_AN (by omega)]; exact h4
theorem KO_d {σ τ τ' : k_St} {a b c d : Int} (h : KO σ τ a b c d) (e : τ' = k_sA τ 94 (j_up (τ.1 94) d (σ.1 87 d))) : KO σ τ' a b c (d + 1) := by
  obtain ⟨h0, h1, h2, h3, h4⟩ := h
  refine ⟨KOf_s h0 (by omega) e, ?_, ?_, ?_, ?_⟩
  · rw [e, k_AN (by omega)]; exact h1
  · rw [e, k_AN (by omega), k_AN (by omega), k_AN (by omega), k_AN (by omega)]; exact h2
  · rw [e, k_AN (by omega)]; exact h3
  · rw [e, k_AA]; exact up_to rfl h4
theorem KO_b {σ τ s1 s2 s3 s4 : k_St} {a b c d : Int} (h : KO σ τ a b c d) (e1 : s1 = k_sA τ 89 (j_up (τ.1 89) b (σ.1 82 b))) (e2 : s2 = k_sA s1 90 (j_up (s1.1 90) b (σ.1 83 b))) (e3 : s3 = k_sA s2 91 (j_up (s2.1 91) b (σ.1 84 b))) (e4 : s4 = k_sA s3 92 (j_up (s3.1 92) b (σ.1 85 b))) : KO σ s4 a (b + 1) c d := by
  obtain ⟨h0, h1, h2, h3, h4⟩ := h
  have q : ∀ x, ¬ (89 ≤ x ∧ x ≤ 92) → s4.1 x = τ.1 x := fun x hx => by rw [e4, k_AN (by omega), e3, k_AN (by omega), e2, k_AN (by omega), e1, k_AN (by omega)]
  refine ⟨KOf_s (KOf_s (KOf_s (KOf_s h0 (by omega) e1) (by omega) e2) (by omega) e3) (by omega) e4, ?_, fun i i0 i1 => ⟨?_, ?_, ?_, ?_⟩, ?_, ?_⟩
  · rw [q _ (by omega)]; exact h1
  · rw [e4, k_AN (by omega), e3, k_AN (by omega), e2, k_AN (by omega), e1, k_AA]; exact up_to rfl (fun i i0 i1 => (h2 i i0 i1).1) i i0 i1
  · rw [e4, k_AN (by omega), e3, k_AN (by omega), e2, k_AA, e1, k_AN (by omega)]; exact up_to rfl (fun i i0 i1 => (h2 i i0 i1).2.1) i i0 i1
  · rw [e4, k_AN (by omega), e3, k_AA, e2, k_AN (by omega), e1, k_AN (by omega)]; exact up_to rfl (fun i i0 i1 => (h2 i i0 i1).2.2.1) i i0 i1
  · rw [e4, k_AA, e3, k_AN (by omega), e2, k_AN (by omega), e1, k_AN (by omega)]; exact up_to rfl (fun i i0 i1 => (h2 i i0 i1).2.2.2) i i0 i1
  · rw [q _ (by omega)]; exact h3
  · rw [q _ (by omega)]; exact h4
set_option maxHeartbeats 4000000 in
theorem l_ko134 {G : j_G} {X : k_X} {n : Nat} {σ : k_St} (hn : 101 ≤ n) (hE : 0 ≤ σ.2.1 68 25 ∧ σ.2.1 68 25 ≤ 150) (hPE : 0 ≤ σ.2.1 68 32 ∧ σ.2.1 68 32 ≤ 50) (hSE : 0 ≤ σ.2.1 68 34 ∧ σ.2.1 68 34 ≤ 50)  : ∀ (z : Nat) (k : Int) (τ : k_St), 3 * σ.2.1 68 34 - k < (z : Int) → 0 ≤ k → k ≤ 3 * σ.2.1 68 34 → KO σ τ (3 * σ.2.1 68 25) (σ.2.1 68 25) (4 * σ.2.1 68 32) k → j_at G mX12_keepOld 134 [(0, .ref 68), (1, j_i k)] [] (k_h X n τ) 0 0 (k_Q X (fun v n' τ => v = none ∧ n' = n ∧ KO σ τ (3 * σ.2.1 68 25) (σ.2.1 68 25) (4 * σ.2.1 68 32) (3 * σ.2.1 68 34))) := by
  intro z
  induction z with
  | zero => intro k τ h1 h2 h3; exact absurd h1 (by omega)
  | succ z ih =>
    intro k τ hz h0 hN hO
    refine a_iload_n (pc := 134) (i := 1) (by decide +kernel) rfl ?_
    refine a_iconst (pc := 135) (n := 3) (by decide +kernel) ?_
    refine a_aload_n (pc := 136) (i := 0) (by decide +kernel) rfl ?_
    refine b_getI (pc := 137) fl_X12_343 (by decide +kernel) (sh_68 hn) rfl ?_
    rw [show τ.2.1 68 34 = σ.2.1 68 34 from hO.1.2.1 68 34 (by omega)]
    refine a_imul (pc := 140) (by decide +kernel) ?_
    refine a_icmp_ge (pc := 141) (off := 21) (tgt := 162) (by decide +kernel) (by decide) (by omega) (by omega) (fun c141 => ?_) (fun c141 => ?_)
    · refine a_return (pc := 162) (by decide +kernel) rfl ?_
      refine k_ret ?_
      rw [show k = 3 * σ.2.1 68 34 by omega] at hO
      exact ⟨rfl, rfl, hO⟩
    · refine a_aload_n (pc := 144) (i := 0) (by decide +kernel) rfl ?_
      refine b_getR (pc := 145) (b := 94) fl_X12_90 (by decide +kernel) (sh_68 hn) rfl ?_
      refine a_iload_n (pc := 148) (i := 1) (by decide +kernel) rfl ?_
      refine a_aload_n (pc := 149) (i := 0) (by decide +kernel) rfl ?_
      refine b_getR (pc := 150) (b := 87) fl_X12_69 (by decide +kernel) (sh_68 hn) rfl ?_
      refine a_iload_n (pc := 153) (i := 1) (by decide +kernel) rfl ?_
      refine b_iaload (pc := 154) (by decide +kernel) (sh_87 hn) (by omega) (by omega) (by omega) ?_
      rw [show τ.1 87 = σ.1 87 from hO.1.1 87 (by omega)]
      refine b_iastore (pc := 155) (by decide +kernel) (sh_94 hn) (by omega) (by omega) (by omega) ?_
      obtain ⟨σ1, hσ1⟩ : ∃ z, z = k_sA τ 94 (j_up (τ.1 94) k (σ.1 87 k)) := ⟨_, rfl⟩
      rw [← hσ1]
      refine a_iinc (pc := 156) (i := 1) (n := 1) (x := k) (lv' := [(0, .ref 68), (1, j_i (k + 1))]) (by decide +kernel) rfl (Nat.le_of_ble_eq_true rfl) rfl ?_
      refine a_goto (pc := 159) (off := -25) (tgt := 134) (by decide +kernel) (by decide) ?_
      exact ih (k + 1) σ1 (by omega) (by omega) (by omega) (KO_d hO hσ1)
set_option maxHeartbeats 4000000 in
theorem l_ko104 {G : j_G} {X : k_X} {n : Nat} {σ : k_St} (hn : 101 ≤ n) (hE : 0 ≤ σ.2.1 68 25 ∧ σ.2.1 68 25 ≤ 150) (hPE : 0 ≤ σ.2.1 68 32 ∧ σ.2.1 68 32 ≤ 50) (hSE : 0 ≤ σ.2.1 68 34 ∧ σ.2.1 68 34 ≤ 50)  : ∀ (z : Nat) (k : Int) (τ : k_St), 4 * σ.2.1 68 32 - k < (z : Int) → 0 ≤ k → k ≤ 4 * σ.2.1 68 32 → KO σ τ (3 * σ.2.1 68 25) (σ.2.1 68 25) k 0 → j_at G mX12_keepOld 104 [(0, .ref 68), (1, j_i k)] [] (k_h X n τ) 0 0 (k_Q X (fun v n' τ => v = none ∧ n' = n ∧ KO σ τ (3 * σ.2.1 68 25) (σ.2.1 68 25) (4 * σ.2.1 68 32) (3 * σ.2.1 68 34))) := by
  intro z
  induction z with
  | zero => intro k τ h1 h2 h3; exact absurd h1 (by omega)
  | succ z ih =>
    intro k τ hz h0 hN hO
    refine a_iload_n (pc := 104) (i := 1) (by decide +kernel) rfl ?_
    refine a_iconst (pc := 105) (n := 4) (by decide +kernel) ?_
    refine a_aload_n (pc := 106) (i := 0) (by decide +kernel) rfl ?_
    refine b_getI (pc := 107) fl_X12_327 (by decide +kernel) (sh_68 hn) rfl ?_
    rw [show τ.2.1 68 32 = σ.2.1 68 32 from hO.1.2.1 68 32 (by omega)]
    refine a_imul (pc := 110) (by decide +kernel) ?_
    refine a_icmp_ge (pc := 111) (off := 21) (tgt := 132) (by decide +kernel) (by decide) (by omega) (by omega) (fun c111 => ?_) (fun c111 => ?_)
    · refine a_iconst (pc := 132) (n := 0) (by decide +kernel) ?_
      refine a_istore_n (pc := 133) (i := 1) (lv' := [(0, .ref 68), (1, j_i 0)]) (by decide +kernel) (Nat.le_of_ble_eq_true rfl) rfl ?_
      rw [show k = 4 * σ.2.1 68 32 by omega] at hO
      exact l_ko134 hn hE hPE hSE 2000 0 τ (by omega) (by omega) (by omega) hO
    · refine a_aload_n (pc := 114) (i := 0) (by decide +kernel) rfl ?_
      refine b_getR (pc := 115) (b := 93) fl_X12_87 (by decide +kernel) (sh_68 hn) rfl ?_
      refine a_iload_n (pc := 118) (i := 1) (by decide +kernel) rfl ?_
      refine a_aload_n (pc := 119) (i := 0) (by decide +kernel) rfl ?_
      refine b_getR (pc := 120) (b := 86) fl_X12_66 (by decide +kernel) (sh_68 hn) rfl ?_
      refine a_iload_n (pc := 123) (i := 1) (by decide +kernel) rfl ?_
      refine b_iaload (pc := 124) (by decide +kernel) (sh_86 hn) (by omega) (by omega) (by omega) ?_
      rw [show τ.1 86 = σ.1 86 from hO.1.1 86 (by omega)]
      refine b_iastore (pc := 125) (by decide +kernel) (sh_93 hn) (by omega) (by omega) (by omega) ?_
      obtain ⟨σ1, hσ1⟩ : ∃ z, z = k_sA τ 93 (j_up (τ.1 93) k (σ.1 86 k)) := ⟨_, rfl⟩
      rw [← hσ1]
      refine a_iinc (pc := 126) (i := 1) (n := 1) (x := k) (lv' := [(0, .ref 68), (1, j_i (k + 1))]) (by decide +kernel) rfl (Nat.le_of_ble_eq_true rfl) rfl ?_
      refine a_goto (pc := 129) (off := -25) (tgt := 104) (by decide +kernel) (by decide) ?_
      exact ih (k + 1) σ1 (by omega) (by omega) (by omega) (KO_c hO hσ1)
set_option maxHeartbeats 4000000 in
theorem l_ko40 {G : j_G} {X : k_X} {n : Nat} {σ : k_St} (hn : 101 ≤ n) (hE : 0 ≤ σ.2.1 68 25 ∧ σ.2.1 68 25 ≤ 150) (hPE : 0 ≤ σ.2.1 68 32 ∧ σ.2.1 68 32 ≤ 50) (hSE : 0 ≤ σ.2.1 68 34 ∧ σ.2.1 68 34 ≤ 50)  : ∀ (z : Nat) (k : Int) (τ : k_St), σ.2.1 68 25 - k < (z : Int) → 0 ≤ k → k ≤ σ.2.1 68 25 → KO σ τ (3 * σ.2.1 68 25) k 0 0 → j_at G mX12_keepOld 40 [(0, .ref 68), (1, j_i k)] [] (k_h X n τ) 0 0 (k_Q X (fun v n' τ => v = none ∧ n' = n ∧ KO σ τ (3 * σ.2.1 68 25) (σ.2.1 68 25) (4 * σ.2.1 68 32) (3 * σ.2.1 68 34))) := by
  intro z
  induction z with
  | zero => intro k τ h1 h2 h3; exact absurd h1 (by omega)
  | succ z ih =>
    intro k τ hz h0 hN hO
    refine a_iload_n (pc := 40) (i := 1) (by decide +kernel) rfl ?_
    refine a_aload_n (pc := 41) (i := 0) (by decide +kernel) rfl ?_
    refine b_getI (pc := 42) fl_X12_281 (by decide +kernel) (sh_68 hn) rfl ?_
    rw [show τ.2.1 68 25 = σ.2.1 68 25 from hO.1.2.1 68 25 (by omega)]
    refine a_icmp_ge (pc := 45) (off := 57) (tgt := 102) (by decide +kernel) (by decide) (by omega) (by omega) (fun c45 => ?_) (fun c45 => ?_)
    · refine a_iconst (pc := 102) (n := 0) (by decide +kernel) ?_
      refine a_istore_n (pc := 103) (i := 1) (lv' := [(0, .ref 68), (1, j_i 0)]) (by decide +kernel) (Nat.le_of_ble_eq_true rfl) rfl ?_
      rw [show k = σ.2.1 68 25 by omega] at hO
      exact l_ko104 hn hE hPE hSE 2000 0 τ (by omega) (by omega) (by omega) hO
    · refine a_aload_n (pc := 48) (i := 0) (by decide +kernel) rfl ?_
      refine b_getR (pc := 49) (b := 89) fl_X12_75 (by decide +kernel) (sh_68 hn) rfl ?_
      refine a_iload_n (pc := 52) (i := 1) (by decide +kernel) rfl ?_
      refine a_aload_n (pc := 53) (i := 0) (by decide +kernel) rfl ?_
      refine b_getR (pc := 54) (b := 82) fl_X12_54 (by decide +kernel) (sh_68 hn) rfl ?_
      refine a_iload_n (pc := 57) (i := 1) (by decide +kernel) rfl ?_
      refine b_iaload (pc := 58) (by decide +kernel) (sh_82 hn) (by omega) (by omega) (by omega) ?_
      rw [show τ.1 82 = σ.1 82 from hO.1.1 82 (by omega)]
      refine b_iastore (pc := 59) (by decide +kernel) (sh_89 hn) (by omega) (by omega) (by omega) ?_
      obtain ⟨σ1, hσ1⟩ : ∃ z, z = k_sA τ 89 (j_up (τ.1 89) k (σ.1 82 k)) := ⟨_, rfl⟩
      rw [← hσ1]
      refine a_aload_n (pc := 60) (i := 0) (by decide +kernel) rfl ?_
      refine b_getR (pc := 61) (b := 90) fl_X12_78 (by decide +kernel) (sh_68 hn) rfl ?_
      refine a_iload_n (pc := 64) (i := 1) (by decide +kernel) rfl ?_
      refine a_aload_n (pc := 65) (i := 0) (by decide +kernel) rfl ?_
      refine b_getR (pc := 66) (b := 83) fl_X12_57 (by decide +kernel) (sh_68 hn) rfl ?_
      refine a_iload_n (pc := 69) (i := 1) (by decide +kernel) rfl ?_
      refine b_iaload (pc := 70) (by decide +kernel) (sh_83 hn) (by omega) (by omega) (by omega) ?_
      rw [show σ1.1 83 = τ.1 83 by rw [hσ1]; exact k_AN (by omega)]
      rw [show τ.1 83 = σ.1 83 from hO.1.1 83 (by omega)]
      refine b_iastore (pc := 71) (by decide +kernel) (sh_90 hn) (by omega) (by omega) (by omega) ?_
      obtain ⟨σ2, hσ2⟩ : ∃ z, z = k_sA σ1 90 (j_up (σ1.1 90) k (σ.1 83 k)) := ⟨_, rfl⟩
      rw [← hσ2]
      refine a_aload_n (pc := 72) (i := 0) (by decide +kernel) rfl ?_
      refine b_getR (pc := 73) (b := 91) fl_X12_81 (by decide +kernel) (sh_68 hn) rfl ?_
      refine a_iload_n (pc := 76) (i := 1) (by decide +kernel) rfl ?_
      refine a_aload_n (pc := 77) (i := 0) (by decide +kernel) rfl ?_
      refine b_getR (pc := 78) (b := 84) fl_X12_60 (by decide +kernel) (sh_68 hn) rfl ?_
      refine a_iload_n (pc := 81) (i := 1) (by decide +kernel) rfl ?_
      refine b_iaload (pc := 82) (by decide +kernel) (sh_84 hn) (by omega) (by omega) (by omega) ?_
      rw [show σ2.1 84 = σ1.1 84 by rw [hσ2]; exact k_AN (by omega)]
      rw [show σ1.1 84 = τ.1 84 by rw [hσ1]; exact k_AN (by omega)]
      rw [show τ.1 84 = σ.1 84 from hO.1.1 84 (by omega)]
      refine b_iastore (pc := 83) (by decide +kernel) (sh_91 hn) (by omega) (by omega) (by omega) ?_
      obtain ⟨σ3, hσ3⟩ : ∃ z, z = k_sA σ2 91 (j_up (σ2.1 91) k (σ.1 84 k)) := ⟨_, rfl⟩
      rw [← hσ3]
      refine a_aload_n (pc := 84) (i := 0) (by decide +kernel) rfl ?_
      refine b_getR (pc := 85) (b := 92) fl_X12_84 (by decide +kernel) (sh_68 hn) rfl ?_
      refine a_iload_n (pc := 88) (i := 1) (by decide +kernel) rfl ?_
      refine a_aload_n (pc := 89) (i := 0) (by decide +kernel) rfl ?_
      refine b_getR (pc := 90) (b := 85) fl_X12_63 (by decide +kernel) (sh_68 hn) rfl ?_
      refine a_iload_n (pc := 93) (i := 1) (by decide +kernel) rfl ?_
      refine b_iaload (pc := 94) (by decide +kernel) (sh_85 hn) (by omega) (by omega) (by omega) ?_
      rw [show σ3.1 85 = σ2.1 85 by rw [hσ3]; exact k_AN (by omega)]
      rw [show σ2.1 85 = σ1.1 85 by rw [hσ2]; exact k_AN (by omega)]
      rw [show σ1.1 85 = τ.1 85 by rw [hσ1]; exact k_AN (by omega)]
      rw [show τ.1 85 = σ.1 85 from hO.1.1 85 (by omega)]
      refine b_iastore (pc := 95) (by decide +kernel) (sh_92 hn) (by omega) (by omega) (by omega) ?_
      obtain ⟨σ4, hσ4⟩ : ∃ z, z = k_sA σ3 92 (j_up (σ3.1 92) k (σ.1 85 k)) := ⟨_, rfl⟩
      rw [← hσ4]
      refine a_iinc (pc := 96) (i := 1) (n := 1) (x := k) (lv' := [(0, .ref 68), (1, j_i (k + 1))]) (by decide +kernel) rfl (Nat.le_of_ble_eq_true rfl) rfl ?_
      refine a_goto (pc := 99) (off := -59) (tgt := 40) (by decide +kernel) (by decide) ?_
      exact ih (k + 1) σ4 (by omega) (by omega) (by omega) (KO_b hO hσ1 hσ2 hσ3 hσ4)
set_option maxHeartbeats 4000000 in
theorem l_ko10 {G : j_G} {X : k_X} {n : Nat} {σ : k_St} (hn : 101 ≤ n) (hE : 0 ≤ σ.2.1 68 25 ∧ σ.2.1 68 25 ≤ 150) (hPE : 0 ≤ σ.2.1 68 32 ∧ σ.2.1 68 32 ≤ 50) (hSE : 0 ≤ σ.2.1 68 34 ∧ σ.2.1 68 34 ≤ 50)  : ∀ (z : Nat) (k : Int) (τ : k_St), 3 * σ.2.1 68 25 - k < (z : Int) → 0 ≤ k → k ≤ 3 * σ.2.1 68 25 → KO σ τ k 0 0 0 → j_at G mX12_keepOld 10 [(0, .ref 68), (1, j_i k)] [] (k_h X n τ) 0 0 (k_Q X (fun v n' τ => v = none ∧ n' = n ∧ KO σ τ (3 * σ.2.1 68 25) (σ.2.1 68 25) (4 * σ.2.1 68 32) (3 * σ.2.1 68 34))) := by
  intro z
  induction z with
  | zero => intro k τ h1 h2 h3; exact absurd h1 (by omega)
  | succ z ih =>
    intro k τ hz h0 hN hO
    refine a_iload_n (pc := 10) (i := 1) (by decide +kernel) rfl ?_
    refine a_iconst (pc := 11) (n := 3) (by decide +kernel) ?_
    refine a_aload_n (pc := 12) (i := 0) (by decide +kernel) rfl ?_
    refine b_getI (pc := 13) fl_X12_281 (by decide +kernel) (sh_68 hn) rfl ?_
    rw [show τ.2.1 68 25 = σ.2.1 68 25 from hO.1.2.1 68 25 (by omega)]
    refine a_imul (pc := 16) (by decide +kernel) ?_
    refine a_icmp_ge (pc := 17) (off := 21) (tgt := 38) (by decide +kernel) (by decide) (by omega) (by omega) (fun c17 => ?_) (fun c17 => ?_)
    · refine a_iconst (pc := 38) (n := 0) (by decide +kernel) ?_
      refine a_istore_n (pc := 39) (i := 1) (lv' := [(0, .ref 68), (1, j_i 0)]) (by decide +kernel) (Nat.le_of_ble_eq_true rfl) rfl ?_
      rw [show k = 3 * σ.2.1 68 25 by omega] at hO
      exact l_ko40 hn hE hPE hSE 2000 0 τ (by omega) (by omega) (by omega) hO
    · refine a_aload_n (pc := 20) (i := 0) (by decide +kernel) rfl ?_
      refine b_getR (pc := 21) (b := 88) fl_X12_72 (by decide +kernel) (sh_68 hn) rfl ?_
      refine a_iload_n (pc := 24) (i := 1) (by decide +kernel) rfl ?_
      refine a_aload_n (pc := 25) (i := 0) (by decide +kernel) rfl ?_
      refine b_getR (pc := 26) (b := 81) fl_X12_51 (by decide +kernel) (sh_68 hn) rfl ?_
      refine a_iload_n (pc := 29) (i := 1) (by decide +kernel) rfl ?_
      refine b_iaload (pc := 30) (by decide +kernel) (sh_81 hn) (by omega) (by omega) (by omega) ?_
      rw [show τ.1 81 = σ.1 81 from hO.1.1 81 (by omega)]
      refine b_iastore (pc := 31) (by decide +kernel) (sh_88 hn) (by omega) (by omega) (by omega) ?_
      obtain ⟨σ1, hσ1⟩ : ∃ z, z = k_sA τ 88 (j_up (τ.1 88) k (σ.1 81 k)) := ⟨_, rfl⟩
      rw [← hσ1]
      refine a_iinc (pc := 32) (i := 1) (n := 1) (x := k) (lv' := [(0, .ref 68), (1, j_i (k + 1))]) (by decide +kernel) rfl (Nat.le_of_ble_eq_true rfl) rfl ?_
      refine a_goto (pc := 35) (off := -25) (tgt := 10) (by decide +kernel) (by decide) ?_
      exact ih (k + 1) σ1 (by omega) (by omega) (by omega) (KO_a hO hσ1)
set_option maxHeartbeats 4000000 in
theorem e_keepOld {G : j_G} {X : k_X} {n : Nat} {σ : k_St} (hn : 101 ≤ n) (hE : 0 ≤ σ.2.1 68 25 ∧ σ.2.1 68 25 ≤ 150) (hPE : 0 ≤ σ.2.1 68 32 ∧ σ.2.1 68 32 ≤ 50) (hSE : 0 ≤ σ.2.1 68 34 ∧ σ.2.1 68 34 ≤ 50)  : k_run G X mX12_keepOld [.ref 68] n σ 0 0 (fun v n' τ => v = none ∧ n' = n ∧ KO σ τ (3 * σ.2.1 68 25) (σ.2.1 68 25) (4 * σ.2.1 68 32) (3 * σ.2.1 68 34)) := by
  refine k_enter (by decide +kernel) (Nat.le_of_ble_eq_true rfl) ?_
  show j_at _ _ _ [(0, .ref 68)] [] _ _ _ _
  refine a_aload_n (pc := 0) (i := 0) (by decide +kernel) rfl ?_
  refine a_aload_n (pc := 1) (i := 0) (by decide +kernel) rfl ?_
  refine b_getI (pc := 2) fl_X12_281 (by decide +kernel) (sh_68 hn) rfl ?_
  refine b_putI (pc := 5) fl_X12_359 (by decide +kernel) (sh_68 hn) rfl rfl rfl ?_
  obtain ⟨σ1, hσ1⟩ : ∃ z, z = k_sI σ 68 35 (σ.2.1 68 25) := ⟨_, rfl⟩
  rw [← hσ1]
  refine a_iconst (pc := 8) (n := 0) (by decide +kernel) ?_
  refine a_istore_n (pc := 9) (i := 1) (lv' := [(0, .ref 68), (1, j_i 0)]) (by decide +kernel) (Nat.le_of_ble_eq_true rfl) rfl ?_
  exact l_ko10 hn hE hPE hSE 2000 0 σ1 (by omega) (by omega) (by omega) ⟨⟨fun c _ => by rw [hσ1]; rfl, fun c j hc => by rw [hσ1, k_IN hc], by rw [hσ1]; rfl, by rw [hσ1, k_II]⟩, fun q q0 q1 => absurd q1 (by omega), fun q q0 q1 => absurd q1 (by omega), fun q q0 q1 => absurd q1 (by omega), fun q q0 q1 => absurd q1 (by omega)⟩
