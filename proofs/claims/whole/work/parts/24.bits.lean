/-- one sign of a key after another -/
def f_sk (s : Int → Int) : Nat → Int → Int
  | 0, i => i
  | m + 1, i => if s i = 32 then f_sk s m (i + 1) else i
def f_num (s : Int → Int) : Nat → Int → Int → Int × Int
  | 0, i, v => (v, i)
  | m + 1, i, v => if 48 ≤ s i ∧ s i ≤ 57 then f_num s m (i + 1) (v * 10 + s i - 48) else (v, i)
def f_bat (s : Int → Int) (l i : Int) : Int := if l = 0 then i else f_sk s 17 i
def f_bk (s : Int → Int) (i : Int) : Int := if 48 ≤ s i ∧ s i ≤ 57 then 3 else if s i = -9 then 0 else if s i = 32 then 1 else if (65 ≤ s i ∧ s i ≤ 90) ∨ (97 ≤ s i ∧ s i ≤ 122) then 4 else 2
def f_bv (s : Int → Int) (i : Int) : Int := if 48 ≤ s i ∧ s i ≤ 57 then (f_num s 17 i 0).1 else f_fold (s i)
def f_be (s : Int → Int) (i : Int) : Int := if 48 ≤ s i ∧ s i ≤ 57 then (f_num s 17 i 0).2 else i + 1
theorem f_sk_in {s : Int → Int} (hs : s 16 ≠ 32) : ∀ (m : Nat) (i : Int), 16 - i < m → i ≤ 16 → i ≤ f_sk s m i ∧ f_sk s m i ≤ 16
  | 0, i, h1, h2 => by omega
  | m + 1, i, h1, h2 => by
    unfold f_sk
    split
    · have hi : i ≠ 16 := fun e => hs (by rw [← e]; assumption)
      have := f_sk_in hs m (i + 1) (by omega) (by omega); omega
    · omega
theorem f_p10 : ∀ k : Nat, k < 17 → (10 : Int) ^ k ≤ 10 ^ 16 := by decide +kernel
theorem f_num_in {s : Int → Int} (hs : ¬ (48 ≤ s 16 ∧ s 16 ≤ 57)) : ∀ (m : Nat) (i v : Int), 16 - i < m → 0 ≤ i → i ≤ 16 → 0 ≤ v → v < 10 ^ i.toNat → (i ≤ (f_num s m i v).2 ∧ (f_num s m i v).2 ≤ 16) ∧ 0 ≤ (f_num s m i v).1 ∧ (f_num s m i v).1 < 10 ^ 16
  | 0, i, v, h1, _, h2, _, _ => by omega
  | m + 1, i, v, h1, h0, h2, h3, h4 => by
    unfold f_num
    split
    · rename_i hd
      have hi : i ≠ 16 := fun e => hs (by rw [← e]; exact hd)
      have hp : (10 : Int) ^ (i + 1).toNat = 10 ^ i.toNat * 10 := by rw [show (i + 1).toNat = i.toNat + 1 by omega, Int.pow_succ]
      have := f_num_in hs m (i + 1) (v * 10 + s i - 48) (by omega) (by omega) (by omega) (by omega) (by rw [hp]; omega)
      omega
    · refine ⟨by omega, h3, Int.lt_of_lt_of_le h4 ?_⟩
      have : i.toNat ≤ 16 := by omega
      exact f_p10 _ (by omega)
def y_st (σ : k_St) (d : Nat) (a k v : Int) : k_St := k_sI (k_sI (k_sI σ d 0 a) d 1 k) d 2 v
theorem y_st_f {σ : k_St} {d : Nat} {a k v : Int} {c j : Nat} : (y_st σ d a k v).2.1 c j = if c = d ∧ j = 2 then v else if c = d ∧ j = 1 then k else if c = d ∧ j = 0 then a else σ.2.1 c j := rfl
theorem y_st_0 {σ : k_St} {d : Nat} {a k v : Int} : (y_st σ d a k v).2.1 d 0 = a := by rw [y_st_f]; simp
theorem y_st_1 {σ : k_St} {d : Nat} {a k v : Int} : (y_st σ d a k v).2.1 d 1 = k := by rw [y_st_f]; simp
theorem y_st_2 {σ : k_St} {d : Nat} {a k v : Int} : (y_st σ d a k v).2.1 d 2 = v := by rw [y_st_f]; simp
theorem y_st_ext {σ τ : k_St} (h1 : σ.1 = τ.1) (h2 : ∀ c j, σ.2.1 c j = τ.2.1 c j) (h3 : σ.2.2 = τ.2.2) : σ = τ := Prod.ext h1 (Prod.ext (funext fun c => funext fun j => h2 c j) h3)
theorem y_st_id {σ : k_St} {d : Nat} : σ = y_st σ d (σ.2.1 d 0) (σ.2.1 d 1) (σ.2.1 d 2) := y_st_ext rfl (fun c j => by
  rw [y_st_f]
  by_cases h1 : c = d ∧ j = 2
  · rw [if_pos h1, h1.1, h1.2]
  · rw [if_neg h1]
    by_cases h2 : c = d ∧ j = 1
    · rw [if_pos h2, h2.1, h2.2]
    · rw [if_neg h2]
      by_cases h3 : c = d ∧ j = 0
      · rw [if_pos h3, h3.1, h3.2]
      · rw [if_neg h3]) rfl
theorem k_sI_f {σ : k_St} {a j : Nat} {x : Int} {c i : Nat} : (k_sI σ a j x).2.1 c i = if c = a ∧ i = j then x else σ.2.1 c i := rfl
theorem y_st_p0 {σ : k_St} {d : Nat} {a k v x : Int} : k_sI (y_st σ d a k v) d 0 x = y_st σ d x k v := y_st_ext rfl (fun c j => by
  rw [k_sI_f, y_st_f, y_st_f]
  by_cases h1 : c = d ∧ j = 0
  · rw [if_pos h1, if_neg (by omega), if_neg (by omega), if_pos h1]
  · rw [if_neg h1]
    by_cases h2 : c = d ∧ j = 2
    · rw [if_pos h2, if_pos h2]
    · rw [if_neg h2, if_neg h2]
      by_cases h3 : c = d ∧ j = 1
      · rw [if_pos h3, if_pos h3]
      · rw [if_neg h3, if_neg h3, if_neg h1, if_neg h1]) rfl
theorem y_st_p1 {σ : k_St} {d : Nat} {a k v x : Int} : k_sI (y_st σ d a k v) d 1 x = y_st σ d a x v := y_st_ext rfl (fun c j => by
  rw [k_sI_f, y_st_f, y_st_f]
  by_cases h1 : c = d ∧ j = 1
  · rw [if_pos h1, if_neg (by omega), if_pos h1]
  · rw [if_neg h1]
    by_cases h2 : c = d ∧ j = 2
    · rw [if_pos h2, if_pos h2]
    · rw [if_neg h2, if_neg h2, if_neg h1, if_neg h1]) rfl
theorem y_st_p2 {σ : k_St} {d : Nat} {a k v x : Int} : k_sI (y_st σ d a k v) d 2 x = y_st σ d a k x := y_st_ext rfl (fun c j => by
  rw [k_sI_f, y_st_f, y_st_f]
  by_cases h1 : c = d ∧ j = 2
  · rw [if_pos h1, if_pos h1]
  · rw [if_neg h1, if_neg h1, if_neg h1]) rfl
theorem r_sgn_16 {σ : k_St} {a R : Nat} {row : Int} (h : r_wf σ a R) (i : Int) (hi : 16 ≤ i) : r_sgn σ a R row i = -9 := by
  unfold r_sgn; rw [if_neg]
  rintro ⟨h1, h2, h3, h4⟩
  have := h.1 row h1 h2; omega
set_option maxHeartbeats 4000000 in
theorem s_bbegin {G : j_G} {X : k_X} {n : Nat} {σ : k_St} {d : Nat} (hd : k_has X n d (.inr (.inr (1, [0, 0, 1])))) {i : Int} : k_run G X mX1_begin [.ref d, j_i i] n σ 0 0 (k_is n (y_st σ d i 0 0) none) := by
  refine k_enter (by decide +kernel) (Nat.le_of_ble_eq_true rfl) ?_
  show j_at _ _ _ [(0, .ref d), (1, j_i i)] [] _ _ _ _
  refine a_aload_n (pc := 0) (i := 0) (by decide +kernel) rfl ?_
  refine a_iload_n (pc := 1) (i := 1) (by decide +kernel) rfl ?_
  refine b_putI (pc := 2) fl_X1_9 (by decide +kernel) hd rfl rfl rfl ?_
  obtain ⟨σ1, hσ1⟩ : ∃ z, z = k_sI σ d 0 i := ⟨_, rfl⟩
  rw [← hσ1]
  refine a_aload_n (pc := 5) (i := 0) (by decide +kernel) rfl ?_
  refine a_iconst (pc := 6) (n := 0) (by decide +kernel) ?_
  refine b_putI (pc := 7) fl_X1_15 (by decide +kernel) hd rfl rfl rfl ?_
  obtain ⟨σ2, hσ2⟩ : ∃ z, z = k_sI σ1 d 1 0 := ⟨_, rfl⟩
  rw [← hσ2]
  refine a_aload_n (pc := 10) (i := 0) (by decide +kernel) rfl ?_
  refine a_lconst (pc := 11) (n := 0) (by decide +kernel) ?_
  show j_at _ _ _ [(0, .ref d), (1, j_i i)] [j_l 0, .ref d] _ _ _ _
  refine b_putL (pc := 12) fl_X1_18 (by decide +kernel) hd rfl rfl rfl ?_
  obtain ⟨σ3, hσ3⟩ : ∃ z, z = k_sI σ2 d 2 0 := ⟨_, rfl⟩
  rw [← hσ3]
  refine a_return (pc := 15) (by decide +kernel) rfl ?_
  refine k_ret ?_
  subst hσ3; subst hσ2; subst hσ1; exact ⟨rfl, rfl, rfl⟩
set_option maxHeartbeats 4000000 in
theorem l_readNumber {G : j_G} {X : k_X} {n : Nat} {σ : k_St} {d b R : Nat} (hd : k_has X n d (.inr (.inr (1, [0, 0, 1])))) (hRb : r_at X n b R) (hwb : r_wf σ b R) {row : Int} (hrow : -2147483648 ≤ row ∧ row ≤ 2147483647)  : ∀ (m : Nat) (i v : Int), 16 - i < (m : Int) → 0 ≤ i → i ≤ 16 → 0 ≤ v → v < 10 ^ i.toNat → j_at G mX1_readNumber 10 [(0, .ref d), (1, .ref b), (2, j_i row)] [] (k_h X n (y_st σ d i 3 v)) 0 0 (k_Q X (k_is n (y_st σ d (f_num (r_sgn σ b R row) m i v).2 3 (f_num (r_sgn σ b R row) m i v).1) none)) := by
  intro m
  induction m with
  | zero => intro i v h1 h2 h3; exact absurd h3 (by omega)
  | succ m ih =>
    intro i v hm h0 hN hv0 hv1
    obtain ⟨g5, g30, gs0, gs1, gs2⟩ := id hRb
    obtain ⟨τ, hτ⟩ : ∃ z, z = y_st σ d i 3 v := ⟨_, rfl⟩
    rw [← hτ]
    have hwt : r_wf τ b R := by rw [hτ]; exact hwb
    have t0 : τ.2.1 d 0 = i := by rw [hτ]; exact y_st_0
    have t2 : τ.2.1 d 2 = v := by rw [hτ]; exact y_st_2
    have hsd := r_sgn_16 (row := row) hwb 16 (by omega)
    have es : ∀ {j : Int}, -2147483648 ≤ j ∧ j ≤ 2147483647 → k_run G X mX9_signAt [.ref b, j_i row, j_i j] n τ 0 0 (k_is n τ (some (j_i (r_sgn σ b R row j)))) := fun {j} hj => by
      have q := s_signAt (G := G) (X := X) hRb hwt hrow hj
      rw [show r_sgn τ b R row j = r_sgn σ b R row j by rw [hτ]; rfl] at q
      exact q
    refine a_aload_n (pc := 10) (i := 0) (by decide +kernel) rfl ?_
    refine b_getI (pc := 11) fl_X1_9 (by decide +kernel) hd rfl ?_
    rw [t0]
    refine a_bipush (pc := 14) (n := 16) (by decide +kernel) rfl ?_
    refine a_icmp_ge (pc := 16) (off := 58) (tgt := 74) (by decide +kernel) (by decide) (by omega) (by omega) (fun c16 => ?_) (fun c16 => ?_)
    · refine a_return (pc := 74) (by decide +kernel) rfl ?_
      refine k_ret ?_
      have e8 : f_num (r_sgn σ b R row) (m + 1) i v = (v, i) := if_neg (by first | exact p28 | (intro h9; rw [show i = 16 by omega, hsd] at h9; omega))
      rw [e8, hτ]; exact ⟨rfl, rfl, rfl⟩
    · refine a_aload_n (pc := 19) (i := 1) (by decide +kernel) rfl ?_
      refine a_iload_n (pc := 20) (i := 2) (by decide +kernel) rfl ?_
      refine a_aload_n (pc := 21) (i := 0) (by decide +kernel) rfl ?_
      refine b_getI (pc := 22) fl_X1_9 (by decide +kernel) hd rfl ?_
      rw [t0]
      refine b_pureV (pc := 25) [j_i row, j_i (i)] [] ml_X1_22 (by decide +kernel) rfl rfl gs0 rfl rfl (Nat.le_of_ble_eq_true rfl) (j_fitI rfl rfl) (es (by omega)) ?_
      have qs1 := r_sgn_in hwb row (i)
      show j_at _ _ _ [(0, .ref d), (1, .ref b), (2, j_i row)] [j_i (r_sgn σ b R row (i))] _ _ _ _
      refine b_callS (pc := 28) (c' := 0) (sl' := 0) [j_i (r_sgn σ b R row (i))] [] ml_X1_28 (by decide +kernel) rfl rfl (Nat.le_of_ble_eq_true rfl) (j_fitI rfl rfl) (s_isDigit (by omega)) (fun v n' σ' hq => ?_)
      obtain ⟨x, rfl, e1, e2, hx⟩ := hq
      rw [e1, e2]; clear e1 e2
      rcases hx with ⟨rfl, p28⟩ | ⟨rfl, p28⟩
      · show j_at _ _ _ [(0, .ref d), (1, .ref b), (2, j_i row)] [j_i 1] _ _ _ _
        refine a_if_eq (pc := 31) (off := 43) (tgt := 74) (by decide +kernel) (by decide) (by omega) (fun c31 => ?_) (fun c31 => ?_)
        · exact absurd c31 (by decide)
        · refine a_aload_n (pc := 34) (i := 0) (by decide +kernel) rfl ?_
          refine a_aload_n (pc := 35) (i := 0) (by decide +kernel) rfl ?_
          refine b_getL (pc := 36) fl_X1_18 (by decide +kernel) hd rfl ?_
          rw [t2]
          refine a_ldc2_w (pc := 39) (n := 10) (by decide +kernel) kc_X1_43 ?_
          refine a_lmul (pc := 42) (by decide +kernel) ?_
          refine a_aload_n (pc := 43) (i := 1) (by decide +kernel) rfl ?_
          refine a_iload_n (pc := 44) (i := 2) (by decide +kernel) rfl ?_
          refine a_aload_n (pc := 45) (i := 0) (by decide +kernel) rfl ?_
          refine b_getI (pc := 46) fl_X1_9 (by decide +kernel) hd rfl ?_
          rw [t0]
          refine b_pureV (pc := 49) [j_i row, j_i (i)] [j_l ((v) * 10), .ref d] ml_X1_22 (by decide +kernel) rfl rfl gs0 rfl rfl (Nat.le_of_ble_eq_true rfl) (j_fitI rfl rfl) (es (by omega)) ?_
          have qs2 := r_sgn_in hwb row (i)
          show j_at _ _ _ [(0, .ref d), (1, .ref b), (2, j_i row)] [j_i (r_sgn σ b R row (i)), j_l ((v) * 10), .ref d] _ _ _ _
          refine a_i2l (pc := 52) (v := Int64.ofInt (r_sgn σ b R row (i))) (by decide +kernel) (j_i2l (by omega)) ?_
          refine a_ladd (pc := 53) (by decide +kernel) ?_
          refine a_ldc2_w (pc := 54) (n := 48) (by decide +kernel) kc_X1_45 ?_
          refine a_lsub (pc := 57) (by decide +kernel) ?_
          refine b_putL (pc := 58) fl_X1_18 (by decide +kernel) hd rfl rfl rfl ?_
          obtain ⟨σ3, hσ3⟩ : ∃ z, z = k_sI τ d 2 ((((v) * 10) + (r_sgn σ b R row (i))) - 48) := ⟨_, rfl⟩
          rw [← hσ3]
          refine a_aload_n (pc := 61) (i := 0) (by decide +kernel) rfl ?_
          refine a_dup (pc := 62) (by decide +kernel) rfl ?_
          refine b_getI (pc := 63) fl_X1_9 (by decide +kernel) hd rfl ?_
          rw [show σ3.2.1 d 0 = i by rw [hσ3, k_IN (by omega)]; exact t0]
          refine a_iconst (pc := 66) (n := 1) (by decide +kernel) ?_
          refine a_iadd (pc := 67) (by decide +kernel) ?_
          refine b_putI (pc := 68) fl_X1_9 (by decide +kernel) hd rfl rfl rfl ?_
          obtain ⟨σ4, hσ4⟩ : ∃ z, z = k_sI σ3 d 0 ((i) + 1) := ⟨_, rfl⟩
          rw [← hσ4]
          refine a_goto (pc := 71) (off := -61) (tgt := 10) (by decide +kernel) (by decide) ?_
          have e9 : σ4 = y_st σ d (i + 1) 3 (v * 10 + r_sgn σ b R row i - 48) := by
            rw [hσ4, hσ3, hτ, y_st_p2, y_st_p0]
          rw [e9]
          have e8 : f_num (r_sgn σ b R row) (m + 1) i v = f_num (r_sgn σ b R row) m (i + 1) (v * 10 + r_sgn σ b R row i - 48) := if_pos p28
          rw [e8]
          have hp : (10 : Int) ^ (i + 1).toNat = 10 ^ i.toNat * 10 := by rw [show (i + 1).toNat = i.toNat + 1 by omega, Int.pow_succ]
          unfold f_digit at p28
          exact ih (i + 1) (v * 10 + r_sgn σ b R row i - 48) (by omega) (by omega) (by omega) (by omega) (by rw [hp]; omega)
      · show j_at _ _ _ [(0, .ref d), (1, .ref b), (2, j_i row)] [j_i 0] _ _ _ _
        refine a_if_eq (pc := 31) (off := 43) (tgt := 74) (by decide +kernel) (by decide) (by omega) (fun c31 => ?_) (fun c31 => ?_)
        · refine a_return (pc := 74) (by decide +kernel) rfl ?_
          refine k_ret ?_
          have e8 : f_num (r_sgn σ b R row) (m + 1) i v = (v, i) := if_neg (by first | exact p28 | (intro h9; rw [show i = 16 by omega, hsd] at h9; omega))
          rw [e8, hτ]; exact ⟨rfl, rfl, rfl⟩
        · exact absurd c31 (by decide)
