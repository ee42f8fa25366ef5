def p10 (k : Int) : Int := 10 ^ k.toNat
theorem p10_s {k : Int} (h : 0 ≤ k) : p10 (k + 1) = p10 k * 10 := by unfold p10; rw [show (k + 1).toNat = k.toNat + 1 by omega, Int.pow_succ]
theorem p10_le : ∀ k : Nat, k < 7 → 1 ≤ (10 : Int) ^ k ∧ (10 : Int) ^ k ≤ 1000000 := by decide
theorem p10_in {k : Int} (h : k ≤ 6) : 1 ≤ p10 k ∧ p10 k ≤ 1000000 := p10_le _ (by omega)
/-- how many digits there are beyond the first -/
def f_dm : Nat → Int → Int
  | 0, _ => 0
  | m + 1, x => if x ≤ 9 then 0 else f_dm m (x / 10) + 1
theorem f_dm_in : ∀ (m : Nat) (x : Int), 0 ≤ f_dm m x ∧ f_dm m x ≤ m
  | 0, x => by simp [f_dm]
  | m + 1, x => by have := f_dm_in m (x / 10); unfold f_dm; split <;> omega
theorem f_dm_lt : ∀ {m : Nat} {x : Int}, 0 ≤ x → x < 10 ^ (m + 1) → x < p10 (f_dm m x + 1)
  | 0, x, h0, h1 => by simpa [f_dm, p10] using h1
  | m + 1, x, h0, h1 => by
    unfold f_dm
    split
    · show x < 10 ^ 1; omega
    · have hx : x / 10 < 10 ^ (m + 1) := by
        rw [Int.pow_succ] at h1
        exact Int.ediv_lt_of_lt_mul (by omega) h1
      have i := f_dm_lt (m := m) (x := x / 10) (by omega) hx
      have := f_dm_in m (x / 10)
      rw [p10_s (by omega)]
      omega
theorem ten_div {a b k : Int} (h0 : 0 ≤ k) (h : a / p10 k = b / p10 k) : a / p10 (k + 1) = b / p10 (k + 1) := by
  have hp : 0 ≤ p10 k := by unfold p10; exact Int.le_of_lt (Int.pow_pos (by omega))
  rw [p10_s h0, ← Int.ediv_ediv_of_nonneg hp, ← Int.ediv_ediv_of_nonneg hp, h]
theorem ten_div2 {a b : Int} : ∀ {j : Nat} {k : Int}, 0 ≤ k → a / p10 k = b / p10 k → a / p10 (k + j) = b / p10 (k + j)
  | 0, k, _, h => by rw [show k + ((0 : Nat) : Int) = k by omega]; exact h
  | j + 1, k, h0, h => by
    have := ten_div2 (j := j) (k := k + 1) (by omega) (ten_div h0 h)
    rw [show k + ((j + 1 : Nat) : Int) = k + 1 + (j : Int) by omega]; exact this
theorem ten_mon {a b k j : Int} (h0 : 0 ≤ k) (hj : k ≤ j) (h : a / p10 k = b / p10 k) : a / p10 j = b / p10 j := by
  have := ten_div2 (j := (j - k).toNat) h0 h
  rw [show k + (((j - k).toNat : Nat) : Int) = j by omega] at this; exact this
theorem sub_mod {a b k : Int} (hk : k ≤ 6) : a - a % p10 k = b - b % p10 k ↔ a / p10 k = b / p10 k := by
  have hp := p10_in hk
  have e1 := Int.mul_ediv_add_emod a (p10 k)
  have e2 := Int.mul_ediv_add_emod b (p10 k)
  constructor
  · intro h
    have : p10 k * (a / p10 k) = p10 k * (b / p10 k) := by omega
    exact Int.eq_of_mul_eq_mul_left (by omega) this
  · intro h
    rw [h] at e1; omega
set_option maxHeartbeats 4000000 in
theorem l_cdig {G : j_G} {X : k_X} {n : Nat} {σ : k_St} {x : Int} (hx : 0 ≤ x ∧ x ≤ 999999) {z : Int}  : ∀ (m : Nat) (y d : Int), (0 ≤ y ∧ y ≤ 999999) → y < 10 ^ m → (0 ≤ y → z = d + f_dm m y) → j_at G mX11_digitsOf 7 [(0, j_i x), (1, j_i d), (2, j_i (y / 10))] [] (k_h X n σ) 0 0 (k_Q X (k_is n σ (some (j_i z)))) := by
  intro m
  induction m with
  | zero =>
    intro y d hy hm hr
    have hy0 : y = 0 := by simp at hm; omega
    subst hy0
    refine a_iload_n (pc := 7) (i := 2) (by decide +kernel) rfl ?_
    refine a_if_le (pc := 8) (off := 14) (tgt := 22) (by decide +kernel) (by decide) (by omega) (fun c8 => ?_) (fun c8 => ?_)
    · refine a_iload_n (pc := 22) (i := 1) (by decide +kernel) rfl ?_
      refine a_ireturn (pc := 23) (by decide +kernel) rfl ?_
      refine k_ret ?_
      refine ⟨?_, rfl, rfl⟩
      rw [hr (by omega)]; show _ = some (j_i (d + 0)); rw [show d + 0 = d by omega]
    · exfalso; omega
  | succ m ih =>
    intro y d hy hm hr
    have hm2 : y / 10 < 10 ^ m := by rw [Int.pow_succ] at hm; exact Int.ediv_lt_of_lt_mul (by omega) hm
    refine a_iload_n (pc := 7) (i := 2) (by decide +kernel) rfl ?_
    refine a_if_le (pc := 8) (off := 14) (tgt := 22) (by decide +kernel) (by decide) (by omega) (fun c8 => ?_) (fun c8 => ?_)
    · refine a_iload_n (pc := 22) (i := 1) (by decide +kernel) rfl ?_
      refine a_ireturn (pc := 23) (by decide +kernel) rfl ?_
      refine k_ret ?_
      refine ⟨?_, rfl, rfl⟩
      rw [hr (by omega)]
      show _ = some (j_i (d + (if y ≤ 9 then 0 else f_dm m (y / 10) + 1)))
      rw [if_pos (by omega), show d + 0 = d by omega]
    · refine a_iinc (pc := 11) (i := 1) (n := 1) (x := d) (lv' := [(0, j_i x), (1, j_i (d + 1)), (2, j_i (y / 10))]) (by decide +kernel) rfl (Nat.le_of_ble_eq_true rfl) rfl ?_
      refine a_iload_n (pc := 14) (i := 2) (by decide +kernel) rfl ?_
      refine a_bipush (pc := 15) (n := 10) (by decide +kernel) rfl ?_
      refine a_idiv (pc := 17) (by decide +kernel) (by omega) (by omega) ?_
      refine a_istore_n (pc := 18) (i := 2) (lv' := [(0, j_i x), (1, j_i (d + 1)), (2, j_i ((y / 10) / 10))]) (by decide +kernel) (Nat.le_of_ble_eq_true rfl) rfl ?_
      refine a_goto (pc := 19) (off := -12) (tgt := 7) (by decide +kernel) (by decide) ?_
      exact ih (y / 10) (d + 1) (by omega) (by omega) (fun h => by rw [hr (by omega)]; show d + (if y ≤ 9 then 0 else f_dm m (y / 10) + 1) = _; rw [if_neg (by omega)]; omega)
set_option maxHeartbeats 4000000 in
theorem s_cdigits {G : j_G} {X : k_X} {n : Nat} {σ : k_St} {x : Int} (hx : 0 ≤ x ∧ x ≤ 999999)  : k_run G X mX11_digitsOf [j_i x] n σ 0 0 (k_is n σ (some (j_i (1 + f_dm 6 x)))) := by
  refine k_enter (by decide +kernel) (Nat.le_of_ble_eq_true rfl) ?_
  show j_at _ _ _ [(0, j_i x)] [] _ _ _ _
  refine a_iconst (pc := 0) (n := 1) (by decide +kernel) ?_
  refine a_istore_n (pc := 1) (i := 1) (lv' := [(0, j_i x), (1, j_i 1)]) (by decide +kernel) (Nat.le_of_ble_eq_true rfl) rfl ?_
  refine a_iload_n (pc := 2) (i := 0) (by decide +kernel) rfl ?_
  refine a_bipush (pc := 3) (n := 10) (by decide +kernel) rfl ?_
  refine a_idiv (pc := 5) (by decide +kernel) (by omega) (by omega) ?_
  refine a_istore_n (pc := 6) (i := 2) (lv' := [(0, j_i x), (1, j_i 1), (2, j_i (x / 10))]) (by decide +kernel) (Nat.le_of_ble_eq_true rfl) rfl ?_
  exact l_cdig hx 6 x 1 (by omega) (by omega) (fun _ => by omega)
set_option maxHeartbeats 4000000 in
theorem l_ddig {G : j_G} {X : k_X} {n : Nat} {σ : k_St} {x : Int} (hx : 0 ≤ x ∧ x ≤ 999999) {z : Int}  : ∀ (m : Nat) (y d : Int), (0 ≤ y ∧ y ≤ 999999) → y < 10 ^ m → (0 ≤ y → z = d + f_dm m y) → j_at G mX12_digitsOf 4 [(0, j_i x), (1, j_i d), (2, j_i y)] [] (k_h X n σ) 0 0 (k_Q X (k_is n σ (some (j_i z)))) := by
  intro m
  induction m with
  | zero =>
    intro y d hy hm hr
    have hy0 : y = 0 := by simp at hm; omega
    subst hy0
    refine a_iload_n (pc := 4) (i := 2) (by decide +kernel) rfl ?_
    refine a_bipush (pc := 5) (n := 9) (by decide +kernel) rfl ?_
    refine a_icmp_le (pc := 7) (off := 14) (tgt := 21) (by decide +kernel) (by decide) (by omega) (by omega) (fun c7 => ?_) (fun c7 => ?_)
    · refine a_iload_n (pc := 21) (i := 1) (by decide +kernel) rfl ?_
      refine a_ireturn (pc := 22) (by decide +kernel) rfl ?_
      refine k_ret ?_
      refine ⟨?_, rfl, rfl⟩
      rw [hr (by omega)]; show _ = some (j_i (d + 0)); rw [show d + 0 = d by omega]
    · exact absurd c7 (by decide)
  | succ m ih =>
    intro y d hy hm hr
    have hm2 : y / 10 < 10 ^ m := by rw [Int.pow_succ] at hm; exact Int.ediv_lt_of_lt_mul (by omega) hm
    refine a_iload_n (pc := 4) (i := 2) (by decide +kernel) rfl ?_
    refine a_bipush (pc := 5) (n := 9) (by decide +kernel) rfl ?_
    refine a_icmp_le (pc := 7) (off := 14) (tgt := 21) (by decide +kernel) (by decide) (by omega) (by omega) (fun c7 => ?_) (fun c7 => ?_)
    · refine a_iload_n (pc := 21) (i := 1) (by decide +kernel) rfl ?_
      refine a_ireturn (pc := 22) (by decide +kernel) rfl ?_
      refine k_ret ?_
      refine ⟨?_, rfl, rfl⟩
      rw [hr (by omega)]
      show _ = some (j_i (d + (if y ≤ 9 then 0 else f_dm m (y / 10) + 1)))
      rw [if_pos (by omega), show d + 0 = d by omega]
    · refine a_iinc (pc := 10) (i := 1) (n := 1) (x := d) (lv' := [(0, j_i x), (1, j_i (d + 1)), (2, j_i y)]) (by decide +kernel) rfl (Nat.le_of_ble_eq_true rfl) rfl ?_
      refine a_iload_n (pc := 13) (i := 2) (by decide +kernel) rfl ?_
      refine a_bipush (pc := 14) (n := 10) (by decide +kernel) rfl ?_
      refine a_idiv (pc := 16) (by decide +kernel) (by omega) (by omega) ?_
      refine a_istore_n (pc := 17) (i := 2) (lv' := [(0, j_i x), (1, j_i (d + 1)), (2, j_i (y / 10))]) (by decide +kernel) (Nat.le_of_ble_eq_true rfl) rfl ?_
      refine a_goto (pc := 18) (off := -14) (tgt := 4) (by decide +kernel) (by decide) ?_
      exact ih (y / 10) (d + 1) (by omega) (by omega) (fun h => by rw [hr (by omega)]; show d + (if y ≤ 9 then 0 else f_dm m (y / 10) + 1) = _; rw [if_neg (by omega)]; omega)
set_option maxHeartbeats 4000000 in
theorem s_ddigits {G : j_G} {X : k_X} {n : Nat} {σ : k_St} {x : Int} (hx : 0 ≤ x ∧ x ≤ 999999)  : k_run G X mX12_digitsOf [j_i x] n σ 0 0 (k_is n σ (some (j_i (1 + f_dm 6 x)))) := by
  refine k_enter (by decide +kernel) (Nat.le_of_ble_eq_true rfl) ?_
  show j_at _ _ _ [(0, j_i x)] [] _ _ _ _
  refine a_iconst (pc := 0) (n := 1) (by decide +kernel) ?_
  refine a_istore_n (pc := 1) (i := 1) (lv' := [(0, j_i x), (1, j_i 1)]) (by decide +kernel) (Nat.le_of_ble_eq_true rfl) rfl ?_
  refine a_iload_n (pc := 2) (i := 0) (by decide +kernel) rfl ?_
  refine a_istore_n (pc := 3) (i := 2) (lv' := [(0, j_i x), (1, j_i 1), (2, j_i x)]) (by decide +kernel) (Nat.le_of_ble_eq_true rfl) rfl ?_
  exact l_ddig hx 6 x 1 (by omega) (by omega) (fun _ => by omega)
set_option maxHeartbeats 4000000 in
theorem l_clast {G : j_G} {X : k_X} {n : Nat} {σ : k_St} {x d : Int} (hx : 0 ≤ x ∧ x ≤ 999999) (hd : 0 ≤ d ∧ d ≤ 6)  : ∀ (m : Nat) (k u : Int), d - k < (m : Int) → 0 ≤ k → k ≤ d → u = p10 k → j_at G mX11_lastDigits 4 [(0, j_i x), (1, j_i d), (2, j_i u), (3, j_i k)] [] (k_h X n σ) 0 0 (k_Q X (k_is n σ (some (j_i (x % p10 d))))) := by
  intro m
  induction m with
  | zero => intro k u h1 h2 h3; exact absurd h1 (by omega)
  | succ m ih =>
    intro k u hm h0 hN hu
    have hu9 := p10_in (show k ≤ 6 by omega)
    rw [← hu] at hu9
    refine a_iload_n (pc := 4) (i := 3) (by decide +kernel) rfl ?_
    refine a_iload_n (pc := 5) (i := 1) (by decide +kernel) rfl ?_
    refine a_icmp_ge (pc := 6) (off := 20) (tgt := 26) (by decide +kernel) (by decide) (by omega) (by omega) (fun c6 => ?_) (fun c6 => ?_)
    · refine a_iload_n (pc := 26) (i := 0) (by decide +kernel) rfl ?_
      refine a_iload_n (pc := 27) (i := 2) (by decide +kernel) rfl ?_
      refine a_irem (pc := 28) (by decide +kernel) (by omega) (by omega) ?_
      refine a_ireturn (pc := 29) (by decide +kernel) rfl ?_
      refine k_ret ?_
      exact ⟨by rw [hu, show k = d by omega], rfl, rfl⟩
    · refine a_iload_n (pc := 9) (i := 3) (by decide +kernel) rfl ?_
      refine a_bipush (pc := 10) (n := 6) (by decide +kernel) rfl ?_
      refine a_icmp_ge (pc := 12) (off := 14) (tgt := 26) (by decide +kernel) (by decide) (by omega) (by omega) (fun c12 => ?_) (fun c12 => ?_)
      · refine a_iload_n (pc := 26) (i := 0) (by decide +kernel) rfl ?_
        refine a_iload_n (pc := 27) (i := 2) (by decide +kernel) rfl ?_
        refine a_irem (pc := 28) (by decide +kernel) (by omega) (by omega) ?_
        refine a_ireturn (pc := 29) (by decide +kernel) rfl ?_
        refine k_ret ?_
        exact ⟨by rw [hu, show k = d by omega], rfl, rfl⟩
      · refine a_iload_n (pc := 15) (i := 2) (by decide +kernel) rfl ?_
        refine a_bipush (pc := 16) (n := 10) (by decide +kernel) rfl ?_
        refine a_imul (pc := 18) (by decide +kernel) ?_
        refine a_istore_n (pc := 19) (i := 2) (lv' := [(0, j_i x), (1, j_i d), (2, j_i (u * 10)), (3, j_i k)]) (by decide +kernel) (Nat.le_of_ble_eq_true rfl) rfl ?_
        refine a_iinc (pc := 20) (i := 3) (n := 1) (x := k) (lv' := [(0, j_i x), (1, j_i d), (2, j_i (u * 10)), (3, j_i (k + 1))]) (by decide +kernel) rfl (Nat.le_of_ble_eq_true rfl) rfl ?_
        refine a_goto (pc := 23) (off := -19) (tgt := 4) (by decide +kernel) (by decide) ?_
        exact ih (k + 1) (u * 10) (by omega) (by omega) (by omega) (by rw [hu, p10_s h0])
set_option maxHeartbeats 4000000 in
theorem s_clast {G : j_G} {X : k_X} {n : Nat} {σ : k_St} {x d : Int} (hx : 0 ≤ x ∧ x ≤ 999999) (hd : 0 ≤ d ∧ d ≤ 6)  : k_run G X mX11_lastDigits [j_i x, j_i d] n σ 0 0 (k_is n σ (some (j_i (x % p10 d)))) := by
  refine k_enter (by decide +kernel) (Nat.le_of_ble_eq_true rfl) ?_
  show j_at _ _ _ [(0, j_i x), (1, j_i d)] [] _ _ _ _
  refine a_iconst (pc := 0) (n := 1) (by decide +kernel) ?_
  refine a_istore_n (pc := 1) (i := 2) (lv' := [(0, j_i x), (1, j_i d), (2, j_i 1)]) (by decide +kernel) (Nat.le_of_ble_eq_true rfl) rfl ?_
  refine a_iconst (pc := 2) (n := 0) (by decide +kernel) ?_
  refine a_istore_n (pc := 3) (i := 3) (lv' := [(0, j_i x), (1, j_i d), (2, j_i 1), (3, j_i 0)]) (by decide +kernel) (Nat.le_of_ble_eq_true rfl) rfl ?_
  exact l_clast hx hd 7 0 1 (by omega) (by omega) (by omega) rfl
set_option maxHeartbeats 4000000 in
theorem l_dten {G : j_G} {X : k_X} {n : Nat} {σ : k_St} {d : Int} (hd : 0 ≤ d ∧ d ≤ 6)  : ∀ (m : Nat) (k u : Int), d - k < (m : Int) → 0 ≤ k → k ≤ d → u = p10 k → j_at G mX12_tenTo 4 [(0, j_i d), (1, j_i u), (2, j_i k)] [] (k_h X n σ) 0 0 (k_Q X (k_is n σ (some (j_i (p10 d))))) := by
  intro m
  induction m with
  | zero => intro k u h1 h2 h3; exact absurd h1 (by omega)
  | succ m ih =>
    intro k u hm h0 hN hu
    have hu9 := p10_in (show k ≤ 6 by omega)
    rw [← hu] at hu9
    refine a_iload_n (pc := 4) (i := 2) (by decide +kernel) rfl ?_
    refine a_iload_n (pc := 5) (i := 0) (by decide +kernel) rfl ?_
    refine a_icmp_ge (pc := 6) (off := 14) (tgt := 20) (by decide +kernel) (by decide) (by omega) (by omega) (fun c6 => ?_) (fun c6 => ?_)
    · refine a_iload_n (pc := 20) (i := 1) (by decide +kernel) rfl ?_
      refine a_ireturn (pc := 21) (by decide +kernel) rfl ?_
      refine k_ret ?_
      exact ⟨by rw [hu, show k = d by omega], rfl, rfl⟩
    · refine a_iload_n (pc := 9) (i := 1) (by decide +kernel) rfl ?_
      refine a_bipush (pc := 10) (n := 10) (by decide +kernel) rfl ?_
      refine a_imul (pc := 12) (by decide +kernel) ?_
      refine a_istore_n (pc := 13) (i := 1) (lv' := [(0, j_i d), (1, j_i (u * 10)), (2, j_i k)]) (by decide +kernel) (Nat.le_of_ble_eq_true rfl) rfl ?_
      refine a_iinc (pc := 14) (i := 2) (n := 1) (x := k) (lv' := [(0, j_i d), (1, j_i (u * 10)), (2, j_i (k + 1))]) (by decide +kernel) rfl (Nat.le_of_ble_eq_true rfl) rfl ?_
      refine a_goto (pc := 17) (off := -13) (tgt := 4) (by decide +kernel) (by decide) ?_
      exact ih (k + 1) (u * 10) (by omega) (by omega) (by omega) (by rw [hu, p10_s h0])
set_option maxHeartbeats 4000000 in
theorem s_dten {G : j_G} {X : k_X} {n : Nat} {σ : k_St} {d : Int} (hd : 0 ≤ d ∧ d ≤ 6)  : k_run G X mX12_tenTo [j_i d] n σ 0 0 (k_is n σ (some (j_i (p10 d)))) := by
  refine k_enter (by decide +kernel) (Nat.le_of_ble_eq_true rfl) ?_
  show j_at _ _ _ [(0, j_i d)] [] _ _ _ _
  refine a_iconst (pc := 0) (n := 1) (by decide +kernel) ?_
  refine a_istore_n (pc := 1) (i := 1) (lv' := [(0, j_i d), (1, j_i 1)]) (by decide +kernel) (Nat.le_of_ble_eq_true rfl) rfl ?_
  refine a_iconst (pc := 2) (n := 0) (by decide +kernel) ?_
  refine a_istore_n (pc := 3) (i := 2) (lv' := [(0, j_i d), (1, j_i 1), (2, j_i 0)]) (by decide +kernel) (Nat.le_of_ble_eq_true rfl) rfl ?_
  exact l_dten hd 7 0 1 (by omega) (by omega) (by omega) rfl
def un_P (a b m d : Int) : Prop := (0 ≤ d ∧ d ≤ m) ∧ (∀ j, d ≤ j → j < m → a / p10 j = b / p10 j) ∧ (d = 0 ∨ a / p10 (d - 1) ≠ b / p10 (d - 1))
set_option maxHeartbeats 4000000 in
theorem l_cunl {G : j_G} {X : k_X} {n : Nat} {σ : k_St} {a b : Int} (ha : 0 ≤ a ∧ a ≤ 999999) (hb : 0 ≤ b ∧ b ≤ 999999)  : ∀ (m : Nat) (k d : Int), 7 - k < (m : Int) → 1 ≤ k → k ≤ 7 → un_P a b (k - 1) d → j_at G mX11_unlikeDigits 4 [(0, j_i a), (1, j_i b), (2, j_i d), (3, j_i k)] [] (k_h X n σ) 0 0 (k_Q X (k_ex n σ (un_P a b 6))) := by
  intro m
  induction m with
  | zero => intro k d h1 h2 h3; exact absurd h1 (by omega)
  | succ m ih =>
    intro k d hm h0 hN hU
    have hd9 := hU.1
    refine a_iload_n (pc := 4) (i := 3) (by decide +kernel) rfl ?_
    refine a_bipush (pc := 5) (n := 6) (by decide +kernel) rfl ?_
    refine a_icmp_gt (pc := 7) (off := 32) (tgt := 39) (by decide +kernel) (by decide) (by omega) (by omega) (fun c7 => ?_) (fun c7 => ?_)
    · refine a_iload_n (pc := 39) (i := 2) (by decide +kernel) rfl ?_
      refine a_ireturn (pc := 40) (by decide +kernel) rfl ?_
      refine k_ret ?_
      exact ⟨_, rfl, rfl, rfl, by rw [show k - 1 = 6 by omega] at hU; exact hU⟩
    · refine a_iload_n (pc := 10) (i := 0) (by decide +kernel) rfl ?_
      refine a_iload_n (pc := 11) (i := 0) (by decide +kernel) rfl ?_
      refine a_iload_n (pc := 12) (i := 3) (by decide +kernel) rfl ?_
      refine a_iconst (pc := 13) (n := 1) (by decide +kernel) ?_
      refine a_isub (pc := 14) (by decide +kernel) ?_
      refine b_pureS (pc := 15) [j_i a, j_i (k - 1)] [j_i a] ml_X11_358 (by decide +kernel) rfl rfl (Nat.le_of_ble_eq_true rfl) (j_fitI rfl rfl) (s_clast (by omega) (by omega)) ?_
      have za := Int.emod_nonneg a (show p10 (k - 1) ≠ 0 by have := p10_in (show k - 1 ≤ 6 by omega); omega)
      have ya := Int.emod_lt_of_pos a (show 0 < p10 (k - 1) by have := p10_in (show k - 1 ≤ 6 by omega); omega)
      have hp9 := p10_in (show k - 1 ≤ 6 by omega)
      show j_at _ _ _ [(0, j_i a), (1, j_i b), (2, j_i d), (3, j_i k)] [j_i (a % p10 (k - 1)), j_i a] _ _ _ _
      refine a_isub (pc := 18) (by decide +kernel) ?_
      refine a_iload_n (pc := 19) (i := 1) (by decide +kernel) rfl ?_
      refine a_iload_n (pc := 20) (i := 1) (by decide +kernel) rfl ?_
      refine a_iload_n (pc := 21) (i := 3) (by decide +kernel) rfl ?_
      refine a_iconst (pc := 22) (n := 1) (by decide +kernel) ?_
      refine a_isub (pc := 23) (by decide +kernel) ?_
      refine b_pureS (pc := 24) [j_i b, j_i (k - 1)] [j_i b, j_i (a - (a % p10 (k - 1)))] ml_X11_358 (by decide +kernel) rfl rfl (Nat.le_of_ble_eq_true rfl) (j_fitI rfl rfl) (s_clast (by omega) (by omega)) ?_
      have zb := Int.emod_nonneg b (show p10 (k - 1) ≠ 0 by have := p10_in (show k - 1 ≤ 6 by omega); omega)
      have yb := Int.emod_lt_of_pos b (show 0 < p10 (k - 1) by have := p10_in (show k - 1 ≤ 6 by omega); omega)
      have hp9 := p10_in (show k - 1 ≤ 6 by omega)
      show j_at _ _ _ [(0, j_i a), (1, j_i b), (2, j_i d), (3, j_i k)] [j_i (b % p10 (k - 1)), j_i b, j_i (a - (a % p10 (k - 1)))] _ _ _ _
      refine a_isub (pc := 27) (by decide +kernel) ?_
      refine a_icmp_eq (pc := 28) (off := 5) (tgt := 33) (by decide +kernel) (by decide) (by omega) (by omega) (fun c28 => ?_) (fun c28 => ?_)
      · refine a_iinc (pc := 33) (i := 3) (n := 1) (x := k) (lv' := [(0, j_i a), (1, j_i b), (2, j_i d), (3, j_i (k + 1))]) (by decide +kernel) rfl (Nat.le_of_ble_eq_true rfl) rfl ?_
        refine a_goto (pc := 36) (off := -32) (tgt := 4) (by decide +kernel) (by decide) ?_
        have c28' := (sub_mod (show k - 1 ≤ 6 by omega)).mp c28
        exact ih (k + 1) d (by omega) (by omega) (by omega) ⟨⟨hU.1.1, by omega⟩, fun j j0 j1 => by by_cases g : j = k - 1; rw [g]; exact c28'; exact hU.2.1 j j0 (by omega), hU.2.2⟩
      · refine a_iload_n (pc := 31) (i := 3) (by decide +kernel) rfl ?_
        refine a_istore_n (pc := 32) (i := 2) (lv' := [(0, j_i a), (1, j_i b), (2, j_i k), (3, j_i k)]) (by decide +kernel) (Nat.le_of_ble_eq_true rfl) rfl ?_
        refine a_iinc (pc := 33) (i := 3) (n := 1) (x := k) (lv' := [(0, j_i a), (1, j_i b), (2, j_i k), (3, j_i (k + 1))]) (by decide +kernel) rfl (Nat.le_of_ble_eq_true rfl) rfl ?_
        refine a_goto (pc := 36) (off := -32) (tgt := 4) (by decide +kernel) (by decide) ?_
        have c28' : a / p10 (k - 1) ≠ b / p10 (k - 1) := fun g => c28 ((sub_mod (show k - 1 ≤ 6 by omega)).mpr g)
        exact ih (k + 1) k (by omega) (by omega) (by omega) ⟨⟨by omega, by omega⟩, fun j j0 j1 => absurd j0 (by omega), Or.inr c28'⟩
set_option maxHeartbeats 4000000 in
theorem s_cunl {G : j_G} {X : k_X} {n : Nat} {σ : k_St} {a b : Int} (ha : 0 ≤ a ∧ a ≤ 999999) (hb : 0 ≤ b ∧ b ≤ 999999)  : k_run G X mX11_unlikeDigits [j_i a, j_i b] n σ 0 0 (k_ex n σ (un_P a b 6)) := by
  refine k_enter (by decide +kernel) (Nat.le_of_ble_eq_true rfl) ?_
  show j_at _ _ _ [(0, j_i a), (1, j_i b)] [] _ _ _ _
  refine a_iconst (pc := 0) (n := 0) (by decide +kernel) ?_
  refine a_istore_n (pc := 1) (i := 2) (lv' := [(0, j_i a), (1, j_i b), (2, j_i 0)]) (by decide +kernel) (Nat.le_of_ble_eq_true rfl) rfl ?_
  refine a_iconst (pc := 2) (n := 1) (by decide +kernel) ?_
  refine a_istore_n (pc := 3) (i := 3) (lv' := [(0, j_i a), (1, j_i b), (2, j_i 0), (3, j_i 1)]) (by decide +kernel) (Nat.le_of_ble_eq_true rfl) rfl ?_
  exact l_cunl ha hb 7 1 0 (by omega) (by omega) (by omega) ⟨⟨by omega, by omega⟩, fun j j0 j1 => absurd j0 (by omega), Or.inl rfl⟩
def uf_P (x s g r : Int) : Prop := (¬ ((1 ≤ x ∧ x ≤ 999999) ∧ (0 ≤ s ∧ s ≤ 999999) ∧ (1 ≤ g ∧ g ≤ 6)) ∧ r = -2) ∨ (((1 ≤ x ∧ x ≤ 999999) ∧ (0 ≤ s ∧ s ≤ 999999) ∧ (1 ≤ g ∧ g ≤ 6)) ∧ g < 1 + f_dm 6 s ∧ r = -2) ∨ (((1 ≤ x ∧ x ≤ 999999) ∧ (0 ≤ s ∧ s ≤ 999999) ∧ (1 ≤ g ∧ g ≤ 6)) ∧ 1 + f_dm 6 s ≤ g ∧ x ≤ s ∧ r = s) ∨ (((1 ≤ x ∧ x ≤ 999999) ∧ (0 ≤ s ∧ s ≤ 999999) ∧ (1 ≤ g ∧ g ≤ 6)) ∧ 1 + f_dm 6 s ≤ g ∧ s < x ∧ x - x % p10 g + s < x ∧ r = -3) ∨ (((1 ≤ x ∧ x ≤ 999999) ∧ (0 ≤ s ∧ s ≤ 999999) ∧ (1 ≤ g ∧ g ≤ 6)) ∧ 1 + f_dm 6 s ≤ g ∧ s < x ∧ x ≤ x - x % p10 g + s ∧ r = x - x % p10 g + s)
set_option maxHeartbeats 4000000 in
theorem c_unfold {G : j_G} {X : k_X} {n : Nat} {σ : k_St} (hR : RR n σ) {x : Int} (hx : -2147483648 ≤ x ∧ x ≤ 2147483647) {s : Int} (hs : -2147483648 ≤ s ∧ s ≤ 2147483647) {g : Int} (hg : -2147483648 ≤ g ∧ g ≤ 2147483647)  : k_run G X mX11_unfold [.ref 5, j_i x, j_i s, j_i g] n σ 0 0 (fun v n' σ' => ∃ r : Int, v = some (j_i r) ∧ n' = n ∧ σ' = σ ∧ uf_P x s g r) := by
  obtain ⟨hK, hAc, hNm, hPs, hPt, hSm, hIx⟩ := id hR
  have hn := RR_n hR
  have hk := hK.1
  have hwh : h_wf σ 8 := hk.2.1
  have hwm : m_wf σ 16 := hk.2.2
  have hW : 0 ≤ σ.2.1 6 1 ∧ σ.2.1 6 1 ≤ 300 := hk.1
  have hfl := hSm.1
  refine k_enter (by decide +kernel) (Nat.le_of_ble_eq_true rfl) ?_
  show j_at _ _ _ [(0, .ref 5), (1, j_i x), (2, j_i s), (3, j_i g)] [] _ _ _ _
  refine a_iload_n (pc := 0) (i := 1) (by decide +kernel) rfl ?_
  refine a_iconst (pc := 1) (n := 1) (by decide +kernel) ?_
  refine a_icmp_lt (pc := 2) (off := 40) (tgt := 42) (by decide +kernel) (by decide) (by omega) (by omega) (fun c2 => ?_) (fun c2 => ?_)
  · refine a_bipush (pc := 42) (n := (-2)) (by decide +kernel) rfl ?_
    refine a_ireturn (pc := 44) (by decide +kernel) rfl ?_
    refine k_ret ?_
    refine ⟨_, rfl, rfl, rfl, ?_⟩
    unfold uf_P
    first | exact Or.inl (by omega) | exact Or.inr (Or.inl (by omega)) | exact Or.inr (Or.inr (Or.inl (by omega))) | exact Or.inr (Or.inr (Or.inr (Or.inl (by omega)))) | exact Or.inr (Or.inr (Or.inr (Or.inr (by omega))))
  · refine a_iload_n (pc := 5) (i := 1) (by decide +kernel) rfl ?_
    refine a_ldc_w (pc := 6) (n := 999999) (by decide +kernel) kc_X11_343 ?_
    refine a_icmp_gt (pc := 9) (off := 33) (tgt := 42) (by decide +kernel) (by decide) (by omega) (by omega) (fun c9 => ?_) (fun c9 => ?_)
    · refine a_bipush (pc := 42) (n := (-2)) (by decide +kernel) rfl ?_
      refine a_ireturn (pc := 44) (by decide +kernel) rfl ?_
      refine k_ret ?_
      refine ⟨_, rfl, rfl, rfl, ?_⟩
      unfold uf_P
      first | exact Or.inl (by omega) | exact Or.inr (Or.inl (by omega)) | exact Or.inr (Or.inr (Or.inl (by omega))) | exact Or.inr (Or.inr (Or.inr (Or.inl (by omega)))) | exact Or.inr (Or.inr (Or.inr (Or.inr (by omega))))
    · refine a_iload_n (pc := 12) (i := 2) (by decide +kernel) rfl ?_
      refine a_if_lt (pc := 13) (off := 29) (tgt := 42) (by decide +kernel) (by decide) (by omega) (fun c13 => ?_) (fun c13 => ?_)
      · refine a_bipush (pc := 42) (n := (-2)) (by decide +kernel) rfl ?_
        refine a_ireturn (pc := 44) (by decide +kernel) rfl ?_
        refine k_ret ?_
        refine ⟨_, rfl, rfl, rfl, ?_⟩
        unfold uf_P
        first | exact Or.inl (by omega) | exact Or.inr (Or.inl (by omega)) | exact Or.inr (Or.inr (Or.inl (by omega))) | exact Or.inr (Or.inr (Or.inr (Or.inl (by omega)))) | exact Or.inr (Or.inr (Or.inr (Or.inr (by omega))))
      · refine a_iload_n (pc := 16) (i := 2) (by decide +kernel) rfl ?_
        refine a_ldc_w (pc := 17) (n := 999999) (by decide +kernel) kc_X11_343 ?_
        refine a_icmp_gt (pc := 20) (off := 22) (tgt := 42) (by decide +kernel) (by decide) (by omega) (by omega) (fun c20 => ?_) (fun c20 => ?_)
        · refine a_bipush (pc := 42) (n := (-2)) (by decide +kernel) rfl ?_
          refine a_ireturn (pc := 44) (by decide +kernel) rfl ?_
          refine k_ret ?_
          refine ⟨_, rfl, rfl, rfl, ?_⟩
          unfold uf_P
          first | exact Or.inl (by omega) | exact Or.inr (Or.inl (by omega)) | exact Or.inr (Or.inr (Or.inl (by omega))) | exact Or.inr (Or.inr (Or.inr (Or.inl (by omega)))) | exact Or.inr (Or.inr (Or.inr (Or.inr (by omega))))
        · refine a_iload_n (pc := 23) (i := 3) (by decide +kernel) rfl ?_
          refine a_iconst (pc := 24) (n := 1) (by decide +kernel) ?_
          refine a_icmp_lt (pc := 25) (off := 17) (tgt := 42) (by decide +kernel) (by decide) (by omega) (by omega) (fun c25 => ?_) (fun c25 => ?_)
          · refine a_bipush (pc := 42) (n := (-2)) (by decide +kernel) rfl ?_
            refine a_ireturn (pc := 44) (by decide +kernel) rfl ?_
            refine k_ret ?_
            refine ⟨_, rfl, rfl, rfl, ?_⟩
            unfold uf_P
            first | exact Or.inl (by omega) | exact Or.inr (Or.inl (by omega)) | exact Or.inr (Or.inr (Or.inl (by omega))) | exact Or.inr (Or.inr (Or.inr (Or.inl (by omega)))) | exact Or.inr (Or.inr (Or.inr (Or.inr (by omega))))
          · refine a_iload_n (pc := 28) (i := 3) (by decide +kernel) rfl ?_
            refine a_bipush (pc := 29) (n := 6) (by decide +kernel) rfl ?_
            refine a_icmp_gt (pc := 31) (off := 11) (tgt := 42) (by decide +kernel) (by decide) (by omega) (by omega) (fun c31 => ?_) (fun c31 => ?_)
            · refine a_bipush (pc := 42) (n := (-2)) (by decide +kernel) rfl ?_
              refine a_ireturn (pc := 44) (by decide +kernel) rfl ?_
              refine k_ret ?_
              refine ⟨_, rfl, rfl, rfl, ?_⟩
              unfold uf_P
              first | exact Or.inl (by omega) | exact Or.inr (Or.inl (by omega)) | exact Or.inr (Or.inr (Or.inl (by omega))) | exact Or.inr (Or.inr (Or.inr (Or.inl (by omega)))) | exact Or.inr (Or.inr (Or.inr (Or.inr (by omega))))
            · refine a_iload_n (pc := 34) (i := 2) (by decide +kernel) rfl ?_
              refine b_pureS (pc := 35) [j_i s] [] ml_X11_344 (by decide +kernel) rfl rfl (Nat.le_of_ble_eq_true rfl) (j_fitI rfl rfl) (s_cdigits (by omega)) ?_
              have qd := f_dm_in 6 s
              show j_at _ _ _ [(0, .ref 5), (1, j_i x), (2, j_i s), (3, j_i g)] [j_i (1 + f_dm 6 s)] _ _ _ _
              refine a_iload_n (pc := 38) (i := 3) (by decide +kernel) rfl ?_
              refine a_icmp_le (pc := 39) (off := 6) (tgt := 45) (by decide +kernel) (by decide) (by omega) (by omega) (fun c39 => ?_) (fun c39 => ?_)
              · refine a_iload_n (pc := 45) (i := 2) (by decide +kernel) rfl ?_
                refine a_iload_n (pc := 46) (i := 1) (by decide +kernel) rfl ?_
                refine a_icmp_lt (pc := 47) (off := 5) (tgt := 52) (by decide +kernel) (by decide) (by omega) (by omega) (fun c47 => ?_) (fun c47 => ?_)
                · refine a_iload_n (pc := 52) (i := 1) (by decide +kernel) rfl ?_
                  refine a_iload_n (pc := 53) (i := 1) (by decide +kernel) rfl ?_
                  refine a_iload_n (pc := 54) (i := 3) (by decide +kernel) rfl ?_
                  refine b_pureS (pc := 55) [j_i x, j_i g] [j_i x] ml_X11_358 (by decide +kernel) rfl rfl (Nat.le_of_ble_eq_true rfl) (j_fitI rfl rfl) (s_clast (by omega) (by omega)) ?_
                  have hp9 := p10_in (show g ≤ 6 by omega)
                  have hz1 := Int.emod_nonneg x (show p10 g ≠ 0 by omega)
                  have hz2 := Int.emod_lt_of_pos x (show 0 < p10 g by omega)
                  show j_at _ _ _ [(0, .ref 5), (1, j_i x), (2, j_i s), (3, j_i g)] [j_i (x % p10 g), j_i x] _ _ _ _
                  refine a_isub (pc := 58) (by decide +kernel) ?_
                  refine a_iload_n (pc := 59) (i := 2) (by decide +kernel) rfl ?_
                  refine a_iadd (pc := 60) (by decide +kernel) ?_
                  refine a_istore (pc := 61) (i := 4) (lv' := [(0, .ref 5), (1, j_i x), (2, j_i s), (3, j_i g), (4, j_i ((x - (x % p10 g)) + s))]) (by decide +kernel) (Nat.le_of_ble_eq_true rfl) rfl ?_
                  refine a_iload (pc := 63) (i := 4) (by decide +kernel) rfl ?_
                  refine a_iload_n (pc := 65) (i := 1) (by decide +kernel) rfl ?_
                  refine a_icmp_ge (pc := 66) (off := 8) (tgt := 74) (by decide +kernel) (by decide) (by omega) (by omega) (fun c66 => ?_) (fun c66 => ?_)
                  · refine a_iload (pc := 74) (i := 4) (by decide +kernel) rfl ?_
                    refine a_ireturn (pc := 76) (by decide +kernel) rfl ?_
                    refine k_ret ?_
                    refine ⟨_, rfl, rfl, rfl, ?_⟩
                    unfold uf_P
                    first | exact Or.inl (by omega) | exact Or.inr (Or.inl (by omega)) | exact Or.inr (Or.inr (Or.inl (by omega))) | exact Or.inr (Or.inr (Or.inr (Or.inl (by omega)))) | exact Or.inr (Or.inr (Or.inr (Or.inr (by omega))))
                  · refine a_bipush (pc := 69) (n := (-3)) (by decide +kernel) rfl ?_
                    refine a_goto (pc := 71) (off := 5) (tgt := 76) (by decide +kernel) (by decide) ?_
                    refine a_ireturn (pc := 76) (by decide +kernel) rfl ?_
                    refine k_ret ?_
                    refine ⟨_, rfl, rfl, rfl, ?_⟩
                    unfold uf_P
                    first | exact Or.inl (by omega) | exact Or.inr (Or.inl (by omega)) | exact Or.inr (Or.inr (Or.inl (by omega))) | exact Or.inr (Or.inr (Or.inr (Or.inl (by omega)))) | exact Or.inr (Or.inr (Or.inr (Or.inr (by omega))))
                · refine a_iload_n (pc := 50) (i := 2) (by decide +kernel) rfl ?_
                  refine a_ireturn (pc := 51) (by decide +kernel) rfl ?_
                  refine k_ret ?_
                  refine ⟨_, rfl, rfl, rfl, ?_⟩
                  unfold uf_P
                  first | exact Or.inl (by omega) | exact Or.inr (Or.inl (by omega)) | exact Or.inr (Or.inr (Or.inl (by omega))) | exact Or.inr (Or.inr (Or.inr (Or.inl (by omega)))) | exact Or.inr (Or.inr (Or.inr (Or.inr (by omega))))
              · refine a_bipush (pc := 42) (n := (-2)) (by decide +kernel) rfl ?_
                refine a_ireturn (pc := 44) (by decide +kernel) rfl ?_
                refine k_ret ?_
                refine ⟨_, rfl, rfl, rfl, ?_⟩
                unfold uf_P
                first | exact Or.inl (by omega) | exact Or.inr (Or.inl (by omega)) | exact Or.inr (Or.inr (Or.inl (by omega))) | exact Or.inr (Or.inr (Or.inr (Or.inl (by omega)))) | exact Or.inr (Or.inr (Or.inr (Or.inr (by omega))))
set_option maxHeartbeats 4000000 in
theorem d_unfold {G : j_G} {X : k_X} {n : Nat} {σ : k_St} (hR : RR n σ) {x : Int} (hx : -2147483648 ≤ x ∧ x ≤ 2147483647) {s : Int} (hs : -2147483648 ≤ s ∧ s ≤ 2147483647) {g : Int} (hg : -2147483648 ≤ g ∧ g ≤ 2147483647) {r : Int} (hP : uf_P x s g r)  : k_run G X mX12_unfold [.ref 68, j_i x, j_i s, j_i g] n σ 0 0 (fun v2 n2 σ2 => v2 = some (j_i r) ∧ RR n2 σ2) := by
  obtain ⟨hK, hAc, hNm, hPs, hPt, hSm, hIx⟩ := id hR
  have hn := RR_n hR
  have hk := hK.1
  have hwh : h_wf σ 8 := hk.2.1
  have hwm : m_wf σ 16 := hk.2.2
  have hW : 0 ≤ σ.2.1 6 1 ∧ σ.2.1 6 1 ≤ 300 := hk.1
  have hfl := hSm.1
  have hg := hK.2.2.2
  obtain ⟨⟨hgW, hgE, hgM⟩, hgh, hgm⟩ := KR_rg hk hK.2.1
  have hW0 : σ.2.1 6 1 = σ.1 69 0 := hK.2.1.1.1
  have hE0 : σ.2.1 8 3 = σ.1 69 301 := hK.2.1.2.1.1
  have hM0 : σ.2.1 16 5 = σ.1 69 1382 := hK.2.1.2.2.1
  have hfl8 : σ.2.1 68 11 = σ.2.1 5 10 := hSm.2.1
  refine k_enter (by decide +kernel) (Nat.le_of_ble_eq_true rfl) ?_
  show j_at _ _ _ [(0, .ref 68), (1, j_i x), (2, j_i s), (3, j_i g)] [] _ _ _ _
  refine a_iload_n (pc := 0) (i := 1) (by decide +kernel) rfl ?_
  refine a_iconst (pc := 1) (n := 1) (by decide +kernel) ?_
  refine a_ldc_w (pc := 2) (n := 999999) (by decide +kernel) kc_X12_392 ?_
  refine b_callS (pc := 5) (c' := 0) (sl' := 0) [j_i x, j_i 1, j_i 999999] [] ml_X12_128 (by decide +kernel) rfl rfl (Nat.le_of_ble_eq_true rfl) (j_fitI rfl rfl) (s_dwithin (by omega) (by omega) (by omega)) (fun v n' σ' hq => ?_)
  obtain ⟨x, rfl, e1, e2, hx⟩ := hq
  rw [e1, e2]; clear e1 e2
  rcases hx with ⟨rfl, p5⟩ | ⟨rfl, p5⟩
  · show j_at _ _ _ [(0, .ref 68), (1, j_i x), (2, j_i s), (3, j_i g)] [j_i 1] _ _ _ _
    refine a_if_eq (pc := 8) (off := 32) (tgt := 40) (by decide +kernel) (by decide) (by omega) (fun c8 => ?_) (fun c8 => ?_)
    · exact absurd c8 (by decide)
    · refine a_iload_n (pc := 11) (i := 2) (by decide +kernel) rfl ?_
      refine a_iconst (pc := 12) (n := 0) (by decide +kernel) ?_
      refine a_ldc_w (pc := 13) (n := 999999) (by decide +kernel) kc_X12_392 ?_
      refine b_callS (pc := 16) (c' := 0) (sl' := 0) [j_i s, j_i 0, j_i 999999] [] ml_X12_128 (by decide +kernel) rfl rfl (Nat.le_of_ble_eq_true rfl) (j_fitI rfl rfl) (s_dwithin (by omega) (by omega) (by omega)) (fun v n' σ' hq => ?_)
      obtain ⟨x, rfl, e1, e2, hx⟩ := hq
      rw [e1, e2]; clear e1 e2
      rcases hx with ⟨rfl, p16⟩ | ⟨rfl, p16⟩
      · show j_at _ _ _ [(0, .ref 68), (1, j_i x), (2, j_i s), (3, j_i g)] [j_i 1] _ _ _ _
        refine a_if_eq (pc := 19) (off := 21) (tgt := 40) (by decide +kernel) (by decide) (by omega) (fun c19 => ?_) (fun c19 => ?_)
        · exact absurd c19 (by decide)
        · refine a_iload_n (pc := 22) (i := 3) (by decide +kernel) rfl ?_
          refine a_iconst (pc := 23) (n := 1) (by decide +kernel) ?_
          refine a_bipush (pc := 24) (n := 6) (by decide +kernel) rfl ?_
          refine b_callS (pc := 26) (c' := 0) (sl' := 0) [j_i g, j_i 1, j_i 6] [] ml_X12_128 (by decide +kernel) rfl rfl (Nat.le_of_ble_eq_true rfl) (j_fitI rfl rfl) (s_dwithin (by omega) (by omega) (by omega)) (fun v n' σ' hq => ?_)
          obtain ⟨x, rfl, e1, e2, hx⟩ := hq
          rw [e1, e2]; clear e1 e2
          rcases hx with ⟨rfl, p26⟩ | ⟨rfl, p26⟩
          · show j_at _ _ _ [(0, .ref 68), (1, j_i x), (2, j_i s), (3, j_i g)] [j_i 1] _ _ _ _
            refine a_if_eq (pc := 29) (off := 11) (tgt := 40) (by decide +kernel) (by decide) (by omega) (fun c29 => ?_) (fun c29 => ?_)
            · exact absurd c29 (by decide)
            · refine a_iload_n (pc := 32) (i := 3) (by decide +kernel) rfl ?_
              refine a_iload_n (pc := 33) (i := 2) (by decide +kernel) rfl ?_
              refine b_pureS (pc := 34) [j_i s] [j_i g] ml_X12_393 (by decide +kernel) rfl rfl (Nat.le_of_ble_eq_true rfl) (j_fitI rfl rfl) (s_ddigits (by omega)) ?_
              have qd := f_dm_in 6 s
              show j_at _ _ _ [(0, .ref 68), (1, j_i x), (2, j_i s), (3, j_i g)] [j_i (1 + f_dm 6 s), j_i g] _ _ _ _
              refine a_icmp_ge (pc := 37) (off := 6) (tgt := 43) (by decide +kernel) (by decide) (by omega) (by omega) (fun c37 => ?_) (fun c37 => ?_)
              · refine a_iload_n (pc := 43) (i := 2) (by decide +kernel) rfl ?_
                refine a_iload_n (pc := 44) (i := 1) (by decide +kernel) rfl ?_
                refine a_icmp_lt (pc := 45) (off := 5) (tgt := 50) (by decide +kernel) (by decide) (by omega) (by omega) (fun c45 => ?_) (fun c45 => ?_)
                · refine a_iload_n (pc := 50) (i := 1) (by decide +kernel) rfl ?_
                  refine a_iload_n (pc := 51) (i := 1) (by decide +kernel) rfl ?_
                  refine a_iload_n (pc := 52) (i := 3) (by decide +kernel) rfl ?_
                  refine b_pureS (pc := 53) [j_i g] [j_i x, j_i x] ml_X12_396 (by decide +kernel) rfl rfl (Nat.le_of_ble_eq_true rfl) (j_fitI rfl rfl) (s_dten (by omega)) ?_
                  have hp9 := p10_in (show g ≤ 6 by omega)
                  have hz1 := Int.emod_nonneg x (show p10 g ≠ 0 by omega)
                  have hz2 := Int.emod_lt_of_pos x (show 0 < p10 g by omega)
                  show j_at _ _ _ [(0, .ref 68), (1, j_i x), (2, j_i s), (3, j_i g)] [j_i (p10 g), j_i x, j_i x] _ _ _ _
                  refine a_irem (pc := 56) (by decide +kernel) (by omega) (by omega) ?_
                  refine a_isub (pc := 57) (by decide +kernel) ?_
                  refine a_iload_n (pc := 58) (i := 2) (by decide +kernel) rfl ?_
                  refine a_iadd (pc := 59) (by decide +kernel) ?_
                  refine a_istore (pc := 60) (i := 4) (lv' := [(0, .ref 68), (1, j_i x), (2, j_i s), (3, j_i g), (4, j_i ((x - (x % (p10 g))) + s))]) (by decide +kernel) (Nat.le_of_ble_eq_true rfl) rfl ?_
                  refine a_iload (pc := 62) (i := 4) (by decide +kernel) rfl ?_
                  refine a_iload_n (pc := 64) (i := 1) (by decide +kernel) rfl ?_
                  refine a_icmp_ge (pc := 65) (off := 8) (tgt := 73) (by decide +kernel) (by decide) (by omega) (by omega) (fun c65 => ?_) (fun c65 => ?_)
                  · refine a_iload (pc := 73) (i := 4) (by decide +kernel) rfl ?_
                    refine a_ireturn (pc := 75) (by decide +kernel) rfl ?_
                    refine k_ret ?_
                    have hr : ((x - (x % (p10 g))) + s : Int) = r := by
                      unfold uf_P at hP
                      rcases hP with hP | hP | hP | hP | hP <;> omega
                    exact ⟨by rw [hr], hR⟩
                  · refine a_bipush (pc := 68) (n := (-3)) (by decide +kernel) rfl ?_
                    refine a_goto (pc := 70) (off := 5) (tgt := 75) (by decide +kernel) (by decide) ?_
                    refine a_ireturn (pc := 75) (by decide +kernel) rfl ?_
                    refine k_ret ?_
                    have hr : ((-3) : Int) = r := by
                      unfold uf_P at hP
                      rcases hP with hP | hP | hP | hP | hP <;> omega
                    exact ⟨by rw [hr], hR⟩
                · refine a_iload_n (pc := 48) (i := 2) (by decide +kernel) rfl ?_
                  refine a_ireturn (pc := 49) (by decide +kernel) rfl ?_
                  refine k_ret ?_
                  have hr : (s : Int) = r := by
                    unfold uf_P at hP
                    rcases hP with hP | hP | hP | hP | hP <;> omega
                  exact ⟨by rw [hr], hR⟩
              · refine a_bipush (pc := 40) (n := (-2)) (by decide +kernel) rfl ?_
                refine a_ireturn (pc := 42) (by decide +kernel) rfl ?_
                refine k_ret ?_
                have hr : ((-2) : Int) = r := by
                  unfold uf_P at hP
                  rcases hP with hP | hP | hP | hP | hP <;> omega
                exact ⟨by rw [hr], hR⟩
          · show j_at _ _ _ [(0, .ref 68), (1, j_i x), (2, j_i s), (3, j_i g)] [j_i 0] _ _ _ _
            refine a_if_eq (pc := 29) (off := 11) (tgt := 40) (by decide +kernel) (by decide) (by omega) (fun c29 => ?_) (fun c29 => ?_)
            · refine a_bipush (pc := 40) (n := (-2)) (by decide +kernel) rfl ?_
              refine a_ireturn (pc := 42) (by decide +kernel) rfl ?_
              refine k_ret ?_
              have hr : ((-2) : Int) = r := by
                unfold uf_P at hP
                rcases hP with hP | hP | hP | hP | hP <;> omega
              exact ⟨by rw [hr], hR⟩
            · exact absurd c29 (by decide)
      · show j_at _ _ _ [(0, .ref 68), (1, j_i x), (2, j_i s), (3, j_i g)] [j_i 0] _ _ _ _
        refine a_if_eq (pc := 19) (off := 21) (tgt := 40) (by decide +kernel) (by decide) (by omega) (fun c19 => ?_) (fun c19 => ?_)
        · refine a_bipush (pc := 40) (n := (-2)) (by decide +kernel) rfl ?_
          refine a_ireturn (pc := 42) (by decide +kernel) rfl ?_
          refine k_ret ?_
          have hr : ((-2) : Int) = r := by
            unfold uf_P at hP
            rcases hP with hP | hP | hP | hP | hP <;> omega
          exact ⟨by rw [hr], hR⟩
        · exact absurd c19 (by decide)
  · show j_at _ _ _ [(0, .ref 68), (1, j_i x), (2, j_i s), (3, j_i g)] [j_i 0] _ _ _ _
    refine a_if_eq (pc := 8) (off := 32) (tgt := 40) (by decide +kernel) (by decide) (by omega) (fun c8 => ?_) (fun c8 => ?_)
    · refine a_bipush (pc := 40) (n := (-2)) (by decide +kernel) rfl ?_
      refine a_ireturn (pc := 42) (by decide +kernel) rfl ?_
      refine k_ret ?_
      have hr : ((-2) : Int) = r := by
        unfold uf_P at hP
        rcases hP with hP | hP | hP | hP | hP <;> omega
      exact ⟨by rw [hr], hR⟩
    · exact absurd c8 (by decide)
set_option maxHeartbeats 4000000 in
theorem p_unfold {G : j_G} {X : k_X} {n : Nat} {σ : k_St} (hR : RR n σ) {x : Int} (hx : -2147483648 ≤ x ∧ x ≤ 2147483647) {s : Int} (hs : -2147483648 ≤ s ∧ s ≤ 2147483647) {g : Int} (hg : -2147483648 ≤ g ∧ g ≤ 2147483647)  : pr_ok G X mX11_unfold mX12_unfold [j_i x, j_i s, j_i g] n σ 0 0 := by
  refine ⟨_, c_unfold hR hx hs hg , fun v n' σ' hq => ?_⟩
  obtain ⟨r, hv, rfl, rfl, hP⟩ := hq
  exact ⟨RR_n hR, r, hv, d_unfold hR hx hs hg  hP⟩
def st_P (x y q r : Int) : Prop := (¬ ((0 ≤ q ∧ q ≤ 2) ∧ (1 ≤ x ∧ x ≤ 999999) ∧ (x ≤ y ∧ y ≤ 999999)) ∧ r = -2) ∨ (((0 ≤ q ∧ q ≤ 2) ∧ (1 ≤ x ∧ x ≤ 999999) ∧ (x ≤ y ∧ y ≤ 999999)) ∧ q = 0 ∧ r = 1 + f_dm 6 y) ∨ (((0 ≤ q ∧ q ≤ 2) ∧ (1 ≤ x ∧ x ≤ 999999) ∧ (x ≤ y ∧ y ≤ 999999)) ∧ f_dm 6 x ≠ f_dm 6 y ∧ r = 1 + f_dm 6 y) ∨ (((0 ≤ q ∧ q ≤ 2) ∧ (1 ≤ x ∧ x ≤ 999999) ∧ (x ≤ y ∧ y ≤ 999999)) ∧ q ≠ 0 ∧ f_dm 6 x = f_dm 6 y ∧ ∃ d, un_P x y 6 d ∧ r = max d (min q (1 + f_dm 6 y)))
set_option maxHeartbeats 4000000 in
theorem c_shorten {G : j_G} {X : k_X} {n : Nat} {σ : k_St} (hR : RR n σ) {x : Int} (hx : -2147483648 ≤ x ∧ x ≤ 2147483647) {y : Int} (hy : -2147483648 ≤ y ∧ y ≤ 2147483647) {q : Int} (hq : -2147483648 ≤ q ∧ q ≤ 2147483647)  : k_run G X mX11_shorten [.ref 5, j_i x, j_i y, j_i q] n σ 0 0 (fun v n' σ' => ∃ r : Int, v = some (j_i r) ∧ n' = n ∧ σ' = σ ∧ st_P x y q r) := by
  obtain ⟨hK, hAc, hNm, hPs, hPt, hSm, hIx⟩ := id hR
  have hn := RR_n hR
  have hk := hK.1
  have hwh : h_wf σ 8 := hk.2.1
  have hwm : m_wf σ 16 := hk.2.2
  have hW : 0 ≤ σ.2.1 6 1 ∧ σ.2.1 6 1 ≤ 300 := hk.1
  have hfl := hSm.1
  refine k_enter (by decide +kernel) (Nat.le_of_ble_eq_true rfl) ?_
  show j_at _ _ _ [(0, .ref 5), (1, j_i x), (2, j_i y), (3, j_i q)] [] _ _ _ _
  refine a_iload_n (pc := 0) (i := 3) (by decide +kernel) rfl ?_
  refine a_if_lt (pc := 1) (off := 32) (tgt := 33) (by decide +kernel) (by decide) (by omega) (fun c1 => ?_) (fun c1 => ?_)
  · refine a_bipush (pc := 33) (n := (-2)) (by decide +kernel) rfl ?_
    refine a_ireturn (pc := 35) (by decide +kernel) rfl ?_
    refine k_ret ?_
    refine ⟨_, rfl, rfl, rfl, ?_⟩
    unfold st_P
    first | exact Or.inl (by omega) | exact Or.inr (Or.inl (by omega)) | exact Or.inr (Or.inr (Or.inl (by omega))) | exact Or.inr (Or.inr (Or.inr ⟨by omega, by omega, by omega, _, hun, rfl⟩))
  · refine a_iload_n (pc := 4) (i := 3) (by decide +kernel) rfl ?_
    refine a_iconst (pc := 5) (n := 2) (by decide +kernel) ?_
    refine a_icmp_gt (pc := 6) (off := 27) (tgt := 33) (by decide +kernel) (by decide) (by omega) (by omega) (fun c6 => ?_) (fun c6 => ?_)
    · refine a_bipush (pc := 33) (n := (-2)) (by decide +kernel) rfl ?_
      refine a_ireturn (pc := 35) (by decide +kernel) rfl ?_
      refine k_ret ?_
      refine ⟨_, rfl, rfl, rfl, ?_⟩
      unfold st_P
      first | exact Or.inl (by omega) | exact Or.inr (Or.inl (by omega)) | exact Or.inr (Or.inr (Or.inl (by omega))) | exact Or.inr (Or.inr (Or.inr ⟨by omega, by omega, by omega, _, hun, rfl⟩))
    · refine a_iload_n (pc := 9) (i := 1) (by decide +kernel) rfl ?_
      refine a_iconst (pc := 10) (n := 1) (by decide +kernel) ?_
      refine a_icmp_lt (pc := 11) (off := 22) (tgt := 33) (by decide +kernel) (by decide) (by omega) (by omega) (fun c11 => ?_) (fun c11 => ?_)
      · refine a_bipush (pc := 33) (n := (-2)) (by decide +kernel) rfl ?_
        refine a_ireturn (pc := 35) (by decide +kernel) rfl ?_
        refine k_ret ?_
        refine ⟨_, rfl, rfl, rfl, ?_⟩
        unfold st_P
        first | exact Or.inl (by omega) | exact Or.inr (Or.inl (by omega)) | exact Or.inr (Or.inr (Or.inl (by omega))) | exact Or.inr (Or.inr (Or.inr ⟨by omega, by omega, by omega, _, hun, rfl⟩))
      · refine a_iload_n (pc := 14) (i := 1) (by decide +kernel) rfl ?_
        refine a_ldc_w (pc := 15) (n := 999999) (by decide +kernel) kc_X11_343 ?_
        refine a_icmp_gt (pc := 18) (off := 15) (tgt := 33) (by decide +kernel) (by decide) (by omega) (by omega) (fun c18 => ?_) (fun c18 => ?_)
        · refine a_bipush (pc := 33) (n := (-2)) (by decide +kernel) rfl ?_
          refine a_ireturn (pc := 35) (by decide +kernel) rfl ?_
          refine k_ret ?_
          refine ⟨_, rfl, rfl, rfl, ?_⟩
          unfold st_P
          first | exact Or.inl (by omega) | exact Or.inr (Or.inl (by omega)) | exact Or.inr (Or.inr (Or.inl (by omega))) | exact Or.inr (Or.inr (Or.inr ⟨by omega, by omega, by omega, _, hun, rfl⟩))
        · refine a_iload_n (pc := 21) (i := 2) (by decide +kernel) rfl ?_
          refine a_iload_n (pc := 22) (i := 1) (by decide +kernel) rfl ?_
          refine a_icmp_lt (pc := 23) (off := 10) (tgt := 33) (by decide +kernel) (by decide) (by omega) (by omega) (fun c23 => ?_) (fun c23 => ?_)
          · refine a_bipush (pc := 33) (n := (-2)) (by decide +kernel) rfl ?_
            refine a_ireturn (pc := 35) (by decide +kernel) rfl ?_
            refine k_ret ?_
            refine ⟨_, rfl, rfl, rfl, ?_⟩
            unfold st_P
            first | exact Or.inl (by omega) | exact Or.inr (Or.inl (by omega)) | exact Or.inr (Or.inr (Or.inl (by omega))) | exact Or.inr (Or.inr (Or.inr ⟨by omega, by omega, by omega, _, hun, rfl⟩))
          · refine a_iload_n (pc := 26) (i := 2) (by decide +kernel) rfl ?_
            refine a_ldc_w (pc := 27) (n := 999999) (by decide +kernel) kc_X11_343 ?_
            refine a_icmp_le (pc := 30) (off := 6) (tgt := 36) (by decide +kernel) (by decide) (by omega) (by omega) (fun c30 => ?_) (fun c30 => ?_)
            · refine a_iload_n (pc := 36) (i := 2) (by decide +kernel) rfl ?_
              refine b_pureS (pc := 37) [j_i y] [] ml_X11_344 (by decide +kernel) rfl rfl (Nat.le_of_ble_eq_true rfl) (j_fitI rfl rfl) (s_cdigits (by omega)) ?_
              have qdy := f_dm_in 6 y
              show j_at _ _ _ [(0, .ref 5), (1, j_i x), (2, j_i y), (3, j_i q)] [j_i (1 + f_dm 6 y)] _ _ _ _
              refine a_istore (pc := 40) (i := 4) (lv' := [(0, .ref 5), (1, j_i x), (2, j_i y), (3, j_i q), (4, j_i (1 + f_dm 6 y))]) (by decide +kernel) (Nat.le_of_ble_eq_true rfl) rfl ?_
              refine a_iload_n (pc := 42) (i := 3) (by decide +kernel) rfl ?_
              refine a_if_eq (pc := 43) (off := 12) (tgt := 55) (by decide +kernel) (by decide) (by omega) (fun c43 => ?_) (fun c43 => ?_)
              · refine a_iload (pc := 55) (i := 4) (by decide +kernel) rfl ?_
                refine a_ireturn (pc := 57) (by decide +kernel) rfl ?_
                refine k_ret ?_
                refine ⟨_, rfl, rfl, rfl, ?_⟩
                unfold st_P
                first | exact Or.inl (by omega) | exact Or.inr (Or.inl (by omega)) | exact Or.inr (Or.inr (Or.inl (by omega))) | exact Or.inr (Or.inr (Or.inr ⟨by omega, by omega, by omega, _, hun, rfl⟩))
              · refine a_iload_n (pc := 46) (i := 1) (by decide +kernel) rfl ?_
                refine b_pureS (pc := 47) [j_i x] [] ml_X11_344 (by decide +kernel) rfl rfl (Nat.le_of_ble_eq_true rfl) (j_fitI rfl rfl) (s_cdigits (by omega)) ?_
                have qdx := f_dm_in 6 x
                show j_at _ _ _ [(0, .ref 5), (1, j_i x), (2, j_i y), (3, j_i q), (4, j_i (1 + f_dm 6 y))] [j_i (1 + f_dm 6 x)] _ _ _ _
                refine a_iload (pc := 50) (i := 4) (by decide +kernel) rfl ?_
                refine a_icmp_eq (pc := 52) (off := 6) (tgt := 58) (by decide +kernel) (by decide) (by omega) (by omega) (fun c52 => ?_) (fun c52 => ?_)
                · refine a_iload_n (pc := 58) (i := 1) (by decide +kernel) rfl ?_
                  refine a_iload_n (pc := 59) (i := 2) (by decide +kernel) rfl ?_
                  refine b_callS (pc := 60) (c' := 0) (sl' := 0) [j_i x, j_i y] [] ml_X11_347 (by decide +kernel) rfl rfl (Nat.le_of_ble_eq_true rfl) (j_fitI rfl rfl) (s_cunl (by omega) (by omega)) (fun v n' σ' hq => ?_)
                  obtain ⟨d1, rfl, e1, e2, hd1⟩ := hq
                  rw [e1, e2]; clear e1 e2
                  have hd9 := hd1.1
                  have hun := hd1
                  show j_at _ _ _ [(0, .ref 5), (1, j_i x), (2, j_i y), (3, j_i q), (4, j_i (1 + f_dm 6 y))] [j_i d1] _ _ _ _
                  refine a_iload_n (pc := 63) (i := 3) (by decide +kernel) rfl ?_
                  refine a_iload (pc := 64) (i := 4) (by decide +kernel) rfl ?_
                  refine a_mmin (pc := 66) mm_X11_350 (by decide +kernel) (by omega) (by omega) (Nat.le_of_ble_eq_true rfl) (Nat.le_of_ble_eq_true rfl) ?_
                  refine a_mmax (pc := 69) mm_X11_355 (by decide +kernel) (by omega) (by omega) (Nat.le_of_ble_eq_true rfl) (Nat.le_of_ble_eq_true rfl) ?_
                  refine a_ireturn (pc := 72) (by decide +kernel) rfl ?_
                  refine k_ret ?_
                  refine ⟨_, rfl, rfl, rfl, ?_⟩
                  unfold st_P
                  first | exact Or.inl (by omega) | exact Or.inr (Or.inl (by omega)) | exact Or.inr (Or.inr (Or.inl (by omega))) | exact Or.inr (Or.inr (Or.inr ⟨by omega, by omega, by omega, _, hun, rfl⟩))
                · refine a_iload (pc := 55) (i := 4) (by decide +kernel) rfl ?_
                  refine a_ireturn (pc := 57) (by decide +kernel) rfl ?_
                  refine k_ret ?_
                  refine ⟨_, rfl, rfl, rfl, ?_⟩
                  unfold st_P
                  first | exact Or.inl (by omega) | exact Or.inr (Or.inl (by omega)) | exact Or.inr (Or.inr (Or.inl (by omega))) | exact Or.inr (Or.inr (Or.inr ⟨by omega, by omega, by omega, _, hun, rfl⟩))
            · refine a_bipush (pc := 33) (n := (-2)) (by decide +kernel) rfl ?_
              refine a_ireturn (pc := 35) (by decide +kernel) rfl ?_
              refine k_ret ?_
              refine ⟨_, rfl, rfl, rfl, ?_⟩
              unfold st_P
              first | exact Or.inl (by omega) | exact Or.inr (Or.inl (by omega)) | exact Or.inr (Or.inr (Or.inl (by omega))) | exact Or.inr (Or.inr (Or.inr ⟨by omega, by omega, by omega, _, hun, rfl⟩))
set_option maxHeartbeats 4000000 in
theorem l_dsh {G : j_G} {X : k_X} {n : Nat} {σ : k_St} {x y q D k0 : Int} (hx : 0 ≤ x ∧ x ≤ 999999) (hy : 0 ≤ y ∧ y ≤ 999999) (hD : 1 ≤ D ∧ D ≤ 7) (hD6 : D ≤ 6)  : ∀ (m : Nat) (k : Int), D - k < (m : Int) → k0 ≤ k → (0 ≤ k ∧ k ≤ D) → (∀ j, k0 ≤ j → j < k → x / p10 j ≠ y / p10 j) → j_at G mX12_shorten 70 [(0, .ref 68), (1, j_i x), (2, j_i y), (3, j_i q), (4, j_i D), (5, j_i k)] [] (k_h X n σ) 0 0 (k_Q X (k_ex n σ (fun r => (k0 ≤ r ∧ r ≤ D) ∧ (r = D ∨ x / p10 r = y / p10 r) ∧ ∀ j, k0 ≤ j → j < r → x / p10 j ≠ y / p10 j))) := by
  intro m
  induction m with
  | zero => intro k h1 h2 h3; exact absurd h1 (by omega)
  | succ m ih =>
    intro k hm h0 hN hI
    refine a_iload (pc := 70) (i := 5) (by decide +kernel) rfl ?_
    refine a_iload (pc := 72) (i := 4) (by decide +kernel) rfl ?_
    refine a_icmp_ge (pc := 74) (off := 26) (tgt := 100) (by decide +kernel) (by decide) (by omega) (by omega) (fun c74 => ?_) (fun c74 => ?_)
    · refine a_iload (pc := 100) (i := 5) (by decide +kernel) rfl ?_
      refine a_ireturn (pc := 102) (by decide +kernel) rfl ?_
      refine k_ret ?_
      exact ⟨_, rfl, rfl, rfl, ⟨by omega, by omega⟩, by first | exact Or.inl (by omega) | exact Or.inr c91, hI⟩
    · refine a_iload_n (pc := 77) (i := 1) (by decide +kernel) rfl ?_
      refine a_iload (pc := 78) (i := 5) (by decide +kernel) rfl ?_
      refine b_pureS (pc := 80) [j_i k] [j_i x] ml_X12_396 (by decide +kernel) rfl rfl (Nat.le_of_ble_eq_true rfl) (j_fitI rfl rfl) (s_dten (by omega)) ?_
      have hp9 := p10_in (show k ≤ 6 by omega)
      have hz1 : 0 ≤ x / p10 k ∧ x / p10 k ≤ 999999 := ⟨Int.ediv_nonneg (by omega) (by omega), Int.le_trans (Int.ediv_le_self _ (by omega)) (by omega)⟩
      have hz2 : 0 ≤ y / p10 k ∧ y / p10 k ≤ 999999 := ⟨Int.ediv_nonneg (by omega) (by omega), Int.le_trans (Int.ediv_le_self _ (by omega)) (by omega)⟩
      show j_at _ _ _ [(0, .ref 68), (1, j_i x), (2, j_i y), (3, j_i q), (4, j_i D), (5, j_i k)] [j_i (p10 k), j_i x] _ _ _ _
      refine a_idiv (pc := 83) (by decide +kernel) (by omega) (by omega) ?_
      refine a_iload_n (pc := 84) (i := 2) (by decide +kernel) rfl ?_
      refine a_iload (pc := 85) (i := 5) (by decide +kernel) rfl ?_
      refine b_pureS (pc := 87) [j_i k] [j_i y, j_i (x / (p10 k))] ml_X12_396 (by decide +kernel) rfl rfl (Nat.le_of_ble_eq_true rfl) (j_fitI rfl rfl) (s_dten (by omega)) ?_
      have hp9 := p10_in (show k ≤ 6 by omega)
      have hz1 : 0 ≤ x / p10 k ∧ x / p10 k ≤ 999999 := ⟨Int.ediv_nonneg (by omega) (by omega), Int.le_trans (Int.ediv_le_self _ (by omega)) (by omega)⟩
      have hz2 : 0 ≤ y / p10 k ∧ y / p10 k ≤ 999999 := ⟨Int.ediv_nonneg (by omega) (by omega), Int.le_trans (Int.ediv_le_self _ (by omega)) (by omega)⟩
      show j_at _ _ _ [(0, .ref 68), (1, j_i x), (2, j_i y), (3, j_i q), (4, j_i D), (5, j_i k)] [j_i (p10 k), j_i y, j_i (x / (p10 k))] _ _ _ _
      refine a_idiv (pc := 90) (by decide +kernel) (by omega) (by omega) ?_
      refine a_icmp_eq (pc := 91) (off := 9) (tgt := 100) (by decide +kernel) (by decide) (by omega) (by omega) (fun c91 => ?_) (fun c91 => ?_)
      · refine a_iload (pc := 100) (i := 5) (by decide +kernel) rfl ?_
        refine a_ireturn (pc := 102) (by decide +kernel) rfl ?_
        refine k_ret ?_
        exact ⟨_, rfl, rfl, rfl, ⟨by omega, by omega⟩, by first | exact Or.inl (by omega) | exact Or.inr c91, hI⟩
      · refine a_iinc (pc := 94) (i := 5) (n := 1) (x := k) (lv' := [(0, .ref 68), (1, j_i x), (2, j_i y), (3, j_i q), (4, j_i D), (5, j_i (k + 1))]) (by decide +kernel) rfl (Nat.le_of_ble_eq_true rfl) rfl ?_
        refine a_goto (pc := 97) (off := -27) (tgt := 70) (by decide +kernel) (by decide) ?_
        exact ih (k + 1) (by omega) (by omega) (by omega) (fun j j0 j1 => by by_cases g : j = k; rw [g]; exact c91; exact hI j j0 (by omega))
theorem sh_eq {x y d n0 D r : Int} (hx : 0 ≤ x ∧ x < p10 D) (hy : 0 ≤ y ∧ y < p10 D) (hD : 1 ≤ D ∧ D ≤ 6) (hn0 : 0 ≤ n0 ∧ n0 ≤ D) (hu : un_P x y 6 d) (h1 : n0 ≤ r ∧ r ≤ D) (h2 : r = D ∨ x / p10 r = y / p10 r) (h3 : ∀ j, n0 ≤ j → j < r → x / p10 j ≠ y / p10 j) : r = max d n0 := by
  obtain ⟨u1, u2, u3⟩ := hu
  have hz : ∀ j, D ≤ j → x / p10 j = y / p10 j := fun j hj => by
    have e : x / p10 D = y / p10 D := by rw [Int.ediv_eq_zero_of_lt hx.1 hx.2, Int.ediv_eq_zero_of_lt hy.1 hy.2]
    exact ten_mon (by omega) hj e
  by_cases g : d ≤ n0
  · have : r = n0 := by
      by_cases k : r = n0
      · exact k
      · exact absurd (u2 n0 g (by omega)) (h3 n0 (by omega) (by omega))
    omega
  · have u4 := u3.resolve_left (by omega)
    have hne : ∀ j, 0 ≤ j → j ≤ d - 1 → x / p10 j ≠ y / p10 j := fun j j0 j1 e => u4 (ten_mon j0 j1 e)
    have hdD : d ≤ D := Int.not_lt.mp (fun k => u4 (hz (d - 1) (by omega)))
    have hrd : d ≤ r := Int.not_lt.mp (fun k => by
      rcases h2 with h2 | h2
      · omega
      · exact hne r (by omega) (by omega) h2)
    have : ¬ d < r := fun k => h3 d (by omega) k (u2 d (by omega) (by omega))
    omega
set_option maxHeartbeats 4000000 in
theorem d_shorten {G : j_G} {X : k_X} {n : Nat} {σ : k_St} (hR : RR n σ) {x : Int} (hx : -2147483648 ≤ x ∧ x ≤ 2147483647) {y : Int} (hy : -2147483648 ≤ y ∧ y ≤ 2147483647) {q : Int} (hq : -2147483648 ≤ q ∧ q ≤ 2147483647) {r : Int} (hP : st_P x y q r)  : k_run G X mX12_shorten [.ref 68, j_i x, j_i y, j_i q] n σ 0 0 (fun v2 n2 σ2 => v2 = some (j_i r) ∧ RR n2 σ2) := by
  obtain ⟨hK, hAc, hNm, hPs, hPt, hSm, hIx⟩ := id hR
  have hn := RR_n hR
  have hk := hK.1
  have hwh : h_wf σ 8 := hk.2.1
  have hwm : m_wf σ 16 := hk.2.2
  have hW : 0 ≤ σ.2.1 6 1 ∧ σ.2.1 6 1 ≤ 300 := hk.1
  have hfl := hSm.1
  have hg := hK.2.2.2
  obtain ⟨⟨hgW, hgE, hgM⟩, hgh, hgm⟩ := KR_rg hk hK.2.1
  have hW0 : σ.2.1 6 1 = σ.1 69 0 := hK.2.1.1.1
  have hE0 : σ.2.1 8 3 = σ.1 69 301 := hK.2.1.2.1.1
  have hM0 : σ.2.1 16 5 = σ.1 69 1382 := hK.2.1.2.2.1
  have hfl8 : σ.2.1 68 11 = σ.2.1 5 10 := hSm.2.1
  unfold st_P at hP
  refine k_enter (by decide +kernel) (Nat.le_of_ble_eq_true rfl) ?_
  show j_at _ _ _ [(0, .ref 68), (1, j_i x), (2, j_i y), (3, j_i q)] [] _ _ _ _
  refine a_iload_n (pc := 0) (i := 3) (by decide +kernel) rfl ?_
  refine a_iconst (pc := 1) (n := 0) (by decide +kernel) ?_
  refine a_iconst (pc := 2) (n := 2) (by decide +kernel) ?_
  refine b_callS (pc := 3) (c' := 0) (sl' := 0) [j_i q, j_i 0, j_i 2] [] ml_X12_128 (by decide +kernel) rfl rfl (Nat.le_of_ble_eq_true rfl) (j_fitI rfl rfl) (s_dwithin (by omega) (by omega) (by omega)) (fun v n' σ' hq => ?_)
  obtain ⟨x, rfl, e1, e2, hx⟩ := hq
  rw [e1, e2]; clear e1 e2
  rcases hx with ⟨rfl, p3⟩ | ⟨rfl, p3⟩
  · show j_at _ _ _ [(0, .ref 68), (1, j_i x), (2, j_i y), (3, j_i q)] [j_i 1] _ _ _ _
    refine a_if_eq (pc := 6) (off := 25) (tgt := 31) (by decide +kernel) (by decide) (by omega) (fun c6 => ?_) (fun c6 => ?_)
    · exact absurd c6 (by decide)
    · refine a_iload_n (pc := 9) (i := 1) (by decide +kernel) rfl ?_
      refine a_iconst (pc := 10) (n := 1) (by decide +kernel) ?_
      refine a_ldc_w (pc := 11) (n := 999999) (by decide +kernel) kc_X12_392 ?_
      refine b_callS (pc := 14) (c' := 0) (sl' := 0) [j_i x, j_i 1, j_i 999999] [] ml_X12_128 (by decide +kernel) rfl rfl (Nat.le_of_ble_eq_true rfl) (j_fitI rfl rfl) (s_dwithin (by omega) (by omega) (by omega)) (fun v n' σ' hq => ?_)
      obtain ⟨x, rfl, e1, e2, hx⟩ := hq
      rw [e1, e2]; clear e1 e2
      rcases hx with ⟨rfl, p14⟩ | ⟨rfl, p14⟩
      · show j_at _ _ _ [(0, .ref 68), (1, j_i x), (2, j_i y), (3, j_i q)] [j_i 1] _ _ _ _
        refine a_if_eq (pc := 17) (off := 14) (tgt := 31) (by decide +kernel) (by decide) (by omega) (fun c17 => ?_) (fun c17 => ?_)
        · exact absurd c17 (by decide)
        · refine a_iload_n (pc := 20) (i := 2) (by decide +kernel) rfl ?_
          refine a_iload_n (pc := 21) (i := 1) (by decide +kernel) rfl ?_
          refine a_ldc_w (pc := 22) (n := 999999) (by decide +kernel) kc_X12_392 ?_
          refine b_callS (pc := 25) (c' := 0) (sl' := 0) [j_i y, j_i x, j_i 999999] [] ml_X12_128 (by decide +kernel) rfl rfl (Nat.le_of_ble_eq_true rfl) (j_fitI rfl rfl) (s_dwithin (by omega) (by omega) (by omega)) (fun v n' σ' hq => ?_)
          obtain ⟨x, rfl, e1, e2, hx⟩ := hq
          rw [e1, e2]; clear e1 e2
          rcases hx with ⟨rfl, p25⟩ | ⟨rfl, p25⟩
          · show j_at _ _ _ [(0, .ref 68), (1, j_i x), (2, j_i y), (3, j_i q)] [j_i 1] _ _ _ _
            refine a_if_ne (pc := 28) (off := 6) (tgt := 34) (by decide +kernel) (by decide) (by omega) (fun c28 => ?_) (fun c28 => ?_)
            · refine a_iload_n (pc := 34) (i := 2) (by decide +kernel) rfl ?_
              refine b_pureS (pc := 35) [j_i y] [] ml_X12_393 (by decide +kernel) rfl rfl (Nat.le_of_ble_eq_true rfl) (j_fitI rfl rfl) (s_ddigits (by omega)) ?_
              have qdy := f_dm_in 6 y
              show j_at _ _ _ [(0, .ref 68), (1, j_i x), (2, j_i y), (3, j_i q)] [j_i (1 + f_dm 6 y)] _ _ _ _
              refine a_istore (pc := 38) (i := 4) (lv' := [(0, .ref 68), (1, j_i x), (2, j_i y), (3, j_i q), (4, j_i (1 + f_dm 6 y))]) (by decide +kernel) (Nat.le_of_ble_eq_true rfl) rfl ?_
              refine a_iload_n (pc := 40) (i := 3) (by decide +kernel) rfl ?_
              refine a_if_eq (pc := 41) (off := 12) (tgt := 53) (by decide +kernel) (by decide) (by omega) (fun c41 => ?_) (fun c41 => ?_)
              · refine a_iload (pc := 53) (i := 4) (by decide +kernel) rfl ?_
                refine a_ireturn (pc := 55) (by decide +kernel) rfl ?_
                refine k_ret ?_
                have hr : (1 + f_dm 6 y : Int) = r := by
                  rcases hP with hP | hP | hP | hP
                  · omega
                  · omega
                  · omega
                  · omega
                exact ⟨by rw [hr], hR⟩
              · refine a_iload_n (pc := 44) (i := 1) (by decide +kernel) rfl ?_
                refine b_pureS (pc := 45) [j_i x] [] ml_X12_393 (by decide +kernel) rfl rfl (Nat.le_of_ble_eq_true rfl) (j_fitI rfl rfl) (s_ddigits (by omega)) ?_
                have qdx := f_dm_in 6 x
                show j_at _ _ _ [(0, .ref 68), (1, j_i x), (2, j_i y), (3, j_i q), (4, j_i (1 + f_dm 6 y))] [j_i (1 + f_dm 6 x)] _ _ _ _
                refine a_iload (pc := 48) (i := 4) (by decide +kernel) rfl ?_
                refine a_icmp_eq (pc := 50) (off := 6) (tgt := 56) (by decide +kernel) (by decide) (by omega) (by omega) (fun c50 => ?_) (fun c50 => ?_)
                · refine a_iload_n (pc := 56) (i := 3) (by decide +kernel) rfl ?_
                  refine a_iload (pc := 57) (i := 4) (by decide +kernel) rfl ?_
                  refine a_icmp_ge (pc := 59) (off := 7) (tgt := 66) (by decide +kernel) (by decide) (by omega) (by omega) (fun c59 => ?_) (fun c59 => ?_)
                  · refine a_iload (pc := 66) (i := 4) (by decide +kernel) rfl ?_
                    refine a_istore (pc := 68) (i := 5) (lv' := [(0, .ref 68), (1, j_i x), (2, j_i y), (3, j_i q), (4, j_i (1 + f_dm 6 y)), (5, j_i (1 + f_dm 6 y))]) (by decide +kernel) (Nat.le_of_ble_eq_true rfl) rfl ?_
                    have hD6 : f_dm 6 y ≤ 5 := by
                      rcases hP with hP | hP | hP | hP
                      · omega
                      · omega
                      · omega
                      · unfold f_dm; split; omega; unfold f_dm; split; omega; unfold f_dm; split; omega; unfold f_dm; split; omega; unfold f_dm; split; omega; unfold f_dm; split <;> omega
                    refine k_mono (fun v n' σ' hq => ?_) (l_dsh (k0 := 1 + f_dm 6 y) (by omega) (by omega) (by omega) (by omega) 8 (1 + f_dm 6 y) (by omega) (by omega) (by omega) (fun j j0 j1 => absurd j0 (by omega)))
                    obtain ⟨z, q1, q2, q3, q4, q5, q6⟩ := hq
                    rw [q1, q2, q3]
                    rcases hP with hP | hP | hP | hP
                    · omega
                    · omega
                    · omega
                    · obtain ⟨_, _, g3, d, g4, g5⟩ := hP
                      have l1 := f_dm_lt (m := 6) (x := x) (by omega) (by omega)
                      have l2 := f_dm_lt (m := 6) (x := y) (by omega) (by omega)
                      rw [g3] at l1
                      have := sh_eq (D := 1 + f_dm 6 y) ⟨by omega, by rw [show 1 + f_dm 6 y = f_dm 6 y + 1 by omega]; exact l1⟩ ⟨by omega, by rw [show 1 + f_dm 6 y = f_dm 6 y + 1 by omega]; exact l2⟩ (by omega) (by omega) g4 q4 q5 q6
                      exact ⟨by rw [this, g5, show min q (1 + f_dm 6 y) = (1 + f_dm 6 y) by omega], hR⟩
                  · refine a_iload_n (pc := 62) (i := 3) (by decide +kernel) rfl ?_
                    refine a_goto (pc := 63) (off := 5) (tgt := 68) (by decide +kernel) (by decide) ?_
                    refine a_istore (pc := 68) (i := 5) (lv' := [(0, .ref 68), (1, j_i x), (2, j_i y), (3, j_i q), (4, j_i (1 + f_dm 6 y)), (5, j_i q)]) (by decide +kernel) (Nat.le_of_ble_eq_true rfl) rfl ?_
                    have hD6 : f_dm 6 y ≤ 5 := by
                      rcases hP with hP | hP | hP | hP
                      · omega
                      · omega
                      · omega
                      · unfold f_dm; split; omega; unfold f_dm; split; omega; unfold f_dm; split; omega; unfold f_dm; split; omega; unfold f_dm; split; omega; unfold f_dm; split <;> omega
                    refine k_mono (fun v n' σ' hq => ?_) (l_dsh (k0 := q) (by omega) (by omega) (by omega) (by omega) 8 (q) (by omega) (by omega) (by omega) (fun j j0 j1 => absurd j0 (by omega)))
                    obtain ⟨z, q1, q2, q3, q4, q5, q6⟩ := hq
                    rw [q1, q2, q3]
                    rcases hP with hP | hP | hP | hP
                    · omega
                    · omega
                    · omega
                    · obtain ⟨_, _, g3, d, g4, g5⟩ := hP
                      have l1 := f_dm_lt (m := 6) (x := x) (by omega) (by omega)
                      have l2 := f_dm_lt (m := 6) (x := y) (by omega) (by omega)
                      rw [g3] at l1
                      have := sh_eq (D := 1 + f_dm 6 y) ⟨by omega, by rw [show 1 + f_dm 6 y = f_dm 6 y + 1 by omega]; exact l1⟩ ⟨by omega, by rw [show 1 + f_dm 6 y = f_dm 6 y + 1 by omega]; exact l2⟩ (by omega) (by omega) g4 q4 q5 q6
                      exact ⟨by rw [this, g5, show min q (1 + f_dm 6 y) = q by omega], hR⟩
                · refine a_iload (pc := 53) (i := 4) (by decide +kernel) rfl ?_
                  refine a_ireturn (pc := 55) (by decide +kernel) rfl ?_
                  refine k_ret ?_
                  have hr : (1 + f_dm 6 y : Int) = r := by
                    rcases hP with hP | hP | hP | hP
                    · omega
                    · omega
                    · omega
                    · omega
                  exact ⟨by rw [hr], hR⟩
            · exact absurd c28 (by decide)
          · show j_at _ _ _ [(0, .ref 68), (1, j_i x), (2, j_i y), (3, j_i q)] [j_i 0] _ _ _ _
            refine a_if_ne (pc := 28) (off := 6) (tgt := 34) (by decide +kernel) (by decide) (by omega) (fun c28 => ?_) (fun c28 => ?_)
            · exact absurd c28 (by decide)
            · refine a_bipush (pc := 31) (n := (-2)) (by decide +kernel) rfl ?_
              refine a_ireturn (pc := 33) (by decide +kernel) rfl ?_
              refine k_ret ?_
              have hr : ((-2) : Int) = r := by
                rcases hP with hP | hP | hP | hP
                · omega
                · omega
                · omega
                · omega
              exact ⟨by rw [hr], hR⟩
      · show j_at _ _ _ [(0, .ref 68), (1, j_i x), (2, j_i y), (3, j_i q)] [j_i 0] _ _ _ _
        refine a_if_eq (pc := 17) (off := 14) (tgt := 31) (by decide +kernel) (by decide) (by omega) (fun c17 => ?_) (fun c17 => ?_)
        · refine a_bipush (pc := 31) (n := (-2)) (by decide +kernel) rfl ?_
          refine a_ireturn (pc := 33) (by decide +kernel) rfl ?_
          refine k_ret ?_
          have hr : ((-2) : Int) = r := by
            rcases hP with hP | hP | hP | hP
            · omega
            · omega
            · omega
            · omega
          exact ⟨by rw [hr], hR⟩
        · exact absurd c17 (by decide)
  · show j_at _ _ _ [(0, .ref 68), (1, j_i x), (2, j_i y), (3, j_i q)] [j_i 0] _ _ _ _
    refine a_if_eq (pc := 6) (off := 25) (tgt := 31) (by decide +kernel) (by decide) (by omega) (fun c6 => ?_) (fun c6 => ?_)
    · refine a_bipush (pc := 31) (n := (-2)) (by decide +kernel) rfl ?_
      refine a_ireturn (pc := 33) (by decide +kernel) rfl ?_
      refine k_ret ?_
      have hr : ((-2) : Int) = r := by
        rcases hP with hP | hP | hP | hP
        · omega
        · omega
        · omega
        · omega
      exact ⟨by rw [hr], hR⟩
    · exact absurd c6 (by decide)
set_option maxHeartbeats 4000000 in
theorem p_shorten {G : j_G} {X : k_X} {n : Nat} {σ : k_St} (hR : RR n σ) {x : Int} (hx : -2147483648 ≤ x ∧ x ≤ 2147483647) {y : Int} (hy : -2147483648 ≤ y ∧ y ≤ 2147483647) {q : Int} (hq : -2147483648 ≤ q ∧ q ≤ 2147483647)  : pr_ok G X mX11_shorten mX12_shorten [j_i x, j_i y, j_i q] n σ 0 0 := by
  refine ⟨_, c_shorten hR hx hy hq , fun v n' σ' hq => ?_⟩
  obtain ⟨r, hv, rfl, rfl, hP⟩ := hq
  exact ⟨RR_n hR, r, hv, d_shorten hR hx hy hq  hP⟩
