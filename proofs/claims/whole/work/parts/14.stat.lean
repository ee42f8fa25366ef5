theorem wb_tb (n : Nat) : (lN n).toBitVec = BitVec.ofNat 64 n := rfl
theorem wb_inj {a b : Int64} (h : a.toBitVec = b.toBitVec) : a = b := Int64.toBitVec_inj.mp h
theorem wb_tn {n : Nat} (h : n < 2 ^ 64) : (lN n).toBitVec.toNat = n := by rw [wb_tb, BitVec.toNat_ofNat, Nat.mod_eq_of_lt h]
theorem wb_of (x : Int64) : ∃ n, n < 2 ^ 64 ∧ x = lN n := ⟨x.toBitVec.toNat, x.toBitVec.isLt, wb_inj (by rw [wb_tb]; simp)⟩
theorem wb_of32 (x : Int32) : ∃ n, n < 2 ^ 32 ∧ x = nI n := ⟨x.toBitVec.toNat, x.toBitVec.isLt, Int32.toBitVec_inj.mp (by show _ = BitVec.ofNat 32 _; simp)⟩
theorem wb_c : ∀ k, k < 64 → ((nI k).toInt64 &&& 63) = lN k := by decide +kernel
theorem wb_cu : ∀ k, k < 64 → ((nI k).toInt64.toUInt64 &&& Int64.toUInt64 63) = UInt64.ofNat k := by decide +kernel
theorem wb_sm : ∀ k, k < 64 → (BitVec.ofNat 64 k).smod 64 = BitVec.ofNat 64 k := by decide +kernel
theorem wb_pw {a b : Nat} (h : a ≤ b) : 2 ^ b = 2 ^ a * 2 ^ (b - a) := by rw [← Nat.pow_add]; congr 1; omega
theorem wb_lt2 {a b : Nat} (h : a < b) : 2 ^ a < 2 ^ b := Nat.pow_lt_pow_right (by decide) h
theorem wb_mod (n : Nat) : lN n = lN (n % 2 ^ 64) := wb_inj (by rw [wb_tb, wb_tb]; apply BitVec.eq_of_toNat_eq; rw [BitVec.toNat_ofNat, BitVec.toNat_ofNat, Nat.mod_mod])
theorem wb_shr {n k : Nat} (hn : n < 2 ^ 64) (hk : k < 64) : ((lN n).toUInt64 >>> ((nI k).toInt64.toUInt64 &&& Int64.toUInt64 63)).toInt64 = lN (n / 2 ^ k) := by
  rw [wb_cu k hk]
  apply wb_inj
  apply BitVec.eq_of_toNat_eq
  show ((lN n).toUInt64 >>> UInt64.ofNat k).toNat = (BitVec.ofNat 64 _).toNat
  have h1 : (UInt64.ofNat k).toNat = k := by
    show (BitVec.ofNat 64 k).toNat = k
    rw [BitVec.toNat_ofNat, Nat.mod_eq_of_lt (by omega)]
  have h2 : (lN n).toUInt64.toNat = n := wb_tn hn
  rw [UInt64.toNat_shiftRight, h1, h2, Nat.mod_eq_of_lt hk, Nat.shiftRight_eq_div_pow, BitVec.toNat_ofNat, Nat.mod_eq_of_lt (Nat.lt_of_le_of_lt (Nat.div_le_self _ _) hn)]
theorem wb_shl (n : Nat) {k : Nat} (hk : k < 64) : lN n <<< ((nI k).toInt64 &&& 63) = lN (n * 2 ^ k) := by
  rw [wb_c k hk]
  apply wb_inj
  rw [Int64.toBitVec_shiftLeft, wb_tb, wb_tb, wb_tb, wb_sm k hk]
  apply BitVec.eq_of_toNat_eq
  rw [BitVec.shiftLeft_eq', BitVec.toNat_shiftLeft, BitVec.toNat_ofNat, BitVec.toNat_ofNat, BitVec.toNat_ofNat, Nat.mod_eq_of_lt (show k < 2 ^ 64 by omega), Nat.shiftLeft_eq, Nat.mul_mod, Nat.mod_mod, ← Nat.mul_mod]
theorem wb_and {a b : Nat} (ha : a < 2 ^ 64) (hb : b < 2 ^ 64) : lN a &&& lN b = lN (a &&& b) := by
  apply wb_inj
  rw [Int64.toBitVec_and, wb_tb, wb_tb, wb_tb]
  apply BitVec.eq_of_toNat_eq
  rw [BitVec.toNat_and, BitVec.toNat_ofNat, BitVec.toNat_ofNat, BitVec.toNat_ofNat, Nat.mod_eq_of_lt ha, Nat.mod_eq_of_lt hb, Nat.mod_eq_of_lt (Nat.and_lt_two_pow _ hb)]
theorem wb_or {a b : Nat} (ha : a < 2 ^ 64) (hb : b < 2 ^ 64) : lN a ||| lN b = lN (a ||| b) := by
  apply wb_inj
  rw [Int64.toBitVec_or, wb_tb, wb_tb, wb_tb]
  apply BitVec.eq_of_toNat_eq
  rw [BitVec.toNat_or, BitVec.toNat_ofNat, BitVec.toNat_ofNat, BitVec.toNat_ofNat, Nat.mod_eq_of_lt ha, Nat.mod_eq_of_lt hb, Nat.mod_eq_of_lt (Nat.or_lt_two_pow ha hb)]
theorem wb_mask {n k : Nat} (hn : n < 2 ^ 64) (hk : k < 64) : lN n &&& lN (2 ^ k - 1) = lN (n % 2 ^ k) := by
  rw [wb_and hn (by have := wb_lt2 hk; omega), Nat.and_two_pow_sub_one_eq_mod]
/-- byte k of a long, from the lowest -/
def f_byte (w : Int64) (k : Int) : Int := ((w.toBitVec.toNat / 2 ^ (8 * k).toNat % 256 : Nat) : Int)
theorem f_byte_in (w : Int64) (k : Int) : 0 ≤ f_byte w k ∧ f_byte w k ≤ 255 := by unfold f_byte; omega
theorem w_lN (w : Int64) : w = lN w.toBitVec.toNat := wb_inj (by rw [wb_tb]; simp)
theorem w_nI (k : Int) (h : 0 ≤ k) : Int32.ofInt k = nI k.toNat := by
  obtain ⟨a, rfl⟩ : ∃ a : Nat, k = a := ⟨k.toNat, by omega⟩
  exact (Int32.ofInt_eq_ofNat ..)
theorem w_shr (w : Int64) {s : Int} (h0 : 0 ≤ s) (h1 : s < 64) : (w.toUInt64 >>> ((Int32.ofInt s).toInt64.toUInt64 &&& Int64.toUInt64 63)).toInt64 = lN (w.toBitVec.toNat / 2 ^ s.toNat) := by
  rw [w_nI s h0]
  have := wb_shr (n := w.toBitVec.toNat) (k := s.toNat) w.toBitVec.isLt (by omega)
  rw [← w_lN w] at this
  exact this
theorem w_byteA (w : Int64) {k : Int} : (lN (w.toBitVec.toNat / 2 ^ (8 * k).toNat)).toInt32 &&& Int32.ofInt 255 = Int32.ofInt (f_byte w k) := by
  rw [lN_i, show Int32.ofInt 255 = (255 : Int32) from rfl, pk_and _ 8 (by decide)]
  rw [w_nI _ (f_byte_in w k).1]
  congr 1
  unfold f_byte
  have h1 : ∀ m : Nat, (nI m).toBitVec.toNat = m % 2 ^ 32 := fun m => by show (BitVec.ofNat 32 m).toNat = _; simp
  rw [h1]
  omega
theorem w_byteB (w : Int64) {k : Int} : (lN (w.toBitVec.toNat / 2 ^ (8 * k).toNat) &&& Int64.ofInt 255).toInt32 = Int32.ofInt (f_byte w k) := by
  rw [show Int64.ofInt 255 = lN (2 ^ 8 - 1) from rfl, wb_mask (Nat.lt_of_le_of_lt (Nat.div_le_self _ _) w.toBitVec.isLt) (by decide), lN_i, w_nI _ (f_byte_in w k).1]
  congr 1
/-- paths: numbers of three digits to the base 31 -/
def f_lon (p h : Int) : Int := p * 31 + if h = -9 then 0 else h + 1
def f_path (a b c : Int) : Int := f_lon (f_lon (f_lon 0 a) b) c
def f_head (p k : Int) : Int := if p / (if k = 0 then 961 else if k = 1 then 31 else 1) % 31 = 0 then -9 else p / (if k = 0 then 961 else if k = 1 then 31 else 1) % 31 - 1
def f_hin (p : Int) : Int := if f_head p 2 ≠ -9 then 3 else if f_head p 1 ≠ -9 then 2 else 1
def f_aro (p : Int) : Int := if f_hin p = 3 then p - p % 31 else if f_hin p = 2 then p - p % 961 else 0
def f_page (g f : Int) : Int := if g < 1 ∨ f < 1 then 0 else (g - 1) / f
theorem f_head_in (p k : Int) : -9 ≤ f_head p k ∧ f_head p k ≤ 29 := by
  unfold f_head
  generalize p / (if k = 0 then 961 else if k = 1 then 31 else 1) = z
  split <;> omega
/-- what a head in a path is: -9 for none, or 0 to 29 -/
def f_hd (h : Int) : Prop := h = -9 ∨ 0 ≤ h ∧ h ≤ 29
theorem f_path_heads {a b c : Int} (ha : f_hd a) (hb : f_hd b) (hc : f_hd c) : f_head (f_path a b c) 0 = a ∧ f_head (f_path a b c) 1 = b ∧ f_head (f_path a b c) 2 = c := by
  obtain ⟨x, hx, h1⟩ : ∃ x, x = (if a = -9 then 0 else a + 1) ∧ (x = 0 ∧ a = -9 ∨ 1 ≤ x ∧ x ≤ 30 ∧ a = x - 1) := ⟨_, rfl, by unfold f_hd at ha; split <;> omega⟩
  obtain ⟨y, hy, h2⟩ : ∃ y, y = (if b = -9 then 0 else b + 1) ∧ (y = 0 ∧ b = -9 ∨ 1 ≤ y ∧ y ≤ 30 ∧ b = y - 1) := ⟨_, rfl, by unfold f_hd at hb; split <;> omega⟩
  obtain ⟨z, hz, h3⟩ : ∃ z, z = (if c = -9 then 0 else c + 1) ∧ (z = 0 ∧ c = -9 ∨ 1 ≤ z ∧ z ≤ 30 ∧ c = z - 1) := ⟨_, rfl, by unfold f_hd at hc; split <;> omega⟩
  have e : f_path a b c = (x * 31 + y) * 31 + z := by unfold f_path f_lon; rw [← hx, ← hy, ← hz]; omega
  rw [e]
  unfold f_head
  simp only [if_true, show ((1 : Int) = 0) = False by simp, show ((2 : Int) = 0) = False by simp, show ((2 : Int) = 1) = False by simp, if_false]
  refine ⟨?_, ?_, ?_⟩ <;> split <;> omega
theorem f_path_in {a b c : Int} (ha : f_hd a) (hb : f_hd b) (hc : f_hd c) : 0 ≤ f_path a b c ∧ f_path a b c ≤ 29790 := by
  unfold f_path f_lon f_hd at *
  split <;> split <;> split <;> omega
set_option maxHeartbeats 4000000 in
theorem s_isWithin {G : j_G} {X : k_X} {n : Nat} {σ : k_St} {f m c : Int} (hf : -2147483648 ≤ f ∧ f ≤ 2147483647) (hm : -2147483648 ≤ m ∧ m ≤ 2147483647) (hc : 0 ≤ c ∧ c ≤ 1000000) : k_run G X mX11_isWithin [j_i f, j_i m, j_i c] n σ 0 0 (k_b n σ (0 ≤ f ∧ 0 ≤ m ∧ m ≤ c ∧ f ≤ c - m)) := by
  refine k_enter (by decide +kernel) (Nat.le_of_ble_eq_true rfl) ?_
  show j_at _ _ _ [(0, j_i f), (1, j_i m), (2, j_i c)] [] _ _ _ _
  refine a_iload_n (pc := 0) (i := 0) (by decide +kernel) rfl ?_
  refine a_if_lt (pc := 1) (off := 23) (tgt := 24) (by decide +kernel) (by decide) (by omega) (fun c1 => ?_) (fun c1 => ?_)
  · refine a_iconst (pc := 24) (n := 0) (by decide +kernel) ?_
    refine a_zreturn (pc := 25) (by decide +kernel) rfl (by omega) ?_
    refine k_ret ?_
    exact k_bn (by omega)
  · refine a_iload_n (pc := 4) (i := 1) (by decide +kernel) rfl ?_
    refine a_if_lt (pc := 5) (off := 19) (tgt := 24) (by decide +kernel) (by decide) (by omega) (fun c5 => ?_) (fun c5 => ?_)
    · refine a_iconst (pc := 24) (n := 0) (by decide +kernel) ?_
      refine a_zreturn (pc := 25) (by decide +kernel) rfl (by omega) ?_
      refine k_ret ?_
      exact k_bn (by omega)
    · refine a_iload_n (pc := 8) (i := 1) (by decide +kernel) rfl ?_
      refine a_iload_n (pc := 9) (i := 2) (by decide +kernel) rfl ?_
      refine a_icmp_gt (pc := 10) (off := 14) (tgt := 24) (by decide +kernel) (by decide) (by omega) (by omega) (fun c10 => ?_) (fun c10 => ?_)
      · refine a_iconst (pc := 24) (n := 0) (by decide +kernel) ?_
        refine a_zreturn (pc := 25) (by decide +kernel) rfl (by omega) ?_
        refine k_ret ?_
        exact k_bn (by omega)
      · refine a_iload_n (pc := 13) (i := 0) (by decide +kernel) rfl ?_
        refine a_iload_n (pc := 14) (i := 2) (by decide +kernel) rfl ?_
        refine a_iload_n (pc := 15) (i := 1) (by decide +kernel) rfl ?_
        refine a_isub (pc := 16) (by decide +kernel) ?_
        refine a_icmp_gt (pc := 17) (off := 7) (tgt := 24) (by decide +kernel) (by decide) (by omega) (by omega) (fun c17 => ?_) (fun c17 => ?_)
        · refine a_iconst (pc := 24) (n := 0) (by decide +kernel) ?_
          refine a_zreturn (pc := 25) (by decide +kernel) rfl (by omega) ?_
          refine k_ret ?_
          exact k_bn (by omega)
        · refine a_iconst (pc := 20) (n := 1) (by decide +kernel) ?_
          refine a_goto (pc := 21) (off := 4) (tgt := 25) (by decide +kernel) (by decide) ?_
          refine a_zreturn (pc := 25) (by decide +kernel) rfl (by omega) ?_
          refine k_ret ?_
          exact k_by (by omega)
set_option maxHeartbeats 4000000 in
theorem s_pageOfGap {G : j_G} {X : k_X} {n : Nat} {σ : k_St} {g f : Int} (hg : -2147483648 ≤ g ∧ g ≤ 2147483647) (hf : -2147483648 ≤ f ∧ f ≤ 2147483647) : k_run G X mX11_pageOfGap [j_i g, j_i f] n σ 0 0 (k_is n σ (some (j_i (f_page g f)))) := by
  refine k_enter (by decide +kernel) (Nat.le_of_ble_eq_true rfl) ?_
  show j_at _ _ _ [(0, j_i g), (1, j_i f)] [] _ _ _ _
  refine a_iload_n (pc := 0) (i := 0) (by decide +kernel) rfl ?_
  refine a_iconst (pc := 1) (n := 1) (by decide +kernel) ?_
  refine a_icmp_lt (pc := 2) (off := 8) (tgt := 10) (by decide +kernel) (by decide) (by omega) (by omega) (fun c2 => ?_) (fun c2 => ?_)
  · refine a_iconst (pc := 10) (n := 0) (by decide +kernel) ?_
    refine a_goto (pc := 11) (off := 8) (tgt := 19) (by decide +kernel) (by decide) ?_
    refine a_ireturn (pc := 19) (by decide +kernel) rfl ?_
    refine k_ret ?_
    refine ⟨?_, rfl, rfl⟩
    unfold f_page
    first | rw [if_pos (by omega)] | rw [if_neg (by omega)]
  · refine a_iload_n (pc := 5) (i := 1) (by decide +kernel) rfl ?_
    refine a_iconst (pc := 6) (n := 1) (by decide +kernel) ?_
    refine a_icmp_ge (pc := 7) (off := 7) (tgt := 14) (by decide +kernel) (by decide) (by omega) (by omega) (fun c7 => ?_) (fun c7 => ?_)
    · refine a_iload_n (pc := 14) (i := 0) (by decide +kernel) rfl ?_
      refine a_iconst (pc := 15) (n := 1) (by decide +kernel) ?_
      refine a_isub (pc := 16) (by decide +kernel) ?_
      refine a_iload_n (pc := 17) (i := 1) (by decide +kernel) rfl ?_
      refine a_idiv (pc := 18) (by decide +kernel) (by omega) (by omega) ?_
      refine a_ireturn (pc := 19) (by decide +kernel) rfl ?_
      refine k_ret ?_
      refine ⟨?_, rfl, rfl⟩
      unfold f_page
      first | rw [if_pos (by omega)] | rw [if_neg (by omega)]
    · refine a_iconst (pc := 10) (n := 0) (by decide +kernel) ?_
      refine a_goto (pc := 11) (off := 8) (tgt := 19) (by decide +kernel) (by decide) ?_
      refine a_ireturn (pc := 19) (by decide +kernel) rfl ?_
      refine k_ret ?_
      refine ⟨?_, rfl, rfl⟩
      unfold f_page
      first | rw [if_pos (by omega)] | rw [if_neg (by omega)]
set_option maxHeartbeats 4000000 in
theorem s_longer {G : j_G} {X : k_X} {n : Nat} {σ : k_St} {p h : Int} (hh : -2147483648 ≤ h ∧ h ≤ 2147483647) : k_run G X mX11_longer [j_i p, j_i h] n σ 0 0 (k_is n σ (some (j_i (f_lon p h)))) := by
  refine k_enter (by decide +kernel) (Nat.le_of_ble_eq_true rfl) ?_
  show j_at _ _ _ [(0, j_i p), (1, j_i h)] [] _ _ _ _
  refine a_iload_n (pc := 0) (i := 0) (by decide +kernel) rfl ?_
  refine a_bipush (pc := 1) (n := 31) (by decide +kernel) rfl ?_
  refine a_imul (pc := 3) (by decide +kernel) ?_
  refine a_iload_n (pc := 4) (i := 1) (by decide +kernel) rfl ?_
  refine a_bipush (pc := 5) (n := (-9)) (by decide +kernel) rfl ?_
  refine a_icmp_ne (pc := 7) (off := 7) (tgt := 14) (by decide +kernel) (by decide) (by omega) (by omega) (fun c7 => ?_) (fun c7 => ?_)
  · refine a_iload_n (pc := 14) (i := 1) (by decide +kernel) rfl ?_
    refine a_iconst (pc := 15) (n := 1) (by decide +kernel) ?_
    refine a_iadd (pc := 16) (by decide +kernel) ?_
    refine a_iadd (pc := 17) (by decide +kernel) ?_
    refine a_ireturn (pc := 18) (by decide +kernel) rfl ?_
    refine k_ret ?_
    refine ⟨?_, rfl, rfl⟩
    unfold f_lon
    first | rw [if_pos (by omega)] | rw [if_neg (by omega)]
  · refine a_iconst (pc := 10) (n := 0) (by decide +kernel) ?_
    refine a_goto (pc := 11) (off := 6) (tgt := 17) (by decide +kernel) (by decide) ?_
    refine a_iadd (pc := 17) (by decide +kernel) ?_
    refine a_ireturn (pc := 18) (by decide +kernel) rfl ?_
    refine k_ret ?_
    refine ⟨?_, rfl, rfl⟩
    unfold f_lon
    first | rw [if_pos (by omega)] | rw [if_neg (by omega)]
set_option maxHeartbeats 4000000 in
theorem s_pathOf {G : j_G} {X : k_X} {n : Nat} {σ : k_St} {a b c : Int} (ha : -2147483648 ≤ a ∧ a ≤ 2147483647) (hb : -2147483648 ≤ b ∧ b ≤ 2147483647) (hc : -2147483648 ≤ c ∧ c ≤ 2147483647) : k_run G X mX11_pathOf [j_i a, j_i b, j_i c] n σ 0 0 (k_is n σ (some (j_i (f_path a b c)))) := by
  refine k_enter (by decide +kernel) (Nat.le_of_ble_eq_true rfl) ?_
  show j_at _ _ _ [(0, j_i a), (1, j_i b), (2, j_i c)] [] _ _ _ _
  refine a_iconst (pc := 0) (n := 0) (by decide +kernel) ?_
  refine a_iload_n (pc := 1) (i := 0) (by decide +kernel) rfl ?_
  refine b_pureS (pc := 2) [j_i 0, j_i a] [] ml_X11_379 (by decide +kernel) rfl rfl (Nat.le_of_ble_eq_true rfl) (j_fitI rfl rfl) (s_longer (by omega)) ?_
  show j_at _ _ _ [(0, j_i a), (1, j_i b), (2, j_i c)] [j_i (f_lon 0 a)] _ _ _ _
  refine a_iload_n (pc := 5) (i := 1) (by decide +kernel) rfl ?_
  refine b_pureS (pc := 6) [j_i (f_lon 0 a), j_i b] [] ml_X11_379 (by decide +kernel) rfl rfl (Nat.le_of_ble_eq_true rfl) (j_fitI rfl rfl) (s_longer (by omega)) ?_
  show j_at _ _ _ [(0, j_i a), (1, j_i b), (2, j_i c)] [j_i (f_lon (f_lon 0 a) b)] _ _ _ _
  refine a_iload_n (pc := 9) (i := 2) (by decide +kernel) rfl ?_
  refine b_pureS (pc := 10) [j_i (f_lon (f_lon 0 a) b), j_i c] [] ml_X11_379 (by decide +kernel) rfl rfl (Nat.le_of_ble_eq_true rfl) (j_fitI rfl rfl) (s_longer (by omega)) ?_
  show j_at _ _ _ [(0, j_i a), (1, j_i b), (2, j_i c)] [j_i (f_lon (f_lon (f_lon 0 a) b) c)] _ _ _ _
  refine a_ireturn (pc := 13) (by decide +kernel) rfl ?_
  refine k_ret ?_
  exact ⟨rfl, rfl, rfl⟩
set_option maxHeartbeats 4000000 in
theorem s_headOf {G : j_G} {X : k_X} {n : Nat} {σ : k_St} {p k : Int} (hp : 0 ≤ p ∧ p ≤ 2147483647) (hk : -2147483648 ≤ k ∧ k ≤ 2147483647) : k_run G X mX11_headOf [j_i p, j_i k] n σ 0 0 (k_is n σ (some (j_i (f_head p k)))) := by
  refine k_enter (by decide +kernel) (Nat.le_of_ble_eq_true rfl) ?_
  show j_at _ _ _ [(0, j_i p), (1, j_i k)] [] _ _ _ _
  refine a_iload_n (pc := 0) (i := 1) (by decide +kernel) rfl ?_
  refine a_if_ne (pc := 1) (off := 9) (tgt := 10) (by decide +kernel) (by decide) (by omega) (fun c1 => ?_) (fun c1 => ?_)
  · refine a_iload_n (pc := 10) (i := 1) (by decide +kernel) rfl ?_
    refine a_iconst (pc := 11) (n := 1) (by decide +kernel) ?_
    refine a_icmp_ne (pc := 12) (off := 8) (tgt := 20) (by decide +kernel) (by decide) (by omega) (by omega) (fun c12 => ?_) (fun c12 => ?_)
    · refine a_iconst (pc := 20) (n := 1) (by decide +kernel) ?_
      refine a_istore_n (pc := 21) (i := 2) (lv' := [(0, j_i p), (1, j_i k), (2, j_i 1)]) (by decide +kernel) (Nat.le_of_ble_eq_true rfl) rfl ?_
      refine a_iload_n (pc := 22) (i := 0) (by decide +kernel) rfl ?_
      refine a_iload_n (pc := 23) (i := 2) (by decide +kernel) rfl ?_
      refine a_idiv (pc := 24) (by decide +kernel) (by omega) (by omega) ?_
      refine a_bipush (pc := 25) (n := 31) (by decide +kernel) rfl ?_
      refine a_irem (pc := 27) (by decide +kernel) (by omega) (by omega) ?_
      refine a_istore_n (pc := 28) (i := 3) (lv' := [(0, j_i p), (1, j_i k), (2, j_i 1), (3, j_i ((p / 1) % 31))]) (by decide +kernel) (Nat.le_of_ble_eq_true rfl) rfl ?_
      refine a_iload_n (pc := 29) (i := 3) (by decide +kernel) rfl ?_
      refine a_if_ne (pc := 30) (off := 8) (tgt := 38) (by decide +kernel) (by decide) (by omega) (fun c30 => ?_) (fun c30 => ?_)
      · refine a_iload_n (pc := 38) (i := 3) (by decide +kernel) rfl ?_
        refine a_iconst (pc := 39) (n := 1) (by decide +kernel) ?_
        refine a_isub (pc := 40) (by decide +kernel) ?_
        refine a_ireturn (pc := 41) (by decide +kernel) rfl ?_
        refine k_ret ?_
        refine ⟨?_, rfl, rfl⟩
        unfold f_head
        first | rw [if_pos c1] | (rw [if_neg c1, if_pos c12]) | (rw [if_neg c1, if_neg c12])
        first | rw [if_pos c30] | rw [if_neg c30]
      · refine a_bipush (pc := 33) (n := (-9)) (by decide +kernel) rfl ?_
        refine a_goto (pc := 35) (off := 6) (tgt := 41) (by decide +kernel) (by decide) ?_
        refine a_ireturn (pc := 41) (by decide +kernel) rfl ?_
        refine k_ret ?_
        refine ⟨?_, rfl, rfl⟩
        unfold f_head
        first | rw [if_pos c1] | (rw [if_neg c1, if_pos c12]) | (rw [if_neg c1, if_neg c12])
        first | rw [if_pos c30] | rw [if_neg c30]
    · refine a_bipush (pc := 15) (n := 31) (by decide +kernel) rfl ?_
      refine a_goto (pc := 17) (off := 4) (tgt := 21) (by decide +kernel) (by decide) ?_
      refine a_istore_n (pc := 21) (i := 2) (lv' := [(0, j_i p), (1, j_i k), (2, j_i 31)]) (by decide +kernel) (Nat.le_of_ble_eq_true rfl) rfl ?_
      refine a_iload_n (pc := 22) (i := 0) (by decide +kernel) rfl ?_
      refine a_iload_n (pc := 23) (i := 2) (by decide +kernel) rfl ?_
      refine a_idiv (pc := 24) (by decide +kernel) (by omega) (by omega) ?_
      refine a_bipush (pc := 25) (n := 31) (by decide +kernel) rfl ?_
      refine a_irem (pc := 27) (by decide +kernel) (by omega) (by omega) ?_
      refine a_istore_n (pc := 28) (i := 3) (lv' := [(0, j_i p), (1, j_i k), (2, j_i 31), (3, j_i ((p / 31) % 31))]) (by decide +kernel) (Nat.le_of_ble_eq_true rfl) rfl ?_
      refine a_iload_n (pc := 29) (i := 3) (by decide +kernel) rfl ?_
      refine a_if_ne (pc := 30) (off := 8) (tgt := 38) (by decide +kernel) (by decide) (by omega) (fun c30 => ?_) (fun c30 => ?_)
      · refine a_iload_n (pc := 38) (i := 3) (by decide +kernel) rfl ?_
        refine a_iconst (pc := 39) (n := 1) (by decide +kernel) ?_
        refine a_isub (pc := 40) (by decide +kernel) ?_
        refine a_ireturn (pc := 41) (by decide +kernel) rfl ?_
        refine k_ret ?_
        refine ⟨?_, rfl, rfl⟩
        unfold f_head
        first | rw [if_pos c1] | (rw [if_neg c1, if_pos c12]) | (rw [if_neg c1, if_neg c12])
        first | rw [if_pos c30] | rw [if_neg c30]
      · refine a_bipush (pc := 33) (n := (-9)) (by decide +kernel) rfl ?_
        refine a_goto (pc := 35) (off := 6) (tgt := 41) (by decide +kernel) (by decide) ?_
        refine a_ireturn (pc := 41) (by decide +kernel) rfl ?_
        refine k_ret ?_
        refine ⟨?_, rfl, rfl⟩
        unfold f_head
        first | rw [if_pos c1] | (rw [if_neg c1, if_pos c12]) | (rw [if_neg c1, if_neg c12])
        first | rw [if_pos c30] | rw [if_neg c30]
  · refine a_sipush (pc := 4) (n := 961) (by decide +kernel) rfl ?_
    refine a_goto (pc := 7) (off := 14) (tgt := 21) (by decide +kernel) (by decide) ?_
    refine a_istore_n (pc := 21) (i := 2) (lv' := [(0, j_i p), (1, j_i k), (2, j_i 961)]) (by decide +kernel) (Nat.le_of_ble_eq_true rfl) rfl ?_
    refine a_iload_n (pc := 22) (i := 0) (by decide +kernel) rfl ?_
    refine a_iload_n (pc := 23) (i := 2) (by decide +kernel) rfl ?_
    refine a_idiv (pc := 24) (by decide +kernel) (by omega) (by omega) ?_
    refine a_bipush (pc := 25) (n := 31) (by decide +kernel) rfl ?_
    refine a_irem (pc := 27) (by decide +kernel) (by omega) (by omega) ?_
    refine a_istore_n (pc := 28) (i := 3) (lv' := [(0, j_i p), (1, j_i k), (2, j_i 961), (3, j_i ((p / 961) % 31))]) (by decide +kernel) (Nat.le_of_ble_eq_true rfl) rfl ?_
    refine a_iload_n (pc := 29) (i := 3) (by decide +kernel) rfl ?_
    refine a_if_ne (pc := 30) (off := 8) (tgt := 38) (by decide +kernel) (by decide) (by omega) (fun c30 => ?_) (fun c30 => ?_)
    · refine a_iload_n (pc := 38) (i := 3) (by decide +kernel) rfl ?_
      refine a_iconst (pc := 39) (n := 1) (by decide +kernel) ?_
      refine a_isub (pc := 40) (by decide +kernel) ?_
      refine a_ireturn (pc := 41) (by decide +kernel) rfl ?_
      refine k_ret ?_
      refine ⟨?_, rfl, rfl⟩
      unfold f_head
      first | rw [if_pos c1] | (rw [if_neg c1, if_pos c12]) | (rw [if_neg c1, if_neg c12])
      first | rw [if_pos c30] | rw [if_neg c30]
    · refine a_bipush (pc := 33) (n := (-9)) (by decide +kernel) rfl ?_
      refine a_goto (pc := 35) (off := 6) (tgt := 41) (by decide +kernel) (by decide) ?_
      refine a_ireturn (pc := 41) (by decide +kernel) rfl ?_
      refine k_ret ?_
      refine ⟨?_, rfl, rfl⟩
      unfold f_head
      first | rw [if_pos c1] | (rw [if_neg c1, if_pos c12]) | (rw [if_neg c1, if_neg c12])
      first | rw [if_pos c30] | rw [if_neg c30]
set_option maxHeartbeats 4000000 in
theorem s_headsIn {G : j_G} {X : k_X} {n : Nat} {σ : k_St} {p : Int} (hp : 0 ≤ p ∧ p ≤ 2147483647) : k_run G X mX11_headsIn [j_i p] n σ 0 0 (k_is n σ (some (j_i (f_hin p)))) := by
  refine k_enter (by decide +kernel) (Nat.le_of_ble_eq_true rfl) ?_
  show j_at _ _ _ [(0, j_i p)] [] _ _ _ _
  refine a_iload_n (pc := 0) (i := 0) (by decide +kernel) rfl ?_
  refine a_iconst (pc := 1) (n := 2) (by decide +kernel) ?_
  refine b_pureS (pc := 2) [j_i p, j_i 2] [] ml_X11_290 (by decide +kernel) rfl rfl (Nat.le_of_ble_eq_true rfl) (j_fitI rfl rfl) (s_headOf (by omega) (by omega)) ?_
  have qh0 := f_head_in p 2
  show j_at _ _ _ [(0, j_i p)] [j_i (f_head p 2)] _ _ _ _
  refine a_bipush (pc := 5) (n := (-9)) (by decide +kernel) rfl ?_
  refine a_icmp_eq (pc := 7) (off := 7) (tgt := 14) (by decide +kernel) (by decide) (by omega) (by omega) (fun c7 => ?_) (fun c7 => ?_)
  · refine a_iload_n (pc := 14) (i := 0) (by decide +kernel) rfl ?_
    refine a_iconst (pc := 15) (n := 1) (by decide +kernel) ?_
    refine b_pureS (pc := 16) [j_i p, j_i 1] [] ml_X11_290 (by decide +kernel) rfl rfl (Nat.le_of_ble_eq_true rfl) (j_fitI rfl rfl) (s_headOf (by omega) (by omega)) ?_
    have qh0 := f_head_in p 1
    show j_at _ _ _ [(0, j_i p)] [j_i (f_head p 1)] _ _ _ _
    refine a_bipush (pc := 19) (n := (-9)) (by decide +kernel) rfl ?_
    refine a_icmp_eq (pc := 21) (off := 7) (tgt := 28) (by decide +kernel) (by decide) (by omega) (by omega) (fun c21 => ?_) (fun c21 => ?_)
    · refine a_iconst (pc := 28) (n := 1) (by decide +kernel) ?_
      refine a_ireturn (pc := 29) (by decide +kernel) rfl ?_
      refine k_ret ?_
      refine ⟨?_, rfl, rfl⟩
      unfold f_hin
      first | rw [if_pos (by omega)] | rw [if_neg (by omega), if_pos (by omega)] | rw [if_neg (by omega), if_neg (by omega)]
    · refine a_iconst (pc := 24) (n := 2) (by decide +kernel) ?_
      refine a_goto (pc := 25) (off := 4) (tgt := 29) (by decide +kernel) (by decide) ?_
      refine a_ireturn (pc := 29) (by decide +kernel) rfl ?_
      refine k_ret ?_
      refine ⟨?_, rfl, rfl⟩
      unfold f_hin
      first | rw [if_pos (by omega)] | rw [if_neg (by omega), if_pos (by omega)] | rw [if_neg (by omega), if_neg (by omega)]
  · refine a_iconst (pc := 10) (n := 3) (by decide +kernel) ?_
    refine a_goto (pc := 11) (off := 18) (tgt := 29) (by decide +kernel) (by decide) ?_
    refine a_ireturn (pc := 29) (by decide +kernel) rfl ?_
    refine k_ret ?_
    refine ⟨?_, rfl, rfl⟩
    unfold f_hin
    first | rw [if_pos (by omega)] | rw [if_neg (by omega), if_pos (by omega)] | rw [if_neg (by omega), if_neg (by omega)]
theorem f_hin_in (p : Int) : 1 ≤ f_hin p ∧ f_hin p ≤ 3 := by unfold f_hin; split <;> (try split) <;> omega
set_option maxHeartbeats 4000000 in
theorem s_around {G : j_G} {X : k_X} {n : Nat} {σ : k_St} {p : Int} (hp : 0 ≤ p ∧ p ≤ 2147483647) : k_run G X mX11_around [j_i p] n σ 0 0 (k_is n σ (some (j_i (f_aro p)))) := by
  refine k_enter (by decide +kernel) (Nat.le_of_ble_eq_true rfl) ?_
  show j_at _ _ _ [(0, j_i p)] [] _ _ _ _
  refine a_iload_n (pc := 0) (i := 0) (by decide +kernel) rfl ?_
  refine b_pureS (pc := 1) [j_i p] [] ml_X11_302 (by decide +kernel) rfl rfl (Nat.le_of_ble_eq_true rfl) (j_fitI rfl rfl) (s_headsIn (by omega)) ?_
  have qi := f_hin_in p
  show j_at _ _ _ [(0, j_i p)] [j_i (f_hin p)] _ _ _ _
  refine a_istore_n (pc := 4) (i := 1) (lv' := [(0, j_i p), (1, j_i (f_hin p))]) (by decide +kernel) (Nat.le_of_ble_eq_true rfl) rfl ?_
  refine a_iload_n (pc := 5) (i := 1) (by decide +kernel) rfl ?_
  refine a_iconst (pc := 6) (n := 3) (by decide +kernel) ?_
  refine a_icmp_ne (pc := 7) (off := 10) (tgt := 17) (by decide +kernel) (by decide) (by omega) (by omega) (fun c7 => ?_) (fun c7 => ?_)
  · refine a_iload_n (pc := 17) (i := 1) (by decide +kernel) rfl ?_
    refine a_iconst (pc := 18) (n := 2) (by decide +kernel) ?_
    refine a_icmp_ne (pc := 19) (off := 13) (tgt := 32) (by decide +kernel) (by decide) (by omega) (by omega) (fun c19 => ?_) (fun c19 => ?_)
    · refine a_iconst (pc := 32) (n := 0) (by decide +kernel) ?_
      refine a_ireturn (pc := 33) (by decide +kernel) rfl ?_
      refine k_ret ?_
      refine ⟨?_, rfl, rfl⟩
      unfold f_aro
      first | rw [if_pos (by omega)] | rw [if_neg (by omega), if_pos (by omega)] | rw [if_neg (by omega), if_neg (by omega)]
    · refine a_iload_n (pc := 22) (i := 0) (by decide +kernel) rfl ?_
      refine a_iload_n (pc := 23) (i := 0) (by decide +kernel) rfl ?_
      refine a_sipush (pc := 24) (n := 961) (by decide +kernel) rfl ?_
      refine a_irem (pc := 27) (by decide +kernel) (by omega) (by omega) ?_
      refine a_isub (pc := 28) (by decide +kernel) ?_
      refine a_goto (pc := 29) (off := 4) (tgt := 33) (by decide +kernel) (by decide) ?_
      refine a_ireturn (pc := 33) (by decide +kernel) rfl ?_
      refine k_ret ?_
      refine ⟨?_, rfl, rfl⟩
      unfold f_aro
      first | rw [if_pos (by omega)] | rw [if_neg (by omega), if_pos (by omega)] | rw [if_neg (by omega), if_neg (by omega)]
  · refine a_iload_n (pc := 10) (i := 0) (by decide +kernel) rfl ?_
    refine a_iload_n (pc := 11) (i := 0) (by decide +kernel) rfl ?_
    refine a_bipush (pc := 12) (n := 31) (by decide +kernel) rfl ?_
    refine a_irem (pc := 14) (by decide +kernel) (by omega) (by omega) ?_
    refine a_isub (pc := 15) (by decide +kernel) ?_
    refine a_ireturn (pc := 16) (by decide +kernel) rfl ?_
    refine k_ret ?_
    refine ⟨?_, rfl, rfl⟩
    unfold f_aro
    first | rw [if_pos (by omega)] | rw [if_neg (by omega), if_pos (by omega)] | rw [if_neg (by omega), if_neg (by omega)]
set_option maxHeartbeats 4000000 in
theorem s_byteOf {G : j_G} {X : k_X} {n : Nat} {σ : k_St} {w : Int64} {k : Int} (hk : 0 ≤ k ∧ k < 8) : k_run G X mX11_byteOf [.long w, j_i k] n σ 0 0 (k_is n σ (some (j_i (f_byte w k)))) := by
  refine k_enter (by decide +kernel) (Nat.le_of_ble_eq_true rfl) ?_
  show j_at _ _ _ [(0, .long w), (2, j_i k)] [] _ _ _ _
  refine a_lload_n (pc := 0) (i := 0) (by decide +kernel) rfl ?_
  refine a_bipush (pc := 1) (n := 8) (by decide +kernel) rfl ?_
  refine a_iload_n (pc := 3) (i := 2) (by decide +kernel) rfl ?_
  refine a_imul (pc := 4) (by decide +kernel) ?_
  refine a_lushr (pc := 5) (v := lN (w.toBitVec.toNat / 2 ^ (8 * k).toNat)) (by decide +kernel) (w_shr w (by omega) (by omega)) ?_
  refine a_l2i (pc := 6) (by decide +kernel) rfl ?_
  refine a_sipush (pc := 7) (n := 255) (by decide +kernel) rfl ?_
  refine a_iand (pc := 10) (by decide +kernel) ?_
  rw [w_byteA]
  refine a_ireturn (pc := 11) (by decide +kernel) rfl ?_
  refine k_ret ?_
  exact ⟨rfl, rfl, rfl⟩
