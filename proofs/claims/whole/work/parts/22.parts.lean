set_option maxHeartbeats 4000000 in
theorem s_restore0 {G : j_G} {X : k_X} {n : Nat} {σ : k_St} (hn : 101 ≤ n) (hq : 0 ≤ σ.2.1 22 1 ∧ σ.2.1 22 1 < 40) (hc : σ.2.1 22 2 = 0) : k_run G X mX0_restore [.ref 22, .ref 6] n σ 0 0 (k_is n σ (some (j_i 0))) := by
  obtain ⟨s, hx⟩ : ∃ s : Nat, (σ.2.1 22 1 + 40 - 1) % 40 = (s : Int) := ⟨((σ.2.1 22 1 + 40 - 1) % 40).toNat, by omega⟩
  have hs : s < 40 := by omega
  cases hr : σ.2.2 23 (s : Int) with
  | none =>
    refine k_enter (by decide +kernel) (Nat.le_of_ble_eq_true rfl) ?_
    show j_at _ _ _ [(0, .ref 22), (1, .ref 6)] [] _ _ _ _
    refine a_aload_n (pc := 0) (i := 0) (by decide +kernel) rfl ?_
    refine b_getI (pc := 1) fl_X0_17 (by decide +kernel) (sh_22 hn) rfl ?_
    refine a_bipush (pc := 4) (n := 40) (by decide +kernel) rfl ?_
    refine a_iadd (pc := 6) (by decide +kernel) ?_
    refine a_iconst (pc := 7) (n := 1) (by decide +kernel) ?_
    refine a_isub (pc := 8) (by decide +kernel) ?_
    refine a_bipush (pc := 9) (n := 40) (by decide +kernel) rfl ?_
    refine a_irem (pc := 11) (by decide +kernel) (by omega) (by omega) ?_
    rw [hx]
    refine a_istore_n (pc := 12) (i := 2) (lv' := [(0, .ref 22), (1, .ref 6), (2, j_i ((s : Int)))]) (by decide +kernel) (Nat.le_of_ble_eq_true rfl) rfl ?_
    refine a_aload_n (pc := 13) (i := 0) (by decide +kernel) rfl ?_
    refine b_getR (pc := 14) (b := 23) fl_X0_11 (by decide +kernel) (sh_22 hn) rfl ?_
    refine a_iload_n (pc := 17) (i := 2) (by decide +kernel) rfl ?_
    refine b_aaloadN (pc := 18) (by decide +kernel) (sh_23 hn) (by omega) (by omega) (by omega) hr ?_
    refine a_astore_nN (pc := 19) (i := 3) (lv' := [(0, .ref 22), (1, .ref 6), (2, j_i ((s : Int))), (3, .null)]) (by decide +kernel) (Nat.le_of_ble_eq_true rfl) rfl ?_
    refine a_aload_n (pc := 20) (i := 0) (by decide +kernel) rfl ?_
    refine b_getI (pc := 21) fl_X0_21 (by decide +kernel) (sh_22 hn) rfl ?_
    refine a_if_eq (pc := 24) (off := 7) (tgt := 31) (by decide +kernel) (by decide) (by omega) (fun c24 => ?_) (fun c24 => ?_)
    · refine a_iconst (pc := 31) (n := 0) (by decide +kernel) ?_
      refine a_zreturn (pc := 32) (by decide +kernel) rfl (by omega) ?_
      refine k_ret ?_
      exact ⟨rfl, rfl, rfl⟩
    · exfalso; omega
  | some b9 =>
    refine k_enter (by decide +kernel) (Nat.le_of_ble_eq_true rfl) ?_
    show j_at _ _ _ [(0, .ref 22), (1, .ref 6)] [] _ _ _ _
    refine a_aload_n (pc := 0) (i := 0) (by decide +kernel) rfl ?_
    refine b_getI (pc := 1) fl_X0_17 (by decide +kernel) (sh_22 hn) rfl ?_
    refine a_bipush (pc := 4) (n := 40) (by decide +kernel) rfl ?_
    refine a_iadd (pc := 6) (by decide +kernel) ?_
    refine a_iconst (pc := 7) (n := 1) (by decide +kernel) ?_
    refine a_isub (pc := 8) (by decide +kernel) ?_
    refine a_bipush (pc := 9) (n := 40) (by decide +kernel) rfl ?_
    refine a_irem (pc := 11) (by decide +kernel) (by omega) (by omega) ?_
    rw [hx]
    refine a_istore_n (pc := 12) (i := 2) (lv' := [(0, .ref 22), (1, .ref 6), (2, j_i ((s : Int)))]) (by decide +kernel) (Nat.le_of_ble_eq_true rfl) rfl ?_
    refine a_aload_n (pc := 13) (i := 0) (by decide +kernel) rfl ?_
    refine b_getR (pc := 14) (b := 23) fl_X0_11 (by decide +kernel) (sh_22 hn) rfl ?_
    refine a_iload_n (pc := 17) (i := 2) (by decide +kernel) rfl ?_
    refine b_aaload (pc := 18) (b := b9) (by decide +kernel) (sh_23 hn) (by omega) (by omega) (by omega) hr ?_
    refine a_astore_n (pc := 19) (i := 3) (lv' := [(0, .ref 22), (1, .ref 6), (2, j_i ((s : Int))), (3, .ref b9)]) (by decide +kernel) (Nat.le_of_ble_eq_true rfl) rfl ?_
    refine a_aload_n (pc := 20) (i := 0) (by decide +kernel) rfl ?_
    refine b_getI (pc := 21) fl_X0_21 (by decide +kernel) (sh_22 hn) rfl ?_
    refine a_if_eq (pc := 24) (off := 7) (tgt := 31) (by decide +kernel) (by decide) (by omega) (fun c24 => ?_) (fun c24 => ?_)
    · refine a_iconst (pc := 31) (n := 0) (by decide +kernel) ?_
      refine a_zreturn (pc := 32) (by decide +kernel) rfl (by omega) ?_
      refine k_ret ?_
      exact ⟨rfl, rfl, rfl⟩
    · exfalso; omega
/-- signs written one behind another: array a, their number in field j of o -/
def e_app (a o j : Nat) (σ : k_St) (x : Int) : k_St := k_sI (k_sA σ a (j_up (σ.1 a) (σ.2.1 o j) x)) o j (σ.2.1 o j + 1)
def e_puts (a o j : Nat) : k_St → List Int → k_St
  | σ, [] => σ
  | σ, x :: l => e_puts a o j (e_app a o j σ x) l
theorem e_puts_app {a o j : Nat} : ∀ {l m : List Int} {σ : k_St}, e_puts a o j σ (l ++ m) = e_puts a o j (e_puts a o j σ l) m
  | [], _, _ => rfl
  | x :: l, m, σ => e_puts_app (l := l) (σ := e_app a o j σ x)
theorem e_app_n {a o j : Nat} {σ : k_St} {x : Int} : (e_app a o j σ x).2.1 o j = σ.2.1 o j + 1 := k_II
theorem e_puts_n {a o j : Nat} : ∀ {l : List Int} {σ : k_St}, (e_puts a o j σ l).2.1 o j = σ.2.1 o j + l.length
  | [], σ => by simp [e_puts]
  | x :: l, σ => by
    show (e_puts a o j (e_app a o j σ x) l).2.1 o j = _
    rw [e_puts_n, e_app_n, List.length_cons]; omega
theorem e_puts_o {a o j c : Nat} (hc : c ≠ a) : ∀ {l : List Int} {σ : k_St}, (e_puts a o j σ l).1 c = σ.1 c
  | [], σ => rfl
  | x :: l, σ => by
    show (e_puts a o j (e_app a o j σ x) l).1 c = _
    rw [e_puts_o hc]; exact k_AN hc
theorem e_puts_f {a o j c k : Nat} (hc : ¬ (c = o ∧ k = j)) : ∀ {l : List Int} {σ : k_St}, (e_puts a o j σ l).2.1 c k = σ.2.1 c k
  | [], σ => rfl
  | x :: l, σ => by
    show (e_puts a o j (e_app a o j σ x) l).2.1 c k = _
    rw [e_puts_f hc]; unfold e_app; rw [k_IN hc]; rfl
theorem e_puts_r {a o j : Nat} : ∀ {l : List Int} {σ : k_St}, (e_puts a o j σ l).2.2 = σ.2.2
  | [], σ => rfl
  | x :: l, σ => e_puts_r (l := l) (σ := e_app a o j σ x)
theorem e_puts_a {a o j : Nat} : ∀ {l : List Int} {σ : k_St} {i : Int}, i < σ.2.1 o j → (e_puts a o j σ l).1 a i = σ.1 a i
  | [], σ, i, _ => rfl
  | x :: l, σ, i, h => by
    show (e_puts a o j (e_app a o j σ x) l).1 a i = _
    rw [e_puts_a (by rw [e_app_n]; omega)]
    show (k_sA σ a _).1 a i = _
    rw [k_AA, j_upN (by omega)]
theorem e_puts_at {a o j : Nat} : ∀ {l : List Int} {σ : k_St} {k : Nat} {x : Int}, l[k]? = some x → (e_puts a o j σ l).1 a (σ.2.1 o j + k) = x
  | [], σ, k, x, h => by simp at h
  | y :: l, σ, 0, x, h => by
    simp at h; subst h
    show (e_puts a o j (e_app a o j σ y) l).1 a _ = _
    rw [e_puts_a (by rw [e_app_n]; omega)]
    show (k_sA σ a _).1 a _ = _
    rw [k_AA]; simp [j_up]
  | y :: l, σ, k + 1, x, h => by
    show (e_puts a o j (e_app a o j σ y) l).1 a _ = _
    have := e_puts_at (a := a) (o := o) (j := j) (l := l) (σ := e_app a o j σ y) (k := k) (x := x) (by simpa using h)
    rw [e_app_n] at this
    rw [show σ.2.1 o j + ((k + 1 : Nat) : Int) = σ.2.1 o j + 1 + (k : Int) by omega]
    exact this
/-- Roman: what each worth writes -/
def f_tbl : List (Int × List Int) := [(1000, [109]), (900, [99, 109]), (500, [100]), (400, [99, 100]), (100, [99]), (90, [120, 99]), (50, [108]), (40, [120, 108]), (10, [120]), (9, [105, 120]), (5, [118]), (4, [105, 118]), (1, [105])]
def f_rom : List (Int × List Int) → Int → List Int
  | [], _ => []
  | q :: t, x => (List.replicate (x / q.1).toNat q.2).flatten ++ f_rom t (x % q.1)
theorem f_rom_ge {v x : Int} {s : List Int} {t : List (Int × List Int)} (hv : 0 < v) (h : v ≤ x) : f_rom ((v, s) :: t) x = s ++ f_rom ((v, s) :: t) (x - v) := by
  show (List.replicate (x / v).toNat s).flatten ++ f_rom t (x % v) = s ++ ((List.replicate ((x - v) / v).toNat s).flatten ++ f_rom t ((x - v) % v))
  have e1 : (x - v) / v = x / v - 1 := by rw [Int.sub_ediv_of_dvd _ (Int.dvd_refl v), Int.ediv_self (by omega)]
  have e2 : (x - v) % v = x % v := by rw [Int.sub_emod, Int.emod_self]; simp
  have e3 : 1 ≤ x / v := (Int.le_ediv_iff_mul_le hv).mpr (by omega)
  rw [e1, e2, show (x / v).toNat = (x / v - 1).toNat + 1 by omega, List.replicate_succ, List.flatten_cons, List.append_assoc]
theorem f_rom_lt {v x : Int} {s : List Int} {t : List (Int × List Int)} (h0 : 0 ≤ x) (h : x < v) : f_rom ((v, s) :: t) x = f_rom t x := by
  show (List.replicate (x / v).toNat s).flatten ++ f_rom t (x % v) = _
  rw [Int.ediv_eq_zero_of_lt h0 h, Int.emod_eq_of_lt h0 h]; rfl
def f_romK (k : Int) (x : Int) : List Int := f_rom (f_tbl.drop k.toNat) x
/-- the class's tables, entry by entry -/
def f_romS (X : k_X) (k : Int) : List Int := if k_rof X 3 k = 32 then [k_rof X 2 k] else [k_rof X 3 k, k_rof X 2 k]
theorem f_rom_k {X : k_X} {k : Int} (h0 : 0 ≤ k) (h1 : k < 13) : f_tbl.drop k.toNat = (k_rof X 1 k, f_romS X k) :: f_tbl.drop (k + 1).toNat ∧ 1 ≤ k_rof X 1 k ∧ k_rof X 1 k ≤ 1000 ∧ 0 ≤ k_rof X 2 k ∧ k_rof X 2 k ≤ 127 ∧ 0 ≤ k_rof X 3 k ∧ k_rof X 3 k ≤ 127 := by
  rcases (show k = 0 ∨ k = 1 ∨ k = 2 ∨ k = 3 ∨ k = 4 ∨ k = 5 ∨ k = 6 ∨ k = 7 ∨ k = 8 ∨ k = 9 ∨ k = 10 ∨ k = 11 ∨ k = 12 by omega) with rfl | rfl | rfl | rfl | rfl | rfl | rfl | rfl | rfl | rfl | rfl | rfl | rfl <;> refine ⟨rfl, ?_⟩ <;> simp [k_rof, k_lst]
theorem f_rom_len : ∀ x : Nat, x < 1300 → (f_rom f_tbl (x : Int)).length ≤ 14 := by decide +kernel
def f_dec (x : Int) : List Int := if 1000 ≤ x then [48 + x / 1000 % 10, 48 + x / 100 % 10, 48 + x / 10 % 10, 48 + x / 1 % 10] else if 100 ≤ x then [48 + x / 100 % 10, 48 + x / 10 % 10, 48 + x / 1 % 10] else if 10 ≤ x then [48 + x / 10 % 10, 48 + x / 1 % 10] else [48 + x / 1 % 10]
theorem f_dec_len (x : Int) : 1 ≤ (f_dec x).length ∧ (f_dec x).length ≤ 4 := by
  unfold f_dec
  split
  · simp
  · split
    · simp
    · split <;> simp
/-- what the parts' cells hold -/
def p_wf (σ : k_St) : Prop := (0 ≤ σ.2.1 24 4 ∧ σ.2.1 24 4 ≤ 8) ∧ ∀ p : Int, 0 ≤ p → p < σ.2.1 24 4 → (0 ≤ σ.1 25 p ∧ σ.1 25 p ≤ 299) ∧ (0 ≤ σ.1 26 p ∧ σ.1 26 p ≤ 2) ∧ (1 ≤ σ.1 27 p ∧ σ.1 27 p ≤ 999) ∧ (-2147483648 ≤ σ.1 28 p ∧ σ.1 28 p ≤ 2147483647)
/-- the part of a page: -9, or the one that begins latest at or ahead of it -/
def p_of (σ : k_St) (g p : Int) : Prop := (p = -9 ∧ ∀ q, 0 ≤ q → q < σ.2.1 24 4 → g < σ.1 25 q) ∨ (0 ≤ p ∧ p < σ.2.1 24 4 ∧ σ.1 25 p ≤ g ∧ ∀ q, 0 ≤ q → q < σ.2.1 24 4 → σ.1 25 q ≤ g → σ.1 25 q ≤ σ.1 25 p)
def p_form (σ : k_St) (p : Int) : Int := if p = -9 then 1 else σ.1 26 p
def p_num (σ : k_St) (p g : Int) : Int := if p = -9 then g + 1 else σ.1 27 p + g - σ.1 25 p
set_option maxHeartbeats 4000000 in
theorem l_partOf {G : j_G} {X : k_X} {n : Nat} {σ : k_St} (hn : 101 ≤ n) (hw : p_wf σ) {g : Int} (hg : -2147483648 ≤ g ∧ g ≤ 2147483647) : ∀ (m : Nat) (i b : Int), 8 - i < (m : Int) → 0 ≤ i → i ≤ σ.2.1 24 4 → ((b = -9 ∧ ∀ q, 0 ≤ q → q < i → g < σ.1 25 q) ∨ (0 ≤ b ∧ b < i ∧ σ.1 25 b ≤ g ∧ ∀ q, 0 ≤ q → q < i → σ.1 25 q ≤ g → σ.1 25 q ≤ σ.1 25 b)) → j_at G mX8_partOf 5 [(0, .ref 24), (1, j_i g), (2, j_i b), (3, j_i i)] [] (k_h X n σ) 0 0 (k_Q X (k_ex n σ (p_of σ g))) := by
  intro m
  induction m with
  | zero => intro i b h1 h2 h3; exact absurd h3 (by have := hw.1; omega)
  | succ m ih =>
    intro i b hm h0 hN hI
    obtain ⟨hc, hv⟩ := id hw
    have hbr : b = -9 ∨ 0 ≤ b ∧ b < i := hI.elim (fun q => Or.inl q.1) (fun q => Or.inr ⟨q.1, q.2.1⟩)
    refine a_iload_n (pc := 5) (i := 3) (by decide +kernel) rfl ?_
    refine a_aload_n (pc := 6) (i := 0) (by decide +kernel) rfl ?_
    refine b_getI (pc := 7) fl_X8_24 (by decide +kernel) (sh_24 hn) rfl ?_
    refine a_icmp_ge (pc := 10) (off := 42) (tgt := 52) (by decide +kernel) (by decide) (by omega) (by omega) (fun c10 => ?_) (fun c10 => ?_)
    · refine a_iload_n (pc := 52) (i := 2) (by decide +kernel) rfl ?_
      refine a_ireturn (pc := 53) (by decide +kernel) rfl ?_
      refine k_ret ?_
      have ei : i = σ.2.1 24 4 := by omega
      rw [ei] at hI
      exact k_exI hI
    · refine a_aload_n (pc := 13) (i := 0) (by decide +kernel) rfl ?_
      refine b_getR (pc := 14) (b := 25) fl_X8_9 (by decide +kernel) (sh_24 hn) rfl ?_
      refine a_iload_n (pc := 17) (i := 3) (by decide +kernel) rfl ?_
      have hvi := hv i h0 (by omega)
      refine b_iaload (pc := 18) (by decide +kernel) (sh_25 hn) (by omega) (by omega) (by omega) ?_
      refine a_iload_n (pc := 19) (i := 1) (by decide +kernel) rfl ?_
      refine a_icmp_gt (pc := 20) (off := 26) (tgt := 46) (by decide +kernel) (by decide) (by omega) (by omega) (fun c20 => ?_) (fun c20 => ?_)
      · refine a_iinc (pc := 46) (i := 3) (n := 1) (x := i) (lv' := [(0, .ref 24), (1, j_i g), (2, j_i b), (3, j_i (i + 1))]) (by decide +kernel) rfl (Nat.le_of_ble_eq_true rfl) rfl ?_
        refine a_goto (pc := 49) (off := -44) (tgt := 5) (by decide +kernel) (by decide) ?_
        refine ih (i + 1) b (by omega) (by omega) (by omega) ?_
        rcases hI with ⟨e1, e2⟩ | ⟨e1, e2, e3, e4⟩
        · refine Or.inl ⟨e1, lt_succ_cases e2 (by omega)⟩
        · exact Or.inr ⟨e1, by omega, e3, lt_succ_cases e4 (by omega)⟩
      · refine a_iload_n (pc := 23) (i := 2) (by decide +kernel) rfl ?_
        refine a_bipush (pc := 24) (n := (-9)) (by decide +kernel) rfl ?_
        have hb9 : b = -9 ∨ 0 ≤ b ∧ b < i := hI.elim (fun q => Or.inl q.1) (fun q => Or.inr ⟨q.1, q.2.1⟩)
        refine a_icmp_eq (pc := 26) (off := 18) (tgt := 44) (by decide +kernel) (by decide) (by omega) (by omega) (fun c26 => ?_) (fun c26 => ?_)
        · refine a_iload_n (pc := 44) (i := 3) (by decide +kernel) rfl ?_
          refine a_istore_n (pc := 45) (i := 2) (lv' := [(0, .ref 24), (1, j_i g), (2, j_i i), (3, j_i i)]) (by decide +kernel) (Nat.le_of_ble_eq_true rfl) rfl ?_
          refine a_iinc (pc := 46) (i := 3) (n := 1) (x := i) (lv' := [(0, .ref 24), (1, j_i g), (2, j_i i), (3, j_i (i + 1))]) (by decide +kernel) rfl (Nat.le_of_ble_eq_true rfl) rfl ?_
          refine a_goto (pc := 49) (off := -44) (tgt := 5) (by decide +kernel) (by decide) ?_
          refine ih (i + 1) i (by omega) (by omega) (by omega) ?_
          rcases hI with ⟨e1, e2⟩ | ⟨e1, e2, e3, e4⟩
          · exact Or.inr ⟨h0, by omega, c20, lt_succ_cases (fun q q0 q1 q2 => by have := e2 q q0 q1; omega) (fun _ => by omega)⟩
          · exact Or.inr ⟨h0, by omega, c20, lt_succ_cases (fun q q0 q1 q2 => by have := e4 q q0 q1 q2; omega) (fun _ => by omega)⟩
        · refine a_aload_n (pc := 29) (i := 0) (by decide +kernel) rfl ?_
          refine b_getR (pc := 30) (b := 25) fl_X8_9 (by decide +kernel) (sh_24 hn) rfl ?_
          refine a_iload_n (pc := 33) (i := 3) (by decide +kernel) rfl ?_
          refine b_iaload (pc := 34) (by decide +kernel) (sh_25 hn) (by omega) (by omega) (by omega) ?_
          refine a_aload_n (pc := 35) (i := 0) (by decide +kernel) rfl ?_
          refine b_getR (pc := 36) (b := 25) fl_X8_9 (by decide +kernel) (sh_24 hn) rfl ?_
          refine a_iload_n (pc := 39) (i := 2) (by decide +kernel) rfl ?_
          have hvb := hv b (by omega) (by omega)
          refine b_iaload (pc := 40) (by decide +kernel) (sh_25 hn) (by omega) (by omega) (by omega) ?_
          refine a_icmp_le (pc := 41) (off := 5) (tgt := 46) (by decide +kernel) (by decide) (by omega) (by omega) (fun c41 => ?_) (fun c41 => ?_)
          · refine a_iinc (pc := 46) (i := 3) (n := 1) (x := i) (lv' := [(0, .ref 24), (1, j_i g), (2, j_i b), (3, j_i (i + 1))]) (by decide +kernel) rfl (Nat.le_of_ble_eq_true rfl) rfl ?_
            refine a_goto (pc := 49) (off := -44) (tgt := 5) (by decide +kernel) (by decide) ?_
            refine ih (i + 1) b (by omega) (by omega) (by omega) ?_
            rcases hI with ⟨e1, e2⟩ | ⟨e1, e2, e3, e4⟩
            · refine Or.inl ⟨e1, lt_succ_cases e2 (by omega)⟩
            · exact Or.inr ⟨e1, by omega, e3, lt_succ_cases e4 (by omega)⟩
          · refine a_iload_n (pc := 44) (i := 3) (by decide +kernel) rfl ?_
            refine a_istore_n (pc := 45) (i := 2) (lv' := [(0, .ref 24), (1, j_i g), (2, j_i i), (3, j_i i)]) (by decide +kernel) (Nat.le_of_ble_eq_true rfl) rfl ?_
            refine a_iinc (pc := 46) (i := 3) (n := 1) (x := i) (lv' := [(0, .ref 24), (1, j_i g), (2, j_i i), (3, j_i (i + 1))]) (by decide +kernel) rfl (Nat.le_of_ble_eq_true rfl) rfl ?_
            refine a_goto (pc := 49) (off := -44) (tgt := 5) (by decide +kernel) (by decide) ?_
            refine ih (i + 1) i (by omega) (by omega) (by omega) ?_
            rcases hI with ⟨e1, e2⟩ | ⟨e1, e2, e3, e4⟩
            · exact Or.inr ⟨h0, by omega, c20, lt_succ_cases (fun q q0 q1 q2 => by have := e2 q q0 q1; omega) (fun _ => by omega)⟩
            · exact Or.inr ⟨h0, by omega, c20, lt_succ_cases (fun q q0 q1 q2 => by have := e4 q q0 q1 q2; omega) (fun _ => by omega)⟩
set_option maxHeartbeats 4000000 in
theorem s_partOf {G : j_G} {X : k_X} {n : Nat} {σ : k_St} (hn : 101 ≤ n) (hw : p_wf σ) {g : Int} (hg : -2147483648 ≤ g ∧ g ≤ 2147483647) : k_run G X mX8_partOf [.ref 24, j_i g] n σ 0 0 (k_ex n σ (p_of σ g)) := by
  obtain ⟨hc, hv⟩ := id hw
  refine k_enter (by decide +kernel) (Nat.le_of_ble_eq_true rfl) ?_
  show j_at _ _ _ [(0, .ref 24), (1, j_i g)] [] _ _ _ _
  refine a_bipush (pc := 0) (n := (-9)) (by decide +kernel) rfl ?_
  refine a_istore_n (pc := 2) (i := 2) (lv' := [(0, .ref 24), (1, j_i g), (2, j_i (-9))]) (by decide +kernel) (Nat.le_of_ble_eq_true rfl) rfl ?_
  refine a_iconst (pc := 3) (n := 0) (by decide +kernel) ?_
  refine a_istore_n (pc := 4) (i := 3) (lv' := [(0, .ref 24), (1, j_i g), (2, j_i (-9)), (3, j_i 0)]) (by decide +kernel) (Nat.le_of_ble_eq_true rfl) rfl ?_
  exact l_partOf hn hw hg 9 0 (-9) (by omega) (by omega) hc.1 (Or.inl ⟨rfl, fun q q0 q1 => absurd q0 (by omega)⟩)
theorem p_of_r {σ : k_St} {g p : Int} (h : p_of σ g p) : p = -9 ∨ 0 ≤ p ∧ p < σ.2.1 24 4 := h.elim (fun q => Or.inl q.1) (fun q => Or.inr ⟨q.1, q.2.1⟩)
set_option maxHeartbeats 4000000 in
theorem s_formOf {G : j_G} {X : k_X} {n : Nat} {σ : k_St} (hn : 101 ≤ n) (hw : p_wf σ) {p : Int} (hp : p = -9 ∨ 0 ≤ p ∧ p < σ.2.1 24 4)  : k_run G X mX8_formOf [.ref 24, j_i p] n σ 0 0 (k_is n σ (some (j_i (p_form σ p)))) := by
  obtain ⟨hc, hv⟩ := id hw
  refine k_enter (by decide +kernel) (Nat.le_of_ble_eq_true rfl) ?_
  show j_at _ _ _ [(0, .ref 24), (1, j_i p)] [] _ _ _ _
  refine a_iload_n (pc := 0) (i := 1) (by decide +kernel) rfl ?_
  refine a_bipush (pc := 1) (n := (-9)) (by decide +kernel) rfl ?_
  refine a_icmp_ne (pc := 3) (off := 7) (tgt := 10) (by decide +kernel) (by decide) (by omega) (by omega) (fun c3 => ?_) (fun c3 => ?_)
  · refine a_aload_n (pc := 10) (i := 0) (by decide +kernel) rfl ?_
    refine b_getR (pc := 11) (b := 26) fl_X8_15 (by decide +kernel) (sh_24 hn) rfl ?_
    refine a_iload_n (pc := 14) (i := 1) (by decide +kernel) rfl ?_
    refine b_iaload (pc := 15) (by decide +kernel) (sh_26 hn) (by omega) (by omega) (by omega) ?_
    refine a_ireturn (pc := 16) (by decide +kernel) rfl ?_
    refine k_ret ?_
    refine ⟨?_, rfl, rfl⟩
    unfold p_form
    first | rw [if_pos (by omega)] | rw [if_neg (by omega)]
  · refine a_iconst (pc := 6) (n := 1) (by decide +kernel) ?_
    refine a_goto (pc := 7) (off := 9) (tgt := 16) (by decide +kernel) (by decide) ?_
    refine a_ireturn (pc := 16) (by decide +kernel) rfl ?_
    refine k_ret ?_
    refine ⟨?_, rfl, rfl⟩
    unfold p_form
    first | rw [if_pos (by omega)] | rw [if_neg (by omega)]
set_option maxHeartbeats 4000000 in
theorem s_numberOf {G : j_G} {X : k_X} {n : Nat} {σ : k_St} (hn : 101 ≤ n) (hw : p_wf σ) {p : Int} (hp : p = -9 ∨ 0 ≤ p ∧ p < σ.2.1 24 4) {g : Int}  : k_run G X mX8_numberOf [.ref 24, j_i p, j_i g] n σ 0 0 (k_is n σ (some (j_i (p_num σ p g)))) := by
  obtain ⟨hc, hv⟩ := id hw
  refine k_enter (by decide +kernel) (Nat.le_of_ble_eq_true rfl) ?_
  show j_at _ _ _ [(0, .ref 24), (1, j_i p), (2, j_i g)] [] _ _ _ _
  refine a_iload_n (pc := 0) (i := 1) (by decide +kernel) rfl ?_
  refine a_bipush (pc := 1) (n := (-9)) (by decide +kernel) rfl ?_
  refine a_icmp_ne (pc := 3) (off := 9) (tgt := 12) (by decide +kernel) (by decide) (by omega) (by omega) (fun c3 => ?_) (fun c3 => ?_)
  · refine a_aload_n (pc := 12) (i := 0) (by decide +kernel) rfl ?_
    refine b_getR (pc := 13) (b := 27) fl_X8_18 (by decide +kernel) (sh_24 hn) rfl ?_
    refine a_iload_n (pc := 16) (i := 1) (by decide +kernel) rfl ?_
    refine b_iaload (pc := 17) (by decide +kernel) (sh_27 hn) (by omega) (by omega) (by omega) ?_
    refine a_iload_n (pc := 18) (i := 2) (by decide +kernel) rfl ?_
    refine a_iadd (pc := 19) (by decide +kernel) ?_
    refine a_aload_n (pc := 20) (i := 0) (by decide +kernel) rfl ?_
    refine b_getR (pc := 21) (b := 25) fl_X8_9 (by decide +kernel) (sh_24 hn) rfl ?_
    refine a_iload_n (pc := 24) (i := 1) (by decide +kernel) rfl ?_
    refine b_iaload (pc := 25) (by decide +kernel) (sh_25 hn) (by omega) (by omega) (by omega) ?_
    refine a_isub (pc := 26) (by decide +kernel) ?_
    refine a_ireturn (pc := 27) (by decide +kernel) rfl ?_
    refine k_ret ?_
    refine ⟨?_, rfl, rfl⟩
    unfold p_num
    first | rw [if_pos (by omega)] | rw [if_neg (by omega)]
  · refine a_iload_n (pc := 6) (i := 2) (by decide +kernel) rfl ?_
    refine a_iconst (pc := 7) (n := 1) (by decide +kernel) ?_
    refine a_iadd (pc := 8) (by decide +kernel) ?_
    refine a_goto (pc := 9) (off := 18) (tgt := 27) (by decide +kernel) (by decide) ?_
    refine a_ireturn (pc := 27) (by decide +kernel) rfl ?_
    refine k_ret ?_
    refine ⟨?_, rfl, rfl⟩
    unfold p_num
    first | rw [if_pos (by omega)] | rw [if_neg (by omega)]
theorem p_form_in {σ : k_St} {p : Int} (hw : p_wf σ) (hp : p = -9 ∨ 0 ≤ p ∧ p < σ.2.1 24 4) : 0 ≤ p_form σ p ∧ p_form σ p ≤ 2 := by
  unfold p_form; split
  · omega
  · exact (hw.2 p (by omega) (by omega)).2.1
theorem p_num_in {σ : k_St} {p g : Int} (hw : p_wf σ) (hp : p = -9 ∨ 0 ≤ p ∧ p < σ.2.1 24 4) (hg : 0 ≤ g ∧ g ≤ 299) : -298 ≤ p_num σ p g ∧ p_num σ p g ≤ 1298 := by
  unfold p_num; split
  · omega
  · have := hw.2 p (by omega) (by omega); omega
theorem p_num_pos {σ : k_St} {p g : Int} (hw : p_wf σ) (hp : p_of σ g p) (hg : 0 ≤ g ∧ g ≤ 299) : 1 ≤ p_num σ p g := by
  unfold p_num; split
  · omega
  · rcases hp with ⟨e1, _⟩ | ⟨e1, e2, e3, e4⟩
    · omega
    · have := hw.2 p (by omega) (by omega); omega
def p_lab (σ : k_St) (g f x l : Int) : Prop := ∃ p, p_of σ g p ∧ p_form σ p = f ∧ p_num σ p g = x ∧ (p = -9 ∨ f ≠ 2 ∨ σ.1 28 p = l)
theorem p_of_page {σ : k_St} {g p q : Int} (h : p_of σ g p) (h2 : p_of σ g q) : (p = -9 ∧ q = -9) ∨ (0 ≤ p ∧ p < σ.2.1 24 4 ∧ 0 ≤ q ∧ q < σ.2.1 24 4 ∧ σ.1 25 p = σ.1 25 q) := by
  rcases h with ⟨a1, a2⟩ | ⟨a1, a2, a3, a4⟩
  · rcases h2 with ⟨b1, b2⟩ | ⟨b1, b2, b3, b4⟩
    · exact Or.inl ⟨a1, b1⟩
    · have := a2 q b1 b2; omega
  · rcases h2 with ⟨b1, b2⟩ | ⟨b1, b2, b3, b4⟩
    · have := b2 p a1 a2; omega
    · have := a4 q b1 b2 b3; have := b4 p a1 a2 a3; exact Or.inr ⟨a1, a2, b1, b2, by omega⟩
set_option maxHeartbeats 4000000 in
theorem s_isLabelled {G : j_G} {X : k_X} {n : Nat} {σ : k_St} (hn : 101 ≤ n) (hw : p_wf σ) {g : Int} (hg : 0 ≤ g ∧ g ≤ 299) {f x l : Int} (hu : ∀ a b, p_of σ g a → p_of σ g b → a = b) (hf : -2147483648 ≤ f ∧ f ≤ 2147483647) (hx : -2147483648 ≤ x ∧ x ≤ 2147483647) (hl : -2147483648 ≤ l ∧ l ≤ 2147483647) : k_run G X mX8_isLabelled [.ref 24, j_i g, j_i f, j_i x, j_i l] n σ 0 0 (k_b n σ (p_lab σ g f x l)) := by
  obtain ⟨hc, hv⟩ := id hw
  refine k_enter (by decide +kernel) (Nat.le_of_ble_eq_true rfl) ?_
  show j_at _ _ _ [(0, .ref 24), (1, j_i g), (2, j_i f), (3, j_i x), (4, j_i l)] [] _ _ _ _
  refine a_aload_n (pc := 0) (i := 0) (by decide +kernel) rfl ?_
  refine a_iload_n (pc := 1) (i := 1) (by decide +kernel) rfl ?_
  refine b_callV (pc := 2) (c' := 0) (sl' := 0) [j_i g] [] ml_X8_34 (by decide +kernel) rfl rfl (sh_24 hn) rfl rfl (Nat.le_of_ble_eq_true rfl) (j_fitI rfl rfl) (s_partOf hn hw (by omega)) (fun v n' σ' hq => ?_)
  obtain ⟨p1, rfl, e1, e2, hp1⟩ := hq
  rw [e1, e2]; clear e1 e2
  have hp1q := hp1
  have hpp1 := p_of_r hp1
  show j_at _ _ _ [(0, .ref 24), (1, j_i g), (2, j_i f), (3, j_i x), (4, j_i l)] [j_i p1] _ _ _ _
  refine a_istore (pc := 5) (i := 5) (lv' := [(0, .ref 24), (1, j_i g), (2, j_i f), (3, j_i x), (4, j_i l), (5, j_i p1)]) (by decide +kernel) (Nat.le_of_ble_eq_true rfl) rfl ?_
  refine a_aload_n (pc := 7) (i := 0) (by decide +kernel) rfl ?_
  refine a_iload (pc := 8) (i := 5) (by decide +kernel) rfl ?_
  refine b_pureV (pc := 10) [j_i p1] [] ml_X8_44 (by decide +kernel) rfl rfl (sh_24 hn) rfl rfl (Nat.le_of_ble_eq_true rfl) (j_fitI rfl rfl) (s_formOf hn hw hpp1) ?_
  have qf := p_form_in hw hpp1
  show j_at _ _ _ [(0, .ref 24), (1, j_i g), (2, j_i f), (3, j_i x), (4, j_i l), (5, j_i p1)] [j_i (p_form σ p1)] _ _ _ _
  refine a_iload_n (pc := 13) (i := 2) (by decide +kernel) rfl ?_
  refine a_icmp_ne (pc := 14) (off := 42) (tgt := 56) (by decide +kernel) (by decide) (by omega) (by omega) (fun c14 => ?_) (fun c14 => ?_)
  · refine a_iconst (pc := 56) (n := 0) (by decide +kernel) ?_
    refine a_zreturn (pc := 57) (by decide +kernel) rfl (by omega) ?_
    refine k_ret ?_
    refine k_bn (fun ⟨q, e1, e2, e3, e4⟩ => ?_)
    have e9 : q = p1 := hu q p1 e1 hp1q
    subst e9
    omega
  · refine a_aload_n (pc := 17) (i := 0) (by decide +kernel) rfl ?_
    refine a_iload (pc := 18) (i := 5) (by decide +kernel) rfl ?_
    refine a_iload_n (pc := 20) (i := 1) (by decide +kernel) rfl ?_
    refine b_pureV (pc := 21) [j_i p1, j_i g] [] ml_X8_47 (by decide +kernel) rfl rfl (sh_24 hn) rfl rfl (Nat.le_of_ble_eq_true rfl) (j_fitI rfl rfl) (s_numberOf hn hw hpp1) ?_
    have qn := p_num_in (g := g) hw hpp1 (by omega)
    show j_at _ _ _ [(0, .ref 24), (1, j_i g), (2, j_i f), (3, j_i x), (4, j_i l), (5, j_i p1)] [j_i (p_num σ p1 g)] _ _ _ _
    refine a_iload_n (pc := 24) (i := 3) (by decide +kernel) rfl ?_
    refine a_icmp_ne (pc := 25) (off := 31) (tgt := 56) (by decide +kernel) (by decide) (by omega) (by omega) (fun c25 => ?_) (fun c25 => ?_)
    · refine a_iconst (pc := 56) (n := 0) (by decide +kernel) ?_
      refine a_zreturn (pc := 57) (by decide +kernel) rfl (by omega) ?_
      refine k_ret ?_
      refine k_bn (fun ⟨q, e1, e2, e3, e4⟩ => ?_)
      have e9 : q = p1 := hu q p1 e1 hp1q
      subst e9
      omega
    · refine a_iload (pc := 28) (i := 5) (by decide +kernel) rfl ?_
      refine a_bipush (pc := 30) (n := (-9)) (by decide +kernel) rfl ?_
      refine a_icmp_eq (pc := 32) (off := 20) (tgt := 52) (by decide +kernel) (by decide) (by omega) (by omega) (fun c32 => ?_) (fun c32 => ?_)
      · refine a_iconst (pc := 52) (n := 1) (by decide +kernel) ?_
        refine a_goto (pc := 53) (off := 4) (tgt := 57) (by decide +kernel) (by decide) ?_
        refine a_zreturn (pc := 57) (by decide +kernel) rfl (by omega) ?_
        refine k_ret ?_
        exact k_by ⟨p1, hp1q, by omega, by omega, by omega⟩
      · refine a_iload_n (pc := 35) (i := 2) (by decide +kernel) rfl ?_
        refine a_iconst (pc := 36) (n := 2) (by decide +kernel) ?_
        refine a_icmp_ne (pc := 37) (off := 15) (tgt := 52) (by decide +kernel) (by decide) (by omega) (by omega) (fun c37 => ?_) (fun c37 => ?_)
        · refine a_iconst (pc := 52) (n := 1) (by decide +kernel) ?_
          refine a_goto (pc := 53) (off := 4) (tgt := 57) (by decide +kernel) (by decide) ?_
          refine a_zreturn (pc := 57) (by decide +kernel) rfl (by omega) ?_
          refine k_ret ?_
          exact k_by ⟨p1, hp1q, by omega, by omega, by omega⟩
        · refine a_aload_n (pc := 40) (i := 0) (by decide +kernel) rfl ?_
          refine b_getR (pc := 41) (b := 28) fl_X8_21 (by decide +kernel) (sh_24 hn) rfl ?_
          refine a_iload (pc := 44) (i := 5) (by decide +kernel) rfl ?_
          have hvp := hv p1 (by omega) (by omega)
          refine b_iaload (pc := 46) (by decide +kernel) (sh_28 hn) (by omega) (by omega) (by omega) ?_
          refine a_iload (pc := 47) (i := 4) (by decide +kernel) rfl ?_
          refine a_icmp_ne (pc := 49) (off := 7) (tgt := 56) (by decide +kernel) (by decide) (by omega) (by omega) (fun c49 => ?_) (fun c49 => ?_)
          · refine a_iconst (pc := 56) (n := 0) (by decide +kernel) ?_
            refine a_zreturn (pc := 57) (by decide +kernel) rfl (by omega) ?_
            refine k_ret ?_
            refine k_bn (fun ⟨q, e1, e2, e3, e4⟩ => ?_)
            have e9 : q = p1 := hu q p1 e1 hp1q
            subst e9
            omega
          · refine a_iconst (pc := 52) (n := 1) (by decide +kernel) ?_
            refine a_goto (pc := 53) (off := 4) (tgt := 57) (by decide +kernel) (by decide) ?_
            refine a_zreturn (pc := 57) (by decide +kernel) rfl (by omega) ?_
            refine k_ret ?_
            exact k_by ⟨p1, hp1q, by omega, by omega, by omega⟩
set_option maxHeartbeats 4000000 in
theorem s_pappend {G : j_G} {X : k_X} {n : Nat} {σ : k_St} (hn : 101 ≤ n) {x : Int} (h0 : 0 ≤ σ.2.1 24 6 ∧ σ.2.1 24 6 < 16) : k_run G X mX8_append [.ref 24, j_i x] n σ 0 0 (k_is n (e_app 29 24 6 σ x) none) := by
  refine k_enter (by decide +kernel) (Nat.le_of_ble_eq_true rfl) ?_
  show j_at _ _ _ [(0, .ref 24), (1, j_i x)] [] _ _ _ _
  refine a_aload_n (pc := 0) (i := 0) (by decide +kernel) rfl ?_
  refine b_getI (pc := 1) fl_X8_31 (by decide +kernel) (sh_24 hn) rfl ?_
  refine a_bipush (pc := 4) (n := 16) (by decide +kernel) rfl ?_
  refine a_icmp_ge (pc := 6) (off := 23) (tgt := 29) (by decide +kernel) (by decide) (by omega) (by omega) (fun c6 => ?_) (fun c6 => ?_)
  · refine a_return (pc := 29) (by decide +kernel) rfl ?_
    refine k_ret ?_
    exfalso; omega
  · refine a_aload_n (pc := 9) (i := 0) (by decide +kernel) rfl ?_
    refine b_getR (pc := 10) (b := 29) fl_X8_28 (by decide +kernel) (sh_24 hn) rfl ?_
    refine a_aload_n (pc := 13) (i := 0) (by decide +kernel) rfl ?_
    refine b_getI (pc := 14) fl_X8_31 (by decide +kernel) (sh_24 hn) rfl ?_
    refine a_iload_n (pc := 17) (i := 1) (by decide +kernel) rfl ?_
    refine b_iastore (pc := 18) (by decide +kernel) (sh_29 hn) (by omega) (by omega) (by omega) ?_
    obtain ⟨σ1, hσ1⟩ : ∃ z, z = k_sA σ 29 (j_up (σ.1 29) (σ.2.1 24 6) x) := ⟨_, rfl⟩
    rw [← hσ1]
    refine a_aload_n (pc := 19) (i := 0) (by decide +kernel) rfl ?_
    refine a_dup (pc := 20) (by decide +kernel) rfl ?_
    refine b_getI (pc := 21) fl_X8_31 (by decide +kernel) (sh_24 hn) rfl ?_
    rw [show σ1.2.1 24 6 = σ.2.1 24 6 by rw [hσ1]; rfl]
    refine a_iconst (pc := 24) (n := 1) (by decide +kernel) ?_
    refine a_iadd (pc := 25) (by decide +kernel) ?_
    refine b_putI (pc := 26) fl_X8_31 (by decide +kernel) (sh_24 hn) rfl rfl rfl ?_
    obtain ⟨σ2, hσ2⟩ : ∃ z, z = k_sI σ1 24 6 ((σ.2.1 24 6) + 1) := ⟨_, rfl⟩
    rw [← hσ2]
    refine a_return (pc := 29) (by decide +kernel) rfl ?_
    refine k_ret ?_
    subst hσ2; subst hσ1; exact ⟨rfl, rfl, rfl⟩
set_option maxHeartbeats 4000000 in
theorem l_writeRoman {G : j_G} {X : k_X} {n : Nat} (hn : 101 ≤ n) {y : Int} : ∀ (m : Nat) (k x : Int) (τ : k_St), (13 - k) * 2000 + x < (m : Int) → 0 ≤ k → k < 13 → 0 ≤ x → x ≤ 1300 → (0 ≤ τ.2.1 24 6 ∧ τ.2.1 24 6 + (f_romK k x).length ≤ 16) → j_at G mX8_writeRoman 12 [(0, .ref 24), (1, j_i y), (2, j_i x), (3, j_i k)] [] (k_h X n τ) 0 0 (k_Q X (k_is n (e_puts 29 24 6 τ (f_romK k x)) none)) := by
  intro m
  induction m with
  | zero => intro k x τ h1 h2 h3 h4; exact absurd h1 (by omega)
  | succ m ih =>
    intro k x τ hm h0 hk hx0 hx1 hlen
    obtain ⟨hk1, v1, v2, l1, l2, a1, a2⟩ := f_rom_k (X := X) h0 hk
    have hls : (f_romS X k).length = 1 ∧ k_rof X 3 k = 32 ∨ (f_romS X k).length = 2 := by unfold f_romS; split <;> simp_all
    have hge : k_rof X 1 k ≤ x → ((f_romK k x).length : Int) = (f_romS X k).length + (f_romK k (x - k_rof X 1 k)).length := fun c => by unfold f_romK; rw [hk1, f_rom_ge (by omega) c, List.length_append]; omega
    refine a_iload_n (pc := 12) (i := 2) (by decide +kernel) rfl ?_
    refine a_getstatic (pc := 13) (k := 1) (by decide) sl_X8_60 (by decide +kernel) ?_
    refine a_iload_n (pc := 16) (i := 3) (by decide +kernel) rfl ?_
    refine b_siload (pc := 17) (by decide +kernel) (sh_1 hn) (by decide) (by omega) (by decide) ?_
    refine a_icmp_lt (pc := 18) (off := 42) (tgt := 60) (by decide +kernel) (by decide) (by omega) (by omega) (fun c18 => ?_) (fun c18 => ?_)
    · refine a_iinc (pc := 60) (i := 3) (n := 1) (x := k) (lv' := [(0, .ref 24), (1, j_i y), (2, j_i x), (3, j_i (k + 1))]) (by decide +kernel) rfl (Nat.le_of_ble_eq_true rfl) rfl ?_
      refine a_goto (pc := 63) (off := -59) (tgt := 4) (by decide +kernel) (by decide) ?_
      refine a_iload_n (pc := 4) (i := 3) (by decide +kernel) rfl ?_
      refine a_getstatic (pc := 5) (k := 1) (by decide) sl_X8_60 (by decide +kernel) ?_
      refine b_len (pc := 8) (by decide +kernel) (sh_1 hn) (by decide) ?_
      refine a_icmp_ge (pc := 9) (off := 57) (tgt := 66) (by decide +kernel) (by decide) (by omega) (by omega) (fun c9 => ?_) (fun c9 => ?_)
      · refine a_return (pc := 66) (by decide +kernel) rfl ?_
        refine k_ret ?_
        rw [show f_romK k x = [] by unfold f_romK; rw [hk1, show (k + 1).toNat = 13 by omega]; exact f_rom_lt hx0 c18]; exact ⟨rfl, rfl, rfl⟩
      · have e9 : f_romK k x = f_romK (k + 1) x := by unfold f_romK; rw [hk1]; exact f_rom_lt hx0 c18
        rw [e9] at hlen ⊢
        exact ih (k + 1) x τ (by omega) (by omega) (by omega) hx0 (by omega) (by omega)
    · refine a_getstatic (pc := 21) (k := 3) (by decide) sl_X8_63 (by decide +kernel) ?_
      refine a_iload_n (pc := 24) (i := 3) (by decide +kernel) rfl ?_
      refine b_scload (pc := 25) (by decide +kernel) (sh_3 hn) (by decide) (by omega) (by decide) ?_
      refine a_bipush (pc := 26) (n := 32) (by decide +kernel) rfl ?_
      refine a_icmp_eq (pc := 28) (off := 12) (tgt := 40) (by decide +kernel) (by decide) (by omega) (by omega) (fun c28 => ?_) (fun c28 => ?_)
      · refine a_aload_n (pc := 40) (i := 0) (by decide +kernel) rfl ?_
        refine a_getstatic (pc := 41) (k := 2) (by decide) sl_X8_67 (by decide +kernel) ?_
        refine a_iload_n (pc := 44) (i := 3) (by decide +kernel) rfl ?_
        refine b_scload (pc := 45) (by decide +kernel) (sh_2 hn) (by decide) (by omega) (by decide) ?_
        refine b_callV (pc := 46) (c' := 0) (sl' := 0) [j_i (k_rof X 2 k)] [] ml_X8_54 (by decide +kernel) rfl rfl (sh_24 hn) rfl rfl (Nat.le_of_ble_eq_true rfl) (j_fitI rfl rfl) (s_pappend hn (by have := hge c18; omega)) (fun v n' σ' hq => ?_)
        obtain ⟨rfl, e1, e2⟩ := hq
        rw [e1, e2]; clear e1 e2
        obtain ⟨σ1, hσ1⟩ : ∃ z, z = e_app 29 24 6 τ (k_rof X 2 k) := ⟨_, rfl⟩
        rw [← hσ1]
        have kσ1 : σ1.2.1 24 6 = τ.2.1 24 6 + 1 := by rw [hσ1]; exact e_app_n
        show j_at _ _ _ [(0, .ref 24), (1, j_i y), (2, j_i x), (3, j_i k)] [] _ _ _ _
        refine a_iload_n (pc := 49) (i := 2) (by decide +kernel) rfl ?_
        refine a_getstatic (pc := 50) (k := 1) (by decide) sl_X8_60 (by decide +kernel) ?_
        refine a_iload_n (pc := 53) (i := 3) (by decide +kernel) rfl ?_
        refine b_siload (pc := 54) (by decide +kernel) (sh_1 hn) (by decide) (by omega) (by decide) ?_
        refine a_isub (pc := 55) (by decide +kernel) ?_
        refine a_istore_n (pc := 56) (i := 2) (lv' := [(0, .ref 24), (1, j_i y), (2, j_i (x - (k_rof X 1 k))), (3, j_i k)]) (by decide +kernel) (Nat.le_of_ble_eq_true rfl) rfl ?_
        refine a_goto (pc := 57) (off := -45) (tgt := 12) (by decide +kernel) (by decide) ?_
        have e9 : f_romK k x = f_romS X k ++ f_romK k (x - k_rof X 1 k) := by unfold f_romK; rw [hk1]; exact f_rom_ge (by omega) c18
        have es : σ1 = e_puts 29 24 6 τ (f_romS X k) := by
          unfold f_romS
          rw [if_pos c28]
          rw [hσ1]; rfl
        rw [e9, e_puts_app, ← es]
        rw [e9, List.length_append] at hlen
        have en : σ1.2.1 24 6 = τ.2.1 24 6 + (f_romS X k).length := by rw [es]; exact e_puts_n
        exact ih k (x - k_rof X 1 k) σ1 (by omega) h0 hk (by omega) (by omega) (by omega)
      · refine a_aload_n (pc := 31) (i := 0) (by decide +kernel) rfl ?_
        refine a_getstatic (pc := 32) (k := 3) (by decide) sl_X8_63 (by decide +kernel) ?_
        refine a_iload_n (pc := 35) (i := 3) (by decide +kernel) rfl ?_
        refine b_scload (pc := 36) (by decide +kernel) (sh_3 hn) (by decide) (by omega) (by decide) ?_
        refine b_callV (pc := 37) (c' := 0) (sl' := 0) [j_i (k_rof X 3 k)] [] ml_X8_54 (by decide +kernel) rfl rfl (sh_24 hn) rfl rfl (Nat.le_of_ble_eq_true rfl) (j_fitI rfl rfl) (s_pappend hn (by have := hge c18; omega)) (fun v n' σ' hq => ?_)
        obtain ⟨rfl, e1, e2⟩ := hq
        rw [e1, e2]; clear e1 e2
        obtain ⟨σ2, hσ2⟩ : ∃ z, z = e_app 29 24 6 τ (k_rof X 3 k) := ⟨_, rfl⟩
        rw [← hσ2]
        have kσ2 : σ2.2.1 24 6 = τ.2.1 24 6 + 1 := by rw [hσ2]; exact e_app_n
        show j_at _ _ _ [(0, .ref 24), (1, j_i y), (2, j_i x), (3, j_i k)] [] _ _ _ _
        refine a_aload_n (pc := 40) (i := 0) (by decide +kernel) rfl ?_
        refine a_getstatic (pc := 41) (k := 2) (by decide) sl_X8_67 (by decide +kernel) ?_
        refine a_iload_n (pc := 44) (i := 3) (by decide +kernel) rfl ?_
        refine b_scload (pc := 45) (by decide +kernel) (sh_2 hn) (by decide) (by omega) (by decide) ?_
        refine b_callV (pc := 46) (c' := 0) (sl' := 0) [j_i (k_rof X 2 k)] [] ml_X8_54 (by decide +kernel) rfl rfl (sh_24 hn) rfl rfl (Nat.le_of_ble_eq_true rfl) (j_fitI rfl rfl) (s_pappend hn (by have := hge c18; omega)) (fun v n' σ' hq => ?_)
        obtain ⟨rfl, e1, e2⟩ := hq
        rw [e1, e2]; clear e1 e2
        obtain ⟨σ3, hσ3⟩ : ∃ z, z = e_app 29 24 6 σ2 (k_rof X 2 k) := ⟨_, rfl⟩
        rw [← hσ3]
        have kσ3 : σ3.2.1 24 6 = σ2.2.1 24 6 + 1 := by rw [hσ3]; exact e_app_n
        show j_at _ _ _ [(0, .ref 24), (1, j_i y), (2, j_i x), (3, j_i k)] [] _ _ _ _
        refine a_iload_n (pc := 49) (i := 2) (by decide +kernel) rfl ?_
        refine a_getstatic (pc := 50) (k := 1) (by decide) sl_X8_60 (by decide +kernel) ?_
        refine a_iload_n (pc := 53) (i := 3) (by decide +kernel) rfl ?_
        refine b_siload (pc := 54) (by decide +kernel) (sh_1 hn) (by decide) (by omega) (by decide) ?_
        refine a_isub (pc := 55) (by decide +kernel) ?_
        refine a_istore_n (pc := 56) (i := 2) (lv' := [(0, .ref 24), (1, j_i y), (2, j_i (x - (k_rof X 1 k))), (3, j_i k)]) (by decide +kernel) (Nat.le_of_ble_eq_true rfl) rfl ?_
        refine a_goto (pc := 57) (off := -45) (tgt := 12) (by decide +kernel) (by decide) ?_
        have e9 : f_romK k x = f_romS X k ++ f_romK k (x - k_rof X 1 k) := by unfold f_romK; rw [hk1]; exact f_rom_ge (by omega) c18
        have es : σ3 = e_puts 29 24 6 τ (f_romS X k) := by
          unfold f_romS
          rw [if_neg c28]
          rw [hσ3, hσ2]; rfl
        rw [e9, e_puts_app, ← es]
        rw [e9, List.length_append] at hlen
        have en : σ3.2.1 24 6 = τ.2.1 24 6 + (f_romS X k).length := by rw [es]; exact e_puts_n
        exact ih k (x - k_rof X 1 k) σ3 (by omega) h0 hk (by omega) (by omega) (by omega)
set_option maxHeartbeats 4000000 in
theorem s_writeRoman {G : j_G} {X : k_X} {n : Nat} {σ : k_St} (hn : 101 ≤ n) {y : Int} (hy : 0 ≤ y ∧ y ≤ 1300) (hl : 0 ≤ σ.2.1 24 6 ∧ σ.2.1 24 6 + (f_romK 0 y).length ≤ 16) : k_run G X mX8_writeRoman [.ref 24, j_i y] n σ 0 0 (k_is n (e_puts 29 24 6 σ (f_romK 0 y)) none) := by
  refine k_enter (by decide +kernel) (Nat.le_of_ble_eq_true rfl) ?_
  show j_at _ _ _ [(0, .ref 24), (1, j_i y)] [] _ _ _ _
  refine a_iload_n (pc := 0) (i := 1) (by decide +kernel) rfl ?_
  refine a_istore_n (pc := 1) (i := 2) (lv' := [(0, .ref 24), (1, j_i y), (2, j_i y)]) (by decide +kernel) (Nat.le_of_ble_eq_true rfl) rfl ?_
  refine a_iconst (pc := 2) (n := 0) (by decide +kernel) ?_
  refine a_istore_n (pc := 3) (i := 3) (lv' := [(0, .ref 24), (1, j_i y), (2, j_i y), (3, j_i 0)]) (by decide +kernel) (Nat.le_of_ble_eq_true rfl) rfl ?_
  refine a_iload_n (pc := 4) (i := 3) (by decide +kernel) rfl ?_
  refine a_getstatic (pc := 5) (k := 1) (by decide) sl_X8_60 (by decide +kernel) ?_
  refine b_len (pc := 8) (by decide +kernel) (sh_1 hn) (by decide) ?_
  refine a_icmp_ge (pc := 9) (off := 57) (tgt := 66) (by decide +kernel) (by decide) (by omega) (by omega) (fun c9 => ?_) (fun c9 => ?_)
  · refine a_return (pc := 66) (by decide +kernel) rfl ?_
    refine k_ret ?_
    exfalso; omega
  · exact l_writeRoman hn 30000 0 y σ (by omega) (by omega) (by omega) hy.1 hy.2 hl
set_option maxHeartbeats 4000000 in
theorem s_writeWhole {G : j_G} {X : k_X} {n : Nat} {σ : k_St} (hn : 101 ≤ n) {y : Int} (hy : 1 ≤ y ∧ y ≤ 1300) (hl : 0 ≤ σ.2.1 24 6 ∧ σ.2.1 24 6 ≤ 12) : k_run G X mX8_writeWhole [.ref 24, j_i y] n σ 0 0 (k_is n (e_puts 29 24 6 σ (f_dec y)) none) := by
  refine k_enter (by decide +kernel) (Nat.le_of_ble_eq_true rfl) ?_
  show j_at _ _ _ [(0, .ref 24), (1, j_i y)] [] _ _ _ _
  refine a_sipush (pc := 0) (n := 1000) (by decide +kernel) rfl ?_
  refine a_istore_n (pc := 3) (i := 2) (lv' := [(0, .ref 24), (1, j_i y), (2, j_i 1000)]) (by decide +kernel) (Nat.le_of_ble_eq_true rfl) rfl ?_
  refine a_iload_n (pc := 4) (i := 2) (by decide +kernel) rfl ?_
  refine a_if_le (pc := 5) (off := 29) (tgt := 34) (by decide +kernel) (by decide) (by omega) (fun c5 => ?_) (fun c5 => ?_)
  · exact absurd c5 (by decide)
  · refine a_iload_n (pc := 8) (i := 1) (by decide +kernel) rfl ?_
    refine a_iload_n (pc := 9) (i := 2) (by decide +kernel) rfl ?_
    refine a_icmp_lt (pc := 10) (off := 16) (tgt := 26) (by decide +kernel) (by decide) (by omega) (by omega) (fun c10 => ?_) (fun c10 => ?_)
    · refine a_iload_n (pc := 26) (i := 2) (by decide +kernel) rfl ?_
      refine a_bipush (pc := 27) (n := 10) (by decide +kernel) rfl ?_
      refine a_idiv (pc := 29) (by decide +kernel) (by omega) (by omega) ?_
      refine a_istore_n (pc := 30) (i := 2) (lv' := [(0, .ref 24), (1, j_i y), (2, j_i 100)]) (by decide +kernel) (Nat.le_of_ble_eq_true rfl) rfl ?_
      refine a_goto (pc := 31) (off := -27) (tgt := 4) (by decide +kernel) (by decide) ?_
      refine a_iload_n (pc := 4) (i := 2) (by decide +kernel) rfl ?_
      refine a_if_le (pc := 5) (off := 29) (tgt := 34) (by decide +kernel) (by decide) (by omega) (fun c5 => ?_) (fun c5 => ?_)
      · exact absurd c5 (by decide)
      · refine a_iload_n (pc := 8) (i := 1) (by decide +kernel) rfl ?_
        refine a_iload_n (pc := 9) (i := 2) (by decide +kernel) rfl ?_
        refine a_icmp_lt (pc := 10) (off := 16) (tgt := 26) (by decide +kernel) (by decide) (by omega) (by omega) (fun c10 => ?_) (fun c10 => ?_)
        · refine a_iload_n (pc := 26) (i := 2) (by decide +kernel) rfl ?_
          refine a_bipush (pc := 27) (n := 10) (by decide +kernel) rfl ?_
          refine a_idiv (pc := 29) (by decide +kernel) (by omega) (by omega) ?_
          refine a_istore_n (pc := 30) (i := 2) (lv' := [(0, .ref 24), (1, j_i y), (2, j_i 10)]) (by decide +kernel) (Nat.le_of_ble_eq_true rfl) rfl ?_
          refine a_goto (pc := 31) (off := -27) (tgt := 4) (by decide +kernel) (by decide) ?_
          refine a_iload_n (pc := 4) (i := 2) (by decide +kernel) rfl ?_
          refine a_if_le (pc := 5) (off := 29) (tgt := 34) (by decide +kernel) (by decide) (by omega) (fun c5 => ?_) (fun c5 => ?_)
          · exact absurd c5 (by decide)
          · refine a_iload_n (pc := 8) (i := 1) (by decide +kernel) rfl ?_
            refine a_iload_n (pc := 9) (i := 2) (by decide +kernel) rfl ?_
            refine a_icmp_lt (pc := 10) (off := 16) (tgt := 26) (by decide +kernel) (by decide) (by omega) (by omega) (fun c10 => ?_) (fun c10 => ?_)
            · refine a_iload_n (pc := 26) (i := 2) (by decide +kernel) rfl ?_
              refine a_bipush (pc := 27) (n := 10) (by decide +kernel) rfl ?_
              refine a_idiv (pc := 29) (by decide +kernel) (by omega) (by omega) ?_
              refine a_istore_n (pc := 30) (i := 2) (lv' := [(0, .ref 24), (1, j_i y), (2, j_i 1)]) (by decide +kernel) (Nat.le_of_ble_eq_true rfl) rfl ?_
              refine a_goto (pc := 31) (off := -27) (tgt := 4) (by decide +kernel) (by decide) ?_
              refine a_iload_n (pc := 4) (i := 2) (by decide +kernel) rfl ?_
              refine a_if_le (pc := 5) (off := 29) (tgt := 34) (by decide +kernel) (by decide) (by omega) (fun c5 => ?_) (fun c5 => ?_)
              · exact absurd c5 (by decide)
              · refine a_iload_n (pc := 8) (i := 1) (by decide +kernel) rfl ?_
                refine a_iload_n (pc := 9) (i := 2) (by decide +kernel) rfl ?_
                refine a_icmp_lt (pc := 10) (off := 16) (tgt := 26) (by decide +kernel) (by decide) (by omega) (by omega) (fun c10 => ?_) (fun c10 => ?_)
                · refine a_iload_n (pc := 26) (i := 2) (by decide +kernel) rfl ?_
                  refine a_bipush (pc := 27) (n := 10) (by decide +kernel) rfl ?_
                  refine a_idiv (pc := 29) (by decide +kernel) (by omega) (by omega) ?_
                  refine a_istore_n (pc := 30) (i := 2) (lv' := [(0, .ref 24), (1, j_i y), (2, j_i 0)]) (by decide +kernel) (Nat.le_of_ble_eq_true rfl) rfl ?_
                  refine a_goto (pc := 31) (off := -27) (tgt := 4) (by decide +kernel) (by decide) ?_
                  refine a_iload_n (pc := 4) (i := 2) (by decide +kernel) rfl ?_
                  refine a_if_le (pc := 5) (off := 29) (tgt := 34) (by decide +kernel) (by decide) (by omega) (fun c5 => ?_) (fun c5 => ?_)
                  · refine a_return (pc := 34) (by decide +kernel) rfl ?_
                    refine k_ret ?_
                    first | (exfalso; omega) | (refine ⟨rfl, rfl, ?_⟩; unfold f_dec; (first | rw [if_pos (by omega)] | rw [if_neg (by omega), if_pos (by omega)] | rw [if_neg (by omega), if_neg (by omega), if_pos (by omega)] | rw [if_neg (by omega), if_neg (by omega), if_neg (by omega)]); simp only [*]; rfl)
                  · exact absurd c5 (by decide)
                · refine a_aload_n (pc := 13) (i := 0) (by decide +kernel) rfl ?_
                  refine a_bipush (pc := 14) (n := 48) (by decide +kernel) rfl ?_
                  refine a_iload_n (pc := 16) (i := 1) (by decide +kernel) rfl ?_
                  refine a_iload_n (pc := 17) (i := 2) (by decide +kernel) rfl ?_
                  refine a_idiv (pc := 18) (by decide +kernel) (by omega) (by omega) ?_
                  refine a_bipush (pc := 19) (n := 10) (by decide +kernel) rfl ?_
                  refine a_irem (pc := 21) (by decide +kernel) (by omega) (by omega) ?_
                  refine a_iadd (pc := 22) (by decide +kernel) ?_
                  refine b_callV (pc := 23) (c' := 0) (sl' := 0) [j_i (48 + ((y / 1) % 10))] [] ml_X8_54 (by decide +kernel) rfl rfl (sh_24 hn) rfl rfl (Nat.le_of_ble_eq_true rfl) (j_fitI rfl rfl) (s_pappend hn (by omega)) (fun v n' σ' hq => ?_)
                  obtain ⟨rfl, e1, e2⟩ := hq
                  rw [e1, e2]; clear e1 e2
                  obtain ⟨σ1, hσ1⟩ : ∃ z, z = e_app 29 24 6 σ (48 + ((y / 1) % 10)) := ⟨_, rfl⟩
                  rw [← hσ1]
                  have kσ1 : σ1.2.1 24 6 = σ.2.1 24 6 + 1 := by rw [hσ1]; exact e_app_n
                  show j_at _ _ _ [(0, .ref 24), (1, j_i y), (2, j_i 1)] [] _ _ _ _
                  refine a_iload_n (pc := 26) (i := 2) (by decide +kernel) rfl ?_
                  refine a_bipush (pc := 27) (n := 10) (by decide +kernel) rfl ?_
                  refine a_idiv (pc := 29) (by decide +kernel) (by omega) (by omega) ?_
                  refine a_istore_n (pc := 30) (i := 2) (lv' := [(0, .ref 24), (1, j_i y), (2, j_i 0)]) (by decide +kernel) (Nat.le_of_ble_eq_true rfl) rfl ?_
                  refine a_goto (pc := 31) (off := -27) (tgt := 4) (by decide +kernel) (by decide) ?_
                  refine a_iload_n (pc := 4) (i := 2) (by decide +kernel) rfl ?_
                  refine a_if_le (pc := 5) (off := 29) (tgt := 34) (by decide +kernel) (by decide) (by omega) (fun c5 => ?_) (fun c5 => ?_)
                  · refine a_return (pc := 34) (by decide +kernel) rfl ?_
                    refine k_ret ?_
                    first | (exfalso; omega) | (refine ⟨rfl, rfl, ?_⟩; unfold f_dec; (first | rw [if_pos (by omega)] | rw [if_neg (by omega), if_pos (by omega)] | rw [if_neg (by omega), if_neg (by omega), if_pos (by omega)] | rw [if_neg (by omega), if_neg (by omega), if_neg (by omega)]); simp only [*]; rfl)
                  · exact absurd c5 (by decide)
            · refine a_aload_n (pc := 13) (i := 0) (by decide +kernel) rfl ?_
              refine a_bipush (pc := 14) (n := 48) (by decide +kernel) rfl ?_
              refine a_iload_n (pc := 16) (i := 1) (by decide +kernel) rfl ?_
              refine a_iload_n (pc := 17) (i := 2) (by decide +kernel) rfl ?_
              refine a_idiv (pc := 18) (by decide +kernel) (by omega) (by omega) ?_
              refine a_bipush (pc := 19) (n := 10) (by decide +kernel) rfl ?_
              refine a_irem (pc := 21) (by decide +kernel) (by omega) (by omega) ?_
              refine a_iadd (pc := 22) (by decide +kernel) ?_
              refine b_callV (pc := 23) (c' := 0) (sl' := 0) [j_i (48 + ((y / 10) % 10))] [] ml_X8_54 (by decide +kernel) rfl rfl (sh_24 hn) rfl rfl (Nat.le_of_ble_eq_true rfl) (j_fitI rfl rfl) (s_pappend hn (by omega)) (fun v n' σ' hq => ?_)
              obtain ⟨rfl, e1, e2⟩ := hq
              rw [e1, e2]; clear e1 e2
              obtain ⟨σ2, hσ2⟩ : ∃ z, z = e_app 29 24 6 σ (48 + ((y / 10) % 10)) := ⟨_, rfl⟩
              rw [← hσ2]
              have kσ2 : σ2.2.1 24 6 = σ.2.1 24 6 + 1 := by rw [hσ2]; exact e_app_n
              show j_at _ _ _ [(0, .ref 24), (1, j_i y), (2, j_i 10)] [] _ _ _ _
              refine a_iload_n (pc := 26) (i := 2) (by decide +kernel) rfl ?_
              refine a_bipush (pc := 27) (n := 10) (by decide +kernel) rfl ?_
              refine a_idiv (pc := 29) (by decide +kernel) (by omega) (by omega) ?_
              refine a_istore_n (pc := 30) (i := 2) (lv' := [(0, .ref 24), (1, j_i y), (2, j_i 1)]) (by decide +kernel) (Nat.le_of_ble_eq_true rfl) rfl ?_
              refine a_goto (pc := 31) (off := -27) (tgt := 4) (by decide +kernel) (by decide) ?_
              refine a_iload_n (pc := 4) (i := 2) (by decide +kernel) rfl ?_
              refine a_if_le (pc := 5) (off := 29) (tgt := 34) (by decide +kernel) (by decide) (by omega) (fun c5 => ?_) (fun c5 => ?_)
              · exact absurd c5 (by decide)
              · refine a_iload_n (pc := 8) (i := 1) (by decide +kernel) rfl ?_
                refine a_iload_n (pc := 9) (i := 2) (by decide +kernel) rfl ?_
                refine a_icmp_lt (pc := 10) (off := 16) (tgt := 26) (by decide +kernel) (by decide) (by omega) (by omega) (fun c10 => ?_) (fun c10 => ?_)
                · refine a_iload_n (pc := 26) (i := 2) (by decide +kernel) rfl ?_
                  refine a_bipush (pc := 27) (n := 10) (by decide +kernel) rfl ?_
                  refine a_idiv (pc := 29) (by decide +kernel) (by omega) (by omega) ?_
                  refine a_istore_n (pc := 30) (i := 2) (lv' := [(0, .ref 24), (1, j_i y), (2, j_i 0)]) (by decide +kernel) (Nat.le_of_ble_eq_true rfl) rfl ?_
                  refine a_goto (pc := 31) (off := -27) (tgt := 4) (by decide +kernel) (by decide) ?_
                  refine a_iload_n (pc := 4) (i := 2) (by decide +kernel) rfl ?_
                  refine a_if_le (pc := 5) (off := 29) (tgt := 34) (by decide +kernel) (by decide) (by omega) (fun c5 => ?_) (fun c5 => ?_)
                  · refine a_return (pc := 34) (by decide +kernel) rfl ?_
                    refine k_ret ?_
                    first | (exfalso; omega) | (refine ⟨rfl, rfl, ?_⟩; unfold f_dec; (first | rw [if_pos (by omega)] | rw [if_neg (by omega), if_pos (by omega)] | rw [if_neg (by omega), if_neg (by omega), if_pos (by omega)] | rw [if_neg (by omega), if_neg (by omega), if_neg (by omega)]); simp only [*]; rfl)
                  · exact absurd c5 (by decide)
                · refine a_aload_n (pc := 13) (i := 0) (by decide +kernel) rfl ?_
                  refine a_bipush (pc := 14) (n := 48) (by decide +kernel) rfl ?_
                  refine a_iload_n (pc := 16) (i := 1) (by decide +kernel) rfl ?_
                  refine a_iload_n (pc := 17) (i := 2) (by decide +kernel) rfl ?_
                  refine a_idiv (pc := 18) (by decide +kernel) (by omega) (by omega) ?_
                  refine a_bipush (pc := 19) (n := 10) (by decide +kernel) rfl ?_
                  refine a_irem (pc := 21) (by decide +kernel) (by omega) (by omega) ?_
                  refine a_iadd (pc := 22) (by decide +kernel) ?_
                  refine b_callV (pc := 23) (c' := 0) (sl' := 0) [j_i (48 + ((y / 1) % 10))] [] ml_X8_54 (by decide +kernel) rfl rfl (sh_24 hn) rfl rfl (Nat.le_of_ble_eq_true rfl) (j_fitI rfl rfl) (s_pappend hn (by omega)) (fun v n' σ' hq => ?_)
                  obtain ⟨rfl, e1, e2⟩ := hq
                  rw [e1, e2]; clear e1 e2
                  obtain ⟨σ3, hσ3⟩ : ∃ z, z = e_app 29 24 6 σ2 (48 + ((y / 1) % 10)) := ⟨_, rfl⟩
                  rw [← hσ3]
                  have kσ3 : σ3.2.1 24 6 = σ2.2.1 24 6 + 1 := by rw [hσ3]; exact e_app_n
                  show j_at _ _ _ [(0, .ref 24), (1, j_i y), (2, j_i 1)] [] _ _ _ _
                  refine a_iload_n (pc := 26) (i := 2) (by decide +kernel) rfl ?_
                  refine a_bipush (pc := 27) (n := 10) (by decide +kernel) rfl ?_
                  refine a_idiv (pc := 29) (by decide +kernel) (by omega) (by omega) ?_
                  refine a_istore_n (pc := 30) (i := 2) (lv' := [(0, .ref 24), (1, j_i y), (2, j_i 0)]) (by decide +kernel) (Nat.le_of_ble_eq_true rfl) rfl ?_
                  refine a_goto (pc := 31) (off := -27) (tgt := 4) (by decide +kernel) (by decide) ?_
                  refine a_iload_n (pc := 4) (i := 2) (by decide +kernel) rfl ?_
                  refine a_if_le (pc := 5) (off := 29) (tgt := 34) (by decide +kernel) (by decide) (by omega) (fun c5 => ?_) (fun c5 => ?_)
                  · refine a_return (pc := 34) (by decide +kernel) rfl ?_
                    refine k_ret ?_
                    first | (exfalso; omega) | (refine ⟨rfl, rfl, ?_⟩; unfold f_dec; (first | rw [if_pos (by omega)] | rw [if_neg (by omega), if_pos (by omega)] | rw [if_neg (by omega), if_neg (by omega), if_pos (by omega)] | rw [if_neg (by omega), if_neg (by omega), if_neg (by omega)]); simp only [*]; rfl)
                  · exact absurd c5 (by decide)
        · refine a_aload_n (pc := 13) (i := 0) (by decide +kernel) rfl ?_
          refine a_bipush (pc := 14) (n := 48) (by decide +kernel) rfl ?_
          refine a_iload_n (pc := 16) (i := 1) (by decide +kernel) rfl ?_
          refine a_iload_n (pc := 17) (i := 2) (by decide +kernel) rfl ?_
          refine a_idiv (pc := 18) (by decide +kernel) (by omega) (by omega) ?_
          refine a_bipush (pc := 19) (n := 10) (by decide +kernel) rfl ?_
          refine a_irem (pc := 21) (by decide +kernel) (by omega) (by omega) ?_
          refine a_iadd (pc := 22) (by decide +kernel) ?_
          refine b_callV (pc := 23) (c' := 0) (sl' := 0) [j_i (48 + ((y / 100) % 10))] [] ml_X8_54 (by decide +kernel) rfl rfl (sh_24 hn) rfl rfl (Nat.le_of_ble_eq_true rfl) (j_fitI rfl rfl) (s_pappend hn (by omega)) (fun v n' σ' hq => ?_)
          obtain ⟨rfl, e1, e2⟩ := hq
          rw [e1, e2]; clear e1 e2
          obtain ⟨σ4, hσ4⟩ : ∃ z, z = e_app 29 24 6 σ (48 + ((y / 100) % 10)) := ⟨_, rfl⟩
          rw [← hσ4]
          have kσ4 : σ4.2.1 24 6 = σ.2.1 24 6 + 1 := by rw [hσ4]; exact e_app_n
          show j_at _ _ _ [(0, .ref 24), (1, j_i y), (2, j_i 100)] [] _ _ _ _
          refine a_iload_n (pc := 26) (i := 2) (by decide +kernel) rfl ?_
          refine a_bipush (pc := 27) (n := 10) (by decide +kernel) rfl ?_
          refine a_idiv (pc := 29) (by decide +kernel) (by omega) (by omega) ?_
          refine a_istore_n (pc := 30) (i := 2) (lv' := [(0, .ref 24), (1, j_i y), (2, j_i 10)]) (by decide +kernel) (Nat.le_of_ble_eq_true rfl) rfl ?_
          refine a_goto (pc := 31) (off := -27) (tgt := 4) (by decide +kernel) (by decide) ?_
          refine a_iload_n (pc := 4) (i := 2) (by decide +kernel) rfl ?_
          refine a_if_le (pc := 5) (off := 29) (tgt := 34) (by decide +kernel) (by decide) (by omega) (fun c5 => ?_) (fun c5 => ?_)
          · exact absurd c5 (by decide)
          · refine a_iload_n (pc := 8) (i := 1) (by decide +kernel) rfl ?_
            refine a_iload_n (pc := 9) (i := 2) (by decide +kernel) rfl ?_
            refine a_icmp_lt (pc := 10) (off := 16) (tgt := 26) (by decide +kernel) (by decide) (by omega) (by omega) (fun c10 => ?_) (fun c10 => ?_)
            · refine a_iload_n (pc := 26) (i := 2) (by decide +kernel) rfl ?_
              refine a_bipush (pc := 27) (n := 10) (by decide +kernel) rfl ?_
              refine a_idiv (pc := 29) (by decide +kernel) (by omega) (by omega) ?_
              refine a_istore_n (pc := 30) (i := 2) (lv' := [(0, .ref 24), (1, j_i y), (2, j_i 1)]) (by decide +kernel) (Nat.le_of_ble_eq_true rfl) rfl ?_
              refine a_goto (pc := 31) (off := -27) (tgt := 4) (by decide +kernel) (by decide) ?_
              refine a_iload_n (pc := 4) (i := 2) (by decide +kernel) rfl ?_
              refine a_if_le (pc := 5) (off := 29) (tgt := 34) (by decide +kernel) (by decide) (by omega) (fun c5 => ?_) (fun c5 => ?_)
              · exact absurd c5 (by decide)
              · refine a_iload_n (pc := 8) (i := 1) (by decide +kernel) rfl ?_
                refine a_iload_n (pc := 9) (i := 2) (by decide +kernel) rfl ?_
                refine a_icmp_lt (pc := 10) (off := 16) (tgt := 26) (by decide +kernel) (by decide) (by omega) (by omega) (fun c10 => ?_) (fun c10 => ?_)
                · refine a_iload_n (pc := 26) (i := 2) (by decide +kernel) rfl ?_
                  refine a_bipush (pc := 27) (n := 10) (by decide +kernel) rfl ?_
                  refine a_idiv (pc := 29) (by decide +kernel) (by omega) (by omega) ?_
                  refine a_istore_n (pc := 30) (i := 2) (lv' := [(0, .ref 24), (1, j_i y), (2, j_i 0)]) (by decide +kernel) (Nat.le_of_ble_eq_true rfl) rfl ?_
                  refine a_goto (pc := 31) (off := -27) (tgt := 4) (by decide +kernel) (by decide) ?_
                  refine a_iload_n (pc := 4) (i := 2) (by decide +kernel) rfl ?_
                  refine a_if_le (pc := 5) (off := 29) (tgt := 34) (by decide +kernel) (by decide) (by omega) (fun c5 => ?_) (fun c5 => ?_)
                  · refine a_return (pc := 34) (by decide +kernel) rfl ?_
                    refine k_ret ?_
                    first | (exfalso; omega) | (refine ⟨rfl, rfl, ?_⟩; unfold f_dec; (first | rw [if_pos (by omega)] | rw [if_neg (by omega), if_pos (by omega)] | rw [if_neg (by omega), if_neg (by omega), if_pos (by omega)] | rw [if_neg (by omega), if_neg (by omega), if_neg (by omega)]); simp only [*]; rfl)
                  · exact absurd c5 (by decide)
                · refine a_aload_n (pc := 13) (i := 0) (by decide +kernel) rfl ?_
                  refine a_bipush (pc := 14) (n := 48) (by decide +kernel) rfl ?_
                  refine a_iload_n (pc := 16) (i := 1) (by decide +kernel) rfl ?_
                  refine a_iload_n (pc := 17) (i := 2) (by decide +kernel) rfl ?_
                  refine a_idiv (pc := 18) (by decide +kernel) (by omega) (by omega) ?_
                  refine a_bipush (pc := 19) (n := 10) (by decide +kernel) rfl ?_
                  refine a_irem (pc := 21) (by decide +kernel) (by omega) (by omega) ?_
                  refine a_iadd (pc := 22) (by decide +kernel) ?_
                  refine b_callV (pc := 23) (c' := 0) (sl' := 0) [j_i (48 + ((y / 1) % 10))] [] ml_X8_54 (by decide +kernel) rfl rfl (sh_24 hn) rfl rfl (Nat.le_of_ble_eq_true rfl) (j_fitI rfl rfl) (s_pappend hn (by omega)) (fun v n' σ' hq => ?_)
                  obtain ⟨rfl, e1, e2⟩ := hq
                  rw [e1, e2]; clear e1 e2
                  obtain ⟨σ5, hσ5⟩ : ∃ z, z = e_app 29 24 6 σ4 (48 + ((y / 1) % 10)) := ⟨_, rfl⟩
                  rw [← hσ5]
                  have kσ5 : σ5.2.1 24 6 = σ4.2.1 24 6 + 1 := by rw [hσ5]; exact e_app_n
                  show j_at _ _ _ [(0, .ref 24), (1, j_i y), (2, j_i 1)] [] _ _ _ _
                  refine a_iload_n (pc := 26) (i := 2) (by decide +kernel) rfl ?_
                  refine a_bipush (pc := 27) (n := 10) (by decide +kernel) rfl ?_
                  refine a_idiv (pc := 29) (by decide +kernel) (by omega) (by omega) ?_
                  refine a_istore_n (pc := 30) (i := 2) (lv' := [(0, .ref 24), (1, j_i y), (2, j_i 0)]) (by decide +kernel) (Nat.le_of_ble_eq_true rfl) rfl ?_
                  refine a_goto (pc := 31) (off := -27) (tgt := 4) (by decide +kernel) (by decide) ?_
                  refine a_iload_n (pc := 4) (i := 2) (by decide +kernel) rfl ?_
                  refine a_if_le (pc := 5) (off := 29) (tgt := 34) (by decide +kernel) (by decide) (by omega) (fun c5 => ?_) (fun c5 => ?_)
                  · refine a_return (pc := 34) (by decide +kernel) rfl ?_
                    refine k_ret ?_
                    first | (exfalso; omega) | (refine ⟨rfl, rfl, ?_⟩; unfold f_dec; (first | rw [if_pos (by omega)] | rw [if_neg (by omega), if_pos (by omega)] | rw [if_neg (by omega), if_neg (by omega), if_pos (by omega)] | rw [if_neg (by omega), if_neg (by omega), if_neg (by omega)]); simp only [*]; rfl)
                  · exact absurd c5 (by decide)
            · refine a_aload_n (pc := 13) (i := 0) (by decide +kernel) rfl ?_
              refine a_bipush (pc := 14) (n := 48) (by decide +kernel) rfl ?_
              refine a_iload_n (pc := 16) (i := 1) (by decide +kernel) rfl ?_
              refine a_iload_n (pc := 17) (i := 2) (by decide +kernel) rfl ?_
              refine a_idiv (pc := 18) (by decide +kernel) (by omega) (by omega) ?_
              refine a_bipush (pc := 19) (n := 10) (by decide +kernel) rfl ?_
              refine a_irem (pc := 21) (by decide +kernel) (by omega) (by omega) ?_
              refine a_iadd (pc := 22) (by decide +kernel) ?_
              refine b_callV (pc := 23) (c' := 0) (sl' := 0) [j_i (48 + ((y / 10) % 10))] [] ml_X8_54 (by decide +kernel) rfl rfl (sh_24 hn) rfl rfl (Nat.le_of_ble_eq_true rfl) (j_fitI rfl rfl) (s_pappend hn (by omega)) (fun v n' σ' hq => ?_)
              obtain ⟨rfl, e1, e2⟩ := hq
              rw [e1, e2]; clear e1 e2
              obtain ⟨σ6, hσ6⟩ : ∃ z, z = e_app 29 24 6 σ4 (48 + ((y / 10) % 10)) := ⟨_, rfl⟩
              rw [← hσ6]
              have kσ6 : σ6.2.1 24 6 = σ4.2.1 24 6 + 1 := by rw [hσ6]; exact e_app_n
              show j_at _ _ _ [(0, .ref 24), (1, j_i y), (2, j_i 10)] [] _ _ _ _
              refine a_iload_n (pc := 26) (i := 2) (by decide +kernel) rfl ?_
              refine a_bipush (pc := 27) (n := 10) (by decide +kernel) rfl ?_
              refine a_idiv (pc := 29) (by decide +kernel) (by omega) (by omega) ?_
              refine a_istore_n (pc := 30) (i := 2) (lv' := [(0, .ref 24), (1, j_i y), (2, j_i 1)]) (by decide +kernel) (Nat.le_of_ble_eq_true rfl) rfl ?_
              refine a_goto (pc := 31) (off := -27) (tgt := 4) (by decide +kernel) (by decide) ?_
              refine a_iload_n (pc := 4) (i := 2) (by decide +kernel) rfl ?_
              refine a_if_le (pc := 5) (off := 29) (tgt := 34) (by decide +kernel) (by decide) (by omega) (fun c5 => ?_) (fun c5 => ?_)
              · exact absurd c5 (by decide)
              · refine a_iload_n (pc := 8) (i := 1) (by decide +kernel) rfl ?_
                refine a_iload_n (pc := 9) (i := 2) (by decide +kernel) rfl ?_
                refine a_icmp_lt (pc := 10) (off := 16) (tgt := 26) (by decide +kernel) (by decide) (by omega) (by omega) (fun c10 => ?_) (fun c10 => ?_)
                · refine a_iload_n (pc := 26) (i := 2) (by decide +kernel) rfl ?_
                  refine a_bipush (pc := 27) (n := 10) (by decide +kernel) rfl ?_
                  refine a_idiv (pc := 29) (by decide +kernel) (by omega) (by omega) ?_
                  refine a_istore_n (pc := 30) (i := 2) (lv' := [(0, .ref 24), (1, j_i y), (2, j_i 0)]) (by decide +kernel) (Nat.le_of_ble_eq_true rfl) rfl ?_
                  refine a_goto (pc := 31) (off := -27) (tgt := 4) (by decide +kernel) (by decide) ?_
                  refine a_iload_n (pc := 4) (i := 2) (by decide +kernel) rfl ?_
                  refine a_if_le (pc := 5) (off := 29) (tgt := 34) (by decide +kernel) (by decide) (by omega) (fun c5 => ?_) (fun c5 => ?_)
                  · refine a_return (pc := 34) (by decide +kernel) rfl ?_
                    refine k_ret ?_
                    first | (exfalso; omega) | (refine ⟨rfl, rfl, ?_⟩; unfold f_dec; (first | rw [if_pos (by omega)] | rw [if_neg (by omega), if_pos (by omega)] | rw [if_neg (by omega), if_neg (by omega), if_pos (by omega)] | rw [if_neg (by omega), if_neg (by omega), if_neg (by omega)]); simp only [*]; rfl)
                  · exact absurd c5 (by decide)
                · refine a_aload_n (pc := 13) (i := 0) (by decide +kernel) rfl ?_
                  refine a_bipush (pc := 14) (n := 48) (by decide +kernel) rfl ?_
                  refine a_iload_n (pc := 16) (i := 1) (by decide +kernel) rfl ?_
                  refine a_iload_n (pc := 17) (i := 2) (by decide +kernel) rfl ?_
                  refine a_idiv (pc := 18) (by decide +kernel) (by omega) (by omega) ?_
                  refine a_bipush (pc := 19) (n := 10) (by decide +kernel) rfl ?_
                  refine a_irem (pc := 21) (by decide +kernel) (by omega) (by omega) ?_
                  refine a_iadd (pc := 22) (by decide +kernel) ?_
                  refine b_callV (pc := 23) (c' := 0) (sl' := 0) [j_i (48 + ((y / 1) % 10))] [] ml_X8_54 (by decide +kernel) rfl rfl (sh_24 hn) rfl rfl (Nat.le_of_ble_eq_true rfl) (j_fitI rfl rfl) (s_pappend hn (by omega)) (fun v n' σ' hq => ?_)
                  obtain ⟨rfl, e1, e2⟩ := hq
                  rw [e1, e2]; clear e1 e2
                  obtain ⟨σ7, hσ7⟩ : ∃ z, z = e_app 29 24 6 σ6 (48 + ((y / 1) % 10)) := ⟨_, rfl⟩
                  rw [← hσ7]
                  have kσ7 : σ7.2.1 24 6 = σ6.2.1 24 6 + 1 := by rw [hσ7]; exact e_app_n
                  show j_at _ _ _ [(0, .ref 24), (1, j_i y), (2, j_i 1)] [] _ _ _ _
                  refine a_iload_n (pc := 26) (i := 2) (by decide +kernel) rfl ?_
                  refine a_bipush (pc := 27) (n := 10) (by decide +kernel) rfl ?_
                  refine a_idiv (pc := 29) (by decide +kernel) (by omega) (by omega) ?_
                  refine a_istore_n (pc := 30) (i := 2) (lv' := [(0, .ref 24), (1, j_i y), (2, j_i 0)]) (by decide +kernel) (Nat.le_of_ble_eq_true rfl) rfl ?_
                  refine a_goto (pc := 31) (off := -27) (tgt := 4) (by decide +kernel) (by decide) ?_
                  refine a_iload_n (pc := 4) (i := 2) (by decide +kernel) rfl ?_
                  refine a_if_le (pc := 5) (off := 29) (tgt := 34) (by decide +kernel) (by decide) (by omega) (fun c5 => ?_) (fun c5 => ?_)
                  · refine a_return (pc := 34) (by decide +kernel) rfl ?_
                    refine k_ret ?_
                    first | (exfalso; omega) | (refine ⟨rfl, rfl, ?_⟩; unfold f_dec; (first | rw [if_pos (by omega)] | rw [if_neg (by omega), if_pos (by omega)] | rw [if_neg (by omega), if_neg (by omega), if_pos (by omega)] | rw [if_neg (by omega), if_neg (by omega), if_neg (by omega)]); simp only [*]; rfl)
                  · exact absurd c5 (by decide)
    · refine a_aload_n (pc := 13) (i := 0) (by decide +kernel) rfl ?_
      refine a_bipush (pc := 14) (n := 48) (by decide +kernel) rfl ?_
      refine a_iload_n (pc := 16) (i := 1) (by decide +kernel) rfl ?_
      refine a_iload_n (pc := 17) (i := 2) (by decide +kernel) rfl ?_
      refine a_idiv (pc := 18) (by decide +kernel) (by omega) (by omega) ?_
      refine a_bipush (pc := 19) (n := 10) (by decide +kernel) rfl ?_
      refine a_irem (pc := 21) (by decide +kernel) (by omega) (by omega) ?_
      refine a_iadd (pc := 22) (by decide +kernel) ?_
      refine b_callV (pc := 23) (c' := 0) (sl' := 0) [j_i (48 + ((y / 1000) % 10))] [] ml_X8_54 (by decide +kernel) rfl rfl (sh_24 hn) rfl rfl (Nat.le_of_ble_eq_true rfl) (j_fitI rfl rfl) (s_pappend hn (by omega)) (fun v n' σ' hq => ?_)
      obtain ⟨rfl, e1, e2⟩ := hq
      rw [e1, e2]; clear e1 e2
      obtain ⟨σ8, hσ8⟩ : ∃ z, z = e_app 29 24 6 σ (48 + ((y / 1000) % 10)) := ⟨_, rfl⟩
      rw [← hσ8]
      have kσ8 : σ8.2.1 24 6 = σ.2.1 24 6 + 1 := by rw [hσ8]; exact e_app_n
      show j_at _ _ _ [(0, .ref 24), (1, j_i y), (2, j_i 1000)] [] _ _ _ _
      refine a_iload_n (pc := 26) (i := 2) (by decide +kernel) rfl ?_
      refine a_bipush (pc := 27) (n := 10) (by decide +kernel) rfl ?_
      refine a_idiv (pc := 29) (by decide +kernel) (by omega) (by omega) ?_
      refine a_istore_n (pc := 30) (i := 2) (lv' := [(0, .ref 24), (1, j_i y), (2, j_i 100)]) (by decide +kernel) (Nat.le_of_ble_eq_true rfl) rfl ?_
      refine a_goto (pc := 31) (off := -27) (tgt := 4) (by decide +kernel) (by decide) ?_
      refine a_iload_n (pc := 4) (i := 2) (by decide +kernel) rfl ?_
      refine a_if_le (pc := 5) (off := 29) (tgt := 34) (by decide +kernel) (by decide) (by omega) (fun c5 => ?_) (fun c5 => ?_)
      · exact absurd c5 (by decide)
      · refine a_iload_n (pc := 8) (i := 1) (by decide +kernel) rfl ?_
        refine a_iload_n (pc := 9) (i := 2) (by decide +kernel) rfl ?_
        refine a_icmp_lt (pc := 10) (off := 16) (tgt := 26) (by decide +kernel) (by decide) (by omega) (by omega) (fun c10 => ?_) (fun c10 => ?_)
        · refine a_iload_n (pc := 26) (i := 2) (by decide +kernel) rfl ?_
          refine a_bipush (pc := 27) (n := 10) (by decide +kernel) rfl ?_
          refine a_idiv (pc := 29) (by decide +kernel) (by omega) (by omega) ?_
          refine a_istore_n (pc := 30) (i := 2) (lv' := [(0, .ref 24), (1, j_i y), (2, j_i 10)]) (by decide +kernel) (Nat.le_of_ble_eq_true rfl) rfl ?_
          refine a_goto (pc := 31) (off := -27) (tgt := 4) (by decide +kernel) (by decide) ?_
          refine a_iload_n (pc := 4) (i := 2) (by decide +kernel) rfl ?_
          refine a_if_le (pc := 5) (off := 29) (tgt := 34) (by decide +kernel) (by decide) (by omega) (fun c5 => ?_) (fun c5 => ?_)
          · exact absurd c5 (by decide)
          · refine a_iload_n (pc := 8) (i := 1) (by decide +kernel) rfl ?_
            refine a_iload_n (pc := 9) (i := 2) (by decide +kernel) rfl ?_
            refine a_icmp_lt (pc := 10) (off := 16) (tgt := 26) (by decide +kernel) (by decide) (by omega) (by omega) (fun c10 => ?_) (fun c10 => ?_)
            · refine a_iload_n (pc := 26) (i := 2) (by decide +kernel) rfl ?_
              refine a_bipush (pc := 27) (n := 10) (by decide +kernel) rfl ?_
              refine a_idiv (pc := 29) (by decide +kernel) (by omega) (by omega) ?_
              refine a_istore_n (pc := 30) (i := 2) (lv' := [(0, .ref 24), (1, j_i y), (2, j_i 1)]) (by decide +kernel) (Nat.le_of_ble_eq_true rfl) rfl ?_
              refine a_goto (pc := 31) (off := -27) (tgt := 4) (by decide +kernel) (by decide) ?_
              refine a_iload_n (pc := 4) (i := 2) (by decide +kernel) rfl ?_
              refine a_if_le (pc := 5) (off := 29) (tgt := 34) (by decide +kernel) (by decide) (by omega) (fun c5 => ?_) (fun c5 => ?_)
              · exact absurd c5 (by decide)
              · refine a_iload_n (pc := 8) (i := 1) (by decide +kernel) rfl ?_
                refine a_iload_n (pc := 9) (i := 2) (by decide +kernel) rfl ?_
                refine a_icmp_lt (pc := 10) (off := 16) (tgt := 26) (by decide +kernel) (by decide) (by omega) (by omega) (fun c10 => ?_) (fun c10 => ?_)
                · refine a_iload_n (pc := 26) (i := 2) (by decide +kernel) rfl ?_
                  refine a_bipush (pc := 27) (n := 10) (by decide +kernel) rfl ?_
                  refine a_idiv (pc := 29) (by decide +kernel) (by omega) (by omega) ?_
                  refine a_istore_n (pc := 30) (i := 2) (lv' := [(0, .ref 24), (1, j_i y), (2, j_i 0)]) (by decide +kernel) (Nat.le_of_ble_eq_true rfl) rfl ?_
                  refine a_goto (pc := 31) (off := -27) (tgt := 4) (by decide +kernel) (by decide) ?_
                  refine a_iload_n (pc := 4) (i := 2) (by decide +kernel) rfl ?_
                  refine a_if_le (pc := 5) (off := 29) (tgt := 34) (by decide +kernel) (by decide) (by omega) (fun c5 => ?_) (fun c5 => ?_)
                  · refine a_return (pc := 34) (by decide +kernel) rfl ?_
                    refine k_ret ?_
                    first | (exfalso; omega) | (refine ⟨rfl, rfl, ?_⟩; unfold f_dec; (first | rw [if_pos (by omega)] | rw [if_neg (by omega), if_pos (by omega)] | rw [if_neg (by omega), if_neg (by omega), if_pos (by omega)] | rw [if_neg (by omega), if_neg (by omega), if_neg (by omega)]); simp only [*]; rfl)
                  · exact absurd c5 (by decide)
                · refine a_aload_n (pc := 13) (i := 0) (by decide +kernel) rfl ?_
                  refine a_bipush (pc := 14) (n := 48) (by decide +kernel) rfl ?_
                  refine a_iload_n (pc := 16) (i := 1) (by decide +kernel) rfl ?_
                  refine a_iload_n (pc := 17) (i := 2) (by decide +kernel) rfl ?_
                  refine a_idiv (pc := 18) (by decide +kernel) (by omega) (by omega) ?_
                  refine a_bipush (pc := 19) (n := 10) (by decide +kernel) rfl ?_
                  refine a_irem (pc := 21) (by decide +kernel) (by omega) (by omega) ?_
                  refine a_iadd (pc := 22) (by decide +kernel) ?_
                  refine b_callV (pc := 23) (c' := 0) (sl' := 0) [j_i (48 + ((y / 1) % 10))] [] ml_X8_54 (by decide +kernel) rfl rfl (sh_24 hn) rfl rfl (Nat.le_of_ble_eq_true rfl) (j_fitI rfl rfl) (s_pappend hn (by omega)) (fun v n' σ' hq => ?_)
                  obtain ⟨rfl, e1, e2⟩ := hq
                  rw [e1, e2]; clear e1 e2
                  obtain ⟨σ9, hσ9⟩ : ∃ z, z = e_app 29 24 6 σ8 (48 + ((y / 1) % 10)) := ⟨_, rfl⟩
                  rw [← hσ9]
                  have kσ9 : σ9.2.1 24 6 = σ8.2.1 24 6 + 1 := by rw [hσ9]; exact e_app_n
                  show j_at _ _ _ [(0, .ref 24), (1, j_i y), (2, j_i 1)] [] _ _ _ _
                  refine a_iload_n (pc := 26) (i := 2) (by decide +kernel) rfl ?_
                  refine a_bipush (pc := 27) (n := 10) (by decide +kernel) rfl ?_
                  refine a_idiv (pc := 29) (by decide +kernel) (by omega) (by omega) ?_
                  refine a_istore_n (pc := 30) (i := 2) (lv' := [(0, .ref 24), (1, j_i y), (2, j_i 0)]) (by decide +kernel) (Nat.le_of_ble_eq_true rfl) rfl ?_
                  refine a_goto (pc := 31) (off := -27) (tgt := 4) (by decide +kernel) (by decide) ?_
                  refine a_iload_n (pc := 4) (i := 2) (by decide +kernel) rfl ?_
                  refine a_if_le (pc := 5) (off := 29) (tgt := 34) (by decide +kernel) (by decide) (by omega) (fun c5 => ?_) (fun c5 => ?_)
                  · refine a_return (pc := 34) (by decide +kernel) rfl ?_
                    refine k_ret ?_
                    first | (exfalso; omega) | (refine ⟨rfl, rfl, ?_⟩; unfold f_dec; (first | rw [if_pos (by omega)] | rw [if_neg (by omega), if_pos (by omega)] | rw [if_neg (by omega), if_neg (by omega), if_pos (by omega)] | rw [if_neg (by omega), if_neg (by omega), if_neg (by omega)]); simp only [*]; rfl)
                  · exact absurd c5 (by decide)
            · refine a_aload_n (pc := 13) (i := 0) (by decide +kernel) rfl ?_
              refine a_bipush (pc := 14) (n := 48) (by decide +kernel) rfl ?_
              refine a_iload_n (pc := 16) (i := 1) (by decide +kernel) rfl ?_
              refine a_iload_n (pc := 17) (i := 2) (by decide +kernel) rfl ?_
              refine a_idiv (pc := 18) (by decide +kernel) (by omega) (by omega) ?_
              refine a_bipush (pc := 19) (n := 10) (by decide +kernel) rfl ?_
              refine a_irem (pc := 21) (by decide +kernel) (by omega) (by omega) ?_
              refine a_iadd (pc := 22) (by decide +kernel) ?_
              refine b_callV (pc := 23) (c' := 0) (sl' := 0) [j_i (48 + ((y / 10) % 10))] [] ml_X8_54 (by decide +kernel) rfl rfl (sh_24 hn) rfl rfl (Nat.le_of_ble_eq_true rfl) (j_fitI rfl rfl) (s_pappend hn (by omega)) (fun v n' σ' hq => ?_)
              obtain ⟨rfl, e1, e2⟩ := hq
              rw [e1, e2]; clear e1 e2
              obtain ⟨σ10, hσ10⟩ : ∃ z, z = e_app 29 24 6 σ8 (48 + ((y / 10) % 10)) := ⟨_, rfl⟩
              rw [← hσ10]
              have kσ10 : σ10.2.1 24 6 = σ8.2.1 24 6 + 1 := by rw [hσ10]; exact e_app_n
              show j_at _ _ _ [(0, .ref 24), (1, j_i y), (2, j_i 10)] [] _ _ _ _
              refine a_iload_n (pc := 26) (i := 2) (by decide +kernel) rfl ?_
              refine a_bipush (pc := 27) (n := 10) (by decide +kernel) rfl ?_
              refine a_idiv (pc := 29) (by decide +kernel) (by omega) (by omega) ?_
              refine a_istore_n (pc := 30) (i := 2) (lv' := [(0, .ref 24), (1, j_i y), (2, j_i 1)]) (by decide +kernel) (Nat.le_of_ble_eq_true rfl) rfl ?_
              refine a_goto (pc := 31) (off := -27) (tgt := 4) (by decide +kernel) (by decide) ?_
              refine a_iload_n (pc := 4) (i := 2) (by decide +kernel) rfl ?_
              refine a_if_le (pc := 5) (off := 29) (tgt := 34) (by decide +kernel) (by decide) (by omega) (fun c5 => ?_) (fun c5 => ?_)
              · exact absurd c5 (by decide)
              · refine a_iload_n (pc := 8) (i := 1) (by decide +kernel) rfl ?_
                refine a_iload_n (pc := 9) (i := 2) (by decide +kernel) rfl ?_
                refine a_icmp_lt (pc := 10) (off := 16) (tgt := 26) (by decide +kernel) (by decide) (by omega) (by omega) (fun c10 => ?_) (fun c10 => ?_)
                · refine a_iload_n (pc := 26) (i := 2) (by decide +kernel) rfl ?_
                  refine a_bipush (pc := 27) (n := 10) (by decide +kernel) rfl ?_
                  refine a_idiv (pc := 29) (by decide +kernel) (by omega) (by omega) ?_
                  refine a_istore_n (pc := 30) (i := 2) (lv' := [(0, .ref 24), (1, j_i y), (2, j_i 0)]) (by decide +kernel) (Nat.le_of_ble_eq_true rfl) rfl ?_
                  refine a_goto (pc := 31) (off := -27) (tgt := 4) (by decide +kernel) (by decide) ?_
                  refine a_iload_n (pc := 4) (i := 2) (by decide +kernel) rfl ?_
                  refine a_if_le (pc := 5) (off := 29) (tgt := 34) (by decide +kernel) (by decide) (by omega) (fun c5 => ?_) (fun c5 => ?_)
                  · refine a_return (pc := 34) (by decide +kernel) rfl ?_
                    refine k_ret ?_
                    first | (exfalso; omega) | (refine ⟨rfl, rfl, ?_⟩; unfold f_dec; (first | rw [if_pos (by omega)] | rw [if_neg (by omega), if_pos (by omega)] | rw [if_neg (by omega), if_neg (by omega), if_pos (by omega)] | rw [if_neg (by omega), if_neg (by omega), if_neg (by omega)]); simp only [*]; rfl)
                  · exact absurd c5 (by decide)
                · refine a_aload_n (pc := 13) (i := 0) (by decide +kernel) rfl ?_
                  refine a_bipush (pc := 14) (n := 48) (by decide +kernel) rfl ?_
                  refine a_iload_n (pc := 16) (i := 1) (by decide +kernel) rfl ?_
                  refine a_iload_n (pc := 17) (i := 2) (by decide +kernel) rfl ?_
                  refine a_idiv (pc := 18) (by decide +kernel) (by omega) (by omega) ?_
                  refine a_bipush (pc := 19) (n := 10) (by decide +kernel) rfl ?_
                  refine a_irem (pc := 21) (by decide +kernel) (by omega) (by omega) ?_
                  refine a_iadd (pc := 22) (by decide +kernel) ?_
                  refine b_callV (pc := 23) (c' := 0) (sl' := 0) [j_i (48 + ((y / 1) % 10))] [] ml_X8_54 (by decide +kernel) rfl rfl (sh_24 hn) rfl rfl (Nat.le_of_ble_eq_true rfl) (j_fitI rfl rfl) (s_pappend hn (by omega)) (fun v n' σ' hq => ?_)
                  obtain ⟨rfl, e1, e2⟩ := hq
                  rw [e1, e2]; clear e1 e2
                  obtain ⟨σ11, hσ11⟩ : ∃ z, z = e_app 29 24 6 σ10 (48 + ((y / 1) % 10)) := ⟨_, rfl⟩
                  rw [← hσ11]
                  have kσ11 : σ11.2.1 24 6 = σ10.2.1 24 6 + 1 := by rw [hσ11]; exact e_app_n
                  show j_at _ _ _ [(0, .ref 24), (1, j_i y), (2, j_i 1)] [] _ _ _ _
                  refine a_iload_n (pc := 26) (i := 2) (by decide +kernel) rfl ?_
                  refine a_bipush (pc := 27) (n := 10) (by decide +kernel) rfl ?_
                  refine a_idiv (pc := 29) (by decide +kernel) (by omega) (by omega) ?_
                  refine a_istore_n (pc := 30) (i := 2) (lv' := [(0, .ref 24), (1, j_i y), (2, j_i 0)]) (by decide +kernel) (Nat.le_of_ble_eq_true rfl) rfl ?_
                  refine a_goto (pc := 31) (off := -27) (tgt := 4) (by decide +kernel) (by decide) ?_
                  refine a_iload_n (pc := 4) (i := 2) (by decide +kernel) rfl ?_
                  refine a_if_le (pc := 5) (off := 29) (tgt := 34) (by decide +kernel) (by decide) (by omega) (fun c5 => ?_) (fun c5 => ?_)
                  · refine a_return (pc := 34) (by decide +kernel) rfl ?_
                    refine k_ret ?_
                    first | (exfalso; omega) | (refine ⟨rfl, rfl, ?_⟩; unfold f_dec; (first | rw [if_pos (by omega)] | rw [if_neg (by omega), if_pos (by omega)] | rw [if_neg (by omega), if_neg (by omega), if_pos (by omega)] | rw [if_neg (by omega), if_neg (by omega), if_neg (by omega)]); simp only [*]; rfl)
                  · exact absurd c5 (by decide)
        · refine a_aload_n (pc := 13) (i := 0) (by decide +kernel) rfl ?_
          refine a_bipush (pc := 14) (n := 48) (by decide +kernel) rfl ?_
          refine a_iload_n (pc := 16) (i := 1) (by decide +kernel) rfl ?_
          refine a_iload_n (pc := 17) (i := 2) (by decide +kernel) rfl ?_
          refine a_idiv (pc := 18) (by decide +kernel) (by omega) (by omega) ?_
          refine a_bipush (pc := 19) (n := 10) (by decide +kernel) rfl ?_
          refine a_irem (pc := 21) (by decide +kernel) (by omega) (by omega) ?_
          refine a_iadd (pc := 22) (by decide +kernel) ?_
          refine b_callV (pc := 23) (c' := 0) (sl' := 0) [j_i (48 + ((y / 100) % 10))] [] ml_X8_54 (by decide +kernel) rfl rfl (sh_24 hn) rfl rfl (Nat.le_of_ble_eq_true rfl) (j_fitI rfl rfl) (s_pappend hn (by omega)) (fun v n' σ' hq => ?_)
          obtain ⟨rfl, e1, e2⟩ := hq
          rw [e1, e2]; clear e1 e2
          obtain ⟨σ12, hσ12⟩ : ∃ z, z = e_app 29 24 6 σ8 (48 + ((y / 100) % 10)) := ⟨_, rfl⟩
          rw [← hσ12]
          have kσ12 : σ12.2.1 24 6 = σ8.2.1 24 6 + 1 := by rw [hσ12]; exact e_app_n
          show j_at _ _ _ [(0, .ref 24), (1, j_i y), (2, j_i 100)] [] _ _ _ _
          refine a_iload_n (pc := 26) (i := 2) (by decide +kernel) rfl ?_
          refine a_bipush (pc := 27) (n := 10) (by decide +kernel) rfl ?_
          refine a_idiv (pc := 29) (by decide +kernel) (by omega) (by omega) ?_
          refine a_istore_n (pc := 30) (i := 2) (lv' := [(0, .ref 24), (1, j_i y), (2, j_i 10)]) (by decide +kernel) (Nat.le_of_ble_eq_true rfl) rfl ?_
          refine a_goto (pc := 31) (off := -27) (tgt := 4) (by decide +kernel) (by decide) ?_
          refine a_iload_n (pc := 4) (i := 2) (by decide +kernel) rfl ?_
          refine a_if_le (pc := 5) (off := 29) (tgt := 34) (by decide +kernel) (by decide) (by omega) (fun c5 => ?_) (fun c5 => ?_)
          · exact absurd c5 (by decide)
          · refine a_iload_n (pc := 8) (i := 1) (by decide +kernel) rfl ?_
            refine a_iload_n (pc := 9) (i := 2) (by decide +kernel) rfl ?_
            refine a_icmp_lt (pc := 10) (off := 16) (tgt := 26) (by decide +kernel) (by decide) (by omega) (by omega) (fun c10 => ?_) (fun c10 => ?_)
            · refine a_iload_n (pc := 26) (i := 2) (by decide +kernel) rfl ?_
              refine a_bipush (pc := 27) (n := 10) (by decide +kernel) rfl ?_
              refine a_idiv (pc := 29) (by decide +kernel) (by omega) (by omega) ?_
              refine a_istore_n (pc := 30) (i := 2) (lv' := [(0, .ref 24), (1, j_i y), (2, j_i 1)]) (by decide +kernel) (Nat.le_of_ble_eq_true rfl) rfl ?_
              refine a_goto (pc := 31) (off := -27) (tgt := 4) (by decide +kernel) (by decide) ?_
              refine a_iload_n (pc := 4) (i := 2) (by decide +kernel) rfl ?_
              refine a_if_le (pc := 5) (off := 29) (tgt := 34) (by decide +kernel) (by decide) (by omega) (fun c5 => ?_) (fun c5 => ?_)
              · exact absurd c5 (by decide)
              · refine a_iload_n (pc := 8) (i := 1) (by decide +kernel) rfl ?_
                refine a_iload_n (pc := 9) (i := 2) (by decide +kernel) rfl ?_
                refine a_icmp_lt (pc := 10) (off := 16) (tgt := 26) (by decide +kernel) (by decide) (by omega) (by omega) (fun c10 => ?_) (fun c10 => ?_)
                · refine a_iload_n (pc := 26) (i := 2) (by decide +kernel) rfl ?_
                  refine a_bipush (pc := 27) (n := 10) (by decide +kernel) rfl ?_
                  refine a_idiv (pc := 29) (by decide +kernel) (by omega) (by omega) ?_
                  refine a_istore_n (pc := 30) (i := 2) (lv' := [(0, .ref 24), (1, j_i y), (2, j_i 0)]) (by decide +kernel) (Nat.le_of_ble_eq_true rfl) rfl ?_
                  refine a_goto (pc := 31) (off := -27) (tgt := 4) (by decide +kernel) (by decide) ?_
                  refine a_iload_n (pc := 4) (i := 2) (by decide +kernel) rfl ?_
                  refine a_if_le (pc := 5) (off := 29) (tgt := 34) (by decide +kernel) (by decide) (by omega) (fun c5 => ?_) (fun c5 => ?_)
                  · refine a_return (pc := 34) (by decide +kernel) rfl ?_
                    refine k_ret ?_
                    first | (exfalso; omega) | (refine ⟨rfl, rfl, ?_⟩; unfold f_dec; (first | rw [if_pos (by omega)] | rw [if_neg (by omega), if_pos (by omega)] | rw [if_neg (by omega), if_neg (by omega), if_pos (by omega)] | rw [if_neg (by omega), if_neg (by omega), if_neg (by omega)]); simp only [*]; rfl)
                  · exact absurd c5 (by decide)
                · refine a_aload_n (pc := 13) (i := 0) (by decide +kernel) rfl ?_
                  refine a_bipush (pc := 14) (n := 48) (by decide +kernel) rfl ?_
                  refine a_iload_n (pc := 16) (i := 1) (by decide +kernel) rfl ?_
                  refine a_iload_n (pc := 17) (i := 2) (by decide +kernel) rfl ?_
                  refine a_idiv (pc := 18) (by decide +kernel) (by omega) (by omega) ?_
                  refine a_bipush (pc := 19) (n := 10) (by decide +kernel) rfl ?_
                  refine a_irem (pc := 21) (by decide +kernel) (by omega) (by omega) ?_
                  refine a_iadd (pc := 22) (by decide +kernel) ?_
                  refine b_callV (pc := 23) (c' := 0) (sl' := 0) [j_i (48 + ((y / 1) % 10))] [] ml_X8_54 (by decide +kernel) rfl rfl (sh_24 hn) rfl rfl (Nat.le_of_ble_eq_true rfl) (j_fitI rfl rfl) (s_pappend hn (by omega)) (fun v n' σ' hq => ?_)
                  obtain ⟨rfl, e1, e2⟩ := hq
                  rw [e1, e2]; clear e1 e2
                  obtain ⟨σ13, hσ13⟩ : ∃ z, z = e_app 29 24 6 σ12 (48 + ((y / 1) % 10)) := ⟨_, rfl⟩
                  rw [← hσ13]
                  have kσ13 : σ13.2.1 24 6 = σ12.2.1 24 6 + 1 := by rw [hσ13]; exact e_app_n
                  show j_at _ _ _ [(0, .ref 24), (1, j_i y), (2, j_i 1)] [] _ _ _ _
                  refine a_iload_n (pc := 26) (i := 2) (by decide +kernel) rfl ?_
                  refine a_bipush (pc := 27) (n := 10) (by decide +kernel) rfl ?_
                  refine a_idiv (pc := 29) (by decide +kernel) (by omega) (by omega) ?_
                  refine a_istore_n (pc := 30) (i := 2) (lv' := [(0, .ref 24), (1, j_i y), (2, j_i 0)]) (by decide +kernel) (Nat.le_of_ble_eq_true rfl) rfl ?_
                  refine a_goto (pc := 31) (off := -27) (tgt := 4) (by decide +kernel) (by decide) ?_
                  refine a_iload_n (pc := 4) (i := 2) (by decide +kernel) rfl ?_
                  refine a_if_le (pc := 5) (off := 29) (tgt := 34) (by decide +kernel) (by decide) (by omega) (fun c5 => ?_) (fun c5 => ?_)
                  · refine a_return (pc := 34) (by decide +kernel) rfl ?_
                    refine k_ret ?_
                    first | (exfalso; omega) | (refine ⟨rfl, rfl, ?_⟩; unfold f_dec; (first | rw [if_pos (by omega)] | rw [if_neg (by omega), if_pos (by omega)] | rw [if_neg (by omega), if_neg (by omega), if_pos (by omega)] | rw [if_neg (by omega), if_neg (by omega), if_neg (by omega)]); simp only [*]; rfl)
                  · exact absurd c5 (by decide)
            · refine a_aload_n (pc := 13) (i := 0) (by decide +kernel) rfl ?_
              refine a_bipush (pc := 14) (n := 48) (by decide +kernel) rfl ?_
              refine a_iload_n (pc := 16) (i := 1) (by decide +kernel) rfl ?_
              refine a_iload_n (pc := 17) (i := 2) (by decide +kernel) rfl ?_
              refine a_idiv (pc := 18) (by decide +kernel) (by omega) (by omega) ?_
              refine a_bipush (pc := 19) (n := 10) (by decide +kernel) rfl ?_
              refine a_irem (pc := 21) (by decide +kernel) (by omega) (by omega) ?_
              refine a_iadd (pc := 22) (by decide +kernel) ?_
              refine b_callV (pc := 23) (c' := 0) (sl' := 0) [j_i (48 + ((y / 10) % 10))] [] ml_X8_54 (by decide +kernel) rfl rfl (sh_24 hn) rfl rfl (Nat.le_of_ble_eq_true rfl) (j_fitI rfl rfl) (s_pappend hn (by omega)) (fun v n' σ' hq => ?_)
              obtain ⟨rfl, e1, e2⟩ := hq
              rw [e1, e2]; clear e1 e2
              obtain ⟨σ14, hσ14⟩ : ∃ z, z = e_app 29 24 6 σ12 (48 + ((y / 10) % 10)) := ⟨_, rfl⟩
              rw [← hσ14]
              have kσ14 : σ14.2.1 24 6 = σ12.2.1 24 6 + 1 := by rw [hσ14]; exact e_app_n
              show j_at _ _ _ [(0, .ref 24), (1, j_i y), (2, j_i 10)] [] _ _ _ _
              refine a_iload_n (pc := 26) (i := 2) (by decide +kernel) rfl ?_
              refine a_bipush (pc := 27) (n := 10) (by decide +kernel) rfl ?_
              refine a_idiv (pc := 29) (by decide +kernel) (by omega) (by omega) ?_
              refine a_istore_n (pc := 30) (i := 2) (lv' := [(0, .ref 24), (1, j_i y), (2, j_i 1)]) (by decide +kernel) (Nat.le_of_ble_eq_true rfl) rfl ?_
              refine a_goto (pc := 31) (off := -27) (tgt := 4) (by decide +kernel) (by decide) ?_
              refine a_iload_n (pc := 4) (i := 2) (by decide +kernel) rfl ?_
              refine a_if_le (pc := 5) (off := 29) (tgt := 34) (by decide +kernel) (by decide) (by omega) (fun c5 => ?_) (fun c5 => ?_)
              · exact absurd c5 (by decide)
              · refine a_iload_n (pc := 8) (i := 1) (by decide +kernel) rfl ?_
                refine a_iload_n (pc := 9) (i := 2) (by decide +kernel) rfl ?_
                refine a_icmp_lt (pc := 10) (off := 16) (tgt := 26) (by decide +kernel) (by decide) (by omega) (by omega) (fun c10 => ?_) (fun c10 => ?_)
                · refine a_iload_n (pc := 26) (i := 2) (by decide +kernel) rfl ?_
                  refine a_bipush (pc := 27) (n := 10) (by decide +kernel) rfl ?_
                  refine a_idiv (pc := 29) (by decide +kernel) (by omega) (by omega) ?_
                  refine a_istore_n (pc := 30) (i := 2) (lv' := [(0, .ref 24), (1, j_i y), (2, j_i 0)]) (by decide +kernel) (Nat.le_of_ble_eq_true rfl) rfl ?_
                  refine a_goto (pc := 31) (off := -27) (tgt := 4) (by decide +kernel) (by decide) ?_
                  refine a_iload_n (pc := 4) (i := 2) (by decide +kernel) rfl ?_
                  refine a_if_le (pc := 5) (off := 29) (tgt := 34) (by decide +kernel) (by decide) (by omega) (fun c5 => ?_) (fun c5 => ?_)
                  · refine a_return (pc := 34) (by decide +kernel) rfl ?_
                    refine k_ret ?_
                    first | (exfalso; omega) | (refine ⟨rfl, rfl, ?_⟩; unfold f_dec; (first | rw [if_pos (by omega)] | rw [if_neg (by omega), if_pos (by omega)] | rw [if_neg (by omega), if_neg (by omega), if_pos (by omega)] | rw [if_neg (by omega), if_neg (by omega), if_neg (by omega)]); simp only [*]; rfl)
                  · exact absurd c5 (by decide)
                · refine a_aload_n (pc := 13) (i := 0) (by decide +kernel) rfl ?_
                  refine a_bipush (pc := 14) (n := 48) (by decide +kernel) rfl ?_
                  refine a_iload_n (pc := 16) (i := 1) (by decide +kernel) rfl ?_
                  refine a_iload_n (pc := 17) (i := 2) (by decide +kernel) rfl ?_
                  refine a_idiv (pc := 18) (by decide +kernel) (by omega) (by omega) ?_
                  refine a_bipush (pc := 19) (n := 10) (by decide +kernel) rfl ?_
                  refine a_irem (pc := 21) (by decide +kernel) (by omega) (by omega) ?_
                  refine a_iadd (pc := 22) (by decide +kernel) ?_
                  refine b_callV (pc := 23) (c' := 0) (sl' := 0) [j_i (48 + ((y / 1) % 10))] [] ml_X8_54 (by decide +kernel) rfl rfl (sh_24 hn) rfl rfl (Nat.le_of_ble_eq_true rfl) (j_fitI rfl rfl) (s_pappend hn (by omega)) (fun v n' σ' hq => ?_)
                  obtain ⟨rfl, e1, e2⟩ := hq
                  rw [e1, e2]; clear e1 e2
                  obtain ⟨σ15, hσ15⟩ : ∃ z, z = e_app 29 24 6 σ14 (48 + ((y / 1) % 10)) := ⟨_, rfl⟩
                  rw [← hσ15]
                  have kσ15 : σ15.2.1 24 6 = σ14.2.1 24 6 + 1 := by rw [hσ15]; exact e_app_n
                  show j_at _ _ _ [(0, .ref 24), (1, j_i y), (2, j_i 1)] [] _ _ _ _
                  refine a_iload_n (pc := 26) (i := 2) (by decide +kernel) rfl ?_
                  refine a_bipush (pc := 27) (n := 10) (by decide +kernel) rfl ?_
                  refine a_idiv (pc := 29) (by decide +kernel) (by omega) (by omega) ?_
                  refine a_istore_n (pc := 30) (i := 2) (lv' := [(0, .ref 24), (1, j_i y), (2, j_i 0)]) (by decide +kernel) (Nat.le_of_ble_eq_true rfl) rfl ?_
                  refine a_goto (pc := 31) (off := -27) (tgt := 4) (by decide +kernel) (by decide) ?_
                  refine a_iload_n (pc := 4) (i := 2) (by decide +kernel) rfl ?_
                  refine a_if_le (pc := 5) (off := 29) (tgt := 34) (by decide +kernel) (by decide) (by omega) (fun c5 => ?_) (fun c5 => ?_)
                  · refine a_return (pc := 34) (by decide +kernel) rfl ?_
                    refine k_ret ?_
                    first | (exfalso; omega) | (refine ⟨rfl, rfl, ?_⟩; unfold f_dec; (first | rw [if_pos (by omega)] | rw [if_neg (by omega), if_pos (by omega)] | rw [if_neg (by omega), if_neg (by omega), if_pos (by omega)] | rw [if_neg (by omega), if_neg (by omega), if_neg (by omega)]); simp only [*]; rfl)
                  · exact absurd c5 (by decide)
