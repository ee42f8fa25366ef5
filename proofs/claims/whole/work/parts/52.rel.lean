/-! The relation of class and Model. -/
/-- what is kept at a (class) and in g (Model) is the same -/
def KRh (σ : k_St) (a : Nat) (g : Int → Int) (h : Int) : Prop := σ.1 (a + 9) h = 1 - g (302 + 36 * h) ∧ σ.1 (a + 5) h = g (302 + 36 * h + 1) ∧ σ.1 (a + 8) h = g (302 + 36 * h + 2) ∧ (∀ i, 0 ≤ i → i < g (302 + 36 * h + 1) → σ.1 (a + 4) (h * 16 + i) = g (302 + 36 * h + 3 + i)) ∧ (∀ i, 0 ≤ i → i < g (302 + 36 * h + 2) → σ.1 (a + 7) (h * 16 + i) = g (302 + 36 * h + 3 + 16 + i))
def KRm (σ : k_St) (a : Nat) (g : Int → Int) (m : Int) : Prop := σ.1 (a + 15) m = 1 - g (1383 + 7 * m) ∧ σ.1 (a + 11) m = g (1383 + 7 * m + 1) ∧ σ.1 (a + 12) m = g (1383 + 7 * m + 2) ∧ (∀ i, 0 ≤ i → i < 3 → f_head (σ.1 (a + 13) m) i = g (1383 + 7 * m + 3 + i)) ∧ σ.1 (a + 14) m = g (1383 + 7 * m + 6)
def KR (σ : k_St) (a : Nat) (g : Int → Int) : Prop := (σ.2.1 a 1 = g 0 ∧ ∀ k, 0 ≤ k → k < g 0 → σ.1 (a + 1) k = g (1 + k)) ∧ (σ.2.1 (a + 2) 3 = g 301 ∧ ∀ h, 0 ≤ h → h < g 301 → KRh σ a g h) ∧ (σ.2.1 (a + 10) 5 = g 1382 ∧ ∀ m, 0 ≤ m → m < g 1382 → KRm σ a g m)
def h_isA (σ : k_St) (a : Nat) (h : Int) : Prop := 0 ≤ h ∧ h < σ.2.1 (a + 2) 3 ∧ σ.1 (a + 9) h = 0
def m_isA (σ : k_St) (a : Nat) (m : Int) : Prop := 0 ≤ m ∧ m < σ.2.1 (a + 10) 5 ∧ σ.1 (a + 15) m = 0
def p_okA (lv : Int → Prop) (k p : Int) : Prop := okp lv p ∧ f_head p 0 ≠ -9 ∧ (f_head p 1 = -9 → f_head p 2 = -9) ∧ (5 < k → f_head p 1 ≠ -9 ∧ f_head p 2 = -9 ∧ f_head p 0 ≠ f_head p 1)
def KI (σ : k_St) (a : Nat) : Prop := (∀ x y, h_isA σ a x → h_isA σ a y → x ≠ y → ∃ i, 0 ≤ i ∧ i < 16 ∧ r_sgn σ (a + 3) 30 x i ≠ r_sgn σ (a + 3) 30 y i) ∧ (∀ m, m_isA σ a m → p_okA (h_isA σ a) (σ.1 (a + 11) m) (σ.1 (a + 13) m)) ∧ (∀ h, 0 ≤ h → h < σ.2.1 (a + 2) 3 → (∀ i, 0 ≤ i → i < σ.1 (a + 5) h → 32 ≤ σ.1 (a + 4) (h * 16 + i) ∧ σ.1 (a + 4) (h * 16 + i) ≤ 126) ∧ ∀ i, 0 ≤ i → i < σ.1 (a + 8) h → 32 ≤ σ.1 (a + 7) (h * 16 + i) ∧ σ.1 (a + 7) (h * 16 + i) ≤ 126) ∧ ∀ m, 0 ≤ m → m < σ.2.1 (a + 10) 5 → σ.1 (a + 12) m ≤ σ.2.1 a 1
def d_rg (g : Int → Int) : Prop := ∀ i : Int, -128 ≤ g i ∧ g i ≤ 9999
def RKept (σ : k_St) : Prop := kp_wf σ 6 ∧ KR σ 6 (σ.1 69) ∧ KI σ 6 ∧ d_rg (σ.1 69)
theorem KR_congr {σ τ : k_St} {a : Nat} {g g' : Int → Int} (hg : ∀ i, 0 ≤ i → i < 1733 → g' i = g i) (hr : (0 ≤ g 0 ∧ g 0 ≤ 300) ∧ (0 ≤ g 301 ∧ g 301 ≤ 30) ∧ (0 ≤ g 1382 ∧ g 1382 ≤ 50)) (h16 : ∀ h, 0 ≤ h → h < g 301 → g (302 + 36 * h + 1) ≤ 16 ∧ g (302 + 36 * h + 2) ≤ 16) (h1 : ∀ c, a ≤ c → c ≤ a + 15 → τ.1 c = σ.1 c) (h2 : ∀ c j, a ≤ c → c ≤ a + 15 → τ.2.1 c j = σ.2.1 c j) (h : KR σ a g) : KR τ a g' := by
  obtain ⟨⟨a1, a2⟩, ⟨b1, b2⟩, c1, c2⟩ := h
  refine ⟨⟨by rw [h2 _ _ (by omega) (by omega), hg _ (by omega) (by omega)]; exact a1, fun k k0 k1 => ?_⟩, ⟨by rw [h2 _ _ (by omega) (by omega), hg _ (by omega) (by omega)]; exact b1, fun q q0 q1 => ?_⟩, by rw [h2 _ _ (by omega) (by omega), hg _ (by omega) (by omega)]; exact c1, fun m m0 m1 => ?_⟩
  · rw [hg _ (by omega) (by omega)] at k1
    rw [h1 _ (by omega) (by omega), hg _ (by omega) (by omega)]; exact a2 k k0 k1
  · rw [hg _ (by omega) (by omega)] at q1
    obtain ⟨e1, e2, e3, e4, e5⟩ := b2 q q0 q1
    have := h16 q q0 q1
    unfold KRh
    rw [h1 _ (by omega) (by omega), h1 _ (by omega) (by omega), h1 _ (by omega) (by omega), h1 _ (by omega) (by omega), h1 _ (by omega) (by omega), hg _ (by omega) (by omega), hg _ (by omega) (by omega), hg _ (by omega) (by omega)]
    exact ⟨e1, e2, e3, fun i i0 i1 => by rw [hg _ (by omega) (by omega)]; exact e4 i i0 i1, fun i i0 i1 => by rw [hg _ (by omega) (by omega)]; exact e5 i i0 i1⟩
  · rw [hg _ (by omega) (by omega)] at m1
    obtain ⟨e1, e2, e3, e4, e5⟩ := c2 m m0 m1
    unfold KRm
    rw [h1 _ (by omega) (by omega), h1 _ (by omega) (by omega), h1 _ (by omega) (by omega), h1 _ (by omega) (by omega), h1 _ (by omega) (by omega), hg _ (by omega) (by omega), hg _ (by omega) (by omega), hg _ (by omega) (by omega), hg _ (by omega) (by omega)]
    exact ⟨e1, e2, e3, fun i i0 i1 => by rw [hg _ (by omega) (by omega)]; exact e4 i i0 i1, e5⟩
theorem KI_congr {σ τ : k_St} {a : Nat} (h1 : ∀ c, a ≤ c → c ≤ a + 15 → τ.1 c = σ.1 c) (h2 : ∀ c j, a ≤ c → c ≤ a + 15 → τ.2.1 c j = σ.2.1 c j) (h : KI σ a) : KI τ a := by
  have e1 : h_isA τ a = h_isA σ a := by funext x; unfold h_isA; rw [h1 _ (by omega) (by omega), h2 _ _ (by omega) (by omega)]
  have e2 : ∀ m, m_isA τ a m ↔ m_isA σ a m := fun m => by unfold m_isA; rw [h1 _ (by omega) (by omega), h2 _ _ (by omega) (by omega)]
  unfold KI
  rw [e1, h1 (a + 11) (by omega) (by omega), h1 (a + 13) (by omega) (by omega), h1 (a + 4) (by omega) (by omega), h1 (a + 5) (by omega) (by omega), h1 (a + 7) (by omega) (by omega), h1 (a + 8) (by omega) (by omega), h1 (a + 12) (by omega) (by omega), h2 (a + 2) 3 (by omega) (by omega), h2 (a + 10) 5 (by omega) (by omega), h2 a 1 (by omega) (by omega)]
  refine ⟨fun x y hx hy hxy => ?_, fun m hm => h.2.1 m ((e2 m).mp hm), h.2.2⟩
  obtain ⟨i, i0, i1, i2⟩ := h.1 x y hx hy hxy
  exact ⟨i, i0, i1, by unfold r_sgn at i2 ⊢; rw [h1 (a + 3 + 1) (by omega) (by omega), h1 (a + 3 + 2) (by omega) (by omega)]; exact i2⟩
/-- what the ranges are -/
theorem KR_rg {σ : k_St} {a : Nat} {g : Int → Int} (hk : kp_wf σ a) (h : KR σ a g) : ((0 ≤ g 0 ∧ g 0 ≤ 300) ∧ (0 ≤ g 301 ∧ g 301 ≤ 30) ∧ (0 ≤ g 1382 ∧ g 1382 ≤ 50)) ∧ (∀ h, 0 ≤ h → h < g 301 → (0 ≤ g (302 + 36 * h + 1) ∧ g (302 + 36 * h + 1) ≤ 16) ∧ (0 ≤ g (302 + 36 * h + 2) ∧ g (302 + 36 * h + 2) ≤ 16) ∧ (g (302 + 36 * h) = 0 ∨ g (302 + 36 * h) = 1)) ∧ ∀ m, 0 ≤ m → m < g 1382 → (g (1383 + 7 * m) = 0 ∨ g (1383 + 7 * m) = 1) ∧ (0 ≤ g (1383 + 7 * m + 1) ∧ g (1383 + 7 * m + 1) ≤ 7) ∧ (0 ≤ g (1383 + 7 * m + 2) ∧ g (1383 + 7 * m + 2) ≤ 300) ∧ (0 ≤ g (1383 + 7 * m + 6) ∧ g (1383 + 7 * m + 6) ≤ 99) ∧ ∀ i, 0 ≤ i → i < 3 → -9 ≤ g (1383 + 7 * m + 3 + i) ∧ g (1383 + 7 * m + 3 + i) ≤ 29 := by
  obtain ⟨⟨a1, a2⟩, ⟨b1, b2⟩, c1, c2⟩ := h
  obtain ⟨k1, ⟨k2, k3, k4, k5⟩, k6, k7, k8⟩ := hk
  rw [a1] at k1; rw [b1] at k2; rw [c1] at k6 k8
  refine ⟨⟨k1, k2, k6⟩, fun h h0 h1 => ?_, fun m m0 m1 => ?_⟩
  · obtain ⟨e1, e2, e3, _, _⟩ := b2 h h0 h1
    have f1 := k3.1 h h0 (by omega)
    have f2 := k4.1 h h0 (by omega)
    rw [show a + 2 + 1 + 2 = a + 5 by omega, e2] at f1
    rw [show a + 2 + 4 + 2 = a + 8 by omega, e3] at f2
    have f3 := k5 h
    rw [show a + 2 + 7 = a + 9 by omega, e1] at f3
    exact ⟨f1, f2, by omega⟩
  · obtain ⟨e1, e2, e3, e4, e5⟩ := c2 m m0 m1
    have f1 := k7 m
    have f2 := k8 m m0 m1
    rw [show a + 10 + 5 = a + 15 by omega, e1] at f1
    rw [show a + 10 + 1 = a + 11 by omega, e2, show a + 10 + 2 = a + 12 by omega, e3, show a + 10 + 4 = a + 14 by omega, e5] at f2
    exact ⟨by omega, f2.1, f2.2.1, f2.2.2.2, fun i i0 i1 => by rw [← e4 i i0 i1]; exact f_head_in _ _⟩
def NMp (S C N : Int → Int) (L : Int) : Prop := (0 ≤ L ∧ L ≤ 16) ∧ C 0 = L ∧ (∀ i, -128 ≤ S i ∧ S i ≤ 127) ∧ ∀ i, 0 ≤ i → i < L → S i = N i ∧ (32 ≤ S i ∧ S i ≤ 126)
def RName (σ : k_St) : Prop := NMp (σ.1 31) (σ.1 32) (σ.1 71) (σ.2.1 68 7)
def PSp (S C P L : Int → Int) (cn m : Int) : Prop := (0 ≤ m ∧ m ≤ 4) ∧ cn = m ∧ (∀ i, -128 ≤ S i ∧ S i ≤ 127) ∧ (∀ r, 0 ≤ r → r < 4 → 0 ≤ C r ∧ C r ≤ 16) ∧ ∀ p, 0 ≤ p → p < m → C p = L p ∧ 1 ≤ L p ∧ ∀ i, 0 ≤ i → i < L p → f_fold (S (p * 16 + i)) = P (16 * p + i) ∧ (65 ≤ S (p * 16 + i) ∧ S (p * 16 + i) ≤ 90 ∨ 97 ≤ S (p * 16 + i) ∧ S (p * 16 + i) ≤ 122)
def RPass (σ : k_St) : Prop := PSp (σ.1 35) (σ.1 36) (σ.1 72) (σ.1 73) (σ.2.1 33 1) (σ.2.1 68 10)
def PTp (cp cf cn cl dp df dn dl : Int → Int) (k m : Int) : Prop := (0 ≤ m ∧ m ≤ 8) ∧ k = m ∧ (∀ p q, 0 ≤ p → p < q → q < m → dp p < dp q) ∧ (∀ p q, 0 ≤ p → p < m → 0 ≤ q → q < m → cp p = cp q → p = q) ∧ (∀ p, 0 ≤ p → p < m → ((0 ≤ cp p ∧ cp p ≤ 299) ∧ (0 ≤ cf p ∧ cf p ≤ 2) ∧ (1 ≤ cn p ∧ cn p ≤ 999) ∧ (-2147483648 ≤ cl p ∧ cl p ≤ 2147483647)) ∧ ∃ q, 0 ≤ q ∧ q < m ∧ dp q = cp p ∧ df q = cf p ∧ dn q = cn p ∧ dl q = cl p) ∧ ∀ q, 0 ≤ q → q < m → ∃ p, 0 ≤ p ∧ p < m ∧ dp q = cp p ∧ df q = cf p ∧ dn q = cn p ∧ dl q = cl p
def RPart (σ : k_St) : Prop := PTp (σ.1 25) (σ.1 26) (σ.1 27) (σ.1 28) (σ.1 74) (σ.1 75) (σ.1 76) (σ.1 77) (σ.2.1 24 4) (σ.2.1 68 12)
def RSmall (σ : k_St) : Prop := (1 ≤ σ.2.1 5 10 ∧ σ.2.1 5 10 ≤ 50) ∧ σ.2.1 68 11 = σ.2.1 5 10 ∧ σ.2.1 68 1 = σ.2.1 5 11 ∧ σ.2.1 68 0 = σ.2.1 5 12 ∧ (0 ≤ σ.2.1 5 13 ∧ σ.2.1 5 13 ≤ 3) ∧ σ.2.1 68 52 = σ.2.1 5 13 ∧ σ.2.1 68 53 = σ.2.1 5 14
def RActs (n : Nat) (σ : k_St) : Prop := ∃ r : Nat, r ≤ 40 ∧ n = 101 + 16 * r ∧ (∀ i : Nat, i < r → σ.2.2 23 (i : Int) = some (101 + 16 * i)) ∧ (∀ i : Nat, r ≤ i → σ.2.2 23 (i : Int) = none) ∧ (0 ≤ σ.2.1 22 1 ∧ σ.2.1 22 1 < 40) ∧ (0 ≤ σ.2.1 22 2 ∧ σ.2.1 22 2 ≤ 40) ∧ (r < 40 → σ.2.1 22 2 ≤ σ.2.1 22 1 ∧ σ.2.1 22 1 ≤ r) ∧ σ.2.1 68 5 = σ.2.1 22 2 ∧ (0 ≤ σ.2.1 68 4 ∧ σ.2.1 68 4 < 40) ∧ (σ.2.1 68 4 + σ.2.1 68 5) % 40 = σ.2.1 22 1 ∧ (∀ s : Nat, s < r → kp_wf σ (101 + 16 * s)) ∧ d_rg (σ.1 70) ∧ ∀ s : Nat, s < 40 → (∃ j : Int, 0 ≤ j ∧ j < σ.2.1 22 2 ∧ (σ.2.1 68 4 + j) % 40 = s) → KR σ (101 + 16 * s) (fun k => σ.1 70 (1733 * s + k)) ∧ KI σ (101 + 16 * s)
/-- class's index at a is the Model's -/
def IR (σ : k_St) (a : Nat) : Prop := σ.2.1 68 25 = σ.2.1 a 0 ∧ (∀ e, 0 ≤ e → e < σ.2.1 a 0 → (∀ k, 0 ≤ k → k < 3 → σ.1 81 (3 * e + k) = f_head (σ.1 (a + 1) e) k) ∧ (σ.1 82 e = i_pn σ a e ∧ σ.1 83 e = i_ps σ a e ∧ 0 ≤ i_pn σ a e ∧ i_ps σ a e + i_pn σ a e ≤ σ.2.1 a 5) ∧ (σ.1 84 e = i_sn σ a e ∧ σ.1 85 e = i_ls σ a e ∧ 0 ≤ i_sn σ a e ∧ i_ls σ a e + i_sn σ a e ≤ σ.2.1 a 7) ∧ (0 < σ.1 (a + 1) e ∧ f_head (σ.1 (a + 1) e) 0 ≠ -9 ∧ (f_head (σ.1 (a + 1) e) 1 = -9 → f_head (σ.1 (a + 1) e) 2 = -9)) ∧ (σ.1 96 (f_head (σ.1 (a + 1) e) 0) = σ.1 (a + 9) (f_head (σ.1 (a + 1) e) 0) ∧ ∀ i, 0 ≤ i → i < σ.1 (a + 9) (f_head (σ.1 (a + 1) e) 0) → σ.1 97 (16 * f_head (σ.1 (a + 1) e) 0 + i) = f_fold (σ.1 (a + 8) (f_head (σ.1 (a + 1) e) 0 * 16 + i)))) ∧ (∀ e k, 0 ≤ e → e < σ.2.1 a 0 → 0 ≤ k → k < σ.2.1 a 0 → (σ.1 (a + 1) e = σ.1 (a + 1) k → e = k) ∧ (f_aro (σ.1 (a + 1) k) = σ.1 (a + 1) e → e < k)) ∧ σ.2.1 68 32 = σ.2.1 a 5 ∧ (∀ j, 0 ≤ j → j < 4 * σ.2.1 a 5 → σ.1 86 j = σ.1 (a + 4) j) ∧ σ.2.1 68 34 = σ.2.1 a 7 ∧ (∀ j, 0 ≤ j → j < 3 * σ.2.1 a 7 → σ.1 87 j = σ.1 (a + 5) j) ∧ σ.2.1 68 43 = σ.2.1 a 9 ∧ ∀ i, 0 ≤ i → i < σ.2.1 a 9 → σ.1 95 i = σ.1 (a + 6) i
/-- entry e of a is not, or not so, in b -/
def i_chP (σ : k_St) (a b : Nat) (e : Int) : Prop := ∃ r, i_of σ b (σ.1 (a + 1) e) r ∧ (r = -9 ∨ ¬ i_like σ a e b r)
def i_goP (σ : k_St) (a b : Nat) (e : Int) : Prop := i_of σ a (σ.1 (b + 1) e) (-9)
theorem i_of_u {σ : k_St} {a : Nat} {p r q : Int} (h : i_of σ a p r) (g : i_of σ a p q) : r = q := by
  rcases h with ⟨h1, h2⟩ | ⟨h1, h2, h3, h4⟩ <;> rcases g with ⟨g1, g2⟩ | ⟨g1, g2, g3, g4⟩
  · omega
  · exact absurd g3 (h2 q g1 g2)
  · exact absurd h3 (g2 r h1 h2)
  · rcases Int.lt_trichotomy r q with k | k | k
    · exact absurd h3 (g4 r h1 k)
    · exact k
    · exact absurd g3 (h4 q g1 k)
/-- how many of the first k are so -/
def n_cnt (P : Int → Prop) : Nat → Int → Prop
  | 0, c => c = 0
  | k + 1, c => (P (k : Int) ∧ n_cnt P k (c - 1)) ∨ (¬ P (k : Int) ∧ n_cnt P k c)
def i_chg (σ : k_St) (a b : Nat) (c : Int) : Prop := ∃ x y, n_cnt (i_chP σ a b) (σ.2.1 a 0).toNat x ∧ n_cnt (i_goP σ a b) (σ.2.1 b 0).toNat y ∧ c = x + y
def RIdx (σ : k_St) : Prop := ∃ a b : Nat, (a = 48 ∧ b = 58 ∨ a = 58 ∧ b = 48) ∧ σ.2.2 5 8 = some a ∧ σ.2.2 5 9 = some b ∧ i_wf σ a ∧ i_wf σ b ∧ r_wf σ (a + 7) 30 ∧ r_wf σ (b + 7) 30 ∧ rk_rg σ ∧ (∀ i, σ.1 43 i = 0 ∨ σ.1 43 i = 1) ∧ IR σ a ∧ i_chg σ a b (σ.2.1 68 45)
def RR (n : Nat) (σ : k_St) : Prop := RKept σ ∧ RActs n σ ∧ RName σ ∧ RPass σ ∧ RPart σ ∧ RSmall σ ∧ RIdx σ
theorem n_cnt_u {P : Int → Prop} : ∀ {k : Nat} {c d : Int}, n_cnt P k c → n_cnt P k d → c = d
  | 0, c, d, h, g => by have h : c = 0 := h; have g : d = 0 := g; omega
  | k + 1, c, d, h, g => by
    rcases h with ⟨h1, h2⟩ | ⟨h1, h2⟩ <;> rcases g with ⟨g1, g2⟩ | ⟨g1, g2⟩
    · have := n_cnt_u h2 g2; omega
    · exact absurd h1 g1
    · exact absurd g1 h1
    · exact n_cnt_u h2 g2
theorem n_cnt_in {P : Int → Prop} : ∀ {k : Nat} {c : Int}, n_cnt P k c → 0 ≤ c ∧ c ≤ k
  | 0, c, h => by have h : c = 0 := h; omega
  | k + 1, c, h => by
    rcases h with ⟨_, h2⟩ | ⟨_, h2⟩
    · have := n_cnt_in h2; omega
    · have := n_cnt_in h2; omega
theorem n_cnt_cg {P P' : Int → Prop} : ∀ {k : Nat} {c : Int}, (∀ i : Int, 0 ≤ i → i < k → (P i ↔ P' i)) → n_cnt P k c → n_cnt P' k c
  | 0, _, _, h => h
  | k + 1, c, e, h => by
    have ek := e (k : Int) (by omega) (by omega)
    rcases h with ⟨h1, h2⟩ | ⟨h1, h2⟩
    · exact Or.inl ⟨ek.mp h1, n_cnt_cg (fun i i0 i1 => e i i0 (by omega)) h2⟩
    · exact Or.inr ⟨fun q => h1 (ek.mpr q), n_cnt_cg (fun i i0 i1 => e i i0 (by omega)) h2⟩
