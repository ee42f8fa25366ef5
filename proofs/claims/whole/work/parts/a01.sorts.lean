/-- strictly sorted up to n -/
def so {α : Type} (lt : α → α → Prop) (f : Int → α) (n : Int) : Prop := ∀ i j, 0 ≤ i → i < j → j < n → lt (f i) (f j)
def im {α : Type} (f : Int → α) (n : Int) (x : α) : Prop := ∃ i, 0 ≤ i ∧ i < n ∧ f i = x
theorem st_u {α : Type} {lt : α → α → Prop} (hir : ∀ x, ¬ lt x x) (htr : ∀ x y z, lt x y → lt y z → lt x z) {f g : Int → α} {n m : Int} (hf : so lt f n) (hg : so lt g m) (h : ∀ x, im f n x ↔ im g m x) (hn : 0 ≤ n) (hm : 0 ≤ m) : n = m ∧ ∀ i, 0 ≤ i → i < n → f i = g i := by
  have key : ∀ k : Nat, ∀ i : Int, i = k → i < n → i < m → f i = g i := by
    intro k
    induction k using Nat.strongRecOn with
    | _ k ih =>
      intro i hi h1 h2
      obtain ⟨j, j0, j1, j2⟩ := (h (f i)).mp ⟨i, by omega, h1, rfl⟩
      obtain ⟨q, q0, q1, q2⟩ := (h (g i)).mpr ⟨i, by omega, h2, rfl⟩
      have aj : ¬ j < i := fun w => by
        have e := ih j.toNat (by omega) j (by omega) (by omega) j1
        have := hf j i j0 w h1
        rw [e, j2] at this; exact hir _ this
      have aq : ¬ q < i := fun w => by
        have e := ih q.toNat (by omega) q (by omega) q1 (by omega)
        have := hg q i q0 w h2
        rw [← e, q2] at this; exact hir _ this
      by_cases e : j = i
      · rw [← j2, e]
      · have w1 := hg i j (by omega) (by omega) j1
        rw [j2] at w1
        by_cases e2 : q = i
        · rw [← q2, e2]
        · have w2 := hf i q (by omega) (by omega) q1
          rw [q2] at w2
          exact absurd (htr _ _ _ w1 w2) (hir _)
  have hnm : n = m := by
    rcases Int.lt_trichotomy n m with c | c | c
    · obtain ⟨q, q0, q1, q2⟩ := (h (g n)).mpr ⟨n, hn, c, rfl⟩
      have e := key q.toNat q (by omega) q1 (by omega)
      have := hg q n q0 q1 c
      rw [← e, q2] at this; exact absurd this (hir _)
    · exact c
    · obtain ⟨q, q0, q1, q2⟩ := (h (f m)).mp ⟨m, hm, c, rfl⟩
      have e := key q.toNat q (by omega) (by omega) q1
      have := hf q m q0 q1 c
      rw [e, q2] at this; exact absurd this (hir _)
  exact ⟨hnm, fun i i0 i1 => key i.toNat i (by omega) i1 (by omega)⟩
/-- pigeons -/
theorem pg_le : ∀ (N : Nat) (n : Int) (f : Int → Int), (∀ i, 0 ≤ i → i < n → 0 ≤ f i ∧ f i < (N : Int)) → (∀ i j, 0 ≤ i → i < n → 0 ≤ j → j < n → f i = f j → i = j) → n ≤ (N : Int)
  | 0, n, f, h, hi => by
    rcases Int.lt_or_le 0 n with c | c
    · have := h 0 (by omega) c; omega
    · omega
  | N + 1, n, f, h, hi => by
    by_cases e : ∃ i, 0 ≤ i ∧ i < n ∧ f i = (N : Int)
    · obtain ⟨i, i0, i1, i2⟩ := e
      have := pg_le N (n - 1) (fun j => if j = i then f (n - 1) else f j) (fun j j0 j1 => by
        show 0 ≤ (if j = i then f (n - 1) else f j) ∧ (if j = i then f (n - 1) else f j) < (N : Int)
        split
        · have a := h (n - 1) (by omega) (by omega)
          have b : f (n - 1) ≠ (N : Int) := fun w => by have := hi (n - 1) i (by omega) (by omega) i0 i1 (by omega); omega
          omega
        · have a := h j j0 (by omega)
          have b : f j ≠ (N : Int) := fun w => by have := hi j i j0 (by omega) i0 i1 (by omega); omega
          omega) (fun p q p0 p1 q0 q1 w => by
        have w : (if p = i then f (n - 1) else f p) = (if q = i then f (n - 1) else f q) := w
        split at w
        · split at w
          · omega
          · have := hi (n - 1) q (by omega) (by omega) q0 (by omega) w; omega
        · split at w
          · have := hi p (n - 1) p0 (by omega) (by omega) (by omega) w; omega
          · exact hi p q p0 (by omega) q0 (by omega) w)
      omega
    · have := pg_le N n f (fun i i0 i1 => by
        have a := h i i0 i1
        have b : f i ≠ (N : Int) := fun w => e ⟨i, i0, i1, w⟩
        omega) hi
      omega
def sw {α : Type} (f : Int → α) (i : Int) : Int → α := fun j => if j = i then f (i - 1) else if j = i - 1 then f i else f j
theorem sw_i {α : Type} {f : Int → α} {i : Int} : sw f i i = f (i - 1) := if_pos rfl
theorem sw_p {α : Type} {f : Int → α} {i : Int} : sw f i (i - 1) = f i := by unfold sw; rw [if_neg (by omega), if_pos rfl]
theorem sw_n {α : Type} {f : Int → α} {i j : Int} (h1 : j ≠ i) (h2 : j ≠ i - 1) : sw f i j = f j := by unfold sw; rw [if_neg h1, if_neg h2]
theorem sw_im {α : Type} {f : Int → α} {i n : Int} (h0 : 0 < i) (h1 : i < n) {x : α} : im (sw f i) n x ↔ im f n x := by
  constructor
  · rintro ⟨j, j0, j1, j2⟩
    by_cases e : j = i
    · rw [e, sw_i] at j2; exact ⟨i - 1, by omega, by omega, j2⟩
    · by_cases e2 : j = i - 1
      · rw [e2, sw_p] at j2; exact ⟨i, by omega, by omega, j2⟩
      · rw [sw_n e e2] at j2; exact ⟨j, j0, j1, j2⟩
  · rintro ⟨j, j0, j1, j2⟩
    by_cases e : j = i
    · exact ⟨i - 1, by omega, by omega, by rw [sw_p, ← e]; exact j2⟩
    · by_cases e2 : j = i - 1
      · exact ⟨i, by omega, by omega, by rw [sw_i, ← e2]; exact j2⟩
      · exact ⟨j, j0, j1, by rw [sw_n e e2]; exact j2⟩
/-- all but the one at i are in order up to k, and those behind it are behind it -/
def sS {α : Type} (lt : α → α → Prop) (f : Int → α) (k i : Int) : Prop := (∀ p q, 0 ≤ p → p < q → q ≤ k → p ≠ i → q ≠ i → lt (f p) (f q)) ∧ ∀ q, i < q → q ≤ k → lt (f i) (f q)
theorem sS_0 {α : Type} {lt : α → α → Prop} {f : Int → α} {k : Int} (h : so lt f k) : sS lt f k k := ⟨fun p q p0 p1 p2 p3 p4 => h p q p0 p1 (by omega), fun q q0 q1 => absurd q0 (by omega)⟩
theorem sS_s {α : Type} {lt : α → α → Prop} {f : Int → α} {k i : Int} (h : sS lt f k i) (i0 : 0 < i) (i1 : i ≤ k) (hl : lt (f i) (f (i - 1))) : sS lt (sw f i) k (i - 1) := by
  obtain ⟨a, b⟩ := h
  refine ⟨fun p q p0 p1 p2 p3 p4 => ?_, fun q q0 q1 => ?_⟩
  · by_cases e : p = i
    · rw [e, sw_i, sw_n (by omega) (by omega)]; exact a (i - 1) q (by omega) (by omega) p2 (by omega) (by omega)
    · rw [sw_n e p3]
      by_cases e2 : q = i
      · rw [e2, sw_i]; exact a p (i - 1) p0 (by omega) (by omega) e (by omega)
      · rw [sw_n e2 p4]; exact a p q p0 p1 p2 e e2
  · rw [sw_p]
    by_cases e : q = i
    · rw [e, sw_i]; exact hl
    · rw [sw_n e (by omega)]; exact b q (by omega) q1
theorem sS_e {α : Type} {lt : α → α → Prop} (htr : ∀ x y z, lt x y → lt y z → lt x z) {f : Int → α} {k i : Int} (h : sS lt f k i) (hi : i ≤ k) (hl : i = 0 ∨ lt (f (i - 1)) (f i)) : so lt f (k + 1) := by
  obtain ⟨a, b⟩ := h
  intro p q p0 p1 p2
  by_cases e : p = i
  · rw [e]; exact b q (by omega) (by omega)
  · by_cases e2 : q = i
    · rw [e2]
      rcases hl with w | w
      · omega
      · by_cases e3 : p = i - 1
        · rw [e3]; exact w
        · exact htr _ _ _ (a p (i - 1) p0 (by omega) (by omega) e (by omega)) w
    · exact a p q p0 p1 (by omega) e e2
/-- one put in at k -/
def pI {α : Type} (f : Int → α) (k : Int) (x : α) : Int → α := fun j => if j < k then f j else if j = k then x else f (j - 1)
theorem pI_l {α : Type} {f : Int → α} {k : Int} {x : α} {j : Int} (h : j < k) : pI f k x j = f j := if_pos h
theorem pI_k {α : Type} {f : Int → α} {k : Int} {x : α} : pI f k x k = x := by unfold pI; rw [if_neg (by omega), if_pos rfl]
theorem pI_g {α : Type} {f : Int → α} {k : Int} {x : α} {j : Int} (h : k < j) : pI f k x j = f (j - 1) := by unfold pI; rw [if_neg (by omega), if_neg (by omega)]
theorem pI_so {α : Type} {lt : α → α → Prop} {f : Int → α} {k n : Int} {x : α} (h : so lt f n) (k0 : 0 ≤ k) (k1 : k ≤ n) (h1 : ∀ i, 0 ≤ i → i < k → lt (f i) x) (h2 : ∀ i, k ≤ i → i < n → lt x (f i)) : so lt (pI f k x) (n + 1) := by
  intro i j i0 i1 j1
  rcases Int.lt_trichotomy i k with c | c | c
  · rw [pI_l c]
    rcases Int.lt_trichotomy j k with d | d | d
    · rw [pI_l d]; exact h i j i0 i1 (by omega)
    · rw [d, pI_k]; exact h1 i i0 c
    · rw [pI_g d]
      by_cases e : i = j - 1
      · omega
      · exact h i (j - 1) i0 (by omega) (by omega)
  · rw [c, pI_k, pI_g (by omega)]; exact h2 _ (by omega) (by omega)
  · rw [pI_g c, pI_g (by omega)]; exact h _ _ (by omega) (by omega) (by omega)
theorem pI_im {α : Type} {f : Int → α} {k n : Int} {x : α} (k0 : 0 ≤ k) (k1 : k ≤ n) {y : α} : im (pI f k x) (n + 1) y ↔ im f n y ∨ y = x := by
  constructor
  · rintro ⟨j, j0, j1, j2⟩
    rcases Int.lt_trichotomy j k with c | c | c
    · rw [pI_l c] at j2; exact Or.inl ⟨j, j0, by omega, j2⟩
    · rw [c, pI_k] at j2; exact Or.inr j2.symm
    · rw [pI_g c] at j2; exact Or.inl ⟨j - 1, by omega, by omega, j2⟩
  · rintro (⟨j, j0, j1, j2⟩ | e)
    · by_cases c : j < k
      · exact ⟨j, j0, by omega, by rw [pI_l c]; exact j2⟩
      · exact ⟨j + 1, by omega, by omega, by rw [pI_g (by omega), show j + 1 - 1 = j by omega]; exact j2⟩
    · exact ⟨k, k0, by omega, by rw [pI_k]; exact e.symm⟩
theorem so_0 {α : Type} {lt : α → α → Prop} {f : Int → α} : so lt f 0 := fun i j i0 i1 j1 => absurd j1 (by omega)
theorem so_1 {α : Type} {lt : α → α → Prop} {f : Int → α} : so lt f 1 := fun i j i0 i1 j1 => absurd j1 (by omega)
theorem im_0 {α : Type} {f : Int → α} {x : α} : ¬ im f 0 x := fun ⟨i, a, b, _⟩ => by omega
theorem so_cg {α : Type} {lt : α → α → Prop} {f g : Int → α} {n : Int} (h : ∀ i, 0 ≤ i → i < n → g i = f i) (hs : so lt f n) : so lt g n := fun i j i0 i1 j1 => by rw [h i i0 (by omega), h j (by omega) j1]; exact hs i j i0 i1 j1
theorem im_cg {α : Type} {f g : Int → α} {n : Int} (h : ∀ i, 0 ≤ i → i < n → g i = f i) {x : α} : im g n x ↔ im f n x :=
  ⟨fun ⟨i, a, b, c⟩ => ⟨i, a, b, by rw [← h i a b]; exact c⟩, fun ⟨i, a, b, c⟩ => ⟨i, a, b, by rw [h i a b]; exact c⟩⟩
theorem im_s {α : Type} {f : Int → α} {n : Int} (hn : 0 ≤ n) {x : α} : im f (n + 1) x ↔ im f n x ∨ x = f n := by
  constructor
  · rintro ⟨i, a, b, c⟩
    by_cases e : i = n
    · rw [e] at c; exact Or.inr c.symm
    · exact Or.inl ⟨i, a, by omega, c⟩
  · rintro (⟨i, a, b, c⟩ | e)
    · exact ⟨i, a, by omega, c⟩
    · exact ⟨n, hn, by omega, e.symm⟩
/-- lists as functions -/
theorem li_so {α : Type} {lt : α → α → Prop} {l : List α} {f : Int → α} (h : ∀ (i : Nat) (hi : i < l.length), f (i : Int) = l[i]) (hp : l.Pairwise lt) : so lt f l.length := by
  intro i j i0 i1 j1
  have e1 := h i.toNat (by omega)
  have e2 := h j.toNat (by omega)
  rw [show ((i.toNat : Nat) : Int) = i by omega] at e1
  rw [show ((j.toNat : Nat) : Int) = j by omega] at e2
  rw [e1, e2]
  exact List.pairwise_iff_getElem.mp hp _ _ _ _ (by omega)
theorem li_im {α : Type} {l : List α} {f : Int → α} (h : ∀ (i : Nat) (hi : i < l.length), f (i : Int) = l[i]) {x : α} : im f l.length x ↔ x ∈ l := by
  constructor
  · rintro ⟨i, i0, i1, i2⟩
    have e1 := h i.toNat (by omega)
    rw [show ((i.toNat : Nat) : Int) = i by omega] at e1
    rw [← i2, e1]; exact List.getElem_mem _
  · intro hx
    obtain ⟨k, hk, e⟩ := List.getElem_of_mem hx
    exact ⟨k, by omega, by omega, by rw [h k hk]; exact e⟩
