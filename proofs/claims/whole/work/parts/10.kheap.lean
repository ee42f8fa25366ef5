/-! Heaps by shape: which address is what never changes; what a heap holds are functions. -/
/-- an array (kind, length); an array of references; an object (class, its fields: 0 int, 1 long, 2 a reference that changes, b + 3 the reference b) -/
abbrev k_Sh : Type := (Nat × Nat) ⊕ (Nat ⊕ (Nat × List Nat))
/-- contents: arrays, number fields, references -/
abbrev k_St : Type := (Nat → Int → Int) × (Nat → Nat → Int) × (Nat → Int → Option Nat)
/-- the script: its length, its ints -/
abbrev k_X : Type := Nat × (Int → Int)
def k_lst (l : List Int) : Int → Int := fun i => l.getD i.toNat 0
def k_rof (X : k_X) : Nat → Int → Int
  | 0 => X.2
  | 1 => k_lst [1000, 900, 500, 400, 100, 90, 50, 40, 10, 9, 5, 4, 1]
  | 2 => k_lst [109, 109, 100, 100, 99, 99, 108, 108, 120, 120, 118, 118, 105]
  | 3 => k_lst [32, 99, 32, 99, 32, 120, 32, 120, 32, 105, 32, 105, 32]
  | _ => k_lst [1, 1, 1, 0, 3, 2]
def k_f (σ : k_St) (a j : Nat) : Nat → Value
  | 0 => j_i (σ.2.1 a j)
  | 1 => j_l (σ.2.1 a j)
  | 2 => va_rf (σ.2.2 a (j : Int))
  | b + 3 => .ref b
def k_fs (σ : k_St) (a : Nat) : Nat → List Nat → List Value
  | _, [] => []
  | j, k :: ks => k_f σ a j k :: k_fs σ a (j + 1) ks
def k_cell (X : k_X) (σ : k_St) (a : Nat) : k_Sh → j_C
  | .inl q => .inl (q.1, q.2, if a < 5 then k_rof X a else σ.1 a)
  | .inr (.inl n) => .inr (.inl (n, σ.2.2 a))
  | .inr (.inr q) => .inr (.inr (q.1, k_fs σ a 0 q.2))
def k_tab (L : Nat) : List k_Sh := [.inl (0, L), .inl (0, 13), .inl (3, 13), .inl (3, 13), .inl (0, 6), .inr (.inr (11, [9, 11, 19, 25, 27, 33, 36, 42, 2, 2, 0, 0, 0, 0, 0])), .inr (.inr (4, [10, 0, 11, 19])), .inl (0, 300), .inr (.inr (2, [12, 15, 18, 0])), .inr (.inr (9, [13, 14])), .inl (1, 480), .inl (0, 30), .inr (.inr (9, [16, 17])), .inl (1, 480), .inl (0, 30), .inl (2, 30), .inr (.inr (7, [20, 21, 22, 23, 24, 0])), .inl (0, 50), .inl (0, 50), .inl (0, 50), .inl (0, 50), .inl (2, 50), .inr (.inr (0, [26, 0, 0])), .inr (.inl 40), .inr (.inr (8, [28, 29, 30, 31, 0, 32, 0])), .inl (0, 8), .inl (0, 8), .inl (0, 8), .inl (0, 8), .inl (0, 16), .inr (.inr (9, [34, 35])), .inl (1, 16), .inl (0, 1), .inr (.inr (5, [37, 0, 40, 41])), .inr (.inr (9, [38, 39])), .inl (1, 64), .inl (0, 4), .inr (.inr (1, [0, 0, 1])), .inr (.inr (1, [0, 0, 1])), .inr (.inr (6, [9, 36, 43, 44, 0, 45, 0, 46, 47, 48, 0, 0, 0, 0])), .inl (0, 30), .inl (0, 30), .inl (0, 50), .inl (2, 50), .inl (0, 30), .inr (.inr (10, [49, 50, 0])), .inl (0, 50), .inl (0, 50), .inr (.inr (3, [0, 52, 53, 54, 55, 0, 56, 0, 57, 0, 58])), .inl (0, 150), .inl (0, 150), .inl (0, 150), .inl (0, 200), .inl (0, 150), .inl (0, 50), .inr (.inr (9, [59, 60])), .inl (1, 480), .inl (0, 30), .inr (.inr (3, [0, 62, 63, 64, 65, 0, 66, 0, 67, 0, 68])), .inl (0, 150), .inl (0, 150), .inl (0, 150), .inl (0, 200), .inl (0, 150), .inl (0, 50), .inr (.inr (9, [69, 70])), .inl (1, 480), .inl (0, 30), .inr (.inr (12, [0, 0, 72, 73, 0, 0, 74, 0, 75, 76, 0, 0, 0, 77, 78, 79, 80, 81, 82, 83, 0, 0, 0, 1, 0, 0, 84, 85, 86, 87, 88, 89, 0, 90, 0, 0, 91, 92, 93, 94, 95, 96, 97, 0, 98, 0, 99, 100, 0, 101, 102, 103, 0, 0])), .inl (0, 1733), .inl (0, 69320), .inl (0, 16), .inl (0, 64), .inl (0, 4), .inl (0, 8), .inl (0, 8), .inl (0, 8), .inl (0, 8), .inl (0, 300), .inl (0, 300), .inl (0, 24), .inl (0, 600), .inl (0, 200), .inl (0, 200), .inl (0, 200), .inl (0, 200), .inl (0, 1200), .inl (0, 600), .inl (0, 600), .inl (0, 200), .inl (0, 200), .inl (0, 200), .inl (0, 200), .inl (0, 1200), .inl (0, 600), .inl (0, 50), .inl (0, 30), .inl (0, 480), .inl (0, 60), .inl (0, 60), .inl (2, 200)]
def k_kp (a : Nat) : List k_Sh := [.inr (.inr (4, [a + 4, 0, a + 5, a + 13])), .inl (0, 300), .inr (.inr (2, [a + 6, a + 9, a + 12, 0])), .inr (.inr (9, [a + 7, a + 8])), .inl (1, 480), .inl (0, 30), .inr (.inr (9, [a + 10, a + 11])), .inl (1, 480), .inl (0, 30), .inl (2, 30), .inr (.inr (7, [a + 14, a + 15, a + 16, a + 17, a + 18, 0])), .inl (0, 50), .inl (0, 50), .inl (0, 50), .inl (0, 50), .inl (2, 50)]
def k_SH (L : Nat) (a : Nat) : Option k_Sh := if a < 101 then (k_tab L)[a]? else if a < 741 then (k_kp (101 + 16 * ((a - 101) / 16)))[(a - 101) % 16]? else none
def k_h (X : k_X) (n : Nat) (σ : k_St) : j_H := (n, fun a => if a < n then (k_SH X.1 a).map (k_cell X σ a) else none)
def k_has (X : k_X) (n a : Nat) (s : k_Sh) : Prop := a < n ∧ k_SH X.1 a = some s
abbrev k_P : Type := Option Value → Nat → k_St → Prop
def k_Q (X : k_X) (Q : k_P) : j_P := fun v h => ∃ n σ, h = k_h X n σ ∧ Q v n σ
/-- a method over heaps by shape -/
def k_run (G : j_G) (X : k_X) (M : j_M) (args : List Value) (n : Nat) (σ : k_St) (c sl : Nat) (Q : k_P) : Prop := j_run G M args (k_h X n σ) c sl (k_Q X Q)
/-- nothing changes, the answer is v -/
def k_is (n : Nat) (σ : k_St) (v : Option Value) : k_P := fun v' n' σ' => v' = v ∧ n' = n ∧ σ' = σ
theorem k_cellof {X : k_X} {n a : Nat} {s : k_Sh} {σ : k_St} (h : k_has X n a s) : (k_h X n σ).2 a = some (k_cell X σ a s) := by
  show (if a < n then _ else none) = _
  rw [if_pos h.1, h.2]; rfl
def k_sA (σ : k_St) (a : Nat) (f : Int → Int) : k_St := (fun b => if b = a then f else σ.1 b, σ.2.1, σ.2.2)
def k_sI (σ : k_St) (a j : Nat) (x : Int) : k_St := (σ.1, fun b i => if b = a ∧ i = j then x else σ.2.1 b i, σ.2.2)
def k_sR (σ : k_St) (a : Nat) (j : Int) (x : Option Nat) : k_St := (σ.1, σ.2.1, fun b i => if b = a ∧ i = j then x else σ.2.2 b i)
theorem k_fs_get {σ : k_St} {a : Nat} : ∀ {ks : List Nat} {i j k : Nat}, ks[j]? = some k → (k_fs σ a i ks)[j]? = some (k_f σ a (i + j) k)
  | [], i, j, k, h => by simp at h
  | q :: ks, i, 0, k, h => by simp at h; subst h; rfl
  | q :: ks, i, j + 1, k, h => by
    show (k_fs σ a (i + 1) ks)[j]? = _
    rw [k_fs_get (by simpa using h), show i + 1 + j = i + (j + 1) by omega]
theorem k_fs_len {σ : k_St} {a : Nat} : ∀ {ks : List Nat} {i : Nat}, (k_fs σ a i ks).length = ks.length
  | [], _ => rfl
  | _ :: ks, i => by show (k_fs σ a (i + 1) ks).length + 1 = _; rw [k_fs_len]; rfl
theorem k_fs_set {σ σ' : k_St} {a : Nat} {v : Value} {ks : List Nat} {j k : Nat} (hk : ks[j]? = some k) (hv : k_f σ' a j k = v) (ho : ∀ i q, i ≠ j → ks[i]? = some q → k_f σ' a i q = k_f σ a i q) : (k_fs σ a 0 ks).set j v = k_fs σ' a 0 ks := by
  refine List.ext_getElem? fun i => ?_
  rw [List.getElem?_set, k_fs_len]
  have hj : j < ks.length := (List.getElem?_eq_some_iff.mp hk).1
  by_cases h1 : j = i
  · subst h1
    rw [if_pos rfl, if_pos hj, k_fs_get hk, ← hv, Nat.zero_add]
  · rw [if_neg h1]
    cases hq : ks[i]? with
    | none =>
      have := List.getElem?_eq_none_iff.mp hq
      rw [List.getElem?_eq_none (by rw [k_fs_len]; exact this), List.getElem?_eq_none (by rw [k_fs_len]; exact this)]
    | some q => rw [k_fs_get hq, k_fs_get hq, Nat.zero_add, ho i q (fun e => h1 e.symm) hq]
theorem k_fs_ne {σ σ' : k_St} {b : Nat} {ks : List Nat} (ho : ∀ i q, ks[i]? = some q → k_f σ' b i q = k_f σ b i q) : k_fs σ' b 0 ks = k_fs σ b 0 ks := by
  refine List.ext_getElem? fun i => ?_
  cases hq : ks[i]? with
  | none =>
    have := List.getElem?_eq_none_iff.mp hq
    rw [List.getElem?_eq_none (by rw [k_fs_len]; exact this), List.getElem?_eq_none (by rw [k_fs_len]; exact this)]
  | some q => rw [k_fs_get hq, k_fs_get hq, Nat.zero_add, ho i q hq]
theorem k_setA {X : k_X} {n a t l : Nat} {σ : k_St} {f : Int → Int} (hs : k_has X n a (.inl (t, l))) (ha : 5 ≤ a) : j_set (k_h X n σ) a (.inl (t, l, f)) = k_h X n (k_sA σ a f) := by
  unfold j_set k_h
  congr 1
  funext b
  by_cases hb : b = a
  · subst hb
    simp only [if_true, if_pos hs.1, hs.2, Option.map_some, k_cell, k_sA]
    rw [if_neg (by omega)]
  · simp only [if_neg hb]
    by_cases hl : b < n
    · simp only [if_pos hl]
      cases k_SH X.1 b with
      | none => rfl
      | some s =>
        simp only [Option.map_some]
        congr 1
        rcases s with q | q | q
        · simp only [k_cell, k_sA, if_neg hb]
        · rfl
        · simp only [k_cell]
          congr 3
          exact (k_fs_ne (fun i q _ => by rcases q with _ | _ | _ | q <;> rfl)).symm
    · simp only [if_neg hl]
theorem k_setO {X : k_X} {n a ci j k : Nat} {ks : List Nat} {σ σ' : k_St} {v : Value} (hs : k_has X n a (.inr (.inr (ci, ks)))) (hk : ks[j]? = some k) (hA : σ'.1 = σ.1) (hv : k_f σ' a j k = v) (ho : ∀ b i q, ¬ (b = a ∧ i = j) → k_f σ' b i q = k_f σ b i q) (hr : ∀ b l, k_SH X.1 b = some (.inr (.inl l)) → σ'.2.2 b = σ.2.2 b) : j_set (k_h X n σ) a (.inr (.inr (ci, (k_fs σ a 0 ks).set j v))) = k_h X n σ' := by
  unfold j_set k_h
  congr 1
  funext b
  by_cases hb : b = a
  · subst hb
    simp only [if_true, if_pos hs.1, hs.2, Option.map_some, k_cell]
    rw [k_fs_set hk hv (fun i q hi _ => ho _ i q (fun e => hi e.2))]
  · simp only [if_neg hb]
    by_cases hl : b < n
    · simp only [if_pos hl]
      cases he : k_SH X.1 b with
      | none => rfl
      | some s =>
        simp only [Option.map_some]
        congr 1
        rcases s with q | q | q
        · simp only [k_cell, hA]
        · simp only [k_cell, hr b q he]
        · simp only [k_cell]
          congr 3
          exact (k_fs_ne (fun i q _ => ho b i q (fun e => hb e.1))).symm
    · simp only [if_neg hl]
theorem b_getI {G : j_G} {M : j_M} {pc : Nat} {lv : List (Nat × Value)} {st : List Value} {X : k_X} {n : Nat} {σ : k_St} {c sl : Nat} {Q : j_P} {idx ci j a : Nat} {ty : FieldType} {fin nest : Bool} {ks : List Nat} (fl : j_FL M.1.cls idx ci j ty fin nest) (hd : decode M.2.1 pc = .ok (.getfield idx, 3)) (hs : k_has X n a (.inr (.inr (ci, ks)))) (hk : ks[j]? = some 0) (kk : j_at G M (pc + 3) lv (j_i (σ.2.1 a j) :: st) (k_h X n σ) c sl Q) : j_at G M pc lv (.ref a :: st) (k_h X n σ) c sl Q := by
  exact a_getfield fl hd (k_cellof hs) (by rw [k_fs_get hk, Nat.zero_add]; rfl) kk
theorem b_getL {G : j_G} {M : j_M} {pc : Nat} {lv : List (Nat × Value)} {st : List Value} {X : k_X} {n : Nat} {σ : k_St} {c sl : Nat} {Q : j_P} {idx ci j a : Nat} {ty : FieldType} {fin nest : Bool} {ks : List Nat} (fl : j_FL M.1.cls idx ci j ty fin nest) (hd : decode M.2.1 pc = .ok (.getfield idx, 3)) (hs : k_has X n a (.inr (.inr (ci, ks)))) (hk : ks[j]? = some 1) (kk : j_at G M (pc + 3) lv (j_l (σ.2.1 a j) :: st) (k_h X n σ) c sl Q) : j_at G M pc lv (.ref a :: st) (k_h X n σ) c sl Q := by
  exact a_getfield fl hd (k_cellof hs) (by rw [k_fs_get hk, Nat.zero_add]; rfl) kk
theorem b_getR {G : j_G} {M : j_M} {pc : Nat} {lv : List (Nat × Value)} {st : List Value} {X : k_X} {n : Nat} {σ : k_St} {c sl : Nat} {Q : j_P} {idx ci j a : Nat} {ty : FieldType} {fin nest : Bool} {ks : List Nat} {b : Nat} (fl : j_FL M.1.cls idx ci j ty fin nest) (hd : decode M.2.1 pc = .ok (.getfield idx, 3)) (hs : k_has X n a (.inr (.inr (ci, ks)))) (hk : ks[j]? = some (b + 3)) (kk : j_at G M (pc + 3) lv (.ref b :: st) (k_h X n σ) c sl Q) : j_at G M pc lv (.ref a :: st) (k_h X n σ) c sl Q := by
  exact a_getfield fl hd (k_cellof hs) (by rw [k_fs_get hk, Nat.zero_add]; rfl) kk
theorem b_getM {G : j_G} {M : j_M} {pc : Nat} {lv : List (Nat × Value)} {st : List Value} {X : k_X} {n : Nat} {σ : k_St} {c sl : Nat} {Q : j_P} {idx ci j a : Nat} {ty : FieldType} {fin nest : Bool} {ks : List Nat} {b : Nat} (fl : j_FL M.1.cls idx ci j ty fin nest) (hd : decode M.2.1 pc = .ok (.getfield idx, 3)) (hs : k_has X n a (.inr (.inr (ci, ks)))) (hk : ks[j]? = some 2) (hb : σ.2.2 a (j : Int) = some b) (kk : j_at G M (pc + 3) lv (.ref b :: st) (k_h X n σ) c sl Q) : j_at G M pc lv (.ref a :: st) (k_h X n σ) c sl Q := by
  exact a_getfield fl hd (k_cellof hs) (by rw [k_fs_get hk, Nat.zero_add]; simp only [k_f, hb]; rfl) kk
theorem b_putI {G : j_G} {M : j_M} {pc : Nat} {lv : List (Nat × Value)} {st : List Value} {X : k_X} {n : Nat} {σ : k_St} {c sl : Nat} {Q : j_P} {idx ci j a : Nat} {ty : FieldType} {fin nest : Bool} {ks : List Nat} {x : Int} (fl : j_FL M.1.cls idx ci j ty fin nest) (hd : decode M.2.1 pc = .ok (.putfield idx, 3)) (hs : k_has X n a (.inr (.inr (ci, ks)))) (hk : ks[j]? = some 0) (hty : ty = .int) (hfin : fin = false) (kk : j_at G M (pc + 3) lv st (k_h X n (k_sI σ a j x)) c sl Q) : j_at G M pc lv (j_i x :: .ref a :: st) (k_h X n σ) c sl Q := by
  subst hty
  refine a_putfield (v := j_i x) fl hd (k_cellof hs) (by rw [k_fs_len]; exact (List.getElem?_eq_some_iff.mp hk).1) rfl rfl (Or.inl hfin) ?_
  have e9 : j_set (k_h X n σ) a (.inr (.inr (ci, (k_fs σ a 0 ks).set j (j_i x)))) = k_h X n (k_sI σ a j x) := k_setO hs hk rfl (by simp [k_f, k_sI]) (fun b i q h => by rcases q with _ | _ | _ | q <;> simp only [k_f, k_sI] <;> rw [if_neg h]) (fun _ _ _ => rfl)
  show j_at G M (pc + 3) lv st (j_set (k_h X n σ) a (.inr (.inr (ci, (k_fs σ a 0 ks).set j (j_i x))))) c sl Q
  rw [e9]
  exact kk
theorem b_putL {G : j_G} {M : j_M} {pc : Nat} {lv : List (Nat × Value)} {st : List Value} {X : k_X} {n : Nat} {σ : k_St} {c sl : Nat} {Q : j_P} {idx ci j a : Nat} {ty : FieldType} {fin nest : Bool} {ks : List Nat} {x : Int} (fl : j_FL M.1.cls idx ci j ty fin nest) (hd : decode M.2.1 pc = .ok (.putfield idx, 3)) (hs : k_has X n a (.inr (.inr (ci, ks)))) (hk : ks[j]? = some 1) (hty : ty = .long) (hfin : fin = false) (kk : j_at G M (pc + 3) lv st (k_h X n (k_sI σ a j x)) c sl Q) : j_at G M pc lv (j_l x :: .ref a :: st) (k_h X n σ) c sl Q := by
  subst hty
  refine a_putfield (v := j_l x) fl hd (k_cellof hs) (by rw [k_fs_len]; exact (List.getElem?_eq_some_iff.mp hk).1) rfl rfl (Or.inl hfin) ?_
  have e9 : j_set (k_h X n σ) a (.inr (.inr (ci, (k_fs σ a 0 ks).set j (j_l x)))) = k_h X n (k_sI σ a j x) := k_setO hs hk rfl (by simp [k_f, k_sI]) (fun b i q h => by rcases q with _ | _ | _ | q <;> simp only [k_f, k_sI] <;> rw [if_neg h]) (fun _ _ _ => rfl)
  show j_at G M (pc + 3) lv st (j_set (k_h X n σ) a (.inr (.inr (ci, (k_fs σ a 0 ks).set j (j_l x))))) c sl Q
  rw [e9]
  exact kk
theorem b_putM {G : j_G} {M : j_M} {pc : Nat} {lv : List (Nat × Value)} {st : List Value} {X : k_X} {n : Nat} {σ : k_St} {c sl : Nat} {Q : j_P} {idx ci j a : Nat} {ty : FieldType} {fin nest : Bool} {ks : List Nat} {b : Nat} {C : String} (fl : j_FL M.1.cls idx ci j ty fin nest) (hd : decode M.2.1 pc = .ok (.putfield idx, 3)) (hs : k_has X n a (.inr (.inr (ci, ks)))) (hk : ks[j]? = some 2) (hty : ty = .object C) (hfin : fin = false) (kk : j_at G M (pc + 3) lv st (k_h X n (k_sR σ a (j : Int) (some b))) c sl Q) : j_at G M pc lv (.ref b :: .ref a :: st) (k_h X n σ) c sl Q := by
  subst hty
  refine a_putfield (v := .ref b) fl hd (k_cellof hs) (by rw [k_fs_len]; exact (List.getElem?_eq_some_iff.mp hk).1) rfl rfl (Or.inl hfin) ?_
  have e9 : j_set (k_h X n σ) a (.inr (.inr (ci, (k_fs σ a 0 ks).set j (.ref b)))) = k_h X n (k_sR σ a (j : Int) (some b)) := k_setO hs hk rfl (by simp [k_f, k_sR]; rfl) (fun b' i q h => by
    rcases q with _ | _ | _ | q
    · rfl
    · rfl
    · simp only [k_f, k_sR]
      rw [if_neg (fun e => h ⟨e.1, by omega⟩)]
    · rfl) (fun b' l he => by
    funext i
    show (if b' = a ∧ i = (j : Int) then some b else σ.2.2 b' i) = _
    rw [if_neg]
    rintro ⟨rfl, -⟩
    rw [hs.2] at he; cases he)
  show j_at G M (pc + 3) lv st (j_set (k_h X n σ) a (.inr (.inr (ci, (k_fs σ a 0 ks).set j (.ref b))))) c sl Q
  rw [e9]
  exact kk
theorem b_iaload {G : j_G} {M : j_M} {pc : Nat} {lv : List (Nat × Value)} {st : List Value} {X : k_X} {n : Nat} {σ : k_St} {c sl : Nat} {Q : j_P} {a l : Nat} {i : Int} (hd : decode M.2.1 pc = .ok (.iaload, 1)) (hs : k_has X n a (.inl (0, l))) (ha : 5 ≤ a) (hi : 0 ≤ i ∧ i < l) (hl : l ≤ 1000000) (kk : j_at G M (pc + 1) lv (j_i (σ.1 a i) :: st) (k_h X n σ) c sl Q) : j_at G M pc lv (j_i i :: .ref a :: st) (k_h X n σ) c sl Q := by
  have ho := k_cellof (σ := σ) hs
  simp only [k_cell, if_neg (Nat.not_lt.mpr ha)] at ho
  exact a_iaload hd ho hi hl kk
theorem b_baload {G : j_G} {M : j_M} {pc : Nat} {lv : List (Nat × Value)} {st : List Value} {X : k_X} {n : Nat} {σ : k_St} {c sl : Nat} {Q : j_P} {a l : Nat} {i : Int} (hd : decode M.2.1 pc = .ok (.baload, 1)) (hs : k_has X n a (.inl (1, l))) (ha : 5 ≤ a) (hi : 0 ≤ i ∧ i < l) (hl : l ≤ 1000000) (kk : j_at G M (pc + 1) lv (j_i (σ.1 a i) :: st) (k_h X n σ) c sl Q) : j_at G M pc lv (j_i i :: .ref a :: st) (k_h X n σ) c sl Q := by
  have ho := k_cellof (σ := σ) hs
  simp only [k_cell, if_neg (Nat.not_lt.mpr ha)] at ho
  exact a_baload hd ho hi hl ha kk
theorem b_zaload {G : j_G} {M : j_M} {pc : Nat} {lv : List (Nat × Value)} {st : List Value} {X : k_X} {n : Nat} {σ : k_St} {c sl : Nat} {Q : j_P} {a l : Nat} {i : Int} (hd : decode M.2.1 pc = .ok (.baload, 1)) (hs : k_has X n a (.inl (2, l))) (ha : 5 ≤ a) (hi : 0 ≤ i ∧ i < l) (hl : l ≤ 1000000) (kk : j_at G M (pc + 1) lv (j_i (σ.1 a i) :: st) (k_h X n σ) c sl Q) : j_at G M pc lv (j_i i :: .ref a :: st) (k_h X n σ) c sl Q := by
  have ho := k_cellof (σ := σ) hs
  simp only [k_cell, if_neg (Nat.not_lt.mpr ha)] at ho
  exact a_zaload hd ho hi hl ha kk
theorem b_siload {G : j_G} {M : j_M} {pc : Nat} {lv : List (Nat × Value)} {st : List Value} {X : k_X} {n : Nat} {σ : k_St} {c sl : Nat} {Q : j_P} {a l : Nat} {i : Int} (hd : decode M.2.1 pc = .ok (.iaload, 1)) (hs : k_has X n a (.inl (0, l))) (ha : a < 5) (hi : 0 ≤ i ∧ i < l) (hl : l ≤ 1000000) (kk : j_at G M (pc + 1) lv (j_i (k_rof X a i) :: st) (k_h X n σ) c sl Q) : j_at G M pc lv (j_i i :: .ref a :: st) (k_h X n σ) c sl Q := by
  have ho := k_cellof (σ := σ) hs
  simp only [k_cell, if_pos ha] at ho
  exact a_iaload hd ho hi hl kk
theorem b_scload {G : j_G} {M : j_M} {pc : Nat} {lv : List (Nat × Value)} {st : List Value} {X : k_X} {n : Nat} {σ : k_St} {c sl : Nat} {Q : j_P} {a l : Nat} {i : Int} (hd : decode M.2.1 pc = .ok (.caload, 1)) (hs : k_has X n a (.inl (3, l))) (ha : a < 5) (hi : 0 ≤ i ∧ i < l) (hl : l ≤ 1000000) (kk : j_at G M (pc + 1) lv (j_i (k_rof X a i) :: st) (k_h X n σ) c sl Q) : j_at G M pc lv (j_i i :: .ref a :: st) (k_h X n σ) c sl Q := by
  have ho := k_cellof (σ := σ) hs
  simp only [k_cell, if_pos ha] at ho
  exact a_caload hd ho hi hl ha kk
theorem b_len {G : j_G} {M : j_M} {pc : Nat} {lv : List (Nat × Value)} {st : List Value} {X : k_X} {n : Nat} {σ : k_St} {c sl : Nat} {Q : j_P} {a t l : Nat} (hd : decode M.2.1 pc = .ok (.arraylength, 1)) (hs : k_has X n a (.inl (t, l))) (ht : t < 3) (kk : j_at G M (pc + 1) lv (j_i (l : Int) :: st) (k_h X n σ) c sl Q) : j_at G M pc lv (.ref a :: st) (k_h X n σ) c sl Q := by
  exact a_arraylength hd (k_cellof hs) ht kk
theorem b_iastore {G : j_G} {M : j_M} {pc : Nat} {lv : List (Nat × Value)} {st : List Value} {X : k_X} {n : Nat} {σ : k_St} {c sl : Nat} {Q : j_P} {a l : Nat} {i x : Int} (hd : decode M.2.1 pc = .ok (.iastore, 1)) (hs : k_has X n a (.inl (0, l))) (ha : 5 ≤ a) (hi : 0 ≤ i ∧ i < l) (hl : l ≤ 1000000) (kk : j_at G M (pc + 1) lv st (k_h X n (k_sA σ a (j_up (σ.1 a) i x))) c sl Q) : j_at G M pc lv (j_i x :: j_i i :: .ref a :: st) (k_h X n σ) c sl Q := by
  have ho := k_cellof (σ := σ) hs
  simp only [k_cell, if_neg (Nat.not_lt.mpr ha)] at ho
  refine a_iastore hd ho ha hi hl ?_
  rw [k_setA hs ha]
  exact kk
theorem b_bastore {G : j_G} {M : j_M} {pc : Nat} {lv : List (Nat × Value)} {st : List Value} {X : k_X} {n : Nat} {σ : k_St} {c sl : Nat} {Q : j_P} {a l : Nat} {i x : Int} (hd : decode M.2.1 pc = .ok (.bastore, 1)) (hs : k_has X n a (.inl (1, l))) (ha : 5 ≤ a) (hi : 0 ≤ i ∧ i < l) (hl : l ≤ 1000000) (hx : -128 ≤ x ∧ x ≤ 127) (kk : j_at G M (pc + 1) lv st (k_h X n (k_sA σ a (j_up (σ.1 a) i x))) c sl Q) : j_at G M pc lv (j_i x :: j_i i :: .ref a :: st) (k_h X n σ) c sl Q := by
  have ho := k_cellof (σ := σ) hs
  simp only [k_cell, if_neg (Nat.not_lt.mpr ha)] at ho
  refine a_bastore hd ho ha hi hl hx ?_
  rw [k_setA hs ha]
  exact kk
theorem b_zastore {G : j_G} {M : j_M} {pc : Nat} {lv : List (Nat × Value)} {st : List Value} {X : k_X} {n : Nat} {σ : k_St} {c sl : Nat} {Q : j_P} {a l : Nat} {i x : Int} (hd : decode M.2.1 pc = .ok (.bastore, 1)) (hs : k_has X n a (.inl (2, l))) (ha : 5 ≤ a) (hi : 0 ≤ i ∧ i < l) (hl : l ≤ 1000000) (hx : x = 0 ∨ x = 1) (kk : j_at G M (pc + 1) lv st (k_h X n (k_sA σ a (j_up (σ.1 a) i x))) c sl Q) : j_at G M pc lv (j_i x :: j_i i :: .ref a :: st) (k_h X n σ) c sl Q := by
  have ho := k_cellof (σ := σ) hs
  simp only [k_cell, if_neg (Nat.not_lt.mpr ha)] at ho
  refine a_zastore hd ho ha hi hl hx ?_
  rw [k_setA hs ha]
  exact kk
theorem b_aaload {G : j_G} {M : j_M} {pc : Nat} {lv : List (Nat × Value)} {st : List Value} {X : k_X} {n : Nat} {σ : k_St} {c sl : Nat} {Q : j_P} {a l b : Nat} {i : Int} (hd : decode M.2.1 pc = .ok (.aaload, 1)) (hs : k_has X n a (.inr (.inl l))) (ha : 5 ≤ a) (hi : 0 ≤ i ∧ i < l) (hl : l ≤ 1000000) (hf : σ.2.2 a i = some b) (kk : j_at G M (pc + 1) lv (.ref b :: st) (k_h X n σ) c sl Q) : j_at G M pc lv (j_i i :: .ref a :: st) (k_h X n σ) c sl Q := by
  exact a_aaload hd (k_cellof hs) ha hi hl hf kk
theorem b_aaloadN {G : j_G} {M : j_M} {pc : Nat} {lv : List (Nat × Value)} {st : List Value} {X : k_X} {n : Nat} {σ : k_St} {c sl : Nat} {Q : j_P} {a l : Nat} {i : Int} (hd : decode M.2.1 pc = .ok (.aaload, 1)) (hs : k_has X n a (.inr (.inl l))) (ha : 5 ≤ a) (hi : 0 ≤ i ∧ i < l) (hl : l ≤ 1000000) (hf : σ.2.2 a i = none) (kk : j_at G M (pc + 1) lv (.null :: st) (k_h X n σ) c sl Q) : j_at G M pc lv (j_i i :: .ref a :: st) (k_h X n σ) c sl Q := by
  exact a_aaloadN hd (k_cellof hs) ha hi hl hf kk
theorem b_arraycopy {G : j_G} {M : j_M} {pc : Nat} {lv : List (Nat × Value)} {st : List Value} {X : k_X} {n : Nat} {σ : k_St} {c sl : Nat} {Q : j_P} {idx a0 a1 l0 l1 t : Nat} {sp dp m : Int} (hd : decode M.2.1 pc = .ok (.invokestatic idx, 3)) (hw : Cond.methodLink M.1.cls idx arraycopyName ∈ j_wg) (hs0 : k_has X n a0 (.inl (t, l0))) (hs1 : k_has X n a1 (.inl (t, l1))) (h50 : 5 ≤ a0) (h51 : 5 ≤ a1) (ht : t < 3) (hsp : 0 ≤ sp) (hdp : 0 ≤ dp) (hn : 0 ≤ m) (hl0 : sp + m ≤ l0) (hl1 : dp + m ≤ l1) (hb0 : l0 ≤ 1000000) (hb1 : l1 ≤ 1000000) (hfit : ∀ i, 0 ≤ i → i < m → fits (j_ty t) (j_i (σ.1 a0 (sp + i))) = true) (hrm : 1 ≤ M.2.2.2.2.1) (hrl : (st.map fun v => v.category).sum + (nativeFrameWords "java/lang/System" "arraycopy" 5 + 11) ≤ M.2.2.2.2.2) (kk : j_at G M (pc + 3) lv st (k_h X n (k_sA σ a1 (j_cpy (σ.1 a0) (σ.1 a1) sp dp m))) c sl Q) : j_at G M pc lv (j_i m :: j_i dp :: .ref a1 :: j_i sp :: .ref a0 :: st) (k_h X n σ) c sl Q := by
  have ho0 := k_cellof (σ := σ) hs0
  have ho1 := k_cellof (σ := σ) hs1
  simp only [k_cell, if_neg (Nat.not_lt.mpr h50)] at ho0
  simp only [k_cell, if_neg (Nat.not_lt.mpr h51)] at ho1
  refine a_arraycopy hd hw kw_nat kw_stat kn_sys ho0 ho1 h50 h51 ht hsp hdp hn hl0 hl1 hb0 hb1 hfit hrm hrl ?_
  rw [k_setA hs1 h51]
  exact kk
theorem b_callV {G : j_G} {M : j_M} {pc : Nat} {lv : List (Nat × Value)} {X : k_X} {n : Nat} {σ : k_St} {c sl : Nat} {Q : j_P} {M' : j_M} {idx k : Nat} {b ci : Nat} {ks : List Nat} {q9 : vw_C} {st0 : List Value} (As rest : List Value) {c' sl' : Nat} {Q' : k_P} (hm : j_ML 0 M.1.cls idx M' k) (hd : decode M.2.1 pc = .ok (.invokevirtual idx, 3)) (hst : st0 = As.reverse ++ .ref b :: rest) (hn : As.length = k) (hs : k_has X n b (.inr (.inr (ci, ks)))) (hci : vwCl[ci]? = some q9) (hcn : q9.1 = M'.1.cls) (hrest : (rest.map fun v => v.category).sum ≤ 8) (hfit : j_fit M M') (hrun : k_run G X M' (.ref b :: As) n σ c' sl' Q') (kk : ∀ v n' σ', Q' v n' σ' → j_at G M (pc + 3) lv (v.toList ++ rest) (k_h X n' σ') c sl Q) : j_at G M pc lv st0 (k_h X n σ) (c + c') (sl + sl') Q :=
  a_callV As rest hm hd hst hn (k_cellof hs) hci hcn hrest hfit hrun (fun v h' hq => by
    obtain ⟨n', σ', rfl, hq⟩ := hq
    exact kk v n' σ' hq)
theorem b_pureV {G : j_G} {M : j_M} {pc : Nat} {lv : List (Nat × Value)} {X : k_X} {n : Nat} {σ : k_St} {c sl : Nat} {Q : j_P} {M' : j_M} {idx k : Nat} {b ci : Nat} {ks : List Nat} {q9 : vw_C} {st0 : List Value} (As rest : List Value) {v : Option Value} (hm : j_ML 0 M.1.cls idx M' k) (hd : decode M.2.1 pc = .ok (.invokevirtual idx, 3)) (hst : st0 = As.reverse ++ .ref b :: rest) (hn : As.length = k) (hs : k_has X n b (.inr (.inr (ci, ks)))) (hci : vwCl[ci]? = some q9) (hcn : q9.1 = M'.1.cls) (hrest : (rest.map fun v => v.category).sum ≤ 8) (hfit : j_fit M M') (hrun : k_run G X M' (.ref b :: As) n σ 0 0 (k_is n σ v)) (kk : j_at G M (pc + 3) lv (v.toList ++ rest) (k_h X n σ) c sl Q) : j_at G M pc lv st0 (k_h X n σ) c sl Q :=
  b_callV (c' := 0) (sl' := 0) As rest hm hd hst hn hs hci hcn hrest hfit hrun (fun v' n' σ' hq => by
    obtain ⟨rfl, rfl, rfl⟩ := hq
    exact kk)
theorem b_callS {G : j_G} {M : j_M} {pc : Nat} {lv : List (Nat × Value)} {X : k_X} {n : Nat} {σ : k_St} {c sl : Nat} {Q : j_P} {M' : j_M} {idx k : Nat} {st0 : List Value} (As rest : List Value) {c' sl' : Nat} {Q' : k_P} (hm : j_ML 1 M.1.cls idx M' k) (hd : decode M.2.1 pc = .ok (.invokestatic idx, 3)) (hst : st0 = As.reverse ++ rest) (hn : As.length = k) (hrest : (rest.map fun v => v.category).sum ≤ 8) (hfit : j_fit M M') (hrun : k_run G X M' As n σ c' sl' Q') (kk : ∀ v n' σ', Q' v n' σ' → j_at G M (pc + 3) lv (v.toList ++ rest) (k_h X n' σ') c sl Q) : j_at G M pc lv st0 (k_h X n σ) (c + c') (sl + sl') Q :=
  a_callS As rest hm hd hst hn hrest hfit hrun (fun v h' hq => by
    obtain ⟨n', σ', rfl, hq⟩ := hq
    exact kk v n' σ' hq)
theorem b_pureS {G : j_G} {M : j_M} {pc : Nat} {lv : List (Nat × Value)} {X : k_X} {n : Nat} {σ : k_St} {c sl : Nat} {Q : j_P} {M' : j_M} {idx k : Nat} {st0 : List Value} (As rest : List Value) {v : Option Value} (hm : j_ML 1 M.1.cls idx M' k) (hd : decode M.2.1 pc = .ok (.invokestatic idx, 3)) (hst : st0 = As.reverse ++ rest) (hn : As.length = k) (hrest : (rest.map fun v => v.category).sum ≤ 8) (hfit : j_fit M M') (hrun : k_run G X M' As n σ 0 0 (k_is n σ v)) (kk : j_at G M (pc + 3) lv (v.toList ++ rest) (k_h X n σ) c sl Q) : j_at G M pc lv st0 (k_h X n σ) c sl Q :=
  b_callS (c' := 0) (sl' := 0) As rest hm hd hst hn hrest hfit hrun (fun v' n' σ' hq => by
    obtain ⟨rfl, rfl, rfl⟩ := hq
    exact kk)
theorem b_callI {G : j_G} {M : j_M} {pc : Nat} {lv : List (Nat × Value)} {X : k_X} {n : Nat} {σ : k_St} {c sl : Nat} {Q : j_P} {M' : j_M} {idx k : Nat} {b : Nat} {st0 : List Value} (As rest : List Value) {c' sl' : Nat} {Q' : k_P} (hm : j_ML 2 M.1.cls idx M' k) (hd : decode M.2.1 pc = .ok (.invokespecial idx, 3)) (hst : st0 = As.reverse ++ .ref b :: rest) (hn : As.length = k) (hrest : (rest.map fun v => v.category).sum ≤ 8) (hfit : j_fit M M') (hrun : k_run G X M' (.ref b :: As) n σ c' sl' Q') (kk : ∀ v n' σ', Q' v n' σ' → j_at G M (pc + 3) lv (v.toList ++ rest) (k_h X n' σ') c sl Q) : j_at G M pc lv st0 (k_h X n σ) (c + c') (sl + sl') Q :=
  a_callI As rest hm hd hst hn hrest hfit hrun (fun v h' hq => by
    obtain ⟨n', σ', rfl, hq⟩ := hq
    exact kk v n' σ' hq)
theorem b_pureI {G : j_G} {M : j_M} {pc : Nat} {lv : List (Nat × Value)} {X : k_X} {n : Nat} {σ : k_St} {c sl : Nat} {Q : j_P} {M' : j_M} {idx k : Nat} {b : Nat} {st0 : List Value} (As rest : List Value) {v : Option Value} (hm : j_ML 2 M.1.cls idx M' k) (hd : decode M.2.1 pc = .ok (.invokespecial idx, 3)) (hst : st0 = As.reverse ++ .ref b :: rest) (hn : As.length = k) (hrest : (rest.map fun v => v.category).sum ≤ 8) (hfit : j_fit M M') (hrun : k_run G X M' (.ref b :: As) n σ 0 0 (k_is n σ v)) (kk : j_at G M (pc + 3) lv (v.toList ++ rest) (k_h X n σ) c sl Q) : j_at G M pc lv st0 (k_h X n σ) c sl Q :=
  b_callI (c' := 0) (sl' := 0) As rest hm hd hst hn hrest hfit hrun (fun v' n' σ' hq => by
    obtain ⟨rfl, rfl, rfl⟩ := hq
    exact kk)
theorem k_enter {G : j_G} {X : k_X} {M : j_M} {args : List Value} {n : Nat} {σ : k_St} {c sl : Nat} {Q : k_P} (hy : plainName M.1.cls = true) (hl : (lg_sl args).length ≤ M.2.2.1) (k : j_at G M 0 (lv_args 0 args) [] (k_h X n σ) c sl (k_Q X Q)) : k_run G X M args n σ c sl Q := j_enter hy hl k
theorem k_ret {X : k_X} {Q : k_P} {v : Option Value} {n : Nat} {σ : k_St} (h : Q v n σ) : k_Q X Q v (k_h X n σ) := ⟨n, σ, rfl, h⟩
theorem sh_0 {X : k_X} {n : Nat} (hn : 101 ≤ n) : k_has X n 0 (.inl (0, X.1)) := ⟨by omega, rfl⟩
theorem sh_1 {X : k_X} {n : Nat} (hn : 101 ≤ n) : k_has X n 1 (.inl (0, 13)) := ⟨by omega, rfl⟩
theorem sh_2 {X : k_X} {n : Nat} (hn : 101 ≤ n) : k_has X n 2 (.inl (3, 13)) := ⟨by omega, rfl⟩
theorem sh_3 {X : k_X} {n : Nat} (hn : 101 ≤ n) : k_has X n 3 (.inl (3, 13)) := ⟨by omega, rfl⟩
theorem sh_4 {X : k_X} {n : Nat} (hn : 101 ≤ n) : k_has X n 4 (.inl (0, 6)) := ⟨by omega, rfl⟩
theorem sh_5 {X : k_X} {n : Nat} (hn : 101 ≤ n) : k_has X n 5 (.inr (.inr (11, [9, 11, 19, 25, 27, 33, 36, 42, 2, 2, 0, 0, 0, 0, 0]))) := ⟨by omega, rfl⟩
theorem sh_6 {X : k_X} {n : Nat} (hn : 101 ≤ n) : k_has X n 6 (.inr (.inr (4, [10, 0, 11, 19]))) := ⟨by omega, rfl⟩
theorem sh_7 {X : k_X} {n : Nat} (hn : 101 ≤ n) : k_has X n 7 (.inl (0, 300)) := ⟨by omega, rfl⟩
theorem sh_8 {X : k_X} {n : Nat} (hn : 101 ≤ n) : k_has X n 8 (.inr (.inr (2, [12, 15, 18, 0]))) := ⟨by omega, rfl⟩
theorem sh_9 {X : k_X} {n : Nat} (hn : 101 ≤ n) : k_has X n 9 (.inr (.inr (9, [13, 14]))) := ⟨by omega, rfl⟩
theorem sh_10 {X : k_X} {n : Nat} (hn : 101 ≤ n) : k_has X n 10 (.inl (1, 480)) := ⟨by omega, rfl⟩
theorem sh_11 {X : k_X} {n : Nat} (hn : 101 ≤ n) : k_has X n 11 (.inl (0, 30)) := ⟨by omega, rfl⟩
theorem sh_12 {X : k_X} {n : Nat} (hn : 101 ≤ n) : k_has X n 12 (.inr (.inr (9, [16, 17]))) := ⟨by omega, rfl⟩
theorem sh_13 {X : k_X} {n : Nat} (hn : 101 ≤ n) : k_has X n 13 (.inl (1, 480)) := ⟨by omega, rfl⟩
theorem sh_14 {X : k_X} {n : Nat} (hn : 101 ≤ n) : k_has X n 14 (.inl (0, 30)) := ⟨by omega, rfl⟩
theorem sh_15 {X : k_X} {n : Nat} (hn : 101 ≤ n) : k_has X n 15 (.inl (2, 30)) := ⟨by omega, rfl⟩
theorem sh_16 {X : k_X} {n : Nat} (hn : 101 ≤ n) : k_has X n 16 (.inr (.inr (7, [20, 21, 22, 23, 24, 0]))) := ⟨by omega, rfl⟩
theorem sh_17 {X : k_X} {n : Nat} (hn : 101 ≤ n) : k_has X n 17 (.inl (0, 50)) := ⟨by omega, rfl⟩
theorem sh_18 {X : k_X} {n : Nat} (hn : 101 ≤ n) : k_has X n 18 (.inl (0, 50)) := ⟨by omega, rfl⟩
theorem sh_19 {X : k_X} {n : Nat} (hn : 101 ≤ n) : k_has X n 19 (.inl (0, 50)) := ⟨by omega, rfl⟩
theorem sh_20 {X : k_X} {n : Nat} (hn : 101 ≤ n) : k_has X n 20 (.inl (0, 50)) := ⟨by omega, rfl⟩
theorem sh_21 {X : k_X} {n : Nat} (hn : 101 ≤ n) : k_has X n 21 (.inl (2, 50)) := ⟨by omega, rfl⟩
theorem sh_22 {X : k_X} {n : Nat} (hn : 101 ≤ n) : k_has X n 22 (.inr (.inr (0, [26, 0, 0]))) := ⟨by omega, rfl⟩
theorem sh_23 {X : k_X} {n : Nat} (hn : 101 ≤ n) : k_has X n 23 (.inr (.inl 40)) := ⟨by omega, rfl⟩
theorem sh_24 {X : k_X} {n : Nat} (hn : 101 ≤ n) : k_has X n 24 (.inr (.inr (8, [28, 29, 30, 31, 0, 32, 0]))) := ⟨by omega, rfl⟩
theorem sh_25 {X : k_X} {n : Nat} (hn : 101 ≤ n) : k_has X n 25 (.inl (0, 8)) := ⟨by omega, rfl⟩
theorem sh_26 {X : k_X} {n : Nat} (hn : 101 ≤ n) : k_has X n 26 (.inl (0, 8)) := ⟨by omega, rfl⟩
theorem sh_27 {X : k_X} {n : Nat} (hn : 101 ≤ n) : k_has X n 27 (.inl (0, 8)) := ⟨by omega, rfl⟩
theorem sh_28 {X : k_X} {n : Nat} (hn : 101 ≤ n) : k_has X n 28 (.inl (0, 8)) := ⟨by omega, rfl⟩
theorem sh_29 {X : k_X} {n : Nat} (hn : 101 ≤ n) : k_has X n 29 (.inl (0, 16)) := ⟨by omega, rfl⟩
theorem sh_30 {X : k_X} {n : Nat} (hn : 101 ≤ n) : k_has X n 30 (.inr (.inr (9, [34, 35]))) := ⟨by omega, rfl⟩
theorem sh_31 {X : k_X} {n : Nat} (hn : 101 ≤ n) : k_has X n 31 (.inl (1, 16)) := ⟨by omega, rfl⟩
theorem sh_32 {X : k_X} {n : Nat} (hn : 101 ≤ n) : k_has X n 32 (.inl (0, 1)) := ⟨by omega, rfl⟩
theorem sh_33 {X : k_X} {n : Nat} (hn : 101 ≤ n) : k_has X n 33 (.inr (.inr (5, [37, 0, 40, 41]))) := ⟨by omega, rfl⟩
theorem sh_34 {X : k_X} {n : Nat} (hn : 101 ≤ n) : k_has X n 34 (.inr (.inr (9, [38, 39]))) := ⟨by omega, rfl⟩
theorem sh_35 {X : k_X} {n : Nat} (hn : 101 ≤ n) : k_has X n 35 (.inl (1, 64)) := ⟨by omega, rfl⟩
theorem sh_36 {X : k_X} {n : Nat} (hn : 101 ≤ n) : k_has X n 36 (.inl (0, 4)) := ⟨by omega, rfl⟩
theorem sh_37 {X : k_X} {n : Nat} (hn : 101 ≤ n) : k_has X n 37 (.inr (.inr (1, [0, 0, 1]))) := ⟨by omega, rfl⟩
theorem sh_38 {X : k_X} {n : Nat} (hn : 101 ≤ n) : k_has X n 38 (.inr (.inr (1, [0, 0, 1]))) := ⟨by omega, rfl⟩
theorem sh_39 {X : k_X} {n : Nat} (hn : 101 ≤ n) : k_has X n 39 (.inr (.inr (6, [9, 36, 43, 44, 0, 45, 0, 46, 47, 48, 0, 0, 0, 0]))) := ⟨by omega, rfl⟩
theorem sh_40 {X : k_X} {n : Nat} (hn : 101 ≤ n) : k_has X n 40 (.inl (0, 30)) := ⟨by omega, rfl⟩
theorem sh_41 {X : k_X} {n : Nat} (hn : 101 ≤ n) : k_has X n 41 (.inl (0, 30)) := ⟨by omega, rfl⟩
theorem sh_42 {X : k_X} {n : Nat} (hn : 101 ≤ n) : k_has X n 42 (.inl (0, 50)) := ⟨by omega, rfl⟩
theorem sh_43 {X : k_X} {n : Nat} (hn : 101 ≤ n) : k_has X n 43 (.inl (2, 50)) := ⟨by omega, rfl⟩
theorem sh_44 {X : k_X} {n : Nat} (hn : 101 ≤ n) : k_has X n 44 (.inl (0, 30)) := ⟨by omega, rfl⟩
theorem sh_45 {X : k_X} {n : Nat} (hn : 101 ≤ n) : k_has X n 45 (.inr (.inr (10, [49, 50, 0]))) := ⟨by omega, rfl⟩
theorem sh_46 {X : k_X} {n : Nat} (hn : 101 ≤ n) : k_has X n 46 (.inl (0, 50)) := ⟨by omega, rfl⟩
theorem sh_47 {X : k_X} {n : Nat} (hn : 101 ≤ n) : k_has X n 47 (.inl (0, 50)) := ⟨by omega, rfl⟩
theorem sh_48 {X : k_X} {n : Nat} (hn : 101 ≤ n) : k_has X n 48 (.inr (.inr (3, [0, 52, 53, 54, 55, 0, 56, 0, 57, 0, 58]))) := ⟨by omega, rfl⟩
theorem sh_49 {X : k_X} {n : Nat} (hn : 101 ≤ n) : k_has X n 49 (.inl (0, 150)) := ⟨by omega, rfl⟩
theorem sh_50 {X : k_X} {n : Nat} (hn : 101 ≤ n) : k_has X n 50 (.inl (0, 150)) := ⟨by omega, rfl⟩
theorem sh_51 {X : k_X} {n : Nat} (hn : 101 ≤ n) : k_has X n 51 (.inl (0, 150)) := ⟨by omega, rfl⟩
theorem sh_52 {X : k_X} {n : Nat} (hn : 101 ≤ n) : k_has X n 52 (.inl (0, 200)) := ⟨by omega, rfl⟩
theorem sh_53 {X : k_X} {n : Nat} (hn : 101 ≤ n) : k_has X n 53 (.inl (0, 150)) := ⟨by omega, rfl⟩
theorem sh_54 {X : k_X} {n : Nat} (hn : 101 ≤ n) : k_has X n 54 (.inl (0, 50)) := ⟨by omega, rfl⟩
theorem sh_55 {X : k_X} {n : Nat} (hn : 101 ≤ n) : k_has X n 55 (.inr (.inr (9, [59, 60]))) := ⟨by omega, rfl⟩
theorem sh_56 {X : k_X} {n : Nat} (hn : 101 ≤ n) : k_has X n 56 (.inl (1, 480)) := ⟨by omega, rfl⟩
theorem sh_57 {X : k_X} {n : Nat} (hn : 101 ≤ n) : k_has X n 57 (.inl (0, 30)) := ⟨by omega, rfl⟩
theorem sh_58 {X : k_X} {n : Nat} (hn : 101 ≤ n) : k_has X n 58 (.inr (.inr (3, [0, 62, 63, 64, 65, 0, 66, 0, 67, 0, 68]))) := ⟨by omega, rfl⟩
theorem sh_59 {X : k_X} {n : Nat} (hn : 101 ≤ n) : k_has X n 59 (.inl (0, 150)) := ⟨by omega, rfl⟩
theorem sh_60 {X : k_X} {n : Nat} (hn : 101 ≤ n) : k_has X n 60 (.inl (0, 150)) := ⟨by omega, rfl⟩
theorem sh_61 {X : k_X} {n : Nat} (hn : 101 ≤ n) : k_has X n 61 (.inl (0, 150)) := ⟨by omega, rfl⟩
theorem sh_62 {X : k_X} {n : Nat} (hn : 101 ≤ n) : k_has X n 62 (.inl (0, 200)) := ⟨by omega, rfl⟩
theorem sh_63 {X : k_X} {n : Nat} (hn : 101 ≤ n) : k_has X n 63 (.inl (0, 150)) := ⟨by omega, rfl⟩
theorem sh_64 {X : k_X} {n : Nat} (hn : 101 ≤ n) : k_has X n 64 (.inl (0, 50)) := ⟨by omega, rfl⟩
theorem sh_65 {X : k_X} {n : Nat} (hn : 101 ≤ n) : k_has X n 65 (.inr (.inr (9, [69, 70]))) := ⟨by omega, rfl⟩
theorem sh_66 {X : k_X} {n : Nat} (hn : 101 ≤ n) : k_has X n 66 (.inl (1, 480)) := ⟨by omega, rfl⟩
theorem sh_67 {X : k_X} {n : Nat} (hn : 101 ≤ n) : k_has X n 67 (.inl (0, 30)) := ⟨by omega, rfl⟩
theorem sh_68 {X : k_X} {n : Nat} (hn : 101 ≤ n) : k_has X n 68 (.inr (.inr (12, [0, 0, 72, 73, 0, 0, 74, 0, 75, 76, 0, 0, 0, 77, 78, 79, 80, 81, 82, 83, 0, 0, 0, 1, 0, 0, 84, 85, 86, 87, 88, 89, 0, 90, 0, 0, 91, 92, 93, 94, 95, 96, 97, 0, 98, 0, 99, 100, 0, 101, 102, 103, 0, 0]))) := ⟨by omega, rfl⟩
theorem sh_69 {X : k_X} {n : Nat} (hn : 101 ≤ n) : k_has X n 69 (.inl (0, 1733)) := ⟨by omega, rfl⟩
theorem sh_70 {X : k_X} {n : Nat} (hn : 101 ≤ n) : k_has X n 70 (.inl (0, 69320)) := ⟨by omega, rfl⟩
theorem sh_71 {X : k_X} {n : Nat} (hn : 101 ≤ n) : k_has X n 71 (.inl (0, 16)) := ⟨by omega, rfl⟩
theorem sh_72 {X : k_X} {n : Nat} (hn : 101 ≤ n) : k_has X n 72 (.inl (0, 64)) := ⟨by omega, rfl⟩
theorem sh_73 {X : k_X} {n : Nat} (hn : 101 ≤ n) : k_has X n 73 (.inl (0, 4)) := ⟨by omega, rfl⟩
theorem sh_74 {X : k_X} {n : Nat} (hn : 101 ≤ n) : k_has X n 74 (.inl (0, 8)) := ⟨by omega, rfl⟩
theorem sh_75 {X : k_X} {n : Nat} (hn : 101 ≤ n) : k_has X n 75 (.inl (0, 8)) := ⟨by omega, rfl⟩
theorem sh_76 {X : k_X} {n : Nat} (hn : 101 ≤ n) : k_has X n 76 (.inl (0, 8)) := ⟨by omega, rfl⟩
theorem sh_77 {X : k_X} {n : Nat} (hn : 101 ≤ n) : k_has X n 77 (.inl (0, 8)) := ⟨by omega, rfl⟩
theorem sh_78 {X : k_X} {n : Nat} (hn : 101 ≤ n) : k_has X n 78 (.inl (0, 300)) := ⟨by omega, rfl⟩
theorem sh_79 {X : k_X} {n : Nat} (hn : 101 ≤ n) : k_has X n 79 (.inl (0, 300)) := ⟨by omega, rfl⟩
theorem sh_80 {X : k_X} {n : Nat} (hn : 101 ≤ n) : k_has X n 80 (.inl (0, 24)) := ⟨by omega, rfl⟩
theorem sh_81 {X : k_X} {n : Nat} (hn : 101 ≤ n) : k_has X n 81 (.inl (0, 600)) := ⟨by omega, rfl⟩
theorem sh_82 {X : k_X} {n : Nat} (hn : 101 ≤ n) : k_has X n 82 (.inl (0, 200)) := ⟨by omega, rfl⟩
theorem sh_83 {X : k_X} {n : Nat} (hn : 101 ≤ n) : k_has X n 83 (.inl (0, 200)) := ⟨by omega, rfl⟩
theorem sh_84 {X : k_X} {n : Nat} (hn : 101 ≤ n) : k_has X n 84 (.inl (0, 200)) := ⟨by omega, rfl⟩
theorem sh_85 {X : k_X} {n : Nat} (hn : 101 ≤ n) : k_has X n 85 (.inl (0, 200)) := ⟨by omega, rfl⟩
theorem sh_86 {X : k_X} {n : Nat} (hn : 101 ≤ n) : k_has X n 86 (.inl (0, 1200)) := ⟨by omega, rfl⟩
theorem sh_87 {X : k_X} {n : Nat} (hn : 101 ≤ n) : k_has X n 87 (.inl (0, 600)) := ⟨by omega, rfl⟩
theorem sh_88 {X : k_X} {n : Nat} (hn : 101 ≤ n) : k_has X n 88 (.inl (0, 600)) := ⟨by omega, rfl⟩
theorem sh_89 {X : k_X} {n : Nat} (hn : 101 ≤ n) : k_has X n 89 (.inl (0, 200)) := ⟨by omega, rfl⟩
theorem sh_90 {X : k_X} {n : Nat} (hn : 101 ≤ n) : k_has X n 90 (.inl (0, 200)) := ⟨by omega, rfl⟩
theorem sh_91 {X : k_X} {n : Nat} (hn : 101 ≤ n) : k_has X n 91 (.inl (0, 200)) := ⟨by omega, rfl⟩
theorem sh_92 {X : k_X} {n : Nat} (hn : 101 ≤ n) : k_has X n 92 (.inl (0, 200)) := ⟨by omega, rfl⟩
theorem sh_93 {X : k_X} {n : Nat} (hn : 101 ≤ n) : k_has X n 93 (.inl (0, 1200)) := ⟨by omega, rfl⟩
theorem sh_94 {X : k_X} {n : Nat} (hn : 101 ≤ n) : k_has X n 94 (.inl (0, 600)) := ⟨by omega, rfl⟩
theorem sh_95 {X : k_X} {n : Nat} (hn : 101 ≤ n) : k_has X n 95 (.inl (0, 50)) := ⟨by omega, rfl⟩
theorem sh_96 {X : k_X} {n : Nat} (hn : 101 ≤ n) : k_has X n 96 (.inl (0, 30)) := ⟨by omega, rfl⟩
theorem sh_97 {X : k_X} {n : Nat} (hn : 101 ≤ n) : k_has X n 97 (.inl (0, 480)) := ⟨by omega, rfl⟩
theorem sh_98 {X : k_X} {n : Nat} (hn : 101 ≤ n) : k_has X n 98 (.inl (0, 60)) := ⟨by omega, rfl⟩
theorem sh_99 {X : k_X} {n : Nat} (hn : 101 ≤ n) : k_has X n 99 (.inl (0, 60)) := ⟨by omega, rfl⟩
theorem sh_100 {X : k_X} {n : Nat} (hn : 101 ≤ n) : k_has X n 100 (.inl (2, 200)) := ⟨by omega, rfl⟩
