theorem j_add (x y : Int) : Int32.ofInt (x + y) = Int32.ofInt x + Int32.ofInt y := Int32.ofInt_add ..
theorem j_sub (x y : Int) : Int32.ofInt (x - y) = Int32.ofInt x - Int32.ofInt y := Int32.ofInt_sub ..
theorem j_mul (x y : Int) : Int32.ofInt (x * y) = Int32.ofInt x * Int32.ofInt y := Int32.ofInt_mul ..
theorem j_ti {x : Int} (hx : -2147483648 ≤ x ∧ x ≤ 2147483647) : (Int32.ofInt x).toInt = x := Int32.toInt_ofInt_of_le (by omega) (by omega)
theorem j_lt {x y : Int} (hx : -2147483648 ≤ x ∧ x ≤ 2147483647) (hy : -2147483648 ≤ y ∧ y ≤ 2147483647) : Int32.ofInt x < Int32.ofInt y ↔ x < y := by rw [Int32.lt_iff_toInt_lt, j_ti hx, j_ti hy]
theorem j_le {x y : Int} (hx : -2147483648 ≤ x ∧ x ≤ 2147483647) (hy : -2147483648 ≤ y ∧ y ≤ 2147483647) : Int32.ofInt x ≤ Int32.ofInt y ↔ x ≤ y := by rw [Int32.le_iff_toInt_le, j_ti hx, j_ti hy]
theorem j_eq {x y : Int} (hx : -2147483648 ≤ x ∧ x ≤ 2147483647) (hy : -2147483648 ≤ y ∧ y ≤ 2147483647) : Int32.ofInt x = Int32.ofInt y ↔ x = y := by rw [← Int32.toInt_inj, j_ti hx, j_ti hy]
theorem j_0 : (0 : Int32) = Int32.ofInt 0 := rfl
theorem j_eq0 {x : Int} (hx : -2147483648 ≤ x ∧ x ≤ 2147483647) : Int32.ofInt x = 0 ↔ x = 0 := by rw [j_0]; exact j_eq hx (by omega)
theorem j_lt0 {x : Int} (hx : -2147483648 ≤ x ∧ x ≤ 2147483647) : Int32.ofInt x < 0 ↔ x < 0 := by rw [j_0]; exact j_lt hx (by omega)
theorem j_ge0 {x : Int} (hx : -2147483648 ≤ x ∧ x ≤ 2147483647) : 0 ≤ Int32.ofInt x ↔ 0 ≤ x := by rw [j_0]; exact j_le (by omega) hx
theorem j_gt0 {x : Int} (hx : -2147483648 ≤ x ∧ x ≤ 2147483647) : 0 < Int32.ofInt x ↔ 0 < x := by rw [j_0]; exact j_lt (by omega) hx
theorem j_le0 {x : Int} (hx : -2147483648 ≤ x ∧ x ≤ 2147483647) : Int32.ofInt x ≤ 0 ↔ x ≤ 0 := by rw [j_0]; exact j_le hx (by omega)
theorem j_lti {x : Int} (hx : -9223372036854775808 ≤ x ∧ x ≤ 9223372036854775807) : (Int64.ofInt x).toInt = x := Int64.toInt_ofInt_of_le (by omega) (by omega)
theorem j_cl {x : Int} (hx : 0 ≤ x ∧ x ≤ 2147483647) : (Int32.ofInt x).toNatClampNeg = x.toNat := by rw [Int32.toNatClampNeg, j_ti (by omega)]
theorem j_vin {i : Int} {n : Nat} (hi : 0 ≤ i ∧ i < n) (hn : n ≤ 2147483647) : vp_in (Int32.ofInt i) n := by
  rw [vp_in_iff, j_ti (by omega)]; exact hi
def j_bi (b : Bool) : Int := if b then 1 else 0
/-- a local's value -/
def j_get (lv : List (Nat × Value)) (i : Nat) : Option Value := (lv.find? (fun q => q.1 == i)).map (fun q => q.2)
def j_ins : List (Nat × Value) → Nat → Value → List (Nat × Value)
  | [], i, v => [(i, v)]
  | q :: l, i, v => if i < q.1 then (i, v) :: q :: l else q :: j_ins l i v
def j_put (lv : List (Nat × Value)) (i : Nat) (v : Value) : List (Nat × Value) := j_ins (lv.filter (fun q => !(q.1 == i) && !(q.1 + 1 == i && q.2.category == 2))) i v
def j_put2 (lv : List (Nat × Value)) (i : Nat) (v : Value) : List (Nat × Value) := j_ins (lv.filter (fun q => !(q.1 == i) && (!(q.1 == i + 1) && !(q.1 + 1 == i && q.2.category == 2)))) i v
theorem j_ins_mem {q : Nat × Value} : ∀ {l : List (Nat × Value)} {i : Nat} {v : Value}, q ∈ j_ins l i v → q = (i, v) ∨ q ∈ l
  | [], i, v, h => by simp [j_ins] at h; exact Or.inl h
  | r :: l, i, v, h => by
    unfold j_ins at h
    split at h
    · rcases List.mem_cons.mp h with h | h
      · exact Or.inl h
      · exact Or.inr h
    · rcases List.mem_cons.mp h with h | h
      · exact Or.inr (h ▸ List.mem_cons_self)
      · rcases j_ins_mem h with h | h
        · exact Or.inl h
        · exact Or.inr (List.mem_cons_of_mem _ h)
theorem j_at_of {G : j_G} {ls : Array Slot} {n i : Nat} {lv : List (Nat × Value)} {v : Value} (hl : lv_has ls n (j_lv G lv)) (hg : j_get lv i = some v) : ls[i]? = some (.val (j_cv G v)) := by
  unfold j_get at hg
  cases hf : lv.find? (fun q => q.1 == i) with
  | none => rw [hf] at hg; cases hg
  | some q =>
    rw [hf] at hg
    have h1 := List.mem_of_find?_eq_some hf
    have h2 := List.find?_some hf
    have h3 : q.1 = i := by simpa using h2
    have h4 : q.2 = v := Option.some.inj hg
    have := hl.2.2 (q.1, j_cv G q.2) (List.mem_map.mpr ⟨q, h1, rfl⟩)
    rw [← h3, ← h4]
    exact this
/-- fewer locals -/
theorem j_has_sub {G : j_G} {ls : Array Slot} {n : Nat} {lv lv' : List (Nat × Value)} (hl : lv_has ls n (j_lv G lv)) (h : ∀ q ∈ lv', q ∈ lv) : lv_has ls n (j_lv G lv') := by
  refine ⟨hl.1, hl.2.1, fun q hq => ?_⟩
  obtain ⟨r, h1, h2⟩ := List.mem_map.mp hq
  exact hl.2.2 q (List.mem_map.mpr ⟨r, h r h1, h2⟩)
theorem j_lv_filter {G : j_G} {i : Nat} {v : Value} {lv : List (Nat × Value)} : (i, j_cv G v) :: (j_lv G lv).filter (fun q => !(q.1 == i) && !(q.1 + 1 == i && q.2.category == 2)) = j_lv G ((i, v) :: lv.filter (fun q => !(q.1 == i) && !(q.1 + 1 == i && q.2.category == 2))) := by
  simp [j_lv, List.filter_map, Function.comp_def, j_cv_cat]
theorem j_lv_filter2 {G : j_G} {i : Nat} {v : Value} {lv : List (Nat × Value)} : (i, j_cv G v) :: (j_lv G lv).filter (fun q => !(q.1 == i) && (!(q.1 == i + 1) && !(q.1 + 1 == i && q.2.category == 2))) = j_lv G ((i, v) :: lv.filter (fun q => !(q.1 == i) && (!(q.1 == i + 1) && !(q.1 + 1 == i && q.2.category == 2)))) := by
  simp [j_lv, List.filter_map, Function.comp_def, j_cv_cat]
theorem j_put_sub {lv : List (Nat × Value)} {i : Nat} {v : Value} : ∀ q ∈ j_put lv i v, q ∈ (i, v) :: lv.filter (fun q => !(q.1 == i) && !(q.1 + 1 == i && q.2.category == 2)) := fun _ h => (j_ins_mem h).elim (fun e => e ▸ List.mem_cons_self) (fun h => List.mem_cons_of_mem _ h)
theorem j_put2_sub {lv : List (Nat × Value)} {i : Nat} {v : Value} : ∀ q ∈ j_put2 lv i v, q ∈ (i, v) :: lv.filter (fun q => !(q.1 == i) && (!(q.1 == i + 1) && !(q.1 + 1 == i && q.2.category == 2))) := fun _ h => (j_ins_mem h).elim (fun e => e ▸ List.mem_cons_self) (fun h => List.mem_cons_of_mem _ h)
theorem a_sub {G : j_G} {M : j_M} {pc : Nat} {lv : List (Nat × Value)} {st : List Value} {h : j_H} {c sl : Nat} {Q : j_P} {lv' : List (Nat × Value)} (hq : ∀ q ∈ lv', q ∈ lv) (k : j_at G M pc lv' st h c sl Q) : j_at G M pc lv st h c sl Q := by
  intro p e s m args below meth cd H locs ls cells slots mc ms hF hW hS hl hc hs
  exact k p e s m args below meth cd H locs ls cells slots mc ms hF hW hS (j_has_sub hl hq) hc hs
theorem a_post {G : j_G} {M : j_M} {pc : Nat} {lv : List (Nat × Value)} {st : List Value} {h : j_H} {c sl : Nat} {Q : j_P} {Q' : j_P} (hq : ∀ v h', Q v h' → Q' v h') (k : j_at G M pc lv st h c sl Q) : j_at G M pc lv st h c sl Q' := by
  intro p e s m args below meth cd H locs ls cells slots mc ms hF hW hS hl hc hs
  intro T hT X
  obtain ⟨t, a1, o, b1, b2, ⟨⟨v, h', c1, c2, c3⟩, c4⟩, b4⟩ := k p e s m args below meth cd H locs ls cells slots mc ms hF hW hS hl hc hs T hT X
  exact ⟨t, a1, o, b1, b2, ⟨⟨v, h', c1, hq v h' c2, c3⟩, c4⟩, b4⟩
theorem a_budget {G : j_G} {M : j_M} {pc : Nat} {lv : List (Nat × Value)} {st : List Value} {h : j_H} {c sl : Nat} {Q : j_P} {c' sl' : Nat} (h1 : c' ≤ c) (h2 : sl' ≤ sl) (k : j_at G M pc lv st h c' sl' Q) : j_at G M pc lv st h c sl Q := by
  intro p e s m args below meth cd H locs ls cells slots mc ms hF hW hS hl hc hs
  exact k p e s m args below meth cd H locs ls cells slots mc ms hF hW hS hl (by omega) (by omega)

theorem a_iconst {G : j_G} {M : j_M} {pc : Nat} {lv : List (Nat × Value)} {st : List Value} {h : j_H} {c sl : Nat} {Q : j_P} {n : Int} (hd : decode M.2.1 pc = .ok (.iconst n, 1)) (k : j_at G M (pc + 1) lv (j_i n :: st) h c sl Q) : j_at G M pc lv (st) h c sl Q := by
  intro p e s m args below meth cd H locs ls cells slots mc ms hF hW hS hl hc hs
  exact lv_iconst hF.1 hF.2.1 hd rfl (k p e s m args below meth cd H locs ls cells slots mc ms hF hW hS hl hc hs)
theorem a_bipush {G : j_G} {M : j_M} {pc : Nat} {lv : List (Nat × Value)} {st : List Value} {h : j_H} {c sl : Nat} {Q : j_P} {n : Int} (hd : decode M.2.1 pc = .ok (.bipush n, 2)) (hn : (Int8.ofInt n).toInt32 = Int32.ofInt n) (k : j_at G M (pc + 2) lv (j_i n :: st) h c sl Q) : j_at G M pc lv (st) h c sl Q := by
  intro p e s m args below meth cd H locs ls cells slots mc ms hF hW hS hl hc hs
  exact lv_bipush hF.1 hF.2.1 hd hn (k p e s m args below meth cd H locs ls cells slots mc ms hF hW hS hl hc hs)
theorem a_sipush {G : j_G} {M : j_M} {pc : Nat} {lv : List (Nat × Value)} {st : List Value} {h : j_H} {c sl : Nat} {Q : j_P} {n : Int} (hd : decode M.2.1 pc = .ok (.sipush n, 3)) (hn : (Int16.ofInt n).toInt32 = Int32.ofInt n) (k : j_at G M (pc + 3) lv (j_i n :: st) h c sl Q) : j_at G M pc lv (st) h c sl Q := by
  intro p e s m args below meth cd H locs ls cells slots mc ms hF hW hS hl hc hs
  exact lv_sipush hF.1 hF.2.1 hd hn (k p e s m args below meth cd H locs ls cells slots mc ms hF hW hS hl hc hs)
theorem a_ldc {G : j_G} {M : j_M} {pc : Nat} {lv : List (Nat × Value)} {st : List Value} {h : j_H} {c sl : Nat} {Q : j_P} {n : Int} {i : Nat} (hd : decode M.2.1 pc = .ok (.ldc i, 2)) (hw : Cond.constant M.1.cls i (Int32.ofInt n) ∈ j_wg) (k : j_at G M (pc + 2) lv (j_i n :: st) h c sl Q) : j_at G M pc lv (st) h c sl Q := by
  intro p e s m args below meth cd H locs ls cells slots mc ms hF hW hS hl hc hs
  exact lv_ldc hF.1 hF.2.1 hF.2.2.2.2.1 (hF.2.2.2.2.2.1 _ hw) hd (k p e s m args below meth cd H locs ls cells slots mc ms hF hW hS hl hc hs)
theorem a_ldc_w {G : j_G} {M : j_M} {pc : Nat} {lv : List (Nat × Value)} {st : List Value} {h : j_H} {c sl : Nat} {Q : j_P} {n : Int} {i : Nat} (hd : decode M.2.1 pc = .ok (.ldc_w i, 3)) (hw : Cond.constant M.1.cls i (Int32.ofInt n) ∈ j_wg) (k : j_at G M (pc + 3) lv (j_i n :: st) h c sl Q) : j_at G M pc lv (st) h c sl Q := by
  intro p e s m args below meth cd H locs ls cells slots mc ms hF hW hS hl hc hs
  exact lv_ldcw hF.1 hF.2.1 hF.2.2.2.2.1 (hF.2.2.2.2.2.1 _ hw) hd (k p e s m args below meth cd H locs ls cells slots mc ms hF hW hS hl hc hs)
theorem a_ldc2_w {G : j_G} {M : j_M} {pc : Nat} {lv : List (Nat × Value)} {st : List Value} {h : j_H} {c sl : Nat} {Q : j_P} {n : Int} {i : Nat} (hd : decode M.2.1 pc = .ok (.ldc2_w i, 3)) (hw : Cond.constantLong M.1.cls i (Int64.ofInt n) ∈ j_wg) (k : j_at G M (pc + 3) lv (j_l n :: st) h c sl Q) : j_at G M pc lv (st) h c sl Q := by
  intro p e s m args below meth cd H locs ls cells slots mc ms hF hW hS hl hc hs
  exact lv_ldc2 hF.1 hF.2.1 hF.2.2.2.2.1 (hF.2.2.2.2.2.1 _ hw) hd (k p e s m args below meth cd H locs ls cells slots mc ms hF hW hS hl hc hs)
theorem a_lconst {G : j_G} {M : j_M} {pc : Nat} {lv : List (Nat × Value)} {st : List Value} {h : j_H} {c sl : Nat} {Q : j_P} {n : Fin 2} (hd : decode M.2.1 pc = .ok (.lconst n, 1)) (k : j_at G M (pc + 1) lv (j_l ((n : Nat) : Int) :: st) h c sl Q) : j_at G M pc lv (st) h c sl Q := by
  intro p e s m args below meth cd H locs ls cells slots mc ms hF hW hS hl hc hs
  exact lv_lconst hF.1 hF.2.1 hd (Int64.ofInt_eq_ofNat.symm) (k p e s m args below meth cd H locs ls cells slots mc ms hF hW hS hl hc hs)
theorem a_iload_n {G : j_G} {M : j_M} {pc : Nat} {lv : List (Nat × Value)} {st : List Value} {h : j_H} {c sl : Nat} {Q : j_P} {i : Fin 4} {x : Int32} (hd : decode M.2.1 pc = .ok (.iload_n i, 1)) (hg : j_get lv i = some (.int x)) (k : j_at G M (pc + 1) lv ((.int x : Value) :: st) h c sl Q) : j_at G M pc lv (st) h c sl Q := by
  intro p e s m args below meth cd H locs ls cells slots mc ms hF hW hS hl hc hs
  exact lv_iload_n hF.1 hF.2.1 hd rfl (j_at_of hl hg) (k p e s m args below meth cd H locs ls cells slots mc ms hF hW hS hl hc hs)
theorem a_aload_n {G : j_G} {M : j_M} {pc : Nat} {lv : List (Nat × Value)} {st : List Value} {h : j_H} {c sl : Nat} {Q : j_P} {i : Fin 4} {x : Nat} (hd : decode M.2.1 pc = .ok (.aload_n i, 1)) (hg : j_get lv i = some (.ref x)) (k : j_at G M (pc + 1) lv ((.ref x : Value) :: st) h c sl Q) : j_at G M pc lv (st) h c sl Q := by
  intro p e s m args below meth cd H locs ls cells slots mc ms hF hW hS hl hc hs
  exact lv_aload_n hF.1 hF.2.1 hd rfl (j_at_of hl hg) (k p e s m args below meth cd H locs ls cells slots mc ms hF hW hS hl hc hs)
theorem a_lload_n {G : j_G} {M : j_M} {pc : Nat} {lv : List (Nat × Value)} {st : List Value} {h : j_H} {c sl : Nat} {Q : j_P} {i : Fin 4} {x : Int64} (hd : decode M.2.1 pc = .ok (.lload_n i, 1)) (hg : j_get lv i = some (.long x)) (k : j_at G M (pc + 1) lv ((.long x : Value) :: st) h c sl Q) : j_at G M pc lv (st) h c sl Q := by
  intro p e s m args below meth cd H locs ls cells slots mc ms hF hW hS hl hc hs
  exact lv_lload_n hF.1 hF.2.1 hd rfl (j_at_of hl hg) (k p e s m args below meth cd H locs ls cells slots mc ms hF hW hS hl hc hs)
theorem a_aload_nN {G : j_G} {M : j_M} {pc : Nat} {lv : List (Nat × Value)} {st : List Value} {h : j_H} {c sl : Nat} {Q : j_P} {i : Fin 4}  (hd : decode M.2.1 pc = .ok (.aload_n i, 1)) (hg : j_get lv i = some (.null)) (k : j_at G M (pc + 1) lv ((.null : Value) :: st) h c sl Q) : j_at G M pc lv (st) h c sl Q := by
  intro p e s m args below meth cd H locs ls cells slots mc ms hF hW hS hl hc hs
  exact lv_aload_nN hF.1 hF.2.1 hd rfl (j_at_of hl hg) (k p e s m args below meth cd H locs ls cells slots mc ms hF hW hS hl hc hs)
theorem a_iload {G : j_G} {M : j_M} {pc : Nat} {lv : List (Nat × Value)} {st : List Value} {h : j_H} {c sl : Nat} {Q : j_P} {i : Nat} {x : Int32} (hd : decode M.2.1 pc = .ok (.iload i, 2)) (hg : j_get lv i = some (.int x)) (k : j_at G M (pc + 2) lv ((.int x : Value) :: st) h c sl Q) : j_at G M pc lv (st) h c sl Q := by
  intro p e s m args below meth cd H locs ls cells slots mc ms hF hW hS hl hc hs
  exact lv_iload hF.1 hF.2.1 hd (j_at_of hl hg) (k p e s m args below meth cd H locs ls cells slots mc ms hF hW hS hl hc hs)
theorem a_aload {G : j_G} {M : j_M} {pc : Nat} {lv : List (Nat × Value)} {st : List Value} {h : j_H} {c sl : Nat} {Q : j_P} {i : Nat} {x : Nat} (hd : decode M.2.1 pc = .ok (.aload i, 2)) (hg : j_get lv i = some (.ref x)) (k : j_at G M (pc + 2) lv ((.ref x : Value) :: st) h c sl Q) : j_at G M pc lv (st) h c sl Q := by
  intro p e s m args below meth cd H locs ls cells slots mc ms hF hW hS hl hc hs
  exact lv_aload hF.1 hF.2.1 hd (j_at_of hl hg) (k p e s m args below meth cd H locs ls cells slots mc ms hF hW hS hl hc hs)
theorem a_lload {G : j_G} {M : j_M} {pc : Nat} {lv : List (Nat × Value)} {st : List Value} {h : j_H} {c sl : Nat} {Q : j_P} {i : Nat} {x : Int64} (hd : decode M.2.1 pc = .ok (.lload i, 2)) (hg : j_get lv i = some (.long x)) (k : j_at G M (pc + 2) lv ((.long x : Value) :: st) h c sl Q) : j_at G M pc lv (st) h c sl Q := by
  intro p e s m args below meth cd H locs ls cells slots mc ms hF hW hS hl hc hs
  exact lv_lload hF.1 hF.2.1 hd (j_at_of hl hg) (k p e s m args below meth cd H locs ls cells slots mc ms hF hW hS hl hc hs)
theorem a_istore_n {G : j_G} {M : j_M} {pc : Nat} {lv : List (Nat × Value)} {st : List Value} {h : j_H} {c sl : Nat} {Q : j_P} {i : Fin 4} {x : Int32} {lv' : List (Nat × Value)} (hd : decode M.2.1 pc = .ok (.istore_n i, 1)) (hi : (i : Nat) < M.2.2.1) (hlv : j_put lv i (.int x) = lv') (k : j_at G M (pc + 1) lv' (st) h c sl Q) : j_at G M pc lv ((.int x : Value) :: st) h c sl Q := by
  intro p e s m args below meth cd H locs ls cells slots mc ms hF hW hS hl hc hs
  exact lv_istore_n hF.1 hF.2.1 hd rfl hl hi (j_lv_filter (v := .int x)) (fun ls' hl' => k p e s m args below meth cd H locs ls' cells slots mc ms hF hW hS (hlv ▸ j_has_sub hl' j_put_sub) hc hs)
theorem a_astore_n {G : j_G} {M : j_M} {pc : Nat} {lv : List (Nat × Value)} {st : List Value} {h : j_H} {c sl : Nat} {Q : j_P} {i : Fin 4} {x : Nat} {lv' : List (Nat × Value)} (hd : decode M.2.1 pc = .ok (.astore_n i, 1)) (hi : (i : Nat) < M.2.2.1) (hlv : j_put lv i (.ref x) = lv') (k : j_at G M (pc + 1) lv' (st) h c sl Q) : j_at G M pc lv ((.ref x : Value) :: st) h c sl Q := by
  intro p e s m args below meth cd H locs ls cells slots mc ms hF hW hS hl hc hs
  exact lv_astore_n hF.1 hF.2.1 hd rfl hl hi (j_lv_filter (v := .ref x)) (fun ls' hl' => k p e s m args below meth cd H locs ls' cells slots mc ms hF hW hS (hlv ▸ j_has_sub hl' j_put_sub) hc hs)
theorem a_astore_nN {G : j_G} {M : j_M} {pc : Nat} {lv : List (Nat × Value)} {st : List Value} {h : j_H} {c sl : Nat} {Q : j_P} {i : Fin 4}  {lv' : List (Nat × Value)} (hd : decode M.2.1 pc = .ok (.astore_n i, 1)) (hi : (i : Nat) < M.2.2.1) (hlv : j_put lv i (.null) = lv') (k : j_at G M (pc + 1) lv' (st) h c sl Q) : j_at G M pc lv ((.null : Value) :: st) h c sl Q := by
  intro p e s m args below meth cd H locs ls cells slots mc ms hF hW hS hl hc hs
  exact lv_astore_nN hF.1 hF.2.1 hd rfl hl hi (j_lv_filter (v := .null)) (fun ls' hl' => k p e s m args below meth cd H locs ls' cells slots mc ms hF hW hS (hlv ▸ j_has_sub hl' j_put_sub) hc hs)
theorem a_istore {G : j_G} {M : j_M} {pc : Nat} {lv : List (Nat × Value)} {st : List Value} {h : j_H} {c sl : Nat} {Q : j_P} {i : Nat} {x : Int32} {lv' : List (Nat × Value)} (hd : decode M.2.1 pc = .ok (.istore i, 2)) (hi : (i : Nat) < M.2.2.1) (hlv : j_put lv i (.int x) = lv') (k : j_at G M (pc + 2) lv' (st) h c sl Q) : j_at G M pc lv ((.int x : Value) :: st) h c sl Q := by
  intro p e s m args below meth cd H locs ls cells slots mc ms hF hW hS hl hc hs
  exact lv_istore hF.1 hF.2.1 hd hl hi (j_lv_filter (v := .int x)) (fun ls' hl' => k p e s m args below meth cd H locs ls' cells slots mc ms hF hW hS (hlv ▸ j_has_sub hl' j_put_sub) hc hs)
theorem a_astore {G : j_G} {M : j_M} {pc : Nat} {lv : List (Nat × Value)} {st : List Value} {h : j_H} {c sl : Nat} {Q : j_P} {i : Nat} {x : Nat} {lv' : List (Nat × Value)} (hd : decode M.2.1 pc = .ok (.astore i, 2)) (hi : (i : Nat) < M.2.2.1) (hlv : j_put lv i (.ref x) = lv') (k : j_at G M (pc + 2) lv' (st) h c sl Q) : j_at G M pc lv ((.ref x : Value) :: st) h c sl Q := by
  intro p e s m args below meth cd H locs ls cells slots mc ms hF hW hS hl hc hs
  exact lv_astore hF.1 hF.2.1 hd hl hi (j_lv_filter (v := .ref x)) (fun ls' hl' => k p e s m args below meth cd H locs ls' cells slots mc ms hF hW hS (hlv ▸ j_has_sub hl' j_put_sub) hc hs)
theorem a_lstore {G : j_G} {M : j_M} {pc : Nat} {lv : List (Nat × Value)} {st : List Value} {h : j_H} {c sl : Nat} {Q : j_P} {i : Nat} {x : Int64} {lv' : List (Nat × Value)} (hd : decode M.2.1 pc = .ok (.lstore i, 2)) (hi : (i : Nat) + 1 < M.2.2.1) (hlv : j_put2 lv i (.long x) = lv') (k : j_at G M (pc + 2) lv' (st) h c sl Q) : j_at G M pc lv ((.long x : Value) :: st) h c sl Q := by
  intro p e s m args below meth cd H locs ls cells slots mc ms hF hW hS hl hc hs
  exact lv_lstore hF.1 hF.2.1 hd hl hi (j_lv_filter2 (v := .long x)) (fun ls' hl' => k p e s m args below meth cd H locs ls' cells slots mc ms hF hW hS (hlv ▸ j_has_sub hl' j_put2_sub) hc hs)
theorem a_iinc {G : j_G} {M : j_M} {pc : Nat} {lv : List (Nat × Value)} {st : List Value} {h : j_H} {c sl : Nat} {Q : j_P} {i : Nat} {n x : Int} {lv' : List (Nat × Value)} (hd : decode M.2.1 pc = .ok (.iinc i n, 3)) (hg : j_get lv i = some (j_i x)) (hi : i < M.2.2.1) (hlv : j_put lv i (j_i (x + n)) = lv') (k : j_at G M (pc + 3) lv' (st) h c sl Q) : j_at G M pc lv (st) h c sl Q := by
  intro p e s m args below meth cd H locs ls cells slots mc ms hF hW hS hl hc hs
  obtain ⟨q, hq⟩ : ∃ q : Nat, (j_lv G lv)[q]? = some (i, .int (Int32.ofInt x)) := by
    unfold j_get at hg
    cases hf : lv.find? (fun q => q.1 == i) with
    | none => rw [hf] at hg; cases hg
    | some q =>
      rw [hf] at hg
      have h1 := List.mem_of_find?_eq_some hf
      have h2 := List.find?_some hf
      have h3 : q.1 = i := by simpa using h2
      have h4 : q.2 = j_i x := Option.some.inj hg
      have h5 : (i, .int (Int32.ofInt x)) ∈ j_lv G lv := List.mem_map.mpr ⟨q, h1, by rw [h3, h4]; rfl⟩
      exact List.getElem?_of_mem h5
  exact lv_iinc (v := Int32.ofInt (x + n)) hF.1 hF.2.1 hd hl (k := q) hq (j_add x n).symm hi (j_lv_filter (v := j_i (x + n))) (fun ls' hl' => k p e s m args below meth cd H locs ls' cells slots mc ms hF hW hS (hlv ▸ j_has_sub hl' j_put_sub) hc hs)
theorem a_iadd {G : j_G} {M : j_M} {pc : Nat} {lv : List (Nat × Value)} {st : List Value} {h : j_H} {c sl : Nat} {Q : j_P} {x y : Int} (hd : decode M.2.1 pc = .ok (.iadd, 1)) (k : j_at G M (pc + 1) lv (j_i (x + y) :: st) h c sl Q) : j_at G M pc lv (j_i y :: j_i x :: st) h c sl Q := by
  intro p e s m args below meth cd H locs ls cells slots mc ms hF hW hS hl hc hs
  refine lv_iadd hF.1 hF.2.1 hd ?_
  rw [← j_add]
  exact k p e s m args below meth cd H locs ls cells slots mc ms hF hW hS hl hc hs
theorem a_isub {G : j_G} {M : j_M} {pc : Nat} {lv : List (Nat × Value)} {st : List Value} {h : j_H} {c sl : Nat} {Q : j_P} {x y : Int} (hd : decode M.2.1 pc = .ok (.isub, 1)) (k : j_at G M (pc + 1) lv (j_i (x - y) :: st) h c sl Q) : j_at G M pc lv (j_i y :: j_i x :: st) h c sl Q := by
  intro p e s m args below meth cd H locs ls cells slots mc ms hF hW hS hl hc hs
  refine lv_isub hF.1 hF.2.1 hd ?_
  rw [← j_sub]
  exact k p e s m args below meth cd H locs ls cells slots mc ms hF hW hS hl hc hs
theorem a_imul {G : j_G} {M : j_M} {pc : Nat} {lv : List (Nat × Value)} {st : List Value} {h : j_H} {c sl : Nat} {Q : j_P} {x y : Int} (hd : decode M.2.1 pc = .ok (.imul, 1)) (k : j_at G M (pc + 1) lv (j_i (x * y) :: st) h c sl Q) : j_at G M pc lv (j_i y :: j_i x :: st) h c sl Q := by
  intro p e s m args below meth cd H locs ls cells slots mc ms hF hW hS hl hc hs
  refine lv_imul hF.1 hF.2.1 hd ?_
  rw [← j_mul]
  exact k p e s m args below meth cd H locs ls cells slots mc ms hF hW hS hl hc hs
theorem j_div {x y : Int} (hx : 0 ≤ x ∧ x ≤ 2147483647) (hy : 0 < y ∧ y ≤ 2147483647) : Int32.ofInt x / Int32.ofInt y = Int32.ofInt (x / y) := by
  have h1 : 0 ≤ x / y := Int.ediv_nonneg hx.1 (by omega)
  have h2 : x / y ≤ x := Int.ediv_le_self _ hx.1
  obtain ⟨a, rfl⟩ : ∃ a : Nat, x = a := ⟨x.toNat, by omega⟩
  obtain ⟨b, rfl⟩ : ∃ b : Nat, y = b := ⟨y.toNat, by omega⟩
  have e := pk_div (a := a) (d := b) (by omega) (by omega) (by omega)
  have c1 : ∀ n : Nat, nI n = Int32.ofInt (n : Int) := fun n => (Int32.ofInt_eq_ofNat ..).symm
  rw [c1, c1, c1] at e
  rw [e]
  rfl
theorem j_rem {x y : Int} (hx : 0 ≤ x ∧ x ≤ 2147483647) (hy : 0 < y ∧ y ≤ 2147483647) : Int32.ofInt x - Int32.ofInt x / Int32.ofInt y * Int32.ofInt y = Int32.ofInt (x % y) := by
  rw [j_div hx hy, ← j_mul, ← j_sub]
  congr 1
  rw [Int.mul_comm]
  have := Int.mul_ediv_add_emod x y
  omega
theorem a_idiv {G : j_G} {M : j_M} {pc : Nat} {lv : List (Nat × Value)} {st : List Value} {h : j_H} {c sl : Nat} {Q : j_P} {x y : Int} (hd : decode M.2.1 pc = .ok (.idiv, 1)) (hx : 0 ≤ x ∧ x ≤ 2147483647) (hy : 0 < y ∧ y ≤ 2147483647) (k : j_at G M (pc + 1) lv (j_i (x / y) :: st) h c sl Q) : j_at G M pc lv (j_i y :: j_i x :: st) h c sl Q := by
  intro p e s m args below meth cd H locs ls cells slots mc ms hF hW hS hl hc hs
  refine lv_idiv hF.1 hF.2.1 hd (by rw [j_0, j_eq (by omega) (by omega)]; omega) ?_
  rw [j_div hx hy]
  exact k p e s m args below meth cd H locs ls cells slots mc ms hF hW hS hl hc hs
theorem a_irem {G : j_G} {M : j_M} {pc : Nat} {lv : List (Nat × Value)} {st : List Value} {h : j_H} {c sl : Nat} {Q : j_P} {x y : Int} (hd : decode M.2.1 pc = .ok (.irem, 1)) (hx : 0 ≤ x ∧ x ≤ 2147483647) (hy : 0 < y ∧ y ≤ 2147483647) (k : j_at G M (pc + 1) lv (j_i (x % y) :: st) h c sl Q) : j_at G M pc lv (j_i y :: j_i x :: st) h c sl Q := by
  intro p e s m args below meth cd H locs ls cells slots mc ms hF hW hS hl hc hs
  refine lv_irem hF.1 hF.2.1 hd (by rw [j_0, j_eq (by omega) (by omega)]; omega) ?_
  rw [j_rem hx hy]
  exact k p e s m args below meth cd H locs ls cells slots mc ms hF hW hS hl hc hs
theorem a_ladd {G : j_G} {M : j_M} {pc : Nat} {lv : List (Nat × Value)} {st : List Value} {h : j_H} {c sl : Nat} {Q : j_P} {x y : Int} (hd : decode M.2.1 pc = .ok (.ladd, 1)) (k : j_at G M (pc + 1) lv (j_l (x + y) :: st) h c sl Q) : j_at G M pc lv (j_l y :: j_l x :: st) h c sl Q := by
  intro p e s m args below meth cd H locs ls cells slots mc ms hF hW hS hl hc hs
  refine lv_ladd hF.1 hF.2.1 hd ?_
  rw [← Int64.ofInt_add]
  exact k p e s m args below meth cd H locs ls cells slots mc ms hF hW hS hl hc hs
theorem a_lsub {G : j_G} {M : j_M} {pc : Nat} {lv : List (Nat × Value)} {st : List Value} {h : j_H} {c sl : Nat} {Q : j_P} {x y : Int} (hd : decode M.2.1 pc = .ok (.lsub, 1)) (k : j_at G M (pc + 1) lv (j_l (x - y) :: st) h c sl Q) : j_at G M pc lv (j_l y :: j_l x :: st) h c sl Q := by
  intro p e s m args below meth cd H locs ls cells slots mc ms hF hW hS hl hc hs
  refine lv_lsub hF.1 hF.2.1 hd ?_
  rw [← Int64.ofInt_sub]
  exact k p e s m args below meth cd H locs ls cells slots mc ms hF hW hS hl hc hs
theorem a_lmul {G : j_G} {M : j_M} {pc : Nat} {lv : List (Nat × Value)} {st : List Value} {h : j_H} {c sl : Nat} {Q : j_P} {x y : Int} (hd : decode M.2.1 pc = .ok (.lmul, 1)) (k : j_at G M (pc + 1) lv (j_l (x * y) :: st) h c sl Q) : j_at G M pc lv (j_l y :: j_l x :: st) h c sl Q := by
  intro p e s m args below meth cd H locs ls cells slots mc ms hF hW hS hl hc hs
  refine lv_lmul hF.1 hF.2.1 hd ?_
  rw [← Int64.ofInt_mul]
  exact k p e s m args below meth cd H locs ls cells slots mc ms hF hW hS hl hc hs
theorem a_iand {G : j_G} {M : j_M} {pc : Nat} {lv : List (Nat × Value)} {st : List Value} {h : j_H} {c sl : Nat} {Q : j_P} {x y : Int32} (hd : decode M.2.1 pc = .ok (.iand, 1)) (k : j_at G M (pc + 1) lv (.int (x &&& y) :: st) h c sl Q) : j_at G M pc lv (.int y :: .int x :: st) h c sl Q := by
  intro p e s m args below meth cd H locs ls cells slots mc ms hF hW hS hl hc hs
  exact lv_iand hF.1 hF.2.1 hd (k p e s m args below meth cd H locs ls cells slots mc ms hF hW hS hl hc hs)
theorem a_ior {G : j_G} {M : j_M} {pc : Nat} {lv : List (Nat × Value)} {st : List Value} {h : j_H} {c sl : Nat} {Q : j_P} {x y : Int32} (hd : decode M.2.1 pc = .ok (.ior, 1)) (k : j_at G M (pc + 1) lv (.int (x ||| y) :: st) h c sl Q) : j_at G M pc lv (.int y :: .int x :: st) h c sl Q := by
  intro p e s m args below meth cd H locs ls cells slots mc ms hF hW hS hl hc hs
  exact lv_ior hF.1 hF.2.1 hd (k p e s m args below meth cd H locs ls cells slots mc ms hF hW hS hl hc hs)
theorem a_land {G : j_G} {M : j_M} {pc : Nat} {lv : List (Nat × Value)} {st : List Value} {h : j_H} {c sl : Nat} {Q : j_P} {x y : Int64} (hd : decode M.2.1 pc = .ok (.land, 1)) (k : j_at G M (pc + 1) lv (.long (x &&& y) :: st) h c sl Q) : j_at G M pc lv (.long y :: .long x :: st) h c sl Q := by
  intro p e s m args below meth cd H locs ls cells slots mc ms hF hW hS hl hc hs
  exact lv_land hF.1 hF.2.1 hd (k p e s m args below meth cd H locs ls cells slots mc ms hF hW hS hl hc hs)
theorem a_lor {G : j_G} {M : j_M} {pc : Nat} {lv : List (Nat × Value)} {st : List Value} {h : j_H} {c sl : Nat} {Q : j_P} {x y : Int64} (hd : decode M.2.1 pc = .ok (.lor, 1)) (k : j_at G M (pc + 1) lv (.long (x ||| y) :: st) h c sl Q) : j_at G M pc lv (.long y :: .long x :: st) h c sl Q := by
  intro p e s m args below meth cd H locs ls cells slots mc ms hF hW hS hl hc hs
  exact lv_lor hF.1 hF.2.1 hd (k p e s m args below meth cd H locs ls cells slots mc ms hF hW hS hl hc hs)
theorem a_i2l {G : j_G} {M : j_M} {pc : Nat} {lv : List (Nat × Value)} {st : List Value} {h : j_H} {c sl : Nat} {Q : j_P} {x : Int32} {v : Int64} (hd : decode M.2.1 pc = .ok (.i2l, 1)) (hv : x.toInt64 = v) (k : j_at G M (pc + 1) lv (.long v :: st) h c sl Q) : j_at G M pc lv (.int x :: st) h c sl Q := by
  intro p e s m args below meth cd H locs ls cells slots mc ms hF hW hS hl hc hs
  exact lv_i2l hF.1 hF.2.1 hd hv (k p e s m args below meth cd H locs ls cells slots mc ms hF hW hS hl hc hs)
theorem a_l2i {G : j_G} {M : j_M} {pc : Nat} {lv : List (Nat × Value)} {st : List Value} {h : j_H} {c sl : Nat} {Q : j_P} {x : Int64} {v : Int32} (hd : decode M.2.1 pc = .ok (.l2i, 1)) (hv : x.toInt32 = v) (k : j_at G M (pc + 1) lv (.int v :: st) h c sl Q) : j_at G M pc lv (.long x :: st) h c sl Q := by
  intro p e s m args below meth cd H locs ls cells slots mc ms hF hW hS hl hc hs
  exact lv_l2i hF.1 hF.2.1 hd hv (k p e s m args below meth cd H locs ls cells slots mc ms hF hW hS hl hc hs)
theorem a_i2b {G : j_G} {M : j_M} {pc : Nat} {lv : List (Nat × Value)} {st : List Value} {h : j_H} {c sl : Nat} {Q : j_P} {x v : Int32} (hd : decode M.2.1 pc = .ok (.i2b, 1)) (hv : x.toInt8.toInt32 = v) (k : j_at G M (pc + 1) lv (.int v :: st) h c sl Q) : j_at G M pc lv (.int x :: st) h c sl Q := by
  intro p e s m args below meth cd H locs ls cells slots mc ms hF hW hS hl hc hs
  exact lv_i2b hF.1 hF.2.1 hd hv (k p e s m args below meth cd H locs ls cells slots mc ms hF hW hS hl hc hs)
theorem a_lushr {G : j_G} {M : j_M} {pc : Nat} {lv : List (Nat × Value)} {st : List Value} {h : j_H} {c sl : Nat} {Q : j_P} {x v : Int64} {y : Int32} (hd : decode M.2.1 pc = .ok (.lushr, 1)) (hv : (x.toUInt64 >>> (y.toInt64.toUInt64 &&& Int64.toUInt64 63)).toInt64 = v) (k : j_at G M (pc + 1) lv (.long v :: st) h c sl Q) : j_at G M pc lv (.int y :: .long x :: st) h c sl Q := by
  intro p e s m args below meth cd H locs ls cells slots mc ms hF hW hS hl hc hs
  exact lv_lushr hF.1 hF.2.1 hd hv (k p e s m args below meth cd H locs ls cells slots mc ms hF hW hS hl hc hs)
theorem a_lshl {G : j_G} {M : j_M} {pc : Nat} {lv : List (Nat × Value)} {st : List Value} {h : j_H} {c sl : Nat} {Q : j_P} {x v : Int64} {y : Int32} (hd : decode M.2.1 pc = .ok (.lshl, 1)) (hv : x <<< (y.toInt64 &&& 63) = v) (k : j_at G M (pc + 1) lv (.long v :: st) h c sl Q) : j_at G M pc lv (.int y :: .long x :: st) h c sl Q := by
  intro p e s m args below meth cd H locs ls cells slots mc ms hF hW hS hl hc hs
  exact lv_lshl hF.1 hF.2.1 hd hv (k p e s m args below meth cd H locs ls cells slots mc ms hF hW hS hl hc hs)
theorem a_lcmp {G : j_G} {M : j_M} {pc : Nat} {lv : List (Nat × Value)} {st : List Value} {h : j_H} {c sl : Nat} {Q : j_P} {x y : Int} (hd : decode M.2.1 pc = .ok (.lcmp, 1)) (hx : -9223372036854775808 ≤ x ∧ x ≤ 9223372036854775807) (hy : -9223372036854775808 ≤ y ∧ y ≤ 9223372036854775807) (k : j_at G M (pc + 1) lv (j_i (if x < y then -1 else if x = y then 0 else 1) :: st) h c sl Q) : j_at G M pc lv (j_l y :: j_l x :: st) h c sl Q := by
  intro p e s m args below meth cd H locs ls cells slots mc ms hF hW hS hl hc hs
  refine W.lcmp hF.1 hF.2.1 hd ?_
  have e9 : lg_cmp (Int64.ofInt x) (Int64.ofInt y) = Int32.ofInt (if x < y then -1 else if x = y then 0 else 1) := by
    unfold lg_cmp
    simp only [gt_iff_lt, Int64.lt_iff_toInt_lt, ← Int64.toInt_inj, j_lti hx, j_lti hy]
    by_cases h1 : x < y
    · rw [if_neg (by omega), if_neg (by omega), if_pos h1]; rfl
    · by_cases h2 : x = y
      · rw [if_neg (by omega), if_pos h2, if_neg h1, if_pos h2]; rfl
      · rw [if_pos (by omega), if_neg h1, if_neg h2]; rfl
  rw [e9]
  exact k p e s m args below meth cd H locs ls cells slots mc ms hF hW hS hl hc hs
theorem a_dup {G : j_G} {M : j_M} {pc : Nat} {lv : List (Nat × Value)} {st : List Value} {h : j_H} {c sl : Nat} {Q : j_P} {v : Value} (hd : decode M.2.1 pc = .ok (.dup, 1)) (hv : v.category = 1) (k : j_at G M (pc + 1) lv (v :: v :: st) h c sl Q) : j_at G M pc lv (v :: st) h c sl Q := by
  intro p e s m args below meth cd H locs ls cells slots mc ms hF hW hS hl hc hs
  exact lv_dup hF.1 hF.2.1 hd (by rw [j_cv_cat]; exact hv) (k p e s m args below meth cd H locs ls cells slots mc ms hF hW hS hl hc hs)
theorem a_dup2 {G : j_G} {M : j_M} {pc : Nat} {lv : List (Nat × Value)} {st : List Value} {h : j_H} {c sl : Nat} {Q : j_P} {v w : Value} (hd : decode M.2.1 pc = .ok (.dup2, 1)) (hv : v.category = 1) (hw : w.category = 1) (k : j_at G M (pc + 1) lv (v :: w :: v :: w :: st) h c sl Q) : j_at G M pc lv (v :: w :: st) h c sl Q := by
  intro p e s m args below meth cd H locs ls cells slots mc ms hF hW hS hl hc hs
  exact lv_dup2_11 hF.1 hF.2.1 hd (by rw [j_cv_cat]; exact hv) (by rw [j_cv_cat]; exact hw) (k p e s m args below meth cd H locs ls cells slots mc ms hF hW hS hl hc hs)
theorem a_goto {G : j_G} {M : j_M} {pc : Nat} {lv : List (Nat × Value)} {st : List Value} {h : j_H} {c sl : Nat} {Q : j_P} {off : Int} {tgt : Nat} (hd : decode M.2.1 pc = .ok (.goto off, 3)) (ht : (pc : Int) + off = (tgt : Int)) (k : j_at G M (tgt) lv (st) h c sl Q) : j_at G M pc lv (st) h c sl Q := by
  intro p e s m args below meth cd H locs ls cells slots mc ms hF hW hS hl hc hs
  exact lv_goto hF.1 hF.2.1 hd ht (k p e s m args below meth cd H locs ls cells slots mc ms hF hW hS hl hc hs)
theorem a_if_eq {G : j_G} {M : j_M} {pc : Nat} {lv : List (Nat × Value)} {st : List Value} {h : j_H} {c sl : Nat} {Q : j_P} {x off : Int} {tgt : Nat} (hd : decode M.2.1 pc = .ok (.ifCond .eq off, 3)) (ht : (pc : Int) + off = (tgt : Int)) (hx : -2147483648 ≤ x ∧ x ≤ 2147483647) (kt : x = 0 → j_at G M tgt lv st h c sl Q) (kf : x ≠ 0 → j_at G M (pc + 3) lv st h c sl Q) : j_at G M pc lv (j_i x :: st) h c sl Q := by
  intro p e s m args below meth cd H locs ls cells slots mc ms hF hW hS hl hc hs
  exact lv_if_eq hF.1 hF.2.1 hd ht (fun z => kt ((j_eq0 hx).mp z) p e s m args below meth cd H locs ls cells slots mc ms hF hW hS hl hc hs) (fun z => kf (fun q => z ((j_eq0 hx).mpr q)) p e s m args below meth cd H locs ls cells slots mc ms hF hW hS hl hc hs)
theorem a_if_ne {G : j_G} {M : j_M} {pc : Nat} {lv : List (Nat × Value)} {st : List Value} {h : j_H} {c sl : Nat} {Q : j_P} {x off : Int} {tgt : Nat} (hd : decode M.2.1 pc = .ok (.ifCond .ne off, 3)) (ht : (pc : Int) + off = (tgt : Int)) (hx : -2147483648 ≤ x ∧ x ≤ 2147483647) (kt : x ≠ 0 → j_at G M tgt lv st h c sl Q) (kf : x = 0 → j_at G M (pc + 3) lv st h c sl Q) : j_at G M pc lv (j_i x :: st) h c sl Q := by
  intro p e s m args below meth cd H locs ls cells slots mc ms hF hW hS hl hc hs
  exact lv_if_ne hF.1 hF.2.1 hd ht (fun z => kt (fun q => z ((j_eq0 hx).mpr q)) p e s m args below meth cd H locs ls cells slots mc ms hF hW hS hl hc hs) (fun z => kf ((j_eq0 hx).mp z) p e s m args below meth cd H locs ls cells slots mc ms hF hW hS hl hc hs)
theorem a_if_lt {G : j_G} {M : j_M} {pc : Nat} {lv : List (Nat × Value)} {st : List Value} {h : j_H} {c sl : Nat} {Q : j_P} {x off : Int} {tgt : Nat} (hd : decode M.2.1 pc = .ok (.ifCond .lt off, 3)) (ht : (pc : Int) + off = (tgt : Int)) (hx : -2147483648 ≤ x ∧ x ≤ 2147483647) (kt : x < 0 → j_at G M tgt lv st h c sl Q) (kf : 0 ≤ x → j_at G M (pc + 3) lv st h c sl Q) : j_at G M pc lv (j_i x :: st) h c sl Q := by
  intro p e s m args below meth cd H locs ls cells slots mc ms hF hW hS hl hc hs
  exact lv_if_lt hF.1 hF.2.1 hd ht (fun z => kt ((j_lt0 hx).mp z) p e s m args below meth cd H locs ls cells slots mc ms hF hW hS hl hc hs) (fun z => kf (by have : ¬ (x < 0) := fun q => z ((j_lt0 hx).mpr q); omega) p e s m args below meth cd H locs ls cells slots mc ms hF hW hS hl hc hs)
theorem a_if_ge {G : j_G} {M : j_M} {pc : Nat} {lv : List (Nat × Value)} {st : List Value} {h : j_H} {c sl : Nat} {Q : j_P} {x off : Int} {tgt : Nat} (hd : decode M.2.1 pc = .ok (.ifCond .ge off, 3)) (ht : (pc : Int) + off = (tgt : Int)) (hx : -2147483648 ≤ x ∧ x ≤ 2147483647) (kt : 0 ≤ x → j_at G M tgt lv st h c sl Q) (kf : x < 0 → j_at G M (pc + 3) lv st h c sl Q) : j_at G M pc lv (j_i x :: st) h c sl Q := by
  intro p e s m args below meth cd H locs ls cells slots mc ms hF hW hS hl hc hs
  exact lv_if_ge hF.1 hF.2.1 hd ht (fun z => kt ((j_ge0 hx).mp z) p e s m args below meth cd H locs ls cells slots mc ms hF hW hS hl hc hs) (fun z => kf (by have : ¬ (0 ≤ x) := fun q => z ((j_ge0 hx).mpr q); omega) p e s m args below meth cd H locs ls cells slots mc ms hF hW hS hl hc hs)
theorem a_if_gt {G : j_G} {M : j_M} {pc : Nat} {lv : List (Nat × Value)} {st : List Value} {h : j_H} {c sl : Nat} {Q : j_P} {x off : Int} {tgt : Nat} (hd : decode M.2.1 pc = .ok (.ifCond .gt off, 3)) (ht : (pc : Int) + off = (tgt : Int)) (hx : -2147483648 ≤ x ∧ x ≤ 2147483647) (kt : 0 < x → j_at G M tgt lv st h c sl Q) (kf : x ≤ 0 → j_at G M (pc + 3) lv st h c sl Q) : j_at G M pc lv (j_i x :: st) h c sl Q := by
  intro p e s m args below meth cd H locs ls cells slots mc ms hF hW hS hl hc hs
  exact lv_if_gt hF.1 hF.2.1 hd ht (fun z => kt ((j_gt0 hx).mp z) p e s m args below meth cd H locs ls cells slots mc ms hF hW hS hl hc hs) (fun z => kf (by have : ¬ (0 < x) := fun q => z ((j_gt0 hx).mpr q); omega) p e s m args below meth cd H locs ls cells slots mc ms hF hW hS hl hc hs)
theorem a_if_le {G : j_G} {M : j_M} {pc : Nat} {lv : List (Nat × Value)} {st : List Value} {h : j_H} {c sl : Nat} {Q : j_P} {x off : Int} {tgt : Nat} (hd : decode M.2.1 pc = .ok (.ifCond .le off, 3)) (ht : (pc : Int) + off = (tgt : Int)) (hx : -2147483648 ≤ x ∧ x ≤ 2147483647) (kt : x ≤ 0 → j_at G M tgt lv st h c sl Q) (kf : 0 < x → j_at G M (pc + 3) lv st h c sl Q) : j_at G M pc lv (j_i x :: st) h c sl Q := by
  intro p e s m args below meth cd H locs ls cells slots mc ms hF hW hS hl hc hs
  exact lv_if_le hF.1 hF.2.1 hd ht (fun z => kt ((j_le0 hx).mp z) p e s m args below meth cd H locs ls cells slots mc ms hF hW hS hl hc hs) (fun z => kf (by have : ¬ (x ≤ 0) := fun q => z ((j_le0 hx).mpr q); omega) p e s m args below meth cd H locs ls cells slots mc ms hF hW hS hl hc hs)
theorem a_icmp_eq {G : j_G} {M : j_M} {pc : Nat} {lv : List (Nat × Value)} {st : List Value} {h : j_H} {c sl : Nat} {Q : j_P} {x y off : Int} {tgt : Nat} (hd : decode M.2.1 pc = .ok (.if_icmp .eq off, 3)) (ht : (pc : Int) + off = (tgt : Int)) (hx : -2147483648 ≤ x ∧ x ≤ 2147483647) (hy : -2147483648 ≤ y ∧ y ≤ 2147483647) (kt : x = y → j_at G M tgt lv st h c sl Q) (kf : x ≠ y → j_at G M (pc + 3) lv st h c sl Q) : j_at G M pc lv (j_i y :: j_i x :: st) h c sl Q := by
  intro p e s m args below meth cd H locs ls cells slots mc ms hF hW hS hl hc hs
  exact lv_icmp_eq hF.1 hF.2.1 hd ht (fun z => kt ((j_eq hx hy).mp z) p e s m args below meth cd H locs ls cells slots mc ms hF hW hS hl hc hs) (fun z => kf (fun q => z ((j_eq hx hy).mpr q)) p e s m args below meth cd H locs ls cells slots mc ms hF hW hS hl hc hs)
theorem a_icmp_ne {G : j_G} {M : j_M} {pc : Nat} {lv : List (Nat × Value)} {st : List Value} {h : j_H} {c sl : Nat} {Q : j_P} {x y off : Int} {tgt : Nat} (hd : decode M.2.1 pc = .ok (.if_icmp .ne off, 3)) (ht : (pc : Int) + off = (tgt : Int)) (hx : -2147483648 ≤ x ∧ x ≤ 2147483647) (hy : -2147483648 ≤ y ∧ y ≤ 2147483647) (kt : x ≠ y → j_at G M tgt lv st h c sl Q) (kf : x = y → j_at G M (pc + 3) lv st h c sl Q) : j_at G M pc lv (j_i y :: j_i x :: st) h c sl Q := by
  intro p e s m args below meth cd H locs ls cells slots mc ms hF hW hS hl hc hs
  exact lv_icmp_ne hF.1 hF.2.1 hd ht (fun z => kt (fun q => z ((j_eq hx hy).mpr q)) p e s m args below meth cd H locs ls cells slots mc ms hF hW hS hl hc hs) (fun z => kf ((j_eq hx hy).mp z) p e s m args below meth cd H locs ls cells slots mc ms hF hW hS hl hc hs)
theorem a_icmp_lt {G : j_G} {M : j_M} {pc : Nat} {lv : List (Nat × Value)} {st : List Value} {h : j_H} {c sl : Nat} {Q : j_P} {x y off : Int} {tgt : Nat} (hd : decode M.2.1 pc = .ok (.if_icmp .lt off, 3)) (ht : (pc : Int) + off = (tgt : Int)) (hx : -2147483648 ≤ x ∧ x ≤ 2147483647) (hy : -2147483648 ≤ y ∧ y ≤ 2147483647) (kt : x < y → j_at G M tgt lv st h c sl Q) (kf : y ≤ x → j_at G M (pc + 3) lv st h c sl Q) : j_at G M pc lv (j_i y :: j_i x :: st) h c sl Q := by
  intro p e s m args below meth cd H locs ls cells slots mc ms hF hW hS hl hc hs
  exact lv_icmp_lt hF.1 hF.2.1 hd ht (fun z => kt ((j_lt hx hy).mp z) p e s m args below meth cd H locs ls cells slots mc ms hF hW hS hl hc hs) (fun z => kf (by have : ¬ (x < y) := fun q => z ((j_lt hx hy).mpr q); omega) p e s m args below meth cd H locs ls cells slots mc ms hF hW hS hl hc hs)
theorem a_icmp_ge {G : j_G} {M : j_M} {pc : Nat} {lv : List (Nat × Value)} {st : List Value} {h : j_H} {c sl : Nat} {Q : j_P} {x y off : Int} {tgt : Nat} (hd : decode M.2.1 pc = .ok (.if_icmp .ge off, 3)) (ht : (pc : Int) + off = (tgt : Int)) (hx : -2147483648 ≤ x ∧ x ≤ 2147483647) (hy : -2147483648 ≤ y ∧ y ≤ 2147483647) (kt : y ≤ x → j_at G M tgt lv st h c sl Q) (kf : x < y → j_at G M (pc + 3) lv st h c sl Q) : j_at G M pc lv (j_i y :: j_i x :: st) h c sl Q := by
  intro p e s m args below meth cd H locs ls cells slots mc ms hF hW hS hl hc hs
  exact lv_icmp_ge hF.1 hF.2.1 hd ht (fun z => kt ((j_le hy hx).mp z) p e s m args below meth cd H locs ls cells slots mc ms hF hW hS hl hc hs) (fun z => kf (by have : ¬ (y ≤ x) := fun q => z ((j_le hy hx).mpr q); omega) p e s m args below meth cd H locs ls cells slots mc ms hF hW hS hl hc hs)
theorem a_icmp_gt {G : j_G} {M : j_M} {pc : Nat} {lv : List (Nat × Value)} {st : List Value} {h : j_H} {c sl : Nat} {Q : j_P} {x y off : Int} {tgt : Nat} (hd : decode M.2.1 pc = .ok (.if_icmp .gt off, 3)) (ht : (pc : Int) + off = (tgt : Int)) (hx : -2147483648 ≤ x ∧ x ≤ 2147483647) (hy : -2147483648 ≤ y ∧ y ≤ 2147483647) (kt : y < x → j_at G M tgt lv st h c sl Q) (kf : x ≤ y → j_at G M (pc + 3) lv st h c sl Q) : j_at G M pc lv (j_i y :: j_i x :: st) h c sl Q := by
  intro p e s m args below meth cd H locs ls cells slots mc ms hF hW hS hl hc hs
  exact lv_icmp_gt hF.1 hF.2.1 hd ht (fun z => kt ((j_lt hy hx).mp z) p e s m args below meth cd H locs ls cells slots mc ms hF hW hS hl hc hs) (fun z => kf (by have : ¬ (y < x) := fun q => z ((j_lt hy hx).mpr q); omega) p e s m args below meth cd H locs ls cells slots mc ms hF hW hS hl hc hs)
theorem a_icmp_le {G : j_G} {M : j_M} {pc : Nat} {lv : List (Nat × Value)} {st : List Value} {h : j_H} {c sl : Nat} {Q : j_P} {x y off : Int} {tgt : Nat} (hd : decode M.2.1 pc = .ok (.if_icmp .le off, 3)) (ht : (pc : Int) + off = (tgt : Int)) (hx : -2147483648 ≤ x ∧ x ≤ 2147483647) (hy : -2147483648 ≤ y ∧ y ≤ 2147483647) (kt : x ≤ y → j_at G M tgt lv st h c sl Q) (kf : y < x → j_at G M (pc + 3) lv st h c sl Q) : j_at G M pc lv (j_i y :: j_i x :: st) h c sl Q := by
  intro p e s m args below meth cd H locs ls cells slots mc ms hF hW hS hl hc hs
  exact lv_icmp_le hF.1 hF.2.1 hd ht (fun z => kt ((j_le hx hy).mp z) p e s m args below meth cd H locs ls cells slots mc ms hF hW hS hl hc hs) (fun z => kf (by have : ¬ (x ≤ y) := fun q => z ((j_le hx hy).mpr q); omega) p e s m args below meth cd H locs ls cells slots mc ms hF hW hS hl hc hs)
theorem a_ifnonnull {G : j_G} {M : j_M} {pc : Nat} {lv : List (Nat × Value)} {st : List Value} {h : j_H} {c sl : Nat} {Q : j_P} {a : Nat} {off : Int} {tgt : Nat} (hd : decode M.2.1 pc = .ok (.ifnonnull off, 3)) (ht : (pc : Int) + off = (tgt : Int)) (k : j_at G M (tgt) lv (st) h c sl Q) : j_at G M pc lv (.ref a :: st) h c sl Q := by
  intro p e s m args below meth cd H locs ls cells slots mc ms hF hW hS hl hc hs
  exact lv_ifnonnull hF.1 hF.2.1 hd ht (k p e s m args below meth cd H locs ls cells slots mc ms hF hW hS hl hc hs)
theorem a_ifnonnullN {G : j_G} {M : j_M} {pc : Nat} {lv : List (Nat × Value)} {st : List Value} {h : j_H} {c sl : Nat} {Q : j_P} {off : Int} (hd : decode M.2.1 pc = .ok (.ifnonnull off, 3)) (k : j_at G M (pc + 3) lv (st) h c sl Q) : j_at G M pc lv (.null :: st) h c sl Q := by
  intro p e s m args below meth cd H locs ls cells slots mc ms hF hW hS hl hc hs
  exact lv_ifnonnullN hF.1 hF.2.1 hd (k p e s m args below meth cd H locs ls cells slots mc ms hF hW hS hl hc hs)
theorem a_tableOut {G : j_G} {M : j_M} {pc : Nat} {lv : List (Nat × Value)} {st : List Value} {h : j_H} {c sl : Nat} {Q : j_P} {x dflt lo hi : Int} {offs : Array Int} {len tgt : Nat} (hd : decode M.2.1 pc = .ok (.tableswitch dflt lo hi offs, len)) (hx : -2147483648 ≤ x ∧ x ≤ 2147483647) (h0 : x < lo ∨ hi < x) (ht : (pc : Int) + dflt = (tgt : Int)) (k : j_at G M (tgt) lv (st) h c sl Q) : j_at G M pc lv (j_i x :: st) h c sl Q := by
  intro p e s m args below meth cd H locs ls cells slots mc ms hF hW hS hl hc hs
  exact lv_tableOut hF.1 hF.2.1 hd (by rw [j_ti hx]; exact h0) ht (k p e s m args below meth cd H locs ls cells slots mc ms hF hW hS hl hc hs)
theorem a_tableIn {G : j_G} {M : j_M} {pc : Nat} {lv : List (Nat × Value)} {st : List Value} {h : j_H} {c sl : Nat} {Q : j_P} {x dflt lo hi off : Int} {offs : Array Int} {len tgt : Nat} (hd : decode M.2.1 pc = .ok (.tableswitch dflt lo hi offs, len)) (hx : -2147483648 ≤ x ∧ x ≤ 2147483647) (h1 : lo ≤ x) (h2 : x ≤ hi) (ho : offs[(x - lo).toNat]? = some off) (ht : (pc : Int) + off = (tgt : Int)) (k : j_at G M (tgt) lv (st) h c sl Q) : j_at G M pc lv (j_i x :: st) h c sl Q := by
  intro p e s m args below meth cd H locs ls cells slots mc ms hF hW hS hl hc hs
  exact lv_tableIn hF.1 hF.2.1 hd (by rw [j_ti hx]; omega) (by rw [j_ti hx]; omega) (by rw [j_ti hx]; exact ho) ht (k p e s m args below meth cd H locs ls cells slots mc ms hF hW hS hl hc hs)
theorem a_ireturn {G : j_G} {M : j_M} {pc : Nat} {lv : List (Nat × Value)} {h : j_H} {c sl : Nat} {Q : j_P} {x : Int32} (hd : decode M.2.1 pc = .ok (.ireturn, 1)) (hr : M.2.2.2.1 = some .int) (hq : Q (some (.int x)) h) : j_at G M pc lv [.int x] h c sl Q := by
  intro p e s m args below meth cd H locs ls cells slots mc ms hF hW hS hl hc hs
  refine W.widen (k := mc) (n := ms) (by omega) (by omega) ?_
  exact W.iret hF.1 hF.2.1 (hF.2.2.1.trans hr) (fun t ht hw => ⟨⟨some (.int x), h, rfl, hq, by rw [ht]; exact hW.moved hw.alike⟩, hS.F ht⟩) hS.2.2 hd hF.2.2.2.2.2.2.1
theorem a_zreturn {G : j_G} {M : j_M} {pc : Nat} {lv : List (Nat × Value)} {h : j_H} {c sl : Nat} {Q : j_P} {x : Int} (hd : decode M.2.1 pc = .ok (.ireturn, 1)) (hr : M.2.2.2.1 = some .boolean) (hx : x = 0 ∨ x = 1) (hq : Q (some (j_i x)) h) : j_at G M pc lv [j_i x] h c sl Q := by
  intro p e s m args below meth cd H locs ls cells slots mc ms hF hW hS hl hc hs
  refine W.widen (k := mc) (n := ms) (by omega) (by omega) ?_
  exact W.zret hF.1 hF.2.1 (hF.2.2.1.trans hr) (by rcases hx with rfl | rfl <;> rfl) (fun t ht hw => ⟨⟨some (j_i x), h, rfl, hq, by rw [ht]; exact hW.moved hw.alike⟩, hS.F ht⟩) hS.2.2 hd hF.2.2.2.2.2.2.1
theorem a_return {G : j_G} {M : j_M} {pc : Nat} {lv : List (Nat × Value)} {h : j_H} {c sl : Nat} {Q : j_P} (hd : decode M.2.1 pc = .ok (.return_, 1)) (hr : M.2.2.2.1 = none) (hq : Q none h) : j_at G M pc lv [] h c sl Q := by
  intro p e s m args below meth cd H locs ls cells slots mc ms hF hW hS hl hc hs
  refine W.widen (k := mc) (n := ms) (by omega) (by omega) ?_
  exact W.vret hF.1 hF.2.1 (hF.2.2.1.trans hr) (fun t ht hw => ⟨⟨none, h, rfl, hq, by rw [ht]; exact hW.moved hw.alike⟩, hS.F ht⟩) hS.2.2 hd hF.2.2.2.2.2.2.1
theorem a_areturn {G : j_G} {M : j_M} {pc : Nat} {lv : List (Nat × Value)} {h : j_H} {c sl : Nat} {Q : j_P} {a : Nat} {C : String} (hd : decode M.2.1 pc = .ok (.areturn, 1)) (hr : M.2.2.2.1 = some (.object C)) (hq : Q (some (.ref a)) h) : j_at G M pc lv [.ref a] h c sl Q := by
  intro p e s m args below meth cd H locs ls cells slots mc ms hF hW hS hl hc hs
  refine W.widen (k := mc) (n := ms) (by omega) (by omega) ?_
  exact W.aret hF.1 hF.2.1 (hF.2.2.1.trans hr) (Or.inl ⟨_, rfl⟩) (Or.inr ⟨_, rfl⟩) (fun t ht hw => ⟨⟨some (.ref a), h, rfl, hq, by rw [ht]; exact hW.moved hw.alike⟩, hS.F ht⟩) hS.2.2 hd hF.2.2.2.2.2.2.1
