/-! The plain machine: values with abstract addresses, one heap of plain cells, judgements over the kit's W and Met. -/
abbrev j_i (x : Int) : Value := .int (Int32.ofInt x)
abbrev j_l (x : Int) : Value := .long (Int64.ofInt x)
/-- a cell: an array of numbers (kind: 0 int, 1 byte, 2 boolean, 3 char; length; contents), an array of references, an object (class, fields) -/
abbrev j_C : Type := (Nat × Nat × (Int → Int)) ⊕ ((Nat × (Int → Option Nat)) ⊕ (Nat × List Value))
/-- a heap: how many cells, what they are; 0 to 4 are read only (the script, four static arrays) -/
abbrev j_H : Type := Nat × (Nat → Option j_C)
/-- launch; class numbers and slots; array classes; addresses of what is read only; the heap's size at the law's entry -/
abbrev j_G : Type := Launch × va_G × (Nat → ClassId) × (Nat → Nat) × Nat
/-- a method: name, code, locals, return type, frames and locals that it needs below it -/
abbrev j_M : Type := MethodName × ByteArray × Nat × Option FieldType × Nat × Nat
def j_rho (G : j_G) (k : Nat) : Nat := if k < 5 then G.2.2.2.1 k else G.2.2.2.2 + (k - 5)
def j_cv (G : j_G) : Value → Value
  | .ref k => .ref (j_rho G k)
  | v => v
def j_cc (G : j_G) : j_C → va_E
  | .inl q => .inl (G.2.2.1 q.1, q.2.1, .inl (fun j => Int32.ofInt (q.2.2 (j : Int))))
  | .inr (.inl q) => .inl (G.2.2.1 3, q.1, .inr (.inr (.inr (.inr (fun j => (q.2 (j : Int)).map (j_rho G))))))
  | .inr (.inr q) => .inr (q.1, q.2.map (j_cv G))
def j_cell (G : j_G) (c : Option j_C) : va_E := (c.map (j_cc G)).getD (.inr (0, []))
def j_ws (G : j_G) (h : j_H) : va_W := (List.range (h.1 - 5)).map (fun j => (G.2.2.2.2 + j, j_cell G (h.2 (j + 5))))
def j_tys (G : j_G) : List (ClassId × FieldType) := [(G.2.2.1 0, .int), (G.2.2.1 1, .byte), (G.2.2.1 2, .boolean), (G.2.2.1 3, .object "BackIndex$Kept")]
def j_ty : Nat → FieldType
  | 0 => .int
  | 1 => .byte
  | 2 => .boolean
  | _ => .char
def j_A (G : j_G) : Nat → Prop := fun q => G.2.2.2.2 ≤ q
def j_st (G : j_G) (U : State) (H : Heap) : Prop :=
  va_Z "BackIndex$Parts" "ROMAN_VALUES" "[I" (.ref (G.2.2.2.1 1)) (j_A G) U H ∧ va_Z "BackIndex$Parts" "ROMAN_LETTERS" "[C" (.ref (G.2.2.2.1 2)) (j_A G) U H ∧ va_Z "BackIndex$Parts" "ROMAN_AHEAD" "[C" (.ref (G.2.2.2.1 3)) (j_A G) U H ∧ va_Z "BackIndex$Index" "PLACE_RANKS" "[I" (.ref (G.2.2.2.1 4)) (j_A G) U H
def j_ro (G : j_G) (h : j_H) (U : State) (H : Heap) : Prop := ∀ k, k < 5 → ∃ t n f, h.2 k = some (.inl (t, n, f)) ∧ va_T (j_ty t) (G.2.2.2.1 k) n (fun j => .int (Int32.ofInt (f (j : Int)))) (j_A G) U H
/-- what the tables say -/
def j_V (G : j_G) (U : State) : Prop := va_K G.2.1 vwCl (j_tys G) U ∧ (∀ w ∈ j_wn, va_Nw w U) ∧ va_AO "BackIndex$Kept" U
/-- what the heap holds -/
def j_W (G : j_G) (h : j_H) (U : State) (H : Heap) : Prop :=
  5 ≤ h.1 ∧ H.size = G.2.2.2.2 + (h.1 - 5) ∧ (∀ k, h.1 ≤ k → h.2 k = none) ∧ va_P G.2.1 vwCl (j_ws G h) H ∧ j_ro G h U H ∧ j_st G U H
abbrev j_P : Type := Option Value → j_H → Prop
def j_Q (G : j_G) (Q : j_P) : Array Value → State → Outcome → State → Prop := fun _ st o t => (∃ (v : Option Value) (h : j_H), o = .returned (v.map (j_cv G)) ∧ Q v h ∧ j_W G h t t.heap) ∧ va_F (j_A G) st t
def j_F (G : j_G) (M : j_M) (p : Program) (s : State) (m : MethodId) (args : Array Value) (meth : Method) (cd : Code) : Prop :=
  p.tables.exec = Jvm.exec ∧ cd.code = M.2.1 ∧ meth.sig.returnType = M.2.2.2.1 ∧ cd.maxLocals = M.2.2.1 ∧ s.vm.findClass M.1.cls = some m.cls ∧ (∀ w ∈ j_wg, w.before args s = true) ∧ meth.locks = false ∧ meth.name = M.1.name ∧ G.2.2.2.2 ≤ s.heap.size ∧ j_V G s
def j_lv (G : j_G) (lv : List (Nat × Value)) : List (Nat × Value) := lv.map (fun q => (q.1, j_cv G q.2))
/-- AT: within method M, at pc, with these locals, this stack, this heap, room for c cells of sl slots more: M returns, and Q of its answer and heap -/
def j_at (G : j_G) (M : j_M) (pc : Nat) (lv : List (Nat × Value)) (st : List Value) (h : j_H) (c sl : Nat) (Q : j_P) : Prop :=
  ∀ (p : Program) (e : Env) (s : State) (m : MethodId) (args : Array Value) (below : List Frame) (meth : Method) (cd : Code) (H : Heap) (locs : List Loc) (ls : Array Slot) (cells slots mc ms : Nat),
    j_F G M p s m args meth cd → j_W G h s H → va_S (j_A G) s.heap H locs → lv_has ls M.2.2.1 (j_lv G lv) → cells + c ≤ mc → slots + sl ≤ ms →
    W p G.1 e { frames := M.2.2.2.2.1, cells := mc, slots := ms, locals := M.2.2.2.2.2 } s m args below meth cd H locs cells slots (MQ below (j_Q G Q) args s mc ms (j_A G)) (F0 m pc ls (st.map (j_cv G)))
/-- RUN: method M from its entry, with these arguments -/
def j_run (G : j_G) (M : j_M) (args : List Value) (h : j_H) (c sl : Nat) (Q : j_P) : Prop :=
  Met G.1 M.1 (Cond.code M.1 M.2.1 M.2.2.1 M.2.2.2.1 :: j_wg) { frames := M.2.2.2.2.1, cells := c, slots := sl, locals := M.2.2.2.2.2 } (va_Pc (args.map (j_cv G)) (fun U => j_V G U ∧ j_W G h U U.heap)) (j_Q G Q) c sl (j_A G)
theorem j_cv_cat (G : j_G) (v : Value) : (j_cv G v).category = v.category := by cases v <;> rfl
theorem j_lv_args (G : j_G) : ∀ (vs : List Value) (i : Nat), lv_args i (vs.map (j_cv G)) = j_lv G (lv_args i vs)
  | [], _ => rfl
  | v :: vs, i => by
    show (i, j_cv G v) :: lv_args (if (j_cv G v).category = 2 then i + 2 else i + 1) (vs.map (j_cv G)) = _
    rw [j_cv_cat, j_lv_args G vs]; rfl
theorem j_sl_len (G : j_G) (vs : List Value) : (lg_sl (vs.map (j_cv G))).length = (lg_sl vs).length := by
  induction vs with
  | nil => rfl
  | cons v vs ih =>
    simp only [lg_sl, List.map_cons, List.flatMap_cons, List.length_append, j_cv_cat] at ih ⊢
    rw [ih]
    split <;> rfl
theorem j_V.moved {G : j_G} {s U : State} (hW : s.WarmedH U.vm) (h : j_V G s) : j_V G U := by
  refine ⟨va_K.moved hW.alike h.1, fun w hw => ?_, va_AO.moved hW.alike h.2.2⟩
  have h1 := h.2.1 w hw
  have h2 := (List.mem_filter.mp hw).2
  cases w <;> first | (simp [j_isN] at h2; done) | exact va_Nw.warmF hW h1 | exact va_Nw.warmM hW h1
theorem j_V.same {G : j_G} {s U : State} (hv : s.vm = U.vm) (h : j_V G s) : j_V G U := by
  have ha : s.vm.Alike U.vm := by rw [hv]; exact Vm.Alike.refl _
  refine ⟨va_K.moved ha h.1, fun w hw => ?_, va_AO.moved ha h.2.2⟩
  have h1 := h.2.1 w hw
  have h2 := (List.mem_filter.mp hw).2
  cases w <;> first | (simp [j_isN] at h2; done) | exact va_Nw.same rfl hv h1
theorem j_W.moved {G : j_G} {h : j_H} {s U : State} {H : Heap} (ha : s.vm.Alike U.vm) (w : j_W G h s H) : j_W G h U H := by
  obtain ⟨w1, w2, w3, w4, w5, w6, w7, w8, w9⟩ := w
  refine ⟨w1, w2, w3, w4, fun k hk => ?_, va_Z.moved ha w6, va_Z.moved ha w7, va_Z.moved ha w8, va_Z.moved ha w9⟩
  obtain ⟨t, n, f, e1, e2⟩ := w5 k hk
  exact ⟨t, n, f, e1, va_T.moved ha e2⟩
theorem j_rho_out {G : j_G} {k : Nat} (h : 5 ≤ k) : j_rho G k = G.2.2.2.2 + (k - 5) := if_neg (Nat.not_lt.mpr h)
theorem j_rho_in {G : j_G} {k : Nat} (h : k < 5) : j_rho G k = G.2.2.2.1 k := if_pos h
/-- a method from its entry -/
theorem j_enter {G : j_G} {M : j_M} {args : List Value} {h : j_H} {c sl : Nat} {Q : j_P} (hy : plainName M.1.cls = true) (hl : (lg_sl args).length ≤ M.2.2.1) (k : j_at G M 0 (lv_args 0 args) [] h c sl Q) : j_run G M args h c sl Q := by
  unfold j_run
  refine Met.ofW (cc := M.2.1) (maxL := M.2.2.1) (ret := M.2.2.2.1) hy rfl ?_
  intro p e s m args0 below meth cd s₁ B hml hv
  obtain ⟨rfl, hV, hW⟩ := hv
  have hts := atoms_spec (ws := Cond.code M.1 M.2.1 M.2.2.1 M.2.2.2.1 :: j_wg) B.pre
  have hown : s.vm.findClass M.1.cls = some m.cls := findClass_of_methodNamed B.named
  have hF : j_F G M p s m (args.map (j_cv G)).toArray meth cd := ⟨B.exec, B.bytes, B.returns, hml, hown, fun w hw => hts w (List.mem_cons_of_mem _ hw), B.notSynchronized, (name_of_methodNamed B.named B.method).1, by rw [hW.2.1]; omega, hV⟩
  have he := lv_entry (args.map (j_cv G)) (n := M.2.2.1) (by rw [j_sl_len]; exact hl)
  rw [j_lv_args] at he
  rw [lg_entry_eq]
  exact k p e s m _ below meth cd s.heap [] _ 0 0 c sl hF hW va_S.rf he (by omega) (by omega)
