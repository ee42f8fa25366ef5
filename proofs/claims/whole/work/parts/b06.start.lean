/-! THE CLAIM OUT OF ONE WALK OF THE LAW'S BODY. Your part is whole_start (and what it stands on); all else here is the same for every law, but numbers. -/
def R_law : String := "BackIndexLaw"
def lw_P (b : Addr) (xs : List Int32) (args : Array Value) (s : State) : Prop := args = #[.ref b] ∧ s.IntsAt b xs ∧ xs.length ≤ 3584 ∧ (Jvm.Cond.and given_1 narrow_1).before args s = true
def lw_Q (_ : Array Value) (s : State) (o : Outcome) (t : State) : Prop := o = .returned (some (.int 1)) ∧ Framed s o t [] 600000 7302250
def lw_Z (below : List Frame) (a : Array Value) (s : State) : State → Prop := fun t => ∃ o, t.status = .running ∧ Ended t below o ∧ lw_Q a s o t
/-- the law's own end, with 1 on the stack, nothing written that was there before, its room as the claim has it -/
theorem lw_ret {p : Program} {l : Launch} {e : Env} {s : State} {m : MethodId} {below : List Frame} {meth : Method} {c : Code} {b : Nat} (hx : p.tables.exec = Jvm.exec) (hb : c.code = code) (hr : meth.sig.returnType = ret) (hlocks : meth.locks = false) {pc : Nat} {H : Heap} {ls : Array Slot} (hdg : decode code pc = .ok (.ireturn, 1)) : W p l e room_1 s m #[Value.ref b] below meth c H [] 600000 7302250 (lw_Z below #[Value.ref b] s) (F0 m pc ls [.int 1]) := by
  intro T hT X
  obtain ⟨fs, hret, hrun, hended, hW, hframe⟩ := X.leave (v := some (.int 1)) (hlocks := hlocks) (fun h => by rw [hr] at h; cases h)
  have hmeth' : T.vm.method? m = some meth := X.method'
  refine ⟨T.setFrames fs, ?_, .returned (some (.int 1)), hrun, hended, rfl, ⟨_, rfl⟩, hW, hframe⟩
  jvm_step X.here [X.here.top, hx, hb, hdg, hmeth', hr, ret, narrow_b1]
  (try refine ⟨rfl, ?_⟩); (try refine ⟨rfl, ?_⟩)
  first | (intro acts; rw [hret _ acts rfl rfl rfl]) | rw [hret _ _ rfl rfl rfl]
  exact Steps.refl _
/-- what holds at the law's entry: the machine, the code, the tables' words (any of lw_tbl by 'hts w (by decide +kernel)'), the script of L ints xs at the cell b, what the Statement gives of the start (any of its parts by flat_of_before) -/
def lw_At (p : Program) (s : State) (m : MethodId) (meth : Method) (c : Code) (b L : Nat) (xs : Nat → Int32) : Prop :=
  p.tables.exec = Jvm.exec ∧ c.code = code ∧ meth.sig.returnType = ret ∧ c.maxLocals = 4 ∧ s.vm.findClass R_law = some m.cls ∧ (∀ w ∈ lw_tbl, w.before #[Value.ref b] s = true) ∧ va_X b L xs s s.heap ∧ b < s.heap.size ∧ meth.locks = false ∧ (Jvm.Cond.and given_1 narrow_1).before #[Value.ref b] s = true ∧ meth.name = "law"
/-- what the tables say of the classes, the array classes -/
theorem ws_cls {args : Array Value} {s : State} (hts : ∀ w ∈ j_wg, w.before args s = true) : ∃ (dC : Nat → ClassId) (dI : Nat → Nat → Nat), ∀ (k : Nat) (q : vw_C), vwCl[k]? = some q → u_Kn s q.1 q.2.1 q.2.2 (dC k) (dI k) := by
  have h : ∀ k : Nat, ∃ D : ClassId × (Nat → Nat), ∀ q : vw_C, vwCl[k]? = some q → u_Kn s q.1 q.2.1 q.2.2 D.1 D.2 := by
    intro k
    match k with
    | 0 => obtain ⟨c, iS, h⟩ := u_known (C := RX0) (T := TX0) (N := 3) (n := 3) hts inX0 (hts _ ki_X0); exact ⟨(c, iS), fun q hq => by cases hq; exact h⟩
    | 1 => obtain ⟨c, iS, h⟩ := u_known (C := RX1) (T := TX1) (N := 3) (n := 3) hts inX1 (hts _ ki_X1); exact ⟨(c, iS), fun q hq => by cases hq; exact h⟩
    | 2 => obtain ⟨c, iS, h⟩ := u_known (C := RX2) (T := TX2) (N := 4) (n := 4) hts inX2 (hts _ ki_X2); exact ⟨(c, iS), fun q hq => by cases hq; exact h⟩
    | 3 => obtain ⟨c, iS, h⟩ := u_known (C := RX3) (T := TX3) (N := 11) (n := 11) hts inX3 (hts _ ki_X3); exact ⟨(c, iS), fun q hq => by cases hq; exact h⟩
    | 4 => obtain ⟨c, iS, h⟩ := u_known (C := RX4) (T := TX4) (N := 4) (n := 4) hts inX4 (hts _ ki_X4); exact ⟨(c, iS), fun q hq => by cases hq; exact h⟩
    | 5 => obtain ⟨c, iS, h⟩ := u_known (C := RX5) (T := TX5) (N := 4) (n := 4) hts inX5 (hts _ ki_X5); exact ⟨(c, iS), fun q hq => by cases hq; exact h⟩
    | 6 => obtain ⟨c, iS, h⟩ := u_known (C := RX6) (T := TX6) (N := 14) (n := 14) hts inX6 (hts _ ki_X6); exact ⟨(c, iS), fun q hq => by cases hq; exact h⟩
    | 7 => obtain ⟨c, iS, h⟩ := u_known (C := RX7) (T := TX7) (N := 6) (n := 6) hts inX7 (hts _ ki_X7); exact ⟨(c, iS), fun q hq => by cases hq; exact h⟩
    | 8 => obtain ⟨c, iS, h⟩ := u_known (C := RX8) (T := TX8) (N := 7) (n := 7) hts inX8 (hts _ ki_X8); exact ⟨(c, iS), fun q hq => by cases hq; exact h⟩
    | 9 => obtain ⟨c, iS, h⟩ := u_known (C := RX9) (T := TX9) (N := 2) (n := 2) hts inX9 (hts _ ki_X9); exact ⟨(c, iS), fun q hq => by cases hq; exact h⟩
    | 10 => obtain ⟨c, iS, h⟩ := u_known (C := RX10) (T := TX10) (N := 3) (n := 3) hts inX10 (hts _ ki_X10); exact ⟨(c, iS), fun q hq => by cases hq; exact h⟩
    | 11 => obtain ⟨c, iS, h⟩ := u_known (C := RX11) (T := TX11) (N := 15) (n := 15) hts inX11 (hts _ ki_X11); exact ⟨(c, iS), fun q hq => by cases hq; exact h⟩
    | 12 => obtain ⟨c, iS, h⟩ := u_known (C := RX12) (T := TX12) (N := 54) (n := 54) hts inX12 (hts _ ki_X12); exact ⟨(c, iS), fun q hq => by cases hq; exact h⟩
    | k + 13 =>
      obtain ⟨c, iS, h⟩ := u_known (C := RX0) (T := TX0) (N := 3) (n := 3) hts inX0 (hts _ ki_X0)
      exact ⟨(c, iS), fun q hq => by simp [vwCl] at hq⟩
  obtain ⟨f, hf⟩ := Classical.axiomOfChoice h
  exact ⟨fun k => (f k).1, fun k => (f k).2, hf⟩
theorem ws_arr {args : Array Value} {s : State} {ty : FieldType} (h : (Cond.arrayClass ty).before args s = true) : ∃ cA : ClassId, ArrOfT s cA ty ∧ s.vm.findClass ("[" ++ ty.toString) = some cA := by
  obtain ⟨cA, kA, comp, h1, h2, h3⟩ := Cond.arrayClass_spec h
  exact ⟨cA, fun n z => ⟨fun k h => (by cases h), kA, h2, comp, h3⟩, h1⟩
theorem ws_ref {args : Array Value} {s : State} {C : String} (h : (Cond.arrayOver (.object C)).before args s = true) : ∃ cA : ClassId, ArrOfT s cA (.object C) ∧ va_RA s cA (.object C) := by
  obtain ⟨comp, cA, kA, h1, h2, h3, h4, h5⟩ := Cond.arrayOver_spec h
  exact ⟨cA, fun n z => ⟨(fun k h => by cases h), kA, h3, comp, h4⟩, kA, comp, h3, h4, h1, h5⟩
/-- a static array of numbers -/
theorem ws_T {args : Array Value} {s : State} {A : Nat → Prop} {C n d : String} {ty : FieldType} {N : Nat} {l : List Int} {big : List Cond} (hb : ∀ w ∈ big, w.before args s = true) (hN : N < 2 ^ 31) (h1 : Cond.arrayOf (.static C n d) ty ∈ big) (h2 : Cond.eq (.length (.static C n d)) (.int (Int32.ofNat N)) ∈ big) (h3 : ∀ j : Nat, j < N → Cond.eq (.elem (.static C n d) (.int (Int32.ofNat j))) (.int (Int32.ofInt (k_lst l (j : Int)))) ∈ big) (hl : (Cond.laysStatic C n d).before args s = true) (hi : (Cond.initialized C).before args s = true) (hA : ∀ a : Nat, a < s.heap.size → ¬ A a) :
    ∃ t : Nat, va_T ty t N (fun j => .int (Int32.ofInt (k_lst l (j : Int)))) A s s.heap ∧ va_Z C n d (.ref t) A s s.heap := by
  obtain ⟨t, e, hT⟩ := va_Tof (f := fun j => .int (Int32.ofInt (k_lst l (j : Int)))) hN (hb _ h1) (va_eqt (hb _ h2)) (fun j hj => va_eqt (hb _ (h3 j hj))) hA
  exact ⟨t, hT, va_Zof hl hi e hA⟩
theorem ws_frame {s t : State} {o : Outcome} {L : List Loc} {k n : Nat} (h : FrameEnd s o t L k n) (hL : ∀ q ∈ L, s.heap.size ≤ q.base) : Framed s o t [] k n := by
  obtain ⟨h1, h2, h3⟩ := h
  exact ⟨h1, h2, h3.weaken (fun y hy hlt => absurd hlt (Nat.not_lt.mpr (hL y hy))) (Nat.le_refl _) (Nat.le_refl _)⟩
set_option maxHeartbeats 4000000 in
set_option maxRecDepth 100000 in
/-- THE LAW, from its entry -/
theorem whole_start {p : Program} {e : Env} {s : State} {m : MethodId} {below : List Frame} {meth : Method} {c : Code} (l : Launch) {b L : Nat} {xs : Nat → Int32} (hL : L ≤ 3584) (C0 : lw_At p s m meth c b L xs) : W p l e room_1 s m #[Value.ref b] below meth c s.heap [] 0 0 (lw_Z below #[Value.ref b] s) (entryFrame m ([Value.ref b] : List Value).toArray 4) := by
  obtain ⟨hx, hb, hr, hml, hown, hts, hX, hbl, hlocks, hgv, hnm⟩ := id C0
  have hfl := flat_of_before _ hgv
  have hA : ∀ a : Nat, a < s.heap.size → ¬ (fun q : Nat => s.heap.size ≤ q) a := fun _ h => Nat.not_le.mpr h
  have htg : ∀ w ∈ j_wg, w.before #[Value.ref b] s = true := fun w hw => hts w (List.mem_filter.mp hw).1
  obtain ⟨dC, dI, hKc⟩ := ws_cls htg
  obtain ⟨c0, a0, n0⟩ := ws_arr (htg _ ka_int)
  obtain ⟨c1, a1, n1⟩ := ws_arr (htg _ ka_byte)
  obtain ⟨c2, a2, n2⟩ := ws_arr (htg _ ka_boolean)
  have hao : (Cond.arrayOver (.object "BackIndex$Kept")).before #[Value.ref b] s = true := hts _ (by decide +kernel)
  obtain ⟨c3, a3, n3⟩ := ws_ref hao
  obtain ⟨t1, T1, Z1⟩ := ws_T (C := "BackIndex$Parts") (n := "ROMAN_VALUES") (d := "[I") (ty := .int) (N := 13) (l := [1000, 900, 500, 400, 100, 90, 50, 40, 10, 9, 5, 4, 1]) (A := fun q : Nat => s.heap.size ≤ q) hfl (by decide) (by decide +kernel) (by decide +kernel) (by decide +kernel) (hts _ (by decide +kernel)) (htg _ kn_X8) hA
  obtain ⟨t2, T2, Z2⟩ := ws_T (C := "BackIndex$Parts") (n := "ROMAN_LETTERS") (d := "[C") (ty := .char) (N := 13) (l := [109, 109, 100, 100, 99, 99, 108, 108, 120, 120, 118, 118, 105]) (A := fun q : Nat => s.heap.size ≤ q) hfl (by decide) (by decide +kernel) (by decide +kernel) (by decide +kernel) (hts _ (by decide +kernel)) (htg _ kn_X8) hA
  obtain ⟨t3, T3, Z3⟩ := ws_T (C := "BackIndex$Parts") (n := "ROMAN_AHEAD") (d := "[C") (ty := .char) (N := 13) (l := [32, 99, 32, 99, 32, 120, 32, 120, 32, 105, 32, 105, 32]) (A := fun q : Nat => s.heap.size ≤ q) hfl (by decide) (by decide +kernel) (by decide +kernel) (by decide +kernel) (hts _ (by decide +kernel)) (htg _ kn_X8) hA
  obtain ⟨t4, T4, Z4⟩ := ws_T (C := "BackIndex$Index") (n := "PLACE_RANKS") (d := "[I") (ty := .int) (N := 6) (l := [1, 1, 1, 0, 3, 2]) (A := fun q : Nat => s.heap.size ≤ q) hfl (by decide) (by decide +kernel) (by decide +kernel) (by decide +kernel) (hts _ (by decide +kernel)) (htg _ kn_X3) hA
  obtain ⟨rc, hrc⟩ : ∃ rc : Nat → ClassId, rc = fun k => match k with | 0 => c0 | 1 => c1 | 2 => c2 | _ => c3 := ⟨_, rfl⟩
  obtain ⟨ra, hra⟩ : ∃ ra : Nat → Nat, ra = fun k => match k with | 0 => b | 1 => t1 | 2 => t2 | 3 => t3 | _ => t4 := ⟨_, rfl⟩
  have r0 : ra 0 = b := by rw [hra]; try rfl
  have r1 : ra 1 = t1 := by rw [hra]; try rfl
  have r2 : ra 2 = t2 := by rw [hra]; try rfl
  have r3 : ra 3 = t3 := by rw [hra]; try rfl
  have r4 : ra 4 = t4 := by rw [hra]; try rfl
  have hV : j_V (l, (dC, dI), rc, ra, s.heap.size) s := by
    refine ⟨⟨hKc, fun k q hq => ?_⟩, fun w hw => ?_, va_AO.of hao⟩
    · have hq : [(rc 0, FieldType.int), (rc 1, .byte), (rc 2, .boolean), (rc 3, .object "BackIndex$Kept")][k]? = some q := hq
      match k, hq with
      | 0, hq => cases hq; rw [hrc]; exact ⟨a0, n0⟩
      | 1, hq => cases hq; rw [hrc]; exact ⟨a1, n1⟩
      | 2, hq => cases hq; rw [hrc]; exact ⟨a2, n2⟩
      | 3, hq => cases hq; rw [hrc]; exact ⟨a3, n3⟩
      | k + 4, hq => simp at hq
    · have h1 := hts w (List.mem_filter.mp hw).1
      have h2 := (List.mem_filter.mp hw).2
      cases w <;> first | (simp [j_isN] at h2; done) | exact va_Nw.of rfl h1
  have hW : j_W (l, (dC, dI), rc, ra, s.heap.size) (k_h (L, fun i => (xs i.toNat).toInt) 5 s_0) s s.heap := by
    refine ⟨Nat.le_refl 5, (Nat.add_zero _).symm, fun k hk => if_neg (Nat.not_lt.mpr hk), fun k q hq => ?_, fun k hk => ?_, ?_, ?_, ?_, ?_⟩
    · have hq : ([] : va_W)[k]? = some q := hq
      simp at hq
    · match k, hk with
      | 0, _ =>
        obtain ⟨scr, x1, x2, x3, x4, x5⟩ := hX
        refine ⟨0, L, fun i => (xs i.toNat).toInt, rfl, scr, ?_, x2, x3, by omega, by rw [x4], fun j hj => ?_, ?_⟩
        · show s.heap[ra 0]? = _
          rw [r0]; exact x1
        · rw [x5 j hj]
          show _ = some (Value.int (Int32.ofInt (xs j).toInt))
          rw [Int32.ofInt_toInt]
        · show ¬ s.heap.size ≤ ra 0
          rw [r0]; omega
      | 1, _ => exact ⟨0, 13, _, rfl, by show va_T _ (ra 1) _ _ _ _ _; rw [r1]; exact T1⟩
      | 2, _ => exact ⟨3, 13, _, rfl, by show va_T _ (ra 2) _ _ _ _ _; rw [r2]; exact T2⟩
      | 3, _ => exact ⟨3, 13, _, rfl, by show va_T _ (ra 3) _ _ _ _ _; rw [r3]; exact T3⟩
      | 4, _ => exact ⟨0, 6, _, rfl, by show va_T _ (ra 4) _ _ _ _ _; rw [r4]; exact T4⟩
      | k + 5, h => exact absurd h (by omega)
    · show va_Z _ _ _ (.ref (ra 1)) _ _ _
      rw [r1]; exact Z1
    · show va_Z _ _ _ (.ref (ra 2)) _ _ _
      rw [r2]; exact Z2
    · show va_Z _ _ _ (.ref (ra 3)) _ _ _
      rw [r3]; exact Z3
    · show va_Z _ _ _ (.ref (ra 4)) _ _ _
      rw [r4]; exact Z4
  have hF : j_F (l, (dC, dI), rc, ra, s.heap.size) mL_law p s m #[Value.ref b] meth c := ⟨hx, hb, hr, hml, hown, htg, hlocks, hnm, Nat.le_refl _, hV⟩
  have hl := lv_entry ([.ref b]) (n := 4) (Nat.le_of_ble_eq_true rfl)
  rw [lg_entry_eq]
  generalize (lg_sl ([.ref b]) ++ List.replicate (4 - (lg_sl ([.ref b])).length) Slot.unset).toArray = ls at hl ⊢
  have hl : lv_has ls 4 (j_lv (l, (dC, dI), rc, ra, s.heap.size) [(0, .ref 0)]) := by
    show lv_has ls 4 [(0, .ref (ra 0))]
    rw [r0]; exact hl
  have key := law_entry (G := (l, (dC, dI), rc, ra, s.heap.size)) (X := (L, fun i => (xs i.toNat).toInt)) hL (fun j => by
    have h1 := Int32.le_toInt (xs j.toNat)
    have h2 := Int32.toInt_lt (xs j.toNat)
    show -2147483648 ≤ (xs j.toNat).toInt ∧ (xs j.toNat).toInt ≤ 2147483647
    omega) p e s m #[Value.ref b] below meth c s.heap [] ls 0 0 600000 7302250 hF hW va_S.rf hl (by omega) (by omega)
  intro T hT X
  obtain ⟨t, k1, o, k2, k3, ⟨⟨v, h', e1, ⟨n', σ', -, e2⟩, -⟩, -⟩, Lc, f1, f2⟩ := key T hT X
  refine ⟨t, k1, o, k2, k3, ?_, ws_frame f1 f2⟩
  rw [e1, e2]
  rfl
set_option maxHeartbeats 4000000 in
theorem lw_walk (l : Launch) (b : Addr) (xs : List Int32) : MetFree l x (headSpec (Jvm.Cond.code x code maxLocals ret :: tables_1) room_1) (lw_P b xs) (fun _ _ _ _ _ => True) lw_Q := by
  refine MetFree.of_bodyS (code := code) (maxLocals := maxLocals) (ret := ret) (by decide) ?_ ?_
  · intro args s m h hn
    obtain ⟨meth, c, h1, h2, h3, h4, h5, h6, -, -⟩ := Cond.code_spec hn (atoms_spec (ws := Jvm.Cond.code x code maxLocals ret :: tables_1) h _ List.mem_cons_self)
    exact ⟨meth, c, h1, h2, h3, h4, h5, h6⟩
  · intro p e s m args below meth c s₁ B hml0 hP _
    obtain ⟨rfl, hx, hbd, hgv⟩ := hP
    obtain ⟨scr, harrAt, hlist, hof, hsmall⟩ := hx
    obtain ⟨hcb, hkn, -, -⟩ := State.arrayAt?_spec harrAt
    have hown : s.vm.findClass R_law = some m.cls := findClass_of_methodNamed B.named
    have hts0 : ∀ c ∈ (Jvm.Cond.code x code maxLocals ret :: tables_1), c.before #[Value.ref b] s = true := atoms_spec (ws := Jvm.Cond.code x code maxLocals ret :: tables_1) B.pre
    have hts : ∀ w ∈ lw_tbl, w.before #[Value.ref b] s = true := k2_hts_sels lw_privs (fun w hw => hts0 w (List.mem_cons_of_mem _ hw)) lw_privs_ok
    have hml : c.maxLocals = 4 := B.maxLocals_eq (hts0 _ List.mem_cons_self)
    have X₀ : Stand p l e room_1 s m #[Value.ref b] below meth c s₁ [] 0 0 := Stand.of_body B
    have hh0 : s₁.heap = s.heap := by rw [B.state]; rfl
    have hsz : scr.slots.size = xs.length := by rw [← Array.length_toList, hlist, List.length_map]
    have hval : ∀ j : Nat, j < xs.length → scr.slots[j]? = some (.int (xs.getD j 0)) := fun j hj => by
      rw [← Array.getElem?_toList, hlist]
      simp [hj]
    have hbl : b < s.heap.size := (Array.getElem?_eq_some_iff.mp hcb).1
    have hX : va_X b xs.length (fun j => xs.getD j 0) s s.heap := ⟨scr, hcb, hof, hkn, hsz, hval⟩
    have K : W p l e room_1 s m #[Value.ref b] below meth c s₁.heap [] 0 0 (lw_Z below #[Value.ref b] s) (entryFrame m ([Value.ref b] : List Value).toArray 4) := by
      rw [hh0]
      exact whole_start l hbd ⟨B.exec, B.bytes, B.returns, hml, hown, hts, hX, hbl, B.notSynchronized, hgv, (name_of_methodNamed B.named B.method).1⟩
    obtain ⟨t, a1, o, b1, b2, b3⟩ := K s₁ rfl X₀
    exact ⟨t, o, a1, b1, b2, b3⟩
theorem lw_pre_spec {args : Array Value} {s : State} (h : (Jvm.Cond.and given_1 narrow_1).before args s = true) (hr : rest_1_c.before args s = true) : ∃ (b : Addr) (xs : List Int32), lw_P b xs args s := by
  have hs := flat_of_before _ h
  have hq := flat_of_before _ hr
  have hc : (Cond.count 1).before args s = true := hs _ (by decide +kernel)
  have harr : (Cond.arrayOf (.arg 0) .int).before args s = true := hs _ (by decide +kernel)
  have hle : (Cond.le (.length (.arg 0)) (.int 3584)).before args s = true := hs _ (by decide +kernel)
  have hlen : (Cond.isInt (.length (.arg 0))).before args s = true := hq _ (by decide +kernel)
  have hall : (Cond.all (.arg 0) (.isInt (.elem (.arg 0) (.index 0)))).before args s = true := hq _ (by decide +kernel)
  obtain ⟨b, xs, hb, hx⟩ := State.ints_of_pre rfl harr hlen hall
  have hsm : xs.length < 2 ^ 31 := hx.choose_spec.2.2.2
  have hev : (Term.length (.arg 0)).eval args s none [] s = some (.int xs.length.toInt32) := hx.length_eval hb
  have hv := Cond.le_ints hev (show (Term.int 3584).eval args s none [] s = some (.int 3584) from rfl)
  have hd : xs.length.toInt32 ≤ 3584 := by
    simpa [Cond.before, Cond.holds, hv] using hle
  have hN : xs.length ≤ 3584 := (Int32.ofNat_le_ofNat hsm (by decide)).mp (show Int32.ofNat xs.length ≤ Int32.ofNat 3584 from hd)
  exact ⟨b, xs, Cond.one_arg hc (show args[0]? = some (.ref b) from hb), hx, hN, h⟩
theorem lw_comes (l : Launch) : Comes l x (Jvm.Cond.code x code maxLocals ret :: tables_1) room_1 (fun tb e args s => Calls_1 tb e args s ∧ rest_1 tb e args s ∧ Pre_1 tb e args s)
    (fun _ _ args s o t => lw_Q args s o t) := by
  intro p e ha hc hk s m args below hf hfit hheap happ hpre
  obtain ⟨b, xs, hP⟩ := lw_pre_spec hpre.2.2 hpre.2.1
  obtain ⟨k, o, h1, h2, h3, hQ⟩ := lw_walk l b xs p e ha hc hk s m args below hf ((Spec.applies_iff_loose hf).mp happ).1 hP trivial
  exact ⟨k, o, h1, h2, h3, hQ⟩
theorem lw_frame {s t : State} {o : Outcome} {args : Array Value} (h : Framed s o t [] 600000 7302250) :
    Framed s o t (fieldLocs frame_1_writes args s ++ arrayLocs frame_1_arrays args s ++ staticLocs frame_1_statics s) 600000 7302250 := h
theorem lw_limb (L : Cond) (hL : ∀ (args : Array Value) (s t : State), L.after args s (.returned (some (.int 1))) t = true) :
    ArmFor flags0 classFile x code maxLocals ret World_1 tables_1 room_1 Calls_1 rest_1 Pre_1
      (fun tb e a s o t => postC L tb e a s o t ∧ Framed s o t (fieldLocs frame_1_writes a s ++ arrayLocs frame_1_arrays a s ++ staticLocs frame_1_statics s) 600000 7302250) := by
  intro l _ _ _ p e ha hc hk s m args below hf hfit hheap happ hpre
  obtain ⟨k, o, h1, h2, h3, rfl, hF⟩ := lw_comes l p e ha hc hk s m args below hf hfit hheap happ hpre
  exact ⟨k, _, h1, h2, h3, hL args s _, lw_frame hF⟩
theorem i_vc : Claimed_1_1 ∧ Claimed_1_2 := ⟨lw_limb limb_1_1 (fun args s t => by simp [limb_1_1, Cond.after, Cond.holds, Cond.value]), lw_limb limb_1_2 (fun args s t => Cond.after_iff.mpr (by
  first | (rw [show limb_1_2 = Cond.eq .result (.int 1) from rfl, Cond.eq_ints (x := 1) (y := 1) rfl rfl]; simp; done) | (simp [limb_1_2, Cond.value, Term.eval]; done)))⟩
