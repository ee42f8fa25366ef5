/-! Rules that touch the heap. -/
def j_set (h : j_H) (a : Nat) (c : j_C) : j_H := (h.1, fun k => if k = a then some c else h.2 k)
def j_new (h : j_H) (c : j_C) : j_H := (h.1 + 1, fun k => if k = h.1 then some c else h.2 k)
theorem j_rho_A {G : j_G} {a : Nat} (ha : 5 ≤ a) : j_A G (j_rho G a) := by rw [j_rho_out ha]; exact Nat.le_add_right _ _
theorem j_lt_of {G : j_G} {h : j_H} {s : State} {H : Heap} (w : j_W G h s H) {a : Nat} {c : j_C} (hc : h.2 a = some c) : a < h.1 := by
  rcases Nat.lt_or_ge a h.1 with q | q
  · exact q
  · rw [w.2.2.1 a q] at hc; cases hc
theorem j_ws_at {G : j_G} {h : j_H} {a : Nat} {c : j_C} (ha : 5 ≤ a) (hl : a < h.1) (hc : h.2 a = some c) : (j_ws G h)[a - 5]? = some (j_rho G a, j_cc G c) := by
  unfold j_ws
  rw [List.getElem?_map, List.getElem?_range (by omega)]
  simp only [Option.map_some, j_rho_out ha]
  rw [show a - 5 + 5 = a by omega, hc]
  rfl
theorem j_D {G : j_G} {h : j_H} : va_D (j_A G) (j_ws G h) := by
  have key : ∀ (i : Nat) (p : Nat × va_E), (j_ws G h)[i]? = some p → p.1 = G.2.2.2.2 + i := by
    intro i p hp
    unfold j_ws at hp
    rw [List.getElem?_map] at hp
    rcases Nat.lt_or_ge i (h.1 - 5) with q | q
    · rw [List.getElem?_range q] at hp
      exact (congrArg Prod.fst (Option.some.inj hp)).symm
    · rw [List.getElem?_eq_none (by simpa using q)] at hp; cases hp
  refine ⟨fun i j p q h1 h2 e => ?_, fun k q hq => ?_⟩
  · have := key i p h1; have := key j q h2; omega
  · show _ ≤ q.1
    rw [key k q hq]; omega
theorem j_ws_set {G : j_G} {h : j_H} {a : Nat} {c : j_C} (ha : 5 ≤ a) (hl : a < h.1) : (j_ws G h).set (a - 5) (j_rho G a, j_cc G c) = j_ws G (j_set h a c) := by
  refine List.ext_getElem? fun i => ?_
  rw [List.getElem?_set]
  unfold j_ws
  simp only [List.length_map, List.length_range, j_set]
  rw [List.getElem?_map, List.getElem?_map]
  by_cases h1 : a - 5 = i
  · rw [if_pos h1, if_pos (by omega), List.getElem?_range (by omega)]
    simp only [Option.map_some]
    rw [if_pos (by omega), j_rho_out ha, h1]
    rfl
  · rw [if_neg h1]
    rcases Nat.lt_or_ge i (h.1 - 5) with q | q
    · rw [List.getElem?_range q]
      simp only [Option.map_some]
      rw [if_neg (by omega)]
    · rw [List.getElem?_eq_none (by simpa using q)]; rfl
theorem j_ws_new {G : j_G} {h : j_H} {c : j_C} (h5 : 5 ≤ h.1) : j_ws G h ++ [(j_rho G h.1, j_cc G c)] = j_ws G (j_new h c) := by
  unfold j_ws
  simp only [j_new]
  rw [show h.1 + 1 - 5 = (h.1 - 5) + 1 by omega, List.range_succ, List.map_append]
  congr 1
  · refine List.map_congr_left fun i hi => ?_
    have := List.mem_range.mp hi
    rw [if_neg (by omega)]
  · simp only [List.map_cons, List.map_nil]
    rw [if_pos (by omega), j_rho_out h5]
    rfl
theorem j_ro_kept {G : j_G} {h : j_H} {s : State} {H H1 : Heap} (w : j_ro G h s H) (hq : ∀ a : Nat, a < H.size → ¬ j_A G a → H1[a]? = H[a]?) : j_ro G h s H1 := fun k hk => by
  obtain ⟨t, n, f, e1, e2⟩ := w k hk
  exact ⟨t, n, f, e1, e2.kept hq⟩
theorem j_st_kept {G : j_G} {s : State} {H H1 : Heap} (w : j_st G s H) (hq : ∀ a : Nat, a < H.size → ¬ j_A G a → H1[a]? = H[a]?) : j_st G s H1 := ⟨w.1.kept hq, w.2.1.kept hq, w.2.2.1.kept hq, w.2.2.2.kept hq⟩
theorem j_upd {G : j_G} {h : j_H} {s : State} {H H1 : Heap} {a : Nat} {c0 c : j_C} (w : j_W G h s H) (ha : 5 ≤ a) (h0 : h.2 a = some c0) (hat : va_at G.2.1 vwCl (j_rho G a, j_cc G c) H1) (z : H1.size = H.size) (oq : ∀ q : Nat, q ≠ j_rho G a → H1[q]? = H[q]?) : j_W G (j_set h a c) s H1 := by
  have hl := j_lt_of w h0
  obtain ⟨w1, w2, w3, w4, w5, w6⟩ := w
  have hne : ∀ q : Nat, q < H.size → ¬ j_A G q → H1[q]? = H[q]? := fun q _ hq => oq q (fun e => hq (e ▸ j_rho_A ha))
  refine ⟨w1, by rw [z]; exact w2, fun k hk => ?_, ?_, ?_, j_st_kept w6 hne⟩
  · show (if k = a then some c else h.2 k) = none
    have hk : h.1 ≤ k := hk
    rw [if_neg (by omega)]
    exact w3 k hk
  · rw [← j_ws_set ha hl]
    exact w4.set j_D (j_ws_at ha hl h0) hat oq
  · intro k hk
    obtain ⟨t, n, f, e1, e2⟩ := j_ro_kept w5 hne k hk
    exact ⟨t, n, f, by show (if k = a then some c else h.2 k) = _; rw [if_neg (by omega)]; exact e1, e2⟩
theorem j_born {G : j_G} {h : j_H} {s : State} {H H1 : Heap} {c : j_C} (w : j_W G h s H) (hat : va_at G.2.1 vwCl (j_rho G h.1, j_cc G c) H1) (z : H1.size = H.size + 1) (oq : ∀ q : Nat, q < H.size → H1[q]? = H[q]?) : j_W G (j_new h c) s H1 := by
  obtain ⟨w1, w2, w3, w4, w5, w6⟩ := w
  have hk : ∀ (k : Nat) (x : Nat × va_E), (j_ws G h)[k]? = some x → H1[x.1]? = H[x.1]? := fun k x hx => oq x.1 ((w4 k x hx).lt)
  refine ⟨by show 5 ≤ h.1 + 1; omega, by rw [z, w2]; show _ = _ + (h.1 + 1 - 5); omega, fun k hk => ?_, ?_, ?_, j_st_kept w6 (fun q hq _ => oq q hq)⟩
  · have hk : h.1 + 1 ≤ k := hk
    show (if k = h.1 then some c else h.2 k) = none
    rw [if_neg (by omega)]
    exact w3 k (by omega)
  · rw [← j_ws_new w1]
    refine (w4.kept hk).app (fun k x hx => ?_)
    have hz : k < 1 := (List.getElem?_eq_some_iff.mp hx).1
    rw [show k = 0 by omega] at hx
    cases hx
    exact hat
  · intro k hk
    obtain ⟨t, n, f, e1, e2⟩ := j_ro_kept w5 (fun q hq _ => oq q hq) k hk
    exact ⟨t, n, f, by show (if k = h.1 then some c else h.2 k) = _; rw [if_neg (by omega)]; exact e1, e2⟩
theorem j_rho_size {G : j_G} {h : j_H} {s : State} {H : Heap} (w : j_W G h s H) : j_rho G h.1 = H.size := by rw [j_rho_out w.1, w.2.1]
/-- what a class is -/
def j_CI (ci : Nat) (C : String) (T : u_T) (N : Nat) (ty0 : Nat → FieldType) : Prop :=
  vwCl[ci]? = some (C, T, N) ∧ (∀ w ∈ u_ws C T N, w ∈ j_wg) ∧ (∀ k, k < N → parseFieldDescriptor (T k).2.2.1 = some (ty0 k)) ∧ (∀ a, a < N → ∀ b, b < N → a ≠ b → (T a).2.1 ≠ (T b).2.1) ∧ ∀ k, k < N → (T k).1 = C
/-- a field's link: from class own, entry idx, to field k of class ci -/
def j_FL (own : String) (idx ci k : Nat) (ty : FieldType) (fin nest : Bool) : Prop :=
  ∃ (C : String) (T : u_T) (N : Nat) (ty0 : Nat → FieldType), j_CI ci C T N ty0 ∧ k < N ∧ ty0 k = ty ∧ (T k).2.2.2 = fin ∧ ((nest = false ∧ own = C ∧ Cond.fieldLink own idx C (T k).2.1 (T k).2.2.1 ∈ j_wg) ∨ nest = true ∧ ∃ host, Cond.fieldLinkNest own idx C (T k).2.1 (T k).2.2.1 host ∈ j_wn)
theorem j_len_map {G : j_G} {fs : List Value} {k : Nat} {v : Value} (hv : fs[k]? = some v) : (fs.map (j_cv G))[k]? = some (j_cv G v) := by rw [List.getElem?_map, hv]; rfl
theorem a_getfield {G : j_G} {M : j_M} {pc : Nat} {lv : List (Nat × Value)} {st : List Value} {h : j_H} {c sl : Nat} {Q : j_P} {idx ci k a : Nat} {ty : FieldType} {fin nest : Bool} {fs : List Value} {v : Value} (hf : j_FL M.1.cls idx ci k ty fin nest) (hd : decode M.2.1 pc = .ok (.getfield idx, 3)) (ho : h.2 a = some (.inr (.inr (ci, fs)))) (hv : fs[k]? = some v) (kk : j_at G M (pc + 3) lv (v :: st) h c sl Q) : j_at G M pc lv (.ref a :: st) h c sl Q := by
  intro p e s m args below meth cd H locs ls cells slots mc ms hF hW hS hl hc hs
  have hlt := j_lt_of hW ho
  have ha : 5 ≤ a := by
    rcases Nat.lt_or_ge a 5 with q | q
    · obtain ⟨t, n, f, e1, -⟩ := hW.2.2.2.2.1 a q
      rw [ho] at e1; cases e1
    · exact q
  obtain ⟨C, T, N, ty0, ⟨c1, c2, c3, c4, c5⟩, hk, -, -, hlk⟩ := hf
  obtain ⟨hx, hb, hr, hml, hown, hts, hlo, hnm, hsz, hV⟩ := id hF
  have he := j_ws_at (G := G) ha hlt ho
  have hw := kk p e s m args below meth cd H locs ls cells slots mc ms hF hW hS hl hc hs
  rcases hlk with ⟨-, -, hlk⟩ | ⟨-, host, hlk⟩
  · exact va_get (D := G.2.1) (ci := ci) (v := j_cv G v) (C := C) (T := T) (N := N) hx hb hts c2 hown hV.1 hW.2.2.2.1 (a - 5) he c1 k hk (hts _ hlk) (fun _ h9 => by rw [c5 k hk] at h9; exact h9) (j_len_map hv) hd hw
  · exact va_getN (D := G.2.1) (ci := ci) (v := j_cv G v) (C := C) (T := T) (N := N) hx hb hts c2 hown hV.1 hW.2.2.2.1 (a - 5) he c1 k hk (va_Nw.use rfl (hV.2.1 _ hlk)) (fun _ h9 => by rw [c5 k hk] at h9; exact h9) (j_len_map hv) hd hw
theorem a_putfield {G : j_G} {M : j_M} {pc : Nat} {lv : List (Nat × Value)} {st : List Value} {h : j_H} {c sl : Nat} {Q : j_P} {idx ci k a : Nat} {ty : FieldType} {fin nest : Bool} {fs : List Value} {v : Value} (hf : j_FL M.1.cls idx ci k ty fin nest) (hd : decode M.2.1 pc = .ok (.putfield idx, 3)) (ho : h.2 a = some (.inr (.inr (ci, fs)))) (hv : k < fs.length) (hn : narrow ty (j_cv G v) = j_cv G v) (hfi : fits ty (j_cv G v) = true) (hfin : fin = false ∨ nest = false ∧ M.1.name = "<init>") (kk : j_at G M (pc + 3) lv st (j_set h a (.inr (.inr (ci, fs.set k v)))) c sl Q) : j_at G M pc lv (v :: .ref a :: st) h c sl Q := by
  intro p e s m args below meth cd H locs ls cells slots mc ms hF hW hS hl hc hs
  have hlt := j_lt_of hW ho
  have ha : 5 ≤ a := by
    rcases Nat.lt_or_ge a 5 with q | q
    · obtain ⟨t, n, f, e1, -⟩ := hW.2.2.2.2.1 a q
      rw [ho] at e1; cases e1
    · exact q
  obtain ⟨C, T, N, ty0, ⟨c1, c2, c3, c4, c5⟩, hk, rfl, hfe, hlk⟩ := hf
  obtain ⟨hx, hb, hr, hml, hown, hts, hlo, hnm, hsz, hV⟩ := id hF
  have hap := va_apart (own := M.1.cls) hts c2 ty0 c3 c4 hV.1 c1
  obtain ⟨r, h1, cell, q1, q2, q3, q4⟩ := hW.2.2.2.1 (a - 5) _ (j_ws_at (G := G) ha hlt ho)
  have hr9 : r = (C, T, N) := Option.some.inj (h1.symm.trans c1)
  subst hr9
  obtain ⟨hSl, hfc, kC, hkC, hkind⟩ := hV.1.1 ci _ c1
  obtain ⟨cf, kf, fi, f, hi, hsl⟩ := hSl k hk
  have hlay := hts _ (c2 _ (u_in_lay hk))
  have hst := (u_facts hfc hkC (u_lays hts c2 hk) hi).1
  have hi2 : s.fieldFound? C (T k).2.1 (T k).2.2.1 = some (cf, kf, fi, f) := by rw [c5 k hk] at hi; exact hi
  have go : ∀ H' : Heap, H'[j_rho G a]? = some (cell.setSlot f.slot (j_cv G v)) → H'.size = H.size → (∀ q, q ≠ j_rho G a → H'[q]? = H[q]?) → W p G.1 e { frames := M.2.2.2.2.1, cells := mc, slots := ms, locals := M.2.2.2.2.2 } s m args below meth cd H' (locs ++ [⟨j_rho G a, f.slot⟩]) cells slots (MQ below (j_Q G Q) args s mc ms (j_A G)) (F0 m (pc + 3) ls (st.map (j_cv G))) := by
    intro H' e1 e2 e3
    refine kk p e s m args below meth cd H' _ ls cells slots mc ms hF (j_upd hW ha ho ?_ e2 e3) (hS.put e2 e3 (j_rho_A ha)) hl hc hs
    rw [hsl] at e1
    refine ⟨_, c1, t_OB.to (V := updV (vp_V (fs.map (j_cv G))) k (j_cv G v)) ⟨_, e1, q2, q3, t_set q4 hap hk _⟩ (fun j _ => ?_)⟩
    show _ = vp_V ((fs.set k v).map (j_cv G)) j
    rw [List.map_set]
    exact vp_updV_set (by simpa using hv) (j_cv G v) j
  by_cases hfb : fin = true
  · rcases hfin with h9 | ⟨hne, hin⟩
    · rw [h9] at hfb; cases hfb
    · rcases hlk with ⟨-, hc9, hlk⟩ | ⟨hne2, -⟩
      · unfold u_lay at hlay
        rw [if_pos (hfe.trans hfb)] at hlay
        have hcf : m.cls = cf := by
          obtain ⟨_, _, c', _, _, _, -, -, hf', -, -, -, hown2, -⟩ := Cond.laysFinal_spec hlay
          have e1 : c' = cf := by have := hi.symm.trans hf'; simp at this; exact this.1.symm
          rw [c5 k hk, ← hc9] at hown2
          rw [← e1]; exact Option.some.inj (hown.symm.trans hown2)
        have h6 := u_fits hfc hkC hkind (Or.inr hlay) hi (c3 k hk) hn hfi
        exact W.putFinK hx hb hown (hts _ hlk) hi2 hst hcf (hnm.trans hin) (by rw [q2]; exact h6) q1 q3 (by rw [hsl]; exact k2_hasslot (q4 k hk)) rfl rfl hd go
      · rw [hne] at hne2; cases hne2
  · have hfb : fin = false := by cases fin <;> simp_all
    unfold u_lay at hlay
    rw [if_neg (by rw [hfe, hfb]; decide)] at hlay
    have h6 := u_store hfc hkC hkind hlay hi (c3 k hk) hn hfi
    rcases hlk with ⟨-, -, hlk⟩ | ⟨-, host, hlk⟩
    · exact W.putK hx hb (f := f) ⟨hown, hts _ hlk, ⟨_, _, _, hi2⟩, hst⟩ (by rw [q2]; exact h6) q1 q3 (by rw [hsl]; exact k2_hasslot (q4 k hk)) rfl rfl hd go
    · exact va_WputK hx hb (f := f) hown (va_Nw.use rfl (hV.2.1 _ hlk)) hi2 hst (by rw [q2]; exact h6) q1 q3 (by rw [hsl]; exact k2_hasslot (q4 k hk)) rfl rfl hd go
