/-! Calls. -/
/-- behind a call -/
theorem j_callW {G : j_G} {p : Program} {e : Env} {R : Room} {s : State} {m : MethodId} {args : Array Value} {below : List Frame} {meth : Method} {cd : Code} {H : Heap} {locs : List Loc} {cells slots c' sl' pc : Nat} {ls : Array Slot} {st0 rest : List Value} {Q' : j_P} {a : Array Value} {Qf : State → Prop}
    (hr : va_Run p G.1 e R s m args below meth cd H locs cells slots c' sl' (F0 m pc ls st0) rest (j_Q G Q' a) (j_A G)) (hS : va_S (j_A G) s.heap H locs)
    (kk : ∀ (v : Option Value) (h' : j_H) (H1 : Heap) (locs1 : List Loc), Q' v h' → j_W G h' s H1 → va_S (j_A G) s.heap H1 locs1 → W p G.1 e R s m args below meth cd H1 locs1 (cells + c') (slots + sl') Qf (F0 m (pc + 3) ls ((v.map (j_cv G)).toList ++ rest))) : W p G.1 e R s m args below meth cd H locs cells slots Qf (F0 m pc ls st0) := by
  intro T hT X
  obtain ⟨v, st₀, t, T', L, h0, X', hL, e1, e2, ⟨⟨v', h', hv, hq, hw⟩, hz, hk⟩, st⟩ := hr T hT X
  cases hv
  rw [h0] at hz hk
  have ha : s.vm.Alike t.vm := by rw [← e2]; exact X'.warmed.alike
  obtain ⟨t2, a1, b1⟩ := kk v' h' T'.heap (locs ++ L) hq (by rw [e1]; exact hw.moved ha.symm) ⟨Nat.le_trans hS.1 (by rw [e1]; exact hz), fun q h1 h2 => by rw [e1, hk q (Nat.lt_of_lt_of_le h1 hS.1) h2]; exact hS.2.1 q h1 h2, fun q hq => by
      rcases List.mem_append.mp hq with h | h
      · exact hS.2.2 q h
      · exact hL q h⟩ T' rfl X'
  exact ⟨t2, st t2 a1, b1⟩
theorem j_blind {G : j_G} {av : List Value} {h : j_H} : FrameBlind (va_Pc av (fun U => j_V G U ∧ j_W G h U U.heap)) := by
  intro a U g mk q
  obtain ⟨q0, qV, qW⟩ := q
  exact ⟨q0, j_V.same (s := U) (U := U.calling g mk a) rfl qV, j_W.moved (s := U) (U := U.calling g mk a) (Vm.Alike.refl U.vm) qW⟩
theorem j_goodIn {M : j_M} (hc : Cond.code M.1 M.2.1 M.2.2.1 M.2.2.2.1 ∈ j_wg) : GoodIn j_wg (Cond.code M.1 M.2.1 M.2.2.1 M.2.2.2.1 :: j_wg) := fun w hw => by
  have h1 : w ∈ j_wg := (List.mem_cons.mp hw).elim (fun e => e ▸ hc) id
  exact ⟨h1, j_good w h1⟩
/-- a method's link: kind 0 an instance method, 1 a static one, 2 a constructor; n parameters -/
def j_ML (kind : Nat) (own : String) (idx : Nat) (M : j_M) (n : Nat) : Prop :=
  (Cond.methodLink own idx M.1 ∈ j_wg ∨ ∃ host, Cond.methodLinkNest own idx M.1 host ∈ j_wn) ∧ (match kind with | 0 => Cond.instanceMethod M.1 ∈ j_wg ∧ Cond.selects M.1.cls M.1 M.1 ∈ j_wg | 1 => Cond.static M.1 ∈ j_wg | _ => Cond.instanceMethod M.1 ∈ j_wg ∧ M.1.name = "<init>" ∧ M.2.2.2.1 = none) ∧
  Cond.code M.1 M.2.1 M.2.2.1 M.2.2.2.1 ∈ j_wg ∧ Cond.initialized M.1.cls ∈ j_wg ∧ M.1.cls ≠ "java/lang/invoke/MethodHandle" ∧ M.1.cls ≠ "java/lang/invoke/VarHandle" ∧ (parseMethodDescriptor M.1.desc).map (fun d => d.parameters.length) = some n
/-- the room of a callee fits its caller's -/
def j_fit (M M' : j_M) : Prop := M'.2.2.2.2.1 + 1 ≤ M.2.2.2.2.1 ∧ 8 + (M'.2.2.1 + 11) + M'.2.2.2.2.2 ≤ M.2.2.2.2.2
theorem j_cats {G : j_G} (rest : List Value) : ((rest.map (j_cv G)).map fun v => v.category) = rest.map fun v => v.category := by simp [Function.comp_def, j_cv_cat]
theorem a_callV {G : j_G} {M : j_M} {pc : Nat} {lv : List (Nat × Value)} {h : j_H} {c sl : Nat} {Q : j_P} {M' : j_M} {idx n b ci : Nat} {fs : List Value} {q9 : vw_C} {st0 : List Value} (As rest : List Value) {c' sl' : Nat} {Q' : j_P} (hm : j_ML 0 M.1.cls idx M' n) (hd : decode M.2.1 pc = .ok (.invokevirtual idx, 3)) (hst : st0 = As.reverse ++ .ref b :: rest) (hn : As.length = n) (ho : h.2 b = some (.inr (.inr (ci, fs)))) (hci : vwCl[ci]? = some q9) (hcn : q9.1 = M'.1.cls) (hrest : (rest.map fun v => v.category).sum ≤ 8) (hfit : j_fit M M') (hrun : j_run G M' (.ref b :: As) h c' sl' Q') (kk : ∀ v h', Q' v h' → j_at G M (pc + 3) lv (v.toList ++ rest) h' c sl Q) : j_at G M pc lv st0 h (c + c') (sl + sl') Q := by
  intro p e s m args below meth cd H locs ls cells slots mc ms hF hW hS hl hc hs
  obtain ⟨hx, hb, hr, hml, hown, hts, hlo, hnm, hsz, hV⟩ := id hF
  subst hst
  have h5 : 5 ≤ b := by
    rcases Nat.lt_or_ge b 5 with q | q
    · obtain ⟨t, n', f, e1, -⟩ := hW.2.2.2.2.1 b q
      rw [ho] at e1; cases e1
    · exact q
  obtain ⟨hlk, ⟨hm2, hm3⟩, hm4, hm5, hm6, hm7, hm8⟩ := hm
  obtain ⟨r, h1, cell, q1, q2, q3, q4⟩ := hW.2.2.2.1 (b - 5) _ (j_ws_at (G := G) h5 (j_lt_of hW ho) ho)
  have hr9 : r = q9 := Option.some.inj (h1.symm.trans hci)
  subst hr9
  have hrecv : ∃ cellB : Cell, H[j_rho G b]? = some cellB ∧ cellB.vm.isStatics = false ∧ s.vm.findClass M'.1.cls = some cellB.cls := ⟨cell, q1, by rw [q3]; rfl, by rw [← hcn, q2]; exact (hV.1.1 ci _ hci).2.1⟩
  have hpre : PreV s H M'.1.cls (j_rho G b) (va_Pc ((Value.ref b :: As).map (j_cv G)) (fun U => j_V G U ∧ j_W G h U U.heap)) (As.map (j_cv G)) := ⟨j_blind, hrecv, fun U hU hw => ⟨rfl, hV.moved hw, by rw [hU]; exact hW.moved hw.alike⟩⟩
  have hstk : ((As.reverse ++ Value.ref b :: rest).map (j_cv G)) = (As.map (j_cv G)).reverse ++ .ref (j_rho G b) :: rest.map (j_cv G) := by simp [List.map_reverse, j_cv]
  rw [hstk]
  have hroom : 2 * (F0 m pc ls ((As.map (j_cv G)).reverse ++ .ref (j_rho G b) :: rest.map (j_cv G))).monitorRoom + ((rest.map (j_cv G)).map fun v => v.category).sum ≤ 8 := lv_room (by rw [j_cats]; exact hrest)
  have go : ∀ (v : Option Value) (h' : j_H) (H1 : Heap) (locs1 : List Loc), Q' v h' → j_W G h' s H1 → va_S (j_A G) s.heap H1 locs1 → W p G.1 e { frames := M.2.2.2.2.1, cells := mc, slots := ms, locals := M.2.2.2.2.2 } s m args below meth cd H1 locs1 (cells + c') (slots + sl') (MQ below (j_Q G Q) args s mc ms (j_A G)) (F0 m (pc + 3) ls ((v.map (j_cv G)).toList ++ rest.map (j_cv G))) := by
    intro v h' H1 locs1 hq hw hs1
    have := kk v h' hq p e s m args below meth cd H1 locs1 ls (cells + c') (slots + sl') mc ms hF hw hs1 hl (by omega) (by omega)
    rw [List.map_append] at this
    cases v <;> exact this
  have hbud : cells + c' ≤ ({ frames := M.2.2.2.2.1, cells := mc, slots := ms, locals := M.2.2.2.2.2 } : Room).cells ∧ slots + sl' ≤ ({ frames := M.2.2.2.2.1, cells := mc, slots := ms, locals := M.2.2.2.2.2 } : Room).slots := ⟨by show _ ≤ mc; omega, by show _ ≤ ms; omega⟩
  rcases hlk with hlk | ⟨host, hlk⟩
  · exact j_callW (va_runV (As := As.map (j_cv G)) (rest := rest.map (j_cv G)) ⟨hx, hb, hml, hown, hts⟩ hrun ⟨callB_of n hts (j_goodIn hm4) rfl rfl rfl (hts _ hm5) (hts _ hlk) ⟨hm6, hm7, hm8⟩ hfit, hts _ hm2, hts _ hm3⟩ hpre rfl (by simpa using hn) hl.1 rfl hroom hd hbud) hS go
  · exact j_callW (va_runVN (As := As.map (j_cv G)) (rest := rest.map (j_cv G)) ⟨hx, hb, hml, hown, hts⟩ hrun ⟨va_cnB n hts (j_goodIn hm4) rfl rfl rfl (hV.2.1 _ hlk) (hts _ hm5) ⟨hm6, hm7, hm8⟩ hfit, hts _ hm2, hts _ hm3⟩ hpre rfl (by simpa using hn) hl.1 rfl hroom hd hbud) hS go
theorem a_callS {G : j_G} {M : j_M} {pc : Nat} {lv : List (Nat × Value)} {h : j_H} {c sl : Nat} {Q : j_P} {M' : j_M} {idx n : Nat} {st0 : List Value} (As rest : List Value) {c' sl' : Nat} {Q' : j_P} (hm : j_ML 1 M.1.cls idx M' n) (hd : decode M.2.1 pc = .ok (.invokestatic idx, 3)) (hst : st0 = As.reverse ++ rest) (hn : As.length = n) (hrest : (rest.map fun v => v.category).sum ≤ 8) (hfit : j_fit M M') (hrun : j_run G M' As h c' sl' Q') (kk : ∀ v h', Q' v h' → j_at G M (pc + 3) lv (v.toList ++ rest) h' c sl Q) : j_at G M pc lv st0 h (c + c') (sl + sl') Q := by
  intro p e s m args below meth cd H locs ls cells slots mc ms hF hW hS hl hc hs
  obtain ⟨hx, hb, hr, hml, hown, hts, hlo, hnm, hsz, hV⟩ := id hF
  subst hst
  obtain ⟨hlk, hm2, hm4, hm5, hm6, hm7, hm8⟩ := hm
  have hpre : PreS s H (va_Pc ((As : List Value).map (j_cv G)) (fun U => j_V G U ∧ j_W G h U U.heap)) (As.map (j_cv G)) := ⟨j_blind, fun U hU hw => ⟨rfl, hV.moved hw, by rw [hU]; exact hW.moved hw.alike⟩⟩
  have hstk : ((As.reverse ++ rest).map (j_cv G)) = (As.map (j_cv G)).reverse ++ rest.map (j_cv G) := by simp [List.map_reverse, j_cv]
  rw [hstk]
  have hroom : 2 * (F0 m pc ls ((As.map (j_cv G)).reverse ++ rest.map (j_cv G))).monitorRoom + ((rest.map (j_cv G)).map fun v => v.category).sum ≤ 8 := lv_room (by rw [j_cats]; exact hrest)
  have go : ∀ (v : Option Value) (h' : j_H) (H1 : Heap) (locs1 : List Loc), Q' v h' → j_W G h' s H1 → va_S (j_A G) s.heap H1 locs1 → W p G.1 e { frames := M.2.2.2.2.1, cells := mc, slots := ms, locals := M.2.2.2.2.2 } s m args below meth cd H1 locs1 (cells + c') (slots + sl') (MQ below (j_Q G Q) args s mc ms (j_A G)) (F0 m (pc + 3) ls ((v.map (j_cv G)).toList ++ rest.map (j_cv G))) := by
    intro v h' H1 locs1 hq hw hs1
    have := kk v h' hq p e s m args below meth cd H1 locs1 ls (cells + c') (slots + sl') mc ms hF hw hs1 hl (by omega) (by omega)
    rw [List.map_append] at this
    cases v <;> exact this
  have hbud : cells + c' ≤ ({ frames := M.2.2.2.2.1, cells := mc, slots := ms, locals := M.2.2.2.2.2 } : Room).cells ∧ slots + sl' ≤ ({ frames := M.2.2.2.2.1, cells := mc, slots := ms, locals := M.2.2.2.2.2 } : Room).slots := ⟨by show _ ≤ mc; omega, by show _ ≤ ms; omega⟩
  rcases hlk with hlk | ⟨host, hlk⟩
  · exact j_callW (va_runS (As := As.map (j_cv G)) (rest := rest.map (j_cv G)) ⟨hx, hb, hml, hown, hts⟩ hrun ⟨callB_of n hts (j_goodIn hm4) rfl rfl rfl (hts _ hm5) (hts _ hlk) ⟨hm6, hm7, hm8⟩ hfit, hts _ hm2⟩ hpre rfl (by simpa using hn) hl.1 rfl hroom hd hbud) hS go
  · exact j_callW (va_runSN (As := As.map (j_cv G)) (rest := rest.map (j_cv G)) ⟨hx, hb, hml, hown, hts⟩ hrun ⟨va_cnB n hts (j_goodIn hm4) rfl rfl rfl (hV.2.1 _ hlk) (hts _ hm5) ⟨hm6, hm7, hm8⟩ hfit, hts _ hm2, trivial⟩ hpre rfl (by simpa using hn) hl.1 rfl hroom hd hbud) hS go
theorem a_callI {G : j_G} {M : j_M} {pc : Nat} {lv : List (Nat × Value)} {h : j_H} {c sl : Nat} {Q : j_P} {M' : j_M} {idx n : Nat} {b : Nat} {st0 : List Value} (As rest : List Value) {c' sl' : Nat} {Q' : j_P} (hm : j_ML 2 M.1.cls idx M' n) (hd : decode M.2.1 pc = .ok (.invokespecial idx, 3)) (hst : st0 = As.reverse ++ .ref b :: rest) (hn : As.length = n) (hrest : (rest.map fun v => v.category).sum ≤ 8) (hfit : j_fit M M') (hrun : j_run G M' (.ref b :: As) h c' sl' Q') (kk : ∀ v h', Q' v h' → j_at G M (pc + 3) lv (v.toList ++ rest) h' c sl Q) : j_at G M pc lv st0 h (c + c') (sl + sl') Q := by
  intro p e s m args below meth cd H locs ls cells slots mc ms hF hW hS hl hc hs
  obtain ⟨hx, hb, hr, hml, hown, hts, hlo, hnm, hsz, hV⟩ := id hF
  subst hst
  obtain ⟨hlk, ⟨hm2, hm3, hm9⟩, hm4, hm5, hm6, hm7, hm8⟩ := hm
  have hpre : PreS s H (va_Pc (((.ref b :: As) : List Value).map (j_cv G)) (fun U => j_V G U ∧ j_W G h U U.heap)) (.ref (j_rho G b) :: As.map (j_cv G)) := ⟨j_blind, fun U hU hw => ⟨rfl, hV.moved hw, by rw [hU]; exact hW.moved hw.alike⟩⟩
  have hstk : ((As.reverse ++ .ref b :: rest).map (j_cv G)) = (As.map (j_cv G)).reverse ++ .ref (j_rho G b) :: rest.map (j_cv G) := by simp [List.map_reverse, j_cv]
  rw [hstk]
  have hroom : 2 * (F0 m pc ls ((As.map (j_cv G)).reverse ++ .ref (j_rho G b) :: rest.map (j_cv G))).monitorRoom + ((rest.map (j_cv G)).map fun v => v.category).sum ≤ 8 := lv_room (by rw [j_cats]; exact hrest)
  have go : ∀ (v : Option Value) (h' : j_H) (H1 : Heap) (locs1 : List Loc), Q' v h' → j_W G h' s H1 → va_S (j_A G) s.heap H1 locs1 → W p G.1 e { frames := M.2.2.2.2.1, cells := mc, slots := ms, locals := M.2.2.2.2.2 } s m args below meth cd H1 locs1 (cells + c') (slots + sl') (MQ below (j_Q G Q) args s mc ms (j_A G)) (F0 m (pc + 3) ls ((v.map (j_cv G)).toList ++ rest.map (j_cv G))) := by
    intro v h' H1 locs1 hq hw hs1
    have := kk v h' hq p e s m args below meth cd H1 locs1 ls (cells + c') (slots + sl') mc ms hF hw hs1 hl (by omega) (by omega)
    rw [List.map_append] at this
    cases v <;> exact this
  have hbud : cells + c' ≤ ({ frames := M.2.2.2.2.1, cells := mc, slots := ms, locals := M.2.2.2.2.2 } : Room).cells ∧ slots + sl' ≤ ({ frames := M.2.2.2.2.1, cells := mc, slots := ms, locals := M.2.2.2.2.2 } : Room).slots := ⟨by show _ ≤ mc; omega, by show _ ≤ ms; omega⟩
  obtain ⟨y9, by9, ml9, rt9, fr9, lo9⟩ := M'
  cases hm9
  rcases hlk with hlk | ⟨host, hlk⟩
  · exact j_callW (va_runI (As := As.map (j_cv G)) (rest := rest.map (j_cv G)) ⟨hx, hb, hml, hown, hts⟩ hrun ⟨callB_of n hts (j_goodIn hm4) rfl rfl rfl (hts _ hm5) (hts _ hlk) ⟨hm6, hm7, hm8⟩ hfit, hm3, hts _ hm2⟩ hpre rfl (by simpa using hn) hl.1 rfl hroom hd hbud) hS go
  · exact j_callW (va_runIN (As := As.map (j_cv G)) (rest := rest.map (j_cv G)) ⟨hx, hb, hml, hown, hts⟩ hrun ⟨va_cnB n hts (j_goodIn hm4) rfl rfl rfl (hV.2.1 _ hlk) (hts _ hm5) ⟨hm6, hm7, hm8⟩ hfit, hm3, hts _ hm2⟩ hpre rfl (by simpa using hn) hl.1 rfl hroom hd hbud) hS go
theorem a_objInit {G : j_G} {M : j_M} {pc : Nat} {lv : List (Nat × Value)} {h : j_H} {c sl : Nat} {Q : j_P} {st : List Value} {idx a : Nat} (hw : Cond.methodLink M.1.cls idx objectInit ∈ j_wg) (hw1 : Cond.instanceMethod objectInit ∈ j_wg) (hw2 : Cond.code objectInit ⟨#[0xb1]⟩ 1 none ∈ j_wg) (hd : decode M.2.1 pc = .ok (.invokespecial idx, 3)) (hfr : 1 ≤ M.2.2.2.2.1) (hlo : (st.map fun v => v.category).sum + 12 ≤ M.2.2.2.2.2) (kk : j_at G M (pc + 3) lv st h c sl Q) : j_at G M pc lv (.ref a :: st) h c sl Q := by
  intro p e s m args below meth cd H locs ls cells slots mc ms hF hW hS hl hc hs
  obtain ⟨hx, hb, hr, hml, hown, hts, hlk, hnm, hsz, hV⟩ := id hF
  have hw9 := kk p e s m args below meth cd H locs ls cells slots mc ms hF hW hS hl hc hs
  exact W.objInit hx hb hown (hts _ hw) (hts _ hw1) (hts _ hw2) rfl (by rw [hml]; exact hl.1) rfl hd hfr (by show 2 * 0 + ((st.map (j_cv G)).map fun v => v.category).sum + 12 ≤ M.2.2.2.2.2; rw [j_cats]; omega) hw9
