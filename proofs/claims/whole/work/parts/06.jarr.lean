/-! Arrays, new cells, statics. -/
theorem j_kept_back {G : j_G} {s : State} {H : Heap} {locs : List Loc} (hS : va_S (j_A G) s.heap H locs) (hsz : G.2.2.2.2 ≤ s.heap.size) : ∀ a : Nat, a < H.size → ¬ j_A G a → s.heap[a]? = H[a]? := fun a _ ha => (hS.2.1 a (by have : ¬ G.2.2.2.2 ≤ a := ha; omega) ha).symm
theorem j_born_S {G : j_G} {H0 H H1 : Heap} {locs : List Loc} (hS : va_S (j_A G) H0 H locs) (z : H1.size = H.size + 1) (o1 : ∀ q : Nat, q < H.size → H1[q]? = H[q]?) : va_S (j_A G) H0 H1 locs := ⟨Nat.le_trans hS.1 (by omega), fun x h1 h2 => (o1 x (Nat.lt_of_lt_of_le h1 hS.1)).trans (hS.2.1 x h1 h2), hS.2.2⟩
theorem a_new {G : j_G} {M : j_M} {pc : Nat} {lv : List (Nat × Value)} {st : List Value} {h : j_H} {c sl : Nat} {Q : j_P} {idx ci N : Nat} {C : String} {T : u_T} {ty0 : Nat → FieldType} {fs : List Value} (hC : j_CI ci C T N ty0) (hw : Cond.classLink M.1.cls idx C ∈ j_wg) (hw2 : Cond.instantiable C N ∈ j_wg) (hw3 : Cond.initialized C ∈ j_wg) (hd : decode M.2.1 pc = .ok (.new idx, 3)) (hfs : ∀ j, j < N → defaultValue (ty0 j) = vp_V (fs.map (j_cv G)) j) (kk : j_at G M (pc + 3) lv (.ref h.1 :: st) (j_new h (.inr (.inr (ci, fs)))) c sl Q) : j_at G M pc lv st h (c + 1) (sl + N) Q := by
  intro p e s m args below meth cd H locs ls cells slots mc ms hF hW hS hl hc hs
  obtain ⟨hx, hb, hr, hml, hown, hts, hlo, hnm, hsz, hV⟩ := id hF
  obtain ⟨c1, c2, c3, c4, c5⟩ := hC
  have hKn := hV.1.1 ci _ c1
  refine W.newcK hx hb hown (hts _ hw) (hts _ hw2) (hts _ hw3) rfl hd (by show _ ≤ mc; omega) (by show _ ≤ ms; omega) hKn.2.1 rfl fun H1 kC hkC e1 z1 o1 => ?_
  have := kk p e s m args below meth cd H1 locs ls (cells + 1) (slots + N) mc ms hF (j_born hW (by rw [j_rho_size hW]; exact ⟨_, c1, (u_born ty0 hts c2 hKn hkC e1 c3).to hfs⟩) z1 o1) (j_born_S hS z1 o1) hl (by omega) (by omega)
  rw [List.map_cons, show j_cv G (.ref h.1) = .ref H.size by show Value.ref _ = _; rw [j_rho_size hW]] at this
  exact this
theorem a_newarray {G : j_G} {M : j_M} {pc : Nat} {lv : List (Nat × Value)} {st : List Value} {h : j_H} {c sl : Nat} {Q : j_P} {t n : Nat} {aty : ArrayType} (hd : decode M.2.1 pc = .ok (.newarray aty, 2)) (ht : t < 3) (hty : newarray.typeOf aty = j_ty t) (hw : Cond.arrayClass (j_ty t) ∈ j_wg) (hn : n ≤ 1000000) (kk : j_at G M (pc + 2) lv (.ref h.1 :: st) (j_new h (.inl (t, n, fun _ => 0))) c sl Q) : j_at G M pc lv (j_i (n : Int) :: st) h (c + 1) (sl + n) Q := by
  intro p e s m args below meth cd H locs ls cells slots mc ms hF hW hS hl hc hs
  obtain ⟨hx, hb, hr, hml, hown, hts, hlo, hnm, hsz, hV⟩ := id hF
  have hdv : defaultValue (j_ty t) = .int 0 := by rcases (show t = 0 ∨ t = 1 ∨ t = 2 by omega) with rfl | rfl | rfl <;> rfl
  have hbyt : n * componentBytes (j_ty t) ≤ 536870912 := by rcases (show t = 0 ∨ t = 1 ∨ t = 2 by omega) with rfl | rfl | rfl <;> simp [j_ty, componentBytes] <;> omega
  have hN : (Int32.ofInt (n : Int)).toNatClampNeg = n := by rw [j_cl (by omega)]; rfl
  refine va_newaK (N := n) hx hb (by rw [hty]; exact hts _ hw) rfl hd rfl (by rw [j_lt0 (by omega)]; omega) hN (by rw [hty]; exact hbyt) (by show _ ≤ mc; omega) (by show _ ≤ ms; omega) rfl fun H1 cA e1 z1 o1 hAr hNm => ?_
  have hcA : cA = G.2.2.1 t := by
    have h2 := (hV.1.2 t (G.2.2.1 t, j_ty t) (by rcases (show t = 0 ∨ t = 1 ∨ t = 2 by omega) with rfl | rfl | rfl <;> rfl)).2
    rw [hty] at hNm
    have h3 : s.vm.findClass ("[" ++ (j_ty t).toString) = some (G.2.2.1 t) := by rcases (show t = 0 ∨ t = 1 ∨ t = 2 by omega) with rfl | rfl | rfl <;> exact h2
    exact Option.some.inj (hNm.symm.trans h3)
  subst hcA
  rw [hty, hdv] at e1
  have := kk p e s m args below meth cd H1 locs ls (cells + 1) (slots + n) mc ms hF (j_born hW (by rw [j_rho_size hW]; exact e1) z1 o1) (j_born_S hS z1 o1) hl (by omega) (by omega)
  rw [List.map_cons, show j_cv G (.ref h.1) = .ref H.size by show Value.ref _ = _; rw [j_rho_size hW]] at this
  exact this
theorem a_anewarray {G : j_G} {M : j_M} {pc : Nat} {lv : List (Nat × Value)} {st : List Value} {h : j_H} {c sl : Nat} {Q : j_P} {n idx : Nat} (hd : decode M.2.1 pc = .ok (.anewarray idx, 3)) (hw : Cond.classLink M.1.cls idx "BackIndex$Kept" ∈ j_wg) (hn : n ≤ 1000000) (kk : j_at G M (pc + 3) lv (.ref h.1 :: st) (j_new h (.inr (.inl (n, fun _ => none)))) c sl Q) : j_at G M pc lv (j_i (n : Int) :: st) h (c + 1) (sl + n) Q := by
  intro p e s m args below meth cd H locs ls cells slots mc ms hF hW hS hl hc hs
  obtain ⟨hx, hb, hr, hml, hown, hts, hlo, hnm, hsz, hV⟩ := id hF
  have hN : (Int32.ofInt (n : Int)).toNatClampNeg = n := by rw [j_cl (by omega)]; rfl
  refine W.anew hx hb hown (hts _ hw) (va_AO.use hV.2.2) rfl hd rfl (by rw [j_lt0 (by omega)]; omega) (by rw [hN]; omega) (by show _ ≤ mc; omega) (by rw [hN]; show _ ≤ ms; omega) fun cA kA comp f1 f2 f3 f4 => ?_
  rw [hN]
  generalize hH1 : H.push ({ cls := cA, slots := Array.replicate n .null, vm := .none } : Cell) = H1
  have z1 : H1.size = H.size + 1 := by rw [← hH1, Array.size_push]
  have e1 : H1[H.size]? = some (arrV cA n (fun _ => .null)) := by rw [← hH1, Array.getElem?_push_size, ← arrV_new]
  have o1 : ∀ q : Nat, q < H.size → H1[q]? = H[q]? := fun q hq => by rw [← hH1, Array.getElem?_push, if_neg (Nat.ne_of_lt hq)]
  have hcA : cA = G.2.2.1 3 := by
    obtain ⟨_, _, -, -, -, h3⟩ := (hV.1.2 3 (G.2.2.1 3, .object "BackIndex$Kept") rfl).2
    exact Option.some.inj (f1.symm.trans h3)
  subst hcA
  have := kk p e s m args below meth cd H1 locs ls (cells + 1) (slots + n) mc ms hF (j_born hW (by rw [j_rho_size hW]; exact e1) z1 o1) (j_born_S hS z1 o1) hl (by omega) (by omega)
  rw [List.map_cons, show j_cv G (.ref h.1) = .ref H.size by show Value.ref _ = _; rw [j_rho_size hW]] at this
  exact this
theorem a_iaload {G : j_G} {M : j_M} {pc : Nat} {lv : List (Nat × Value)} {st : List Value} {h : j_H} {c sl : Nat} {Q : j_P} {a n : Nat} {i : Int} {f : Int → Int} (hd : decode M.2.1 pc = .ok (.iaload, 1)) (ho : h.2 a = some (.inl (0, n, f))) (hi : 0 ≤ i ∧ i < n) (hn : n ≤ 1000000) (kk : j_at G M (pc + 1) lv (j_i (f i) :: st) h c sl Q) : j_at G M pc lv (j_i i :: .ref a :: st) h c sl Q := by
  intro p e s m args below meth cd H locs ls cells slots mc ms hF hW hS hl hc hs
  obtain ⟨hx, hb, hr, hml, hown, hts, hlo, hnm, hsz, hV⟩ := id hF
  have hw := kk p e s m args below meth cd H locs ls cells slots mc ms hF hW hS hl hc hs
  have hcl : (Int32.ofInt i).toNatClampNeg = i.toNat := j_cl (by omega)
  have hvin : vp_in (Int32.ofInt i) n := j_vin hi (by omega)
  have hit : ((i.toNat : Nat) : Int) = i := by omega
  rcases Nat.lt_or_ge a 5 with ha | ha
  · show W _ _ _ _ _ _ _ _ _ _ _ _ _ _ _ (F0 m pc ls (.int _ :: .ref (j_rho G a) :: _))
    rw [j_rho_in ha]
    obtain ⟨t, n', f', e1, e2⟩ := hW.2.2.2.2.1 a ha
    rw [ho] at e1
    cases e1
    exact va_ti (v := j_i (f i)) hx hb (va_T.kept e2 (j_kept_back hS hsz)) hS hvin (by rw [hcl]; simp only [hit]) hd hw
  · show W _ _ _ _ _ _ _ _ _ _ _ _ _ _ _ (F0 m pc ls (.int _ :: .ref (j_rho G a) :: _))
    exact va_iald hx hb hV.1 hW.2.2.2.1 (a - 5) 0 (j_ws_at (G := G) ha (j_lt_of hW ho) ho) rfl hvin hd (by rw [hcl]; simp only [hit]; exact hw)
theorem a_baload {G : j_G} {M : j_M} {pc : Nat} {lv : List (Nat × Value)} {st : List Value} {h : j_H} {c sl : Nat} {Q : j_P} {a n : Nat} {i : Int} {f : Int → Int} (hd : decode M.2.1 pc = .ok (.baload, 1)) (ho : h.2 a = some (.inl (1, n, f))) (hi : 0 ≤ i ∧ i < n) (hn : n ≤ 1000000) (ha : 5 ≤ a) (kk : j_at G M (pc + 1) lv (j_i (f i) :: st) h c sl Q) : j_at G M pc lv (j_i i :: .ref a :: st) h c sl Q := by
  intro p e s m args below meth cd H locs ls cells slots mc ms hF hW hS hl hc hs
  obtain ⟨hx, hb, hr, hml, hown, hts, hlo, hnm, hsz, hV⟩ := id hF
  have hw := kk p e s m args below meth cd H locs ls cells slots mc ms hF hW hS hl hc hs
  have hcl : (Int32.ofInt i).toNatClampNeg = i.toNat := j_cl (by omega)
  have hvin : vp_in (Int32.ofInt i) n := j_vin hi (by omega)
  have hit : ((i.toNat : Nat) : Int) = i := by omega
  exact va_bald hx hb hV.1 hW.2.2.2.1 (a - 5) 1 (j_ws_at (G := G) ha (j_lt_of hW ho) ho) rfl hvin hd (by rw [hcl]; simp only [hit]; exact hw)
theorem a_zaload {G : j_G} {M : j_M} {pc : Nat} {lv : List (Nat × Value)} {st : List Value} {h : j_H} {c sl : Nat} {Q : j_P} {a n : Nat} {i : Int} {f : Int → Int} (hd : decode M.2.1 pc = .ok (.baload, 1)) (ho : h.2 a = some (.inl (2, n, f))) (hi : 0 ≤ i ∧ i < n) (hn : n ≤ 1000000) (ha : 5 ≤ a) (kk : j_at G M (pc + 1) lv (j_i (f i) :: st) h c sl Q) : j_at G M pc lv (j_i i :: .ref a :: st) h c sl Q := by
  intro p e s m args below meth cd H locs ls cells slots mc ms hF hW hS hl hc hs
  obtain ⟨hx, hb, hr, hml, hown, hts, hlo, hnm, hsz, hV⟩ := id hF
  have hw := kk p e s m args below meth cd H locs ls cells slots mc ms hF hW hS hl hc hs
  have hcl : (Int32.ofInt i).toNatClampNeg = i.toNat := j_cl (by omega)
  have hvin : vp_in (Int32.ofInt i) n := j_vin hi (by omega)
  have hit : ((i.toNat : Nat) : Int) = i := by omega
  exact va_zald hx hb hV.1 hW.2.2.2.1 (a - 5) 2 (j_ws_at (G := G) ha (j_lt_of hW ho) ho) rfl hvin hd (by rw [hcl]; simp only [hit]; exact hw)
theorem a_caload {G : j_G} {M : j_M} {pc : Nat} {lv : List (Nat × Value)} {st : List Value} {h : j_H} {c sl : Nat} {Q : j_P} {a n : Nat} {i : Int} {f : Int → Int} (hd : decode M.2.1 pc = .ok (.caload, 1)) (ho : h.2 a = some (.inl (3, n, f))) (hi : 0 ≤ i ∧ i < n) (hn : n ≤ 1000000) (ha : a < 5) (kk : j_at G M (pc + 1) lv (j_i (f i) :: st) h c sl Q) : j_at G M pc lv (j_i i :: .ref a :: st) h c sl Q := by
  intro p e s m args below meth cd H locs ls cells slots mc ms hF hW hS hl hc hs
  obtain ⟨hx, hb, hr, hml, hown, hts, hlo, hnm, hsz, hV⟩ := id hF
  have hw := kk p e s m args below meth cd H locs ls cells slots mc ms hF hW hS hl hc hs
  have hcl : (Int32.ofInt i).toNatClampNeg = i.toNat := j_cl (by omega)
  have hvin : vp_in (Int32.ofInt i) n := j_vin hi (by omega)
  have hit : ((i.toNat : Nat) : Int) = i := by omega
  show W _ _ _ _ _ _ _ _ _ _ _ _ _ _ _ (F0 m pc ls (.int _ :: .ref (j_rho G a) :: _))
  rw [j_rho_in ha]
  obtain ⟨t, n', f', e1, e2⟩ := hW.2.2.2.2.1 a ha
  rw [ho] at e1
  cases e1
  exact va_tc (v := j_i (f i)) hx hb (va_T.kept e2 (j_kept_back hS hsz)) hS hvin (by rw [hcl]; simp only [hit]) hd hw
theorem a_arraylength {G : j_G} {M : j_M} {pc : Nat} {lv : List (Nat × Value)} {st : List Value} {h : j_H} {c sl : Nat} {Q : j_P} {a tg n : Nat} {f : Int → Int} (hd : decode M.2.1 pc = .ok (.arraylength, 1)) (ho : h.2 a = some (.inl (tg, n, f))) (htg : tg < 3) (kk : j_at G M (pc + 1) lv (j_i (n : Int) :: st) h c sl Q) : j_at G M pc lv (.ref a :: st) h c sl Q := by
  intro p e s m args below meth cd H locs ls cells slots mc ms hF hW hS hl hc hs
  obtain ⟨hx, hb, hr, hml, hown, hts, hlo, hnm, hsz, hV⟩ := id hF
  have hw := kk p e s m args below meth cd H locs ls cells slots mc ms hF hW hS hl hc hs
  show W _ _ _ _ _ _ _ _ _ _ _ _ _ _ _ (F0 m pc ls (.ref (j_rho G a) :: _))
  rcases Nat.lt_or_ge a 5 with ha | ha
  · rw [j_rho_in ha]
    obtain ⟨t, n', f', e1, e2⟩ := hW.2.2.2.2.1 a ha
    rw [ho] at e1
    cases e1
    exact va_tlen (v := Int32.ofInt (n : Int)) hx hb (va_T.kept e2 (j_kept_back hS hsz)) hS (Int32.ofInt_eq_ofNat ..).symm hd hw
  · exact va_alen (v := Int32.ofInt (n : Int)) hx hb hV.1 hW.2.2.2.1 (a - 5) tg (j_ws_at (G := G) ha (j_lt_of hW ho) ho) (ty := j_ty tg) (by rcases (show tg = 0 ∨ tg = 1 ∨ tg = 2 by omega) with rfl | rfl | rfl <;> rfl) (Int32.ofInt_eq_ofNat ..).symm hd hw
def j_up (f : Int → Int) (i x : Int) : Int → Int := fun k => if k = i then x else f k
theorem j_up_upd {f : Int → Int} {i x : Int} (hi : 0 ≤ i) : updV (fun j : Nat => Value.int (Int32.ofInt (f (j : Int)))) i.toNat (j_i x) = fun j : Nat => Value.int (Int32.ofInt (j_up f i x (j : Int))) := by
  funext q
  by_cases hq : q = i.toNat
  · have h1 : (q : Int) = i := by omega
    simp only [updV, j_up]
    rw [if_pos hq, if_pos h1]
  · have h1 : ¬ (q : Int) = i := by omega
    simp only [updV, j_up]
    rw [if_neg hq, if_neg h1]
theorem a_iastore {G : j_G} {M : j_M} {pc : Nat} {lv : List (Nat × Value)} {st : List Value} {h : j_H} {c sl : Nat} {Q : j_P} {a n : Nat} {i x : Int} {f : Int → Int} (hd : decode M.2.1 pc = .ok (.iastore, 1)) (ho : h.2 a = some (.inl (0, n, f))) (ha : 5 ≤ a) (hi : 0 ≤ i ∧ i < n) (hn : n ≤ 1000000) (kk : j_at G M (pc + 1) lv st (j_set h a (.inl (0, n, j_up f i x))) c sl Q) : j_at G M pc lv (j_i x :: j_i i :: .ref a :: st) h c sl Q := by
  intro p e s m args below meth cd H locs ls cells slots mc ms hF hW hS hl hc hs
  obtain ⟨hx, hb, hr, hml, hown, hts, hlo, hnm, hsz, hV⟩ := id hF
  have hat := hW.2.2.2.1 (a - 5) _ (j_ws_at (G := G) ha (j_lt_of hW ho) ho)
  have hcl : (Int32.ofInt i).toNatClampNeg = i.toNat := j_cl (by omega)
  have hvin : vp_in (Int32.ofInt i) n := j_vin hi (by omega)
  refine W.iast hx hb hat ((hV.1.2 0 _ rfl).1 n (fun j => .int (Int32.ofInt (f (j : Int))))) (fun q => by cases q) (by show ¬ (_ ∨ (arrV _ _ _).slots.size ≤ _); rw [arrV_size]; exact hvin) rfl rfl hd fun H1 e1 z oq => ?_
  refine kk p e s m args below meth cd H1 _ ls cells slots mc ms hF (j_upd hW ha ho ?_ z oq) (hS.put z oq (j_rho_A ha)) hl hc hs
  show H1[j_rho G a]? = some (vp_cell _ _)
  rw [e1]
  show some ((arrV _ _ _).setSlot _ _) = _
  rw [arrV_store, hcl, j_up_upd hi.1]
  rfl
theorem a_bastore {G : j_G} {M : j_M} {pc : Nat} {lv : List (Nat × Value)} {st : List Value} {h : j_H} {c sl : Nat} {Q : j_P} {a n : Nat} {i x : Int} {f : Int → Int} (hd : decode M.2.1 pc = .ok (.bastore, 1)) (ho : h.2 a = some (.inl (1, n, f))) (ha : 5 ≤ a) (hi : 0 ≤ i ∧ i < n) (hn : n ≤ 1000000) (hx8 : -128 ≤ x ∧ x ≤ 127) (kk : j_at G M (pc + 1) lv st (j_set h a (.inl (1, n, j_up f i x))) c sl Q) : j_at G M pc lv (j_i x :: j_i i :: .ref a :: st) h c sl Q := by
  intro p e s m args below meth cd H locs ls cells slots mc ms hF hW hS hl hc hs
  obtain ⟨hx, hb, hr, hml, hown, hts, hlo, hnm, hsz, hV⟩ := id hF
  have hat := hW.2.2.2.1 (a - 5) _ (j_ws_at (G := G) ha (j_lt_of hW ho) ho)
  have hcl : (Int32.ofInt i).toNatClampNeg = i.toNat := j_cl (by omega)
  have hvin : vp_in (Int32.ofInt i) n := j_vin hi (by omega)
  refine W.bast hx hb hat ((hV.1.2 1 _ rfl).1 n (fun j => .int (Int32.ofInt (f (j : Int))))) (fun q => by cases q) (by show ¬ (_ ∨ (arrV _ _ _).slots.size ≤ _); rw [arrV_size]; exact hvin) rfl rfl hd fun H1 e1 z oq => ?_
  refine kk p e s m args below meth cd H1 _ ls cells slots mc ms hF (j_upd hW ha ho ?_ z oq) (hS.put z oq (j_rho_A ha)) hl hc hs
  show H1[j_rho G a]? = some (vp_cell _ _)
  rw [e1]
  have hnw : narrow .byte (.int (Int32.ofInt x)) = .int (Int32.ofInt x) := by
    have h9 : ∀ z : Int32, narrow .byte (.int z) = .int z.toInt8.toInt32 := fun _ => rfl
    rw [h9]
    congr 1
    rw [← Int32.toInt_inj, Int8.toInt_toInt32, Int32.toInt_toInt8, j_ti (by omega)]
    exact Int.bmod_eq_of_le (by omega) (by omega)
  try rw [hnw]
  show some ((arrV _ _ _).setSlot _ _) = _
  rw [arrV_store, hcl, j_up_upd hi.1]
  rfl
theorem a_zastore {G : j_G} {M : j_M} {pc : Nat} {lv : List (Nat × Value)} {st : List Value} {h : j_H} {c sl : Nat} {Q : j_P} {a n : Nat} {i x : Int} {f : Int → Int} (hd : decode M.2.1 pc = .ok (.bastore, 1)) (ho : h.2 a = some (.inl (2, n, f))) (ha : 5 ≤ a) (hi : 0 ≤ i ∧ i < n) (hn : n ≤ 1000000) (hx8 : x = 0 ∨ x = 1) (kk : j_at G M (pc + 1) lv st (j_set h a (.inl (2, n, j_up f i x))) c sl Q) : j_at G M pc lv (j_i x :: j_i i :: .ref a :: st) h c sl Q := by
  intro p e s m args below meth cd H locs ls cells slots mc ms hF hW hS hl hc hs
  obtain ⟨hx, hb, hr, hml, hown, hts, hlo, hnm, hsz, hV⟩ := id hF
  have hat := hW.2.2.2.1 (a - 5) _ (j_ws_at (G := G) ha (j_lt_of hW ho) ho)
  have hcl : (Int32.ofInt i).toNatClampNeg = i.toNat := j_cl (by omega)
  have hvin : vp_in (Int32.ofInt i) n := j_vin hi (by omega)
  refine W.zast hx hb hat ((hV.1.2 2 _ rfl).1 n (fun j => .int (Int32.ofInt (f (j : Int))))) (fun q => by cases q) (by show ¬ (_ ∨ (arrV _ _ _).slots.size ≤ _); rw [arrV_size]; exact hvin) rfl rfl hd fun H1 e1 z oq => ?_
  refine kk p e s m args below meth cd H1 _ ls cells slots mc ms hF (j_upd hW ha ho ?_ z oq) (hS.put z oq (j_rho_A ha)) hl hc hs
  show H1[j_rho G a]? = some (vp_cell _ _)
  rw [e1]
  have hnw : narrow .boolean (.int (Int32.ofInt x)) = .int (Int32.ofInt x) := by rcases hx8 with rfl | rfl <;> rfl
  try rw [hnw]
  show some ((arrV _ _ _).setSlot _ _) = _
  rw [arrV_store, hcl, j_up_upd hi.1]
  rfl
