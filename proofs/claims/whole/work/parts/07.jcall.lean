/-! Statics, arrays of references, arraycopy, calls. -/
def j_stn : Nat → String × String × String
  | 1 => ("BackIndex$Parts", "ROMAN_VALUES", "[I")
  | 2 => ("BackIndex$Parts", "ROMAN_LETTERS", "[C")
  | 3 => ("BackIndex$Parts", "ROMAN_AHEAD", "[C")
  | _ => ("BackIndex$Index", "PLACE_RANKS", "[I")
theorem a_getstatic {G : j_G} {M : j_M} {pc : Nat} {lv : List (Nat × Value)} {st : List Value} {h : j_H} {c sl : Nat} {Q : j_P} {idx k : Nat} (hk : k = 1 ∨ k = 2 ∨ k = 3 ∨ k = 4) (hw : Cond.fieldLink M.1.cls idx (j_stn k).1 (j_stn k).2.1 (j_stn k).2.2 ∈ j_wg) (hd : decode M.2.1 pc = .ok (.getstatic idx, 3)) (kk : j_at G M (pc + 3) lv (.ref k :: st) h c sl Q) : j_at G M pc lv st h c sl Q := by
  intro p e s m args below meth cd H locs ls cells slots mc ms hF hW hS hl hc hs
  obtain ⟨hx, hb, hr, hml, hown, hts, hlo, hnm, hsz, hV⟩ := id hF
  have hww := kk p e s m args below meth cd H locs ls cells slots mc ms hF hW hS hl hc hs
  have hZ : va_Z (j_stn k).1 (j_stn k).2.1 (j_stn k).2.2 (.ref (G.2.2.2.1 k)) (j_A G) s s.heap := by
    obtain ⟨z1, z2, z3, z4⟩ := j_st_kept hW.2.2.2.2.2 (j_kept_back hS hsz)
    rcases hk with rfl | rfl | rfl | rfl
    · exact z1
    · exact z2
    · exact z3
    · exact z4
  refine va_gets hx hb hZ hS hown (hts _ hw) (fun _ h9 => h9) hd ?_
  rw [List.map_cons, show j_cv G (.ref k) = .ref (G.2.2.2.1 k) by show Value.ref _ = _; rw [j_rho_in (by omega)]] at hww
  exact hww
theorem a_aaload {G : j_G} {M : j_M} {pc : Nat} {lv : List (Nat × Value)} {st : List Value} {h : j_H} {c sl : Nat} {Q : j_P} {a n b : Nat} {i : Int} {f : Int → Option Nat} (hd : decode M.2.1 pc = .ok (.aaload, 1)) (ho : h.2 a = some (.inr (.inl (n, f)))) (ha : 5 ≤ a) (hi : 0 ≤ i ∧ i < n) (hn : n ≤ 1000000) (hf : f i = some b) (kk : j_at G M (pc + 1) lv (.ref b :: st) h c sl Q) : j_at G M pc lv (j_i i :: .ref a :: st) h c sl Q := by
  intro p e s m args below meth cd H locs ls cells slots mc ms hF hW hS hl hc hs
  obtain ⟨hx, hb, hr, hml, hown, hts, hlo, hnm, hsz, hV⟩ := id hF
  have hw := kk p e s m args below meth cd H locs ls cells slots mc ms hF hW hS hl hc hs
  have hcl : (Int32.ofInt i).toNatClampNeg = i.toNat := j_cl (by omega)
  have hvin : vp_in (Int32.ofInt i) n := j_vin hi (by omega)
  have hit : ((i.toNat : Nat) : Int) = i := by omega
  refine va_aldq hx hb hV.1 hW.2.2.2.1 (a - 5) 3 (j_ws_at (G := G) ha (j_lt_of hW ho) ho) rfl hvin hd ?_
  rw [hcl]
  simp only [hit, hf]
  exact hw
theorem a_aaloadN {G : j_G} {M : j_M} {pc : Nat} {lv : List (Nat × Value)} {st : List Value} {h : j_H} {c sl : Nat} {Q : j_P} {a n : Nat} {i : Int} {f : Int → Option Nat} (hd : decode M.2.1 pc = .ok (.aaload, 1)) (ho : h.2 a = some (.inr (.inl (n, f)))) (ha : 5 ≤ a) (hi : 0 ≤ i ∧ i < n) (hn : n ≤ 1000000) (hf : f i = none) (kk : j_at G M (pc + 1) lv (.null :: st) h c sl Q) : j_at G M pc lv (j_i i :: .ref a :: st) h c sl Q := by
  intro p e s m args below meth cd H locs ls cells slots mc ms hF hW hS hl hc hs
  obtain ⟨hx, hb, hr, hml, hown, hts, hlo, hnm, hsz, hV⟩ := id hF
  have hw := kk p e s m args below meth cd H locs ls cells slots mc ms hF hW hS hl hc hs
  have hcl : (Int32.ofInt i).toNatClampNeg = i.toNat := j_cl (by omega)
  have hvin : vp_in (Int32.ofInt i) n := j_vin hi (by omega)
  have hit : ((i.toNat : Nat) : Int) = i := by omega
  refine va_aldq hx hb hV.1 hW.2.2.2.1 (a - 5) 3 (j_ws_at (G := G) ha (j_lt_of hW ho) ho) rfl hvin hd ?_
  rw [hcl]
  simp only [hit, hf]
  exact hw
def j_upr (f : Int → Option Nat) (i : Int) (x : Option Nat) : Int → Option Nat := fun k => if k = i then x else f k
theorem a_aastore {G : j_G} {M : j_M} {pc : Nat} {lv : List (Nat × Value)} {st : List Value} {h : j_H} {c sl : Nat} {Q : j_P} {a n b : Nat} {i : Int} {f : Int → Option Nat} {vs : List Value} (hd : decode M.2.1 pc = .ok (.aastore, 1)) (ho : h.2 a = some (.inr (.inl (n, f)))) (ha : 5 ≤ a) (hi : 0 ≤ i ∧ i < n) (hn : n ≤ 1000000) (hb9 : h.2 b = some (.inr (.inr (4, vs)))) (hbb : 5 ≤ b) (kk : j_at G M (pc + 1) lv st (j_set h a (.inr (.inl (n, j_upr f i (some b))))) c sl Q) : j_at G M pc lv (.ref b :: j_i i :: .ref a :: st) h c sl Q := by
  intro p e s m args below meth cd H locs ls cells slots mc ms hF hW hS hl hc hs
  obtain ⟨hx, hb, hr, hml, hown, hts, hlo, hnm, hsz, hV⟩ := id hF
  have hat := hW.2.2.2.1 (a - 5) _ (j_ws_at (G := G) ha (j_lt_of hW ho) ho)
  have hcl : (Int32.ofInt i).toNatClampNeg = i.toNat := j_cl (by omega)
  have hvin : vp_in (Int32.ofInt i) n := j_vin hi (by omega)
  obtain ⟨r', hr', cellV, g1, g2, g3, -⟩ := hW.2.2.2.1 (b - 5) _ (j_ws_at (G := G) hbb (j_lt_of hW hb9) hb9)
  have hcls := (hV.1.1 4 _ rfl).2
  obtain ⟨kA, comp, k1, k2, k3, -⟩ := (hV.1.2 3 _ rfl).2
  have hcomp : comp = G.2.1.1 4 := Option.some.inj (k3.symm.trans hcls.1)
  subst hcomp
  obtain ⟨kC, hkC, -⟩ := hcls.2
  refine W.aast hx hb hat (fun q h => by cases h) (fun h => by cases h) k1 k2 rfl hkC ⟨fun q => hvin (Or.inl q), by show _ < (arrV _ _ _).slots.size; rw [arrV_size]; exact Nat.not_le.mp fun q => hvin (Or.inr q)⟩ g1 (fun q h => by rw [g3] at h; cases h) (by rw [g2]; exact hkC) (by rw [g2]; exact va_assign hcls) rfl rfl hd fun H1 e1 z oq => ?_
  refine kk p e s m args below meth cd H1 _ ls cells slots mc ms hF (j_upd hW ha ho ?_ z oq) (hS.put z oq (j_rho_A ha)) hl hc hs
  show H1[j_rho G a]? = some (vp_cell _ _)
  rw [e1]
  show some ((arrV (G.2.2.1 3) n (fun j : Nat => va_rf ((f (j : Int)).map (j_rho G)))).setSlot (Int32.ofInt i).toNatClampNeg (.ref (j_rho G b))) = some (arrV (G.2.2.1 3) n (fun j : Nat => va_rf ((j_upr f i (some b) (j : Int)).map (j_rho G))))
  rw [arrV_store, hcl]
  congr 2
  funext q
  by_cases hq : q = i.toNat
  · have h1 : (q : Int) = i := by omega
    simp only [updV, j_upr]
    rw [if_pos hq, if_pos h1]
    rfl
  · have h1 : ¬ (q : Int) = i := by omega
    simp only [updV, j_upr]
    rw [if_neg hq, if_neg h1]
def j_cpy (f g : Int → Int) (sp dp n : Int) : Int → Int := fun k => if dp ≤ k ∧ k < dp + n then f (sp + (k - dp)) else g k
theorem a_arraycopy {G : j_G} {M : j_M} {pc : Nat} {lv : List (Nat × Value)} {st : List Value} {h : j_H} {c sl : Nat} {Q : j_P} {idx a0 a1 n0 n1 t : Nat} {f g : Int → Int} {sp dp n : Int} (hd : decode M.2.1 pc = .ok (.invokestatic idx, 3)) (hw : Cond.methodLink M.1.cls idx arraycopyName ∈ j_wg) (hw1 : Cond.native arraycopyName ∈ j_wg) (hw2 : Cond.static arraycopyName ∈ j_wg) (hw3 : Cond.initialized "java/lang/System" ∈ j_wg)
    (ho0 : h.2 a0 = some (.inl (t, n0, f))) (ho1 : h.2 a1 = some (.inl (t, n1, g))) (h50 : 5 ≤ a0) (h51 : 5 ≤ a1) (ht : t < 3) (hsp : 0 ≤ sp) (hdp : 0 ≤ dp) (hn : 0 ≤ n) (hs0 : sp + n ≤ n0) (hs1 : dp + n ≤ n1) (hl0 : n0 ≤ 1000000) (hl1 : n1 ≤ 1000000) (hfit : ∀ i, 0 ≤ i → i < n → fits (j_ty t) (j_i (f (sp + i))) = true) (hrm : 1 ≤ M.2.2.2.2.1) (hrl : (st.map fun v => v.category).sum + (nativeFrameWords "java/lang/System" "arraycopy" 5 + 11) ≤ M.2.2.2.2.2)
    (kk : j_at G M (pc + 3) lv st (j_set h a1 (.inl (t, n1, j_cpy f g sp dp n))) c sl Q) : j_at G M pc lv (j_i n :: j_i dp :: .ref a1 :: j_i sp :: .ref a0 :: st) h c sl Q := by
  intro p e s m args below meth cd H locs ls cells slots mc ms hF hW hS hl hc hs
  obtain ⟨hx, hb, hr, hml, hown, hts, hlo, hnm, hsz, hV⟩ := id hF
  have nn : ∀ z : Int32, ¬ z < 0 → z.toInt = (z.toNatClampNeg : Int) := by
    intro z hz
    have hz0 : (0 : Int) ≤ z.toInt := by
      have := Int32.not_lt.mp hz
      simpa using Int32.le_iff_toInt_le.mp this
    show z.toInt = ((z.toInt.toNat : Nat) : Int)
    omega
  have hc0 := hW.2.2.2.1 (a0 - 5) _ (j_ws_at (G := G) h50 (j_lt_of hW ho0) ho0)
  have hc1 := hW.2.2.2.1 (a1 - 5) _ (j_ws_at (G := G) h51 (j_lt_of hW ho1) ho1)
  have hprim : refKind (j_ty t) = false := by rcases (show t = 0 ∨ t = 1 ∨ t = 2 by omega) with rfl | rfl | rfl <;> rfl
  have htys : (j_tys G)[t]? = some (G.2.2.1 t, j_ty t) := by rcases (show t = 0 ∨ t = 1 ∨ t = 2 by omega) with rfl | rfl | rfl <;> rfl
  have e1 : ∀ z : Int, 0 ≤ z → z ≤ 1000000 → (Int32.ofInt z).toNatClampNeg = z.toNat := fun z h1 h2 => j_cl (by omega)
  intro T hT X
  obtain ⟨-, k0, hk0, cm0, hkk0⟩ := (hV.1.2 t _ htys).1 n0 (fun j => .int (Int32.ofInt (f (j : Int))))
  obtain ⟨-, k1, hk1, cm1, hkk1⟩ := (hV.1.2 t _ htys).1 n1 (fun j => .int (Int32.ofInt (g (j : Int))))
  have hc0 : H[j_rho G a0]? = some (arrV (G.2.2.1 t) n0 (fun j => .int (Int32.ofInt (f (j : Int))))) := hc0
  have hc1 : H[j_rho G a1]? = some (arrV (G.2.2.1 t) n1 (fun j => .int (Int32.ofInt (g (j : Int))))) := hc1
  have b1 : ¬ Int32.ofInt sp < 0 := by rw [j_lt0 (by omega)]; omega
  have b2 : ¬ Int32.ofInt dp < 0 := by rw [j_lt0 (by omega)]; omega
  have b3 : ¬ Int32.ofInt n < 0 := by rw [j_lt0 (by omega)]; omega
  obtain ⟨vm', X', step⟩ := X.arraycopy hx hown (hts _ hw) (hts _ hw1) (hts _ hw2) (hts _ hw3) (src := j_rho G a0) (dst := j_rho G a1) (cs := arrV (G.2.2.1 t) n0 (fun j => .int (Int32.ofInt (f (j : Int))))) (cd := arrV (G.2.2.1 t) n1 (fun j => .int (Int32.ofInt (g (j : Int))))) (srcPos := Int32.ofInt sp) (destPos := Int32.ofInt dp) (n := Int32.ofInt n) (by rw [hT]; exact hc0) (by rw [hT]; exact hc1)
    (fun _ h => by cases h) (fun _ h => by cases h) (fun h => by cases h) (fun h => by cases h) hk0 hk1 hkk0 hkk1 (by simp [hprim]) b1 b2 b3
    (by rw [j_ti (by omega), j_ti (by omega), arrV_size]; omega)
    (by rw [j_ti (by omega), j_ti (by omega), arrV_size]; omega)
    (fun vm₁ _ i hi => by
      rw [e1 n hn (by omega)] at hi
      have ee : (arrV (G.2.2.1 t) n0 (fun j => .int (Int32.ofInt (f (j : Int))))).slots.getD ((Int32.ofInt sp).toNatClampNeg + i) .null = j_i (f (sp + i)) := by
        rw [Array.getD_eq_getD_getElem?, e1 sp hsp (by omega), arrV_read _ _ (by omega)]
        show j_i (f ((sp.toNat + i : Nat) : Int)) = _
        rw [show ((sp.toNat + i : Nat) : Int) = sp + i by omega]
      refine ⟨?_, ?_⟩
      · rw [ee]
        exact hfit i (by omega) (by omega)
      · rw [ee]
        exact trivial)
    (g := F0 m pc ls (j_i n :: j_i dp :: .ref (j_rho G a1) :: j_i sp :: .ref (j_rho G a0) :: st.map (j_cv G))) rfl (by rw [hml]; exact hl.1) (rest := st.map (j_cv G)) rfl (by rw [hb]; exact hd) hrm (by
      have : ((st.map (j_cv G)).map fun v => v.category) = st.map fun v => v.category := by simp [Function.comp_def, j_cv_cat]
      show 2 * 0 + ((st.map (j_cv G)).map fun v => v.category).sum + _ ≤ M.2.2.2.2.2; rw [this]; omega)
  have e9 : copied (arrV (G.2.2.1 t) n0 (fun j => .int (Int32.ofInt (f (j : Int))))) (arrV (G.2.2.1 t) n1 (fun j => .int (Int32.ofInt (g (j : Int))))) (Int32.ofInt sp) (Int32.ofInt dp) (Int32.ofInt n) = arrV (G.2.2.1 t) n1 (fun j => .int (Int32.ofInt (j_cpy f g sp dp n (j : Int)))) := by
    refine (va_copied (fun z => .int z) (G.2.2.1 t) (G.2.2.1 t) (n0 := n0) (n1 := n1) (sp := (Int32.ofInt sp).toNatClampNeg) (dp := (Int32.ofInt dp).toNatClampNeg) (n := (Int32.ofInt n).toNatClampNeg) (fun j : Nat => Int32.ofInt (f (j : Int))) (fun j : Nat => Int32.ofInt (g (j : Int))) (by rw [e1 sp hsp (by omega), e1 n hn (by omega)]; omega)).trans ?_
    congr 1
    funext q
    rw [e1 sp hsp (by omega), e1 dp hdp (by omega), e1 n hn (by omega)]
    simp only [va_cpy, j_cpy]
    by_cases hq : dp.toNat ≤ q ∧ q < dp.toNat + n.toNat
    · rw [if_pos hq, if_pos (by omega), show ((sp.toNat + (q - dp.toNat) : Nat) : Int) = sp + ((q : Int) - dp) by omega]
    · rw [if_neg hq, if_neg (by omega)]
  rw [e9] at X' step
  have hl9 : j_rho G a1 < H.size := (Array.getElem?_eq_some_iff.mp hc1).1
  generalize hcell : arrV (G.2.2.1 t) n1 (fun j => .int (Int32.ofInt (j_cpy f g sp dp n (j : Int)))) = cell9 at X' step
  have hheap : ((T.setVm vm').setCell (j_rho G a1) cell9).heap = H.setIfInBounds (j_rho G a1) cell9 := by rw [← hT]; rfl
  have oq : ∀ q : Nat, q ≠ j_rho G a1 → (H.setIfInBounds (j_rho G a1) cell9)[q]? = H[q]? := fun q hq => by simp [Array.getElem?_setIfInBounds, Ne.symm hq]
  obtain ⟨tt, ta, tb⟩ := kk p e s m args below meth cd _ _ ls cells slots mc ms hF (j_upd hW h51 ho1 (show (H.setIfInBounds (j_rho G a1) cell9)[j_rho G a1]? = some _ by rw [← hcell]; simp [Array.getElem?_setIfInBounds, hl9]; rfl) (by simp) oq) ⟨by simp; exact hS.1, fun q g1 g2 => by
      rw [oq q (fun e => g2 (by rw [e]; exact j_rho_A h51))]
      exact hS.2.1 q g1 g2, fun q hq => by
      rcases List.mem_append.mp hq with h | h
      · exact hS.2.2 q h
      · obtain ⟨z, -, hz⟩ := List.mem_map.mp h
        rw [← hz]
        exact j_rho_A h51⟩ hl hc hs _ hheap X'
  exact ⟨tt, step tt ta, tb⟩
