theorem k_Rr {σ : k_St} {a : Nat} {j : Int} {x : Option Nat} : (k_sR σ a j x).2.2 a j = x := if_pos ⟨rfl, rfl⟩
theorem k_Rn {σ : k_St} {a b : Nat} {i j : Int} {x : Option Nat} (h : ¬ (b = a ∧ i = j)) : (k_sR σ a j x).2.2 b i = σ.2.2 b i := if_neg h
theorem ep_ok {σ : k_St} (hK : RKept σ) {m : Int} (h : m_is σ m) : okp (h_is σ) (m_epath σ m) := by
  obtain ⟨z1, z2, z3⟩ := mk_ok hK h
  have z4 : h_is σ (f_head (σ.1 19 m) 0) := by rcases (okp_hd z1).1 with w | w; exact absurd w z2; exact w
  unfold m_epath
  rw [if_pos (show 0 ≤ m ∧ m < σ.2.1 16 5 ∧ σ.1 21 m = 0 from h)]
  split
  · exact okp_path (fun x hx => h_is_29 hK hx) z4 (Or.inl rfl) (Or.inl rfl)
  · exact z1
theorem FX_of {σ τ : k_St} {a : Nat} {od c d : Int} (ha : a = 48 ∨ a = 58) (hf : fi_fr a σ τ) (hK : RKept τ) (hP : RPass τ) (hfl : 1 ≤ τ.2.1 68 11 ∧ τ.2.1 68 11 ≤ 50) (hw : i_wf τ a) (hI : FI σ τ a od c d (τ.2.1 68 11)) : ∃ lm lr, FX τ a lm lr od c d := by
  obtain ⟨lr, lm, E, O, r1, r2, m1, m2, m3, ⟨e1, e2, e3, e4, e5⟩, ⟨p1, p2⟩, ⟨l1, l2⟩, d1, ⟨o1, o2, o3, o4⟩, w1⟩ := hI
  have A : ∀ c, c < 40 → τ.1 c = σ.1 c := fun c hc => hf.1 c (Or.inl hc)
  have B : ∀ c j, c < 37 → τ.2.1 c j = σ.2.1 c j := fun c j hc => hf.2.1 c j (Or.inl hc)
  have em : m_is τ = m_is σ := by funext x; unfold m_is; rw [A 21 (by omega), B 16 5 (by omega)]
  have eh : h_is τ = h_is σ := by funext x; unfold h_is; rw [A 15 (by omega), B 8 3 (by omega)]
  have el : m_lt τ = m_lt σ := by funext x y; unfold m_lt; rw [A 18 (by omega)]
  have eo : (fun x y => o_rel τ x y od (-1)) = (fun x y => o_rel σ x y od (-1)) := by funext x y; exact propext (o_rel_congr (fun c hc => A c hc) (B 33 1 (by omega)))
  have ep : pgM τ = (fun m => f_page (σ.1 18 m) (τ.2.1 68 11)) := by funext m; unfold pgM; rw [A 18 (by omega)]
  have ee : ∀ m, m_epath τ m = m_epath σ m := fun m => by unfold m_epath; rw [A 21 (by omega), A 17 (by omega), A 19 (by omega), B 16 5 (by omega)]
  have gE : ∀ (i : Nat) (hi : i < E.length), τ.1 (a + 1) (i : Int) = E[i] := fun i hi => by
    have := v_seg_get hi e2
    rw [show (0 : Int) + (i : Int) = (i : Int) by omega] at this; exact this
  have gO : ∀ (i : Nat) (hi : i < O.length), τ.1 (a + 6) (i : Int) = O[i] := fun i hi => by
    have := v_seg_get hi o2
    rw [show (0 : Int) + (i : Int) = (i : Int) by omega] at this; exact this
  refine ⟨lm, lr, ha, ⟨hK, hP, hfl, hw⟩, ⟨by rw [em]; exact m1, by rw [el]; exact m2⟩, ⟨by rw [eh]; exact r1, by rw [eo]; exact r2⟩, ⟨by rw [eo, e1]; exact li_so gE e3, fun x => ?_⟩, ⟨by rw [e1]; exact p1, fun e e0 e6 => ?_⟩, ⟨by rw [e1]; exact l1, fun e e0 e6 => ?_⟩, d1, ⟨by rw [o1]; exact li_so gO o3, fun i => ?_⟩, fun h h0 h1 => ?_⟩
  · rw [e1, li_im gE, e4]
    constructor
    · rintro ⟨m, a1, a2⟩
      have hm : m_is τ m := by rw [em]; exact (m1 m).mp a1
      exact ⟨m, (m_is_e hK hm).2, hm, by rw [ee]; exact a2⟩
    · rintro ⟨m, _, a1, a2⟩
      rw [em] at a1; rw [ee] at a2
      exact ⟨m, (m1 m).mpr a1, a2⟩
  · rw [e1] at e6
    have hq : e.toNat < E.length := by omega
    have z := p2 e.toNat hq
    have g := gE _ hq
    rw [show ((e.toNat : Nat) : Int) = e by omega] at z g
    rw [A 17 (by omega), A 19 (by omega), A 20 (by omega), ep, g]; exact z
  · rw [e1] at e6
    have hq : e.toNat < E.length := by omega
    have z := l2 e.toNat hq
    have g := gE _ hq
    rw [show ((e.toNat : Nat) : Int) = e by omega] at z g
    rw [A 17 (by omega), A 19 (by omega), g]; exact z
  · rw [o1, li_im gO, o4, A 17 (by omega), A 19 (by omega), e1]
    constructor
    · rintro ⟨p, q1, q2⟩
      obtain ⟨k, k0, k1, k2⟩ := (li_im gE).mpr q1
      exact ⟨k, k0, k1, by rw [k2]; exact q2⟩
    · rintro ⟨k, k0, k1, k2⟩
      exact ⟨_, (li_im gE).mp ⟨k, k0, k1, rfl⟩, k2⟩
  · rw [B 8 3 (by omega)] at h1
    have z := w1 h h0 h1
    rw [A 14 (by omega)]
    unfold row_eq at z ⊢
    by_cases c9 : 0 < σ.1 14 h
    · rw [if_pos c9] at z ⊢; rw [A (12 + 2) (by omega), A (12 + 1) (by omega)]; exact z
    · rw [if_neg c9] at z ⊢; rw [A (9 + 2) (by omega), A (9 + 1) (by omega)]; exact z
def bd_ok (od d c : Int) : Prop := (od = 0 ∨ od = 1) ∧ (0 ≤ d ∧ d ≤ 20) ∧ (c = 0 ∨ c = 1)
def bd_C (n : Nat) (σ : k_St) (od d c r : Int) (n' : Nat) (σ' : k_St) : Prop := n' = n ∧ ((¬ bd_ok od d c ∧ r = -2 ∧ σ' = σ) ∨ (bd_ok od d c ∧ ∃ ia ib : Nat, (ia = 48 ∧ ib = 58 ∨ ia = 58 ∧ ib = 48) ∧ (σ.2.2 5 8 = some ia ∧ σ.2.2 5 9 = some ib) ∧ ∃ s2, s2.1 = σ.1 ∧ s2.2.1 = σ.2.1 ∧ (s2.2.2 5 8 = some ib ∧ s2.2.2 5 9 = some ia ∧ s2.2.2 23 = σ.2.2 23) ∧ fi_post n s2 ib od c d (σ.2.1 5 10) none n' σ' ∧ r = σ'.2.1 ib 0))
set_option maxHeartbeats 4000000 in
theorem l_cb31 {G : j_G} {X : k_X} {n : Nat} {σ : k_St} (hR : RR n σ) {od d c : Int} (hok : bd_ok od d c) : j_at G mX11_build 31 [(0, .ref 5), (1, j_i od), (2, j_i d), (3, j_i c)] [] (k_h X n σ) 0 0 (k_Q X (fun v n' σ' => ∃ r : Int, v = some (j_i r) ∧ bd_C n σ od d c r n' σ')) := by
  obtain ⟨hK, hAc, hNm, hPs, hPt, hSm, hIx⟩ := id hR
  have hn := RR_n hR
  have hk := hK.1
  have hwh : h_wf σ 8 := hk.2.1
  have hwm : m_wf σ 16 := hk.2.2
  have hW : 0 ≤ σ.2.1 6 1 ∧ σ.2.1 6 1 ≤ 300 := hk.1
  have hfl := hSm.1
  obtain ⟨ia, ib, hab, hia, hib, wia, wib, ria, rib, hrg, h01, hIR, hchg⟩ := id hIx
  have hA : i_at X n ia := by rcases hab with q | q; rw [q.1]; exact iA_48 hn; rw [q.1]; exact iA_58 hn
  have hix : ix σ = ia := by unfold ix; rw [hia]; rfl
  have hab5 : ia = 48 ∨ ia = 58 := by omega
  have hsa0 := hA.2.1
  have hAb : i_at X n ib := by rcases hab with q | q; rw [q.2]; exact iA_58 hn; rw [q.2]; exact iA_48 hn
  have hib5 : ib = 48 ∨ ib = 58 := by omega
  obtain ⟨hs99, hs0, hs1, hs2, hs3, hs4, hs5, hs6, hs7⟩ := id hAb
  obtain ⟨hc9, hp9, hl9, ho9, hv9⟩ := id wia
  obtain ⟨hk1, hk2, hk3⟩ := id hok
  refine a_aload_n (pc := 31) (i := 0) (by decide +kernel) rfl ?_
  refine b_getM (pc := 32) (b := ib) fl_X11_72 (by decide +kernel) (sh_5 hn) rfl hib ?_
  refine a_astore (pc := 35) (i := 4) (lv' := [(0, .ref 5), (1, j_i od), (2, j_i d), (3, j_i c), (4, .ref ib)]) (by decide +kernel) (Nat.le_of_ble_eq_true rfl) rfl ?_
  refine a_aload_n (pc := 37) (i := 0) (by decide +kernel) rfl ?_
  refine a_aload_n (pc := 38) (i := 0) (by decide +kernel) rfl ?_
  refine b_getM (pc := 39) (b := ia) fl_X11_68 (by decide +kernel) (sh_5 hn) rfl hia ?_
  refine b_putM (pc := 42) fl_X11_72 (by decide +kernel) (sh_5 hn) rfl rfl rfl ?_
  obtain ⟨σ1, hσ1⟩ : ∃ z, z = k_sR σ 5 (9 : Nat) (some ia) := ⟨_, rfl⟩
  rw [← hσ1]
  have rσ11 : σ1.2.2 5 8 = some ia := by rw [hσ1]; exact (k_Rn (by decide)).trans hia
  have rσ12 : σ1.2.2 5 9 = some ia := by rw [hσ1]; exact k_Rr
  refine a_aload_n (pc := 45) (i := 0) (by decide +kernel) rfl ?_
  refine a_aload (pc := 46) (i := 4) (by decide +kernel) rfl ?_
  refine b_putM (pc := 48) fl_X11_68 (by decide +kernel) (sh_5 hn) rfl rfl rfl ?_
  obtain ⟨σ2, hσ2⟩ : ∃ z, z = k_sR σ1 5 (8 : Nat) (some ib) := ⟨_, rfl⟩
  rw [← hσ2]
  have i8σ2 : σ2.2.2 5 8 = some ib := by rw [hσ2]; exact k_Rr
  have rσ22 : σ2.2.2 5 9 = some ia := by rw [hσ2]; exact (k_Rn (by decide)).trans rσ12
  have eσ21 : σ2.1 = σ.1 := by rw [hσ2, hσ1]; rfl
  have eσ22 : σ2.2.1 = σ.2.1 := by rw [hσ2, hσ1]; rfl
  have eσ23 : σ2.2.2 23 = σ.2.2 23 := by funext i; rw [hσ2]; refine (k_Rn (by omega)).trans ?_; rw [hσ1]; exact k_Rn (by omega)
  refine a_aload_n (pc := 51) (i := 0) (by decide +kernel) rfl ?_
  refine b_getR (pc := 52) (b := 39) fl_X11_61 (by decide +kernel) (sh_5 hn) rfl ?_
  refine a_aload_n (pc := 55) (i := 0) (by decide +kernel) rfl ?_
  refine b_getM (pc := 56) (b := ib) fl_X11_68 (by decide +kernel) (sh_5 hn) rfl i8σ2 ?_
  refine a_iload_n (pc := 59) (i := 1) (by decide +kernel) rfl ?_
  refine a_iload_n (pc := 60) (i := 2) (by decide +kernel) rfl ?_
  refine a_iload_n (pc := 61) (i := 3) (by decide +kernel) rfl ?_
  refine a_aload_n (pc := 62) (i := 0) (by decide +kernel) rfl ?_
  refine b_getI (pc := 63) fl_X11_75 (by decide +kernel) (sh_5 hn) rfl ?_
  rw [show σ2.2.1 5 10 = σ1.2.1 5 10 by rw [hσ2]; rfl]
  rw [show σ1.2.1 5 10 = σ.2.1 5 10 by rw [hσ1]; rfl]
  have hK2 : RKept σ2 := RKept_cg (fun c _ _ => by rw [eσ21]) (fun c j _ _ => by rw [eσ22]) (by rw [eσ21]) hK
  have hP2 : RPass σ2 := RPass_cg (by rw [eσ21]) (by rw [eσ21]) (by rw [eσ21]) (by rw [eσ21]) (by rw [eσ22]) (by rw [eσ22]) hPs
  refine b_callV (pc := 66) (c' := 0) (sl' := 0) [.ref ib, j_i od, j_i d, j_i c, j_i (σ.2.1 5 10)] [] ml_X11_281 (by decide +kernel) rfl rfl (sh_39 hn) rfl rfl (Nat.le_of_ble_eq_true rfl) (j_fitI rfl rfl) (s_fill (σ := σ2) hn hK2.1.2.2 hK2.1.2.1 (RP_y hP2) (RK_dis hK2) (fun m hm => ep_ok hK2 hm) hib5 hAb (by omega) (by omega) (by omega) (by omega) (i_wf_cg (fun c _ _ => by rw [eσ21]) (fun j => by rw [eσ22]) wib) (by unfold rk_rg; rw [eσ21]; exact hrg) (by rw [eσ21]; exact h01) (r_wf_congr (by rw [eσ21]) (by rw [eσ21]) rib)) (fun v n' σ' hq => ?_)
  obtain ⟨σ3, hσ3⟩ : ∃ z, z = σ' := ⟨_, rfl⟩
  rw [← hσ3] at hq ⊢
  clear hσ3
  have hq9 := hq
  obtain ⟨rfl, rfl, hfr, _⟩ := hq
  have i8σ3 : σ3.2.2 5 8 = some ib := by rw [hfr.2.2]; exact i8σ2
  show j_at _ _ _ [(0, .ref 5), (1, j_i od), (2, j_i d), (3, j_i c), (4, .ref ib)] [] _ _ _ _
  refine a_aload_n (pc := 69) (i := 0) (by decide +kernel) rfl ?_
  refine b_getM (pc := 70) (b := ib) fl_X11_68 (by decide +kernel) (sh_5 hn) rfl i8σ3 ?_
  refine b_getI (pc := 73) fl_X11_285 (by decide +kernel) hs0 rfl ?_
  refine a_ireturn (pc := 76) (by decide +kernel) rfl ?_
  refine k_ret ?_
  exact ⟨_, rfl, rfl, Or.inr ⟨hok, ia, ib, hab, ⟨hia, hib⟩, σ2, eσ21, eσ22, ⟨i8σ2, rσ22, eσ23⟩, hq9, rfl⟩⟩
set_option maxHeartbeats 4000000 in
theorem c_build {G : j_G} {X : k_X} {n : Nat} {σ : k_St} (hR : RR n σ) {od : Int} (hod : -2147483648 ≤ od ∧ od ≤ 2147483647) {d : Int} (hd : -2147483648 ≤ d ∧ d ≤ 2147483647) {c : Int} (hc : -2147483648 ≤ c ∧ c ≤ 2147483647)  : k_run G X mX11_build [.ref 5, j_i od, j_i d, j_i c] n σ 0 0 (fun v n' σ' => ∃ r : Int, v = some (j_i r) ∧ bd_C n σ od d c r n' σ') := by
  obtain ⟨hK, hAc, hNm, hPs, hPt, hSm, hIx⟩ := id hR
  have hn := RR_n hR
  have hk := hK.1
  have hwh : h_wf σ 8 := hk.2.1
  have hwm : m_wf σ 16 := hk.2.2
  have hW : 0 ≤ σ.2.1 6 1 ∧ σ.2.1 6 1 ≤ 300 := hk.1
  have hfl := hSm.1
  refine k_enter (by decide +kernel) (Nat.le_of_ble_eq_true rfl) ?_
  show j_at _ _ _ [(0, .ref 5), (1, j_i od), (2, j_i d), (3, j_i c)] [] _ _ _ _
  refine a_iload_n (pc := 0) (i := 1) (by decide +kernel) rfl ?_
  refine a_if_eq (pc := 1) (off := 8) (tgt := 9) (by decide +kernel) (by decide) (by omega) (fun c1 => ?_) (fun c1 => ?_)
  · refine a_iload_n (pc := 9) (i := 2) (by decide +kernel) rfl ?_
    refine a_if_lt (pc := 10) (off := 18) (tgt := 28) (by decide +kernel) (by decide) (by omega) (fun c10 => ?_) (fun c10 => ?_)
    · refine a_bipush (pc := 28) (n := (-2)) (by decide +kernel) rfl ?_
      refine a_ireturn (pc := 30) (by decide +kernel) rfl ?_
      refine k_ret ?_
      exact ⟨_, rfl, rfl, Or.inl ⟨by unfold bd_ok; omega, rfl, rfl⟩⟩
    · refine a_iload_n (pc := 13) (i := 2) (by decide +kernel) rfl ?_
      refine a_bipush (pc := 14) (n := 20) (by decide +kernel) rfl ?_
      refine a_icmp_gt (pc := 16) (off := 12) (tgt := 28) (by decide +kernel) (by decide) (by omega) (by omega) (fun c16 => ?_) (fun c16 => ?_)
      · refine a_bipush (pc := 28) (n := (-2)) (by decide +kernel) rfl ?_
        refine a_ireturn (pc := 30) (by decide +kernel) rfl ?_
        refine k_ret ?_
        exact ⟨_, rfl, rfl, Or.inl ⟨by unfold bd_ok; omega, rfl, rfl⟩⟩
      · refine a_iload_n (pc := 19) (i := 3) (by decide +kernel) rfl ?_
        refine a_if_eq (pc := 20) (off := 11) (tgt := 31) (by decide +kernel) (by decide) (by omega) (fun c20 => ?_) (fun c20 => ?_)
        · exact l_cb31 hR ⟨by omega, by omega, by omega⟩
        · refine a_iload_n (pc := 23) (i := 3) (by decide +kernel) rfl ?_
          refine a_iconst (pc := 24) (n := 1) (by decide +kernel) ?_
          refine a_icmp_eq (pc := 25) (off := 6) (tgt := 31) (by decide +kernel) (by decide) (by omega) (by omega) (fun c25 => ?_) (fun c25 => ?_)
          · exact l_cb31 hR ⟨by omega, by omega, by omega⟩
          · refine a_bipush (pc := 28) (n := (-2)) (by decide +kernel) rfl ?_
            refine a_ireturn (pc := 30) (by decide +kernel) rfl ?_
            refine k_ret ?_
            exact ⟨_, rfl, rfl, Or.inl ⟨by unfold bd_ok; omega, rfl, rfl⟩⟩
  · refine a_iload_n (pc := 4) (i := 1) (by decide +kernel) rfl ?_
    refine a_iconst (pc := 5) (n := 1) (by decide +kernel) ?_
    refine a_icmp_ne (pc := 6) (off := 22) (tgt := 28) (by decide +kernel) (by decide) (by omega) (by omega) (fun c6 => ?_) (fun c6 => ?_)
    · refine a_bipush (pc := 28) (n := (-2)) (by decide +kernel) rfl ?_
      refine a_ireturn (pc := 30) (by decide +kernel) rfl ?_
      refine k_ret ?_
      exact ⟨_, rfl, rfl, Or.inl ⟨by unfold bd_ok; omega, rfl, rfl⟩⟩
    · refine a_iload_n (pc := 9) (i := 2) (by decide +kernel) rfl ?_
      refine a_if_lt (pc := 10) (off := 18) (tgt := 28) (by decide +kernel) (by decide) (by omega) (fun c10 => ?_) (fun c10 => ?_)
      · refine a_bipush (pc := 28) (n := (-2)) (by decide +kernel) rfl ?_
        refine a_ireturn (pc := 30) (by decide +kernel) rfl ?_
        refine k_ret ?_
        exact ⟨_, rfl, rfl, Or.inl ⟨by unfold bd_ok; omega, rfl, rfl⟩⟩
      · refine a_iload_n (pc := 13) (i := 2) (by decide +kernel) rfl ?_
        refine a_bipush (pc := 14) (n := 20) (by decide +kernel) rfl ?_
        refine a_icmp_gt (pc := 16) (off := 12) (tgt := 28) (by decide +kernel) (by decide) (by omega) (by omega) (fun c16 => ?_) (fun c16 => ?_)
        · refine a_bipush (pc := 28) (n := (-2)) (by decide +kernel) rfl ?_
          refine a_ireturn (pc := 30) (by decide +kernel) rfl ?_
          refine k_ret ?_
          exact ⟨_, rfl, rfl, Or.inl ⟨by unfold bd_ok; omega, rfl, rfl⟩⟩
        · refine a_iload_n (pc := 19) (i := 3) (by decide +kernel) rfl ?_
          refine a_if_eq (pc := 20) (off := 11) (tgt := 31) (by decide +kernel) (by decide) (by omega) (fun c20 => ?_) (fun c20 => ?_)
          · exact l_cb31 hR ⟨by omega, by omega, by omega⟩
          · refine a_iload_n (pc := 23) (i := 3) (by decide +kernel) rfl ?_
            refine a_iconst (pc := 24) (n := 1) (by decide +kernel) ?_
            refine a_icmp_eq (pc := 25) (off := 6) (tgt := 31) (by decide +kernel) (by decide) (by omega) (by omega) (fun c25 => ?_) (fun c25 => ?_)
            · exact l_cb31 hR ⟨by omega, by omega, by omega⟩
            · refine a_bipush (pc := 28) (n := (-2)) (by decide +kernel) rfl ?_
              refine a_ireturn (pc := 30) (by decide +kernel) rfl ?_
              refine k_ret ?_
              exact ⟨_, rfl, rfl, Or.inl ⟨by unfold bd_ok; omega, rfl, rfl⟩⟩
set_option maxHeartbeats 4000000 in
theorem e_build0 {G : j_G} {X : k_X} {n : Nat} {σ : k_St} {od : Int} (hod : -2147483648 ≤ od ∧ od ≤ 2147483647) {d : Int} (hd : -2147483648 ≤ d ∧ d ≤ 2147483647) {c : Int} (hc : -2147483648 ≤ c ∧ c ≤ 2147483647) (hno : ¬ bd_ok od d c) : k_run G X mX12_build [.ref 68, j_i od, j_i d, j_i c] n σ 0 0 (k_is n σ (some (j_i (-2)))) := by
  refine k_enter (by decide +kernel) (Nat.le_of_ble_eq_true rfl) ?_
  show j_at _ _ _ [(0, .ref 68), (1, j_i od), (2, j_i d), (3, j_i c)] [] _ _ _ _
  refine a_iload_n (pc := 0) (i := 1) (by decide +kernel) rfl ?_
  refine a_iconst (pc := 1) (n := 0) (by decide +kernel) ?_
  refine a_iconst (pc := 2) (n := 1) (by decide +kernel) ?_
  refine b_callS (pc := 3) (c' := 0) (sl' := 0) [j_i od, j_i 0, j_i 1] [] ml_X12_128 (by decide +kernel) rfl rfl (Nat.le_of_ble_eq_true rfl) (j_fitI rfl rfl) (s_dwithin (by omega) (by omega) (by omega)) (fun v n' σ' hq => ?_)
  obtain ⟨x, rfl, e1, e2, hx⟩ := hq
  rw [e1, e2]; clear e1 e2
  rcases hx with ⟨rfl, p3⟩ | ⟨rfl, p3⟩
  · show j_at _ _ _ [(0, .ref 68), (1, j_i od), (2, j_i d), (3, j_i c)] [j_i 1] _ _ _ _
    refine a_if_eq (pc := 6) (off := 22) (tgt := 28) (by decide +kernel) (by decide) (by omega) (fun c6 => ?_) (fun c6 => ?_)
    · exact absurd c6 (by decide)
    · refine a_iload_n (pc := 9) (i := 2) (by decide +kernel) rfl ?_
      refine a_iconst (pc := 10) (n := 0) (by decide +kernel) ?_
      refine a_bipush (pc := 11) (n := 20) (by decide +kernel) rfl ?_
      refine b_callS (pc := 13) (c' := 0) (sl' := 0) [j_i d, j_i 0, j_i 20] [] ml_X12_128 (by decide +kernel) rfl rfl (Nat.le_of_ble_eq_true rfl) (j_fitI rfl rfl) (s_dwithin (by omega) (by omega) (by omega)) (fun v n' σ' hq => ?_)
      obtain ⟨x, rfl, e1, e2, hx⟩ := hq
      rw [e1, e2]; clear e1 e2
      rcases hx with ⟨rfl, p13⟩ | ⟨rfl, p13⟩
      · show j_at _ _ _ [(0, .ref 68), (1, j_i od), (2, j_i d), (3, j_i c)] [j_i 1] _ _ _ _
        refine a_if_eq (pc := 16) (off := 12) (tgt := 28) (by decide +kernel) (by decide) (by omega) (fun c16 => ?_) (fun c16 => ?_)
        · exact absurd c16 (by decide)
        · refine a_iload_n (pc := 19) (i := 3) (by decide +kernel) rfl ?_
          refine a_iconst (pc := 20) (n := 0) (by decide +kernel) ?_
          refine a_iconst (pc := 21) (n := 1) (by decide +kernel) ?_
          refine b_callS (pc := 22) (c' := 0) (sl' := 0) [j_i c, j_i 0, j_i 1] [] ml_X12_128 (by decide +kernel) rfl rfl (Nat.le_of_ble_eq_true rfl) (j_fitI rfl rfl) (s_dwithin (by omega) (by omega) (by omega)) (fun v n' σ' hq => ?_)
          obtain ⟨x, rfl, e1, e2, hx⟩ := hq
          rw [e1, e2]; clear e1 e2
          rcases hx with ⟨rfl, p22⟩ | ⟨rfl, p22⟩
          · show j_at _ _ _ [(0, .ref 68), (1, j_i od), (2, j_i d), (3, j_i c)] [j_i 1] _ _ _ _
            refine a_if_ne (pc := 25) (off := 6) (tgt := 31) (by decide +kernel) (by decide) (by omega) (fun c25 => ?_) (fun c25 => ?_)
            · exact absurd (show bd_ok od d c from ⟨by omega, by omega, by omega⟩) hno
            · exact absurd c25 (by decide)
          · show j_at _ _ _ [(0, .ref 68), (1, j_i od), (2, j_i d), (3, j_i c)] [j_i 0] _ _ _ _
            refine a_if_ne (pc := 25) (off := 6) (tgt := 31) (by decide +kernel) (by decide) (by omega) (fun c25 => ?_) (fun c25 => ?_)
            · exact absurd c25 (by decide)
            · refine a_bipush (pc := 28) (n := (-2)) (by decide +kernel) rfl ?_
              refine a_ireturn (pc := 30) (by decide +kernel) rfl ?_
              refine k_ret ?_
              exact ⟨rfl, rfl, rfl⟩
      · show j_at _ _ _ [(0, .ref 68), (1, j_i od), (2, j_i d), (3, j_i c)] [j_i 0] _ _ _ _
        refine a_if_eq (pc := 16) (off := 12) (tgt := 28) (by decide +kernel) (by decide) (by omega) (fun c16 => ?_) (fun c16 => ?_)
        · refine a_bipush (pc := 28) (n := (-2)) (by decide +kernel) rfl ?_
          refine a_ireturn (pc := 30) (by decide +kernel) rfl ?_
          refine k_ret ?_
          exact ⟨rfl, rfl, rfl⟩
        · exact absurd c16 (by decide)
  · show j_at _ _ _ [(0, .ref 68), (1, j_i od), (2, j_i d), (3, j_i c)] [j_i 0] _ _ _ _
    refine a_if_eq (pc := 6) (off := 22) (tgt := 28) (by decide +kernel) (by decide) (by omega) (fun c6 => ?_) (fun c6 => ?_)
    · refine a_bipush (pc := 28) (n := (-2)) (by decide +kernel) rfl ?_
      refine a_ireturn (pc := 30) (by decide +kernel) rfl ?_
      refine k_ret ?_
      exact ⟨rfl, rfl, rfl⟩
    · exact absurd c6 (by decide)
theorem p_build {G : j_G} {X : k_X} {n : Nat} {σ : k_St} (hR : RR n σ) {od : Int} (hod : -2147483648 ≤ od ∧ od ≤ 2147483647) {d : Int} (hd : -2147483648 ≤ d ∧ d ≤ 2147483647) {c : Int} (hc : -2147483648 ≤ c ∧ c ≤ 2147483647) : pr_ok G X mX11_build mX12_build [j_i od, j_i d, j_i c] n σ 0 0 := by
  have hn := RR_n hR
  refine ⟨_, c_build hR hod hd hc, fun v n' σ' hq => ?_⟩
  obtain ⟨r, hv, rfl, ⟨c1, c2, c3⟩ | ⟨c1, ia, ib, hab, ⟨hia, hib⟩, s2, t1, t2, ⟨t3, t4, t5⟩, ⟨_, _, q1, q2, q3, q4, q5, q6⟩, hr⟩⟩ := hq
  · refine ⟨hn, r, hv, k_runw (fun v2 n2 σ2 q => ?_) (e_build0 hod hd hc c1)⟩
    obtain ⟨w1, rfl, w3⟩ := q
    rw [c3] at w3
    rw [w1, c2, w3]; exact ⟨rfl, hR⟩
  · obtain ⟨hK, hAc, hNm, hPs, hPt, hSm, hIx⟩ := id hR
    obtain ⟨ja, jb, hjab, hja, hjb, wja, wjb, rja, rjb, hrg, h01, hIR, hchg⟩ := id hIx
    have ea : ja = ia := Option.some.inj (hja.symm.trans hia)
    have eb : jb = ib := Option.some.inj (hjb.symm.trans hib)
    subst ea; subst eb
    have hja5 : ja = 48 ∨ ja = 58 := by omega
    have hjb5 : jb = 48 ∨ jb = 58 := by omega
    have A : ∀ c, (c < 40 ∨ 68 ≤ c ∨ (48 ≤ c ∧ c < 68 ∧ ¬ (jb ≤ c ∧ c < jb + 10))) → σ'.1 c = σ.1 c := fun c hc => (q1.1 c hc).trans (by rw [t1])
    have B : ∀ c j, (c < 37 ∨ 68 ≤ c ∨ (48 ≤ c ∧ c < 68 ∧ c ≠ jb)) → σ'.2.1 c j = σ.2.1 c j := fun c j hc => (q1.2.1 c j hc).trans (by rw [t2])
    have K' : RKept σ' := RKept_cg (fun c _ _ => A c (by omega)) (fun c j _ _ => B c j (by omega)) (A 69 (by omega)) hK
    have P' : RPass σ' := RPass_cg (A _ (by omega)) (A _ (by omega)) (A _ (by omega)) (A _ (by omega)) (B _ _ (by omega)) (B _ _ (by omega)) hPs
    have f8 : σ'.2.1 68 11 = σ.2.1 5 10 := (B 68 11 (by omega)).trans hSm.2.1
    rw [← f8] at q6
    obtain ⟨lm, lr, hF⟩ := FX_of hjb5 q1 K' P' (by rw [f8]; exact hSm.1) q2 q6
    have wja' : i_wf σ' ja := i_wf_cg (fun c _ _ => A c (by omega)) (fun j => B ja j (by omega)) wja
    have IRa : IR σ' ja := IR_cg (fun c _ _ => A c (by omega)) (fun j => B ja j (by omega)) (fun c _ => A c (by omega)) (fun j _ => B 68 j (by omega)) hIR
    refine ⟨hn, r, hv, k_runw (fun v2 n2 σ2 q => ?_) (e_build hn hF hja5 wja' IRa c1.1 c1.2.2 c1.2.1)⟩
    obtain ⟨w1, rfl, w3, w4, w5⟩ := q
    refine ⟨by rw [w1, hr], ?_⟩
    have A2 : ∀ c, (c < 40 ∨ (68 ≤ c ∧ c < 81) ∨ 101 ≤ c ∨ (48 ≤ c ∧ c < 68 ∧ ¬ (jb ≤ c ∧ c < jb + 10))) → σ2.1 c = σ.1 c := fun c hc => (w3.1 c (by omega)).trans (A c (by omega))
    have B2 : ∀ c j, (c < 37 ∨ (68 ≤ c ∧ (c ≠ 68 ∨ j < 22 ∨ 52 ≤ j)) ∨ (48 ≤ c ∧ c < 68 ∧ c ≠ jb)) → σ2.2.1 c j = σ.2.1 c j := fun c j hc => (w3.2.1 c j (by omega)).trans (B c j (by omega))
    have R2 : σ2.2.2 = s2.2.2 := w3.2.2.trans q1.2.2
    refine ⟨RKept_cg (fun c _ _ => A2 c (by omega)) (fun c j _ _ => B2 c j (by omega)) (A2 69 (by omega)) hK, RActs_cg (fun c _ => A2 c (by omega)) (fun c j _ => B2 c j (by omega)) (by rw [R2]; exact t5) hAc, RName_cg (A2 _ (by omega)) (A2 _ (by omega)) (A2 _ (by omega)) (B2 _ _ (by omega)) hNm, RPass_cg (A2 _ (by omega)) (A2 _ (by omega)) (A2 _ (by omega)) (A2 _ (by omega)) (B2 _ _ (by omega)) (B2 _ _ (by omega)) hPs, RPart_cg (fun c _ _ => A2 c (by omega)) (fun c _ _ => A2 c (by omega)) (B2 _ _ (by omega)) (B2 _ _ (by omega)) hPt, RSmall_cg (fun j _ _ => B2 5 j (by omega)) (fun j _ => B2 68 j (by omega)) hSm, jb, ja, by omega, by rw [R2]; exact t3, by rw [R2]; exact t4, i_wf_cg (fun c _ _ => w3.1 c (by omega)) (fun j => w3.2.1 jb j (by omega)) q2, i_wf_cg (fun c _ _ => w3.1 c (by omega)) (fun j => w3.2.1 ja j (by omega)) wja', r_wf_congr (w3.1 _ (by omega)) (w3.1 _ (by omega)) q5, r_wf_congr (A2 _ (by omega)) (A2 _ (by omega)) rja, ?_, ?_, w4, w5⟩
    · unfold rk_rg; rw [w3.1 40 (by omega), w3.1 41 (by omega)]; exact q3
    · rw [w3.1 43 (by omega)]; exact q4
