def BQ (n : Nat) (σ : k_St) (a b : Nat) : k_P := fun v n' τ => v = some (j_i (σ.2.1 a 0)) ∧ n' = n ∧ cfr σ τ ∧ IR τ a ∧ i_chg τ a b (τ.2.1 68 45)
theorem BQ_t {n : Nat} {σ τ : k_St} {a b : Nat} (ha : a = 48 ∨ a = 58) (h : cfr σ τ) {v : Option Value} {n' : Nat} {ρ : k_St} (q : BQ n τ a b v n' ρ) : BQ n σ a b v n' ρ := ⟨by rw [q.1, h.2.1 a 0 (by omega)], q.2.1, cfr_t h q.2.2.1, q.2.2.2⟩
def K1 (σ : k_St) (a : Nat) (pe : Int → Int) : Prop := σ.2.1 68 25 = σ.2.1 a 0 ∧ σ.1 (a + 1) = pe ∧ pE σ pe
def K2 (σ : k_St) (a : Nat) : Prop := σ.2.1 68 32 = σ.2.1 a 5 ∧ (∀ e, 0 ≤ e → e < σ.2.1 68 25 → σ.1 83 e = pst (σ.1 (a + 2)) e ∧ σ.1 82 e = σ.1 (a + 2) e - pst (σ.1 (a + 2)) e) ∧ ∀ j, 0 ≤ j → j < 4 * σ.2.1 a 5 → σ.1 86 j = σ.1 (a + 4) j
def K3 (σ : k_St) (a : Nat) : Prop := σ.2.1 68 34 = σ.2.1 a 7 ∧ (∀ e, 0 ≤ e → e < σ.2.1 68 25 → σ.1 85 e = pst (σ.1 (a + 3)) e ∧ σ.1 84 e = σ.1 (a + 3) e - pst (σ.1 (a + 3)) e) ∧ ∀ j, 0 ≤ j → j < σ.2.1 a 7 → σ.1 87 (3 * j) = σ.1 (a + 5) (3 * j) ∧ σ.1 87 (3 * j + 1) = σ.1 (a + 5) (3 * j + 1) ∧ σ.1 87 (3 * j + 2) = σ.1 (a + 5) (3 * j + 2)
def KU (σ : k_St) (pe : Int → Int) (lm : List Int) : Prop := UN σ (fun x => ∃ e, 0 ≤ e ∧ e < σ.2.1 68 25 ∧ x ∈ b_lo (σ.1 17) (σ.1 19) (pe e) lm (-9))
def K5 (σ : k_St) : Prop := ∀ h, h_is σ h → σ.1 96 h = e_sl (σ.1 69) h ∧ ∀ i, 0 ≤ i → i < e_sl (σ.1 69) h → σ.1 97 (16 * h + i) = f_fold (e_st (σ.1 69) h i)
theorem K1_cg {σ τ : k_St} {a : Nat} {pe : Int → Int} (ha : a = 48 ∨ a = 58) (h : cfr σ τ) (h1 : τ.1 81 = σ.1 81) (h2 : τ.2.1 68 25 = σ.2.1 68 25) (k : K1 σ a pe) : K1 τ a pe := by
  unfold K1 pE at *; rw [h1, h2, h.1 (a + 1) (by omega), h.2.1 a 0 (by omega)]; exact k
theorem K2_cg {σ τ : k_St} {a : Nat} (ha : a = 48 ∨ a = 58) (h : cfr σ τ) (h1 : τ.1 82 = σ.1 82) (h3 : τ.1 83 = σ.1 83) (h4 : τ.1 86 = σ.1 86) (h2 : τ.2.1 68 25 = σ.2.1 68 25) (h5 : τ.2.1 68 32 = σ.2.1 68 32) (k : K2 σ a) : K2 τ a := by
  unfold K2 at *; rw [h1, h2, h3, h4, h5, h.1 (a + 2) (by omega), h.1 (a + 4) (by omega), h.2.1 a 5 (by omega)]; exact k
theorem K3_cg {σ τ : k_St} {a : Nat} (ha : a = 48 ∨ a = 58) (h : cfr σ τ) (h1 : τ.1 84 = σ.1 84) (h3 : τ.1 85 = σ.1 85) (h4 : τ.1 87 = σ.1 87) (h2 : τ.2.1 68 25 = σ.2.1 68 25) (h5 : τ.2.1 68 34 = σ.2.1 68 34) (k : K3 σ a) : K3 τ a := by
  unfold K3 at *; rw [h1, h2, h3, h4, h5, h.1 (a + 3) (by omega), h.1 (a + 5) (by omega), h.2.1 a 7 (by omega)]; exact k
theorem KU_cg {σ τ : k_St} {pe : Int → Int} {lm : List Int} (h : cfr σ τ) (h1 : τ.1 95 = σ.1 95) (h2 : τ.2.1 68 25 = σ.2.1 68 25) (h3 : τ.2.1 68 43 = σ.2.1 68 43) (k : KU σ pe lm) : KU τ pe lm := by
  unfold KU at *; rw [h2, h.1 17 (by omega), h.1 19 (by omega)]; exact UN_cg h1 h3 k
theorem K5_cg {σ τ : k_St} (h : cfr σ τ) (h1 : τ.1 96 = σ.1 96) (h2 : τ.1 97 = σ.1 97) (k : K5 σ) : K5 τ := by
  unfold K5 at *; rw [h1, h2, h.1 69 (by omega)]
  intro x hx
  exact k x (by unfold h_is at *; rw [h.1 15 (by omega), h.2.1 8 3 (by omega)] at hx; exact hx)
set_option maxHeartbeats 4000000 in
theorem b_492 {G : j_G} {X : k_X} {n : Nat} {σ : k_St} (hn : 101 ≤ n) {a b : Nat} {lm lr : List Int} {od d c k : Int} {pe : Int → Int} (hF : FX σ a lm lr od c d) (hO : OLD σ b) (k1 : K1 σ a pe) (hI : IR σ a) : j_at G mX12_build 492 [(0, .ref 68), (1, j_i od), (2, j_i d), (3, j_i c), (4, j_i k)] [] (k_h X n σ) 0 0 (k_Q X (BQ n σ a b)) := by
  have ha := hF.1
  have hw := hF.2.1.2.2.2
  have hij : ij pe (σ.2.1 a 0) := by rw [← k1.2.1]; exact so_ij (fun x => pt_irr (fun x => o_irr)) hF.2.2.2.2.1.1
  refine a_aload_n (pc := 492) (i := 0) (by decide +kernel) rfl ?_
  refine a_aload_n (pc := 493) (i := 0) (by decide +kernel) rfl ?_
  refine b_callV (pc := 494) (c' := 0) (sl' := 0) [] [.ref 68] ml_X12_383 (by decide +kernel) rfl rfl (sh_68 hn) rfl rfl (Nat.le_of_ble_eq_true rfl) (j_fitI rfl rfl) (e_countChanged hn k1.2.2 (fun e e0 e1 => by rw [← k1.2.1]; exact (hw.2.2.2.2 e).1) (CH_mk ha hw hI hO).1) (fun v n' σ' hq => ?_)
  obtain ⟨r1, rfl, e1, e2, hr1⟩ := hq
  rw [e1, e2]; clear e1 e2
  show j_at _ _ _ [(0, .ref 68), (1, j_i od), (2, j_i d), (3, j_i c), (4, j_i k)] [j_i r1, .ref 68] _ _ _ _
  refine b_putI (pc := 497) fl_X12_386 (by decide +kernel) (sh_68 hn) rfl rfl rfl ?_
  obtain ⟨σ2, hσ2⟩ : ∃ z, z = k_sI σ 68 45 r1 := ⟨_, rfl⟩
  rw [← hσ2]
  refine a_aload_n (pc := 500) (i := 0) (by decide +kernel) rfl ?_
  refine b_getI (pc := 501) fl_X12_281 (by decide +kernel) (sh_68 hn) rfl ?_
  rw [show σ2.2.1 68 25 = σ.2.1 68 25 by rw [hσ2]; exact k_IN (by omega)]
  refine a_ireturn (pc := 504) (by decide +kernel) rfl ?_
  refine k_ret ?_
  obtain ⟨x, y, hx, hy, hr⟩ := hr1
  have hg := chg_mk ha hw hI hO k1.2.1 hij hx hy
  rw [← hr] at hg
  have t1 : σ2.1 = σ.1 := by rw [hσ2]; rfl
  have t2 : ∀ c j, ¬ (c = 68 ∧ j = 45) → σ2.2.1 c j = σ.2.1 c j := fun c j q => by rw [hσ2, k_IN q]
  refine ⟨by rw [k1.1], rfl, ⟨fun c _ => by rw [t1], fun c j q => t2 c j (by omega), by rw [hσ2]; rfl⟩, IR_45 ha t1 t2 hI, ?_⟩
  rw [show σ2.2.1 68 45 = r1 by rw [hσ2, k_II]]
  exact i_chg_cg (fun c _ _ => by rw [t1]) (fun j => t2 a j (by omega)) (fun c _ _ => by rw [t1]) (fun j => t2 b j (by have := hO.1; omega)) hg
set_option maxHeartbeats 4000000 in
theorem b_404 {G : j_G} {X : k_X} {n : Nat} {σ : k_St} (hn : 101 ≤ n) {a b : Nat} {lm lr : List Int} {od d c k : Int} {pe : Int → Int} (hF : FX σ a lm lr od c d) (hO : OLD σ b) (k1 : K1 σ a pe) (k2 : K2 σ a) (k3 : K3 σ a) (k5 : K5 σ) (ku : KU σ pe lm) : j_at G mX12_build 404 [(0, .ref 68), (1, j_i od), (2, j_i d), (3, j_i c), (4, j_i k)] [] (k_h X n σ) 0 0 (k_Q X (BQ n σ a b)) := by
  have ha := hF.1
  have hw := hF.2.1.2.2.2
  refine a_iconst (pc := 404) (n := 1) (by decide +kernel) ?_
  refine a_istore (pc := 405) (i := 4) (lv' := [(0, .ref 68), (1, j_i od), (2, j_i d), (3, j_i c), (4, j_i 1)]) (by decide +kernel) (Nat.le_of_ble_eq_true rfl) rfl ?_
  refine l_bd407 hn (fun τ i hS hso => ?_) 53 1 σ (by omega) (by omega) (by omega) ⟨⟨fun _ _ => rfl, rfl⟩, ku⟩ so_1
  obtain ⟨⟨q1, q2⟩, u1, u2, u3, u4⟩ := hS
  have hc : cfr σ τ := ⟨fun c _ => q1 c (by omega), fun c j _ => by rw [q2], by rw [q2]⟩
  have f : ∀ j, τ.2.1 68 j = σ.2.1 68 j := fun j => by rw [q2]
  have hF2 := FX_cg hc hF
  have hI : IR τ a := by
    refine IR_mk (pe := pe) hF2 ⟨K1_cg ha hc (q1 81 (by omega)) (f _) k1, K2_cg ha hc (q1 82 (by omega)) (q1 83 (by omega)) (q1 86 (by omega)) (f _) (f _) k2, K3_cg ha hc (q1 84 (by omega)) (q1 85 (by omega)) (q1 87 (by omega)) (f _) (f _) k3, ?_, K5_cg hc (q1 96 (by omega)) (q1 97 (by omega)) k5⟩
    have f11 := hF2.2.2.2.2.2.2.2.2.1
    have hu := st_u (lt := fun x y : Int => x < y) (fun x => Int.lt_irrefl _) (fun x y z h1 h2 => Int.lt_trans h1 h2) hso f11.1 (fun x => by
      rw [u4, f11.2]
      rw [hc.1 17 (by omega), hc.1 19 (by omega), hc.1 (a + 1) (by omega), hc.2.1 a 0 (by omega), k1.2.1, k1.1]) u1.1 hF2.2.1.2.2.2.2.2.2.1.1
    exact ⟨hu.1, fun i i0 i1 => hu.2 i i0 (by omega)⟩
  exact k_mono (fun v n' ρ q => BQ_t ha hc q) (b_492 hn hF2 (OLD_cg hc (fun c _ _ => q1 c (by omega)) (f _) hO) (K1_cg ha hc (q1 81 (by omega)) (f _) k1) hI)
set_option maxHeartbeats 4000000 in
theorem b_315 {G : j_G} {X : k_X} {n : Nat} {σ : k_St} (hn : 101 ≤ n) {a b : Nat} {lm lr : List Int} {od d c k : Int} {pe : Int → Int} (hF : FX σ a lm lr od c d) (hO : OLD σ b) (k1 : K1 σ a pe) (k2 : K2 σ a) (k3 : K3 σ a) (ku : KU σ pe lm) : j_at G mX12_build 315 [(0, .ref 68), (1, j_i od), (2, j_i d), (3, j_i c), (4, j_i k)] [] (k_h X n σ) 0 0 (k_Q X (BQ n σ a b)) := by
  have ha := hF.1
  have hK := hF.2.1.1
  have hg3 := (KR_rg hK.1 hK.2.1).1.2.1
  refine a_iconst (pc := 315) (n := 0) (by decide +kernel) ?_
  refine a_istore (pc := 316) (i := 4) (lv' := [(0, .ref 68), (1, j_i od), (2, j_i d), (3, j_i c), (4, j_i 0)]) (by decide +kernel) (Nat.le_of_ble_eq_true rfl) rfl ?_
  refine l_bd318 hn hK (fun τ h hI => ?_) 32 0 σ (by omega) (by omega) (by omega) ⟨⟨fun _ _ _ => rfl, rfl⟩, fun h h0 h1 => absurd h1 (by omega)⟩
  obtain ⟨⟨q1, q2⟩, w⟩ := hI
  have hc : cfr σ τ := ⟨fun c _ => q1 c (by omega) (by omega), fun c j _ => by rw [q2], by rw [q2]⟩
  have f : ∀ j, τ.2.1 68 j = σ.2.1 68 j := fun j => by rw [q2]
  have hE9 : σ.2.1 8 3 = σ.1 69 301 := hK.2.1.2.1.1
  have k5 : K5 τ := fun x hx => by
    have hx' : h_is σ x := by unfold h_is at *; rw [q1 15 (by omega) (by omega), q2] at hx; exact hx
    rw [q1 69 (by omega) (by omega)]
    exact w x hx'.1 (by have := hx'.2.1; omega) hx'
  exact k_mono (fun v n' ρ q => BQ_t ha hc q) (b_404 hn (FX_cg hc hF) (OLD_cg hc (fun c _ _ => q1 c (by omega) (by omega)) (f _) hO) (K1_cg ha hc (q1 81 (by omega) (by omega)) (f _) k1) (K2_cg ha hc (q1 82 (by omega) (by omega)) (q1 83 (by omega) (by omega)) (q1 86 (by omega) (by omega)) (f _) (f _) k2) (K3_cg ha hc (q1 84 (by omega) (by omega)) (q1 85 (by omega) (by omega)) (q1 87 (by omega) (by omega)) (f _) (f _) k3) k5 (KU_cg hc (q1 95 (by omega) (by omega)) (f _) (f _) ku))
def K3' (σ : k_St) (a : Nat) : Prop := σ.2.1 68 34 = σ.2.1 a 7 ∧ (∀ e, 0 ≤ e → e < σ.2.1 68 25 → σ.1 85 e = pst (σ.1 (a + 3)) e ∧ σ.1 84 e = σ.1 (a + 3) e - pst (σ.1 (a + 3)) e) ∧ ∀ j, 0 ≤ j → j < σ.2.1 a 7 → σ.1 87 (3 * j) = σ.1 (a + 5) (3 * j) ∧ σ.1 87 (3 * j + 1) = σ.1 (a + 5) (3 * j + 1)
theorem EH_mk {σ : k_St} {a : Nat} {lm lr : List Int} {od c d : Int} {pe : Int → Int} (hF : FX σ a lm lr od c d) (k1 : K1 σ a pe) (k2 : K2 σ a) (k3 : K3' σ a) : EH σ a pe := by
  have hD : DH σ a pe lm lr od := FX_DH (σ := σ) hF k1.2.2 k1.1 k1.2.1 (fun e e0 e1 => (k2.2.1 e e0 e1).2)
  have hB := FX_MB hF k1.2.2 k1.1 k1.2.1
  have mono := fun e (e0 : 0 ≤ e) (e1 : e < σ.2.1 a 0) => FX_mono hF e0 e1
  have hsee := fun e (e0 : 0 ≤ e) (e1 : e < σ.2.1 68 25) h1 hb => FX_see hF k1.2.2 k1.1 k1.2.1 hD e0 e1 h1 hb
  have hE1 := k1.2.2.1
  obtain ⟨ha, hf, _, _, _, f8, f9, f10, _⟩ := hF
  have hw := hf.2.2.2
  have w7 := hw.2.2.1
  obtain ⟨_, _, _, ⟨hx1, hx2, hx3⟩, _, hS, _, h82, _, _⟩ := id hD
  have n1 := k1.1
  refine ⟨ha, hB, hw, ⟨hx1, hx2, hx3, fun e e0 e1 h1 => body_1 hB hS hx1 hx2 ⟨e0, e1⟩ (h82 e e0 e1).1 h1, fun e e0 e1 h1 hb => ?_, fun e e0 e1 => ?_⟩, fun e e0 e1 => ?_, by rw [n1]; exact f9.1, k3.2.2, f10, fun e e0 e1 => (mono e e0 (by omega)).2.2⟩
  · have z := hsee e e0 e1 h1 hb
    have m := (mono e e0 (by omega)).2
    have s := k3.2.1 e e0 e1
    have ep := (i_ps_pst (σ := σ) (a := a) (e := e) (by omega)).2
    have p3 := pst_in3 hw e
    have g := (k3.2.2 (pst (σ.1 (a + 3)) e) (by omega) (by omega)).1
    have r5 := (hw.2.2.2.2 (3 * pst (σ.1 (a + 3)) e)).2.2.2.2.1
    refine ⟨by unfold i_sn; rw [if_pos ⟨e0, by omega⟩, ep]; omega, ?_, ?_, by omega, by omega⟩
    · rw [s.1, ep, g, show pst (σ.1 (a + 3)) e * 3 = 3 * pst (σ.1 (a + 3)) e by omega]
    · rw [s.1, g]; exact r5
  · have := h82 e e0 e1
    have := i_pn_in hw e
    omega
  · have s := k3.2.1 e e0 e1
    exact ⟨s.1, s.2, (mono e e0 (by omega)).2.1⟩
set_option maxHeartbeats 4000000 in
theorem b_236 {G : j_G} {X : k_X} {n : Nat} {σ : k_St} (hn : 101 ≤ n) {a b : Nat} {lm lr : List Int} {od d c k : Int} {pe : Int → Int} (hF : FX σ a lm lr od c d) (hO : OLD σ b) (k1 : K1 σ a pe) (k2 : K2 σ a) (k3 : K3' σ a) (ku : KU σ pe lm) : j_at G mX12_build 236 [(0, .ref 68), (1, j_i od), (2, j_i d), (3, j_i c), (4, j_i k)] [] (k_h X n σ) 0 0 (k_Q X (BQ n σ a b)) := by
  have ha := hF.1
  have hH := EH_mk hF k1 k2 k3
  have hE1 := k1.2.2.1
  refine a_iconst (pc := 236) (n := 0) (by decide +kernel) ?_
  refine a_istore (pc := 237) (i := 4) (lv' := [(0, .ref 68), (1, j_i od), (2, j_i d), (3, j_i c), (4, j_i 0)]) (by decide +kernel) (Nat.le_of_ble_eq_true rfl) rfl ?_
  refine l_bd239 hn hH (fun τ e hI => ?_) 152 0 σ (by omega) (by omega) (by omega) ⟨lcf_r, fun j j0 j1 => by unfold pst at j1; rw [if_neg (by omega)] at j1; omega⟩
  obtain ⟨⟨q1, q2, q3⟩, w⟩ := hI
  have hc : cfr σ τ := ⟨fun c _ => q1 c (by omega) (by omega), fun c j _ => by rw [q2], by rw [q2]⟩
  have f : ∀ j, τ.2.1 68 j = σ.2.1 68 j := fun j => by rw [q2]
  have h7 := hH.2.2.2.2.2.1
  have k3' : K3 τ a := by
    unfold K3
    rw [f 34, f 25, q1 84 (by omega) (by omega), q1 85 (by omega) (by omega), q1 (a + 3) (by omega) (by omega), q1 (a + 5) (by omega) (by omega), hc.2.1 a 7 (by omega)]
    refine ⟨k3.1, k3.2.1, fun j j0 j1 => ?_⟩
    have z := k3.2.2 j j0 j1
    exact ⟨(q3 j).1.trans z.1, (q3 j).2.trans z.2, w j j0 (by rw [← h7]; exact j1)⟩
  exact k_mono (fun v n' ρ q => BQ_t ha hc q) (b_315 hn (FX_cg hc hF) (OLD_cg hc (fun c _ _ => q1 c (by omega) (by omega)) (f _) hO) (K1_cg ha hc (q1 81 (by omega) (by omega)) (f _) k1) (K2_cg ha hc (q1 82 (by omega) (by omega)) (q1 83 (by omega) (by omega)) (q1 86 (by omega) (by omega)) (f _) (f _) k2) k3' (KU_cg hc (q1 95 (by omega) (by omega)) (f _) (f _) ku))
set_option maxHeartbeats 4000000 in
theorem b_211 {G : j_G} {X : k_X} {n : Nat} {σ : k_St} (hn : 101 ≤ n) {a b : Nat} {lm lr : List Int} {od d c k : Int} {pe : Int → Int} (hF : FX σ a lm lr od c d) (hO : OLD σ b) (k1 : K1 σ a pe) (ho : od = 0 ∨ od = 1) (k2 : K2 σ a) (h34 : σ.2.1 68 34 = 0) (ku : KU σ pe lm) : j_at G mX12_build 211 [(0, .ref 68), (1, j_i od), (2, j_i d), (3, j_i c), (4, j_i k)] [] (k_h X n σ) 0 0 (k_Q X (BQ n σ a b)) := by
  have ha := hF.1
  have hD : DH σ a pe lm lr od := FX_DH (σ := σ) hF k1.2.2 k1.1 k1.2.1 (fun e e0 e1 => (k2.2.1 e e0 e1).2)
  have hE1 := k1.2.2.1
  refine a_iconst (pc := 211) (n := 0) (by decide +kernel) ?_
  refine a_istore (pc := 212) (i := 4) (lv' := [(0, .ref 68), (1, j_i od), (2, j_i d), (3, j_i c), (4, j_i 0)]) (by decide +kernel) (Nat.le_of_ble_eq_true rfl) rfl ?_
  refine l_bd214 hn hD ho (fun τ e hI => ?_) 152 0 σ (by omega) (by omega) (by omega) ⟨scf_r, by rw [h34]; rfl, fun e e0 e1 => absurd e1 (by omega), fun j j0 j1 => by unfold pst at j1; rw [if_neg (by omega)] at j1; omega⟩
  obtain ⟨⟨q1, q2, q3⟩, w1, w2, w3⟩ := hI
  have hc : cfr σ τ := ⟨fun c _ => q1 c (by omega) (by omega) (by omega), fun c j _ => q2 c j (by omega), q3⟩
  have k3' : K3' τ a := by
    have h7 := hD.2.2.2.2.2.2.2.2.1
    unfold K3'
    rw [q2 68 25 (by omega), q1 (a + 3) (by omega) (by omega) (by omega), q1 (a + 5) (by omega) (by omega) (by omega), q2 a 7 (by omega), h7]
    exact ⟨w1, w2, w3⟩
  exact k_mono (fun v n' ρ q => BQ_t ha hc q) (b_236 hn (FX_cg hc hF) (OLD_cg hc (fun c _ _ => q1 c (by omega) (by omega) (by omega)) (q2 _ _ (by omega)) hO) (K1_cg ha hc (q1 81 (by omega) (by omega) (by omega)) (q2 _ _ (by omega)) k1) (K2_cg ha hc (q1 82 (by omega) (by omega) (by omega)) (q1 83 (by omega) (by omega) (by omega)) (q1 86 (by omega) (by omega) (by omega)) (q2 _ _ (by omega)) (q2 _ _ (by omega)) k2) k3' (KU_cg hc (q1 95 (by omega) (by omega) (by omega)) (q2 _ _ (by omega)) (q2 _ _ (by omega)) ku))
set_option maxHeartbeats 4000000 in
theorem b_185 {G : j_G} {X : k_X} {n : Nat} {σ : k_St} (hn : 101 ≤ n) {a b : Nat} {lm lr : List Int} {od d c k : Int} {pe : Int → Int} (hF : FX σ a lm lr od c d) (hO : OLD σ b) (k1 : K1 σ a pe) (ho : od = 0 ∨ od = 1) (rc : c = 0 ∨ c = 1) (d0 : 0 ≤ d ∧ d ≤ 20) (h32 : σ.2.1 68 32 = 0) (h34 : σ.2.1 68 34 = 0) (h43 : σ.2.1 68 43 = 0) : j_at G mX12_build 185 [(0, .ref 68), (1, j_i od), (2, j_i d), (3, j_i c), (4, j_i k)] [] (k_h X n σ) 0 0 (k_Q X (BQ n σ a b)) := by
  have ha := hF.1
  have hH := FX_BH hF k1.2.2 k1.1 k1.2.1
  have hE1 := k1.2.2.1
  refine a_iconst (pc := 185) (n := 0) (by decide +kernel) ?_
  refine a_istore (pc := 186) (i := 4) (lv' := [(0, .ref 68), (1, j_i od), (2, j_i d), (3, j_i c), (4, j_i 0)]) (by decide +kernel) (Nat.le_of_ble_eq_true rfl) rfl ?_
  refine l_bd188 hn hH rc d0 (fun τ e hI => ?_) 152 0 σ (by omega) (by omega) (by omega) ⟨pcf_r, by rw [h32]; rfl, fun e e0 e1 => absurd e1 (by omega), fun j j0 j1 => by unfold pst at j1; rw [if_neg (by omega)] at j1; omega, ⟨by omega, fun i j i0 i1 => by omega, fun k k0 k1 => by omega, fun x => ⟨fun ⟨i, i0, i1, _⟩ => by omega, fun ⟨e, e0, e1, _⟩ => by omega⟩⟩, fun e e0 e1 => absurd e1 (by omega)⟩
  obtain ⟨⟨q1, q2, q3⟩, w1, w2, w3, w4, _⟩ := hI
  have hc : cfr σ τ := ⟨fun c _ => q1 c (by omega), fun c j _ => q2 c j (by omega), q3⟩
  have h5 := hH.2.2.2.2.2.1
  have k2 : K2 τ a := by
    unfold K2
    rw [q2 68 25 (by omega), q1 (a + 2) (by omega), q1 (a + 4) (by omega), q2 a 5 (by omega), h5]
    exact ⟨w1, w2, w3⟩
  exact k_mono (fun v n' ρ q => BQ_t ha hc q) (b_211 hn (FX_cg hc hF) (OLD_cg hc (fun c _ _ => q1 c (by omega)) (q2 _ _ (by omega)) hO) (K1_cg ha hc (q1 81 (by omega)) (q2 _ _ (by omega)) k1) ho k2 (by rw [q2 68 34 (by omega)]; exact h34) (by unfold KU; rw [q2 68 25 (by omega), q1 17 (by omega), q1 19 (by omega)]; exact w4))
