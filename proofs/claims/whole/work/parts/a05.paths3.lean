theorem r_cmp_ex (s t : Int → Int) : ∃ r, r_cmp s t r := by
  have key : ∀ k : Nat, (∀ i, 0 ≤ i → i < (k : Int) → s i = t i) ∨ ∃ i, 0 ≤ i ∧ i < (k : Int) ∧ (∀ j, 0 ≤ j → j < i → s j = t j) ∧ s i ≠ t i := by
    intro k
    induction k with
    | zero => exact Or.inl (fun i i0 i1 => absurd i1 (by omega))
    | succ k ih =>
      rcases ih with a | ⟨i, i0, i1, i2⟩
      · by_cases e : s k = t k
        · refine Or.inl (fun i i0 i1 => ?_)
          by_cases w : i = k
          · rw [w]; exact e
          · exact a i i0 (by omega)
        · exact Or.inr ⟨k, by omega, by omega, a, e⟩
      · exact Or.inr ⟨i, i0, by omega, i2⟩
  rcases key 16 with a | ⟨i, i0, i1, i2, i3⟩
  · exact ⟨0, Or.inl ⟨rfl, fun i i0 i1 => a i i0 (by omega)⟩⟩
  · exact ⟨_, Or.inr ⟨i, i0, by omega, i2, i3, rfl⟩⟩
theorem o_rel_ex {σ : k_St} (hK : RKept σ) (hP : RPass σ) {a b od : Int} (a0 : 0 ≤ a) (a1 : a < σ.1 69 301) (b0 : 0 ≤ b) (b1 : b < σ.1 69 301) : ∃ r, o_rel σ a b od r := by
  obtain ⟨i, hi⟩ := y_ks_ex hK hP a0 a1
  obtain ⟨j, hj⟩ := y_ks_ex hK hP b0 b1
  by_cases e : f_cb (r_sgn σ (h_rows σ a 1) 30 a) (r_sgn σ (h_rows σ b 1) 30 b) (if od = 0 then 1 else 0) 17 i j = 0
  · obtain ⟨r, hr⟩ := r_cmp_ex (r_sgn σ 9 30 a) (r_sgn σ 9 30 b)
    exact ⟨r, i, j, hi, hj, Or.inr ⟨e, hr⟩⟩
  · exact ⟨_, i, j, hi, hj, Or.inl ⟨e, rfl⟩⟩
theorem RK_dis {σ : k_St} (hK : RKept σ) : h_dis σ := hK.2.2.1.1
theorem o_tot {σ : k_St} (hK : RKept σ) (hP : RPass σ) {a b od : Int} (ha : h_is σ a) (hb : h_is σ b) (hab : a ≠ b) : o_rel σ a b od (-1) ∨ o_rel σ b a od (-1) := by
  have hE : σ.2.1 8 3 = σ.1 69 301 := hK.2.1.2.1.1
  obtain ⟨r, hr⟩ := o_rel_ex (od := od) hK hP ha.1 (by have := ha.2.1; omega) hb.1 (by have := hb.2.1; omega)
  have h1 := o_rel_r hr
  have h2 : r ≠ 0 := fun e => o_rel_0 (RK_dis hK) ha hb hab (by rw [e] at hr; exact hr)
  rcases (show r = -1 ∨ r = 1 by omega) with e | e
  · rw [e] at hr; exact Or.inl hr
  · rw [e] at hr; exact Or.inr (o_rel_anti hr)
theorem hl_tr {lt : Int → Int → Prop} (htr : ∀ x y z, lt x y → lt y z → lt x z) {x y z : Int} (h : hl_lt lt x y) (g : hl_lt lt y z) : hl_lt lt x z := by
  obtain ⟨h1, h2⟩ := h
  obtain ⟨g1, g2⟩ := g
  refine ⟨g1, ?_⟩
  rcases g2 with g2 | ⟨_, g2⟩
  · exact absurd g2 h1
  · rcases h2 with h2 | ⟨h3, h2⟩
    · exact Or.inl h2
    · exact Or.inr ⟨h3, htr _ _ _ h2 g2⟩
theorem pt_tr {lt : Int → Int → Prop} (htr : ∀ x y z, lt x y → lt y z → lt x z) {p q r : Int} (h : pt_lt lt p q) (g : pt_lt lt q r) : pt_lt lt p r := by
  unfold pt_lt at h g ⊢
  rcases h with h | ⟨h0, h⟩
  · rcases g with g | ⟨g0, _⟩
    · exact Or.inl (hl_tr htr h g)
    · rw [g0] at h; exact Or.inl h
  · rcases g with g | ⟨g0, g⟩
    · rw [← h0] at g; exact Or.inl g
    · refine Or.inr ⟨h0.trans g0, ?_⟩
      rcases h with h | ⟨h1, h⟩
      · rcases g with g | ⟨g1, _⟩
        · exact Or.inl (hl_tr htr h g)
        · rw [g1] at h; exact Or.inl h
      · rcases g with g | ⟨g1, g⟩
        · rw [← h1] at g; exact Or.inl g
        · exact Or.inr ⟨h1.trans g1, hl_tr htr h g⟩
theorem pt_irr {lt : Int → Int → Prop} (hir : ∀ x, ¬ lt x x) {p : Int} : ¬ pt_lt lt p p := by
  rintro (h | ⟨_, h | ⟨_, h⟩⟩)
  · exact hl_irr hir h
  · exact hl_irr hir h
  · exact hl_irr hir h
theorem hl_tot {lt : Int → Int → Prop} {lv : Int → Prop} (htot : ∀ x y, lv x → lv y → x ≠ y → lt x y ∨ lt y x) {x y : Int} (hx : x = -9 ∨ lv x) (hy : y = -9 ∨ lv y) (hxy : x ≠ y) : hl_lt lt x y ∨ hl_lt lt y x := by
  by_cases a : x = -9
  · rw [a] at hxy ⊢; exact Or.inl (hl_l (fun w => hxy w.symm))
  · by_cases b : y = -9
    · rw [b] at hxy ⊢; exact Or.inr (hl_l hxy)
    · rcases hx with hx | hx
      · exact absurd hx a
      · rcases hy with hy | hy
        · exact absurd hy b
        · rcases htot x y hx hy hxy with w | w
          · exact Or.inl ((hl_b a b).mpr w)
          · exact Or.inr ((hl_b b a).mpr w)
theorem pt_tot {lt : Int → Int → Prop} {lv : Int → Prop} (hir : ∀ x, ¬ lt x x) (htot : ∀ x y, lv x → lv y → x ≠ y → lt x y ∨ lt y x) {p q : Int} (hp : okp lv p) (hq : okp lv q) (h : p ≠ q) : pt_lt lt p q ∨ pt_lt lt q p := by
  obtain ⟨p0, p1, p2⟩ := okp_hd hp
  obtain ⟨q0, q1, q2⟩ := okp_hd hq
  by_cases a : f_head p 0 = f_head q 0
  · by_cases b : f_head p 1 = f_head q 1
    · by_cases c : f_head p 2 = f_head q 2
      · exact absurd (hd_inj (okp_in hp) (okp_in hq) a b c) h
      · rw [pt_2 hir a b, pt_2 hir a.symm b.symm]; exact hl_tot htot p2 q2 c
    · rw [pt_1 hir a b, pt_1 hir a.symm (fun w => b w.symm)]; exact hl_tot htot p1 q1 b
  · rw [pt_0 a, pt_0 (fun w => a w.symm)]; exact hl_tot htot p0 q0 a
theorem okp_h {σ τ : k_St} (h : sp_fr σ τ) {p : Int} (hp : okp (h_is σ) p) : okp (h_is τ) p := by
  rw [show h_is τ = h_is σ from funext fun x => propext (sp_h h x)]; exact hp
theorem sp_r {σ : k_St} : sp_fr σ σ := ⟨fun _ _ => rfl, fun _ _ _ => rfl, rfl⟩
set_option maxHeartbeats 4000000 in
theorem l_sp12 {G : j_G} {X : k_X} {n : Nat} {σ : k_St} (hn : 101 ≤ n) (hK : RKept σ) (hP : RPass σ) {A : Int → Prop} {od : Int} (ho : od = 0 ∨ od = 1) {k : Int} (k0 : 1 ≤ k) (k1 : k < σ.2.1 68 25) {Q : k_P} (kk : ∀ (i : Int) (τ : k_St) (pe : Int → Int), SP σ τ pe A → so (pt_lt (fun x y => o_rel σ x y od (-1))) pe (k + 1) → j_at G mX12_sortPaths 101 [(0, .ref 68), (1, j_i od), (2, j_i k), (3, j_i i)] [] (k_h X n τ) 0 0 (k_Q X Q))  : ∀ (z : Nat) (i : Int) (τ : k_St) (pe : Int → Int), i < (z : Int) → 0 ≤ i → i ≤ k → SP σ τ pe A → sS (pt_lt (fun x y => o_rel σ x y od (-1))) pe k i → j_at G mX12_sortPaths 12 [(0, .ref 68), (1, j_i od), (2, j_i k), (3, j_i i)] [] (k_h X n τ) 0 0 (k_Q X Q) := by
  have hir : ∀ x, ¬ o_rel σ x x od (-1) := fun x => o_irr
  have htr : ∀ x y z, o_rel σ x y od (-1) → o_rel σ y z od (-1) → o_rel σ x z od (-1) := fun x y z => o_rel_tr
  have htp : ∀ x y z, pt_lt (fun x y => o_rel σ x y od (-1)) x y → pt_lt (fun x y => o_rel σ x y od (-1)) y z → pt_lt (fun x y => o_rel σ x y od (-1)) x z := fun x y z => pt_tr htr
  intro z
  induction z with
  | zero => intro i τ pe h1 h2; exact absurd h1 (by omega)
  | succ z ih =>
    intro i τ pe hz h0 hN hS hI
    have en : τ.2.1 68 25 = σ.2.1 68 25 := hS.1.2.1 _ _ (by omega)
    have hn5 := hS.2.1.1
    rw [en] at hn5
    refine a_iload_n (pc := 12) (i := 3) (by decide +kernel) rfl ?_
    refine a_if_le (pc := 13) (off := 88) (tgt := 101) (by decide +kernel) (by decide) (by omega) (fun c13 => ?_) (fun c13 => ?_)
    · exact kk i τ pe hS (sS_e htp hI (by omega) (Or.inl (by omega)))
    · refine a_aload_n (pc := 16) (i := 0) (by decide +kernel) rfl ?_
      refine a_iload_n (pc := 17) (i := 3) (by decide +kernel) rfl ?_
      refine a_iconst (pc := 18) (n := 1) (by decide +kernel) ?_
      refine a_isub (pc := 19) (by decide +kernel) ?_
      refine a_iload_n (pc := 20) (i := 3) (by decide +kernel) rfl ?_
      refine a_iload_n (pc := 21) (i := 1) (by decide +kernel) rfl ?_
      refine b_callV (pc := 22) (c' := 0) (sl' := 0) [j_i (i - 1), j_i i, j_i od] [] ml_X12_291 (by decide +kernel) rfl rfl (sh_68 hn) rfl rfl (Nat.le_of_ble_eq_true rfl) (j_fitI rfl rfl) (e_comparePaths hn (sp_K hS.1 hK) (sp_P hS.1 hP) hS.2.1 (by rw [en]; omega) (by rw [en]; omega) (okp_h hS.1 (hS.2.2.1 _ (by omega) (by omega))) (okp_h hS.1 (hS.2.2.1 _ (by omega) (by omega))) ho) (fun v n' σ' hq => ?_)
      obtain ⟨rfl, hbf, x, rfl, hxr, hx⟩ := hq
      obtain ⟨σ1, hσ1⟩ : ∃ z, z = σ' := ⟨_, rfl⟩
      rw [← hσ1] at hbf ⊢
      clear hσ1
      rw [show (fun x y => o_rel τ x y od (-1)) = (fun x y => o_rel σ x y od (-1)) from by funext x y; exact propext (sp_o hS.1)] at hx
      have hS2 : SP σ σ1 pe A := ⟨sp_b hS.1 hbf, pE_b hS.2.1 hbf, hS.2.2⟩
      show j_at _ _ _ [(0, .ref 68), (1, j_i od), (2, j_i k), (3, j_i i)] [j_i x] _ _ _ _
      refine a_if_le (pc := 25) (off := 76) (tgt := 101) (by decide +kernel) (by decide) (by omega) (fun c25 => ?_) (fun c25 => ?_)
      · refine kk i σ1 pe hS2 (sS_e htp hI (by omega) (Or.inr ?_))
        rcases pt_tot (lv := h_is σ) hir (fun a b ha hb hab => o_tot hK hP ha hb hab) (hS.2.2.1 (i - 1) (by omega) (by omega)) (hS.2.2.1 i (by omega) (by omega)) (fun w => by have := hS.2.2.2.1 _ _ (by omega) (by omega) (by omega) (by omega) w; omega) with w | w
        · exact w
        · exact absurd (hx.mpr w) (by omega)
      · refine a_iconst (pc := 28) (n := 0) (by decide +kernel) ?_
        refine a_istore (pc := 29) (i := 4) (lv' := [(0, .ref 68), (1, j_i od), (2, j_i k), (3, j_i i), (4, j_i 0)]) (by decide +kernel) (Nat.le_of_ble_eq_true rfl) rfl ?_
        refine a_iload (pc := 31) (i := 4) (by decide +kernel) rfl ?_
        refine a_iconst (pc := 33) (n := 3) (by decide +kernel) ?_
        refine a_icmp_ge (pc := 34) (off := 61) (tgt := 95) (by decide +kernel) (by decide) (by omega) (by omega) (fun c34 => ?_) (fun c34 => ?_)
        · exact absurd c34 (by decide)
        · refine a_aload_n (pc := 37) (i := 0) (by decide +kernel) rfl ?_
          refine b_getR (pc := 38) (b := 81) fl_X12_51 (by decide +kernel) (sh_68 hn) rfl ?_
          refine a_iconst (pc := 41) (n := 3) (by decide +kernel) ?_
          refine a_iload_n (pc := 42) (i := 3) (by decide +kernel) rfl ?_
          refine a_imul (pc := 43) (by decide +kernel) ?_
          refine a_iload (pc := 44) (i := 4) (by decide +kernel) rfl ?_
          refine a_iadd (pc := 46) (by decide +kernel) ?_
          refine b_iaload (pc := 47) (by decide +kernel) (sh_81 hn) (by omega) (by omega) (by omega) ?_
          refine a_istore (pc := 48) (i := 5) (lv' := [(0, .ref 68), (1, j_i od), (2, j_i k), (3, j_i i), (4, j_i 0), (5, j_i (σ1.1 81 ((3 * i) + 0)))]) (by decide +kernel) (Nat.le_of_ble_eq_true rfl) rfl ?_
          refine a_aload_n (pc := 50) (i := 0) (by decide +kernel) rfl ?_
          refine b_getR (pc := 51) (b := 81) fl_X12_51 (by decide +kernel) (sh_68 hn) rfl ?_
          refine a_iconst (pc := 54) (n := 3) (by decide +kernel) ?_
          refine a_iload_n (pc := 55) (i := 3) (by decide +kernel) rfl ?_
          refine a_imul (pc := 56) (by decide +kernel) ?_
          refine a_iload (pc := 57) (i := 4) (by decide +kernel) rfl ?_
          refine a_iadd (pc := 59) (by decide +kernel) ?_
          refine a_aload_n (pc := 60) (i := 0) (by decide +kernel) rfl ?_
          refine b_getR (pc := 61) (b := 81) fl_X12_51 (by decide +kernel) (sh_68 hn) rfl ?_
          refine a_iconst (pc := 64) (n := 3) (by decide +kernel) ?_
          refine a_iload_n (pc := 65) (i := 3) (by decide +kernel) rfl ?_
          refine a_imul (pc := 66) (by decide +kernel) ?_
          refine a_iconst (pc := 67) (n := 3) (by decide +kernel) ?_
          refine a_isub (pc := 68) (by decide +kernel) ?_
          refine a_iload (pc := 69) (i := 4) (by decide +kernel) rfl ?_
          refine a_iadd (pc := 71) (by decide +kernel) ?_
          refine b_iaload (pc := 72) (by decide +kernel) (sh_81 hn) (by omega) (by omega) (by omega) ?_
          refine b_iastore (pc := 73) (by decide +kernel) (sh_81 hn) (by omega) (by omega) (by omega) ?_
          obtain ⟨σ2, hσ2⟩ : ∃ z, z = k_sA σ1 81 (j_up (σ1.1 81) ((3 * i) + 0) (σ1.1 81 (((3 * i) - 3) + 0))) := ⟨_, rfl⟩
          rw [← hσ2]
          refine a_aload_n (pc := 74) (i := 0) (by decide +kernel) rfl ?_
          refine b_getR (pc := 75) (b := 81) fl_X12_51 (by decide +kernel) (sh_68 hn) rfl ?_
          refine a_iconst (pc := 78) (n := 3) (by decide +kernel) ?_
          refine a_iload_n (pc := 79) (i := 3) (by decide +kernel) rfl ?_
          refine a_imul (pc := 80) (by decide +kernel) ?_
          refine a_iconst (pc := 81) (n := 3) (by decide +kernel) ?_
          refine a_isub (pc := 82) (by decide +kernel) ?_
          refine a_iload (pc := 83) (i := 4) (by decide +kernel) rfl ?_
          refine a_iadd (pc := 85) (by decide +kernel) ?_
          refine a_iload (pc := 86) (i := 5) (by decide +kernel) rfl ?_
          refine b_iastore (pc := 88) (by decide +kernel) (sh_81 hn) (by omega) (by omega) (by omega) ?_
          obtain ⟨σ3, hσ3⟩ : ∃ z, z = k_sA σ2 81 (j_up (σ2.1 81) (((3 * i) - 3) + 0) (σ1.1 81 ((3 * i) + 0))) := ⟨_, rfl⟩
          rw [← hσ3]
          refine a_iinc (pc := 89) (i := 4) (n := 1) (x := 0) (lv' := [(0, .ref 68), (1, j_i od), (2, j_i k), (3, j_i i), (4, j_i 1), (5, j_i (σ1.1 81 ((3 * i) + 0)))]) (by decide +kernel) rfl (Nat.le_of_ble_eq_true rfl) rfl ?_
          refine a_goto (pc := 92) (off := -61) (tgt := 31) (by decide +kernel) (by decide) ?_
          refine a_iload (pc := 31) (i := 4) (by decide +kernel) rfl ?_
          refine a_iconst (pc := 33) (n := 3) (by decide +kernel) ?_
          refine a_icmp_ge (pc := 34) (off := 61) (tgt := 95) (by decide +kernel) (by decide) (by omega) (by omega) (fun c34 => ?_) (fun c34 => ?_)
          · exact absurd c34 (by decide)
          · refine a_aload_n (pc := 37) (i := 0) (by decide +kernel) rfl ?_
            refine b_getR (pc := 38) (b := 81) fl_X12_51 (by decide +kernel) (sh_68 hn) rfl ?_
            refine a_iconst (pc := 41) (n := 3) (by decide +kernel) ?_
            refine a_iload_n (pc := 42) (i := 3) (by decide +kernel) rfl ?_
            refine a_imul (pc := 43) (by decide +kernel) ?_
            refine a_iload (pc := 44) (i := 4) (by decide +kernel) rfl ?_
            refine a_iadd (pc := 46) (by decide +kernel) ?_
            refine b_iaload (pc := 47) (by decide +kernel) (sh_81 hn) (by omega) (by omega) (by omega) ?_
            refine a_istore (pc := 48) (i := 5) (lv' := [(0, .ref 68), (1, j_i od), (2, j_i k), (3, j_i i), (4, j_i 1), (5, j_i (σ3.1 81 ((3 * i) + 1)))]) (by decide +kernel) (Nat.le_of_ble_eq_true rfl) rfl ?_
            refine a_aload_n (pc := 50) (i := 0) (by decide +kernel) rfl ?_
            refine b_getR (pc := 51) (b := 81) fl_X12_51 (by decide +kernel) (sh_68 hn) rfl ?_
            refine a_iconst (pc := 54) (n := 3) (by decide +kernel) ?_
            refine a_iload_n (pc := 55) (i := 3) (by decide +kernel) rfl ?_
            refine a_imul (pc := 56) (by decide +kernel) ?_
            refine a_iload (pc := 57) (i := 4) (by decide +kernel) rfl ?_
            refine a_iadd (pc := 59) (by decide +kernel) ?_
            refine a_aload_n (pc := 60) (i := 0) (by decide +kernel) rfl ?_
            refine b_getR (pc := 61) (b := 81) fl_X12_51 (by decide +kernel) (sh_68 hn) rfl ?_
            refine a_iconst (pc := 64) (n := 3) (by decide +kernel) ?_
            refine a_iload_n (pc := 65) (i := 3) (by decide +kernel) rfl ?_
            refine a_imul (pc := 66) (by decide +kernel) ?_
            refine a_iconst (pc := 67) (n := 3) (by decide +kernel) ?_
            refine a_isub (pc := 68) (by decide +kernel) ?_
            refine a_iload (pc := 69) (i := 4) (by decide +kernel) rfl ?_
            refine a_iadd (pc := 71) (by decide +kernel) ?_
            refine b_iaload (pc := 72) (by decide +kernel) (sh_81 hn) (by omega) (by omega) (by omega) ?_
            refine b_iastore (pc := 73) (by decide +kernel) (sh_81 hn) (by omega) (by omega) (by omega) ?_
            obtain ⟨σ4, hσ4⟩ : ∃ z, z = k_sA σ3 81 (j_up (σ3.1 81) ((3 * i) + 1) (σ3.1 81 (((3 * i) - 3) + 1))) := ⟨_, rfl⟩
            rw [← hσ4]
            refine a_aload_n (pc := 74) (i := 0) (by decide +kernel) rfl ?_
            refine b_getR (pc := 75) (b := 81) fl_X12_51 (by decide +kernel) (sh_68 hn) rfl ?_
            refine a_iconst (pc := 78) (n := 3) (by decide +kernel) ?_
            refine a_iload_n (pc := 79) (i := 3) (by decide +kernel) rfl ?_
            refine a_imul (pc := 80) (by decide +kernel) ?_
            refine a_iconst (pc := 81) (n := 3) (by decide +kernel) ?_
            refine a_isub (pc := 82) (by decide +kernel) ?_
            refine a_iload (pc := 83) (i := 4) (by decide +kernel) rfl ?_
            refine a_iadd (pc := 85) (by decide +kernel) ?_
            refine a_iload (pc := 86) (i := 5) (by decide +kernel) rfl ?_
            refine b_iastore (pc := 88) (by decide +kernel) (sh_81 hn) (by omega) (by omega) (by omega) ?_
            obtain ⟨σ5, hσ5⟩ : ∃ z, z = k_sA σ4 81 (j_up (σ4.1 81) (((3 * i) - 3) + 1) (σ3.1 81 ((3 * i) + 1))) := ⟨_, rfl⟩
            rw [← hσ5]
            refine a_iinc (pc := 89) (i := 4) (n := 1) (x := 1) (lv' := [(0, .ref 68), (1, j_i od), (2, j_i k), (3, j_i i), (4, j_i 2), (5, j_i (σ3.1 81 ((3 * i) + 1)))]) (by decide +kernel) rfl (Nat.le_of_ble_eq_true rfl) rfl ?_
            refine a_goto (pc := 92) (off := -61) (tgt := 31) (by decide +kernel) (by decide) ?_
            refine a_iload (pc := 31) (i := 4) (by decide +kernel) rfl ?_
            refine a_iconst (pc := 33) (n := 3) (by decide +kernel) ?_
            refine a_icmp_ge (pc := 34) (off := 61) (tgt := 95) (by decide +kernel) (by decide) (by omega) (by omega) (fun c34 => ?_) (fun c34 => ?_)
            · exact absurd c34 (by decide)
            · refine a_aload_n (pc := 37) (i := 0) (by decide +kernel) rfl ?_
              refine b_getR (pc := 38) (b := 81) fl_X12_51 (by decide +kernel) (sh_68 hn) rfl ?_
              refine a_iconst (pc := 41) (n := 3) (by decide +kernel) ?_
              refine a_iload_n (pc := 42) (i := 3) (by decide +kernel) rfl ?_
              refine a_imul (pc := 43) (by decide +kernel) ?_
              refine a_iload (pc := 44) (i := 4) (by decide +kernel) rfl ?_
              refine a_iadd (pc := 46) (by decide +kernel) ?_
              refine b_iaload (pc := 47) (by decide +kernel) (sh_81 hn) (by omega) (by omega) (by omega) ?_
              refine a_istore (pc := 48) (i := 5) (lv' := [(0, .ref 68), (1, j_i od), (2, j_i k), (3, j_i i), (4, j_i 2), (5, j_i (σ5.1 81 ((3 * i) + 2)))]) (by decide +kernel) (Nat.le_of_ble_eq_true rfl) rfl ?_
              refine a_aload_n (pc := 50) (i := 0) (by decide +kernel) rfl ?_
              refine b_getR (pc := 51) (b := 81) fl_X12_51 (by decide +kernel) (sh_68 hn) rfl ?_
              refine a_iconst (pc := 54) (n := 3) (by decide +kernel) ?_
              refine a_iload_n (pc := 55) (i := 3) (by decide +kernel) rfl ?_
              refine a_imul (pc := 56) (by decide +kernel) ?_
              refine a_iload (pc := 57) (i := 4) (by decide +kernel) rfl ?_
              refine a_iadd (pc := 59) (by decide +kernel) ?_
              refine a_aload_n (pc := 60) (i := 0) (by decide +kernel) rfl ?_
              refine b_getR (pc := 61) (b := 81) fl_X12_51 (by decide +kernel) (sh_68 hn) rfl ?_
              refine a_iconst (pc := 64) (n := 3) (by decide +kernel) ?_
              refine a_iload_n (pc := 65) (i := 3) (by decide +kernel) rfl ?_
              refine a_imul (pc := 66) (by decide +kernel) ?_
              refine a_iconst (pc := 67) (n := 3) (by decide +kernel) ?_
              refine a_isub (pc := 68) (by decide +kernel) ?_
              refine a_iload (pc := 69) (i := 4) (by decide +kernel) rfl ?_
              refine a_iadd (pc := 71) (by decide +kernel) ?_
              refine b_iaload (pc := 72) (by decide +kernel) (sh_81 hn) (by omega) (by omega) (by omega) ?_
              refine b_iastore (pc := 73) (by decide +kernel) (sh_81 hn) (by omega) (by omega) (by omega) ?_
              obtain ⟨σ6, hσ6⟩ : ∃ z, z = k_sA σ5 81 (j_up (σ5.1 81) ((3 * i) + 2) (σ5.1 81 (((3 * i) - 3) + 2))) := ⟨_, rfl⟩
              rw [← hσ6]
              refine a_aload_n (pc := 74) (i := 0) (by decide +kernel) rfl ?_
              refine b_getR (pc := 75) (b := 81) fl_X12_51 (by decide +kernel) (sh_68 hn) rfl ?_
              refine a_iconst (pc := 78) (n := 3) (by decide +kernel) ?_
              refine a_iload_n (pc := 79) (i := 3) (by decide +kernel) rfl ?_
              refine a_imul (pc := 80) (by decide +kernel) ?_
              refine a_iconst (pc := 81) (n := 3) (by decide +kernel) ?_
              refine a_isub (pc := 82) (by decide +kernel) ?_
              refine a_iload (pc := 83) (i := 4) (by decide +kernel) rfl ?_
              refine a_iadd (pc := 85) (by decide +kernel) ?_
              refine a_iload (pc := 86) (i := 5) (by decide +kernel) rfl ?_
              refine b_iastore (pc := 88) (by decide +kernel) (sh_81 hn) (by omega) (by omega) (by omega) ?_
              obtain ⟨σ7, hσ7⟩ : ∃ z, z = k_sA σ6 81 (j_up (σ6.1 81) (((3 * i) - 3) + 2) (σ5.1 81 ((3 * i) + 2))) := ⟨_, rfl⟩
              rw [← hσ7]
              refine a_iinc (pc := 89) (i := 4) (n := 1) (x := 2) (lv' := [(0, .ref 68), (1, j_i od), (2, j_i k), (3, j_i i), (4, j_i 3), (5, j_i (σ5.1 81 ((3 * i) + 2)))]) (by decide +kernel) rfl (Nat.le_of_ble_eq_true rfl) rfl ?_
              refine a_goto (pc := 92) (off := -61) (tgt := 31) (by decide +kernel) (by decide) ?_
              refine a_iload (pc := 31) (i := 4) (by decide +kernel) rfl ?_
              refine a_iconst (pc := 33) (n := 3) (by decide +kernel) ?_
              refine a_icmp_ge (pc := 34) (off := 61) (tgt := 95) (by decide +kernel) (by decide) (by omega) (by omega) (fun c34 => ?_) (fun c34 => ?_)
              · refine a_iinc (pc := 95) (i := 3) (n := -1) (x := i) (lv' := [(0, .ref 68), (1, j_i od), (2, j_i k), (3, j_i (i + (-1))), (4, j_i 3), (5, j_i (σ5.1 81 ((3 * i) + 2)))]) (by decide +kernel) rfl (Nat.le_of_ble_eq_true rfl) rfl ?_
                refine a_goto (pc := 98) (off := -86) (tgt := 12) (by decide +kernel) (by decide) ?_
                have y1 : σ3.1 81 = swA (σ1.1 81) i 1 := by rw [hσ3, k_AA, hσ2, k_AA]; exact swA_s (by omega) (by omega) swA_0
                have y2 : σ5.1 81 = swA (σ1.1 81) i 2 := by rw [hσ5, k_AA, hσ4, k_AA]; exact swA_s (by omega) (by omega) y1
                have y3 : σ7.1 81 = swA (σ1.1 81) i 3 := by rw [hσ7, k_AA, hσ6, k_AA]; exact swA_s (by omega) (by omega) y2
                have yf : sp_fr σ1 σ7 := sp_A (sp_A (sp_A (sp_A (sp_A (sp_A sp_r hσ2) hσ3) hσ4) hσ5) hσ6) hσ7
                exact a_sub (lv' := [(0, .ref 68), (1, j_i od), (2, j_i k), (3, j_i (i + -1))]) (fun q hq => by simp only [List.mem_cons, List.not_mem_nil, or_false] at hq ⊢; rcases hq with rfl | rfl | rfl | rfl <;> simp) (ih (i + -1) σ7 (sw pe i) (by omega) (by omega) (by omega) (SP_sw hS2 yf y3 (by omega) (by omega)) (by have z9 := sS_s hI (by omega) (by omega) (hx.mp (by omega)); rw [show i + -1 = i - 1 by omega]; exact z9))
              · exact absurd c34 (by decide)
set_option maxHeartbeats 4000000 in
theorem l_sp2 {G : j_G} {X : k_X} {n : Nat} {σ : k_St} (hn : 101 ≤ n) (hK : RKept σ) (hP : RPass σ) {A : Int → Prop} {od : Int} (ho : od = 0 ∨ od = 1)  : ∀ (z : Nat) (k : Int) (τ : k_St) (pe : Int → Int), 151 - k < (z : Int) → 1 ≤ k → k ≤ 151 → SP σ τ pe A → so (pt_lt (fun x y => o_rel σ x y od (-1))) pe k → j_at G mX12_sortPaths 2 [(0, .ref 68), (1, j_i od), (2, j_i k)] [] (k_h X n τ) 0 0 (k_Q X (fun v n' τ => v = none ∧ n' = n ∧ ∃ pe, SP σ τ pe A ∧ so (pt_lt (fun x y => o_rel σ x y od (-1))) pe (σ.2.1 68 25))) := by
  intro z
  induction z with
  | zero =>
    intro k τ pe h1 h2 h3 hS hI
    have en : τ.2.1 68 25 = σ.2.1 68 25 := hS.1.2.1 _ _ (by omega)
    have hn5 := hS.2.1.1
    rw [en] at hn5
    refine a_iload_n (pc := 2) (i := 2) (by decide +kernel) rfl ?_
    refine a_aload_n (pc := 3) (i := 0) (by decide +kernel) rfl ?_
    refine b_getI (pc := 4) fl_X12_281 (by decide +kernel) (sh_68 hn) rfl ?_
    rw [show τ.2.1 68 25 = σ.2.1 68 25 from hS.1.2.1 68 25 (by omega)]
    refine a_icmp_ge (pc := 7) (off := 100) (tgt := 107) (by decide +kernel) (by decide) (by omega) (by omega) (fun c7 => ?_) (fun c7 => ?_)
    · refine a_return (pc := 107) (by decide +kernel) rfl ?_
      refine k_ret ?_
      exact ⟨rfl, rfl, pe, hS, fun a b a0 a1 b1 => hI a b a0 a1 (by omega)⟩
    · exact absurd h1 (by omega)
  | succ z ih =>
    intro k τ pe hz h0 h3 hS hI
    have en : τ.2.1 68 25 = σ.2.1 68 25 := hS.1.2.1 _ _ (by omega)
    have hn5 := hS.2.1.1
    rw [en] at hn5
    refine a_iload_n (pc := 2) (i := 2) (by decide +kernel) rfl ?_
    refine a_aload_n (pc := 3) (i := 0) (by decide +kernel) rfl ?_
    refine b_getI (pc := 4) fl_X12_281 (by decide +kernel) (sh_68 hn) rfl ?_
    rw [show τ.2.1 68 25 = σ.2.1 68 25 from hS.1.2.1 68 25 (by omega)]
    refine a_icmp_ge (pc := 7) (off := 100) (tgt := 107) (by decide +kernel) (by decide) (by omega) (by omega) (fun c7 => ?_) (fun c7 => ?_)
    · refine a_return (pc := 107) (by decide +kernel) rfl ?_
      refine k_ret ?_
      exact ⟨rfl, rfl, pe, hS, fun a b a0 a1 b1 => hI a b a0 a1 (by omega)⟩
    · refine a_iload_n (pc := 10) (i := 2) (by decide +kernel) rfl ?_
      refine a_istore_n (pc := 11) (i := 3) (lv' := [(0, .ref 68), (1, j_i od), (2, j_i k), (3, j_i k)]) (by decide +kernel) (Nat.le_of_ble_eq_true rfl) rfl ?_
      refine l_sp12 hn hK hP ho (by omega) (by omega) (fun i' τ' pe' hS' hso' => ?_) (k.toNat + 1) k τ pe (by omega) (by omega) (by omega) hS (sS_0 hI)
      refine a_iinc (pc := 101) (i := 2) (n := 1) (x := k) (lv' := [(0, .ref 68), (1, j_i od), (2, j_i (k + 1)), (3, j_i i')]) (by decide +kernel) rfl (Nat.le_of_ble_eq_true rfl) rfl ?_
      refine a_goto (pc := 104) (off := -102) (tgt := 2) (by decide +kernel) (by decide) ?_
      exact a_sub (lv' := [(0, .ref 68), (1, j_i od), (2, j_i (k + 1))]) (fun q hq => by simp only [List.mem_cons, List.not_mem_nil, or_false] at hq ⊢; rcases hq with rfl | rfl | rfl <;> simp) (ih (k + 1) τ' pe' (by omega) (by omega) (by omega) hS' hso')
set_option maxHeartbeats 4000000 in
theorem e_sortPaths {G : j_G} {X : k_X} {n : Nat} {σ : k_St} (hn : 101 ≤ n) (hK : RKept σ) (hP : RPass σ) {A : Int → Prop} {od : Int} (ho : od = 0 ∨ od = 1) {pe : Int → Int} (hE : pE σ pe) (hok : ∀ e, 0 ≤ e → e < σ.2.1 68 25 → okp (h_is σ) (pe e)) (hij : ij pe (σ.2.1 68 25)) (hA : ∀ x, im pe (σ.2.1 68 25) x ↔ A x) : k_run G X mX12_sortPaths [.ref 68, j_i od] n σ 0 0 (fun v n' τ => v = none ∧ n' = n ∧ ∃ pe, SP σ τ pe A ∧ so (pt_lt (fun x y => o_rel σ x y od (-1))) pe (σ.2.1 68 25)) := by
  refine k_enter (by decide +kernel) (Nat.le_of_ble_eq_true rfl) ?_
  show j_at _ _ _ [(0, .ref 68), (1, j_i od)] [] _ _ _ _
  refine a_iconst (pc := 0) (n := 1) (by decide +kernel) ?_
  refine a_istore_n (pc := 1) (i := 2) (lv' := [(0, .ref 68), (1, j_i od), (2, j_i 1)]) (by decide +kernel) (Nat.le_of_ble_eq_true rfl) rfl ?_
  exact l_sp2 hn hK hP ho 152 1 σ pe (by omega) (by omega) (by omega) ⟨sp_r, hE, hok, hij, hA⟩ so_1
