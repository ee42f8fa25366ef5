theorem h_wf_rk {σ τ : k_St} (hf : rk_fr σ τ) (hw : h_wf σ 8) : h_wf τ 8 := h_wf_congr (hf.1 _ (by omega) (by omega)) (hf.1 _ (by omega) (by omega)) (hf.1 _ (by omega) (by omega)) (hf.1 _ (by omega) (by omega)) (hf.1 _ (by omega) (by omega)) (hf.2.1 _ _ (by omega) (by omega) (by omega)) hw
theorem y_wf_rk {σ τ : k_St} (hf : rk_fr σ τ) (hy : y_wf σ) : y_wf τ := ⟨by rw [hf.2.1 33 1 (by omega) (by omega) (by omega)]; exact hy.1, r_wf_congr (hf.1 _ (by omega) (by omega)) (hf.1 _ (by omega) (by omega)) hy.2⟩
theorem o_rel_rk {σ τ : k_St} {a b od r : Int} (hf : rk_fr σ τ) : o_rel τ a b od r ↔ o_rel σ a b od r := o_rel_congr (fun c hc => hf.1 c (by omega) (by omega)) (hf.2.1 33 1 (by omega) (by omega) (by omega))
theorem h_is_rk {σ τ : k_St} {x : Int} (hf : rk_fr σ τ) : h_is τ x ↔ h_is σ x := by unfold h_is; rw [hf.1 15 (by omega) (by omega), hf.2.1 8 3 (by omega) (by omega) (by omega)]
def rk_rg (σ : k_St) : Prop := ∀ i : Int, (0 ≤ σ.1 40 i ∧ σ.1 40 i ≤ 29) ∧ (0 ≤ σ.1 41 i ∧ σ.1 41 i ≤ 29)
set_option maxHeartbeats 4000000 in
theorem l_rk43 {G : j_G} {X : k_X} {n : Nat} {σ : k_St} (hn : 101 ≤ n) (hw : h_wf σ 8) (hy : y_wf σ) (hd : h_dis σ) {od : Int} (ho : od = 0 ∨ od = 1) {m : Int} (hm : h_is σ m) {l : List Int} (hlm : ∀ x ∈ l, h_is σ x ∧ x < m) (hl5 : l.length < 30) {Q : k_P} (kk : ∀ (τ : k_St) (z : List Int) (q : Int), rk_fr σ τ → τ.2.1 39 4 = (z.length : Int) → v_seg (τ.1 41) 0 z → rk_ins σ od m l z → rk_rg τ → j_at G mX6_rankHeads 7 [(0, .ref 39), (1, j_i od), (2, j_i (m + 1)), (3, j_i q)] [] (k_h X n τ) 0 0 (k_Q X Q))  : ∀ (Pr S : List Int) (p : Int) (τ : k_St), rk_fr σ τ → τ.2.1 39 4 = (l.length : Int) → l = Pr.reverse ++ S → p = Pr.length → v_seg (τ.1 41) 0 Pr.reverse → v_seg (τ.1 41) (p + 1) S → rk_rg τ → (∀ s ∈ S, o_rel σ m s od (-1)) → j_at G mX6_rankHeads 43 [(0, .ref 39), (1, j_i od), (2, j_i m), (3, j_i p)] [] (k_h X n τ) 0 0 (k_Q X Q) := by
  intro Pr
  induction Pr with
  | nil =>
    intro S p τ hf hc hL hp hP hS hrg hS2
    have hev := hw.1
    have hm5 : 0 ≤ m ∧ m < 30 := ⟨hm.1, by have := hm.2.1; have : 0 ≤ σ.2.1 8 3 ∧ σ.2.1 8 3 ≤ 30 := hw.1; omega⟩
    have hp0 : p = 0 := hp
    have hlen : (l.length : Int) = S.length := by rw [hL]; simp
    refine a_iload_n (pc := 43) (i := 3) (by decide +kernel) rfl ?_
    refine a_if_le (pc := 44) (off := 50) (tgt := 94) (by decide +kernel) (by decide) (by omega) (fun c44 => ?_) (fun c44 => ?_)
    · refine a_aload_n (pc := 94) (i := 0) (by decide +kernel) rfl ?_
      refine b_getR (pc := 95) (b := 41) fl_X6_15 (by decide +kernel) (sh_39 hn) rfl ?_
      refine a_iload_n (pc := 98) (i := 3) (by decide +kernel) rfl ?_
      refine a_iload_n (pc := 99) (i := 2) (by decide +kernel) rfl ?_
      refine b_iastore (pc := 100) (by decide +kernel) (sh_41 hn) (by omega) (by omega) (by omega) ?_
      obtain ⟨σ1, hσ1⟩ : ∃ z, z = k_sA τ 41 (j_up (τ.1 41) p m) := ⟨_, rfl⟩
      rw [← hσ1]
      refine a_aload_n (pc := 101) (i := 0) (by decide +kernel) rfl ?_
      refine a_dup (pc := 102) (by decide +kernel) rfl ?_
      refine b_getI (pc := 103) fl_X6_18 (by decide +kernel) (sh_39 hn) rfl ?_
      rw [show σ1.2.1 39 4 = τ.2.1 39 4 by rw [hσ1]; rfl]
      rw [show τ.2.1 39 4 = (l.length : Int) from hc]
      refine a_iconst (pc := 106) (n := 1) (by decide +kernel) ?_
      refine a_iadd (pc := 107) (by decide +kernel) ?_
      refine b_putI (pc := 108) fl_X6_18 (by decide +kernel) (sh_39 hn) rfl rfl rfl ?_
      obtain ⟨σ2, hσ2⟩ : ∃ z, z = k_sI σ1 39 4 ((l.length : Int) + 1) := ⟨_, rfl⟩
      rw [← hσ2]
      refine a_iinc (pc := 111) (i := 2) (n := 1) (x := m) (lv' := [(0, .ref 39), (1, j_i od), (2, j_i (m + 1)), (3, j_i p)]) (by decide +kernel) rfl (Nat.le_of_ble_eq_true rfl) rfl ?_
      refine a_goto (pc := 114) (off := -107) (tgt := 7) (by decide +kernel) (by decide) ?_
      refine kk σ2 ([] ++ m :: S) p (by rw [hσ2, hσ1]; exact rk_fr_I (rk_fr_A hf (Or.inr rfl))) (by rw [hσ2, k_II, hL]; simp <;> omega) ?_ ⟨[], S, hL, rfl, hS2, Or.inl rfl⟩ (fun i => ⟨by rw [hσ2, k_I1, hσ1, k_AN (by omega)]; exact (hrg i).1, by rw [hσ2, k_I1, hσ1, k_AA]; unfold j_up; split; omega; exact (hrg i).2⟩)
      rw [hσ2, k_I1, hσ1, k_AA]
      refine v_seg_app.mpr ⟨v_seg_congr (fun j j0 j1 => j_upN (by simp at j1; omega)) hP, ?_⟩
      rw [show (0 : Int) + ([].length : Int) = p by simp; omega]
      exact ⟨j_upS, v_seg_congr (fun j j0 j1 => j_upN (by omega)) hS⟩
    · exfalso; omega
  | cons r Pr ih =>
    intro S p τ hf hc hL hp hP hS hrg hS2
    have hev := hw.1
    have hm5 : 0 ≤ m ∧ m < 30 := ⟨hm.1, by have := hm.2.1; have : 0 ≤ σ.2.1 8 3 ∧ σ.2.1 8 3 ≤ 30 := hw.1; omega⟩
    have hlen : (l.length : Int) = (Pr.length : Int) + 1 + S.length := by rw [hL]; simp; omega
    rw [List.length_cons] at hp
    have hPr := v_seg_app.mp (by rw [List.reverse_cons] at hP; exact hP)
    have t1 : τ.1 41 (p - 1) = r := by have := hPr.2.1; rw [show (0 : Int) + Pr.reverse.length = p - 1 by simp; omega] at this; exact this
    have hmr := (hlm r (by rw [hL]; simp)).1
    have hrm := (hlm r (by rw [hL]; simp)).2
    have hr5 : 0 ≤ r ∧ r < 30 := ⟨hmr.1, by omega⟩
    refine a_iload_n (pc := 43) (i := 3) (by decide +kernel) rfl ?_
    refine a_if_le (pc := 44) (off := 50) (tgt := 94) (by decide +kernel) (by decide) (by omega) (fun c44 => ?_) (fun c44 => ?_)
    · exfalso; omega
    · refine a_aload_n (pc := 47) (i := 0) (by decide +kernel) rfl ?_
      refine b_getR (pc := 48) (b := 33) fl_X6_58 (by decide +kernel) (sh_39 hn) rfl ?_
      refine a_aload_n (pc := 51) (i := 0) (by decide +kernel) rfl ?_
      refine b_getR (pc := 52) (b := 6) fl_X6_54 (by decide +kernel) (sh_39 hn) rfl ?_
      refine b_getR (pc := 55) (b := 8) fl_X6_78 (by decide +kernel) (sh_6 hn) rfl ?_
      refine a_iload_n (pc := 58) (i := 2) (by decide +kernel) rfl ?_
      refine a_aload_n (pc := 59) (i := 0) (by decide +kernel) rfl ?_
      refine b_getR (pc := 60) (b := 41) fl_X6_15 (by decide +kernel) (sh_39 hn) rfl ?_
      refine a_iload_n (pc := 63) (i := 3) (by decide +kernel) rfl ?_
      refine a_iconst (pc := 64) (n := 1) (by decide +kernel) ?_
      refine a_isub (pc := 65) (by decide +kernel) ?_
      refine b_iaload (pc := 66) (by decide +kernel) (sh_41 hn) (by omega) (by omega) (by omega) ?_
      rw [t1]
      refine a_iload_n (pc := 67) (i := 1) (by decide +kernel) rfl ?_
      refine b_callV (pc := 68) (c' := 0) (sl' := 0) [.ref 8, j_i m, j_i r, j_i od] [] ml_X6_125 (by decide +kernel) rfl rfl (sh_33 hn) rfl rfl (Nat.le_of_ble_eq_true rfl) (j_fitI rfl rfl) (s_orderOf hn (h_wf_rk hf hw) (y_wf_rk hf hy) (by omega) (by omega) ho) (fun v n' σ' hq => ?_)
      obtain ⟨e1, hbσ1, rσ1, rfl, hrσ1⟩ := hq
      rw [e1]; clear e1
      obtain ⟨σ1, hσ1⟩ : ∃ z, z = σ' := ⟨_, rfl⟩
      rw [← hσ1] at hbσ1 ⊢
      rw [o_rel_rk hf] at hrσ1
      have hfσ1 := rk_fr_b hf hbσ1
      have rrσ1 := o_rel_r hrσ1
      show j_at _ _ _ [(0, .ref 39), (1, j_i od), (2, j_i m), (3, j_i p)] [j_i rσ1] _ _ _ _
      refine a_if_ge (pc := 71) (off := 23) (tgt := 94) (by decide +kernel) (by decide) (by omega) (fun c71 => ?_) (fun c71 => ?_)
      · refine a_aload_n (pc := 94) (i := 0) (by decide +kernel) rfl ?_
        refine b_getR (pc := 95) (b := 41) fl_X6_15 (by decide +kernel) (sh_39 hn) rfl ?_
        refine a_iload_n (pc := 98) (i := 3) (by decide +kernel) rfl ?_
        refine a_iload_n (pc := 99) (i := 2) (by decide +kernel) rfl ?_
        refine b_iastore (pc := 100) (by decide +kernel) (sh_41 hn) (by omega) (by omega) (by omega) ?_
        obtain ⟨σ2, hσ2⟩ : ∃ z, z = k_sA σ1 41 (j_up (σ1.1 41) p m) := ⟨_, rfl⟩
        rw [← hσ2]
        refine a_aload_n (pc := 101) (i := 0) (by decide +kernel) rfl ?_
        refine a_dup (pc := 102) (by decide +kernel) rfl ?_
        refine b_getI (pc := 103) fl_X6_18 (by decide +kernel) (sh_39 hn) rfl ?_
        rw [show σ2.2.1 39 4 = σ1.2.1 39 4 by rw [hσ2]; rfl]
        rw [show σ1.2.1 39 4 = τ.2.1 39 4 from hbσ1.2.1 39 4 (by omega) (by omega)]
        rw [show τ.2.1 39 4 = (l.length : Int) from hc]
        refine a_iconst (pc := 106) (n := 1) (by decide +kernel) ?_
        refine a_iadd (pc := 107) (by decide +kernel) ?_
        refine b_putI (pc := 108) fl_X6_18 (by decide +kernel) (sh_39 hn) rfl rfl rfl ?_
        obtain ⟨σ3, hσ3⟩ : ∃ z, z = k_sI σ2 39 4 ((l.length : Int) + 1) := ⟨_, rfl⟩
        rw [← hσ3]
        refine a_iinc (pc := 111) (i := 2) (n := 1) (x := m) (lv' := [(0, .ref 39), (1, j_i od), (2, j_i (m + 1)), (3, j_i p)]) (by decide +kernel) rfl (Nat.le_of_ble_eq_true rfl) rfl ?_
        refine a_goto (pc := 114) (off := -107) (tgt := 7) (by decide +kernel) (by decide) ?_
        have hr1 : o_rel σ r m od (-1) := by
          have h9 : rσ1 ≠ 0 := fun h => o_rel_0 hd hm hmr (by omega) (by rw [h] at hrσ1; exact hrσ1)
          have h8 := o_rel_anti hrσ1
          rw [show -rσ1 = -1 by omega] at h8; exact h8
        refine kk σ3 ((r :: Pr).reverse ++ m :: S) p (by rw [hσ3, hσ2]; exact rk_fr_I (rk_fr_A hfσ1 (Or.inr rfl))) (by rw [hσ3, k_II, hL]; simp <;> omega) ?_ ⟨(r :: Pr).reverse, S, hL, rfl, hS2, Or.inr ⟨Pr.reverse, r, List.reverse_cons, hr1⟩⟩ (fun i => ⟨by rw [hσ3, k_I1, hσ2, k_AN (by omega), hbσ1.1]; exact (hrg i).1, by rw [hσ3, k_I1, hσ2, k_AA, hbσ1.1]; unfold j_up; split; omega; exact (hrg i).2⟩)
        rw [hσ3, k_I1, hσ2, k_AA, hbσ1.1]
        refine v_seg_app.mpr ⟨v_seg_congr (fun j j0 j1 => j_upN (by simp at j1; omega)) hP, ?_⟩
        rw [show (0 : Int) + ((r :: Pr).reverse.length : Int) = p by simp; omega]
        exact ⟨j_upS, v_seg_congr (fun j j0 j1 => j_upN (by omega)) hS⟩
      · refine a_aload_n (pc := 74) (i := 0) (by decide +kernel) rfl ?_
        refine b_getR (pc := 75) (b := 41) fl_X6_15 (by decide +kernel) (sh_39 hn) rfl ?_
        refine a_iload_n (pc := 78) (i := 3) (by decide +kernel) rfl ?_
        refine a_aload_n (pc := 79) (i := 0) (by decide +kernel) rfl ?_
        refine b_getR (pc := 80) (b := 41) fl_X6_15 (by decide +kernel) (sh_39 hn) rfl ?_
        refine a_iload_n (pc := 83) (i := 3) (by decide +kernel) rfl ?_
        refine a_iconst (pc := 84) (n := 1) (by decide +kernel) ?_
        refine a_isub (pc := 85) (by decide +kernel) ?_
        refine b_iaload (pc := 86) (by decide +kernel) (sh_41 hn) (by omega) (by omega) (by omega) ?_
        rw [show σ1.1 41 = τ.1 41 from congrFun hbσ1.1 41]
        rw [t1]
        refine b_iastore (pc := 87) (by decide +kernel) (sh_41 hn) (by omega) (by omega) (by omega) ?_
        obtain ⟨σ4, hσ4⟩ : ∃ z, z = k_sA σ1 41 (j_up (σ1.1 41) p r) := ⟨_, rfl⟩
        rw [← hσ4]
        refine a_iinc (pc := 88) (i := 3) (n := -1) (x := p) (lv' := [(0, .ref 39), (1, j_i od), (2, j_i m), (3, j_i (p + (-1)))]) (by decide +kernel) rfl (Nat.le_of_ble_eq_true rfl) rfl ?_
        refine a_goto (pc := 91) (off := -48) (tgt := 43) (by decide +kernel) (by decide) ?_
        have e41 : σ4.1 41 = j_up (τ.1 41) p r := by rw [hσ4, k_AA, hbσ1.1]
        exact ih (r :: S) (p + -1) σ4 (by rw [hσ4]; exact rk_fr_A hfσ1 (Or.inr rfl)) (by rw [hσ4]; exact (hbσ1.2.1 39 4 (by omega) (by omega)).trans hc) (by rw [hL]; simp) (by omega) (by rw [e41]; exact v_seg_congr (fun j j0 j1 => j_upN (by simp at j1; omega)) hPr.1) (by rw [e41]; exact ⟨by rw [show p + -1 + 1 = p by omega, j_upS], v_seg_congr (fun j j0 j1 => j_upN (by omega)) (by rw [show p + -1 + 1 + 1 = p + 1 by omega]; exact hS)⟩) (fun i => ⟨by rw [hσ4, k_AN (by omega), hbσ1.1]; exact (hrg i).1, by rw [e41]; unfold j_up; split; omega; exact (hrg i).2⟩) (fun s hs => (List.mem_cons.mp hs).elim (fun h => by rw [h]; rw [show rσ1 = -1 by omega] at hrσ1; exact hrσ1) (hS2 s))
def rk_post (n : Nat) (σ : k_St) (od : Int) : k_P := fun v n' τ => v = none ∧ n' = n ∧ rk_fr σ τ ∧ rk_rg τ ∧ ∃ l : List Int, τ.2.1 39 4 = (l.length : Int) ∧ v_seg (τ.1 41) 0 l ∧ (∀ x, x ∈ l ↔ h_is σ x) ∧ l.Pairwise (fun x y => o_rel σ x y od (-1)) ∧ l.length ≤ 30 ∧ ∀ r : Int, 0 ≤ r → r < (l.length : Int) → τ.1 40 (τ.1 41 r) = r
set_option maxHeartbeats 4000000 in
theorem l_rk119 {G : j_G} {X : k_X} {n : Nat} {σ : k_St} (hn : 101 ≤ n) (hw : h_wf σ 8) (hy : y_wf σ) (hd : h_dis σ) {od : Int} (ho : od = 0 ∨ od = 1) {l : List Int} (hlx : ∀ x, x ∈ l ↔ h_is σ x) (hlp : l.Pairwise (fun x y => o_rel σ x y od (-1))) (hl3 : l.length ≤ 30)  : ∀ (k : Nat) (i : Int) (τ : k_St), (l.length : Int) - i < (k : Int) → 0 ≤ i → i ≤ l.length → rk_fr σ τ → τ.2.1 39 4 = (l.length : Int) → v_seg (τ.1 41) 0 l → rk_rg τ → (∀ r, 0 ≤ r → r < i → τ.1 40 (τ.1 41 r) = r) → j_at G mX6_rankHeads 119 [(0, .ref 39), (1, j_i od), (2, j_i i)] [] (k_h X n τ) 0 0 (k_Q X (rk_post n σ od)) := by
  intro k
  induction k with
  | zero => intro i τ h1 h2 h3; exact absurd h1 (by omega)
  | succ k ih =>
    intro i τ hk h0 hN hf hc hs hrg hz
    have hri := (hrg i).2
    refine a_iload_n (pc := 119) (i := 2) (by decide +kernel) rfl ?_
    refine a_aload_n (pc := 120) (i := 0) (by decide +kernel) rfl ?_
    refine b_getI (pc := 121) fl_X6_18 (by decide +kernel) (sh_39 hn) rfl ?_
    rw [show τ.2.1 39 4 = (l.length : Int) from hc]
    refine a_icmp_ge (pc := 124) (off := 21) (tgt := 145) (by decide +kernel) (by decide) (by omega) (by omega) (fun c124 => ?_) (fun c124 => ?_)
    · refine a_return (pc := 145) (by decide +kernel) rfl ?_
      refine k_ret ?_
      exact ⟨rfl, rfl, hf, hrg, l, hc, hs, hlx, hlp, hl3, fun r r0 r1 => hz r r0 (by omega)⟩
    · refine a_aload_n (pc := 127) (i := 0) (by decide +kernel) rfl ?_
      refine b_getR (pc := 128) (b := 40) fl_X6_9 (by decide +kernel) (sh_39 hn) rfl ?_
      refine a_aload_n (pc := 131) (i := 0) (by decide +kernel) rfl ?_
      refine b_getR (pc := 132) (b := 41) fl_X6_15 (by decide +kernel) (sh_39 hn) rfl ?_
      refine a_iload_n (pc := 135) (i := 2) (by decide +kernel) rfl ?_
      refine b_iaload (pc := 136) (by decide +kernel) (sh_41 hn) (by omega) (by omega) (by omega) ?_
      refine a_iload_n (pc := 137) (i := 2) (by decide +kernel) rfl ?_
      refine b_iastore (pc := 138) (by decide +kernel) (sh_40 hn) (by omega) (by omega) (by omega) ?_
      obtain ⟨σ1, hσ1⟩ : ∃ z, z = k_sA τ 40 (j_up (τ.1 40) (τ.1 41 i) i) := ⟨_, rfl⟩
      rw [← hσ1]
      refine a_iinc (pc := 139) (i := 2) (n := 1) (x := i) (lv' := [(0, .ref 39), (1, j_i od), (2, j_i (i + 1))]) (by decide +kernel) rfl (Nat.le_of_ble_eq_true rfl) rfl ?_
      refine a_goto (pc := 142) (off := -23) (tgt := 119) (by decide +kernel) (by decide) ?_
      have e41 : σ1.1 41 = τ.1 41 := by rw [hσ1]; exact k_AN (by omega)
      refine ih (i + 1) σ1 (by omega) (by omega) (by omega) (by rw [hσ1]; exact rk_fr_A hf (Or.inl rfl)) (by rw [hσ1]; exact hc) (by rw [e41]; exact hs) (fun q => ⟨by rw [hσ1, k_AA]; unfold j_up; split; omega; exact (hrg q).1, by rw [e41]; exact (hrg q).2⟩) (fun r r0 r1 => ?_)
      rw [e41, hσ1, k_AA]
      by_cases hr : r = i
      · rw [hr, j_upS]
      · rw [j_upN (fun h => ?_)]
        · exact hz r r0 (by omega)
        · have e5 := hz r r0 (by omega)
          have k1 : r.toNat < l.length := by omega
          have k2 : i.toNat < l.length := by omega
          have g1 := v_seg_get k1 hs
          have g2 := v_seg_get k2 hs
          rw [show (0 : Int) + r.toNat = r by omega] at g1
          rw [show (0 : Int) + i.toNat = i by omega] at g2
          have e6 := List.pairwise_iff_getElem.mp hlp r.toNat i.toNat k1 k2 (by omega)
          rw [← g1, ← g2, h] at e6
          have := o_rel_u e6 (o_rel_anti e6)
          omega
set_option maxHeartbeats 4000000 in
theorem l_rk7 {G : j_G} {X : k_X} {n : Nat} {σ : k_St} (hn : 101 ≤ n) (hw : h_wf σ 8) (hy : y_wf σ) (hd : h_dis σ) {od : Int} (ho : od = 0 ∨ od = 1)  : ∀ (k : Nat) (m : Int) (l : List Int) (τ : k_St), 30 - m < (k : Int) → 0 ≤ m → m ≤ σ.2.1 8 3 → rk_fr σ τ → τ.2.1 39 4 = (l.length : Int) → v_seg (τ.1 41) 0 l → rk_ok σ od m l → rk_rg τ → j_at G mX6_rankHeads 7 [(0, .ref 39), (1, j_i od), (2, j_i m)] [] (k_h X n τ) 0 0 (k_Q X (rk_post n σ od)) := by
  intro k
  induction k with
  | zero => intro m l τ h1 h2 h3; exact absurd h3 (by have : 0 ≤ σ.2.1 8 3 ∧ σ.2.1 8 3 ≤ 30 := hw.1; omega)
  | succ k ih =>
    intro m l τ hk h0 hN hf hc hs hok hrg
    have hev : 0 ≤ σ.2.1 8 3 ∧ σ.2.1 8 3 ≤ 30 := hw.1
    refine a_iload_n (pc := 7) (i := 2) (by decide +kernel) rfl ?_
    refine a_aload_n (pc := 8) (i := 0) (by decide +kernel) rfl ?_
    refine b_getR (pc := 9) (b := 6) fl_X6_54 (by decide +kernel) (sh_39 hn) rfl ?_
    refine b_getR (pc := 12) (b := 8) fl_X6_78 (by decide +kernel) (sh_6 hn) rfl ?_
    refine b_getI (pc := 15) fl_X6_118 (by decide +kernel) (sh_8 hn) rfl ?_
    rw [show τ.2.1 8 3 = σ.2.1 8 3 from hf.2.1 8 3 (by omega) (by omega) (by omega)]
    refine a_icmp_ge (pc := 18) (off := 99) (tgt := 117) (by decide +kernel) (by decide) (by omega) (by omega) (fun c18 => ?_) (fun c18 => ?_)
    · refine a_iconst (pc := 117) (n := 0) (by decide +kernel) ?_
      refine a_istore_n (pc := 118) (i := 2) (lv' := [(0, .ref 39), (1, j_i od), (2, j_i 0)]) (by decide +kernel) (Nat.le_of_ble_eq_true rfl) rfl ?_
      exact l_rk119 hn hw hy hd ho (l := l) (fun x => (hok.1 x).trans ⟨fun q => q.1, fun q => ⟨q, by have := q.2.1; omega⟩⟩) hok.2.1 (by have := hok.2.2; omega) 31 0 τ (by have := hok.2.2; omega) (by omega) (by omega) hf hc hs hrg (fun r r0 r1 => absurd r0 (by omega))
    · refine a_aload_n (pc := 21) (i := 0) (by decide +kernel) rfl ?_
      refine b_getR (pc := 22) (b := 6) fl_X6_54 (by decide +kernel) (sh_39 hn) rfl ?_
      refine b_getR (pc := 25) (b := 8) fl_X6_78 (by decide +kernel) (sh_6 hn) rfl ?_
      refine a_iload_n (pc := 28) (i := 2) (by decide +kernel) rfl ?_
      refine b_callV (pc := 29) (c' := 0) (sl' := 0) [j_i m] [] ml_X6_121 (by decide +kernel) rfl rfl (sh_8 hn) rfl rfl (Nat.le_of_ble_eq_true rfl) (j_fitI rfl rfl) (s_hhas hn (h_wf_rk hf hw) (by omega)) (fun v n' σ' hq => ?_)
      obtain ⟨x, rfl, e1, e2, hx⟩ := hq
      rw [e1, e2]; clear e1 e2
      rcases hx with ⟨rfl, p29⟩ | ⟨rfl, p29⟩
      · show j_at _ _ _ [(0, .ref 39), (1, j_i od), (2, j_i m)] [j_i 1] _ _ _ _
        refine a_if_ne (pc := 32) (off := 6) (tgt := 38) (by decide +kernel) (by decide) (by omega) (fun c32 => ?_) (fun c32 => ?_)
        · refine a_aload_n (pc := 38) (i := 0) (by decide +kernel) rfl ?_
          refine b_getI (pc := 39) fl_X6_18 (by decide +kernel) (sh_39 hn) rfl ?_
          rw [show τ.2.1 39 4 = (l.length : Int) from hc]
          refine a_istore_n (pc := 42) (i := 3) (lv' := [(0, .ref 39), (1, j_i od), (2, j_i m), (3, j_i (l.length : Int))]) (by decide +kernel) (Nat.le_of_ble_eq_true rfl) rfl ?_
          have hmi : h_is σ m := (h_is_rk hf).mp p29
          have hl5 : l.length < 30 := by have := hmi.2.1; have := hok.2.2; omega
          exact l_rk43 hn hw hy hd ho hmi (fun x hx => (hok.1 x).mp hx) hl5 (fun τ' z q f1 f2 f3 f4 f5 => a_sub (fun q hq => by simp only [List.mem_cons, List.not_mem_nil, or_false] at hq ⊢; rcases hq with rfl | rfl | rfl <;> simp) (ih (m + 1) z τ' (by omega) (by omega) (by omega) f1 f2 f3 (rk_ok_ins hmi hok f4) f5)) l.reverse [] (l.length : Int) τ hf hc (by simp) (by simp) (by rw [List.reverse_reverse]; exact hs) trivial hrg (fun _ h => by cases h)
        · exact absurd c32 (by decide)
      · show j_at _ _ _ [(0, .ref 39), (1, j_i od), (2, j_i m)] [j_i 0] _ _ _ _
        refine a_if_ne (pc := 32) (off := 6) (tgt := 38) (by decide +kernel) (by decide) (by omega) (fun c32 => ?_) (fun c32 => ?_)
        · exact absurd c32 (by decide)
        · refine a_goto (pc := 35) (off := 76) (tgt := 111) (by decide +kernel) (by decide) ?_
          refine a_iinc (pc := 111) (i := 2) (n := 1) (x := m) (lv' := [(0, .ref 39), (1, j_i od), (2, j_i (m + 1))]) (by decide +kernel) rfl (Nat.le_of_ble_eq_true rfl) rfl ?_
          refine a_goto (pc := 114) (off := -107) (tgt := 7) (by decide +kernel) (by decide) ?_
          have hni : ¬ h_is σ m := fun h => p29 ((h_is_rk hf).mpr h)
          exact ih (m + 1) l τ (by omega) (by omega) (by omega) hf hc hs (rk_ok_skip hni hok) hrg
set_option maxHeartbeats 4000000 in
theorem s_rankHeads {G : j_G} {X : k_X} {n : Nat} {σ : k_St} (hn : 101 ≤ n) (hw : h_wf σ 8) (hy : y_wf σ) (hd : h_dis σ) {od : Int} (ho : od = 0 ∨ od = 1) (hrg : rk_rg σ) : k_run G X mX6_rankHeads [.ref 39, j_i od] n σ 0 0 (rk_post n σ od) := by
  refine k_enter (by decide +kernel) (Nat.le_of_ble_eq_true rfl) ?_
  show j_at _ _ _ [(0, .ref 39), (1, j_i od)] [] _ _ _ _
  refine a_aload_n (pc := 0) (i := 0) (by decide +kernel) rfl ?_
  refine a_iconst (pc := 1) (n := 0) (by decide +kernel) ?_
  refine b_putI (pc := 2) fl_X6_18 (by decide +kernel) (sh_39 hn) rfl rfl rfl ?_
  obtain ⟨σ1, hσ1⟩ : ∃ z, z = k_sI σ 39 4 0 := ⟨_, rfl⟩
  rw [← hσ1]
  refine a_iconst (pc := 5) (n := 0) (by decide +kernel) ?_
  refine a_istore_n (pc := 6) (i := 2) (lv' := [(0, .ref 39), (1, j_i od), (2, j_i 0)]) (by decide +kernel) (Nat.le_of_ble_eq_true rfl) rfl ?_
  exact l_rk7 hn hw hy hd ho 31 0 [] σ1 (by omega) (by omega) hw.1.1 (by rw [hσ1]; exact rk_fr_I rk_fr_r) (by rw [hσ1, k_II]; rfl) trivial ⟨fun x => ⟨fun h => absurd h (by simp), fun h => absurd h.2 (by have := h.1.1; omega)⟩, List.Pairwise.nil, by simp⟩ (by rw [hσ1]; exact hrg)
