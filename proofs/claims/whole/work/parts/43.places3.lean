theorem b_ru_y {K P pg : Int → Int} {p m o : Int} {t : List Int} (h : K m ≤ 5 ∧ P m = p) : b_ru K P pg p (m :: t) o = c_r K pg m o ++ b_ru K P pg p t (c_o K m o) := if_pos h
theorem b_ru_n {K P pg : Int → Int} {p m o : Int} {t : List Int} (h : ¬ (K m ≤ 5 ∧ P m = p)) : b_ru K P pg p (m :: t) o = b_ru K P pg p t o := if_neg h
theorem b_lo_y {K P : Int → Int} {p m o : Int} {t : List Int} (h : K m ≤ 5 ∧ P m = p) : b_lo K P p (m :: t) o = c_l K m o ++ b_lo K P p t (c_o K m o) := if_pos h
theorem b_lo_n {K P : Int → Int} {p m o : Int} {t : List Int} (h : ¬ (K m ≤ 5 ∧ P m = p)) : b_lo K P p (m :: t) o = b_lo K P p t o := if_neg h
set_option maxHeartbeats 4000000 in
theorem l_pl22 {G : j_G} {X : k_X} {n : Nat} {σ : k_St} (hn : 101 ≤ n) (hw : m_wf σ 16) (hk : mk_wf σ) {a : Nat} (ha : a = 48 ∨ a = 58) (hA : i_at X n a) {e s c d N : Int} (he : 0 ≤ e ∧ e < 150) (hs9 : 0 ≤ s) (hsN : s + N ≤ 50) (hcc : σ.2.1 39 12 = c) (hdd : σ.2.1 39 11 = d) {RS : Int × Int → Prop} {LS : Int → Prop} {MS : q_T → Prop} {p : Int} (hp : σ.1 (a + 1) e = p) (hpr : 0 ≤ p ∧ p ≤ 29790)  : ∀ (t : List Int) (k : Int) (R : List (Int × Int)) (o9 : Int) (Z : List q_T) (τ : k_St), v_seg (σ.1 42) k t → (∀ x ∈ t, m_is σ x) → 0 ≤ k → σ.2.1 39 6 = k + t.length → k + t.length ≤ 50 → cf_fr a σ τ → cs_is τ a s c R o9 Z → (∀ z ∈ Z, zk z) → (∀ j, j < s * 4 → τ.1 (a + 4) j = σ.1 (a + 4) j) → (∀ x, RS x ↔ x ∈ R ∨ x ∈ b_ru (σ.1 17) (σ.1 19) (m_pg σ) p t o9) → (∀ i, LS i ↔ τ.1 43 i = 1 ∨ i ∈ b_lo (σ.1 17) (σ.1 19) p t o9) → (∀ y, MS y ↔ y ∈ Z ∨ b_ms (σ.1 17) (σ.1 19) (m_pg σ) (σ.1 20) p t y) → (R.length : Int) + Z.length + b_o1 o9 + b_n (σ.1 17) (σ.1 19) p t ≤ N → j_at G mX6_addPlaces 22 [(0, .ref 39), (1, .ref a), (2, j_i e), (3, j_i s), (4, j_i k)] [] (k_h X n τ) 0 0 (k_Q X (pp_post n σ a e s c d N RS LS MS)) := by
  intro t
  induction t with
  | nil =>
    intro k R o9 Z τ ht hlm hk0 hli hk5 hf hcs hzk hlow hRS hLS hMS hN
    obtain ⟨h5, hs0, hs1, hs2, hs3, hs4, hs5, hs6, hs7⟩ := id hA
    have hc01 : c = 0 ∨ c = 1 := by rw [← hcc]; exact hk.2.2
    have hN : (R.length : Int) + Z.length + b_o1 o9 ≤ N := by unfold b_n at hN; omega
    have hor : -9 ≤ o9 ∧ o9 < 50 := by rcases hcs.2.2.2.1 with h | h; omega; have := m_is_50 (cf_mwf ha hf hw) h; have := h.1; omega
    rw [List.length_nil] at hk5
    rw [List.length_nil] at hli
    refine a_iload (pc := 22) (i := 4) (by decide +kernel) rfl ?_
    refine a_aload_n (pc := 24) (i := 0) (by decide +kernel) rfl ?_
    refine b_getI (pc := 25) fl_X6_25 (by decide +kernel) (sh_39 hn) rfl ?_
    rw [show τ.2.1 39 6 = σ.2.1 39 6 from hf.2.1 39 6 (by omega) (by omega) (by omega)]
    refine a_icmp_ge (pc := 28) (off := 63) (tgt := 91) (by decide +kernel) (by decide) (by omega) (by omega) (fun c28 => ?_) (fun c28 => ?_)
    · refine a_aload_n (pc := 91) (i := 0) (by decide +kernel) rfl ?_
      refine b_getI (pc := 92) fl_X6_42 (by decide +kernel) (sh_39 hn) rfl ?_
      rw [show τ.2.1 39 10 = o9 from hcs.2.2.1]
      refine a_bipush (pc := 95) (n := (-9)) (by decide +kernel) rfl ?_
      refine a_icmp_eq (pc := 97) (off := 11) (tgt := 108) (by decide +kernel) (by decide) (by omega) (by omega) (fun c97 => ?_) (fun c97 => ?_)
      · refine a_aload_n (pc := 108) (i := 0) (by decide +kernel) rfl ?_
        refine b_getR (pc := 109) (b := 45) fl_X6_38 (by decide +kernel) (sh_39 hn) rfl ?_
        refine b_callV (pc := 112) (c' := 0) (sl' := 0) [] [] ml_X6_190 (by decide +kernel) rfl rfl (sh_45 hn) rfl rfl (Nat.le_of_ble_eq_true rfl) (j_fitI rfl rfl) (s_inner hn hcs.1) (fun v n' σ' hq => ?_)
        obtain ⟨σ1, hσ1⟩ : ∃ z, z = σ' := ⟨_, rfl⟩
        rw [← hσ1] at hq ⊢
        obtain ⟨rfl, e1, Fσ1, Lσ1, Uσ1, rfl⟩ := hq
        rw [e1]; clear e1
        show j_at _ _ _ [(0, .ref 39), (1, .ref a), (2, j_i e), (3, j_i s), (4, j_i k)] [] _ _ _ _
        refine a_iload_n (pc := 115) (i := 3) (by decide +kernel) rfl ?_
        refine a_istore (pc := 116) (i := 4) (lv' := [(0, .ref 39), (1, .ref a), (2, j_i e), (3, j_i s), (4, j_i s)]) (by decide +kernel) (Nat.le_of_ble_eq_true rfl) rfl ?_
        have hb1 : b_o1 o9 = 0 := if_pos c97
        exact l_pl118 hn hw hk ha hA he hs9 hsN hcc hdd hzk hcs.1.2.2.1 hcs.2.1 (by omega) (fun x => by rw [hRS x]; unfold b_ru; rw [if_pos c97]; simp) (fun y => by rw [hMS y]; unfold b_ms; simp) Z [] s _ σ1 rfl (by simp) (cf_fr_t hf (cf_of_u Fσ1)) Uσ1 (pl_is_congr (fun d d1 d2 => Fσ1.1 _ (by omega) (by omega)) (fun j => Fσ1.2.1 _ _ (by omega)) hcs.2.2.2.2.1) rfl (fun j hj => by rw [Fσ1.1 _ (by omega) (by omega)]; exact hlow j hj) (fun i => by rw [Fσ1.1 43 (by omega) (by omega), hLS i]; unfold b_lo; rw [if_pos c97]; simp) (fun i => by rw [Fσ1.1 43 (by omega) (by omega)]; exact hcs.2.2.2.2.2 i)
      · have hom : m_is τ o9 := hcs.2.2.2.1.resolve_left c97
        have hb1 : b_o1 o9 = 1 := if_neg c97
        refine a_aload_n (pc := 100) (i := 0) (by decide +kernel) rfl ?_
        refine a_aload_n (pc := 101) (i := 0) (by decide +kernel) rfl ?_
        refine b_getI (pc := 102) fl_X6_42 (by decide +kernel) (sh_39 hn) rfl ?_
        rw [show τ.2.1 39 10 = o9 from hcs.2.2.1]
        refine b_callV (pc := 105) (c' := 0) (sl' := 0) [j_i o9] [] ml_X6_187 (by decide +kernel) rfl rfl (sh_39 hn) rfl rfl (Nat.le_of_ble_eq_true rfl) (j_fitI rfl rfl) (s_standAlone hn (cf_mwf ha hf hw) (cf_mkw ha hf hk) ha hA hcs (by omega) hom) (fun v n' σ' hq => ?_)
        obtain ⟨σ2, hσ2⟩ : ∃ z, z = σ' := ⟨_, rfl⟩
        rw [← hσ2] at hq ⊢
        obtain ⟨rfl, e1, Fσ2, lσ2, yσ2, Rσ2, Kσ2, rσ2, nσ2⟩ := hq
        rw [e1]; clear e1
        show j_at _ _ _ [(0, .ref 39), (1, .ref a), (2, j_i e), (3, j_i s), (4, j_i k)] [] _ _ _ _
        refine a_aload_n (pc := 108) (i := 0) (by decide +kernel) rfl ?_
        refine b_getR (pc := 109) (b := 45) fl_X6_38 (by decide +kernel) (sh_39 hn) rfl ?_
        refine b_callV (pc := 112) (c' := 0) (sl' := 0) [] [] ml_X6_190 (by decide +kernel) rfl rfl (sh_45 hn) rfl rfl (Nat.le_of_ble_eq_true rfl) (j_fitI rfl rfl) (s_inner hn Kσ2.1) (fun v n' σ' hq => ?_)
        obtain ⟨σ3, hσ3⟩ : ∃ z, z = σ' := ⟨_, rfl⟩
        rw [← hσ3] at hq ⊢
        obtain ⟨rfl, e1, Fσ3, Lσ3, Uσ3, rfl⟩ := hq
        rw [e1]; clear e1
        show j_at _ _ _ [(0, .ref 39), (1, .ref a), (2, j_i e), (3, j_i s), (4, j_i k)] [] _ _ _ _
        refine a_iload_n (pc := 115) (i := 3) (by decide +kernel) rfl ?_
        refine a_istore (pc := 116) (i := 4) (lv' := [(0, .ref 39), (1, .ref a), (2, j_i e), (3, j_i s), (4, j_i s)]) (by decide +kernel) (Nat.le_of_ble_eq_true rfl) rfl ?_
        exact l_pl118 hn hw hk ha hA he hs9 hsN hcc hdd hzk Kσ2.1.2.2.1 Kσ2.2.1 (by omega) (fun x => by rw [hRS x, rσ2 x, cf_mpg ha hf]; unfold b_ru; rw [if_neg c97]; simp) (fun y => by rw [hMS y]; unfold b_ms; simp) Z [] s _ σ3 rfl (by simp) (cf_fr_t hf (cf_fr_t Fσ2 (cf_of_u Fσ3))) Uσ3 (pl_is_congr (fun d d1 d2 => Fσ3.1 _ (by omega) (by omega)) (fun j => Fσ3.2.1 _ _ (by omega)) Kσ2.2.2.2.2.1) rfl (fun j hj => by rw [Fσ3.1 _ (by omega) (by omega), yσ2]; exact hlow j hj) (fun i => by rw [Fσ3.1 43 (by omega) (by omega), lσ2, up_43, hLS i]; unfold b_lo; rw [if_neg c97]) (fun i => by rw [Fσ3.1 43 (by omega) (by omega)]; exact Kσ2.2.2.2.2.2 i)
    · exfalso; omega
  | cons x t ih =>
    intro k R o9 Z τ ht hlm hk0 hli hk5 hf hcs hzk hlow hRS hLS hMS hN
    obtain ⟨h5, hs0, hs1, hs2, hs3, hs4, hs5, hs6, hs7⟩ := id hA
    have hc01 : c = 0 ∨ c = 1 := by rw [← hcc]; exact hk.2.2
    have hx := hlm x List.mem_cons_self
    have hx5 := m_is_50 hw hx
    have hx0 := hx.1
    have hmt : m_is τ x := (cf_mis ha hf x).mpr hx
    rw [List.length_cons] at hk5
    rw [List.length_cons] at hli
    have hs42 : σ.1 42 k = x := ht.1
    have hp19 : 0 ≤ σ.1 19 x ∧ σ.1 19 x ≤ 29790 := (hw.2.2 x hx.1 hx.2.1).2.2.1
    have e17 : τ.1 17 = σ.1 17 := hf.1 17 (by omega) (by omega) (by omega) (by omega)
    have e20 : τ.1 20 = σ.1 20 := hf.1 20 (by omega) (by omega) (by omega) (by omega)
    have epg : m_pg τ = m_pg σ := funext (fun m => cf_mpg ha hf m)
    refine a_iload (pc := 22) (i := 4) (by decide +kernel) rfl ?_
    refine a_aload_n (pc := 24) (i := 0) (by decide +kernel) rfl ?_
    refine b_getI (pc := 25) fl_X6_25 (by decide +kernel) (sh_39 hn) rfl ?_
    rw [show τ.2.1 39 6 = σ.2.1 39 6 from hf.2.1 39 6 (by omega) (by omega) (by omega)]
    refine a_icmp_ge (pc := 28) (off := 63) (tgt := 91) (by decide +kernel) (by decide) (by omega) (by omega) (fun c28 => ?_) (fun c28 => ?_)
    · exfalso; omega
    · refine a_aload_n (pc := 31) (i := 0) (by decide +kernel) rfl ?_
      refine b_getR (pc := 32) (b := 42) fl_X6_22 (by decide +kernel) (sh_39 hn) rfl ?_
      refine a_iload (pc := 35) (i := 4) (by decide +kernel) rfl ?_
      refine b_iaload (pc := 37) (by decide +kernel) (sh_42 hn) (by omega) (by omega) (by omega) ?_
      rw [show τ.1 42 = σ.1 42 from hf.1 42 (by omega) (by omega) (by omega) (by omega)]
      rw [hs42]
      refine a_istore (pc := 38) (i := 5) (lv' := [(0, .ref 39), (1, .ref a), (2, j_i e), (3, j_i s), (4, j_i k), (5, j_i x)]) (by decide +kernel) (Nat.le_of_ble_eq_true rfl) rfl ?_
      refine a_aload_n (pc := 40) (i := 0) (by decide +kernel) rfl ?_
      refine b_getR (pc := 41) (b := 6) fl_X6_54 (by decide +kernel) (sh_39 hn) rfl ?_
      refine b_getR (pc := 44) (b := 16) fl_X6_131 (by decide +kernel) (sh_6 hn) rfl ?_
      refine a_iload (pc := 47) (i := 5) (by decide +kernel) rfl ?_
      refine b_callV (pc := 49) (c' := 0) (sl' := 0) [j_i x] [] ml_X6_179 (by decide +kernel) rfl rfl (sh_16 hn) rfl rfl (Nat.le_of_ble_eq_true rfl) (j_fitI rfl rfl) (s_isLead hn (cf_mwf ha hf hw) (by omega)) (fun v n' σ' hq => ?_)
      obtain ⟨x, rfl, e1, e2, hx⟩ := hq
      rw [e1, e2]; clear e1 e2
      rcases hx with ⟨rfl, p49⟩ | ⟨rfl, p49⟩
      · show j_at _ _ _ [(0, .ref 39), (1, .ref a), (2, j_i e), (3, j_i s), (4, j_i k), (5, j_i x)] [j_i 1] _ _ _ _
        have hno : ¬ (σ.1 17 x ≤ 5 ∧ σ.1 19 x = p) := by intro h; have := p49.2; rw [e17] at this; omega
        refine a_if_ne (pc := 52) (off := 33) (tgt := 85) (by decide +kernel) (by decide) (by omega) (fun c52 => ?_) (fun c52 => ?_)
        · have hno : ¬ (σ.1 17 x ≤ 5 ∧ σ.1 19 x = p) := by first | exact hno | exact fun h => c74 h.2
          refine a_iinc (pc := 85) (i := 4) (n := 1) (x := k) (lv' := [(0, .ref 39), (1, .ref a), (2, j_i e), (3, j_i s), (4, j_i (k + 1)), (5, j_i x)]) (by decide +kernel) rfl (Nat.le_of_ble_eq_true rfl) rfl ?_
          refine a_goto (pc := 88) (off := -66) (tgt := 22) (by decide +kernel) (by decide) ?_
          refine a_sub (pc := 22) (lv' := [(0, .ref 39), (1, .ref a), (2, j_i e), (3, j_i s), (4, j_i (k + 1))]) (fun q hq => by simp only [List.mem_cons, List.not_mem_nil, or_false] at hq ⊢; rcases hq with rfl | rfl | rfl | rfl | rfl <;> simp) (ih (k + 1) R o9 Z τ ht.2 (fun y hy => hlm y (List.mem_cons_of_mem _ hy)) (by omega) (by rw [hli]; omega) (by omega) hf hcs hzk hlow (fun y => by rw [hRS y, b_ru_n hno]) (fun i => by rw [hLS i, b_lo_n hno]) (fun y => by rw [hMS y]; exact or_congr Iff.rfl ⟨fun ⟨m, m1, m2⟩ => ⟨m, by rcases List.mem_cons.mp m1 with h | h; rw [h] at m2; exact absurd m2.1 hno; exact h, m2⟩, fun ⟨m, m1, m2⟩ => ⟨m, List.mem_cons_of_mem _ m1, m2⟩⟩) (by unfold b_n at hN; rw [if_neg hno] at hN; omega))
        · exact absurd c52 (by decide)
      · show j_at _ _ _ [(0, .ref 39), (1, .ref a), (2, j_i e), (3, j_i s), (4, j_i k), (5, j_i x)] [j_i 0] _ _ _ _
        have hk5 : σ.1 17 x ≤ 5 := Int.not_lt.mp (fun h => p49 ⟨hmt, by rw [e17]; exact h⟩)
        refine a_if_ne (pc := 52) (off := 33) (tgt := 85) (by decide +kernel) (by decide) (by omega) (fun c52 => ?_) (fun c52 => ?_)
        · exact absurd c52 (by decide)
        · refine a_aload_n (pc := 55) (i := 0) (by decide +kernel) rfl ?_
          refine b_getR (pc := 56) (b := 6) fl_X6_54 (by decide +kernel) (sh_39 hn) rfl ?_
          refine b_getR (pc := 59) (b := 16) fl_X6_131 (by decide +kernel) (sh_6 hn) rfl ?_
          refine b_getR (pc := 62) (b := 19) fl_X6_182 (by decide +kernel) (sh_16 hn) rfl ?_
          refine a_iload (pc := 65) (i := 5) (by decide +kernel) rfl ?_
          refine b_iaload (pc := 67) (by decide +kernel) (sh_19 hn) (by omega) (by omega) (by omega) ?_
          rw [show τ.1 19 = σ.1 19 from hf.1 19 (by omega) (by omega) (by omega) (by omega)]
          refine a_aload_n (pc := 68) (i := 1) (by decide +kernel) rfl ?_
          refine b_getR (pc := 69) (b := a + 1) fl_X6_165 (by decide +kernel) hs0 rfl ?_
          refine a_iload_n (pc := 72) (i := 2) (by decide +kernel) rfl ?_
          refine b_iaload (pc := 73) (by decide +kernel) hs1 (by omega) (by omega) (by omega) ?_
          rw [show τ.1 (a + 1) = σ.1 (a + 1) from hf.1 (a + 1) (by omega) (by omega) (by omega) (by omega)]
          rw [hp]
          refine a_icmp_ne (pc := 74) (off := 11) (tgt := 85) (by decide +kernel) (by decide) (by omega) (by omega) (fun c74 => ?_) (fun c74 => ?_)
          · have hno : ¬ (σ.1 17 x ≤ 5 ∧ σ.1 19 x = p) := by first | exact hno | exact fun h => c74 h.2
            refine a_iinc (pc := 85) (i := 4) (n := 1) (x := k) (lv' := [(0, .ref 39), (1, .ref a), (2, j_i e), (3, j_i s), (4, j_i (k + 1)), (5, j_i x)]) (by decide +kernel) rfl (Nat.le_of_ble_eq_true rfl) rfl ?_
            refine a_goto (pc := 88) (off := -66) (tgt := 22) (by decide +kernel) (by decide) ?_
            refine a_sub (pc := 22) (lv' := [(0, .ref 39), (1, .ref a), (2, j_i e), (3, j_i s), (4, j_i (k + 1))]) (fun q hq => by simp only [List.mem_cons, List.not_mem_nil, or_false] at hq ⊢; rcases hq with rfl | rfl | rfl | rfl | rfl <;> simp) (ih (k + 1) R o9 Z τ ht.2 (fun y hy => hlm y (List.mem_cons_of_mem _ hy)) (by omega) (by rw [hli]; omega) (by omega) hf hcs hzk hlow (fun y => by rw [hRS y, b_ru_n hno]) (fun i => by rw [hLS i, b_lo_n hno]) (fun y => by rw [hMS y]; exact or_congr Iff.rfl ⟨fun ⟨m, m1, m2⟩ => ⟨m, by rcases List.mem_cons.mp m1 with h | h; rw [h] at m2; exact absurd m2.1 hno; exact h, m2⟩, fun ⟨m, m1, m2⟩ => ⟨m, List.mem_cons_of_mem _ m1, m2⟩⟩) (by unfold b_n at hN; rw [if_neg hno] at hN; omega))
          · have hyes : σ.1 17 x ≤ 5 ∧ σ.1 19 x = p := ⟨hk5, by omega⟩
            have hb0 := (b_n_0 (σ.1 17) (σ.1 19) p t).1
            have hb1 : 0 ≤ b_o1 o9 := by unfold b_o1; split <;> omega
            have hN2 := hN
            unfold b_n at hN2
            rw [if_pos hyes] at hN2
            refine a_aload_n (pc := 77) (i := 0) (by decide +kernel) rfl ?_
            refine a_aload_n (pc := 78) (i := 1) (by decide +kernel) rfl ?_
            refine a_iload_n (pc := 79) (i := 3) (by decide +kernel) rfl ?_
            refine a_iload (pc := 80) (i := 5) (by decide +kernel) rfl ?_
            refine b_callV (pc := 82) (c' := 0) (sl' := 0) [.ref a, j_i s, j_i x] [] ml_X6_183 (by decide +kernel) rfl rfl (sh_39 hn) rfl rfl (Nat.le_of_ble_eq_true rfl) (j_fitI rfl rfl) (s_collect hn (cf_mwf ha hf hw) (cf_mkw ha hf hk) ha hA hcs (by omega) hmt (by rw [e17]; omega) hs9 (by omega) ((hf.2.1 39 12 (by omega) (by omega) (by omega)).trans hcc) hzk) (fun v n' σ' hq => ?_)
            obtain ⟨σ1, hσ1⟩ : ∃ z, z = σ' := ⟨_, rfl⟩
            rw [← hσ1] at hq ⊢
            obtain ⟨rfl, e1, Fσ1, lσ1, yσ1, Rσ1, Zσ1, Kσ1, rσ1, zσ1, zkσ1, nσ1⟩ := hq
            rw [e1]; clear e1
            rw [e17] at lσ1 Kσ1 rσ1 zσ1 nσ1
            rw [e20] at zσ1
            rw [epg] at rσ1 zσ1
            show j_at _ _ _ [(0, .ref 39), (1, .ref a), (2, j_i e), (3, j_i s), (4, j_i k), (5, j_i x)] [] _ _ _ _
            skip
            refine a_iinc (pc := 85) (i := 4) (n := 1) (x := k) (lv' := [(0, .ref 39), (1, .ref a), (2, j_i e), (3, j_i s), (4, j_i (k + 1)), (5, j_i x)]) (by decide +kernel) rfl (Nat.le_of_ble_eq_true rfl) rfl ?_
            refine a_goto (pc := 88) (off := -66) (tgt := 22) (by decide +kernel) (by decide) ?_
            refine a_sub (pc := 22) (lv' := [(0, .ref 39), (1, .ref a), (2, j_i e), (3, j_i s), (4, j_i (k + 1))]) (fun q hq => by simp only [List.mem_cons, List.not_mem_nil, or_false] at hq ⊢; rcases hq with rfl | rfl | rfl | rfl | rfl <;> simp) (ih (k + 1) Rσ1 (c_o (σ.1 17) x o9) Zσ1 σ1 ht.2 (fun y hy => hlm y (List.mem_cons_of_mem _ hy)) (by omega) (by rw [hli]; omega) (by omega) (cf_fr_t hf Fσ1) Kσ1 zkσ1 (fun j hj => (yσ1 j hj).trans (hlow j hj)) (fun y => by rw [hRS y, rσ1 y, b_ru_y hyes, List.mem_append, or_assoc]) (fun i => by rw [hLS i, lσ1 i, b_lo_y hyes, List.mem_append, or_assoc]) (fun y => ?_) (by unfold b_n at hN; rw [if_pos hyes] at hN; omega))
            rw [hMS y, zσ1 y, or_assoc]
            refine or_congr Iff.rfl ⟨?_, ?_⟩
            · rintro ⟨m, m1, m2, m3, m4⟩
              rcases List.mem_cons.mp m1 with h | h
              · rw [h] at m3 m4; exact Or.inl ⟨m3, m4⟩
              · exact Or.inr ⟨m, h, m2, m3, m4⟩
            · rintro (⟨m3, m4⟩ | ⟨m, m1, m2⟩)
              · exact ⟨x, List.mem_cons_self, hyes, m3, m4⟩
              · exact ⟨m, List.mem_cons_of_mem _ m1, m2⟩
set_option maxHeartbeats 4000000 in
theorem s_addPlaces {G : j_G} {X : k_X} {n : Nat} {σ : k_St} (hn : 101 ≤ n) (hw : m_wf σ 16) (hk : mk_wf σ) {a : Nat} (ha : a = 48 ∨ a = 58) (hA : i_at X n a) {e s c d N p : Int} (he : 0 ≤ e ∧ e < 150) (hs9 : 0 ≤ s) (hsN : s + N ≤ 50) (hcc : σ.2.1 39 12 = c) (hdd : σ.2.1 39 11 = d) (hp : σ.1 (a + 1) e = p) (hpr : 0 ≤ p ∧ p ≤ 29790) {lm : List Int} (hsl : v_seg (σ.1 42) 0 lm) (hlm : ∀ x ∈ lm, m_is σ x) (hlm5 : lm.length ≤ 50) (hli : σ.2.1 39 6 = (lm.length : Int)) (hwi : i_wf σ a) (hsc : σ.2.1 a 5 = s) (hk5 : ∀ e, 0 ≤ e → e < σ.2.1 a 5 → σ.1 (a + 4) (e * 4) ≤ 5) (h01 : ∀ i, σ.1 43 i = 0 ∨ σ.1 43 i = 1) (hN : b_n (σ.1 17) (σ.1 19) p lm = N)  : k_run G X mX6_addPlaces [.ref 39, .ref a, j_i e] n σ 0 0 (pp_post n σ a e s c d N (fun x => x ∈ b_ru (σ.1 17) (σ.1 19) (m_pg σ) p lm (-9)) (fun i => σ.1 43 i = 1 ∨ i ∈ b_lo (σ.1 17) (σ.1 19) p lm (-9)) (b_ms (σ.1 17) (σ.1 19) (m_pg σ) (σ.1 20) p lm)) := by
  obtain ⟨h5, hs0, hs1, hs2, hs3, hs4, hs5, hs6, hs7⟩ := id hA
  have hc01 : c = 0 ∨ c = 1 := by rw [← hcc]; exact hk.2.2
  refine k_enter (by decide +kernel) (Nat.le_of_ble_eq_true rfl) ?_
  show j_at _ _ _ [(0, .ref 39), (1, .ref a), (2, j_i e)] [] _ _ _ _
  refine a_aload_n (pc := 0) (i := 1) (by decide +kernel) rfl ?_
  refine b_getI (pc := 1) fl_X6_175 (by decide +kernel) hs0 rfl ?_
  rw [show σ.2.1 a 5 = s from hsc]
  refine a_istore_n (pc := 4) (i := 3) (lv' := [(0, .ref 39), (1, .ref a), (2, j_i e), (3, j_i s)]) (by decide +kernel) (Nat.le_of_ble_eq_true rfl) rfl ?_
  refine a_aload_n (pc := 5) (i := 0) (by decide +kernel) rfl ?_
  refine b_getR (pc := 6) (b := 45) fl_X6_38 (by decide +kernel) (sh_39 hn) rfl ?_
  refine a_iconst (pc := 9) (n := 0) (by decide +kernel) ?_
  refine b_putI (pc := 10) fl_X6_178 (by decide +kernel) (sh_45 hn) rfl rfl rfl ?_
  obtain ⟨σ1, hσ1⟩ : ∃ z, z = k_sI σ 45 2 0 := ⟨_, rfl⟩
  rw [← hσ1]
  refine a_aload_n (pc := 13) (i := 0) (by decide +kernel) rfl ?_
  refine a_bipush (pc := 14) (n := (-9)) (by decide +kernel) rfl ?_
  refine b_putI (pc := 16) fl_X6_42 (by decide +kernel) (sh_39 hn) rfl rfl rfl ?_
  obtain ⟨σ2, hσ2⟩ : ∃ z, z = k_sI σ1 39 10 (-9) := ⟨_, rfl⟩
  rw [← hσ2]
  refine a_iconst (pc := 19) (n := 0) (by decide +kernel) ?_
  refine a_istore (pc := 20) (i := 4) (lv' := [(0, .ref 39), (1, .ref a), (2, j_i e), (3, j_i s), (4, j_i 0)]) (by decide +kernel) (Nat.le_of_ble_eq_true rfl) rfl ?_
  have hf2 : cf_fr a σ σ2 := ⟨fun c _ _ _ _ => by rw [hσ2, hσ1]; rfl, fun c j q1 q2 q3 => by rw [hσ2, k_IN q1, hσ1, k_IN q2], by rw [hσ2, hσ1]; rfl⟩
  refine l_pl22 hn hw hk ha hA he hs9 hsN hcc hdd hp hpr lm 0 [] (-9) [] σ2 hsl hlm (by omega) (by omega) (by omega) hf2 ⟨⟨by rw [hσ2, k_IN (by omega), hσ1, k_II]; rfl, trivial, fun _ h => (by cases h), by simp⟩, List.Pairwise.nil, by rw [hσ2, k_II], Or.inl rfl, pl_is_congr (σ := σ) (fun d d1 d2 => by rw [hσ2, hσ1]; rfl) (fun j => by rw [hσ2, k_IN (by omega), hσ1, k_IN (by omega)]) ⟨hwi, by rw [hsc]; simp, trivial, List.Pairwise.nil, hk5⟩, fun i => by rw [hσ2, hσ1]; exact h01 i⟩ (fun _ h => by cases h) (fun j _ => by rw [hσ2, hσ1]; rfl) (fun x => by simp) (fun i => by rw [hσ2, hσ1]; exact Iff.rfl) (fun y => by simp) (by unfold b_o1; simp; omega)
