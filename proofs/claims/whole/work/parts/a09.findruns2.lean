theorem c_1 {K pg : Int → Int} {m o : Int} (h : K m = 1) : c_o K m o = m ∧ (o = -9 → c_r K pg m o = [] ∧ c_l K m o = []) ∧ (o ≠ -9 → c_r K pg m o = [(pg o, pg o)] ∧ c_l K m o = [o]) := by
  unfold c_o c_r c_l
  refine ⟨if_pos h, fun e => ⟨?_, ?_⟩, fun e => ⟨?_, ?_⟩⟩
  · rw [if_neg (by omega), if_pos h, if_pos e]
  · rw [if_pos h, if_pos e]
  · rw [if_neg (by omega), if_pos h, if_neg e]
  · rw [if_pos h, if_neg e]
theorem c_2 {K pg : Int → Int} {m o : Int} (h : K m = 2) : c_o K m o = -9 ∧ (o = -9 → c_r K pg m o = [(pg m, pg m)] ∧ c_l K m o = [m]) ∧ (o ≠ -9 → c_r K pg m o = [(pg o, pg m)] ∧ c_l K m o = []) := by
  unfold c_o c_r c_l
  refine ⟨by rw [if_neg (by omega), if_pos h], fun e => ⟨?_, ?_⟩, fun e => ⟨?_, ?_⟩⟩
  · rw [if_neg (by omega), if_neg (by omega), if_pos h, if_pos e]
  · rw [if_neg (by omega), if_pos h, if_pos e]
  · rw [if_neg (by omega), if_neg (by omega), if_pos h, if_neg e]
  · rw [if_neg (by omega), if_pos h, if_neg e]
def fR_post (n : Nat) (σ : k_St) (p : Int) (lm : List Int) (U : Int → Prop) : k_P := fun v n' τ => v = none ∧ n' = n ∧ ufr σ τ ∧ RN0 τ (fun x => x ∈ b_ru (σ.1 17) (σ.1 19) (pgM σ) p lm (-9)) ∧ UN τ (fun x => U x ∨ x ∈ b_lo (σ.1 17) (σ.1 19) p lm (-9)) ∧ ∀ x, x ∈ b_lo (σ.1 17) (σ.1 19) p lm (-9) → ofP σ p x
theorem or_nil {α : Type} {P : α → Prop} {x : α} : P x ↔ P x ∨ x ∈ ([] : List α) := by simp
theorem or_one {α : Type} {P : α → Prop} {x y : α} : P x ∨ x = y ↔ P x ∨ x ∈ [y] := by simp
set_option maxHeartbeats 4000000 in
theorem l_fr71 {G : j_G} {X : k_X} {n : Nat} {σ : k_St} (hn : 101 ≤ n) {pe : Int → Int} (hB : MB σ pe) {lm : List Int} {U : Int → Prop} {e : Int} (e0 : 0 ≤ e ∧ e < σ.2.1 68 25) (hlm : ∀ x, x ∈ lm ↔ m_is σ x) (hp : lm.Pairwise (m_lt σ)) (hUo : ∀ x, U x → ¬ ofP σ (pe e) x)  : ∀ (z : Nat) (dn t : List Int) (o m : Int) (τ : k_St), t.length < z → FR σ τ (pe e) lm U dn t o → ((m = -9 ∧ ∀ x ∈ t, ¬ bnd σ (pe e) x) ∨ (m ≠ -9 ∧ bnd σ (pe e) m ∧ ∃ t1 t2, t = t1 ++ m :: t2 ∧ ∀ x ∈ t1, ¬ bnd σ (pe e) x)) → j_at G mX12_findRuns 71 [(0, .ref 68), (1, j_i e), (2, j_i o), (3, j_i m)] [] (k_h X n τ) 0 0 (k_Q X (fR_post n σ (pe e) lm U)) := by
  obtain ⟨hK, hP, hfl, hE, hok⟩ := id hB
  have hM := (KR_rg hK.1 hK.2.1).1.2.2
  have hE1 := hE.1
  intro z
  induction z with
  | zero => intro dn t o m τ h1; exact absurd h1 (by omega)
  | succ z ih =>
    intro dn t o m τ hz hF hM
    obtain ⟨DR, DU, f1, f2, f3, f4, f5, f6, f7, f8⟩ := hF
    have ro : o = -9 ∨ (0 ≤ o ∧ o < σ.1 69 1382) := by rcases f3 with w | w; exact Or.inl w; exact Or.inr (m_is_e hK w.2.1.1)
    have rm : m = -9 ∨ (0 ≤ m ∧ m < σ.1 69 1382) := by rcases hM with w | w; exact Or.inl w.1; exact Or.inr (m_is_e hK w.2.1.1.1)
    refine a_iload_n (pc := 71) (i := 3) (by decide +kernel) rfl ?_
    refine a_bipush (pc := 72) (n := (-9)) (by decide +kernel) rfl ?_
    refine a_icmp_eq (pc := 74) (off := 77) (tgt := 151) (by decide +kernel) (by decide) (by omega) (by omega) (fun c74 => ?_) (fun c74 => ?_)
    · have htn : ∀ x ∈ t, ¬ bnd σ (pe e) x := by rcases hM with w | w; exact w.2; exact absurd c74 w.1
      refine a_iload_n (pc := 151) (i := 2) (by decide +kernel) rfl ?_
      refine a_bipush (pc := 152) (n := (-9)) (by decide +kernel) rfl ?_
      refine a_icmp_eq (pc := 154) (off := 8) (tgt := 162) (by decide +kernel) (by decide) (by omega) (by omega) (fun c154 => ?_) (fun c154 => ?_)
      · refine a_return (pc := 162) (by decide +kernel) rfl ?_
        refine k_ret ?_
        have y := FR_e (τ := τ) hlm f2 htn f3 (Or.inl ⟨c154, f4.1, f5⟩) f6 f7 f8
        exact ⟨rfl, rfl, f1, y.1, y.2.1, y.2.2⟩
      · have hob : o ∈ dn ∧ bnd σ (pe e) o := by rcases f3 with w | w; exact absurd w c154; exact w
        have hb9 : ¬ ((ofP σ (pe e) o ∧ σ.1 17 o = 0) ∨ (bnd σ (pe e) o ∧ o ∈ dn ∧ o ≠ o)) := fun w => by rcases w with w | w; have := w.2; have := hob.2.2; omega; exact w.2.2 rfl
        have hu9 : ¬ (U o ∨ DU o) := fun w => by rcases w with w | w; exact hUo o w hob.2.1; exact (f6 o w).2.2 rfl
        refine a_aload_n (pc := 157) (i := 0) (by decide +kernel) rfl ?_
        refine a_iload_n (pc := 158) (i := 2) (by decide +kernel) rfl ?_
        refine b_callV (pc := 159) (c' := 0) (sl' := 0) [j_i o] [] ml_X12_314 (by decide +kernel) rfl rfl (sh_68 hn) rfl rfl (Nat.le_of_ble_eq_true rfl) (j_fitI rfl rfl) (e_unmatch hn (MB_m (ufr_m f1) hB) f4 f5 (by rw [(ufr_m f1).1 69 (by omega)]; omega) hb9 hu9) (fun v n' σ' hq => ?_)
        obtain ⟨rfl, rfl, g1, g2, g3⟩ := hq
        obtain ⟨σ1, hσ1⟩ : ∃ z, z = σ' := ⟨_, rfl⟩
        rw [← hσ1] at g1 g2 g3 ⊢
        clear hσ1
        rw [mfr_pg (ufr_m f1)] at g3
        show j_at _ _ _ [(0, .ref 68), (1, j_i e), (2, j_i o), (3, j_i m)] [] _ _ _ _
        refine a_return (pc := 162) (by decide +kernel) rfl ?_
        refine k_ret ?_
        have y := FR_e (τ := τ) hlm f2 htn f3 (Or.inr ⟨c154, g3.1, g2⟩) f6 f7 f8
        exact ⟨rfl, rfl, ufr_t f1 g1, y.1, y.2.1, y.2.2⟩
    · obtain ⟨hmb, t1, t2, et, ht1⟩ : bnd σ (pe e) m ∧ ∃ t1 t2, t = t1 ++ m :: t2 ∧ ∀ x ∈ t1, ¬ bnd σ (pe e) x := by
        rcases hM with w | w
        · exact absurd w.1 c74
        · exact w.2
      subst et
      have hmk := hmb.2
      have hmd : ∀ x ∈ dn, m_lt σ x m := fun x hx => by
        have hp9 := hp
        rw [f2, List.pairwise_append] at hp9
        exact hp9.2.2 x hx m (by simp)
      have hnm : ¬ m ∈ dn := fun w => m_lt_irr (hmd m w)
      refine a_aload_n (pc := 77) (i := 0) (by decide +kernel) rfl ?_
      refine a_iload_n (pc := 78) (i := 3) (by decide +kernel) rfl ?_
      refine b_pureV (pc := 79) [j_i m] [] ml_X12_257 (by decide +kernel) rfl rfl (sh_68 hn) rfl rfl (Nat.le_of_ble_eq_true rfl) (j_fitI rfl rfl) (b_kind hn (MB_m (ufr_m f1) hB).1 (by omega) (by rw [(ufr_m f1).1 69 (by omega)]; omega)) ?_
      rw [show τ.1 17 = σ.1 17 from (ufr_m f1).1 17 (by omega)]
      have q2 := b_rg hB.1 (m := m) (by omega) (by omega)
      show j_at _ _ _ [(0, .ref 68), (1, j_i e), (2, j_i o), (3, j_i m)] [j_i (σ.1 17 m)] _ _ _ _
      refine a_iconst (pc := 82) (n := 1) (by decide +kernel) ?_
      refine a_icmp_ne (pc := 83) (off := 19) (tgt := 102) (by decide +kernel) (by decide) (by omega) (by omega) (fun c83 => ?_) (fun c83 => ?_)
      · refine a_iload_n (pc := 102) (i := 2) (by decide +kernel) rfl ?_
        refine a_bipush (pc := 103) (n := (-9)) (by decide +kernel) rfl ?_
        refine a_icmp_ne (pc := 105) (off := 11) (tgt := 116) (by decide +kernel) (by decide) (by omega) (by omega) (fun c105 => ?_) (fun c105 => ?_)
        · have hob : o ∈ dn ∧ bnd σ (pe e) o := by rcases f3 with w | w; exact absurd w c105; exact w
          have hb9 : ¬ ((ofP σ (pe e) m ∧ σ.1 17 m = 0) ∨ (bnd σ (pe e) m ∧ m ∈ dn ∧ m ≠ o)) := fun w => by rcases w with w | w; have := w.2; omega; exact hnm w.2.1
          have hgap : σ.1 18 o ≤ σ.1 18 m := by have := hmd o hob.1; unfold m_lt at this; omega
          refine a_aload_n (pc := 116) (i := 0) (by decide +kernel) rfl ?_
          refine a_aload_n (pc := 117) (i := 0) (by decide +kernel) rfl ?_
          refine a_aload_n (pc := 118) (i := 0) (by decide +kernel) rfl ?_
          refine a_iload_n (pc := 119) (i := 2) (by decide +kernel) rfl ?_
          refine b_pureV (pc := 120) [j_i o] [.ref 68, .ref 68] ml_X12_266 (by decide +kernel) rfl rfl (sh_68 hn) rfl rfl (Nat.le_of_ble_eq_true rfl) (j_fitI rfl rfl) (b_gap hn (MB_m (ufr_m f1) hB).1 (by omega) (by rw [(ufr_m f1).1 69 (by omega)]; omega)) ?_
          rw [show τ.1 18 = σ.1 18 from (ufr_m f1).1 18 (by omega)]
          have q3 := b_rg hB.1 (m := o) (by omega) (by omega)
          show j_at _ _ _ [(0, .ref 68), (1, j_i e), (2, j_i o), (3, j_i m)] [j_i (σ.1 18 o), .ref 68, .ref 68] _ _ _ _
          refine b_pureV (pc := 123) [j_i (σ.1 18 o)] [.ref 68] ml_X12_272 (by decide +kernel) rfl rfl (sh_68 hn) rfl rfl (Nat.le_of_ble_eq_true rfl) (j_fitI rfl rfl) (b_page hn (MB_m (ufr_m f1) hB) (by omega)) ?_
          rw [show τ.2.1 68 11 = σ.2.1 68 11 from (ufr_m f1).2.1 68 11 (by omega)]
          have qp4 := f_page_in (g := σ.1 18 o) (f := σ.2.1 68 11) (by omega)
          show j_at _ _ _ [(0, .ref 68), (1, j_i e), (2, j_i o), (3, j_i m)] [j_i (f_page (σ.1 18 o) (σ.2.1 68 11)), .ref 68] _ _ _ _
          refine a_aload_n (pc := 126) (i := 0) (by decide +kernel) rfl ?_
          refine a_aload_n (pc := 127) (i := 0) (by decide +kernel) rfl ?_
          refine a_iload_n (pc := 128) (i := 3) (by decide +kernel) rfl ?_
          refine b_pureV (pc := 129) [j_i m] [.ref 68, j_i (f_page (σ.1 18 o) (σ.2.1 68 11)), .ref 68] ml_X12_266 (by decide +kernel) rfl rfl (sh_68 hn) rfl rfl (Nat.le_of_ble_eq_true rfl) (j_fitI rfl rfl) (b_gap hn (MB_m (ufr_m f1) hB).1 (by omega) (by rw [(ufr_m f1).1 69 (by omega)]; omega)) ?_
          rw [show τ.1 18 = σ.1 18 from (ufr_m f1).1 18 (by omega)]
          have q5 := b_rg hB.1 (m := m) (by omega) (by omega)
          show j_at _ _ _ [(0, .ref 68), (1, j_i e), (2, j_i o), (3, j_i m)] [j_i (σ.1 18 m), .ref 68, j_i (f_page (σ.1 18 o) (σ.2.1 68 11)), .ref 68] _ _ _ _
          refine b_pureV (pc := 132) [j_i (σ.1 18 m)] [j_i (f_page (σ.1 18 o) (σ.2.1 68 11)), .ref 68] ml_X12_272 (by decide +kernel) rfl rfl (sh_68 hn) rfl rfl (Nat.le_of_ble_eq_true rfl) (j_fitI rfl rfl) (b_page hn (MB_m (ufr_m f1) hB) (by omega)) ?_
          rw [show τ.2.1 68 11 = σ.2.1 68 11 from (ufr_m f1).2.1 68 11 (by omega)]
          have qp6 := f_page_in (g := σ.1 18 m) (f := σ.2.1 68 11) (by omega)
          show j_at _ _ _ [(0, .ref 68), (1, j_i e), (2, j_i o), (3, j_i m)] [j_i (f_page (σ.1 18 m) (σ.2.1 68 11)), j_i (f_page (σ.1 18 o) (σ.2.1 68 11)), .ref 68] _ _ _ _
          refine b_callV (pc := 135) (c' := 0) (sl' := 0) [j_i (f_page (σ.1 18 o) (σ.2.1 68 11)), j_i (f_page (σ.1 18 m) (σ.2.1 68 11))] [] ml_X12_300 (by decide +kernel) rfl rfl (sh_68 hn) rfl rfl (Nat.le_of_ble_eq_true rfl) (j_fitI rfl rfl) (e_addRun (m := m) hn f4 (by have := f_page_mono (a := σ.1 18 o) (b := σ.1 18 m) (f := σ.2.1 68 11) hgap hfl.1; omega) (by omega) hb9) (fun v n' σ' hq => ?_)
          obtain ⟨rfl, rfl, g1, g3⟩ := hq
          obtain ⟨σ7, hσ7⟩ : ∃ z, z = σ' := ⟨_, rfl⟩
          rw [← hσ7] at g1 g3 ⊢
          clear hσ7
          show j_at _ _ _ [(0, .ref 68), (1, j_i e), (2, j_i o), (3, j_i m)] [] _ _ _ _
          refine a_bipush (pc := 138) (n := (-9)) (by decide +kernel) rfl ?_
          refine a_istore_n (pc := 140) (i := 2) (lv' := [(0, .ref 68), (1, j_i e), (2, j_i (-9)), (3, j_i m)]) (by decide +kernel) (Nat.le_of_ble_eq_true rfl) rfl ?_
          refine a_aload_n (pc := 141) (i := 0) (by decide +kernel) rfl ?_
          refine a_iload_n (pc := 142) (i := 1) (by decide +kernel) rfl ?_
          refine a_iload_n (pc := 143) (i := 3) (by decide +kernel) rfl ?_
          refine b_callV (pc := 144) (c' := 0) (sl' := 0) [j_i e, j_i m] [] ml_X12_311 (by decide +kernel) rfl rfl (sh_68 hn) rfl rfl (Nat.le_of_ble_eq_true rfl) (j_fitI rfl rfl) (e_nextBound hn (MB_m (ufr_m (ufr_t f1 (ufr_u g1))) hB) (by rw [(ufr_m (ufr_t f1 (ufr_u g1))).2.1 68 25 (by omega)]; omega) (by rw [(ufr_m (ufr_t f1 (ufr_u g1))).1 69 (by omega)]; omega)) (fun v n' σ' hq => ?_)
          obtain ⟨r8, rfl, e1, e2, hr8⟩ := hq
          rw [e1, e2]; clear e1 e2
          rw [(ufr_m (ufr_t f1 (ufr_u g1))).1 69 (by omega), mfr_nb (ufr_m (ufr_t f1 (ufr_u g1)))] at hr8
          have rr8 : r8 = -9 ∨ (0 ≤ r8 ∧ r8 < σ.1 69 1382) := by rcases hr8 with w | w; exact Or.inl w.1; exact Or.inr ⟨w.1, w.2.1⟩
          show j_at _ _ _ [(0, .ref 68), (1, j_i e), (2, j_i (-9)), (3, j_i m)] [j_i r8] _ _ _ _
          refine a_istore_n (pc := 147) (i := 3) (lv' := [(0, .ref 68), (1, j_i e), (2, j_i (-9)), (3, j_i r8)]) (by decide +kernel) (Nat.le_of_ble_eq_true rfl) rfl ?_
          refine a_goto (pc := 148) (off := -77) (tgt := 71) (by decide +kernel) (by decide) ?_
          have cc := c_2 (pg := pgM σ) (o := o) (show σ.1 17 m = 2 by omega)
          have hF := FR_s (U := U) (W := fun q => q = m) hlm hp f2 ht1 hmb f3 (ufr_t f1 (ufr_u g1)) (by rw [(cc.2.2 c105).1]; exact RN_w g3 (fun x => by rw [List.mem_singleton]; first | done | exact Iff.rfl) (fun q w => w)) (fun q w => by rw [w]; exact ⟨hmb, Or.inl rfl, by rw [cc.1]; omega⟩) (by rw [(cc.2.2 c105).2]; exact UN_w (UN_cg (g1.1 95 (by omega) (by omega)) (g1.2.1 68 43 (by omega)) f5) (fun x => by simp)) f6 f7 f8
          rw [cc.1] at hF
          exact ih (dn ++ (t1 ++ [m])) t2 (-9) r8 σ7 (by simp at hz; omega) hF (nb_split (dn := dn ++ (t1 ++ [m])) hK hlm hp (by rw [f2]; simp) (Or.inr ⟨dn ++ t1, by simp⟩) hr8)
        · have hb9 : ¬ ((ofP σ (pe e) m ∧ σ.1 17 m = 0) ∨ (bnd σ (pe e) m ∧ m ∈ dn ∧ m ≠ o)) := fun w => by rcases w with w | w; have := w.2; omega; exact hnm w.2.1
          have hu9 : ¬ (U m ∨ DU m) := fun w => by rcases w with w | w; exact hUo m w hmb.1; exact hnm (f6 m w).2.1
          refine a_aload_n (pc := 108) (i := 0) (by decide +kernel) rfl ?_
          refine a_iload_n (pc := 109) (i := 3) (by decide +kernel) rfl ?_
          refine b_callV (pc := 110) (c' := 0) (sl' := 0) [j_i m] [] ml_X12_314 (by decide +kernel) rfl rfl (sh_68 hn) rfl rfl (Nat.le_of_ble_eq_true rfl) (j_fitI rfl rfl) (e_unmatch hn (MB_m (ufr_m f1) hB) f4 f5 (by rw [(ufr_m f1).1 69 (by omega)]; omega) hb9 hu9) (fun v n' σ' hq => ?_)
          obtain ⟨rfl, rfl, g1, g2, g3⟩ := hq
          obtain ⟨σ9, hσ9⟩ : ∃ z, z = σ' := ⟨_, rfl⟩
          rw [← hσ9] at g1 g2 g3 ⊢
          clear hσ9
          rw [mfr_pg (ufr_m f1)] at g3
          show j_at _ _ _ [(0, .ref 68), (1, j_i e), (2, j_i o), (3, j_i m)] [] _ _ _ _
          refine a_goto (pc := 113) (off := 28) (tgt := 141) (by decide +kernel) (by decide) ?_
          refine a_aload_n (pc := 141) (i := 0) (by decide +kernel) rfl ?_
          refine a_iload_n (pc := 142) (i := 1) (by decide +kernel) rfl ?_
          refine a_iload_n (pc := 143) (i := 3) (by decide +kernel) rfl ?_
          refine b_callV (pc := 144) (c' := 0) (sl' := 0) [j_i e, j_i m] [] ml_X12_311 (by decide +kernel) rfl rfl (sh_68 hn) rfl rfl (Nat.le_of_ble_eq_true rfl) (j_fitI rfl rfl) (e_nextBound hn (MB_m (ufr_m (ufr_t f1 g1)) hB) (by rw [(ufr_m (ufr_t f1 g1)).2.1 68 25 (by omega)]; omega) (by rw [(ufr_m (ufr_t f1 g1)).1 69 (by omega)]; omega)) (fun v n' σ' hq => ?_)
          obtain ⟨r10, rfl, e1, e2, hr10⟩ := hq
          rw [e1, e2]; clear e1 e2
          rw [(ufr_m (ufr_t f1 g1)).1 69 (by omega), mfr_nb (ufr_m (ufr_t f1 g1))] at hr10
          have rr10 : r10 = -9 ∨ (0 ≤ r10 ∧ r10 < σ.1 69 1382) := by rcases hr10 with w | w; exact Or.inl w.1; exact Or.inr ⟨w.1, w.2.1⟩
          show j_at _ _ _ [(0, .ref 68), (1, j_i e), (2, j_i o), (3, j_i m)] [j_i r10] _ _ _ _
          refine a_istore_n (pc := 147) (i := 3) (lv' := [(0, .ref 68), (1, j_i e), (2, j_i o), (3, j_i r10)]) (by decide +kernel) (Nat.le_of_ble_eq_true rfl) rfl ?_
          refine a_goto (pc := 148) (off := -77) (tgt := 71) (by decide +kernel) (by decide) ?_
          have cc := c_2 (pg := pgM σ) (o := o) (show σ.1 17 m = 2 by omega)
          have hF := FR_s (U := U) (W := fun q => q = m) hlm hp f2 ht1 hmb f3 (ufr_t f1 g1) (by rw [(cc.2.1 c105).1]; exact RN_w g3 (fun x => by rw [List.mem_singleton]; first | done | exact Iff.rfl) (fun q w => w)) (fun q w => by rw [w]; exact ⟨hmb, Or.inl rfl, by rw [cc.1]; omega⟩) (by rw [(cc.2.1 c105).2]; exact UN_w g2 (fun x => by rw [List.mem_singleton]; first | done | exact Iff.rfl)) f6 f7 f8
          rw [cc.1, ← c105] at hF
          exact ih (dn ++ (t1 ++ [m])) t2 o r10 σ9 (by simp at hz; omega) hF (nb_split (dn := dn ++ (t1 ++ [m])) hK hlm hp (by rw [f2]; simp) (Or.inr ⟨dn ++ t1, by simp⟩) hr10)
      · refine a_iload_n (pc := 86) (i := 2) (by decide +kernel) rfl ?_
        refine a_bipush (pc := 87) (n := (-9)) (by decide +kernel) rfl ?_
        refine a_icmp_eq (pc := 89) (off := 8) (tgt := 97) (by decide +kernel) (by decide) (by omega) (by omega) (fun c89 => ?_) (fun c89 => ?_)
        · refine a_iload_n (pc := 97) (i := 3) (by decide +kernel) rfl ?_
          refine a_istore_n (pc := 98) (i := 2) (lv' := [(0, .ref 68), (1, j_i e), (2, j_i m), (3, j_i m)]) (by decide +kernel) (Nat.le_of_ble_eq_true rfl) rfl ?_
          refine a_goto (pc := 99) (off := 42) (tgt := 141) (by decide +kernel) (by decide) ?_
          refine a_aload_n (pc := 141) (i := 0) (by decide +kernel) rfl ?_
          refine a_iload_n (pc := 142) (i := 1) (by decide +kernel) rfl ?_
          refine a_iload_n (pc := 143) (i := 3) (by decide +kernel) rfl ?_
          refine b_callV (pc := 144) (c' := 0) (sl' := 0) [j_i e, j_i m] [] ml_X12_311 (by decide +kernel) rfl rfl (sh_68 hn) rfl rfl (Nat.le_of_ble_eq_true rfl) (j_fitI rfl rfl) (e_nextBound hn (MB_m (ufr_m f1) hB) (by rw [(ufr_m f1).2.1 68 25 (by omega)]; omega) (by rw [(ufr_m f1).1 69 (by omega)]; omega)) (fun v n' σ' hq => ?_)
          obtain ⟨r11, rfl, e1, e2, hr11⟩ := hq
          rw [e1, e2]; clear e1 e2
          rw [(ufr_m f1).1 69 (by omega), mfr_nb (ufr_m f1)] at hr11
          have rr11 : r11 = -9 ∨ (0 ≤ r11 ∧ r11 < σ.1 69 1382) := by rcases hr11 with w | w; exact Or.inl w.1; exact Or.inr ⟨w.1, w.2.1⟩
          show j_at _ _ _ [(0, .ref 68), (1, j_i e), (2, j_i m), (3, j_i m)] [j_i r11] _ _ _ _
          refine a_istore_n (pc := 147) (i := 3) (lv' := [(0, .ref 68), (1, j_i e), (2, j_i m), (3, j_i r11)]) (by decide +kernel) (Nat.le_of_ble_eq_true rfl) rfl ?_
          refine a_goto (pc := 148) (off := -77) (tgt := 71) (by decide +kernel) (by decide) ?_
          have cc := c_1 (pg := pgM σ) (o := o) (show σ.1 17 m = 1 by omega)
          have hF := FR_s (U := U) (W := fun _ => False) hlm hp f2 ht1 hmb f3 f1 (by rw [(cc.2.1 c89).1]; exact RN_w f4 (fun x => by simp) (fun q w => Or.inl w)) (fun q w => w.elim) (by rw [(cc.2.1 c89).2]; exact UN_w f5 (fun x => by simp)) f6 f7 f8
          rw [cc.1] at hF
          exact ih (dn ++ (t1 ++ [m])) t2 m r11 τ (by simp at hz; omega) hF (nb_split (dn := dn ++ (t1 ++ [m])) hK hlm hp (by rw [f2]; simp) (Or.inr ⟨dn ++ t1, by simp⟩) hr11)
        · have hob : o ∈ dn ∧ bnd σ (pe e) o := by rcases f3 with w | w; exact absurd w c89; exact w
          have hb9 : ¬ ((ofP σ (pe e) o ∧ σ.1 17 o = 0) ∨ (bnd σ (pe e) o ∧ o ∈ dn ∧ o ≠ o)) := fun w => by rcases w with w | w; have := w.2; have := hob.2.2; omega; exact w.2.2 rfl
          have hu9 : ¬ (U o ∨ DU o) := fun w => by rcases w with w | w; exact hUo o w hob.2.1; exact (f6 o w).2.2 rfl
          refine a_aload_n (pc := 92) (i := 0) (by decide +kernel) rfl ?_
          refine a_iload_n (pc := 93) (i := 2) (by decide +kernel) rfl ?_
          refine b_callV (pc := 94) (c' := 0) (sl' := 0) [j_i o] [] ml_X12_314 (by decide +kernel) rfl rfl (sh_68 hn) rfl rfl (Nat.le_of_ble_eq_true rfl) (j_fitI rfl rfl) (e_unmatch hn (MB_m (ufr_m f1) hB) f4 f5 (by rw [(ufr_m f1).1 69 (by omega)]; omega) hb9 hu9) (fun v n' σ' hq => ?_)
          obtain ⟨rfl, rfl, g1, g2, g3⟩ := hq
          obtain ⟨σ12, hσ12⟩ : ∃ z, z = σ' := ⟨_, rfl⟩
          rw [← hσ12] at g1 g2 g3 ⊢
          clear hσ12
          rw [mfr_pg (ufr_m f1)] at g3
          show j_at _ _ _ [(0, .ref 68), (1, j_i e), (2, j_i o), (3, j_i m)] [] _ _ _ _
          refine a_iload_n (pc := 97) (i := 3) (by decide +kernel) rfl ?_
          refine a_istore_n (pc := 98) (i := 2) (lv' := [(0, .ref 68), (1, j_i e), (2, j_i m), (3, j_i m)]) (by decide +kernel) (Nat.le_of_ble_eq_true rfl) rfl ?_
          refine a_goto (pc := 99) (off := 42) (tgt := 141) (by decide +kernel) (by decide) ?_
          refine a_aload_n (pc := 141) (i := 0) (by decide +kernel) rfl ?_
          refine a_iload_n (pc := 142) (i := 1) (by decide +kernel) rfl ?_
          refine a_iload_n (pc := 143) (i := 3) (by decide +kernel) rfl ?_
          refine b_callV (pc := 144) (c' := 0) (sl' := 0) [j_i e, j_i m] [] ml_X12_311 (by decide +kernel) rfl rfl (sh_68 hn) rfl rfl (Nat.le_of_ble_eq_true rfl) (j_fitI rfl rfl) (e_nextBound hn (MB_m (ufr_m (ufr_t f1 g1)) hB) (by rw [(ufr_m (ufr_t f1 g1)).2.1 68 25 (by omega)]; omega) (by rw [(ufr_m (ufr_t f1 g1)).1 69 (by omega)]; omega)) (fun v n' σ' hq => ?_)
          obtain ⟨r13, rfl, e1, e2, hr13⟩ := hq
          rw [e1, e2]; clear e1 e2
          rw [(ufr_m (ufr_t f1 g1)).1 69 (by omega), mfr_nb (ufr_m (ufr_t f1 g1))] at hr13
          have rr13 : r13 = -9 ∨ (0 ≤ r13 ∧ r13 < σ.1 69 1382) := by rcases hr13 with w | w; exact Or.inl w.1; exact Or.inr ⟨w.1, w.2.1⟩
          show j_at _ _ _ [(0, .ref 68), (1, j_i e), (2, j_i m), (3, j_i m)] [j_i r13] _ _ _ _
          refine a_istore_n (pc := 147) (i := 3) (lv' := [(0, .ref 68), (1, j_i e), (2, j_i m), (3, j_i r13)]) (by decide +kernel) (Nat.le_of_ble_eq_true rfl) rfl ?_
          refine a_goto (pc := 148) (off := -77) (tgt := 71) (by decide +kernel) (by decide) ?_
          have cc := c_1 (pg := pgM σ) (o := o) (show σ.1 17 m = 1 by omega)
          have hF := FR_s (U := U) (W := fun q => q = o) hlm hp f2 ht1 hmb f3 (ufr_t f1 g1) (by rw [(cc.2.2 c89).1]; exact RN_w g3 (fun x => by rw [List.mem_singleton]; first | done | exact Iff.rfl) (fun q w => w)) (fun q w => by rw [w]; exact ⟨hob.2, Or.inr hob.1, by rw [cc.1]; intro w9; rw [w9] at hob; exact hnm hob.1⟩) (by rw [(cc.2.2 c89).2]; exact UN_w g2 (fun x => by rw [List.mem_singleton]; first | done | exact Iff.rfl)) f6 f7 f8
          rw [cc.1] at hF
          exact ih (dn ++ (t1 ++ [m])) t2 m r13 σ12 (by simp at hz; omega) hF (nb_split (dn := dn ++ (t1 ++ [m])) hK hlm hp (by rw [f2]; simp) (Or.inr ⟨dn ++ t1, by simp⟩) hr13)
def P1 (σ τ : k_St) (p : Int) (U : Int → Prop) (k : Int) : Prop := ufr σ τ ∧ UN τ U ∧ RN τ (fun x => ∃ m, m < k ∧ ofP σ p m ∧ σ.1 17 m = 0 ∧ x = (pgM σ m, pgM σ m)) (fun q => (ofP σ p q ∧ σ.1 17 q = 0) ∧ q < k)
theorem P1_n {σ τ : k_St} {p k : Int} {U : Int → Prop} (h : P1 σ τ p U k) (hk : ¬ (ofP σ p k ∧ σ.1 17 k = 0)) : P1 σ τ p U (k + 1) := by
  refine ⟨h.1, h.2.1, RN_w h.2.2 (fun x => ⟨fun ⟨m, a, b, c⟩ => ⟨m, by omega, b, c⟩, fun ⟨m, a, b, c, d⟩ => ?_⟩) (fun q w => ⟨w.1, by have := w.2; omega⟩)⟩
  by_cases e : m = k
  · rw [e] at b c; exact absurd ⟨b, c⟩ hk
  · exact ⟨m, by omega, b, c, d⟩
theorem P1_y {σ τ τ' : k_St} {p k : Int} {U : Int → Prop} (h : P1 σ τ p U k) (hk : ofP σ p k ∧ σ.1 17 k = 0) (g1 : rfr τ τ') (g2 : RN τ' (fun x => (∃ m, m < k ∧ ofP σ p m ∧ σ.1 17 m = 0 ∧ x = (pgM σ m, pgM σ m)) ∨ x = (pgM σ k, pgM σ k)) (fun q => ((ofP σ p q ∧ σ.1 17 q = 0) ∧ q < k) ∨ q = k)) : P1 σ τ' p U (k + 1) := by
  refine ⟨ufr_t h.1 (ufr_u g1), UN_cg (g1.1 95 (by omega) (by omega)) (g1.2.1 68 43 (by omega)) h.2.1, RN_w g2 (fun x => ⟨fun w => ?_, fun ⟨m, a, b, c, d⟩ => ?_⟩) (fun q w => ?_)⟩
  · rcases w with ⟨m, a, b, c⟩ | w
    · exact ⟨m, by omega, b, c⟩
    · exact ⟨k, by omega, hk.1, hk.2, w⟩
  · by_cases e : m = k
    · rw [e] at d; exact Or.inr d
    · exact Or.inl ⟨m, by omega, b, c, d⟩
  · rcases w with w | w
    · exact ⟨w.1, by have := w.2; omega⟩
    · rw [w]; exact ⟨hk, by omega⟩
theorem P1_FR {σ τ : k_St} {p : Int} {U : Int → Prop} {lm : List Int} (hK : RKept σ) (hlm : ∀ x, x ∈ lm ↔ m_is σ x) (h : P1 σ τ p U (σ.1 69 1382)) : FR σ τ p lm U [] lm (-9) := by
  refine ⟨fun _ => False, fun _ => False, h.1, rfl, Or.inl rfl, RN_w h.2.2 (fun x => ⟨fun ⟨m, a, b⟩ => Or.inl ⟨m, b⟩, fun w => ?_⟩) (fun q w => Or.inl w.1), UN_w h.2.1 (fun x => by simp), fun x w => w.elim, fun x => ⟨fun w => Or.inr (Or.inr w), fun w => ?_⟩, fun x => by simp⟩
  · rcases w with ⟨m, b, c⟩ | w
    · exact ⟨m, (m_is_e hK b.1).2, b, c⟩
    · exact w.elim
  · rcases w with ⟨m, b, c, d⟩ | w | w
    · have key : ∀ (l : List Int) (o : Int), m ∈ l → x ∈ b_ru (σ.1 17) (σ.1 19) (pgM σ) p l o := by
        intro l
        induction l with
        | nil => intro o hm; exact absurd hm (by simp)
        | cons y t ih =>
          intro o hm
          rcases List.mem_cons.mp hm with e | e
          · rw [← e, b_ru_y b.2, List.mem_append]
            left; unfold c_r; rw [if_pos c, d]; simp
          · by_cases q : σ.1 17 y ≤ 5 ∧ σ.1 19 y = p
            · rw [b_ru_y q, List.mem_append]; exact Or.inr (ih _ e)
            · rw [b_ru_n q]; exact ih _ e
      exact key lm (-9) ((hlm m).mpr b.1)
    · exact w.elim
    · exact w
set_option maxHeartbeats 4000000 in
theorem l_fr7 {G : j_G} {X : k_X} {n : Nat} {σ : k_St} (hn : 101 ≤ n) {pe : Int → Int} (hB : MB σ pe) {lm : List Int} {U : Int → Prop} {e : Int} (e0 : 0 ≤ e ∧ e < σ.2.1 68 25) (hlm : ∀ x, x ∈ lm ↔ m_is σ x) (hp : lm.Pairwise (m_lt σ)) (hUo : ∀ x, U x → ¬ ofP σ (pe e) x)  : ∀ (z : Nat) (k : Int) (τ : k_St), 50 - k < (z : Int) → 0 ≤ k → k ≤ σ.1 69 1382 → P1 σ τ (pe e) U k → j_at G mX12_findRuns 7 [(0, .ref 68), (1, j_i e), (2, j_i k)] [] (k_h X n τ) 0 0 (k_Q X (fR_post n σ (pe e) lm U)) := by
  obtain ⟨hK, hP, hfl, hE, hok⟩ := id hB
  have hM := (KR_rg hK.1 hK.2.1).1.2.2
  have hE1 := hE.1
  intro z
  induction z with
  | zero => intro k τ h1 h2 h3; exact absurd h1 (by omega)
  | succ z ih =>
    intro k τ hz k0 kN hI
    refine a_iload_n (pc := 7) (i := 2) (by decide +kernel) rfl ?_
    refine a_aload_n (pc := 8) (i := 0) (by decide +kernel) rfl ?_
    refine b_pureV (pc := 9) [] [j_i k] ml_X12_135 (by decide +kernel) rfl rfl (sh_68 hn) rfl rfl (Nat.le_of_ble_eq_true rfl) (j_fitI rfl rfl) (s_dmarksEver hn) ?_
    rw [show τ.1 69 = σ.1 69 from (ufr_m hI.1).1 69 (by omega)]
    show j_at _ _ _ [(0, .ref 68), (1, j_i e), (2, j_i k)] [j_i (σ.1 69 1382), j_i k] _ _ _ _
    refine a_icmp_ge (pc := 12) (off := 48) (tgt := 60) (by decide +kernel) (by decide) (by omega) (by omega) (fun c12 => ?_) (fun c12 => ?_)
    · rw [show k = σ.1 69 1382 by omega] at hI
      refine a_bipush (pc := 60) (n := (-9)) (by decide +kernel) rfl ?_
      refine a_istore_n (pc := 62) (i := 2) (lv' := [(0, .ref 68), (1, j_i e), (2, j_i (-9))]) (by decide +kernel) (Nat.le_of_ble_eq_true rfl) rfl ?_
      refine a_aload_n (pc := 63) (i := 0) (by decide +kernel) rfl ?_
      refine a_iload_n (pc := 64) (i := 1) (by decide +kernel) rfl ?_
      refine a_bipush (pc := 65) (n := (-9)) (by decide +kernel) rfl ?_
      refine b_callV (pc := 67) (c' := 0) (sl' := 0) [j_i e, j_i (-9)] [] ml_X12_311 (by decide +kernel) rfl rfl (sh_68 hn) rfl rfl (Nat.le_of_ble_eq_true rfl) (j_fitI rfl rfl) (e_nextBound hn (MB_m (ufr_m hI.1) hB) (by rw [(ufr_m hI.1).2.1 68 25 (by omega)]; omega) (by rw [(ufr_m hI.1).1 69 (by omega)]; omega)) (fun v n' σ' hq => ?_)
      obtain ⟨r1, rfl, e1, e2, hr1⟩ := hq
      rw [e1, e2]; clear e1 e2
      rw [(ufr_m hI.1).1 69 (by omega), mfr_nb (ufr_m hI.1)] at hr1
      have rr1 : r1 = -9 ∨ (0 ≤ r1 ∧ r1 < σ.1 69 1382) := by rcases hr1 with w | w; exact Or.inl w.1; exact Or.inr ⟨w.1, w.2.1⟩
      show j_at _ _ _ [(0, .ref 68), (1, j_i e), (2, j_i (-9))] [j_i r1] _ _ _ _
      refine a_istore_n (pc := 70) (i := 3) (lv' := [(0, .ref 68), (1, j_i e), (2, j_i (-9)), (3, j_i r1)]) (by decide +kernel) (Nat.le_of_ble_eq_true rfl) rfl ?_
      exact l_fr71 hn hB e0 hlm hp hUo (lm.length + 1) [] lm (-9) r1 τ (by omega) (P1_FR hK hlm hI) (nb_split hK hlm hp rfl (Or.inl ⟨rfl, rfl⟩) hr1)
    · refine a_aload_n (pc := 15) (i := 0) (by decide +kernel) rfl ?_
      refine a_iload_n (pc := 16) (i := 2) (by decide +kernel) rfl ?_
      refine a_iload_n (pc := 17) (i := 1) (by decide +kernel) rfl ?_
      refine b_callV (pc := 18) (c' := 0) (sl' := 0) [j_i k, j_i e] [] ml_X12_304 (by decide +kernel) rfl rfl (sh_68 hn) rfl rfl (Nat.le_of_ble_eq_true rfl) (j_fitI rfl rfl) (e_isOf hn (MB_m (ufr_m hI.1) hB) (by omega) (by rw [(ufr_m hI.1).2.1 68 25 (by omega)]; omega)) (fun v n' σ' hq => ?_)
      obtain ⟨x, rfl, e1, e2, hx⟩ := hq
      rw [e1, e2]; clear e1 e2
      rcases hx with ⟨rfl, p18⟩ | ⟨rfl, p18⟩
      · show j_at _ _ _ [(0, .ref 68), (1, j_i e), (2, j_i k)] [j_i 1] _ _ _ _
        rw [mfr_of (ufr_m hI.1)] at p18
        refine a_if_eq (pc := 21) (off := 33) (tgt := 54) (by decide +kernel) (by decide) (by omega) (fun c21 => ?_) (fun c21 => ?_)
        · exact absurd c21 (by decide)
        · refine a_aload_n (pc := 24) (i := 0) (by decide +kernel) rfl ?_
          refine a_iload_n (pc := 25) (i := 2) (by decide +kernel) rfl ?_
          refine b_pureV (pc := 26) [j_i k] [] ml_X12_257 (by decide +kernel) rfl rfl (sh_68 hn) rfl rfl (Nat.le_of_ble_eq_true rfl) (j_fitI rfl rfl) (b_kind hn (MB_m (ufr_m hI.1) hB).1 (by omega) (by rw [(ufr_m hI.1).1 69 (by omega)]; omega)) ?_
          rw [show τ.1 17 = σ.1 17 from (ufr_m hI.1).1 17 (by omega)]
          have q2 := b_rg hB.1 (m := k) (by omega) (by omega)
          show j_at _ _ _ [(0, .ref 68), (1, j_i e), (2, j_i k)] [j_i (σ.1 17 k)] _ _ _ _
          refine a_if_ne (pc := 29) (off := 25) (tgt := 54) (by decide +kernel) (by decide) (by omega) (fun c29 => ?_) (fun c29 => ?_)
          · refine a_iinc (pc := 54) (i := 2) (n := 1) (x := k) (lv' := [(0, .ref 68), (1, j_i e), (2, j_i (k + 1))]) (by decide +kernel) rfl (Nat.le_of_ble_eq_true rfl) rfl ?_
            refine a_goto (pc := 57) (off := -50) (tgt := 7) (by decide +kernel) (by decide) ?_
            exact ih (k + 1) τ (by omega) (by omega) (by omega) (P1_n hI (fun w => by first | exact p18 w.1 | exact c29 w.2))
          · refine a_aload_n (pc := 32) (i := 0) (by decide +kernel) rfl ?_
            refine a_aload_n (pc := 33) (i := 0) (by decide +kernel) rfl ?_
            refine a_aload_n (pc := 34) (i := 0) (by decide +kernel) rfl ?_
            refine a_iload_n (pc := 35) (i := 2) (by decide +kernel) rfl ?_
            refine b_pureV (pc := 36) [j_i k] [.ref 68, .ref 68] ml_X12_266 (by decide +kernel) rfl rfl (sh_68 hn) rfl rfl (Nat.le_of_ble_eq_true rfl) (j_fitI rfl rfl) (b_gap hn (MB_m (ufr_m hI.1) hB).1 (by omega) (by rw [(ufr_m hI.1).1 69 (by omega)]; omega)) ?_
            rw [show τ.1 18 = σ.1 18 from (ufr_m hI.1).1 18 (by omega)]
            have q3 := b_rg hB.1 (m := k) (by omega) (by omega)
            show j_at _ _ _ [(0, .ref 68), (1, j_i e), (2, j_i k)] [j_i (σ.1 18 k), .ref 68, .ref 68] _ _ _ _
            refine b_pureV (pc := 39) [j_i (σ.1 18 k)] [.ref 68] ml_X12_272 (by decide +kernel) rfl rfl (sh_68 hn) rfl rfl (Nat.le_of_ble_eq_true rfl) (j_fitI rfl rfl) (b_page hn (MB_m (ufr_m hI.1) hB) (by omega)) ?_
            rw [show τ.2.1 68 11 = σ.2.1 68 11 from (ufr_m hI.1).2.1 68 11 (by omega)]
            have qp4 := f_page_in (g := σ.1 18 k) (f := σ.2.1 68 11) (by omega)
            show j_at _ _ _ [(0, .ref 68), (1, j_i e), (2, j_i k)] [j_i (f_page (σ.1 18 k) (σ.2.1 68 11)), .ref 68] _ _ _ _
            refine a_aload_n (pc := 42) (i := 0) (by decide +kernel) rfl ?_
            refine a_aload_n (pc := 43) (i := 0) (by decide +kernel) rfl ?_
            refine a_iload_n (pc := 44) (i := 2) (by decide +kernel) rfl ?_
            refine b_pureV (pc := 45) [j_i k] [.ref 68, j_i (f_page (σ.1 18 k) (σ.2.1 68 11)), .ref 68] ml_X12_266 (by decide +kernel) rfl rfl (sh_68 hn) rfl rfl (Nat.le_of_ble_eq_true rfl) (j_fitI rfl rfl) (b_gap hn (MB_m (ufr_m hI.1) hB).1 (by omega) (by rw [(ufr_m hI.1).1 69 (by omega)]; omega)) ?_
            rw [show τ.1 18 = σ.1 18 from (ufr_m hI.1).1 18 (by omega)]
            have q5 := b_rg hB.1 (m := k) (by omega) (by omega)
            show j_at _ _ _ [(0, .ref 68), (1, j_i e), (2, j_i k)] [j_i (σ.1 18 k), .ref 68, j_i (f_page (σ.1 18 k) (σ.2.1 68 11)), .ref 68] _ _ _ _
            refine b_pureV (pc := 48) [j_i (σ.1 18 k)] [j_i (f_page (σ.1 18 k) (σ.2.1 68 11)), .ref 68] ml_X12_272 (by decide +kernel) rfl rfl (sh_68 hn) rfl rfl (Nat.le_of_ble_eq_true rfl) (j_fitI rfl rfl) (b_page hn (MB_m (ufr_m hI.1) hB) (by omega)) ?_
            rw [show τ.2.1 68 11 = σ.2.1 68 11 from (ufr_m hI.1).2.1 68 11 (by omega)]
            have qp6 := f_page_in (g := σ.1 18 k) (f := σ.2.1 68 11) (by omega)
            show j_at _ _ _ [(0, .ref 68), (1, j_i e), (2, j_i k)] [j_i (f_page (σ.1 18 k) (σ.2.1 68 11)), j_i (f_page (σ.1 18 k) (σ.2.1 68 11)), .ref 68] _ _ _ _
            refine b_callV (pc := 51) (c' := 0) (sl' := 0) [j_i (f_page (σ.1 18 k) (σ.2.1 68 11)), j_i (f_page (σ.1 18 k) (σ.2.1 68 11))] [] ml_X12_300 (by decide +kernel) rfl rfl (sh_68 hn) rfl rfl (Nat.le_of_ble_eq_true rfl) (j_fitI rfl rfl) (e_addRun (m := k) hn hI.2.2 (by omega) (by omega) (fun w => by have := w.2; omega)) (fun v n' σ' hq => ?_)
            obtain ⟨rfl, rfl, g1, g2⟩ := hq
            obtain ⟨σ7, hσ7⟩ : ∃ z, z = σ' := ⟨_, rfl⟩
            rw [← hσ7] at g1 g2 ⊢
            clear hσ7
            show j_at _ _ _ [(0, .ref 68), (1, j_i e), (2, j_i k)] [] _ _ _ _
            refine a_iinc (pc := 54) (i := 2) (n := 1) (x := k) (lv' := [(0, .ref 68), (1, j_i e), (2, j_i (k + 1))]) (by decide +kernel) rfl (Nat.le_of_ble_eq_true rfl) rfl ?_
            refine a_goto (pc := 57) (off := -50) (tgt := 7) (by decide +kernel) (by decide) ?_
            exact ih (k + 1) σ7 (by omega) (by omega) (by omega) (P1_y hI ⟨p18, by omega⟩ g1 g2)
      · show j_at _ _ _ [(0, .ref 68), (1, j_i e), (2, j_i k)] [j_i 0] _ _ _ _
        rw [mfr_of (ufr_m hI.1)] at p18
        refine a_if_eq (pc := 21) (off := 33) (tgt := 54) (by decide +kernel) (by decide) (by omega) (fun c21 => ?_) (fun c21 => ?_)
        · refine a_iinc (pc := 54) (i := 2) (n := 1) (x := k) (lv' := [(0, .ref 68), (1, j_i e), (2, j_i (k + 1))]) (by decide +kernel) rfl (Nat.le_of_ble_eq_true rfl) rfl ?_
          refine a_goto (pc := 57) (off := -50) (tgt := 7) (by decide +kernel) (by decide) ?_
          exact ih (k + 1) τ (by omega) (by omega) (by omega) (P1_n hI (fun w => by first | exact p18 w.1 | exact c29 w.2))
        · exact absurd c21 (by decide)
set_option maxHeartbeats 4000000 in
theorem e_findRuns {G : j_G} {X : k_X} {n : Nat} {σ : k_St} (hn : 101 ≤ n) {pe : Int → Int} (hB : MB σ pe) {lm : List Int} {U : Int → Prop} {e : Int} (e0 : 0 ≤ e ∧ e < σ.2.1 68 25) (hlm : ∀ x, x ∈ lm ↔ m_is σ x) (hp : lm.Pairwise (m_lt σ)) (hUo : ∀ x, U x → ¬ ofP σ (pe e) x) (hU : UN σ U) : k_run G X mX12_findRuns [.ref 68, j_i e] n σ 0 0 (fR_post n σ (pe e) lm U) := by
  obtain ⟨hK, hP, hfl, hE, hok⟩ := id hB
  have hM := (KR_rg hK.1 hK.2.1).1.2.2
  have hE1 := hE.1
  refine k_enter (by decide +kernel) (Nat.le_of_ble_eq_true rfl) ?_
  show j_at _ _ _ [(0, .ref 68), (1, j_i e)] [] _ _ _ _
  refine a_aload_n (pc := 0) (i := 0) (by decide +kernel) rfl ?_
  refine a_iconst (pc := 1) (n := 0) (by decide +kernel) ?_
  refine b_putI (pc := 2) fl_X12_294 (by decide +kernel) (sh_68 hn) rfl rfl rfl ?_
  obtain ⟨σ1, hσ1⟩ : ∃ z, z = k_sI σ 68 48 0 := ⟨_, rfl⟩
  rw [← hσ1]
  refine a_iconst (pc := 5) (n := 0) (by decide +kernel) ?_
  refine a_istore_n (pc := 6) (i := 2) (lv' := [(0, .ref 68), (1, j_i e), (2, j_i 0)]) (by decide +kernel) (Nat.le_of_ble_eq_true rfl) rfl ?_
  exact l_fr7 hn hB e0 hlm hp hUo 52 0 σ1 (by omega) (by omega) (by omega) ⟨⟨fun c _ _ _ => by rw [hσ1]; rfl, fun c j q => by rw [hσ1, k_IN (by omega)], by rw [hσ1]; rfl⟩, UN_cg (by rw [hσ1]; rfl) (by rw [hσ1, k_IN (by omega)]) hU, RN_w (RN0_0 (by rw [hσ1, k_II])) (fun x => ⟨fun w => w.elim, fun ⟨m, a, b, _⟩ => by have := b.1.1; omega⟩) (fun q w => w.elim)⟩
