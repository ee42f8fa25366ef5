/-- a yes or no as a number -/
noncomputable def bi (P : Prop) : Int := @ite _ P (Classical.propDecidable P) 1 0
theorem bi_y {P : Prop} (h : P) : bi P = 1 := if_pos h
theorem bi_n {P : Prop} (h : ¬ P) : bi P = 0 := if_neg h
theorem bi_c {P Q : Prop} (h : P ↔ Q) : bi P = bi Q := by rw [propext h]
theorem bi_1 {P : Prop} : bi P = 1 ↔ P := by
  by_cases h : P
  · rw [bi_y h]; simp [h]
  · rw [bi_n h]; simp [h]
theorem bi_r (P : Prop) : bi P = 0 ∨ bi P = 1 := by
  by_cases h : P
  · exact Or.inr (bi_y h)
  · exact Or.inl (bi_n h)
/-- but for scratch cells -/
def scr (σ τ : k_St) : Prop := (∀ c, ¬ (c = 29 ∨ c = 42 ∨ c = 44 ∨ c = 46 ∨ c = 47 ∨ (78 ≤ c ∧ c ≤ 80) ∨ (88 ≤ c ∧ c ≤ 94) ∨ (98 ≤ c ∧ c ≤ 100)) → τ.1 c = σ.1 c) ∧ (∀ c j, ¬ (c = 37 ∨ c = 38 ∨ (c = 24 ∧ j = 6) ∨ c = 39 ∨ c = 45 ∨ (c = 68 ∧ ((20 ≤ j ∧ j ≤ 24) ∨ j = 35 ∨ j = 48))) → τ.2.1 c j = σ.2.1 c j) ∧ τ.2.2 = σ.2.2
theorem scr_r {σ : k_St} : scr σ σ := ⟨fun _ _ => rfl, fun _ _ _ => rfl, rfl⟩
theorem scr_t {σ τ ρ : k_St} (h : scr σ τ) (g : scr τ ρ) : scr σ ρ := ⟨fun c q => (g.1 c q).trans (h.1 c q), fun c j q => (g.2.1 c j q).trans (h.2.1 c j q), g.2.2.trans h.2.2⟩
/-- but for scratch cells and the small fields -/
def scs (σ τ : k_St) : Prop := (∀ c, ¬ (c = 29 ∨ c = 42 ∨ c = 44 ∨ c = 46 ∨ c = 47 ∨ (78 ≤ c ∧ c ≤ 80) ∨ (88 ≤ c ∧ c ≤ 94) ∨ (98 ≤ c ∧ c ≤ 100)) → τ.1 c = σ.1 c) ∧ (∀ c j, ¬ (c = 37 ∨ c = 38 ∨ (c = 24 ∧ j = 6) ∨ c = 39 ∨ c = 45 ∨ (c = 68 ∧ ((20 ≤ j ∧ j ≤ 24) ∨ j = 35 ∨ j = 48))) → ¬ (c = 5 ∧ 10 ≤ j ∧ j ≤ 14) → ¬ (c = 68 ∧ (j = 0 ∨ j = 1 ∨ j = 11 ∨ j = 52 ∨ j = 53)) → τ.2.1 c j = σ.2.1 c j) ∧ τ.2.2 = σ.2.2
theorem RR_scs {n : Nat} {σ τ : k_St} (h : scs σ τ) (hs : RSmall τ) (hR : RR n σ) : RR n τ := by
  obtain ⟨h1, h2, h3⟩ := h
  obtain ⟨r1, r2, r3, r4, r5, r6, r7⟩ := hR
  refine ⟨RKept_cg (fun c _ _ => h1 c (by omega)) (fun c j _ _ => h2 c j (by omega) (by omega) (by omega)) (h1 69 (by omega)) r1, RActs_cg (fun c _ => h1 c (by omega)) (fun c j _ => h2 c j (by omega) (by omega) (by omega)) (by rw [h3]) r2, RName_cg (h1 _ (by omega)) (h1 _ (by omega)) (h1 _ (by omega)) (h2 _ _ (by omega) (by omega) (by omega)) r3, RPass_cg (h1 _ (by omega)) (h1 _ (by omega)) (h1 _ (by omega)) (h1 _ (by omega)) (h2 _ _ (by omega) (by omega) (by omega)) (h2 _ _ (by omega) (by omega) (by omega)) r4, RPart_cg (fun c _ _ => h1 c (by omega)) (fun c _ _ => h1 c (by omega)) (h2 _ _ (by omega) (by omega) (by omega)) (h2 _ _ (by omega) (by omega) (by omega)) r5, hs, RIdx_cg (fun c _ _ _ => h1 c (by omega)) (fun c j _ => h2 c j (by omega) (by omega) (by omega)) (fun c _ => h1 c (by omega)) (fun j _ => h2 68 j (by omega) (by omega) (by omega)) (by rw [h3]) r7⟩
theorem RR_scr {n : Nat} {σ τ : k_St} (h : scr σ τ) (hR : RR n σ) : RR n τ :=
  RR_scs ⟨h.1, fun c j q _ _ => h.2.1 c j q, h.2.2⟩ (RSmall_cg (fun j _ _ => h.2.1 5 j (by omega)) (fun j _ => h.2.1 68 j (by omega)) hR.2.2.2.2.2.1) hR
theorem RK_h {n : Nat} {σ : k_St} (hR : RR n σ) (h : Int) : d_is σ h ↔ h_is σ h := by
  obtain ⟨k1, k2, _⟩ := hR.1
  have e : σ.2.1 8 3 = σ.1 69 301 := k2.2.1.1
  unfold d_is h_is
  rw [e]
  constructor
  · rintro ⟨h0, h1, h2⟩
    have q : σ.1 15 h = 1 - σ.1 69 (302 + 36 * h) := (k2.2.1.2 h h0 h1).1
    exact ⟨h0, h1, by omega⟩
  · rintro ⟨h0, h1, h2⟩
    have q : σ.1 15 h = 1 - σ.1 69 (302 + 36 * h) := (k2.2.1.2 h h0 h1).1
    exact ⟨h0, h1, by omega⟩
theorem RK_m {n : Nat} {σ : k_St} (hR : RR n σ) (m : Int) : d_ms σ m ↔ m_is σ m := by
  obtain ⟨k1, k2, _⟩ := hR.1
  have e : σ.2.1 16 5 = σ.1 69 1382 := k2.2.2.1
  unfold d_ms m_is
  rw [e]
  constructor
  · rintro ⟨h0, h1, h2⟩
    have q : σ.1 21 m = 1 - σ.1 69 (1383 + 7 * m) := (k2.2.2.2 m h0 h1).1
    exact ⟨h0, h1, by omega⟩
  · rintro ⟨h0, h1, h2⟩
    have q : σ.1 21 m = 1 - σ.1 69 (1383 + 7 * m) := (k2.2.2.2 m h0 h1).1
    exact ⟨h0, h1, by omega⟩
set_option maxHeartbeats 4000000 in
theorem c_pageCount {G : j_G} {X : k_X} {n : Nat} {σ : k_St} (hR : RR n σ)  : k_run G X mX11_pageCount [.ref 5] n σ 0 0 (k_is n σ (some (j_i (f_page (σ.2.1 6 1) (σ.2.1 5 10) + 1)))) := by
  obtain ⟨hK, hAc, hNm, hPs, hPt, hSm, hIx⟩ := id hR
  have hn := RR_n hR
  have hk := hK.1
  have hwh : h_wf σ 8 := hk.2.1
  have hwm : m_wf σ 16 := hk.2.2
  have hW : 0 ≤ σ.2.1 6 1 ∧ σ.2.1 6 1 ≤ 300 := hk.1
  have hfl := hSm.1
  refine k_enter (by decide +kernel) (Nat.le_of_ble_eq_true rfl) ?_
  show j_at _ _ _ [(0, .ref 5)] [] _ _ _ _
  refine a_aload_n (pc := 0) (i := 0) (by decide +kernel) rfl ?_
  refine b_getR (pc := 1) (b := 6) fl_X11_12 (by decide +kernel) (sh_5 hn) rfl ?_
  refine b_getI (pc := 4) fl_X11_95 (by decide +kernel) (sh_6 hn) rfl ?_
  refine a_aload_n (pc := 7) (i := 0) (by decide +kernel) rfl ?_
  refine b_getI (pc := 8) fl_X11_75 (by decide +kernel) (sh_5 hn) rfl ?_
  refine b_pureS (pc := 11) [j_i (σ.2.1 6 1), j_i (σ.2.1 5 10)] [] ml_X11_254 (by decide +kernel) rfl rfl (Nat.le_of_ble_eq_true rfl) (j_fitI rfl rfl) (s_pageOfGap (by omega) (by omega)) ?_
  show j_at _ _ _ [(0, .ref 5)] [j_i (f_page (σ.2.1 6 1) (σ.2.1 5 10))] _ _ _ _
  refine a_iconst (pc := 14) (n := 1) (by decide +kernel) ?_
  refine a_iadd (pc := 15) (by decide +kernel) ?_
  refine a_ireturn (pc := 16) (by decide +kernel) rfl ?_
  refine k_ret ?_
  exact ⟨rfl, rfl, rfl⟩
set_option maxHeartbeats 4000000 in
theorem c_hasPage {G : j_G} {X : k_X} {n : Nat} {σ : k_St} (hR : RR n σ) {p : Int} (hp : -2147483648 ≤ p ∧ p ≤ 2147483647)  : k_run G X mX11_hasPage [.ref 5, j_i p] n σ 0 0 (k_b n σ (0 ≤ p ∧ p < f_page (σ.2.1 6 1) (σ.2.1 5 10) + 1)) := by
  obtain ⟨hK, hAc, hNm, hPs, hPt, hSm, hIx⟩ := id hR
  have hn := RR_n hR
  have hk := hK.1
  have hwh : h_wf σ 8 := hk.2.1
  have hwm : m_wf σ 16 := hk.2.2
  have hW : 0 ≤ σ.2.1 6 1 ∧ σ.2.1 6 1 ≤ 300 := hk.1
  have hfl := hSm.1
  refine k_enter (by decide +kernel) (Nat.le_of_ble_eq_true rfl) ?_
  show j_at _ _ _ [(0, .ref 5), (1, j_i p)] [] _ _ _ _
  refine a_iload_n (pc := 0) (i := 1) (by decide +kernel) rfl ?_
  refine a_if_lt (pc := 1) (off := 15) (tgt := 16) (by decide +kernel) (by decide) (by omega) (fun c1 => ?_) (fun c1 => ?_)
  · refine a_iconst (pc := 16) (n := 0) (by decide +kernel) ?_
    refine a_zreturn (pc := 17) (by decide +kernel) rfl (by omega) ?_
    refine k_ret ?_
    exact k_bn (by omega)
  · refine a_iload_n (pc := 4) (i := 1) (by decide +kernel) rfl ?_
    refine a_aload_n (pc := 5) (i := 0) (by decide +kernel) rfl ?_
    refine b_pureV (pc := 6) [] [j_i p] ml_X11_147 (by decide +kernel) rfl rfl (sh_5 hn) rfl rfl (Nat.le_of_ble_eq_true rfl) (j_fitI rfl rfl) (c_pageCount hR) ?_
    have qp := f_page_in (f := σ.2.1 5 10) hW
    show j_at _ _ _ [(0, .ref 5), (1, j_i p)] [j_i (f_page (σ.2.1 6 1) (σ.2.1 5 10) + 1), j_i p] _ _ _ _
    refine a_icmp_ge (pc := 9) (off := 7) (tgt := 16) (by decide +kernel) (by decide) (by omega) (by omega) (fun c9 => ?_) (fun c9 => ?_)
    · refine a_iconst (pc := 16) (n := 0) (by decide +kernel) ?_
      refine a_zreturn (pc := 17) (by decide +kernel) rfl (by omega) ?_
      refine k_ret ?_
      exact k_bn (by omega)
    · refine a_iconst (pc := 12) (n := 1) (by decide +kernel) ?_
      refine a_goto (pc := 13) (off := 4) (tgt := 17) (by decide +kernel) (by decide) ?_
      refine a_zreturn (pc := 17) (by decide +kernel) rfl (by omega) ?_
      refine k_ret ?_
      exact k_by (by omega)
set_option maxHeartbeats 4000000 in
theorem c_hasHeads {G : j_G} {X : k_X} {n : Nat} {σ : k_St} (hR : RR n σ) {a : Int} (ha : -2147483648 ≤ a ∧ a ≤ 2147483647) {b : Int} (hb : -2147483648 ≤ b ∧ b ≤ 2147483647) {c : Int} (hc : -2147483648 ≤ c ∧ c ≤ 2147483647)  : k_run G X mX11_hasHeads [.ref 5, j_i a, j_i b, j_i c] n σ 0 0 (k_b n σ (h_is σ a ∧ (b = -9 ∨ h_is σ b) ∧ (c = -9 ∨ h_is σ c))) := by
  obtain ⟨hK, hAc, hNm, hPs, hPt, hSm, hIx⟩ := id hR
  have hn := RR_n hR
  have hk := hK.1
  have hwh : h_wf σ 8 := hk.2.1
  have hwm : m_wf σ 16 := hk.2.2
  have hW : 0 ≤ σ.2.1 6 1 ∧ σ.2.1 6 1 ≤ 300 := hk.1
  have hfl := hSm.1
  refine k_enter (by decide +kernel) (Nat.le_of_ble_eq_true rfl) ?_
  show j_at _ _ _ [(0, .ref 5), (1, j_i a), (2, j_i b), (3, j_i c)] [] _ _ _ _
  refine a_aload_n (pc := 0) (i := 0) (by decide +kernel) rfl ?_
  refine b_getR (pc := 1) (b := 8) fl_X11_20 (by decide +kernel) (sh_5 hn) rfl ?_
  refine a_iload_n (pc := 4) (i := 1) (by decide +kernel) rfl ?_
  refine b_callV (pc := 5) (c' := 0) (sl' := 0) [j_i a] [] ml_X11_180 (by decide +kernel) rfl rfl (sh_8 hn) rfl rfl (Nat.le_of_ble_eq_true rfl) (j_fitI rfl rfl) (s_hhas hn hwh (by omega)) (fun v n' σ' hq => ?_)
  obtain ⟨x, rfl, e1, e2, hx⟩ := hq
  rw [e1, e2]; clear e1 e2
  rcases hx with ⟨rfl, p5⟩ | ⟨rfl, p5⟩
  · show j_at _ _ _ [(0, .ref 5), (1, j_i a), (2, j_i b), (3, j_i c)] [j_i 1] _ _ _ _
    have i5 := bi_y p5
    have u5 := p5.1
    have w5 := p5.2.1
    refine a_if_eq (pc := 8) (off := 41) (tgt := 49) (by decide +kernel) (by decide) (by omega) (fun c8 => ?_) (fun c8 => ?_)
    · exact absurd c8 (by decide)
    · refine a_iload_n (pc := 11) (i := 2) (by decide +kernel) rfl ?_
      refine a_bipush (pc := 12) (n := (-9)) (by decide +kernel) rfl ?_
      refine a_icmp_eq (pc := 14) (off := 14) (tgt := 28) (by decide +kernel) (by decide) (by omega) (by omega) (fun c14 => ?_) (fun c14 => ?_)
      · refine a_iload_n (pc := 28) (i := 3) (by decide +kernel) rfl ?_
        refine a_bipush (pc := 29) (n := (-9)) (by decide +kernel) rfl ?_
        refine a_icmp_eq (pc := 31) (off := 14) (tgt := 45) (by decide +kernel) (by decide) (by omega) (by omega) (fun c31 => ?_) (fun c31 => ?_)
        · refine a_iconst (pc := 45) (n := 1) (by decide +kernel) ?_
          refine a_goto (pc := 46) (off := 4) (tgt := 50) (by decide +kernel) (by decide) ?_
          refine a_zreturn (pc := 50) (by decide +kernel) rfl (by omega) ?_
          refine k_ret ?_
          exact k_by (by simp only [*, true_and, and_true, or_true, true_or, false_and, and_false, or_false, false_or, not_false_eq_true, not_true_eq_false])
        · refine a_aload_n (pc := 34) (i := 0) (by decide +kernel) rfl ?_
          refine b_getR (pc := 35) (b := 8) fl_X11_20 (by decide +kernel) (sh_5 hn) rfl ?_
          refine a_iload_n (pc := 38) (i := 3) (by decide +kernel) rfl ?_
          refine b_callV (pc := 39) (c' := 0) (sl' := 0) [j_i c] [] ml_X11_180 (by decide +kernel) rfl rfl (sh_8 hn) rfl rfl (Nat.le_of_ble_eq_true rfl) (j_fitI rfl rfl) (s_hhas hn hwh (by omega)) (fun v n' σ' hq => ?_)
          obtain ⟨x, rfl, e1, e2, hx⟩ := hq
          rw [e1, e2]; clear e1 e2
          rcases hx with ⟨rfl, p39⟩ | ⟨rfl, p39⟩
          · show j_at _ _ _ [(0, .ref 5), (1, j_i a), (2, j_i b), (3, j_i c)] [j_i 1] _ _ _ _
            have i39 := bi_y p39
            have u39 := p39.1
            have w39 := p39.2.1
            refine a_if_eq (pc := 42) (off := 7) (tgt := 49) (by decide +kernel) (by decide) (by omega) (fun c42 => ?_) (fun c42 => ?_)
            · exact absurd c42 (by decide)
            · refine a_iconst (pc := 45) (n := 1) (by decide +kernel) ?_
              refine a_goto (pc := 46) (off := 4) (tgt := 50) (by decide +kernel) (by decide) ?_
              refine a_zreturn (pc := 50) (by decide +kernel) rfl (by omega) ?_
              refine k_ret ?_
              exact k_by (by simp only [*, true_and, and_true, or_true, true_or, false_and, and_false, or_false, false_or, not_false_eq_true, not_true_eq_false])
          · show j_at _ _ _ [(0, .ref 5), (1, j_i a), (2, j_i b), (3, j_i c)] [j_i 0] _ _ _ _
            have i39 := bi_n p39
            refine a_if_eq (pc := 42) (off := 7) (tgt := 49) (by decide +kernel) (by decide) (by omega) (fun c42 => ?_) (fun c42 => ?_)
            · refine a_iconst (pc := 49) (n := 0) (by decide +kernel) ?_
              refine a_zreturn (pc := 50) (by decide +kernel) rfl (by omega) ?_
              refine k_ret ?_
              exact k_bn (by simp only [*, true_and, and_true, or_true, true_or, false_and, and_false, or_false, false_or, not_false_eq_true, not_true_eq_false])
            · exact absurd c42 (by decide)
      · refine a_aload_n (pc := 17) (i := 0) (by decide +kernel) rfl ?_
        refine b_getR (pc := 18) (b := 8) fl_X11_20 (by decide +kernel) (sh_5 hn) rfl ?_
        refine a_iload_n (pc := 21) (i := 2) (by decide +kernel) rfl ?_
        refine b_callV (pc := 22) (c' := 0) (sl' := 0) [j_i b] [] ml_X11_180 (by decide +kernel) rfl rfl (sh_8 hn) rfl rfl (Nat.le_of_ble_eq_true rfl) (j_fitI rfl rfl) (s_hhas hn hwh (by omega)) (fun v n' σ' hq => ?_)
        obtain ⟨x, rfl, e1, e2, hx⟩ := hq
        rw [e1, e2]; clear e1 e2
        rcases hx with ⟨rfl, p22⟩ | ⟨rfl, p22⟩
        · show j_at _ _ _ [(0, .ref 5), (1, j_i a), (2, j_i b), (3, j_i c)] [j_i 1] _ _ _ _
          have i22 := bi_y p22
          have u22 := p22.1
          have w22 := p22.2.1
          refine a_if_eq (pc := 25) (off := 24) (tgt := 49) (by decide +kernel) (by decide) (by omega) (fun c25 => ?_) (fun c25 => ?_)
          · exact absurd c25 (by decide)
          · refine a_iload_n (pc := 28) (i := 3) (by decide +kernel) rfl ?_
            refine a_bipush (pc := 29) (n := (-9)) (by decide +kernel) rfl ?_
            refine a_icmp_eq (pc := 31) (off := 14) (tgt := 45) (by decide +kernel) (by decide) (by omega) (by omega) (fun c31 => ?_) (fun c31 => ?_)
            · refine a_iconst (pc := 45) (n := 1) (by decide +kernel) ?_
              refine a_goto (pc := 46) (off := 4) (tgt := 50) (by decide +kernel) (by decide) ?_
              refine a_zreturn (pc := 50) (by decide +kernel) rfl (by omega) ?_
              refine k_ret ?_
              exact k_by (by simp only [*, true_and, and_true, or_true, true_or, false_and, and_false, or_false, false_or, not_false_eq_true, not_true_eq_false])
            · refine a_aload_n (pc := 34) (i := 0) (by decide +kernel) rfl ?_
              refine b_getR (pc := 35) (b := 8) fl_X11_20 (by decide +kernel) (sh_5 hn) rfl ?_
              refine a_iload_n (pc := 38) (i := 3) (by decide +kernel) rfl ?_
              refine b_callV (pc := 39) (c' := 0) (sl' := 0) [j_i c] [] ml_X11_180 (by decide +kernel) rfl rfl (sh_8 hn) rfl rfl (Nat.le_of_ble_eq_true rfl) (j_fitI rfl rfl) (s_hhas hn hwh (by omega)) (fun v n' σ' hq => ?_)
              obtain ⟨x, rfl, e1, e2, hx⟩ := hq
              rw [e1, e2]; clear e1 e2
              rcases hx with ⟨rfl, p39⟩ | ⟨rfl, p39⟩
              · show j_at _ _ _ [(0, .ref 5), (1, j_i a), (2, j_i b), (3, j_i c)] [j_i 1] _ _ _ _
                have i39 := bi_y p39
                have u39 := p39.1
                have w39 := p39.2.1
                refine a_if_eq (pc := 42) (off := 7) (tgt := 49) (by decide +kernel) (by decide) (by omega) (fun c42 => ?_) (fun c42 => ?_)
                · exact absurd c42 (by decide)
                · refine a_iconst (pc := 45) (n := 1) (by decide +kernel) ?_
                  refine a_goto (pc := 46) (off := 4) (tgt := 50) (by decide +kernel) (by decide) ?_
                  refine a_zreturn (pc := 50) (by decide +kernel) rfl (by omega) ?_
                  refine k_ret ?_
                  exact k_by (by simp only [*, true_and, and_true, or_true, true_or, false_and, and_false, or_false, false_or, not_false_eq_true, not_true_eq_false])
              · show j_at _ _ _ [(0, .ref 5), (1, j_i a), (2, j_i b), (3, j_i c)] [j_i 0] _ _ _ _
                have i39 := bi_n p39
                refine a_if_eq (pc := 42) (off := 7) (tgt := 49) (by decide +kernel) (by decide) (by omega) (fun c42 => ?_) (fun c42 => ?_)
                · refine a_iconst (pc := 49) (n := 0) (by decide +kernel) ?_
                  refine a_zreturn (pc := 50) (by decide +kernel) rfl (by omega) ?_
                  refine k_ret ?_
                  exact k_bn (by simp only [*, true_and, and_true, or_true, true_or, false_and, and_false, or_false, false_or, not_false_eq_true, not_true_eq_false])
                · exact absurd c42 (by decide)
        · show j_at _ _ _ [(0, .ref 5), (1, j_i a), (2, j_i b), (3, j_i c)] [j_i 0] _ _ _ _
          have i22 := bi_n p22
          refine a_if_eq (pc := 25) (off := 24) (tgt := 49) (by decide +kernel) (by decide) (by omega) (fun c25 => ?_) (fun c25 => ?_)
          · refine a_iconst (pc := 49) (n := 0) (by decide +kernel) ?_
            refine a_zreturn (pc := 50) (by decide +kernel) rfl (by omega) ?_
            refine k_ret ?_
            exact k_bn (by simp only [*, true_and, and_true, or_true, true_or, false_and, and_false, or_false, false_or, not_false_eq_true, not_true_eq_false])
          · exact absurd c25 (by decide)
  · show j_at _ _ _ [(0, .ref 5), (1, j_i a), (2, j_i b), (3, j_i c)] [j_i 0] _ _ _ _
    have i5 := bi_n p5
    refine a_if_eq (pc := 8) (off := 41) (tgt := 49) (by decide +kernel) (by decide) (by omega) (fun c8 => ?_) (fun c8 => ?_)
    · refine a_iconst (pc := 49) (n := 0) (by decide +kernel) ?_
      refine a_zreturn (pc := 50) (by decide +kernel) rfl (by omega) ?_
      refine k_ret ?_
      exact k_bn (by simp only [*, true_and, and_true, or_true, true_or, false_and, and_false, or_false, false_or, not_false_eq_true, not_true_eq_false])
    · exact absurd c8 (by decide)
set_option maxHeartbeats 4000000 in
theorem c_word {G : j_G} {X : k_X} {n : Nat} {σ : k_St} (hR : RR n σ) {i : Int} (hi : -2147483648 ≤ i ∧ i ≤ 2147483647)  : k_run G X mX11_word [.ref 5, j_i i] n σ 0 0 (fun v n' σ' => ∃ r : Int, v = some (j_i r) ∧ n' = n ∧ σ' = σ ∧ ((0 ≤ i ∧ i < σ.2.1 6 1 ∧ r = σ.1 7 i) ∨ (¬ (0 ≤ i ∧ i < σ.2.1 6 1) ∧ r = -1))) := by
  obtain ⟨hK, hAc, hNm, hPs, hPt, hSm, hIx⟩ := id hR
  have hn := RR_n hR
  have hk := hK.1
  have hwh : h_wf σ 8 := hk.2.1
  have hwm : m_wf σ 16 := hk.2.2
  have hW : 0 ≤ σ.2.1 6 1 ∧ σ.2.1 6 1 ≤ 300 := hk.1
  have hfl := hSm.1
  refine k_enter (by decide +kernel) (Nat.le_of_ble_eq_true rfl) ?_
  show j_at _ _ _ [(0, .ref 5), (1, j_i i)] [] _ _ _ _
  refine a_aload_n (pc := 0) (i := 0) (by decide +kernel) rfl ?_
  refine b_getR (pc := 1) (b := 6) fl_X11_12 (by decide +kernel) (sh_5 hn) rfl ?_
  refine a_iload_n (pc := 4) (i := 1) (by decide +kernel) rfl ?_
  refine b_callV (pc := 5) (c' := 0) (sl' := 0) [j_i i] [] ml_X11_106 (by decide +kernel) rfl rfl (sh_6 hn) rfl rfl (Nat.le_of_ble_eq_true rfl) (j_fitI rfl rfl) (s_hasWord hn hW (by omega)) (fun v n' σ' hq => ?_)
  obtain ⟨x, rfl, e1, e2, hx⟩ := hq
  rw [e1, e2]; clear e1 e2
  rcases hx with ⟨rfl, p5⟩ | ⟨rfl, p5⟩
  · show j_at _ _ _ [(0, .ref 5), (1, j_i i)] [j_i 1] _ _ _ _
    refine a_if_eq (pc := 8) (off := 15) (tgt := 23) (by decide +kernel) (by decide) (by omega) (fun c8 => ?_) (fun c8 => ?_)
    · exact absurd c8 (by decide)
    · refine a_aload_n (pc := 11) (i := 0) (by decide +kernel) rfl ?_
      refine b_getR (pc := 12) (b := 6) fl_X11_12 (by decide +kernel) (sh_5 hn) rfl ?_
      refine b_getR (pc := 15) (b := 7) fl_X11_124 (by decide +kernel) (sh_6 hn) rfl ?_
      refine a_iload_n (pc := 18) (i := 1) (by decide +kernel) rfl ?_
      refine b_iaload (pc := 19) (by decide +kernel) (sh_7 hn) (by omega) (by omega) (by omega) ?_
      refine a_goto (pc := 20) (off := 4) (tgt := 24) (by decide +kernel) (by decide) ?_
      refine a_ireturn (pc := 24) (by decide +kernel) rfl ?_
      refine k_ret ?_
      exact ⟨_, rfl, rfl, rfl, by omega⟩
  · show j_at _ _ _ [(0, .ref 5), (1, j_i i)] [j_i 0] _ _ _ _
    refine a_if_eq (pc := 8) (off := 15) (tgt := 23) (by decide +kernel) (by decide) (by omega) (fun c8 => ?_) (fun c8 => ?_)
    · refine a_iconst (pc := 23) (n := (-1)) (by decide +kernel) ?_
      refine a_ireturn (pc := 24) (by decide +kernel) rfl ?_
      refine k_ret ?_
      exact ⟨_, rfl, rfl, rfl, by omega⟩
    · exact absurd c8 (by decide)
set_option maxHeartbeats 4000000 in
theorem d_word {G : j_G} {X : k_X} {n : Nat} {σ : k_St} (hR : RR n σ) {i : Int} (hi : -2147483648 ≤ i ∧ i ≤ 2147483647) {r : Int} (hP : ((0 ≤ i ∧ i < σ.2.1 6 1 ∧ r = σ.1 7 i) ∨ (¬ (0 ≤ i ∧ i < σ.2.1 6 1) ∧ r = -1)))  : k_run G X mX12_word [.ref 68, j_i i] n σ 0 0 (fun v2 n2 σ2 => v2 = some (j_i r) ∧ RR n2 σ2) := by
  obtain ⟨hK, hAc, hNm, hPs, hPt, hSm, hIx⟩ := id hR
  have hn := RR_n hR
  have hk := hK.1
  have hwh : h_wf σ 8 := hk.2.1
  have hwm : m_wf σ 16 := hk.2.2
  have hW : 0 ≤ σ.2.1 6 1 ∧ σ.2.1 6 1 ≤ 300 := hk.1
  have hfl := hSm.1
  have hg := hK.2.2.2
  obtain ⟨⟨hgW, hgE, hgM⟩, hgh, hgm⟩ := KR_rg hk hK.2.1
  have hW0 : σ.2.1 6 1 = σ.1 69 0 := hK.2.1.1.1
  have hE0 : σ.2.1 8 3 = σ.1 69 301 := hK.2.1.2.1.1
  have hM0 : σ.2.1 16 5 = σ.1 69 1382 := hK.2.1.2.2.1
  have hfl8 : σ.2.1 68 11 = σ.2.1 5 10 := hSm.2.1
  have hw7 : 0 ≤ i → i < σ.1 69 0 → σ.1 7 i = σ.1 69 (1 + i) := hK.2.1.1.2 i
  refine k_enter (by decide +kernel) (Nat.le_of_ble_eq_true rfl) ?_
  show j_at _ _ _ [(0, .ref 68), (1, j_i i)] [] _ _ _ _
  refine a_iload_n (pc := 0) (i := 1) (by decide +kernel) rfl ?_
  refine a_iconst (pc := 1) (n := 0) (by decide +kernel) ?_
  refine a_aload_n (pc := 2) (i := 0) (by decide +kernel) rfl ?_
  refine b_pureV (pc := 3) [] [j_i 0, j_i i] ml_X12_124 (by decide +kernel) rfl rfl (sh_68 hn) rfl rfl (Nat.le_of_ble_eq_true rfl) (j_fitI rfl rfl) (s_dwords hn) ?_
  have q1 := hg 0
  show j_at _ _ _ [(0, .ref 68), (1, j_i i)] [j_i (σ.1 69 0), j_i 0, j_i i] _ _ _ _
  refine a_iconst (pc := 6) (n := 1) (by decide +kernel) ?_
  refine a_isub (pc := 7) (by decide +kernel) ?_
  refine b_callS (pc := 8) (c' := 0) (sl' := 0) [j_i i, j_i 0, j_i ((σ.1 69 0) - 1)] [] ml_X12_128 (by decide +kernel) rfl rfl (Nat.le_of_ble_eq_true rfl) (j_fitI rfl rfl) (s_dwithin (by omega) (by omega) (by omega)) (fun v n' σ' hq => ?_)
  obtain ⟨x, rfl, e1, e2, hx⟩ := hq
  rw [e1, e2]; clear e1 e2
  rcases hx with ⟨rfl, p8⟩ | ⟨rfl, p8⟩
  · show j_at _ _ _ [(0, .ref 68), (1, j_i i)] [j_i 1] _ _ _ _
    refine a_if_eq (pc := 11) (off := 14) (tgt := 25) (by decide +kernel) (by decide) (by omega) (fun c11 => ?_) (fun c11 => ?_)
    · exact absurd c11 (by decide)
    · refine a_aload_n (pc := 14) (i := 0) (by decide +kernel) rfl ?_
      refine b_getR (pc := 15) (b := 69) fl_X12_7 (by decide +kernel) (sh_68 hn) rfl ?_
      refine a_iconst (pc := 18) (n := 1) (by decide +kernel) ?_
      refine a_iload_n (pc := 19) (i := 1) (by decide +kernel) rfl ?_
      refine a_iadd (pc := 20) (by decide +kernel) ?_
      refine b_iaload (pc := 21) (by decide +kernel) (sh_69 hn) (by omega) (by omega) (by omega) ?_
      have q2 := hg (1 + i)
      refine a_goto (pc := 22) (off := 4) (tgt := 26) (by decide +kernel) (by decide) ?_
      refine a_ireturn (pc := 26) (by decide +kernel) rfl ?_
      refine k_ret ?_
      exact ⟨by rw [show (σ.1 69 (1 + i) : Int) = r by omega], hR⟩
  · show j_at _ _ _ [(0, .ref 68), (1, j_i i)] [j_i 0] _ _ _ _
    refine a_if_eq (pc := 11) (off := 14) (tgt := 25) (by decide +kernel) (by decide) (by omega) (fun c11 => ?_) (fun c11 => ?_)
    · refine a_iconst (pc := 25) (n := (-1)) (by decide +kernel) ?_
      refine a_ireturn (pc := 26) (by decide +kernel) rfl ?_
      refine k_ret ?_
      exact ⟨by rw [show ((-1) : Int) = r by omega], hR⟩
    · exact absurd c11 (by decide)
set_option maxHeartbeats 4000000 in
theorem p_word {G : j_G} {X : k_X} {n : Nat} {σ : k_St} (hR : RR n σ) {i : Int} (hi : -2147483648 ≤ i ∧ i ≤ 2147483647)  : pr_ok G X mX11_word mX12_word [j_i i] n σ 0 0 := by
  refine ⟨_, c_word hR hi , fun v n' σ' hq => ?_⟩
  obtain ⟨r, hv, rfl, rfl, hP⟩ := hq
  exact ⟨RR_n hR, r, hv, d_word hR hi  hP⟩
set_option maxHeartbeats 4000000 in
theorem c_trace {G : j_G} {X : k_X} {n : Nat} {σ : k_St} (hR : RR n σ)  : k_run G X mX11_trace [.ref 5] n σ 0 0 (fun v n' σ' => ∃ r : Int, v = some (j_i r) ∧ n' = n ∧ σ' = σ ∧ r = σ.2.1 5 11) := by
  obtain ⟨hK, hAc, hNm, hPs, hPt, hSm, hIx⟩ := id hR
  have hn := RR_n hR
  have hk := hK.1
  have hwh : h_wf σ 8 := hk.2.1
  have hwm : m_wf σ 16 := hk.2.2
  have hW : 0 ≤ σ.2.1 6 1 ∧ σ.2.1 6 1 ≤ 300 := hk.1
  have hfl := hSm.1
  refine k_enter (by decide +kernel) (Nat.le_of_ble_eq_true rfl) ?_
  show j_at _ _ _ [(0, .ref 5)] [] _ _ _ _
  refine a_aload_n (pc := 0) (i := 0) (by decide +kernel) rfl ?_
  refine b_getI (pc := 1) fl_X11_79 (by decide +kernel) (sh_5 hn) rfl ?_
  refine a_ireturn (pc := 4) (by decide +kernel) rfl ?_
  refine k_ret ?_
  exact ⟨_, rfl, rfl, rfl, rfl⟩
set_option maxHeartbeats 4000000 in
theorem d_trace {G : j_G} {X : k_X} {n : Nat} {σ : k_St} (hR : RR n σ) {r : Int} (hP : r = σ.2.1 5 11)  : k_run G X mX12_trace [.ref 68] n σ 0 0 (fun v2 n2 σ2 => v2 = some (j_i r) ∧ RR n2 σ2) := by
  obtain ⟨hK, hAc, hNm, hPs, hPt, hSm, hIx⟩ := id hR
  have hn := RR_n hR
  have hk := hK.1
  have hwh : h_wf σ 8 := hk.2.1
  have hwm : m_wf σ 16 := hk.2.2
  have hW : 0 ≤ σ.2.1 6 1 ∧ σ.2.1 6 1 ≤ 300 := hk.1
  have hfl := hSm.1
  have hg := hK.2.2.2
  obtain ⟨⟨hgW, hgE, hgM⟩, hgh, hgm⟩ := KR_rg hk hK.2.1
  have hW0 : σ.2.1 6 1 = σ.1 69 0 := hK.2.1.1.1
  have hE0 : σ.2.1 8 3 = σ.1 69 301 := hK.2.1.2.1.1
  have hM0 : σ.2.1 16 5 = σ.1 69 1382 := hK.2.1.2.2.1
  have hfl8 : σ.2.1 68 11 = σ.2.1 5 10 := hSm.2.1
  refine k_enter (by decide +kernel) (Nat.le_of_ble_eq_true rfl) ?_
  show j_at _ _ _ [(0, .ref 68)] [] _ _ _ _
  refine a_aload_n (pc := 0) (i := 0) (by decide +kernel) rfl ?_
  refine b_getI (pc := 1) fl_X12_275 (by decide +kernel) (sh_68 hn) rfl ?_
  refine a_ireturn (pc := 4) (by decide +kernel) rfl ?_
  refine k_ret ?_
  exact ⟨by rw [hP, hSm.2.2.1], hR⟩
set_option maxHeartbeats 4000000 in
theorem p_trace {G : j_G} {X : k_X} {n : Nat} {σ : k_St} (hR : RR n σ)  : pr_ok G X mX11_trace mX12_trace [] n σ 0 0 := by
  refine ⟨_, c_trace hR  , fun v n' σ' hq => ?_⟩
  obtain ⟨r, hv, rfl, rfl, hP⟩ := hq
  exact ⟨RR_n hR, r, hv, d_trace hR   hP⟩
set_option maxHeartbeats 4000000 in
theorem c_fault {G : j_G} {X : k_X} {n : Nat} {σ : k_St} (hR : RR n σ)  : k_run G X mX11_fault [.ref 5] n σ 0 0 (fun v n' σ' => ∃ r : Int, v = some (j_i r) ∧ n' = n ∧ σ' = σ ∧ r = σ.2.1 5 12) := by
  obtain ⟨hK, hAc, hNm, hPs, hPt, hSm, hIx⟩ := id hR
  have hn := RR_n hR
  have hk := hK.1
  have hwh : h_wf σ 8 := hk.2.1
  have hwm : m_wf σ 16 := hk.2.2
  have hW : 0 ≤ σ.2.1 6 1 ∧ σ.2.1 6 1 ≤ 300 := hk.1
  have hfl := hSm.1
  refine k_enter (by decide +kernel) (Nat.le_of_ble_eq_true rfl) ?_
  show j_at _ _ _ [(0, .ref 5)] [] _ _ _ _
  refine a_aload_n (pc := 0) (i := 0) (by decide +kernel) rfl ?_
  refine b_getI (pc := 1) fl_X11_82 (by decide +kernel) (sh_5 hn) rfl ?_
  refine a_ireturn (pc := 4) (by decide +kernel) rfl ?_
  refine k_ret ?_
  exact ⟨_, rfl, rfl, rfl, rfl⟩
set_option maxHeartbeats 4000000 in
theorem d_fault {G : j_G} {X : k_X} {n : Nat} {σ : k_St} (hR : RR n σ) {r : Int} (hP : r = σ.2.1 5 12)  : k_run G X mX12_fault [.ref 68] n σ 0 0 (fun v2 n2 σ2 => v2 = some (j_i r) ∧ RR n2 σ2) := by
  obtain ⟨hK, hAc, hNm, hPs, hPt, hSm, hIx⟩ := id hR
  have hn := RR_n hR
  have hk := hK.1
  have hwh : h_wf σ 8 := hk.2.1
  have hwm : m_wf σ 16 := hk.2.2
  have hW : 0 ≤ σ.2.1 6 1 ∧ σ.2.1 6 1 ≤ 300 := hk.1
  have hfl := hSm.1
  have hg := hK.2.2.2
  obtain ⟨⟨hgW, hgE, hgM⟩, hgh, hgm⟩ := KR_rg hk hK.2.1
  have hW0 : σ.2.1 6 1 = σ.1 69 0 := hK.2.1.1.1
  have hE0 : σ.2.1 8 3 = σ.1 69 301 := hK.2.1.2.1.1
  have hM0 : σ.2.1 16 5 = σ.1 69 1382 := hK.2.1.2.2.1
  have hfl8 : σ.2.1 68 11 = σ.2.1 5 10 := hSm.2.1
  refine k_enter (by decide +kernel) (Nat.le_of_ble_eq_true rfl) ?_
  show j_at _ _ _ [(0, .ref 68)] [] _ _ _ _
  refine a_aload_n (pc := 0) (i := 0) (by decide +kernel) rfl ?_
  refine b_getI (pc := 1) fl_X12_115 (by decide +kernel) (sh_68 hn) rfl ?_
  refine a_ireturn (pc := 4) (by decide +kernel) rfl ?_
  refine k_ret ?_
  exact ⟨by rw [hP, hSm.2.2.2.1], hR⟩
set_option maxHeartbeats 4000000 in
theorem p_fault {G : j_G} {X : k_X} {n : Nat} {σ : k_St} (hR : RR n σ)  : pr_ok G X mX11_fault mX12_fault [] n σ 0 0 := by
  refine ⟨_, c_fault hR  , fun v n' σ' hq => ?_⟩
  obtain ⟨r, hv, rfl, rfl, hP⟩ := hq
  exact ⟨RR_n hR, r, hv, d_fault hR   hP⟩
def fl_P (σ : k_St) (m r : Int) (σ' : k_St) : Prop := (¬ (1 ≤ m ∧ m ≤ 50) ∧ r = -2 ∧ σ' = σ) ∨ ((1 ≤ m ∧ m ≤ 50) ∧ r = σ.2.1 5 10 ∧ σ' = k_sI σ 5 10 m)
set_option maxHeartbeats 4000000 in
theorem c_flow {G : j_G} {X : k_X} {n : Nat} {σ : k_St} (hR : RR n σ) {m : Int} (hm : -2147483648 ≤ m ∧ m ≤ 2147483647)  : k_run G X mX11_flow [.ref 5, j_i m] n σ 0 0 (fun v n' σ' => ∃ r : Int, v = some (j_i r) ∧ n' = n ∧ fl_P σ m r σ') := by
  obtain ⟨hK, hAc, hNm, hPs, hPt, hSm, hIx⟩ := id hR
  have hn := RR_n hR
  have hk := hK.1
  have hwh : h_wf σ 8 := hk.2.1
  have hwm : m_wf σ 16 := hk.2.2
  have hW : 0 ≤ σ.2.1 6 1 ∧ σ.2.1 6 1 ≤ 300 := hk.1
  have hfl := hSm.1
  refine k_enter (by decide +kernel) (Nat.le_of_ble_eq_true rfl) ?_
  show j_at _ _ _ [(0, .ref 5), (1, j_i m)] [] _ _ _ _
  refine a_iload_n (pc := 0) (i := 1) (by decide +kernel) rfl ?_
  refine a_iconst (pc := 1) (n := 1) (by decide +kernel) ?_
  refine a_icmp_lt (pc := 2) (off := 9) (tgt := 11) (by decide +kernel) (by decide) (by omega) (by omega) (fun c2 => ?_) (fun c2 => ?_)
  · refine a_bipush (pc := 11) (n := (-2)) (by decide +kernel) rfl ?_
    refine a_ireturn (pc := 13) (by decide +kernel) rfl ?_
    refine k_ret ?_
    exact ⟨_, rfl, rfl, Or.inl ⟨by omega, rfl, rfl⟩⟩
  · refine a_iload_n (pc := 5) (i := 1) (by decide +kernel) rfl ?_
    refine a_bipush (pc := 6) (n := 50) (by decide +kernel) rfl ?_
    refine a_icmp_le (pc := 8) (off := 6) (tgt := 14) (by decide +kernel) (by decide) (by omega) (by omega) (fun c8 => ?_) (fun c8 => ?_)
    · refine a_aload_n (pc := 14) (i := 0) (by decide +kernel) rfl ?_
      refine b_getI (pc := 15) fl_X11_75 (by decide +kernel) (sh_5 hn) rfl ?_
      refine a_istore_n (pc := 18) (i := 2) (lv' := [(0, .ref 5), (1, j_i m), (2, j_i (σ.2.1 5 10))]) (by decide +kernel) (Nat.le_of_ble_eq_true rfl) rfl ?_
      refine a_aload_n (pc := 19) (i := 0) (by decide +kernel) rfl ?_
      refine a_iload_n (pc := 20) (i := 1) (by decide +kernel) rfl ?_
      refine b_putI (pc := 21) fl_X11_75 (by decide +kernel) (sh_5 hn) rfl rfl rfl ?_
      obtain ⟨σ1, hσ1⟩ : ∃ z, z = k_sI σ 5 10 m := ⟨_, rfl⟩
      rw [← hσ1]
      refine a_iload_n (pc := 24) (i := 2) (by decide +kernel) rfl ?_
      refine a_ireturn (pc := 25) (by decide +kernel) rfl ?_
      refine k_ret ?_
      exact ⟨_, rfl, rfl, Or.inr ⟨by omega, rfl, hσ1⟩⟩
    · refine a_bipush (pc := 11) (n := (-2)) (by decide +kernel) rfl ?_
      refine a_ireturn (pc := 13) (by decide +kernel) rfl ?_
      refine k_ret ?_
      exact ⟨_, rfl, rfl, Or.inl ⟨by omega, rfl, rfl⟩⟩
set_option maxHeartbeats 4000000 in
theorem d_flow1 {G : j_G} {X : k_X} {n : Nat} {σ : k_St} (hn : 101 ≤ n) {m : Int} (hm : ¬ (1 ≤ m ∧ m ≤ 50)) (hmr : -2147483648 ≤ m ∧ m ≤ 2147483647) : k_run G X mX12_flow [.ref 68, j_i m] n σ 0 0 (k_is n σ (some (j_i (-2)))) := by
  refine k_enter (by decide +kernel) (Nat.le_of_ble_eq_true rfl) ?_
  show j_at _ _ _ [(0, .ref 68), (1, j_i m)] [] _ _ _ _
  refine a_iload_n (pc := 0) (i := 1) (by decide +kernel) rfl ?_
  refine a_iconst (pc := 1) (n := 1) (by decide +kernel) ?_
  refine a_bipush (pc := 2) (n := 50) (by decide +kernel) rfl ?_
  refine b_callS (pc := 4) (c' := 0) (sl' := 0) [j_i m, j_i 1, j_i 50] [] ml_X12_128 (by decide +kernel) rfl rfl (Nat.le_of_ble_eq_true rfl) (j_fitI rfl rfl) (s_dwithin (by omega) (by omega) (by omega)) (fun v n' σ' hq => ?_)
  obtain ⟨x, rfl, e1, e2, hx⟩ := hq
  rw [e1, e2]; clear e1 e2
  rcases hx with ⟨rfl, p4⟩ | ⟨rfl, p4⟩
  · show j_at _ _ _ [(0, .ref 68), (1, j_i m)] [j_i 1] _ _ _ _
    refine a_if_ne (pc := 7) (off := 6) (tgt := 13) (by decide +kernel) (by decide) (by omega) (fun c7 => ?_) (fun c7 => ?_)
    · refine a_aload_n (pc := 13) (i := 0) (by decide +kernel) rfl ?_
      refine b_getI (pc := 14) fl_X12_26 (by decide +kernel) (sh_68 hn) rfl ?_
      refine a_istore_n (pc := 17) (i := 2) (lv' := [(0, .ref 68), (1, j_i m), (2, j_i (σ.2.1 68 11))]) (by decide +kernel) (Nat.le_of_ble_eq_true rfl) rfl ?_
      refine a_aload_n (pc := 18) (i := 0) (by decide +kernel) rfl ?_
      refine a_iload_n (pc := 19) (i := 1) (by decide +kernel) rfl ?_
      refine b_putI (pc := 20) fl_X12_26 (by decide +kernel) (sh_68 hn) rfl rfl rfl ?_
      obtain ⟨σ1, hσ1⟩ : ∃ z, z = k_sI σ 68 11 m := ⟨_, rfl⟩
      rw [← hσ1]
      refine a_iload_n (pc := 23) (i := 2) (by decide +kernel) rfl ?_
      refine a_ireturn (pc := 24) (by decide +kernel) rfl ?_
      refine k_ret ?_
      first | exact ⟨rfl, rfl, rfl⟩ | (exfalso; omega)
    · exact absurd c7 (by decide)
  · show j_at _ _ _ [(0, .ref 68), (1, j_i m)] [j_i 0] _ _ _ _
    refine a_if_ne (pc := 7) (off := 6) (tgt := 13) (by decide +kernel) (by decide) (by omega) (fun c7 => ?_) (fun c7 => ?_)
    · exact absurd c7 (by decide)
    · refine a_bipush (pc := 10) (n := (-2)) (by decide +kernel) rfl ?_
      refine a_ireturn (pc := 12) (by decide +kernel) rfl ?_
      refine k_ret ?_
      first | exact ⟨rfl, rfl, rfl⟩ | (exfalso; omega)
set_option maxHeartbeats 4000000 in
theorem d_flow2 {G : j_G} {X : k_X} {n : Nat} {σ : k_St} (hn : 101 ≤ n) {m : Int} (hm : 1 ≤ m ∧ m ≤ 50)  : k_run G X mX12_flow [.ref 68, j_i m] n σ 0 0 (k_is n (k_sI σ 68 11 m) (some (j_i (σ.2.1 68 11)))) := by
  refine k_enter (by decide +kernel) (Nat.le_of_ble_eq_true rfl) ?_
  show j_at _ _ _ [(0, .ref 68), (1, j_i m)] [] _ _ _ _
  refine a_iload_n (pc := 0) (i := 1) (by decide +kernel) rfl ?_
  refine a_iconst (pc := 1) (n := 1) (by decide +kernel) ?_
  refine a_bipush (pc := 2) (n := 50) (by decide +kernel) rfl ?_
  refine b_callS (pc := 4) (c' := 0) (sl' := 0) [j_i m, j_i 1, j_i 50] [] ml_X12_128 (by decide +kernel) rfl rfl (Nat.le_of_ble_eq_true rfl) (j_fitI rfl rfl) (s_dwithin (by omega) (by omega) (by omega)) (fun v n' σ' hq => ?_)
  obtain ⟨x, rfl, e1, e2, hx⟩ := hq
  rw [e1, e2]; clear e1 e2
  rcases hx with ⟨rfl, p4⟩ | ⟨rfl, p4⟩
  · show j_at _ _ _ [(0, .ref 68), (1, j_i m)] [j_i 1] _ _ _ _
    refine a_if_ne (pc := 7) (off := 6) (tgt := 13) (by decide +kernel) (by decide) (by omega) (fun c7 => ?_) (fun c7 => ?_)
    · refine a_aload_n (pc := 13) (i := 0) (by decide +kernel) rfl ?_
      refine b_getI (pc := 14) fl_X12_26 (by decide +kernel) (sh_68 hn) rfl ?_
      refine a_istore_n (pc := 17) (i := 2) (lv' := [(0, .ref 68), (1, j_i m), (2, j_i (σ.2.1 68 11))]) (by decide +kernel) (Nat.le_of_ble_eq_true rfl) rfl ?_
      refine a_aload_n (pc := 18) (i := 0) (by decide +kernel) rfl ?_
      refine a_iload_n (pc := 19) (i := 1) (by decide +kernel) rfl ?_
      refine b_putI (pc := 20) fl_X12_26 (by decide +kernel) (sh_68 hn) rfl rfl rfl ?_
      obtain ⟨σ1, hσ1⟩ : ∃ z, z = k_sI σ 68 11 m := ⟨_, rfl⟩
      rw [← hσ1]
      refine a_iload_n (pc := 23) (i := 2) (by decide +kernel) rfl ?_
      refine a_ireturn (pc := 24) (by decide +kernel) rfl ?_
      refine k_ret ?_
      exact ⟨rfl, rfl, rfl⟩
    · exact absurd c7 (by decide)
  · show j_at _ _ _ [(0, .ref 68), (1, j_i m)] [j_i 0] _ _ _ _
    refine a_if_ne (pc := 7) (off := 6) (tgt := 13) (by decide +kernel) (by decide) (by omega) (fun c7 => ?_) (fun c7 => ?_)
    · exact absurd c7 (by decide)
    · refine a_bipush (pc := 10) (n := (-2)) (by decide +kernel) rfl ?_
      refine a_ireturn (pc := 12) (by decide +kernel) rfl ?_
      refine k_ret ?_
      exfalso; omega
set_option maxHeartbeats 4000000 in
theorem p_flow {G : j_G} {X : k_X} {n : Nat} {σ : k_St} (hR : RR n σ) {m : Int} (hm : -2147483648 ≤ m ∧ m ≤ 2147483647)  : pr_ok G X mX11_flow mX12_flow [j_i m] n σ 0 0 := by
  refine ⟨_, c_flow hR hm, fun v n' σ' hq => ?_⟩
  obtain ⟨r, hv, rfl, ⟨q1, rfl, rfl⟩ | ⟨q1, rfl, rfl⟩⟩ := hq
  · refine ⟨RR_n hR, _, hv, k_runw (fun v2 n2 σ2 q => ?_) (d_flow1 (RR_n hR) q1 hm)⟩
    obtain ⟨q2, q3, q4⟩ := q
    subst q3; subst q4; exact ⟨q2, hR⟩
  · refine ⟨RR_n hR, _, hv, k_runw (fun v2 n2 σ2 q => ?_) (d_flow2 (RR_n hR) q1)⟩
    obtain ⟨q2, q3, q4⟩ := q
    subst q3; subst q4
    have hs := hR.2.2.2.2.2.1
    obtain ⟨s1, s2, s3, s4, s5, s6, s7⟩ := hs
    refine ⟨by rw [q2, k_IN (by omega), s2], RR_scs (σ := σ) ⟨fun c _ => rfl, fun c j _ g1 g2 => by rw [k_IN (by omega), k_IN (by omega)], rfl⟩ ?_ hR⟩
    unfold RSmall
    rw [k_IN (by omega), k_II, k_II, k_IN (by omega), k_IN (by omega), k_IN (by omega), k_IN (by omega), k_IN (by omega), k_IN (by omega), k_IN (by omega), k_IN (by omega), k_IN (by omega), k_IN (by omega), k_IN (by omega), k_IN (by omega), k_IN (by omega), k_IN (by omega), k_IN (by omega), k_IN (by omega)]
    exact ⟨q1, rfl, s3, s4, s5, s6, s7⟩
