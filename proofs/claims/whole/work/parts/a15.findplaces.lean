theorem q_ok_mk {k f l t : Int} (h1 : kd k) (h2 : 0 ≤ f ∧ f ≤ 299) (h3 : 0 ≤ l ∧ l ≤ 299) (h4 : 0 ≤ t ∧ t ≤ 99) : q_ok (k, f, l, t) := ⟨h1, h2, h3, h4⟩
def mkS (σ : k_St) (p : Int) (k : Int) (y : q_T) : Prop := ∃ m, m < k ∧ ofP σ p m ∧ 3 ≤ σ.1 17 m ∧ y = (σ.1 17 m, pgM σ m, pgM σ m, σ.1 20 m)
def rnS (σ : k_St) (k : Int) (y : q_T) : Prop := ∃ j, 0 ≤ j ∧ j < k ∧ y = (0, (rp σ j).1, (rp σ j).2, 0)
theorem PSg_w {σ : k_St} {e c : Int} {S S' : q_T → Prop} (h : PSg σ e c S) (hs : ∀ x, S x ↔ S' x) : PSg σ e c S' := ⟨h.1, h.2.1, h.2.2.1, fun x => (h.2.2.2 x).trans (hs x)⟩
theorem mkS_s {σ : k_St} {p k : Int} {A : q_T → Prop} {y : q_T} (hk : ofP σ p k ∧ 3 ≤ σ.1 17 k) : ((A y ∨ mkS σ p k y) ∨ y = (σ.1 17 k, pgM σ k, pgM σ k, σ.1 20 k)) ↔ (A y ∨ mkS σ p (k + 1) y) := by
  constructor
  · rintro ((w | ⟨m, a, b⟩) | w)
    · exact Or.inl w
    · exact Or.inr ⟨m, by omega, b⟩
    · exact Or.inr ⟨k, by omega, hk.1, hk.2, w⟩
  · rintro (w | ⟨m, a, b, d, f⟩)
    · exact Or.inl (Or.inl w)
    · by_cases q : m = k
      · rw [q] at f; exact Or.inr f
      · exact Or.inl (Or.inr ⟨m, by omega, b, d, f⟩)
theorem mkS_n {σ : k_St} {p k : Int} {A : q_T → Prop} {y : q_T} (hk : ¬ (ofP σ p k ∧ 3 ≤ σ.1 17 k)) : (A y ∨ mkS σ p k y) ↔ (A y ∨ mkS σ p (k + 1) y) := by
  constructor
  · rintro (w | ⟨m, a, b⟩)
    · exact Or.inl w
    · exact Or.inr ⟨m, by omega, b⟩
  · rintro (w | ⟨m, a, b, d, f⟩)
    · exact Or.inl w
    · by_cases q : m = k
      · rw [q] at b d; exact absurd ⟨b, d⟩ hk
      · exact Or.inr ⟨m, by omega, b, d, f⟩
theorem rnS_s {σ : k_St} {k : Int} {y : q_T} (k0 : 0 ≤ k) : (rnS σ k y ∨ y = (0, (rp σ k).1, (rp σ k).2, 0)) ↔ rnS σ (k + 1) y := by
  constructor
  · rintro (⟨j, a, b, d⟩ | w)
    · exact ⟨j, a, by omega, d⟩
    · exact ⟨k, k0, by omega, w⟩
  · rintro ⟨j, a, b, d⟩
    by_cases q : j = k
    · rw [q] at d; exact Or.inr d
    · exact Or.inl ⟨j, a, by omega, d⟩
set_option maxHeartbeats 4000000 in
theorem l_fp71 {G : j_G} {X : k_X} {n : Nat} {σ : k_St} (hn : 101 ≤ n) {pe : Int → Int} (hB : MB σ pe) {e c d : Int} (e0 : 0 ≤ e ∧ e < σ.2.1 68 25) (rc : c = 0 ∨ c = 1) {Yq : q_T → Prop} (hYd : ∀ x y, Yq x → Yq y → q_w c x = q_w c y → x = y) (hYm : ∀ y, rnS σ (σ.2.1 68 48) y ∨ mkS σ (pe e) (σ.1 69 1382) y → Yq y) (hRg : Rg σ) (hE0 : 0 ≤ σ.2.1 68 32 ∧ σ.2.1 68 32 ≤ 50)  : ∀ (z : Nat) (k : Int) (τ : k_St), 50 - k < (z : Int) → 0 ≤ k → k ≤ σ.1 69 1382 → plf σ τ e → τ.2.1 68 32 ≤ 100 + k → PSg τ e c (fun y => rnS σ (σ.2.1 68 48) y ∨ mkS σ (pe e) k y) → j_at G mX12_findPlaces 71 [(0, .ref 68), (1, j_i e), (2, j_i d), (3, j_i c), (4, j_i k)] [] (k_h X n τ) 0 0 (k_Q X (fun v n' τ => v = none ∧ n' = n ∧ plf σ τ e ∧ PSg τ e c (fun y => rnS σ (σ.2.1 68 48) y ∨ mkS σ (pe e) (σ.1 69 1382) y))) := by
  obtain ⟨hK, hP, hfl, hE, hok⟩ := id hB
  have hM := (KR_rg hK.1 hK.2.1).1.2.2
  have hE1 := hE.1
  intro z
  induction z with
  | zero => intro k τ h1 h2 h3; exact absurd h1 (by omega)
  | succ z ih =>
    intro k τ hz k0 kN hf hb hG
    refine a_iload (pc := 71) (i := 4) (by decide +kernel) rfl ?_
    refine a_aload_n (pc := 73) (i := 0) (by decide +kernel) rfl ?_
    refine b_pureV (pc := 74) [] [j_i k] ml_X12_135 (by decide +kernel) rfl rfl (sh_68 hn) rfl rfl (Nat.le_of_ble_eq_true rfl) (j_fitI rfl rfl) (s_dmarksEver hn) ?_
    rw [show τ.1 69 = σ.1 69 from (plf_m hf).1 69 (by omega)]
    show j_at _ _ _ [(0, .ref 68), (1, j_i e), (2, j_i d), (3, j_i c), (4, j_i k)] [j_i (σ.1 69 1382), j_i k] _ _ _ _
    refine a_icmp_ge (pc := 77) (off := 67) (tgt := 144) (by decide +kernel) (by decide) (by omega) (by omega) (fun c77 => ?_) (fun c77 => ?_)
    · refine a_return (pc := 144) (by decide +kernel) rfl ?_
      refine k_ret ?_
      rw [show k = σ.1 69 1382 by omega] at hG
      exact ⟨rfl, rfl, hf, hG⟩
    · refine a_aload_n (pc := 80) (i := 0) (by decide +kernel) rfl ?_
      refine a_iload (pc := 81) (i := 4) (by decide +kernel) rfl ?_
      refine a_iload_n (pc := 83) (i := 1) (by decide +kernel) rfl ?_
      refine b_callV (pc := 84) (c' := 0) (sl' := 0) [j_i k, j_i e] [] ml_X12_304 (by decide +kernel) rfl rfl (sh_68 hn) rfl rfl (Nat.le_of_ble_eq_true rfl) (j_fitI rfl rfl) (e_isOf hn (MB_m (plf_m hf) hB) (by omega) (by rw [(plf_m hf).2.1 68 25 (by omega)]; omega)) (fun v n' σ' hq => ?_)
      obtain ⟨x, rfl, e1, e2, hx⟩ := hq
      rw [e1, e2]; clear e1 e2
      rcases hx with ⟨rfl, p84⟩ | ⟨rfl, p84⟩
      · show j_at _ _ _ [(0, .ref 68), (1, j_i e), (2, j_i d), (3, j_i c), (4, j_i k)] [j_i 1] _ _ _ _
        rw [mfr_of (plf_m hf)] at p84
        refine a_if_eq (pc := 87) (off := 51) (tgt := 138) (by decide +kernel) (by decide) (by omega) (fun c87 => ?_) (fun c87 => ?_)
        · exact absurd c87 (by decide)
        · refine a_aload_n (pc := 90) (i := 0) (by decide +kernel) rfl ?_
          refine a_iload (pc := 91) (i := 4) (by decide +kernel) rfl ?_
          refine b_pureV (pc := 93) [j_i k] [] ml_X12_257 (by decide +kernel) rfl rfl (sh_68 hn) rfl rfl (Nat.le_of_ble_eq_true rfl) (j_fitI rfl rfl) (b_kind hn (MB_m (plf_m hf) hB).1 (by omega) (by rw [(plf_m hf).1 69 (by omega)]; omega)) ?_
          rw [show τ.1 17 = σ.1 17 from (plf_m hf).1 17 (by omega)]
          have q1 := b_rg hB.1 (m := k) (by omega) (by omega)
          show j_at _ _ _ [(0, .ref 68), (1, j_i e), (2, j_i d), (3, j_i c), (4, j_i k)] [j_i (σ.1 17 k)] _ _ _ _
          refine a_iconst (pc := 96) (n := 3) (by decide +kernel) ?_
          refine a_icmp_lt (pc := 97) (off := 41) (tgt := 138) (by decide +kernel) (by decide) (by omega) (by omega) (fun c97 => ?_) (fun c97 => ?_)
          · refine a_iinc (pc := 138) (i := 4) (n := 1) (x := k) (lv' := [(0, .ref 68), (1, j_i e), (2, j_i d), (3, j_i c), (4, j_i (k + 1))]) (by decide +kernel) rfl (Nat.le_of_ble_eq_true rfl) rfl ?_
            refine a_goto (pc := 141) (off := -70) (tgt := 71) (by decide +kernel) (by decide) ?_
            exact ih (k + 1) τ (by omega) (by omega) (by omega) hf (by omega) (PSg_w hG (fun y => mkS_n (fun w => by first | exact p84 w.1 | (have := w.2; omega))))
          · refine a_aload_n (pc := 100) (i := 0) (by decide +kernel) rfl ?_
            refine a_iload_n (pc := 101) (i := 1) (by decide +kernel) rfl ?_
            refine a_aload_n (pc := 102) (i := 0) (by decide +kernel) rfl ?_
            refine a_iload (pc := 103) (i := 4) (by decide +kernel) rfl ?_
            refine b_pureV (pc := 105) [j_i k] [j_i e, .ref 68] ml_X12_257 (by decide +kernel) rfl rfl (sh_68 hn) rfl rfl (Nat.le_of_ble_eq_true rfl) (j_fitI rfl rfl) (b_kind hn (MB_m (plf_m hf) hB).1 (by omega) (by rw [(plf_m hf).1 69 (by omega)]; omega)) ?_
            rw [show τ.1 17 = σ.1 17 from (plf_m hf).1 17 (by omega)]
            have q2 := b_rg hB.1 (m := k) (by omega) (by omega)
            show j_at _ _ _ [(0, .ref 68), (1, j_i e), (2, j_i d), (3, j_i c), (4, j_i k)] [j_i (σ.1 17 k), j_i e, .ref 68] _ _ _ _
            refine a_aload_n (pc := 108) (i := 0) (by decide +kernel) rfl ?_
            refine a_aload_n (pc := 109) (i := 0) (by decide +kernel) rfl ?_
            refine a_iload (pc := 110) (i := 4) (by decide +kernel) rfl ?_
            refine b_pureV (pc := 112) [j_i k] [.ref 68, j_i (σ.1 17 k), j_i e, .ref 68] ml_X12_266 (by decide +kernel) rfl rfl (sh_68 hn) rfl rfl (Nat.le_of_ble_eq_true rfl) (j_fitI rfl rfl) (b_gap hn (MB_m (plf_m hf) hB).1 (by omega) (by rw [(plf_m hf).1 69 (by omega)]; omega)) ?_
            rw [show τ.1 18 = σ.1 18 from (plf_m hf).1 18 (by omega)]
            have q3 := b_rg hB.1 (m := k) (by omega) (by omega)
            show j_at _ _ _ [(0, .ref 68), (1, j_i e), (2, j_i d), (3, j_i c), (4, j_i k)] [j_i (σ.1 18 k), .ref 68, j_i (σ.1 17 k), j_i e, .ref 68] _ _ _ _
            refine b_pureV (pc := 115) [j_i (σ.1 18 k)] [j_i (σ.1 17 k), j_i e, .ref 68] ml_X12_272 (by decide +kernel) rfl rfl (sh_68 hn) rfl rfl (Nat.le_of_ble_eq_true rfl) (j_fitI rfl rfl) (b_page hn (MB_m (plf_m hf) hB) (by omega)) ?_
            rw [show τ.2.1 68 11 = σ.2.1 68 11 from (plf_m hf).2.1 68 11 (by omega)]
            have qp4 := f_page_in (g := σ.1 18 k) (f := σ.2.1 68 11) (by omega)
            show j_at _ _ _ [(0, .ref 68), (1, j_i e), (2, j_i d), (3, j_i c), (4, j_i k)] [j_i (f_page (σ.1 18 k) (σ.2.1 68 11)), j_i (σ.1 17 k), j_i e, .ref 68] _ _ _ _
            refine a_aload_n (pc := 118) (i := 0) (by decide +kernel) rfl ?_
            refine a_aload_n (pc := 119) (i := 0) (by decide +kernel) rfl ?_
            refine a_iload (pc := 120) (i := 4) (by decide +kernel) rfl ?_
            refine b_pureV (pc := 122) [j_i k] [.ref 68, j_i (f_page (σ.1 18 k) (σ.2.1 68 11)), j_i (σ.1 17 k), j_i e, .ref 68] ml_X12_266 (by decide +kernel) rfl rfl (sh_68 hn) rfl rfl (Nat.le_of_ble_eq_true rfl) (j_fitI rfl rfl) (b_gap hn (MB_m (plf_m hf) hB).1 (by omega) (by rw [(plf_m hf).1 69 (by omega)]; omega)) ?_
            rw [show τ.1 18 = σ.1 18 from (plf_m hf).1 18 (by omega)]
            have q5 := b_rg hB.1 (m := k) (by omega) (by omega)
            show j_at _ _ _ [(0, .ref 68), (1, j_i e), (2, j_i d), (3, j_i c), (4, j_i k)] [j_i (σ.1 18 k), .ref 68, j_i (f_page (σ.1 18 k) (σ.2.1 68 11)), j_i (σ.1 17 k), j_i e, .ref 68] _ _ _ _
            refine b_pureV (pc := 125) [j_i (σ.1 18 k)] [j_i (f_page (σ.1 18 k) (σ.2.1 68 11)), j_i (σ.1 17 k), j_i e, .ref 68] ml_X12_272 (by decide +kernel) rfl rfl (sh_68 hn) rfl rfl (Nat.le_of_ble_eq_true rfl) (j_fitI rfl rfl) (b_page hn (MB_m (plf_m hf) hB) (by omega)) ?_
            rw [show τ.2.1 68 11 = σ.2.1 68 11 from (plf_m hf).2.1 68 11 (by omega)]
            have qp6 := f_page_in (g := σ.1 18 k) (f := σ.2.1 68 11) (by omega)
            show j_at _ _ _ [(0, .ref 68), (1, j_i e), (2, j_i d), (3, j_i c), (4, j_i k)] [j_i (f_page (σ.1 18 k) (σ.2.1 68 11)), j_i (f_page (σ.1 18 k) (σ.2.1 68 11)), j_i (σ.1 17 k), j_i e, .ref 68] _ _ _ _
            refine a_aload_n (pc := 128) (i := 0) (by decide +kernel) rfl ?_
            refine a_iload (pc := 129) (i := 4) (by decide +kernel) rfl ?_
            refine b_pureV (pc := 131) [j_i k] [j_i (f_page (σ.1 18 k) (σ.2.1 68 11)), j_i (f_page (σ.1 18 k) (σ.2.1 68 11)), j_i (σ.1 17 k), j_i e, .ref 68] ml_X12_269 (by decide +kernel) rfl rfl (sh_68 hn) rfl rfl (Nat.le_of_ble_eq_true rfl) (j_fitI rfl rfl) (b_note hn (MB_m (plf_m hf) hB).1 (by omega) (by rw [(plf_m hf).1 69 (by omega)]; omega)) ?_
            rw [show τ.1 20 = σ.1 20 from (plf_m hf).1 20 (by omega)]
            have q7 := b_rg hB.1 (m := k) (by omega) (by omega)
            show j_at _ _ _ [(0, .ref 68), (1, j_i e), (2, j_i d), (3, j_i c), (4, j_i k)] [j_i (σ.1 20 k), j_i (f_page (σ.1 18 k) (σ.2.1 68 11)), j_i (f_page (σ.1 18 k) (σ.2.1 68 11)), j_i (σ.1 17 k), j_i e, .ref 68] _ _ _ _
            refine a_iload_n (pc := 134) (i := 3) (by decide +kernel) rfl ?_
            refine b_callV (pc := 135) (c' := 0) (sl' := 0) [j_i e, j_i (σ.1 17 k), j_i (f_page (σ.1 18 k) (σ.2.1 68 11)), j_i (f_page (σ.1 18 k) (σ.2.1 68 11)), j_i (σ.1 20 k), j_i c] [] ml_X12_339 (by decide +kernel) rfl rfl (sh_68 hn) rfl rfl (Nat.le_of_ble_eq_true rfl) (j_fitI rfl rfl) (e_addPlace hn hG (by omega) (by omega) (q_ok_mk (show kd (σ.1 17 k) by unfold kd; have := p84.2.1; omega) (by omega) (by omega) (by omega)) (fun x hx => hYd x _ (hYm x (by rcases hx with w | ⟨m, a, b⟩; exact Or.inl w; exact Or.inr ⟨m, by omega, b⟩)) (hYm _ (Or.inr ⟨k, by omega, p84, by omega, rfl⟩))) rc) (fun v n' σ' hq => ?_)
            obtain ⟨rfl, rfl, g1, g2, g3, g4⟩ := hq
            obtain ⟨σ8, hσ8⟩ : ∃ z, z = σ' := ⟨_, rfl⟩
            rw [← hσ8] at g1 g2 g3 g4 ⊢
            clear hσ8
            show j_at _ _ _ [(0, .ref 68), (1, j_i e), (2, j_i d), (3, j_i c), (4, j_i k)] [] _ _ _ _
            refine a_iinc (pc := 138) (i := 4) (n := 1) (x := k) (lv' := [(0, .ref 68), (1, j_i e), (2, j_i d), (3, j_i c), (4, j_i (k + 1))]) (by decide +kernel) rfl (Nat.le_of_ble_eq_true rfl) rfl ?_
            refine a_goto (pc := 141) (off := -70) (tgt := 71) (by decide +kernel) (by decide) ?_
            exact ih (k + 1) σ8 (by omega) (by omega) (by omega) (plf_t hf g1) (by omega) (PSg_w g4 (fun y => mkS_s ⟨p84, by omega⟩))
      · show j_at _ _ _ [(0, .ref 68), (1, j_i e), (2, j_i d), (3, j_i c), (4, j_i k)] [j_i 0] _ _ _ _
        rw [mfr_of (plf_m hf)] at p84
        refine a_if_eq (pc := 87) (off := 51) (tgt := 138) (by decide +kernel) (by decide) (by omega) (fun c87 => ?_) (fun c87 => ?_)
        · refine a_iinc (pc := 138) (i := 4) (n := 1) (x := k) (lv' := [(0, .ref 68), (1, j_i e), (2, j_i d), (3, j_i c), (4, j_i (k + 1))]) (by decide +kernel) rfl (Nat.le_of_ble_eq_true rfl) rfl ?_
          refine a_goto (pc := 141) (off := -70) (tgt := 71) (by decide +kernel) (by decide) ?_
          exact ih (k + 1) τ (by omega) (by omega) (by omega) hf (by omega) (PSg_w hG (fun y => mkS_n (fun w => by first | exact p84 w.1 | (have := w.2; omega))))
        · exact absurd c87 (by decide)
set_option maxHeartbeats 4000000 in
theorem l_fp31 {G : j_G} {X : k_X} {n : Nat} {σ : k_St} (hn : 101 ≤ n) {pe : Int → Int} (hB : MB σ pe) {e c d : Int} (e0 : 0 ≤ e ∧ e < σ.2.1 68 25) (rc : c = 0 ∨ c = 1) {Yq : q_T → Prop} (hYd : ∀ x y, Yq x → Yq y → q_w c x = q_w c y → x = y) (hYm : ∀ y, rnS σ (σ.2.1 68 48) y ∨ mkS σ (pe e) (σ.1 69 1382) y → Yq y) (hRg : Rg σ) (hE0 : 0 ≤ σ.2.1 68 32 ∧ σ.2.1 68 32 ≤ 50)  : ∀ (z : Nat) (k : Int) (τ : k_St), 50 - k < (z : Int) → 0 ≤ k → k ≤ σ.2.1 68 48 → plf σ τ e → τ.2.1 68 32 ≤ 50 + k → PSg τ e c (rnS σ k) → j_at G mX12_findPlaces 31 [(0, .ref 68), (1, j_i e), (2, j_i d), (3, j_i c), (4, j_i k)] [] (k_h X n τ) 0 0 (k_Q X (fun v n' τ => v = none ∧ n' = n ∧ plf σ τ e ∧ PSg τ e c (fun y => rnS σ (σ.2.1 68 48) y ∨ mkS σ (pe e) (σ.1 69 1382) y))) := by
  obtain ⟨hK, hP, hfl, hE, hok⟩ := id hB
  have hM := (KR_rg hK.1 hK.2.1).1.2.2
  have hE1 := hE.1
  intro z
  induction z with
  | zero => intro k τ h1 h2 h3; exact absurd h1 (by have := hRg.1; omega)
  | succ z ih =>
    intro k τ hz k0 kN hf hb hG
    have h50 := hRg.1
    refine a_iload (pc := 31) (i := 4) (by decide +kernel) rfl ?_
    refine a_aload_n (pc := 33) (i := 0) (by decide +kernel) rfl ?_
    refine b_getI (pc := 34) fl_X12_294 (by decide +kernel) (sh_68 hn) rfl ?_
    rw [show τ.2.1 68 48 = σ.2.1 68 48 from hf.2.1 68 48 (by omega)]
    refine a_icmp_ge (pc := 37) (off := 31) (tgt := 68) (by decide +kernel) (by decide) (by omega) (by omega) (fun c37 => ?_) (fun c37 => ?_)
    · refine a_iconst (pc := 68) (n := 0) (by decide +kernel) ?_
      refine a_istore (pc := 69) (i := 4) (lv' := [(0, .ref 68), (1, j_i e), (2, j_i d), (3, j_i c), (4, j_i 0)]) (by decide +kernel) (Nat.le_of_ble_eq_true rfl) rfl ?_
      rw [show k = σ.2.1 68 48 by omega] at hG
      exact l_fp71 hn hB e0 rc hYd hYm hRg hE0 52 0 τ (by omega) (by omega) (by omega) hf (by omega) (PSg_w hG (fun y => ⟨Or.inl, fun w => by rcases w with w | ⟨m, a, b, _⟩; exact w; have := b.1.1; omega⟩))
    · have y1 := hRg.2 k k0 (by omega)
      refine a_aload_n (pc := 40) (i := 0) (by decide +kernel) rfl ?_
      refine a_iload_n (pc := 41) (i := 1) (by decide +kernel) rfl ?_
      refine a_iconst (pc := 42) (n := 0) (by decide +kernel) ?_
      refine a_aload_n (pc := 43) (i := 0) (by decide +kernel) rfl ?_
      refine b_getR (pc := 44) (b := 98) fl_X12_102 (by decide +kernel) (sh_68 hn) rfl ?_
      refine a_iload (pc := 47) (i := 4) (by decide +kernel) rfl ?_
      refine b_iaload (pc := 49) (by decide +kernel) (sh_98 hn) (by omega) (by omega) (by omega) ?_
      rw [show τ.1 98 = σ.1 98 from hf.1 98 (by omega) (by omega)]
      refine a_aload_n (pc := 50) (i := 0) (by decide +kernel) rfl ?_
      refine b_getR (pc := 51) (b := 99) fl_X12_105 (by decide +kernel) (sh_68 hn) rfl ?_
      refine a_iload (pc := 54) (i := 4) (by decide +kernel) rfl ?_
      refine b_iaload (pc := 56) (by decide +kernel) (sh_99 hn) (by omega) (by omega) (by omega) ?_
      rw [show τ.1 99 = σ.1 99 from hf.1 99 (by omega) (by omega)]
      refine a_iconst (pc := 57) (n := 0) (by decide +kernel) ?_
      refine a_iload_n (pc := 58) (i := 3) (by decide +kernel) rfl ?_
      refine b_callV (pc := 59) (c' := 0) (sl' := 0) [j_i e, j_i 0, j_i (σ.1 98 k), j_i (σ.1 99 k), j_i 0, j_i c] [] ml_X12_339 (by decide +kernel) rfl rfl (sh_68 hn) rfl rfl (Nat.le_of_ble_eq_true rfl) (j_fitI rfl rfl) (e_addPlace hn hG (by omega) (by omega) (q_ok_mk (Or.inl rfl) (by omega) (by omega) (by omega)) (fun x hx => hYd x _ (hYm x (by obtain ⟨j, a, b, w⟩ := hx; exact Or.inl ⟨j, a, by omega, w⟩)) (hYm _ (Or.inl ⟨k, by omega, by omega, rfl⟩))) rc) (fun v n' σ' hq => ?_)
      obtain ⟨rfl, rfl, g1, g2, g3, g4⟩ := hq
      obtain ⟨σ1, hσ1⟩ : ∃ z, z = σ' := ⟨_, rfl⟩
      rw [← hσ1] at g1 g2 g3 g4 ⊢
      clear hσ1
      show j_at _ _ _ [(0, .ref 68), (1, j_i e), (2, j_i d), (3, j_i c), (4, j_i k)] [] _ _ _ _
      refine a_iinc (pc := 62) (i := 4) (n := 1) (x := k) (lv' := [(0, .ref 68), (1, j_i e), (2, j_i d), (3, j_i c), (4, j_i (k + 1))]) (by decide +kernel) rfl (Nat.le_of_ble_eq_true rfl) rfl ?_
      refine a_goto (pc := 65) (off := -34) (tgt := 31) (by decide +kernel) (by decide) ?_
      exact ih (k + 1) σ1 (by omega) (by omega) (by omega) (plf_t hf g1) (by omega) (PSg_w g4 (fun y => rnS_s k0))
def fpf (σ τ : k_St) (e : Int) : Prop := (∀ c, ¬ (c = 82 ∨ c = 83 ∨ c = 86 ∨ c = 95 ∨ c = 98 ∨ c = 99) → τ.1 c = σ.1 c) ∧ (∀ c j, ¬ (c = 68 ∧ (j = 32 ∨ j = 43 ∨ j = 48)) → τ.2.1 c j = σ.2.1 c j) ∧ τ.2.2 = σ.2.2 ∧ (∀ j, j ≠ e → τ.1 82 j = σ.1 82 j ∧ τ.1 83 j = σ.1 83 j) ∧ ∀ j, j < 4 * σ.2.1 68 32 → τ.1 86 j = σ.1 86 j
theorem fpf_m {σ τ : k_St} {e : Int} (h : fpf σ τ e) : mfr σ τ := ⟨fun c q => h.1 c (by omega), fun c j q => h.2.1 c j (by omega), h.2.2.1⟩
theorem mfr_lt {σ τ : k_St} (h : mfr σ τ) : m_lt τ = m_lt σ := by funext x y; unfold m_lt; rw [h.1 18 (by omega)]
theorem li_fn {α : Type} (L : List α) (d : α) : ∃ f : Int → α, ∀ (i : Nat) (hi : i < L.length), f (i : Int) = L[i] := ⟨fun i => if h : i.toNat < L.length then L[i.toNat] else d, fun i hi => by
  show (if h : ((i : Int).toNat) < L.length then L[(i : Int).toNat] else _) = _
  rw [dif_pos (by simpa using hi)]; simp⟩
theorem pw_u {α : Type} {lt : α → α → Prop} (hir : ∀ x, ¬ lt x x) (hasy : ∀ x y, lt x y → ¬ lt y x) : ∀ {L L' : List α}, L.Pairwise lt → L'.Pairwise lt → (∀ x, x ∈ L ↔ x ∈ L') → L = L'
  | [], [], _, _, _ => rfl
  | [], y :: t', _, _, h => absurd ((h y).mpr List.mem_cons_self) (by simp)
  | x :: t, [], _, _, h => absurd ((h x).mp List.mem_cons_self) (by simp)
  | x :: t, y :: t', h1, h2, h => by
    obtain ⟨a1, a2⟩ := List.pairwise_cons.mp h1
    obtain ⟨b1, b2⟩ := List.pairwise_cons.mp h2
    have e : x = y := by
      rcases List.mem_cons.mp ((h x).mp List.mem_cons_self) with w | w
      · exact w
      · rcases List.mem_cons.mp ((h y).mpr List.mem_cons_self) with v | v
        · exact v.symm
        · exact absurd (a1 y v) (hasy _ _ (b1 x w))
    subst e
    rw [pw_u hir hasy a2 b2 (fun z => ?_)]
    constructor
    · intro hz
      rcases List.mem_cons.mp ((h z).mp (List.mem_cons_of_mem _ hz)) with w | w
      · rw [w] at hz; exact absurd (a1 _ hz) (hir _)
      · exact w
    · intro hz
      rcases List.mem_cons.mp ((h z).mpr (List.mem_cons_of_mem _ hz)) with w | w
      · rw [w] at hz; exact absurd (b1 _ hz) (hir _)
      · exact w
def fp_post (n : Nat) (σ : k_St) (e p : Int) (lm : List Int) (U : Int → Prop) (Y : List q_T) : k_P := fun v n' τ => v = none ∧ n' = n ∧ fpf σ τ e ∧ UN τ (fun x => U x ∨ x ∈ b_lo (σ.1 17) (σ.1 19) p lm (-9)) ∧ (∀ x, x ∈ b_lo (σ.1 17) (σ.1 19) p lm (-9) → ofP σ p x) ∧ τ.1 83 e = σ.2.1 68 32 ∧ τ.1 82 e = (Y.length : Int) ∧ τ.2.1 68 32 = σ.2.1 68 32 + (Y.length : Int) ∧ ∀ (j : Nat) (h : j < Y.length), q4 (τ.1 86) (σ.2.1 68 32 + (j : Int)) = Y[j]
theorem fp_Y {σ ρ : k_St} {p c d : Int} {lm : List Int} {Y : List q_T} {W : List (Int × Int)} (hK : RKept σ) (hlm : ∀ x, x ∈ lm ↔ m_is σ x) (hYp : pl_spec (fun x => x ∈ b_ru (σ.1 17) (σ.1 19) (pgM σ) p lm (-9)) (b_ms (σ.1 17) (σ.1 19) (pgM σ) (σ.1 20) p lm) d Y) (w1 : W.Pairwise (fun x y => x.1 < y.1)) (w2 : ∀ x, x ∈ W ↔ ((x ∈ b_ru (σ.1 17) (σ.1 19) (pgM σ) p lm (-9)) ∧ mxm (fun x => x ∈ b_ru (σ.1 17) (σ.1 19) (pgM σ) p lm (-9)) x) ∧ ¬ smn (MAm σ p) x) (w3 : gs (rp ρ) 0 (u_melt d [] W)) (w4 : ρ.2.1 68 48 = ((u_melt d [] W).length : Int)) : ∀ y, (rnS ρ (ρ.2.1 68 48) y ∨ mkS σ p (σ.1 69 1382) y) ↔ y ∈ Y := by
  obtain ⟨W', v1, v2, v3⟩ := hYp
  have hms : ∀ g, (∃ t, b_ms (σ.1 17) (σ.1 19) (pgM σ) (σ.1 20) p lm (3, g, g, t)) ↔ MAm σ p g := fun g => by
    constructor
    · rintro ⟨t, m, m1, m2, m3, m4⟩
      have z1 := congrArg Prod.fst m4
      have z2 := congrArg (fun x => x.2.1) m4
      exact ⟨m, ⟨(hlm m).mp m1, m2⟩, z1.symm, z2.symm⟩
    · rintro ⟨m, ⟨m1, m2⟩, m3, m4⟩
      exact ⟨σ.1 20 m, m, (hlm m).mpr m1, m2, by omega, by rw [m3]; show _ = (3, pgM σ m, pgM σ m, σ.1 20 m); rw [show pgM σ m = g from m4]⟩
  have eW : W = W' := pw_u (lt := fun x y : Int × Int => x.1 < y.1) (fun x => Int.lt_irrefl _) (fun x y h => by omega) w1 v1 (fun x => by
    rw [w2, v2]
    unfold mxm smn
    rw [hms])
  subst eW
  intro y
  rw [v3]
  have hm : mkS σ p (σ.1 69 1382) y ↔ b_ms (σ.1 17) (σ.1 19) (pgM σ) (σ.1 20) p lm y := by
    constructor
    · rintro ⟨m, a, ⟨b1, b2⟩, b3, b4⟩; exact ⟨m, (hlm m).mpr b1, b2, b3, b4⟩
    · rintro ⟨m, a, b2, b3, b4⟩; exact ⟨m, (m_is_e hK ((hlm m).mp a)).2, ⟨(hlm m).mp a, b2⟩, b3, b4⟩
  have hr : rnS ρ (ρ.2.1 68 48) y ↔ ∃ x ∈ u_melt d [] W, y = (0, x.1, x.2, 0) := by
    have g : ∀ (i : Nat) (hi : i < (u_melt d [] W).length), rp ρ (i : Int) = (u_melt d [] W)[i] := fun i hi => by
      have := gs_get w3 i hi
      rw [show (0 : Int) + (i : Int) = (i : Int) by omega] at this; exact this
    constructor
    · rintro ⟨j, j0, j1, j2⟩
      exact ⟨rp ρ j, (li_im g).mp ⟨j, j0, by omega, rfl⟩, j2⟩
    · rintro ⟨x, x1, x2⟩
      obtain ⟨j, j0, j1, j2⟩ := (li_im g).mpr x1
      exact ⟨j, j0, by omega, by rw [j2]; exact x2⟩
  rw [hm, hr]; exact Or.comm
set_option maxHeartbeats 4000000 in
theorem e_findPlaces {G : j_G} {X : k_X} {n : Nat} {σ : k_St} (hn : 101 ≤ n) {pe : Int → Int} (hB : MB σ pe) {e c d : Int} (e0 : 0 ≤ e ∧ e < σ.2.1 68 25) (rc : c = 0 ∨ c = 1) (d0 : 0 ≤ d ∧ d ≤ 20) {lm : List Int} {U : Int → Prop} {Y : List q_T} (hlm : ∀ x, x ∈ lm ↔ m_is σ x) (hp : lm.Pairwise (m_lt σ)) (hUo : ∀ x, U x → ¬ ofP σ (pe e) x) (hU : UN σ U) (hE0 : 0 ≤ σ.2.1 68 32 ∧ σ.2.1 68 32 ≤ 50) (hYs : Y.Pairwise (fun x y => q_w c x < q_w c y)) (hYp : pl_spec (fun x => x ∈ b_ru (σ.1 17) (σ.1 19) (pgM σ) (pe e) lm (-9)) (b_ms (σ.1 17) (σ.1 19) (pgM σ) (σ.1 20) (pe e) lm) d Y)  : k_run G X mX12_findPlaces [.ref 68, j_i e, j_i d, j_i c] n σ 0 0 (fp_post n σ e (pe e) lm U Y) := by
  obtain ⟨hK, hP, hfl, hE, hok⟩ := id hB
  have hM := (KR_rg hK.1 hK.2.1).1.2.2
  have hE1 := hE.1
  refine k_enter (by decide +kernel) (Nat.le_of_ble_eq_true rfl) ?_
  show j_at _ _ _ [(0, .ref 68), (1, j_i e), (2, j_i d), (3, j_i c)] [] _ _ _ _
  refine a_aload_n (pc := 0) (i := 0) (by decide +kernel) rfl ?_
  refine b_getR (pc := 1) (b := 83) fl_X12_57 (by decide +kernel) (sh_68 hn) rfl ?_
  refine a_iload_n (pc := 4) (i := 1) (by decide +kernel) rfl ?_
  refine a_aload_n (pc := 5) (i := 0) (by decide +kernel) rfl ?_
  refine b_getI (pc := 6) fl_X12_327 (by decide +kernel) (sh_68 hn) rfl ?_
  refine b_iastore (pc := 9) (by decide +kernel) (sh_83 hn) (by omega) (by omega) (by omega) ?_
  obtain ⟨σ1, hσ1⟩ : ∃ z, z = k_sA σ 83 (j_up (σ.1 83) e (σ.2.1 68 32)) := ⟨_, rfl⟩
  rw [← hσ1]
  refine a_aload_n (pc := 10) (i := 0) (by decide +kernel) rfl ?_
  refine b_getR (pc := 11) (b := 82) fl_X12_54 (by decide +kernel) (sh_68 hn) rfl ?_
  refine a_iload_n (pc := 14) (i := 1) (by decide +kernel) rfl ?_
  refine a_iconst (pc := 15) (n := 0) (by decide +kernel) ?_
  refine b_iastore (pc := 16) (by decide +kernel) (sh_82 hn) (by omega) (by omega) (by omega) ?_
  obtain ⟨σ2, hσ2⟩ : ∃ z, z = k_sA σ1 82 (j_up (σ1.1 82) e 0) := ⟨_, rfl⟩
  rw [← hσ2]
  refine a_aload_n (pc := 17) (i := 0) (by decide +kernel) rfl ?_
  refine a_iload_n (pc := 18) (i := 1) (by decide +kernel) rfl ?_
  refine b_callV (pc := 19) (c' := 0) (sl' := 0) [j_i e] [] ml_X12_333 (by decide +kernel) rfl rfl (sh_68 hn) rfl rfl (Nat.le_of_ble_eq_true rfl) (j_fitI rfl rfl) (e_findRuns hn (MB_m (mfr_A (by omega) (mfr_A (by omega) mfr_r hσ1) hσ2) hB) (by rw [(mfr_A (by omega) (mfr_A (by omega) mfr_r hσ1) hσ2).2.1 68 25 (by omega)]; exact e0) (fun x => by rw [mfr_ms (mfr_A (by omega) (mfr_A (by omega) mfr_r hσ1) hσ2)]; exact hlm x) (by rw [mfr_lt (mfr_A (by omega) (mfr_A (by omega) mfr_r hσ1) hσ2)]; exact hp) (fun x w => by rw [mfr_of (mfr_A (by omega) (mfr_A (by omega) mfr_r hσ1) hσ2)]; exact hUo x w) (UN_cg (by rw [hσ2, k_AN (by omega), hσ1, k_AN (by omega)]) (by rw [hσ2, hσ1]; rfl) hU)) (fun v n' σ' hq => ?_)
  obtain ⟨rfl, rfl, g1, g2, g3, g4⟩ := hq
  obtain ⟨σ3, hσ3⟩ : ∃ z, z = σ' := ⟨_, rfl⟩
  rw [← hσ3] at g1 g2 g3 ⊢
  clear hσ3
  have m2 : mfr σ σ2 := (mfr_A (by omega) (mfr_A (by omega) mfr_r hσ1) hσ2)
  rw [m2.1 17 (by omega), m2.1 19 (by omega), mfr_pg m2] at g2
  rw [m2.1 17 (by omega), m2.1 19 (by omega)] at g3 g4
  simp only [mfr_of m2] at g4
  have m3 : mfr σ σ3 := mfr_t m2 (ufr_m g1)
  show j_at _ _ _ [(0, .ref 68), (1, j_i e), (2, j_i d), (3, j_i c)] [] _ _ _ _
  refine a_aload_n (pc := 22) (i := 0) (by decide +kernel) rfl ?_
  refine a_iload_n (pc := 23) (i := 1) (by decide +kernel) rfl ?_
  refine a_iload_n (pc := 24) (i := 2) (by decide +kernel) rfl ?_
  refine b_callV (pc := 25) (c' := 0) (sl' := 0) [j_i e, j_i d] [] ml_X12_336 (by decide +kernel) rfl rfl (sh_68 hn) rfl rfl (Nat.le_of_ble_eq_true rfl) (j_fitI rfl rfl) (e_thinRuns hn (MB_m m3 hB) (by rw [m3.2.1 68 25 (by omega)]; exact e0) d0 g2) (fun v n' σ' hq => ?_)
  obtain ⟨rfl, rfl, t1, t2, W, t3, t4, t5, t6⟩ := hq
  obtain ⟨σ4, hσ4⟩ : ∃ z, z = σ' := ⟨_, rfl⟩
  rw [← hσ4] at t1 t2 t5 t6 ⊢
  clear hσ4
  have m4 : mfr σ σ4 := mfr_t m3 (rfr_m t1)
  have eMA : MAm σ3 (pe e) = MAm σ (pe e) := by funext g; unfold MAm; simp only [mfr_hm m3]
  rw [eMA] at t4
  show j_at _ _ _ [(0, .ref 68), (1, j_i e), (2, j_i d), (3, j_i c)] [] _ _ _ _
  refine a_iconst (pc := 28) (n := 0) (by decide +kernel) ?_
  refine a_istore (pc := 29) (i := 4) (lv' := [(0, .ref 68), (1, j_i e), (2, j_i d), (3, j_i c), (4, j_i 0)]) (by decide +kernel) (Nat.le_of_ble_eq_true rfl) rfl ?_
  have hY := fp_Y (c := c) hB.1 hlm hYp t3 t4 t5 t6
  have hmk : ∀ y, mkS σ4 (pe e) (σ4.1 69 1382) y ↔ mkS σ (pe e) (σ.1 69 1382) y := fun y => by
    unfold mkS
    rw [m4.1 69 (by omega), m4.1 17 (by omega), m4.1 20 (by omega), mfr_pg m4]
    simp only [mfr_of m4]
  have n32 : σ4.2.1 68 32 = σ.2.1 68 32 := by rw [t1.2.1 68 32 (by omega), g1.2.1 68 32 (by omega), hσ2, hσ1]; rfl
  have n83 : σ4.1 83 = j_up (σ.1 83) e (σ.2.1 68 32) := by rw [t1.1 83 (by omega) (by omega), g1.1 83 (by omega) (by omega) (by omega), hσ2, k_AN (by omega), hσ1, k_AA]
  have n82 : σ4.1 82 = j_up (σ.1 82) e 0 := by rw [t1.1 82 (by omega) (by omega), g1.1 82 (by omega) (by omega) (by omega), hσ2, k_AA, hσ1, k_AN (by omega)]
  have n86 : σ4.1 86 = σ.1 86 := by rw [t1.1 86 (by omega) (by omega), g1.1 86 (by omega) (by omega) (by omega), hσ2, k_AN (by omega), hσ1, k_AN (by omega)]
  have hYd : ∀ x y, x ∈ Y → y ∈ Y → q_w c x = q_w c y → x = y := fun x y hx hy w => by
    obtain ⟨i, hi, ei⟩ := List.getElem_of_mem hx
    obtain ⟨j, hj, ej⟩ := List.getElem_of_mem hy
    rw [List.pairwise_iff_getElem] at hYs
    rcases Nat.lt_trichotomy i j with q | q | q
    · have := hYs i j hi hj q; rw [ei, ej] at this; omega
    · subst q; rw [← ei, ← ej]
    · have := hYs j i hj hi q; rw [ei, ej] at this; omega
  refine k_mono (fun v' n' ρ hq => ?_) (l_fp31 (σ := σ4) (Yq := fun y => y ∈ Y) hn (MB_m m4 hB) (by rw [m4.2.1 68 25 (by omega)]; exact e0) rc hYd (fun y w => (hY y).mp (by rw [hmk] at w; exact w)) t2 (by rw [n32]; exact hE0) 52 0 σ4 (by omega) (by omega) t2.1.1 plf_r (by omega) ⟨⟨by rw [n83, j_upS]; exact hE0.1, by rw [n82, j_upS]; omega, by rw [n83, n82, j_upS, j_upS, n32]; omega⟩, fun j j0 j1 => by rw [n82, j_upS] at j1; omega, fun i j i0 i1 j1 => by rw [n82, j_upS] at j1; omega, fun x => ⟨fun ⟨i, i0, i1, _⟩ => by rw [n82, j_upS] at i1; omega, fun ⟨j, j0, j1, _⟩ => by omega⟩⟩)
  obtain ⟨w1, w2, w3, w4⟩ := hq
  obtain ⟨x1, x2, x3, x4⟩ := w4
  have p83 : ρ.1 83 e = σ.2.1 68 32 := by rw [w3.1 83 (by omega) (by omega), n83, j_upS]
  rw [p83] at x1 x3 x4
  obtain ⟨fY, hq4⟩ := li_fn Y (0, 0, 0, 0)
  have hu := st_u (lt := q_lt c) (fun x => Int.lt_irrefl _) (fun x y z h1 h2 => Int.lt_trans h1 h2) x3 (li_so hq4 hYs) (fun x => by rw [x4, li_im hq4, ← hY, ← hmk]) x1.2.1 (by omega)
  refine ⟨w1, w2, ⟨fun c hc => by rw [w3.1 c (by omega) (by omega), t1.1 c (by omega) (by omega), g1.1 c (by omega) (by omega) (by omega), hσ2, k_AN (by omega), hσ1, k_AN (by omega)], fun c j hc => by rw [w3.2.1 c j (by omega), t1.2.1 c j (by omega), g1.2.1 c j (by omega), hσ2, hσ1]; rfl, by rw [w3.2.2.1, t1.2.2, g1.2.2, hσ2, hσ1]; rfl, fun j hj => ⟨by rw [w3.2.2.2.1 j hj, n82, j_upN hj], by rw [w3.1 83 (by omega) (by omega), n83, j_upN hj]⟩, fun j hj => by rw [w3.2.2.2.2 j (by rw [n83, j_upS]; exact hj), n86]⟩, UN_cg (by rw [w3.1 95 (by omega) (by omega), t1.1 95 (by omega) (by omega)]) (by rw [w3.2.1 68 43 (by omega), t1.2.1 68 43 (by omega)]) g3, g4, p83, hu.1, by omega, fun j hj => ?_⟩
  have := hu.2 j (by omega) (by omega)
  exact this.trans (hq4 j hj)
