/-- what the Model's build changes once the paths are there -/
def mfr (σ τ : k_St) : Prop := (∀ c, c < 82 ∨ 101 ≤ c → τ.1 c = σ.1 c) ∧ (∀ c j, ¬ (c = 68 ∧ 22 ≤ j ∧ j ≠ 25 ∧ j < 52) → τ.2.1 c j = σ.2.1 c j) ∧ τ.2.2 = σ.2.2
theorem mfr_r {σ : k_St} : mfr σ σ := ⟨fun _ _ => rfl, fun _ _ _ => rfl, rfl⟩
theorem mfr_t {σ τ ρ : k_St} (h : mfr σ τ) (g : mfr τ ρ) : mfr σ ρ := ⟨fun c q => (g.1 c q).trans (h.1 c q), fun c j q => (g.2.1 c j q).trans (h.2.1 c j q), g.2.2.trans h.2.2⟩
theorem mfr_I {σ τ ρ : k_St} {j : Nat} {x : Int} (hj : 22 ≤ j ∧ j ≠ 25 ∧ j < 52) (h : mfr σ τ) (e : ρ = k_sI τ 68 j x) : mfr σ ρ := by
  subst e; exact ⟨h.1, fun c i q => by rw [k_IN (by omega)]; exact h.2.1 c i q, h.2.2⟩
theorem mfr_A {σ τ ρ : k_St} {a : Nat} {f : Int → Int} (ha : 82 ≤ a ∧ a < 101) (h : mfr σ τ) (e : ρ = k_sA τ a f) : mfr σ ρ := by
  subst e; exact ⟨fun c hc => by rw [k_AN (by omega)]; exact h.1 c hc, h.2.1, h.2.2⟩
theorem mfr_b {σ τ : k_St} (h : b_fr σ τ) : mfr σ τ := ⟨fun c _ => by rw [h.1], fun c j q => h.2.1 c j (by omega), h.2.2⟩
def MB (σ : k_St) (pe : Int → Int) : Prop := RKept σ ∧ RPass σ ∧ (1 ≤ σ.2.1 68 11 ∧ σ.2.1 68 11 ≤ 50) ∧ pE σ pe ∧ ∀ e, 0 ≤ e → e < σ.2.1 68 25 → okp (h_is σ) (pe e)
theorem mfr_h {σ τ : k_St} (h : mfr σ τ) (x : Int) : h_is τ x ↔ h_is σ x := by unfold h_is; rw [h.1 15 (by omega), h.2.1 8 3 (by omega)]
theorem mfr_ms {σ τ : k_St} (h : mfr σ τ) {x : Int} : m_is τ x ↔ m_is σ x := by unfold m_is; rw [h.1 21 (by omega), h.2.1 16 5 (by omega)]
theorem MB_m {σ τ : k_St} {pe : Int → Int} (h : mfr σ τ) (hB : MB σ pe) : MB τ pe := by
  obtain ⟨a, b, c, d, e⟩ := hB
  refine ⟨RKept_cg (fun c _ _ => h.1 c (by omega)) (fun c j _ _ => h.2.1 c j (by omega)) (h.1 69 (by omega)) a, RPass_cg (h.1 _ (by omega)) (h.1 _ (by omega)) (h.1 _ (by omega)) (h.1 _ (by omega)) (h.2.1 _ _ (by omega)) (h.2.1 _ _ (by omega)) b, by rw [h.2.1 68 11 (by omega)]; exact c, by unfold pE; rw [h.1 81 (by omega), h.2.1 68 25 (by omega)]; exact d, ?_⟩
  rw [h.2.1 68 25 (by omega), show h_is τ = h_is σ from funext fun x => propext (mfr_h h x)]; exact e
theorem b_rg {σ : k_St} (hK : RKept σ) {m : Int} (m0 : 0 ≤ m) (m1 : m < σ.1 69 1382) : (0 ≤ σ.1 17 m ∧ σ.1 17 m ≤ 7) ∧ (0 ≤ σ.1 18 m ∧ σ.1 18 m ≤ 300) ∧ (0 ≤ σ.1 19 m ∧ σ.1 19 m ≤ 29790) ∧ (0 ≤ σ.1 20 m ∧ σ.1 20 m ≤ 99) := by
  have e : σ.2.1 16 5 = σ.1 69 1382 := hK.2.1.2.2.1
  have := hK.1.2.2.2.2 m m0 (by show m < σ.2.1 16 5; omega)
  exact this
theorem b_kind {G : j_G} {X : k_X} {n : Nat} {σ : k_St} (hn : 101 ≤ n) (hK : RKept σ) {m : Int} (m0 : 0 ≤ m) (m1 : m < σ.1 69 1382) : k_run G X mX12_kindOf [.ref 68, j_i m] n σ 0 0 (k_is n σ (some (j_i (σ.1 17 m)))) := by
  rw [(KR_m hK m0 m1).1]; exact s_dkindOf hn ⟨m0, by have := (KR_rg hK.1 hK.2.1).1.2.2; omega⟩
theorem b_gap {G : j_G} {X : k_X} {n : Nat} {σ : k_St} (hn : 101 ≤ n) (hK : RKept σ) {m : Int} (m0 : 0 ≤ m) (m1 : m < σ.1 69 1382) : k_run G X mX12_gapOf [.ref 68, j_i m] n σ 0 0 (k_is n σ (some (j_i (σ.1 18 m)))) := by
  rw [(KR_m hK m0 m1).2.1]; exact s_dgapOf hn ⟨m0, by have := (KR_rg hK.1 hK.2.1).1.2.2; omega⟩
theorem b_note {G : j_G} {X : k_X} {n : Nat} {σ : k_St} (hn : 101 ≤ n) (hK : RKept σ) {m : Int} (m0 : 0 ≤ m) (m1 : m < σ.1 69 1382) : k_run G X mX12_noteOf [.ref 68, j_i m] n σ 0 0 (k_is n σ (some (j_i (σ.1 20 m)))) := by
  rw [(KR_m hK m0 m1).2.2.1]; exact s_dnoteOf hn ⟨m0, by have := (KR_rg hK.1 hK.2.1).1.2.2; omega⟩
theorem b_head {G : j_G} {X : k_X} {n : Nat} {σ : k_St} (hn : 101 ≤ n) (hK : RKept σ) {m i : Int} (m0 : 0 ≤ m) (m1 : m < σ.1 69 1382) (hi : 0 ≤ i ∧ i < 3) : k_run G X mX12_headOf [.ref 68, j_i m, j_i i] n σ 0 0 (k_is n σ (some (j_i (f_head (σ.1 19 m) i)))) := by
  rw [(KR_m hK m0 m1).2.2.2 i hi.1 hi.2]; exact s_dheadOf hn ⟨m0, by have := (KR_rg hK.1 hK.2.1).1.2.2; omega⟩ hi
theorem b_page {G : j_G} {X : k_X} {n : Nat} {σ : k_St} (hn : 101 ≤ n) {pe : Int → Int} (hB : MB σ pe) {g : Int} (hg : 0 ≤ g ∧ g ≤ 300) : k_run G X mX12_pageOf [.ref 68, j_i g] n σ 0 0 (k_is n σ (some (j_i (f_page g (σ.2.1 68 11))))) := s_dpageOf hn hg hB.2.2.1
theorem b_isMark {G : j_G} {X : k_X} {n : Nat} {σ : k_St} (hn : 101 ≤ n) {pe : Int → Int} (hB : MB σ pe) {m : Int} (hm : -2147483648 ≤ m ∧ m ≤ 2147483647) : k_run G X mX12_isMark [.ref 68, j_i m] n σ 0 0 (k_b n σ (m_is σ m)) := by
  rw [← show d_ms σ m ↔ m_is σ m from RK_m' hB.1 m]; exact s_disMark hn hB.1.2.2.2 hm (KR_rg hB.1.1 hB.1.2.1).1.2.2
def ofP (σ : k_St) (p m : Int) : Prop := m_is σ m ∧ σ.1 17 m ≤ 5 ∧ σ.1 19 m = p
theorem mfr_of {σ τ : k_St} (h : mfr σ τ) {p m : Int} : ofP τ p m ↔ ofP σ p m := by unfold ofP; rw [mfr_ms h, h.1 17 (by omega), h.1 19 (by omega)]
theorem m_is_e {σ : k_St} (hK : RKept σ) {m : Int} (h : m_is σ m) : 0 ≤ m ∧ m < σ.1 69 1382 := by
  have e : σ.2.1 16 5 = σ.1 69 1382 := hK.2.1.2.2.1
  exact ⟨h.1, by have := h.2.1; omega⟩
theorem is_eq {σ : k_St} {pe : Int → Int} (hE : pE σ pe) {e q : Int} (hp : 0 ≤ pe e ∧ pe e ≤ 29790) (hq : 0 ≤ q ∧ q ≤ 29790) (e0 : 0 ≤ e ∧ e < σ.2.1 68 25) : d_ip (σ.1 81) e (f_head q 0) (f_head q 1) (f_head q 2) ↔ q = pe e := by
  unfold d_ip
  have z0 := hE.2 e 0 e0.1 e0.2 (by omega) (by omega)
  rw [show 3 * e + 0 = 3 * e by omega] at z0
  rw [z0, hE.2 e 1 e0.1 e0.2 (by omega) (by omega), hE.2 e 2 e0.1 e0.2 (by omega) (by omega)]
  constructor
  · rintro ⟨a, b, c⟩; exact hd_inj hq hp a.symm b.symm c.symm
  · intro w; rw [w]; exact ⟨rfl, rfl, rfl⟩
set_option maxHeartbeats 4000000 in
theorem e_isOf {G : j_G} {X : k_X} {n : Nat} {σ : k_St} (hn : 101 ≤ n) {pe : Int → Int} (hB : MB σ pe) {m e : Int} (hm : -2147483648 ≤ m ∧ m ≤ 2147483647) (e0 : 0 ≤ e ∧ e < σ.2.1 68 25) : k_run G X mX12_isOf [.ref 68, j_i m, j_i e] n σ 0 0 (k_b n σ (ofP σ (pe e) m)) := by
  obtain ⟨hK, hP, hfl, hE, hok⟩ := id hB
  have hM := (KR_rg hK.1 hK.2.1).1.2.2
  have hE1 := hE.1
  refine k_enter (by decide +kernel) (Nat.le_of_ble_eq_true rfl) ?_
  show j_at _ _ _ [(0, .ref 68), (1, j_i m), (2, j_i e)] [] _ _ _ _
  refine a_aload_n (pc := 0) (i := 0) (by decide +kernel) rfl ?_
  refine a_iload_n (pc := 1) (i := 1) (by decide +kernel) rfl ?_
  refine b_callV (pc := 2) (c' := 0) (sl' := 0) [j_i m] [] ml_X12_254 (by decide +kernel) rfl rfl (sh_68 hn) rfl rfl (Nat.le_of_ble_eq_true rfl) (j_fitI rfl rfl) (b_isMark hn hB (by omega)) (fun v n' σ' hq => ?_)
  obtain ⟨x, rfl, e1, e2, hx⟩ := hq
  rw [e1, e2]; clear e1 e2
  rcases hx with ⟨rfl, p2⟩ | ⟨rfl, p2⟩
  · show j_at _ _ _ [(0, .ref 68), (1, j_i m), (2, j_i e)] [j_i 1] _ _ _ _
    refine a_if_eq (pc := 5) (off := 43) (tgt := 48) (by decide +kernel) (by decide) (by omega) (fun c5 => ?_) (fun c5 => ?_)
    · exact absurd c5 (by decide)
    · have z := m_is_e hK p2
      have zr := b_rg hK z.1 z.2
      have zo := okp_in (hok e e0.1 e0.2)
      refine a_aload_n (pc := 8) (i := 0) (by decide +kernel) rfl ?_
      refine a_iload_n (pc := 9) (i := 1) (by decide +kernel) rfl ?_
      refine b_pureV (pc := 10) [j_i m] [] ml_X12_257 (by decide +kernel) rfl rfl (sh_68 hn) rfl rfl (Nat.le_of_ble_eq_true rfl) (j_fitI rfl rfl) (b_kind hn hB.1 (by omega) (by omega)) ?_
      have q1 := b_rg hB.1 (m := m) (by omega) (by omega)
      show j_at _ _ _ [(0, .ref 68), (1, j_i m), (2, j_i e)] [j_i (σ.1 17 m)] _ _ _ _
      refine a_bipush (pc := 13) (n := 6) (by decide +kernel) rfl ?_
      refine a_icmp_ge (pc := 15) (off := 33) (tgt := 48) (by decide +kernel) (by decide) (by omega) (by omega) (fun c15 => ?_) (fun c15 => ?_)
      · refine a_iconst (pc := 48) (n := 0) (by decide +kernel) ?_
        refine a_zreturn (pc := 49) (by decide +kernel) rfl (by omega) ?_
        refine k_ret ?_
        exact ⟨_, rfl, rfl, rfl, Or.inr ⟨rfl, fun w => by first | exact p2 w.1 | (have := w.2.1; omega) | exact p38 ((is_eq hE zo zr.2.2.1 e0).mpr w.2.2)⟩⟩
      · refine a_aload_n (pc := 18) (i := 0) (by decide +kernel) rfl ?_
        refine a_iload_n (pc := 19) (i := 2) (by decide +kernel) rfl ?_
        refine a_aload_n (pc := 20) (i := 0) (by decide +kernel) rfl ?_
        refine a_iload_n (pc := 21) (i := 1) (by decide +kernel) rfl ?_
        refine a_iconst (pc := 22) (n := 0) (by decide +kernel) ?_
        refine b_pureV (pc := 23) [j_i m, j_i 0] [j_i e, .ref 68] ml_X12_260 (by decide +kernel) rfl rfl (sh_68 hn) rfl rfl (Nat.le_of_ble_eq_true rfl) (j_fitI rfl rfl) (b_head hn hB.1 (by omega) (by omega) (by omega)) ?_
        have q2 := f_head_in (σ.1 19 m) 0
        show j_at _ _ _ [(0, .ref 68), (1, j_i m), (2, j_i e)] [j_i (f_head (σ.1 19 m) 0), j_i e, .ref 68] _ _ _ _
        refine a_aload_n (pc := 26) (i := 0) (by decide +kernel) rfl ?_
        refine a_iload_n (pc := 27) (i := 1) (by decide +kernel) rfl ?_
        refine a_iconst (pc := 28) (n := 1) (by decide +kernel) ?_
        refine b_pureV (pc := 29) [j_i m, j_i 1] [j_i (f_head (σ.1 19 m) 0), j_i e, .ref 68] ml_X12_260 (by decide +kernel) rfl rfl (sh_68 hn) rfl rfl (Nat.le_of_ble_eq_true rfl) (j_fitI rfl rfl) (b_head hn hB.1 (by omega) (by omega) (by omega)) ?_
        have q3 := f_head_in (σ.1 19 m) 1
        show j_at _ _ _ [(0, .ref 68), (1, j_i m), (2, j_i e)] [j_i (f_head (σ.1 19 m) 1), j_i (f_head (σ.1 19 m) 0), j_i e, .ref 68] _ _ _ _
        refine a_aload_n (pc := 32) (i := 0) (by decide +kernel) rfl ?_
        refine a_iload_n (pc := 33) (i := 1) (by decide +kernel) rfl ?_
        refine a_iconst (pc := 34) (n := 2) (by decide +kernel) ?_
        refine b_pureV (pc := 35) [j_i m, j_i 2] [j_i (f_head (σ.1 19 m) 1), j_i (f_head (σ.1 19 m) 0), j_i e, .ref 68] ml_X12_260 (by decide +kernel) rfl rfl (sh_68 hn) rfl rfl (Nat.le_of_ble_eq_true rfl) (j_fitI rfl rfl) (b_head hn hB.1 (by omega) (by omega) (by omega)) ?_
        have q4 := f_head_in (σ.1 19 m) 2
        show j_at _ _ _ [(0, .ref 68), (1, j_i m), (2, j_i e)] [j_i (f_head (σ.1 19 m) 2), j_i (f_head (σ.1 19 m) 1), j_i (f_head (σ.1 19 m) 0), j_i e, .ref 68] _ _ _ _
        refine b_callV (pc := 38) (c' := 0) (sl' := 0) [j_i e, j_i (f_head (σ.1 19 m) 0), j_i (f_head (σ.1 19 m) 1), j_i (f_head (σ.1 19 m) 2)] [] ml_X12_284 (by decide +kernel) rfl rfl (sh_68 hn) rfl rfl (Nat.le_of_ble_eq_true rfl) (j_fitI rfl rfl) (s_disPath hn (by omega) (pE_r hE) (by omega) (by omega) (by omega) (by omega)) (fun v n' σ' hq => ?_)
        obtain ⟨x, rfl, e1, e2, hx⟩ := hq
        rw [e1, e2]; clear e1 e2
        rcases hx with ⟨rfl, p38⟩ | ⟨rfl, p38⟩
        · show j_at _ _ _ [(0, .ref 68), (1, j_i m), (2, j_i e)] [j_i 1] _ _ _ _
          refine a_if_eq (pc := 41) (off := 7) (tgt := 48) (by decide +kernel) (by decide) (by omega) (fun c41 => ?_) (fun c41 => ?_)
          · exact absurd c41 (by decide)
          · refine a_iconst (pc := 44) (n := 1) (by decide +kernel) ?_
            refine a_goto (pc := 45) (off := 4) (tgt := 49) (by decide +kernel) (by decide) ?_
            refine a_zreturn (pc := 49) (by decide +kernel) rfl (by omega) ?_
            refine k_ret ?_
            exact ⟨_, rfl, rfl, rfl, Or.inl ⟨rfl, p2, by omega, (is_eq hE zo zr.2.2.1 e0).mp p38⟩⟩
        · show j_at _ _ _ [(0, .ref 68), (1, j_i m), (2, j_i e)] [j_i 0] _ _ _ _
          refine a_if_eq (pc := 41) (off := 7) (tgt := 48) (by decide +kernel) (by decide) (by omega) (fun c41 => ?_) (fun c41 => ?_)
          · refine a_iconst (pc := 48) (n := 0) (by decide +kernel) ?_
            refine a_zreturn (pc := 49) (by decide +kernel) rfl (by omega) ?_
            refine k_ret ?_
            exact ⟨_, rfl, rfl, rfl, Or.inr ⟨rfl, fun w => by first | exact p2 w.1 | (have := w.2.1; omega) | exact p38 ((is_eq hE zo zr.2.2.1 e0).mpr w.2.2)⟩⟩
          · exact absurd c41 (by decide)
  · show j_at _ _ _ [(0, .ref 68), (1, j_i m), (2, j_i e)] [j_i 0] _ _ _ _
    refine a_if_eq (pc := 5) (off := 43) (tgt := 48) (by decide +kernel) (by decide) (by omega) (fun c5 => ?_) (fun c5 => ?_)
    · refine a_iconst (pc := 48) (n := 0) (by decide +kernel) ?_
      refine a_zreturn (pc := 49) (by decide +kernel) rfl (by omega) ?_
      refine k_ret ?_
      exact ⟨_, rfl, rfl, rfl, Or.inr ⟨rfl, fun w => by first | exact p2 w.1 | (have := w.2.1; omega) | exact p38 ((is_eq hE zo zr.2.2.1 e0).mpr w.2.2)⟩⟩
    · exact absurd c5 (by decide)
set_option maxHeartbeats 4000000 in
theorem e_isBehind {G : j_G} {X : k_X} {n : Nat} {σ : k_St} (hn : 101 ≤ n) {pe : Int → Int} (hB : MB σ pe) {m q : Int} (hm : 0 ≤ m ∧ m < σ.1 69 1382) (hq : 0 ≤ q ∧ q < σ.1 69 1382) : k_run G X mX12_isBehind [.ref 68, j_i m, j_i q] n σ 0 0 (k_b n σ (m_lt σ q m)) := by
  obtain ⟨hK, hP, hfl, hE, hok⟩ := id hB
  have hM := (KR_rg hK.1 hK.2.1).1.2.2
  have hE1 := hE.1
  refine k_enter (by decide +kernel) (Nat.le_of_ble_eq_true rfl) ?_
  show j_at _ _ _ [(0, .ref 68), (1, j_i m), (2, j_i q)] [] _ _ _ _
  refine a_aload_n (pc := 0) (i := 0) (by decide +kernel) rfl ?_
  refine a_iload_n (pc := 1) (i := 1) (by decide +kernel) rfl ?_
  refine b_pureV (pc := 2) [j_i m] [] ml_X12_266 (by decide +kernel) rfl rfl (sh_68 hn) rfl rfl (Nat.le_of_ble_eq_true rfl) (j_fitI rfl rfl) (b_gap hn hB.1 (by omega) (by omega)) ?_
  have q1 := b_rg hB.1 (m := m) (by omega) (by omega)
  show j_at _ _ _ [(0, .ref 68), (1, j_i m), (2, j_i q)] [j_i (σ.1 18 m)] _ _ _ _
  refine a_aload_n (pc := 5) (i := 0) (by decide +kernel) rfl ?_
  refine a_iload_n (pc := 6) (i := 2) (by decide +kernel) rfl ?_
  refine b_pureV (pc := 7) [j_i q] [j_i (σ.1 18 m)] ml_X12_266 (by decide +kernel) rfl rfl (sh_68 hn) rfl rfl (Nat.le_of_ble_eq_true rfl) (j_fitI rfl rfl) (b_gap hn hB.1 (by omega) (by omega)) ?_
  have q2 := b_rg hB.1 (m := q) (by omega) (by omega)
  show j_at _ _ _ [(0, .ref 68), (1, j_i m), (2, j_i q)] [j_i (σ.1 18 q), j_i (σ.1 18 m)] _ _ _ _
  refine a_icmp_eq (pc := 10) (off := 24) (tgt := 34) (by decide +kernel) (by decide) (by omega) (by omega) (fun c10 => ?_) (fun c10 => ?_)
  · refine a_iload_n (pc := 34) (i := 1) (by decide +kernel) rfl ?_
    refine a_iload_n (pc := 35) (i := 2) (by decide +kernel) rfl ?_
    refine a_icmp_le (pc := 36) (off := 7) (tgt := 43) (by decide +kernel) (by decide) (by omega) (by omega) (fun c36 => ?_) (fun c36 => ?_)
    · refine a_iconst (pc := 43) (n := 0) (by decide +kernel) ?_
      refine a_zreturn (pc := 44) (by decide +kernel) rfl (by omega) ?_
      refine k_ret ?_
      exact ⟨_, rfl, rfl, rfl, Or.inr ⟨rfl, by unfold m_lt; omega⟩⟩
    · refine a_iconst (pc := 39) (n := 1) (by decide +kernel) ?_
      refine a_goto (pc := 40) (off := 4) (tgt := 44) (by decide +kernel) (by decide) ?_
      refine a_zreturn (pc := 44) (by decide +kernel) rfl (by omega) ?_
      refine k_ret ?_
      exact ⟨_, rfl, rfl, rfl, Or.inl ⟨rfl, by unfold m_lt; omega⟩⟩
  · refine a_aload_n (pc := 13) (i := 0) (by decide +kernel) rfl ?_
    refine a_iload_n (pc := 14) (i := 1) (by decide +kernel) rfl ?_
    refine b_pureV (pc := 15) [j_i m] [] ml_X12_266 (by decide +kernel) rfl rfl (sh_68 hn) rfl rfl (Nat.le_of_ble_eq_true rfl) (j_fitI rfl rfl) (b_gap hn hB.1 (by omega) (by omega)) ?_
    have q3 := b_rg hB.1 (m := m) (by omega) (by omega)
    show j_at _ _ _ [(0, .ref 68), (1, j_i m), (2, j_i q)] [j_i (σ.1 18 m)] _ _ _ _
    refine a_aload_n (pc := 18) (i := 0) (by decide +kernel) rfl ?_
    refine a_iload_n (pc := 19) (i := 2) (by decide +kernel) rfl ?_
    refine b_pureV (pc := 20) [j_i q] [j_i (σ.1 18 m)] ml_X12_266 (by decide +kernel) rfl rfl (sh_68 hn) rfl rfl (Nat.le_of_ble_eq_true rfl) (j_fitI rfl rfl) (b_gap hn hB.1 (by omega) (by omega)) ?_
    have q4 := b_rg hB.1 (m := q) (by omega) (by omega)
    show j_at _ _ _ [(0, .ref 68), (1, j_i m), (2, j_i q)] [j_i (σ.1 18 q), j_i (σ.1 18 m)] _ _ _ _
    refine a_icmp_le (pc := 23) (off := 7) (tgt := 30) (by decide +kernel) (by decide) (by omega) (by omega) (fun c23 => ?_) (fun c23 => ?_)
    · refine a_iconst (pc := 30) (n := 0) (by decide +kernel) ?_
      refine a_goto (pc := 31) (off := 13) (tgt := 44) (by decide +kernel) (by decide) ?_
      refine a_zreturn (pc := 44) (by decide +kernel) rfl (by omega) ?_
      refine k_ret ?_
      exact ⟨_, rfl, rfl, rfl, Or.inr ⟨rfl, by unfold m_lt; omega⟩⟩
    · refine a_iconst (pc := 26) (n := 1) (by decide +kernel) ?_
      refine a_goto (pc := 27) (off := 17) (tgt := 44) (by decide +kernel) (by decide) ?_
      refine a_zreturn (pc := 44) (by decide +kernel) rfl (by omega) ?_
      refine k_ret ?_
      exact ⟨_, rfl, rfl, rfl, Or.inl ⟨rfl, by unfold m_lt; omega⟩⟩
def bnd (σ : k_St) (p m : Int) : Prop := ofP σ p m ∧ (σ.1 17 m = 1 ∨ σ.1 17 m = 2)
def nb_c (σ : k_St) (p b m : Int) : Prop := bnd σ p m ∧ (b = -9 ∨ m_lt σ b m)
def nbP (σ : k_St) (p b k r : Int) : Prop := (r = -9 ∧ ∀ m, m < k → ¬ nb_c σ p b m) ∨ (0 ≤ r ∧ r < k ∧ nb_c σ p b r ∧ ∀ m, m < k → nb_c σ p b m → ¬ m_lt σ m r)
theorem m_lt_tr {σ : k_St} {x y z : Int} (h : m_lt σ x y) (g : m_lt σ y z) : m_lt σ x z := by unfold m_lt at *; omega
theorem nb_no {σ : k_St} {p b k r : Int} (h : nbP σ p b k r) (hk : ¬ nb_c σ p b k) : nbP σ p b (k + 1) r := by
  rcases h with ⟨a, c⟩ | ⟨a, c, d, e⟩
  · exact Or.inl ⟨a, fun m hm => by by_cases w : m = k; rw [w]; exact hk; exact c m (by omega)⟩
  · exact Or.inr ⟨a, by omega, d, fun m hm q => by by_cases w : m = k; rw [w] at q; exact absurd q hk; exact e m (by omega) q⟩
theorem nb_yes {σ : k_St} {p b k r : Int} (h : nbP σ p b k r) (k0 : 0 ≤ k) (hk : nb_c σ p b k) (hr : r = -9 ∨ m_lt σ k r) : nbP σ p b (k + 1) k := by
  refine Or.inr ⟨k0, by omega, hk, fun m hm q => ?_⟩
  by_cases w : m = k
  · rw [w]; unfold m_lt; omega
  · rcases h with ⟨_, c⟩ | ⟨a, c, d, e⟩
    · exact absurd q (c m (by omega))
    · have := e m (by omega) q
      rcases hr with hr | hr
      · omega
      · exact fun v => this (m_lt_tr v hr)
theorem nb_old {σ : k_St} {p b k r : Int} (h : nbP σ p b k r) (hr : r ≠ -9) (hk : ¬ m_lt σ k r) : nbP σ p b (k + 1) r := by
  rcases h with ⟨a, _⟩ | ⟨a, c, d, e⟩
  · exact absurd a hr
  · exact Or.inr ⟨a, by omega, d, fun m hm q => by by_cases w : m = k; rw [w]; exact hk; exact e m (by omega) q⟩
set_option maxHeartbeats 4000000 in
theorem l_nextBound {G : j_G} {X : k_X} {n : Nat} {σ : k_St} (hn : 101 ≤ n) {pe : Int → Int} (hB : MB σ pe) {e b : Int} (e0 : 0 ≤ e ∧ e < σ.2.1 68 25) (b0 : b = -9 ∨ (0 ≤ b ∧ b < σ.1 69 1382))  : ∀ (z : Nat) (k r : Int), 50 - k < (z : Int) → 0 ≤ k → k ≤ σ.1 69 1382 → nbP σ (pe e) b k r → j_at G mX12_nextBound 6 [(0, .ref 68), (1, j_i e), (2, j_i b), (3, j_i r), (4, j_i k)] [] (k_h X n σ) 0 0 (k_Q X (k_ex n σ (nbP σ (pe e) b (σ.1 69 1382)))) := by
  obtain ⟨hK, hP, hfl, hE, hok⟩ := id hB
  have hM := (KR_rg hK.1 hK.2.1).1.2.2
  have hE1 := hE.1
  intro z
  induction z with
  | zero => intro k r h1 h2 h3; exact absurd h1 (by omega)
  | succ z ih =>
    intro k r hz k0 kN hI
    have hr9 : r = -9 ∨ (0 ≤ r ∧ r < k) := by rcases hI with w | w; exact Or.inl w.1; exact Or.inr ⟨w.1, w.2.1⟩
    refine a_iload (pc := 6) (i := 4) (by decide +kernel) rfl ?_
    refine a_aload_n (pc := 8) (i := 0) (by decide +kernel) rfl ?_
    refine b_pureV (pc := 9) [] [j_i k] ml_X12_135 (by decide +kernel) rfl rfl (sh_68 hn) rfl rfl (Nat.le_of_ble_eq_true rfl) (j_fitI rfl rfl) (s_dmarksEver hn) ?_
    show j_at _ _ _ [(0, .ref 68), (1, j_i e), (2, j_i b), (3, j_i r), (4, j_i k)] [j_i (σ.1 69 1382), j_i k] _ _ _ _
    refine a_icmp_ge (pc := 12) (off := 77) (tgt := 89) (by decide +kernel) (by decide) (by omega) (by omega) (fun c12 => ?_) (fun c12 => ?_)
    · refine a_iload_n (pc := 89) (i := 3) (by decide +kernel) rfl ?_
      refine a_ireturn (pc := 90) (by decide +kernel) rfl ?_
      refine k_ret ?_
      exact ⟨_, rfl, rfl, rfl, by rw [show k = σ.1 69 1382 by omega] at hI; exact hI⟩
    · refine a_aload_n (pc := 15) (i := 0) (by decide +kernel) rfl ?_
      refine a_iload (pc := 16) (i := 4) (by decide +kernel) rfl ?_
      refine a_iload_n (pc := 18) (i := 1) (by decide +kernel) rfl ?_
      refine b_callV (pc := 19) (c' := 0) (sl' := 0) [j_i k, j_i e] [] ml_X12_304 (by decide +kernel) rfl rfl (sh_68 hn) rfl rfl (Nat.le_of_ble_eq_true rfl) (j_fitI rfl rfl) (e_isOf hn hB (by omega) (by omega)) (fun v n' σ' hq => ?_)
      obtain ⟨x, rfl, e1, e2, hx⟩ := hq
      rw [e1, e2]; clear e1 e2
      rcases hx with ⟨rfl, p19⟩ | ⟨rfl, p19⟩
      · show j_at _ _ _ [(0, .ref 68), (1, j_i e), (2, j_i b), (3, j_i r), (4, j_i k)] [j_i 1] _ _ _ _
        refine a_if_eq (pc := 22) (off := 61) (tgt := 83) (by decide +kernel) (by decide) (by omega) (fun c22 => ?_) (fun c22 => ?_)
        · exact absurd c22 (by decide)
        · refine a_aload_n (pc := 25) (i := 0) (by decide +kernel) rfl ?_
          refine a_iload (pc := 26) (i := 4) (by decide +kernel) rfl ?_
          refine b_pureV (pc := 28) [j_i k] [] ml_X12_257 (by decide +kernel) rfl rfl (sh_68 hn) rfl rfl (Nat.le_of_ble_eq_true rfl) (j_fitI rfl rfl) (b_kind hn hB.1 (by omega) (by omega)) ?_
          have q1 := b_rg hB.1 (m := k) (by omega) (by omega)
          show j_at _ _ _ [(0, .ref 68), (1, j_i e), (2, j_i b), (3, j_i r), (4, j_i k)] [j_i (σ.1 17 k)] _ _ _ _
          refine a_iconst (pc := 31) (n := 1) (by decide +kernel) ?_
          refine a_icmp_eq (pc := 32) (off := 13) (tgt := 45) (by decide +kernel) (by decide) (by omega) (by omega) (fun c32 => ?_) (fun c32 => ?_)
          · refine a_iload_n (pc := 45) (i := 2) (by decide +kernel) rfl ?_
            refine a_bipush (pc := 46) (n := (-9)) (by decide +kernel) rfl ?_
            refine a_icmp_eq (pc := 48) (off := 16) (tgt := 64) (by decide +kernel) (by decide) (by omega) (by omega) (fun c48 => ?_) (fun c48 => ?_)
            · refine a_iload_n (pc := 64) (i := 3) (by decide +kernel) rfl ?_
              refine a_bipush (pc := 65) (n := (-9)) (by decide +kernel) rfl ?_
              refine a_icmp_eq (pc := 67) (off := 13) (tgt := 80) (by decide +kernel) (by decide) (by omega) (by omega) (fun c67 => ?_) (fun c67 => ?_)
              · refine a_iload (pc := 80) (i := 4) (by decide +kernel) rfl ?_
                refine a_istore_n (pc := 82) (i := 3) (lv' := [(0, .ref 68), (1, j_i e), (2, j_i b), (3, j_i k), (4, j_i k)]) (by decide +kernel) (Nat.le_of_ble_eq_true rfl) rfl ?_
                refine a_iinc (pc := 83) (i := 4) (n := 1) (x := k) (lv' := [(0, .ref 68), (1, j_i e), (2, j_i b), (3, j_i k), (4, j_i (k + 1))]) (by decide +kernel) rfl (Nat.le_of_ble_eq_true rfl) rfl ?_
                refine a_goto (pc := 86) (off := -80) (tgt := 6) (by decide +kernel) (by decide) ?_
                exact ih (k + 1) k (by omega) (by omega) (by omega) (nb_yes hI k0 ⟨⟨p19, by omega⟩, by first | exact Or.inl c48 | exact Or.inr p55⟩ (by first | exact Or.inl c67 | exact Or.inr p74))
              · refine a_aload_n (pc := 70) (i := 0) (by decide +kernel) rfl ?_
                refine a_iload_n (pc := 71) (i := 3) (by decide +kernel) rfl ?_
                refine a_iload (pc := 72) (i := 4) (by decide +kernel) rfl ?_
                refine b_callV (pc := 74) (c' := 0) (sl' := 0) [j_i r, j_i k] [] ml_X12_308 (by decide +kernel) rfl rfl (sh_68 hn) rfl rfl (Nat.le_of_ble_eq_true rfl) (j_fitI rfl rfl) (e_isBehind hn hB (by omega) (by omega)) (fun v n' σ' hq => ?_)
                obtain ⟨x, rfl, e1, e2, hx⟩ := hq
                rw [e1, e2]; clear e1 e2
                rcases hx with ⟨rfl, p74⟩ | ⟨rfl, p74⟩
                · show j_at _ _ _ [(0, .ref 68), (1, j_i e), (2, j_i b), (3, j_i r), (4, j_i k)] [j_i 1] _ _ _ _
                  refine a_if_eq (pc := 77) (off := 6) (tgt := 83) (by decide +kernel) (by decide) (by omega) (fun c77 => ?_) (fun c77 => ?_)
                  · exact absurd c77 (by decide)
                  · refine a_iload (pc := 80) (i := 4) (by decide +kernel) rfl ?_
                    refine a_istore_n (pc := 82) (i := 3) (lv' := [(0, .ref 68), (1, j_i e), (2, j_i b), (3, j_i k), (4, j_i k)]) (by decide +kernel) (Nat.le_of_ble_eq_true rfl) rfl ?_
                    refine a_iinc (pc := 83) (i := 4) (n := 1) (x := k) (lv' := [(0, .ref 68), (1, j_i e), (2, j_i b), (3, j_i k), (4, j_i (k + 1))]) (by decide +kernel) rfl (Nat.le_of_ble_eq_true rfl) rfl ?_
                    refine a_goto (pc := 86) (off := -80) (tgt := 6) (by decide +kernel) (by decide) ?_
                    exact ih (k + 1) k (by omega) (by omega) (by omega) (nb_yes hI k0 ⟨⟨p19, by omega⟩, by first | exact Or.inl c48 | exact Or.inr p55⟩ (by first | exact Or.inl c67 | exact Or.inr p74))
                · show j_at _ _ _ [(0, .ref 68), (1, j_i e), (2, j_i b), (3, j_i r), (4, j_i k)] [j_i 0] _ _ _ _
                  refine a_if_eq (pc := 77) (off := 6) (tgt := 83) (by decide +kernel) (by decide) (by omega) (fun c77 => ?_) (fun c77 => ?_)
                  · refine a_iinc (pc := 83) (i := 4) (n := 1) (x := k) (lv' := [(0, .ref 68), (1, j_i e), (2, j_i b), (3, j_i r), (4, j_i (k + 1))]) (by decide +kernel) rfl (Nat.le_of_ble_eq_true rfl) rfl ?_
                    refine a_goto (pc := 86) (off := -80) (tgt := 6) (by decide +kernel) (by decide) ?_
                    exact ih (k + 1) r (by omega) (by omega) (by omega) (by first | exact nb_no hI (fun w => p19 w.1.1) | exact nb_no hI (fun w => by have := w.1.2; omega) | exact nb_no hI (fun w => by rcases w.2 with v | v; exact c48 v; exact p55 v) | exact nb_old hI c67 p74)
                  · exact absurd c77 (by decide)
            · refine a_aload_n (pc := 51) (i := 0) (by decide +kernel) rfl ?_
              refine a_iload (pc := 52) (i := 4) (by decide +kernel) rfl ?_
              refine a_iload_n (pc := 54) (i := 2) (by decide +kernel) rfl ?_
              refine b_callV (pc := 55) (c' := 0) (sl' := 0) [j_i k, j_i b] [] ml_X12_308 (by decide +kernel) rfl rfl (sh_68 hn) rfl rfl (Nat.le_of_ble_eq_true rfl) (j_fitI rfl rfl) (e_isBehind hn hB (by omega) (by omega)) (fun v n' σ' hq => ?_)
              obtain ⟨x, rfl, e1, e2, hx⟩ := hq
              rw [e1, e2]; clear e1 e2
              rcases hx with ⟨rfl, p55⟩ | ⟨rfl, p55⟩
              · show j_at _ _ _ [(0, .ref 68), (1, j_i e), (2, j_i b), (3, j_i r), (4, j_i k)] [j_i 1] _ _ _ _
                refine a_if_ne (pc := 58) (off := 6) (tgt := 64) (by decide +kernel) (by decide) (by omega) (fun c58 => ?_) (fun c58 => ?_)
                · refine a_iload_n (pc := 64) (i := 3) (by decide +kernel) rfl ?_
                  refine a_bipush (pc := 65) (n := (-9)) (by decide +kernel) rfl ?_
                  refine a_icmp_eq (pc := 67) (off := 13) (tgt := 80) (by decide +kernel) (by decide) (by omega) (by omega) (fun c67 => ?_) (fun c67 => ?_)
                  · refine a_iload (pc := 80) (i := 4) (by decide +kernel) rfl ?_
                    refine a_istore_n (pc := 82) (i := 3) (lv' := [(0, .ref 68), (1, j_i e), (2, j_i b), (3, j_i k), (4, j_i k)]) (by decide +kernel) (Nat.le_of_ble_eq_true rfl) rfl ?_
                    refine a_iinc (pc := 83) (i := 4) (n := 1) (x := k) (lv' := [(0, .ref 68), (1, j_i e), (2, j_i b), (3, j_i k), (4, j_i (k + 1))]) (by decide +kernel) rfl (Nat.le_of_ble_eq_true rfl) rfl ?_
                    refine a_goto (pc := 86) (off := -80) (tgt := 6) (by decide +kernel) (by decide) ?_
                    exact ih (k + 1) k (by omega) (by omega) (by omega) (nb_yes hI k0 ⟨⟨p19, by omega⟩, by first | exact Or.inl c48 | exact Or.inr p55⟩ (by first | exact Or.inl c67 | exact Or.inr p74))
                  · refine a_aload_n (pc := 70) (i := 0) (by decide +kernel) rfl ?_
                    refine a_iload_n (pc := 71) (i := 3) (by decide +kernel) rfl ?_
                    refine a_iload (pc := 72) (i := 4) (by decide +kernel) rfl ?_
                    refine b_callV (pc := 74) (c' := 0) (sl' := 0) [j_i r, j_i k] [] ml_X12_308 (by decide +kernel) rfl rfl (sh_68 hn) rfl rfl (Nat.le_of_ble_eq_true rfl) (j_fitI rfl rfl) (e_isBehind hn hB (by omega) (by omega)) (fun v n' σ' hq => ?_)
                    obtain ⟨x, rfl, e1, e2, hx⟩ := hq
                    rw [e1, e2]; clear e1 e2
                    rcases hx with ⟨rfl, p74⟩ | ⟨rfl, p74⟩
                    · show j_at _ _ _ [(0, .ref 68), (1, j_i e), (2, j_i b), (3, j_i r), (4, j_i k)] [j_i 1] _ _ _ _
                      refine a_if_eq (pc := 77) (off := 6) (tgt := 83) (by decide +kernel) (by decide) (by omega) (fun c77 => ?_) (fun c77 => ?_)
                      · exact absurd c77 (by decide)
                      · refine a_iload (pc := 80) (i := 4) (by decide +kernel) rfl ?_
                        refine a_istore_n (pc := 82) (i := 3) (lv' := [(0, .ref 68), (1, j_i e), (2, j_i b), (3, j_i k), (4, j_i k)]) (by decide +kernel) (Nat.le_of_ble_eq_true rfl) rfl ?_
                        refine a_iinc (pc := 83) (i := 4) (n := 1) (x := k) (lv' := [(0, .ref 68), (1, j_i e), (2, j_i b), (3, j_i k), (4, j_i (k + 1))]) (by decide +kernel) rfl (Nat.le_of_ble_eq_true rfl) rfl ?_
                        refine a_goto (pc := 86) (off := -80) (tgt := 6) (by decide +kernel) (by decide) ?_
                        exact ih (k + 1) k (by omega) (by omega) (by omega) (nb_yes hI k0 ⟨⟨p19, by omega⟩, by first | exact Or.inl c48 | exact Or.inr p55⟩ (by first | exact Or.inl c67 | exact Or.inr p74))
                    · show j_at _ _ _ [(0, .ref 68), (1, j_i e), (2, j_i b), (3, j_i r), (4, j_i k)] [j_i 0] _ _ _ _
                      refine a_if_eq (pc := 77) (off := 6) (tgt := 83) (by decide +kernel) (by decide) (by omega) (fun c77 => ?_) (fun c77 => ?_)
                      · refine a_iinc (pc := 83) (i := 4) (n := 1) (x := k) (lv' := [(0, .ref 68), (1, j_i e), (2, j_i b), (3, j_i r), (4, j_i (k + 1))]) (by decide +kernel) rfl (Nat.le_of_ble_eq_true rfl) rfl ?_
                        refine a_goto (pc := 86) (off := -80) (tgt := 6) (by decide +kernel) (by decide) ?_
                        exact ih (k + 1) r (by omega) (by omega) (by omega) (by first | exact nb_no hI (fun w => p19 w.1.1) | exact nb_no hI (fun w => by have := w.1.2; omega) | exact nb_no hI (fun w => by rcases w.2 with v | v; exact c48 v; exact p55 v) | exact nb_old hI c67 p74)
                      · exact absurd c77 (by decide)
                · exact absurd c58 (by decide)
              · show j_at _ _ _ [(0, .ref 68), (1, j_i e), (2, j_i b), (3, j_i r), (4, j_i k)] [j_i 0] _ _ _ _
                refine a_if_ne (pc := 58) (off := 6) (tgt := 64) (by decide +kernel) (by decide) (by omega) (fun c58 => ?_) (fun c58 => ?_)
                · exact absurd c58 (by decide)
                · refine a_goto (pc := 61) (off := 22) (tgt := 83) (by decide +kernel) (by decide) ?_
                  refine a_iinc (pc := 83) (i := 4) (n := 1) (x := k) (lv' := [(0, .ref 68), (1, j_i e), (2, j_i b), (3, j_i r), (4, j_i (k + 1))]) (by decide +kernel) rfl (Nat.le_of_ble_eq_true rfl) rfl ?_
                  refine a_goto (pc := 86) (off := -80) (tgt := 6) (by decide +kernel) (by decide) ?_
                  exact ih (k + 1) r (by omega) (by omega) (by omega) (by first | exact nb_no hI (fun w => p19 w.1.1) | exact nb_no hI (fun w => by have := w.1.2; omega) | exact nb_no hI (fun w => by rcases w.2 with v | v; exact c48 v; exact p55 v) | exact nb_old hI c67 p74)
          · refine a_aload_n (pc := 35) (i := 0) (by decide +kernel) rfl ?_
            refine a_iload (pc := 36) (i := 4) (by decide +kernel) rfl ?_
            refine b_pureV (pc := 38) [j_i k] [] ml_X12_257 (by decide +kernel) rfl rfl (sh_68 hn) rfl rfl (Nat.le_of_ble_eq_true rfl) (j_fitI rfl rfl) (b_kind hn hB.1 (by omega) (by omega)) ?_
            have q2 := b_rg hB.1 (m := k) (by omega) (by omega)
            show j_at _ _ _ [(0, .ref 68), (1, j_i e), (2, j_i b), (3, j_i r), (4, j_i k)] [j_i (σ.1 17 k)] _ _ _ _
            refine a_iconst (pc := 41) (n := 2) (by decide +kernel) ?_
            refine a_icmp_ne (pc := 42) (off := 41) (tgt := 83) (by decide +kernel) (by decide) (by omega) (by omega) (fun c42 => ?_) (fun c42 => ?_)
            · refine a_iinc (pc := 83) (i := 4) (n := 1) (x := k) (lv' := [(0, .ref 68), (1, j_i e), (2, j_i b), (3, j_i r), (4, j_i (k + 1))]) (by decide +kernel) rfl (Nat.le_of_ble_eq_true rfl) rfl ?_
              refine a_goto (pc := 86) (off := -80) (tgt := 6) (by decide +kernel) (by decide) ?_
              exact ih (k + 1) r (by omega) (by omega) (by omega) (by first | exact nb_no hI (fun w => p19 w.1.1) | exact nb_no hI (fun w => by have := w.1.2; omega) | exact nb_no hI (fun w => by rcases w.2 with v | v; exact c48 v; exact p55 v) | exact nb_old hI c67 p74)
            · refine a_iload_n (pc := 45) (i := 2) (by decide +kernel) rfl ?_
              refine a_bipush (pc := 46) (n := (-9)) (by decide +kernel) rfl ?_
              refine a_icmp_eq (pc := 48) (off := 16) (tgt := 64) (by decide +kernel) (by decide) (by omega) (by omega) (fun c48 => ?_) (fun c48 => ?_)
              · refine a_iload_n (pc := 64) (i := 3) (by decide +kernel) rfl ?_
                refine a_bipush (pc := 65) (n := (-9)) (by decide +kernel) rfl ?_
                refine a_icmp_eq (pc := 67) (off := 13) (tgt := 80) (by decide +kernel) (by decide) (by omega) (by omega) (fun c67 => ?_) (fun c67 => ?_)
                · refine a_iload (pc := 80) (i := 4) (by decide +kernel) rfl ?_
                  refine a_istore_n (pc := 82) (i := 3) (lv' := [(0, .ref 68), (1, j_i e), (2, j_i b), (3, j_i k), (4, j_i k)]) (by decide +kernel) (Nat.le_of_ble_eq_true rfl) rfl ?_
                  refine a_iinc (pc := 83) (i := 4) (n := 1) (x := k) (lv' := [(0, .ref 68), (1, j_i e), (2, j_i b), (3, j_i k), (4, j_i (k + 1))]) (by decide +kernel) rfl (Nat.le_of_ble_eq_true rfl) rfl ?_
                  refine a_goto (pc := 86) (off := -80) (tgt := 6) (by decide +kernel) (by decide) ?_
                  exact ih (k + 1) k (by omega) (by omega) (by omega) (nb_yes hI k0 ⟨⟨p19, by omega⟩, by first | exact Or.inl c48 | exact Or.inr p55⟩ (by first | exact Or.inl c67 | exact Or.inr p74))
                · refine a_aload_n (pc := 70) (i := 0) (by decide +kernel) rfl ?_
                  refine a_iload_n (pc := 71) (i := 3) (by decide +kernel) rfl ?_
                  refine a_iload (pc := 72) (i := 4) (by decide +kernel) rfl ?_
                  refine b_callV (pc := 74) (c' := 0) (sl' := 0) [j_i r, j_i k] [] ml_X12_308 (by decide +kernel) rfl rfl (sh_68 hn) rfl rfl (Nat.le_of_ble_eq_true rfl) (j_fitI rfl rfl) (e_isBehind hn hB (by omega) (by omega)) (fun v n' σ' hq => ?_)
                  obtain ⟨x, rfl, e1, e2, hx⟩ := hq
                  rw [e1, e2]; clear e1 e2
                  rcases hx with ⟨rfl, p74⟩ | ⟨rfl, p74⟩
                  · show j_at _ _ _ [(0, .ref 68), (1, j_i e), (2, j_i b), (3, j_i r), (4, j_i k)] [j_i 1] _ _ _ _
                    refine a_if_eq (pc := 77) (off := 6) (tgt := 83) (by decide +kernel) (by decide) (by omega) (fun c77 => ?_) (fun c77 => ?_)
                    · exact absurd c77 (by decide)
                    · refine a_iload (pc := 80) (i := 4) (by decide +kernel) rfl ?_
                      refine a_istore_n (pc := 82) (i := 3) (lv' := [(0, .ref 68), (1, j_i e), (2, j_i b), (3, j_i k), (4, j_i k)]) (by decide +kernel) (Nat.le_of_ble_eq_true rfl) rfl ?_
                      refine a_iinc (pc := 83) (i := 4) (n := 1) (x := k) (lv' := [(0, .ref 68), (1, j_i e), (2, j_i b), (3, j_i k), (4, j_i (k + 1))]) (by decide +kernel) rfl (Nat.le_of_ble_eq_true rfl) rfl ?_
                      refine a_goto (pc := 86) (off := -80) (tgt := 6) (by decide +kernel) (by decide) ?_
                      exact ih (k + 1) k (by omega) (by omega) (by omega) (nb_yes hI k0 ⟨⟨p19, by omega⟩, by first | exact Or.inl c48 | exact Or.inr p55⟩ (by first | exact Or.inl c67 | exact Or.inr p74))
                  · show j_at _ _ _ [(0, .ref 68), (1, j_i e), (2, j_i b), (3, j_i r), (4, j_i k)] [j_i 0] _ _ _ _
                    refine a_if_eq (pc := 77) (off := 6) (tgt := 83) (by decide +kernel) (by decide) (by omega) (fun c77 => ?_) (fun c77 => ?_)
                    · refine a_iinc (pc := 83) (i := 4) (n := 1) (x := k) (lv' := [(0, .ref 68), (1, j_i e), (2, j_i b), (3, j_i r), (4, j_i (k + 1))]) (by decide +kernel) rfl (Nat.le_of_ble_eq_true rfl) rfl ?_
                      refine a_goto (pc := 86) (off := -80) (tgt := 6) (by decide +kernel) (by decide) ?_
                      exact ih (k + 1) r (by omega) (by omega) (by omega) (by first | exact nb_no hI (fun w => p19 w.1.1) | exact nb_no hI (fun w => by have := w.1.2; omega) | exact nb_no hI (fun w => by rcases w.2 with v | v; exact c48 v; exact p55 v) | exact nb_old hI c67 p74)
                    · exact absurd c77 (by decide)
              · refine a_aload_n (pc := 51) (i := 0) (by decide +kernel) rfl ?_
                refine a_iload (pc := 52) (i := 4) (by decide +kernel) rfl ?_
                refine a_iload_n (pc := 54) (i := 2) (by decide +kernel) rfl ?_
                refine b_callV (pc := 55) (c' := 0) (sl' := 0) [j_i k, j_i b] [] ml_X12_308 (by decide +kernel) rfl rfl (sh_68 hn) rfl rfl (Nat.le_of_ble_eq_true rfl) (j_fitI rfl rfl) (e_isBehind hn hB (by omega) (by omega)) (fun v n' σ' hq => ?_)
                obtain ⟨x, rfl, e1, e2, hx⟩ := hq
                rw [e1, e2]; clear e1 e2
                rcases hx with ⟨rfl, p55⟩ | ⟨rfl, p55⟩
                · show j_at _ _ _ [(0, .ref 68), (1, j_i e), (2, j_i b), (3, j_i r), (4, j_i k)] [j_i 1] _ _ _ _
                  refine a_if_ne (pc := 58) (off := 6) (tgt := 64) (by decide +kernel) (by decide) (by omega) (fun c58 => ?_) (fun c58 => ?_)
                  · refine a_iload_n (pc := 64) (i := 3) (by decide +kernel) rfl ?_
                    refine a_bipush (pc := 65) (n := (-9)) (by decide +kernel) rfl ?_
                    refine a_icmp_eq (pc := 67) (off := 13) (tgt := 80) (by decide +kernel) (by decide) (by omega) (by omega) (fun c67 => ?_) (fun c67 => ?_)
                    · refine a_iload (pc := 80) (i := 4) (by decide +kernel) rfl ?_
                      refine a_istore_n (pc := 82) (i := 3) (lv' := [(0, .ref 68), (1, j_i e), (2, j_i b), (3, j_i k), (4, j_i k)]) (by decide +kernel) (Nat.le_of_ble_eq_true rfl) rfl ?_
                      refine a_iinc (pc := 83) (i := 4) (n := 1) (x := k) (lv' := [(0, .ref 68), (1, j_i e), (2, j_i b), (3, j_i k), (4, j_i (k + 1))]) (by decide +kernel) rfl (Nat.le_of_ble_eq_true rfl) rfl ?_
                      refine a_goto (pc := 86) (off := -80) (tgt := 6) (by decide +kernel) (by decide) ?_
                      exact ih (k + 1) k (by omega) (by omega) (by omega) (nb_yes hI k0 ⟨⟨p19, by omega⟩, by first | exact Or.inl c48 | exact Or.inr p55⟩ (by first | exact Or.inl c67 | exact Or.inr p74))
                    · refine a_aload_n (pc := 70) (i := 0) (by decide +kernel) rfl ?_
                      refine a_iload_n (pc := 71) (i := 3) (by decide +kernel) rfl ?_
                      refine a_iload (pc := 72) (i := 4) (by decide +kernel) rfl ?_
                      refine b_callV (pc := 74) (c' := 0) (sl' := 0) [j_i r, j_i k] [] ml_X12_308 (by decide +kernel) rfl rfl (sh_68 hn) rfl rfl (Nat.le_of_ble_eq_true rfl) (j_fitI rfl rfl) (e_isBehind hn hB (by omega) (by omega)) (fun v n' σ' hq => ?_)
                      obtain ⟨x, rfl, e1, e2, hx⟩ := hq
                      rw [e1, e2]; clear e1 e2
                      rcases hx with ⟨rfl, p74⟩ | ⟨rfl, p74⟩
                      · show j_at _ _ _ [(0, .ref 68), (1, j_i e), (2, j_i b), (3, j_i r), (4, j_i k)] [j_i 1] _ _ _ _
                        refine a_if_eq (pc := 77) (off := 6) (tgt := 83) (by decide +kernel) (by decide) (by omega) (fun c77 => ?_) (fun c77 => ?_)
                        · exact absurd c77 (by decide)
                        · refine a_iload (pc := 80) (i := 4) (by decide +kernel) rfl ?_
                          refine a_istore_n (pc := 82) (i := 3) (lv' := [(0, .ref 68), (1, j_i e), (2, j_i b), (3, j_i k), (4, j_i k)]) (by decide +kernel) (Nat.le_of_ble_eq_true rfl) rfl ?_
                          refine a_iinc (pc := 83) (i := 4) (n := 1) (x := k) (lv' := [(0, .ref 68), (1, j_i e), (2, j_i b), (3, j_i k), (4, j_i (k + 1))]) (by decide +kernel) rfl (Nat.le_of_ble_eq_true rfl) rfl ?_
                          refine a_goto (pc := 86) (off := -80) (tgt := 6) (by decide +kernel) (by decide) ?_
                          exact ih (k + 1) k (by omega) (by omega) (by omega) (nb_yes hI k0 ⟨⟨p19, by omega⟩, by first | exact Or.inl c48 | exact Or.inr p55⟩ (by first | exact Or.inl c67 | exact Or.inr p74))
                      · show j_at _ _ _ [(0, .ref 68), (1, j_i e), (2, j_i b), (3, j_i r), (4, j_i k)] [j_i 0] _ _ _ _
                        refine a_if_eq (pc := 77) (off := 6) (tgt := 83) (by decide +kernel) (by decide) (by omega) (fun c77 => ?_) (fun c77 => ?_)
                        · refine a_iinc (pc := 83) (i := 4) (n := 1) (x := k) (lv' := [(0, .ref 68), (1, j_i e), (2, j_i b), (3, j_i r), (4, j_i (k + 1))]) (by decide +kernel) rfl (Nat.le_of_ble_eq_true rfl) rfl ?_
                          refine a_goto (pc := 86) (off := -80) (tgt := 6) (by decide +kernel) (by decide) ?_
                          exact ih (k + 1) r (by omega) (by omega) (by omega) (by first | exact nb_no hI (fun w => p19 w.1.1) | exact nb_no hI (fun w => by have := w.1.2; omega) | exact nb_no hI (fun w => by rcases w.2 with v | v; exact c48 v; exact p55 v) | exact nb_old hI c67 p74)
                        · exact absurd c77 (by decide)
                  · exact absurd c58 (by decide)
                · show j_at _ _ _ [(0, .ref 68), (1, j_i e), (2, j_i b), (3, j_i r), (4, j_i k)] [j_i 0] _ _ _ _
                  refine a_if_ne (pc := 58) (off := 6) (tgt := 64) (by decide +kernel) (by decide) (by omega) (fun c58 => ?_) (fun c58 => ?_)
                  · exact absurd c58 (by decide)
                  · refine a_goto (pc := 61) (off := 22) (tgt := 83) (by decide +kernel) (by decide) ?_
                    refine a_iinc (pc := 83) (i := 4) (n := 1) (x := k) (lv' := [(0, .ref 68), (1, j_i e), (2, j_i b), (3, j_i r), (4, j_i (k + 1))]) (by decide +kernel) rfl (Nat.le_of_ble_eq_true rfl) rfl ?_
                    refine a_goto (pc := 86) (off := -80) (tgt := 6) (by decide +kernel) (by decide) ?_
                    exact ih (k + 1) r (by omega) (by omega) (by omega) (by first | exact nb_no hI (fun w => p19 w.1.1) | exact nb_no hI (fun w => by have := w.1.2; omega) | exact nb_no hI (fun w => by rcases w.2 with v | v; exact c48 v; exact p55 v) | exact nb_old hI c67 p74)
      · show j_at _ _ _ [(0, .ref 68), (1, j_i e), (2, j_i b), (3, j_i r), (4, j_i k)] [j_i 0] _ _ _ _
        refine a_if_eq (pc := 22) (off := 61) (tgt := 83) (by decide +kernel) (by decide) (by omega) (fun c22 => ?_) (fun c22 => ?_)
        · refine a_iinc (pc := 83) (i := 4) (n := 1) (x := k) (lv' := [(0, .ref 68), (1, j_i e), (2, j_i b), (3, j_i r), (4, j_i (k + 1))]) (by decide +kernel) rfl (Nat.le_of_ble_eq_true rfl) rfl ?_
          refine a_goto (pc := 86) (off := -80) (tgt := 6) (by decide +kernel) (by decide) ?_
          exact ih (k + 1) r (by omega) (by omega) (by omega) (by first | exact nb_no hI (fun w => p19 w.1.1) | exact nb_no hI (fun w => by have := w.1.2; omega) | exact nb_no hI (fun w => by rcases w.2 with v | v; exact c48 v; exact p55 v) | exact nb_old hI c67 p74)
        · exact absurd c22 (by decide)
set_option maxHeartbeats 4000000 in
theorem e_nextBound {G : j_G} {X : k_X} {n : Nat} {σ : k_St} (hn : 101 ≤ n) {pe : Int → Int} (hB : MB σ pe) {e b : Int} (e0 : 0 ≤ e ∧ e < σ.2.1 68 25) (b0 : b = -9 ∨ (0 ≤ b ∧ b < σ.1 69 1382))  : k_run G X mX12_nextBound [.ref 68, j_i e, j_i b] n σ 0 0 (k_ex n σ (nbP σ (pe e) b (σ.1 69 1382))) := by
  obtain ⟨hK, hP, hfl, hE, hok⟩ := id hB
  have hM := (KR_rg hK.1 hK.2.1).1.2.2
  have hE1 := hE.1
  refine k_enter (by decide +kernel) (Nat.le_of_ble_eq_true rfl) ?_
  show j_at _ _ _ [(0, .ref 68), (1, j_i e), (2, j_i b)] [] _ _ _ _
  refine a_bipush (pc := 0) (n := (-9)) (by decide +kernel) rfl ?_
  refine a_istore_n (pc := 2) (i := 3) (lv' := [(0, .ref 68), (1, j_i e), (2, j_i b), (3, j_i (-9))]) (by decide +kernel) (Nat.le_of_ble_eq_true rfl) rfl ?_
  refine a_iconst (pc := 3) (n := 0) (by decide +kernel) ?_
  refine a_istore (pc := 4) (i := 4) (lv' := [(0, .ref 68), (1, j_i e), (2, j_i b), (3, j_i (-9)), (4, j_i 0)]) (by decide +kernel) (Nat.le_of_ble_eq_true rfl) rfl ?_
  exact l_nextBound hn hB e0 b0 52 0 (-9) (by omega) (by omega) (by omega) (Or.inl ⟨rfl, fun m hm w => by have := w.1.1.1.1; omega⟩)
def hmP (σ : k_St) (p g m : Int) : Prop := ofP σ p m ∧ σ.1 17 m = 3 ∧ f_page (σ.1 18 m) (σ.2.1 68 11) = g
theorem hm_no {P : Int → Prop} {b k : Int} (h : b = 1 ↔ ∃ m, m < k ∧ P m) (hk : ¬ P k) : b = 1 ↔ ∃ m, m < k + 1 ∧ P m := by
  rw [h]
  constructor
  · rintro ⟨m, a, c⟩; exact ⟨m, by omega, c⟩
  · rintro ⟨m, a, c⟩
    by_cases e : m = k
    · rw [e] at c; exact absurd c hk
    · exact ⟨m, by omega, c⟩
set_option maxHeartbeats 4000000 in
theorem l_hasMain {G : j_G} {X : k_X} {n : Nat} {σ : k_St} (hn : 101 ≤ n) {pe : Int → Int} (hB : MB σ pe) {e g : Int} (e0 : 0 ≤ e ∧ e < σ.2.1 68 25) (g0 : 0 ≤ g ∧ g ≤ 299)  : ∀ (z : Nat) (k b : Int), 50 - k < (z : Int) → 0 ≤ k → k ≤ σ.1 69 1382 → (b = 0 ∨ b = 1) → (b = 1 ↔ ∃ m, m < k ∧ hmP σ (pe e) g m) → j_at G mX12_hasMain 5 [(0, .ref 68), (1, j_i e), (2, j_i g), (3, j_i b), (4, j_i k)] [] (k_h X n σ) 0 0 (k_Q X (k_b n σ (∃ m, hmP σ (pe e) g m))) := by
  obtain ⟨hK, hP, hfl, hE, hok⟩ := id hB
  have hM := (KR_rg hK.1 hK.2.1).1.2.2
  have hE1 := hE.1
  intro z
  induction z with
  | zero => intro k b h1 h2 h3; exact absurd h1 (by omega)
  | succ z ih =>
    intro k b hz k0 kN hb01 hI
    refine a_iload (pc := 5) (i := 4) (by decide +kernel) rfl ?_
    refine a_aload_n (pc := 7) (i := 0) (by decide +kernel) rfl ?_
    refine b_pureV (pc := 8) [] [j_i k] ml_X12_135 (by decide +kernel) rfl rfl (sh_68 hn) rfl rfl (Nat.le_of_ble_eq_true rfl) (j_fitI rfl rfl) (s_dmarksEver hn) ?_
    show j_at _ _ _ [(0, .ref 68), (1, j_i e), (2, j_i g), (3, j_i b), (4, j_i k)] [j_i (σ.1 69 1382), j_i k] _ _ _ _
    refine a_icmp_ge (pc := 11) (off := 51) (tgt := 62) (by decide +kernel) (by decide) (by omega) (by omega) (fun c11 => ?_) (fun c11 => ?_)
    · refine a_iload_n (pc := 62) (i := 3) (by decide +kernel) rfl ?_
      refine a_zreturn (pc := 63) (by decide +kernel) rfl hb01 ?_
      refine k_ret ?_
      refine ⟨b, rfl, rfl, rfl, ?_⟩
      rw [show k = σ.1 69 1382 by omega] at hI
      have hx : (∃ m, hmP σ (pe e) g m) ↔ b = 1 := by
        rw [hI]
        exact ⟨fun ⟨m, w⟩ => ⟨m, (m_is_e hK w.1.1).2, w⟩, fun ⟨m, _, w⟩ => ⟨m, w⟩⟩
      rcases hb01 with w | w
      · exact Or.inr ⟨w, fun v => by have := hx.mp v; omega⟩
      · exact Or.inl ⟨w, hx.mpr w⟩
    · refine a_iload_n (pc := 14) (i := 3) (by decide +kernel) rfl ?_
      refine a_aload_n (pc := 15) (i := 0) (by decide +kernel) rfl ?_
      refine a_iload (pc := 16) (i := 4) (by decide +kernel) rfl ?_
      refine a_iload_n (pc := 18) (i := 1) (by decide +kernel) rfl ?_
      refine b_callV (pc := 19) (c' := 0) (sl' := 0) [j_i k, j_i e] [j_i b] ml_X12_304 (by decide +kernel) rfl rfl (sh_68 hn) rfl rfl (Nat.le_of_ble_eq_true rfl) (j_fitI rfl rfl) (e_isOf hn hB (by omega) (by omega)) (fun v n' σ' hq => ?_)
      obtain ⟨x, rfl, e1, e2, hx⟩ := hq
      rw [e1, e2]; clear e1 e2
      rcases hx with ⟨rfl, p19⟩ | ⟨rfl, p19⟩
      · show j_at _ _ _ [(0, .ref 68), (1, j_i e), (2, j_i g), (3, j_i b), (4, j_i k)] [j_i 1, j_i b] _ _ _ _
        refine a_if_eq (pc := 22) (off := 31) (tgt := 53) (by decide +kernel) (by decide) (by omega) (fun c22 => ?_) (fun c22 => ?_)
        · exact absurd c22 (by decide)
        · refine a_aload_n (pc := 25) (i := 0) (by decide +kernel) rfl ?_
          refine a_iload (pc := 26) (i := 4) (by decide +kernel) rfl ?_
          refine b_pureV (pc := 28) [j_i k] [j_i b] ml_X12_257 (by decide +kernel) rfl rfl (sh_68 hn) rfl rfl (Nat.le_of_ble_eq_true rfl) (j_fitI rfl rfl) (b_kind hn hB.1 (by omega) (by omega)) ?_
          have q1 := b_rg hB.1 (m := k) (by omega) (by omega)
          show j_at _ _ _ [(0, .ref 68), (1, j_i e), (2, j_i g), (3, j_i b), (4, j_i k)] [j_i (σ.1 17 k), j_i b] _ _ _ _
          refine a_iconst (pc := 31) (n := 3) (by decide +kernel) ?_
          refine a_icmp_ne (pc := 32) (off := 21) (tgt := 53) (by decide +kernel) (by decide) (by omega) (by omega) (fun c32 => ?_) (fun c32 => ?_)
          · refine a_iconst (pc := 53) (n := 0) (by decide +kernel) ?_
            refine a_ior (pc := 54) (by decide +kernel) ?_
            rw [or_b0 hb01]
            refine a_istore_n (pc := 55) (i := 3) (lv' := [(0, .ref 68), (1, j_i e), (2, j_i g), (3, j_i b), (4, j_i k)]) (by decide +kernel) (Nat.le_of_ble_eq_true rfl) rfl ?_
            refine a_iinc (pc := 56) (i := 4) (n := 1) (x := k) (lv' := [(0, .ref 68), (1, j_i e), (2, j_i g), (3, j_i b), (4, j_i (k + 1))]) (by decide +kernel) rfl (Nat.le_of_ble_eq_true rfl) rfl ?_
            refine a_goto (pc := 59) (off := -54) (tgt := 5) (by decide +kernel) (by decide) ?_
            exact ih (k + 1) b (by omega) (by omega) (by omega) hb01 (hm_no hI (fun w => by first | exact p19 w.1 | (have := w.2.1; omega) | (have := w.2.2; omega)))
          · refine a_aload_n (pc := 35) (i := 0) (by decide +kernel) rfl ?_
            refine a_aload_n (pc := 36) (i := 0) (by decide +kernel) rfl ?_
            refine a_iload (pc := 37) (i := 4) (by decide +kernel) rfl ?_
            refine b_pureV (pc := 39) [j_i k] [.ref 68, j_i b] ml_X12_266 (by decide +kernel) rfl rfl (sh_68 hn) rfl rfl (Nat.le_of_ble_eq_true rfl) (j_fitI rfl rfl) (b_gap hn hB.1 (by omega) (by omega)) ?_
            have q2 := b_rg hB.1 (m := k) (by omega) (by omega)
            show j_at _ _ _ [(0, .ref 68), (1, j_i e), (2, j_i g), (3, j_i b), (4, j_i k)] [j_i (σ.1 18 k), .ref 68, j_i b] _ _ _ _
            refine b_pureV (pc := 42) [j_i (σ.1 18 k)] [j_i b] ml_X12_272 (by decide +kernel) rfl rfl (sh_68 hn) rfl rfl (Nat.le_of_ble_eq_true rfl) (j_fitI rfl rfl) (b_page hn hB (by omega)) ?_
            have qp3 := f_page_in (g := σ.1 18 k) (f := σ.2.1 68 11) (by omega)
            show j_at _ _ _ [(0, .ref 68), (1, j_i e), (2, j_i g), (3, j_i b), (4, j_i k)] [j_i (f_page (σ.1 18 k) (σ.2.1 68 11)), j_i b] _ _ _ _
            refine a_iload_n (pc := 45) (i := 2) (by decide +kernel) rfl ?_
            refine a_icmp_ne (pc := 46) (off := 7) (tgt := 53) (by decide +kernel) (by decide) (by omega) (by omega) (fun c46 => ?_) (fun c46 => ?_)
            · refine a_iconst (pc := 53) (n := 0) (by decide +kernel) ?_
              refine a_ior (pc := 54) (by decide +kernel) ?_
              rw [or_b0 hb01]
              refine a_istore_n (pc := 55) (i := 3) (lv' := [(0, .ref 68), (1, j_i e), (2, j_i g), (3, j_i b), (4, j_i k)]) (by decide +kernel) (Nat.le_of_ble_eq_true rfl) rfl ?_
              refine a_iinc (pc := 56) (i := 4) (n := 1) (x := k) (lv' := [(0, .ref 68), (1, j_i e), (2, j_i g), (3, j_i b), (4, j_i (k + 1))]) (by decide +kernel) rfl (Nat.le_of_ble_eq_true rfl) rfl ?_
              refine a_goto (pc := 59) (off := -54) (tgt := 5) (by decide +kernel) (by decide) ?_
              exact ih (k + 1) b (by omega) (by omega) (by omega) hb01 (hm_no hI (fun w => by first | exact p19 w.1 | (have := w.2.1; omega) | (have := w.2.2; omega)))
            · refine a_iconst (pc := 49) (n := 1) (by decide +kernel) ?_
              refine a_goto (pc := 50) (off := 4) (tgt := 54) (by decide +kernel) (by decide) ?_
              refine a_ior (pc := 54) (by decide +kernel) ?_
              rw [or_b1 hb01]
              refine a_istore_n (pc := 55) (i := 3) (lv' := [(0, .ref 68), (1, j_i e), (2, j_i g), (3, j_i 1), (4, j_i k)]) (by decide +kernel) (Nat.le_of_ble_eq_true rfl) rfl ?_
              refine a_iinc (pc := 56) (i := 4) (n := 1) (x := k) (lv' := [(0, .ref 68), (1, j_i e), (2, j_i g), (3, j_i 1), (4, j_i (k + 1))]) (by decide +kernel) rfl (Nat.le_of_ble_eq_true rfl) rfl ?_
              refine a_goto (pc := 59) (off := -54) (tgt := 5) (by decide +kernel) (by decide) ?_
              exact ih (k + 1) 1 (by omega) (by omega) (by omega) (Or.inr rfl) ⟨fun _ => ⟨k, by omega, p19, by omega, by omega⟩, fun _ => rfl⟩
      · show j_at _ _ _ [(0, .ref 68), (1, j_i e), (2, j_i g), (3, j_i b), (4, j_i k)] [j_i 0, j_i b] _ _ _ _
        refine a_if_eq (pc := 22) (off := 31) (tgt := 53) (by decide +kernel) (by decide) (by omega) (fun c22 => ?_) (fun c22 => ?_)
        · refine a_iconst (pc := 53) (n := 0) (by decide +kernel) ?_
          refine a_ior (pc := 54) (by decide +kernel) ?_
          rw [or_b0 hb01]
          refine a_istore_n (pc := 55) (i := 3) (lv' := [(0, .ref 68), (1, j_i e), (2, j_i g), (3, j_i b), (4, j_i k)]) (by decide +kernel) (Nat.le_of_ble_eq_true rfl) rfl ?_
          refine a_iinc (pc := 56) (i := 4) (n := 1) (x := k) (lv' := [(0, .ref 68), (1, j_i e), (2, j_i g), (3, j_i b), (4, j_i (k + 1))]) (by decide +kernel) rfl (Nat.le_of_ble_eq_true rfl) rfl ?_
          refine a_goto (pc := 59) (off := -54) (tgt := 5) (by decide +kernel) (by decide) ?_
          exact ih (k + 1) b (by omega) (by omega) (by omega) hb01 (hm_no hI (fun w => by first | exact p19 w.1 | (have := w.2.1; omega) | (have := w.2.2; omega)))
        · exact absurd c22 (by decide)
set_option maxHeartbeats 4000000 in
theorem e_hasMain {G : j_G} {X : k_X} {n : Nat} {σ : k_St} (hn : 101 ≤ n) {pe : Int → Int} (hB : MB σ pe) {e g : Int} (e0 : 0 ≤ e ∧ e < σ.2.1 68 25) (g0 : 0 ≤ g ∧ g ≤ 299)  : k_run G X mX12_hasMain [.ref 68, j_i e, j_i g] n σ 0 0 (k_b n σ (∃ m, hmP σ (pe e) g m)) := by
  obtain ⟨hK, hP, hfl, hE, hok⟩ := id hB
  have hM := (KR_rg hK.1 hK.2.1).1.2.2
  have hE1 := hE.1
  refine k_enter (by decide +kernel) (Nat.le_of_ble_eq_true rfl) ?_
  show j_at _ _ _ [(0, .ref 68), (1, j_i e), (2, j_i g)] [] _ _ _ _
  refine a_iconst (pc := 0) (n := 0) (by decide +kernel) ?_
  refine a_istore_n (pc := 1) (i := 3) (lv' := [(0, .ref 68), (1, j_i e), (2, j_i g), (3, j_i 0)]) (by decide +kernel) (Nat.le_of_ble_eq_true rfl) rfl ?_
  refine a_iconst (pc := 2) (n := 0) (by decide +kernel) ?_
  refine a_istore (pc := 3) (i := 4) (lv' := [(0, .ref 68), (1, j_i e), (2, j_i g), (3, j_i 0), (4, j_i 0)]) (by decide +kernel) (Nat.le_of_ble_eq_true rfl) rfl ?_
  exact l_hasMain hn hB e0 g0 52 0 0 (by omega) (by omega) (by omega) (Or.inl rfl) ⟨fun w => absurd w (by omega), fun ⟨m, a, w⟩ => by have := w.1.1.1; omega⟩
