theorem q_seg_g {F : Int → Int} : ∀ {L : List q_T} {i : Int}, q_seg F i L → ∀ (k : Nat) (h : k < L.length), (F ((i + k) * 4), F ((i + k) * 4 + 1), F ((i + k) * 4 + 2), F ((i + k) * 4 + 3)) = L[k]
  | [], _, _, k, h => absurd h (by simp)
  | x :: t, i, ⟨a, b⟩, 0, h => by
    rw [show i + ((0 : Nat) : Int) = i by omega]
    show _ = x
    rw [a.1, a.2.1, a.2.2.1, a.2.2.2]
  | x :: t, i, ⟨a, b⟩, k + 1, h => by
    have := q_seg_g b k (by simpa using h)
    rw [show i + 1 + (k : Int) = i + ((k + 1 : Nat) : Int) by omega] at this
    simpa using this
/-- what the class's index a says, once the Model's paths are its own -/
def BH (σ : k_St) (a : Nat) (pe : Int → Int) (lm : List Int) (c d : Int) : Prop := (a = 48 ∨ a = 58) ∧ MB σ pe ∧ i_wf σ a ∧ (σ.2.1 a 0 = σ.2.1 68 25 ∧ (∀ e, 0 ≤ e → e < σ.2.1 68 25 → σ.1 (a + 1) e = pe e) ∧ ij pe (σ.2.1 68 25)) ∧ ((∀ x, x ∈ lm ↔ m_is σ x) ∧ lm.Pairwise (m_lt σ)) ∧ σ.2.1 a 5 = pst (σ.1 (a + 2)) (σ.2.1 68 25) ∧ ∀ e, 0 ≤ e → e < σ.2.1 68 25 → PLx (σ.1 17) (σ.1 19) (σ.1 20) (pgM σ) lm c d (σ.1 (a + 2)) (σ.1 (a + 4)) e (pe e)
def pcf (σ τ : k_St) : Prop := (∀ c, ¬ (c = 82 ∨ c = 83 ∨ c = 86 ∨ c = 95 ∨ c = 98 ∨ c = 99) → τ.1 c = σ.1 c) ∧ (∀ c j, ¬ (c = 68 ∧ (j = 32 ∨ j = 43 ∨ j = 48)) → τ.2.1 c j = σ.2.1 c j) ∧ τ.2.2 = σ.2.2
theorem pcf_r {σ : k_St} : pcf σ σ := ⟨fun _ _ => rfl, fun _ _ _ => rfl, rfl⟩
theorem pcf_m {σ τ : k_St} (h : pcf σ τ) : mfr σ τ := ⟨fun c q => h.1 c (by omega), fun c j q => h.2.1 c j (by omega), h.2.2⟩
def PI2 (σ τ : k_St) (a : Nat) (pe : Int → Int) (lm : List Int) (k : Int) : Prop := pcf σ τ ∧ τ.2.1 68 32 = pst (σ.1 (a + 2)) k ∧ (∀ e, 0 ≤ e → e < k → τ.1 83 e = pst (σ.1 (a + 2)) e ∧ τ.1 82 e = σ.1 (a + 2) e - pst (σ.1 (a + 2)) e) ∧ (∀ j, 0 ≤ j → j < 4 * pst (σ.1 (a + 2)) k → τ.1 86 j = σ.1 (a + 4) j) ∧ UN τ (fun x => ∃ e, 0 ≤ e ∧ e < k ∧ x ∈ b_lo (σ.1 17) (σ.1 19) (pe e) lm (-9)) ∧ ∀ e, 0 ≤ e → e < k → ∀ x, x ∈ b_lo (σ.1 17) (σ.1 19) (pe e) lm (-9) → ofP σ (pe e) x
theorem pst_in {σ : k_St} {a : Nat} (h : i_wf σ a) (e : Int) : 0 ≤ pst (σ.1 (a + 2)) e ∧ pst (σ.1 (a + 2)) e ≤ 50 := by
  unfold pst; split
  · exact (h.2.2.2.2 (e - 1)).2.1
  · omega
theorem PI2_s {σ τ τ' : k_St} {a : Nat} {pe : Int → Int} {lm : List Int} {k : Int} {Y : List q_T} (hw : i_wf σ a) (k0 : 0 ≤ k) (h : PI2 σ τ a pe lm k) (y1 : q_seg (σ.1 (a + 4)) (pst (σ.1 (a + 2)) k) Y) (y2 : σ.1 (a + 2) k = pst (σ.1 (a + 2)) k + Y.length) (g1 : fpf τ τ' k) (g2 : UN τ' (fun x => (∃ e, 0 ≤ e ∧ e < k ∧ x ∈ b_lo (σ.1 17) (σ.1 19) (pe e) lm (-9)) ∨ x ∈ b_lo (σ.1 17) (σ.1 19) (pe k) lm (-9))) (g3 : ∀ x, x ∈ b_lo (σ.1 17) (σ.1 19) (pe k) lm (-9) → ofP σ (pe k) x) (g4 : τ'.1 83 k = τ.2.1 68 32) (g5 : τ'.1 82 k = (Y.length : Int)) (g6 : τ'.2.1 68 32 = τ.2.1 68 32 + (Y.length : Int)) (g7 : ∀ (j : Nat) (h : j < Y.length), q4 (τ'.1 86) (τ.2.1 68 32 + (j : Int)) = Y[j]) : PI2 σ τ' a pe lm (k + 1) := by
  obtain ⟨h1, h2, h3, h4, h5, h6⟩ := h
  have hp := pst_in hw k
  refine ⟨⟨fun c q => (g1.1 c q).trans (h1.1 c q), fun c j q => (g1.2.1 c j q).trans (h1.2.1 c j q), g1.2.2.1.trans h1.2.2⟩, by rw [g6, h2, pst_s k0, y2], fun e e0 e1 => ?_, fun j j0 j1 => ?_, UN_w g2 (fun x => ?_), fun e e0 e1 x hx => ?_⟩
  · by_cases c : e = k
    · rw [c, g4, g5, h2, y2]; exact ⟨rfl, by omega⟩
    · rw [(g1.2.2.2.1 e c).1, (g1.2.2.2.1 e c).2]; exact h3 e e0 (by omega)
  · rw [pst_s k0, y2] at j1
    by_cases c : j < 4 * pst (σ.1 (a + 2)) k
    · rw [g1.2.2.2.2 j (by rw [h2]; exact c)]; exact h4 j j0 c
    · have hq : ((j / 4 - pst (σ.1 (a + 2)) k).toNat) < Y.length := by omega
      have z1 := g7 _ hq
      have z2 := q_seg_g y1 _ hq
      rw [h2, ← z2] at z1
      rw [show pst (σ.1 (a + 2)) k + ((j / 4 - pst (σ.1 (a + 2)) k).toNat : Int) = j / 4 by omega] at z1
      unfold q4 at z1
      have w0 := congrArg Prod.fst z1
      have w1 := congrArg (fun x => x.2.1) z1
      have w2 := congrArg (fun x => x.2.2.1) z1
      have w3 := congrArg (fun x => x.2.2.2) z1
      have w0 : τ'.1 86 (4 * (j / 4)) = σ.1 (a + 4) (j / 4 * 4) := w0
      have w1 : τ'.1 86 (4 * (j / 4) + 1) = σ.1 (a + 4) (j / 4 * 4 + 1) := w1
      have w2 : τ'.1 86 (4 * (j / 4) + 2) = σ.1 (a + 4) (j / 4 * 4 + 2) := w2
      have w3 : τ'.1 86 (4 * (j / 4) + 3) = σ.1 (a + 4) (j / 4 * 4 + 3) := w3
      rw [show j / 4 * 4 = 4 * (j / 4) by omega] at w0 w1 w2 w3
      rcases (show j = 4 * (j / 4) ∨ j = 4 * (j / 4) + 1 ∨ j = 4 * (j / 4) + 2 ∨ j = 4 * (j / 4) + 3 by omega) with e | e | e | e
      · rw [e]; exact w0
      · rw [e]; exact w1
      · rw [e]; exact w2
      · rw [e]; exact w3
  · constructor
    · rintro (⟨e, e0, e1, e2⟩ | w)
      · exact ⟨e, e0, by omega, e2⟩
      · exact ⟨k, k0, by omega, w⟩
    · rintro ⟨e, e0, e1, e2⟩
      by_cases c : e = k
      · rw [c] at e2; exact Or.inr e2
      · exact Or.inl ⟨e, e0, by omega, e2⟩
  · by_cases c : e = k
    · rw [c] at hx ⊢; exact g3 x hx
    · exact h6 e e0 (by omega) x hx
set_option maxHeartbeats 4000000 in
theorem l_bd188 {G : j_G} {X : k_X} {n : Nat} {σ : k_St} (hn : 101 ≤ n) {a : Nat} {pe : Int → Int} {lm : List Int} {od d c : Int} (hH : BH σ a pe lm c d) (rc : c = 0 ∨ c = 1) (d0 : 0 ≤ d ∧ d ≤ 20) {Q : k_P} (kk : ∀ τ k, PI2 σ τ a pe lm (σ.2.1 68 25) → j_at G mX12_build 211 [(0, .ref 68), (1, j_i od), (2, j_i d), (3, j_i c), (4, j_i k)] [] (k_h X n τ) 0 0 (k_Q X Q))  : ∀ (z : Nat) (k : Int) (τ : k_St), 151 - k < (z : Int) → 0 ≤ k → k ≤ σ.2.1 68 25 → PI2 σ τ a pe lm k → j_at G mX12_build 188 [(0, .ref 68), (1, j_i od), (2, j_i d), (3, j_i c), (4, j_i k)] [] (k_h X n τ) 0 0 (k_Q X Q) := by
  obtain ⟨ha, hB, hw, ⟨hx1, hx2, hx3⟩, ⟨hl1, hl2⟩, hp5, hPL⟩ := id hH
  have hE1 := hB.2.2.2.1.1
  intro z
  induction z with
  | zero => intro k τ h1 h2 h3; exact absurd h1 (by omega)
  | succ z ih =>
    intro k τ hz k0 kN hI
    have mt : mfr σ τ := pcf_m hI.1
    refine a_iload (pc := 188) (i := 4) (by decide +kernel) rfl ?_
    refine a_aload_n (pc := 190) (i := 0) (by decide +kernel) rfl ?_
    refine b_getI (pc := 191) fl_X12_281 (by decide +kernel) (sh_68 hn) rfl ?_
    rw [show τ.2.1 68 25 = σ.2.1 68 25 from hI.1.2.1 68 25 (by omega)]
    refine a_icmp_ge (pc := 194) (off := 17) (tgt := 211) (by decide +kernel) (by decide) (by omega) (by omega) (fun c194 => ?_) (fun c194 => ?_)
    · rw [show k = σ.2.1 68 25 by omega] at hI
      exact kk τ k hI
    · obtain ⟨Y, y1, y2, y3, y4⟩ := hPL k k0 (by omega)
      rw [← mt.1 17 (by omega), ← mt.1 19 (by omega), ← mt.1 20 (by omega), ← mfr_pg mt] at y4
      have hUo : ∀ x, (∃ e, 0 ≤ e ∧ e < k ∧ x ∈ b_lo (σ.1 17) (σ.1 19) (pe e) lm (-9)) → ¬ ofP τ (pe k) x := fun x hx w => by
        obtain ⟨e, e0, e1, e2⟩ := hx
        have v := hI.2.2.2.2.2 e e0 e1 x e2
        rw [mfr_of mt] at w
        have := hx3 e k e0 (by omega) k0 (by omega) (by rw [← v.2.2, ← w.2.2])
        omega
      refine a_aload_n (pc := 197) (i := 0) (by decide +kernel) rfl ?_
      refine a_iload (pc := 198) (i := 4) (by decide +kernel) rfl ?_
      refine a_iload_n (pc := 200) (i := 2) (by decide +kernel) rfl ?_
      refine a_iload_n (pc := 201) (i := 3) (by decide +kernel) rfl ?_
      refine b_callV (pc := 202) (c' := 0) (sl' := 0) [j_i k, j_i d, j_i c] [] ml_X12_374 (by decide +kernel) rfl rfl (sh_68 hn) rfl rfl (Nat.le_of_ble_eq_true rfl) (j_fitI rfl rfl) (e_findPlaces (lm := lm) (Y := Y) hn (MB_m mt hB) (by rw [mt.2.1 68 25 (by omega)]; omega) rc d0 (fun x => by rw [mfr_ms mt]; exact hl1 x) (by rw [mfr_lt mt]; exact hl2) hUo hI.2.2.2.2.1 (by rw [hI.2.1]; exact pst_in hw k) y3 y4) (fun v n' σ' hq => ?_)
      obtain ⟨rfl, rfl, g1, g2, g3, g4, g5, g6, g7⟩ := hq
      obtain ⟨σ1, hσ1⟩ : ∃ z, z = σ' := ⟨_, rfl⟩
      rw [← hσ1] at g1 g2 g4 g5 g6 g7 ⊢
      clear hσ1
      rw [mt.1 17 (by omega), mt.1 19 (by omega)] at g2 g3
      simp only [mfr_of mt] at g3
      show j_at _ _ _ [(0, .ref 68), (1, j_i od), (2, j_i d), (3, j_i c), (4, j_i k)] [] _ _ _ _
      refine a_iinc (pc := 205) (i := 4) (n := 1) (x := k) (lv' := [(0, .ref 68), (1, j_i od), (2, j_i d), (3, j_i c), (4, j_i (k + 1))]) (by decide +kernel) rfl (Nat.le_of_ble_eq_true rfl) rfl ?_
      refine a_goto (pc := 208) (off := -20) (tgt := 188) (by decide +kernel) (by decide) ?_
      exact ih (k + 1) σ1 (by omega) (by omega) (by omega) (PI2_s hw k0 hI y1 y2 g1 g2 g3 g4 g5 g6 g7)
