/-- a mark comes, in the Model -/
def d_cm (g : Int → Int) (M p k a b c t : Int) : Int → Int := j_up (j_up (j_up (j_up (j_up (j_up (j_up (j_up g 1382 (M + 1)) (1383 + 7 * M) 1) (1383 + 7 * M + 1) k) (1383 + 7 * M + 2) p) (1383 + 7 * M + 3) a) (1383 + 7 * M + 4) b) (1383 + 7 * M + 5) c) (1383 + 7 * M + 6) t
theorem d_cm_o {g : Int → Int} {M p k a b c t i : Int} (h : i ≠ 1382) (h2 : ¬ (1383 + 7 * M ≤ i ∧ i < 1383 + 7 * M + 7)) : d_cm g M p k a b c t i = g i := by
  unfold d_cm; rw [j_upN (by omega), j_upN (by omega), j_upN (by omega), j_upN (by omega), j_upN (by omega), j_upN (by omega), j_upN (by omega), j_upN (by omega)]
theorem d_cm_i {g : Int → Int} {M p k a b c t : Int} (h0 : 0 ≤ M) : d_cm g M p k a b c t 1382 = M + 1 ∧ d_cm g M p k a b c t (1383 + 7 * M) = 1 ∧ d_cm g M p k a b c t (1383 + 7 * M + 1) = k ∧ d_cm g M p k a b c t (1383 + 7 * M + 2) = p ∧ d_cm g M p k a b c t (1383 + 7 * M + 3) = a ∧ d_cm g M p k a b c t (1383 + 7 * M + 4) = b ∧ d_cm g M p k a b c t (1383 + 7 * M + 5) = c ∧ d_cm g M p k a b c t (1383 + 7 * M + 6) = t := by
  unfold d_cm
  refine ⟨?_, ?_, ?_, ?_, ?_, ?_, ?_, ?_⟩
  · rw [j_upN (by omega), j_upN (by omega), j_upN (by omega), j_upN (by omega), j_upN (by omega), j_upN (by omega), j_upN (by omega), j_upS]
  · rw [j_upN (by omega), j_upN (by omega), j_upN (by omega), j_upN (by omega), j_upN (by omega), j_upN (by omega), j_upS]
  · rw [j_upN (by omega), j_upN (by omega), j_upN (by omega), j_upN (by omega), j_upN (by omega), j_upS]
  · rw [j_upN (by omega), j_upN (by omega), j_upN (by omega), j_upN (by omega), j_upS]
  · rw [j_upN (by omega), j_upN (by omega), j_upN (by omega), j_upS]
  · rw [j_upN (by omega), j_upN (by omega), j_upS]
  · rw [j_upN (by omega), j_upS]
  · rw [j_upS]
theorem okp_path {lv : Int → Prop} {a b c : Int} (hl : ∀ h, lv h → 0 ≤ h ∧ h ≤ 29) (ha : lv a) (hb : b = -9 ∨ lv b) (hc : c = -9 ∨ lv c) : okp lv (f_path a b c) := by
  have one : ∀ x, (x = -9 ∨ lv x) → ∃ d, okd lv d ∧ (if x = -9 then (0 : Int) else x + 1) = d := fun x hx => by
    rcases hx with hx | hx
    · exact ⟨0, ⟨by omega, Or.inl rfl⟩, by rw [if_pos hx]⟩
    · have := hl x hx
      exact ⟨x + 1, ⟨by omega, Or.inr (by rw [show x + 1 - 1 = x by omega]; exact hx)⟩, by rw [if_neg (by omega)]⟩
  obtain ⟨d1, o1, e1⟩ := one a (Or.inr ha)
  obtain ⟨d2, o2, e2⟩ := one b hb
  obtain ⟨d3, o3, e3⟩ := one c hc
  refine ⟨d1, d2, d3, o1, o2, o3, ?_⟩
  unfold f_path f_lon
  rw [e1, e2, e3]; omega
theorem KN_add {σ τ : k_St} {p k a b c t : Int} (hK : RKept σ) (h50 : σ.2.1 16 5 < 50) (hp : 0 ≤ p ∧ p ≤ 300) (hpW : p ≤ σ.2.1 6 1) (hk : 0 ≤ k ∧ k ≤ 7) (ht : 0 ≤ t ∧ t ≤ 99) (ha : h_is σ a) (hb : b = -9 ∨ h_is σ b) (hc : c = -9 ∨ h_is σ c) (hbc : b = -9 → c = -9) (hle : 5 < k → b ≠ -9 ∧ c = -9 ∧ a ≠ b) (h1 : ∀ d, 6 ≤ d → d ≤ 16 → τ.1 d = σ.1 d) (e17 : τ.1 17 = j_up (σ.1 17) (σ.2.1 16 5) k) (e18 : τ.1 18 = j_up (σ.1 18) (σ.2.1 16 5) p) (e19 : τ.1 19 = j_up (σ.1 19) (σ.2.1 16 5) (f_path a b c)) (e20 : τ.1 20 = j_up (σ.1 20) (σ.2.1 16 5) t) (e21 : τ.1 21 = j_up (σ.1 21) (σ.2.1 16 5) 0) (h2 : ∀ d j, 6 ≤ d → d ≤ 21 → ¬ (d = 16 ∧ j = 5) → τ.2.1 d j = σ.2.1 d j) (h5 : τ.2.1 16 5 = σ.2.1 16 5 + 1) : KN τ (d_cm (σ.1 69) (σ.1 69 1382) p k a b c t) := by
  have hM0 : σ.2.1 16 5 = σ.1 69 1382 := hK.2.1.2.2.1
  obtain ⟨⟨_, hE, hM⟩, _⟩ := KR_rg hK.1 hK.2.1
  have hE0 : σ.2.1 8 3 = σ.1 69 301 := hK.2.1.2.1.1
  have hl : ∀ h, h_is σ h → 0 ≤ h ∧ h ≤ 29 := fun h hh => ⟨hh.1, by have := hh.2.1; omega⟩
  have fa : f_hd a := Or.inr (hl a ha)
  have fb : f_hd b := hb.imp id (hl b)
  have fc : f_hd c := hc.imp id (hl c)
  obtain ⟨y0, y1, y2⟩ := f_path_heads fa fb fc
  have yin := f_path_in fa fb fc
  obtain ⟨i0, i1, i2, i3, i4, i5, i6, i7⟩ := d_cm_i (g := σ.1 69) (M := σ.1 69 1382) (p := p) (k := k) (a := a) (b := b) (c := c) (t := t) hM.1
  rw [hM0] at e17 e18 e19 e20 e21 h5 h50
  refine KN_m hK (fun d _ _ => h1 d (by omega) (by omega)) (fun d j _ _ => h2 d j (by omega) (by omega) (by omega)) (fun i _ _ => d_cm_o (by omega) (by omega)) ?_ ⟨by rw [h5, i0], fun x x0 x1 => ?_⟩ (fun x hx => ?_) (fun x x0 x1 => ?_) (fun i => ?_)
  · have hw := hK.1.2.2
    refine ⟨by rw [h5]; omega, fun i => ?_, fun x x0 x1 => ?_⟩
    · show τ.1 21 i = 0 ∨ τ.1 21 i = 1
      rw [e21]; unfold j_up; split; exact Or.inl rfl; exact hw.2.1 i
    · show (0 ≤ τ.1 17 x ∧ τ.1 17 x ≤ 7) ∧ (0 ≤ τ.1 18 x ∧ τ.1 18 x ≤ 300) ∧ (0 ≤ τ.1 19 x ∧ τ.1 19 x ≤ 29790) ∧ (0 ≤ τ.1 20 x ∧ τ.1 20 x ≤ 99)
      rw [h5] at x1
      rw [e17, e18, e19, e20]
      by_cases q : x = σ.1 69 1382
      · rw [q, j_upS, j_upS, j_upS, j_upS]; exact ⟨hk, hp, yin, ht⟩
      · rw [j_upN q, j_upN q, j_upN q, j_upN q]; exact hw.2.2 x x0 (by show x < σ.2.1 16 5; omega)
  · rw [i0] at x1
    show τ.1 21 x = _ ∧ τ.1 17 x = _ ∧ τ.1 18 x = _ ∧ (∀ i, 0 ≤ i → i < 3 → f_head (τ.1 19 x) i = _) ∧ τ.1 20 x = _
    rw [e17, e18, e19, e20, e21]
    by_cases q : x = σ.1 69 1382
    · subst q
      rw [j_upS, j_upS, j_upS, j_upS, j_upS, i1, i2, i3, i7]
      refine ⟨rfl, rfl, rfl, fun i q0 q1 => ?_, rfl⟩
      rcases (show i = 0 ∨ i = 1 ∨ i = 2 by omega) with r | r | r
      · subst r; rw [y0, show 1383 + 7 * σ.1 69 1382 + 3 + 0 = 1383 + 7 * σ.1 69 1382 + 3 by omega, i4]
      · subst r; rw [y1, show 1383 + 7 * σ.1 69 1382 + 3 + 1 = 1383 + 7 * σ.1 69 1382 + 4 by omega, i5]
      · subst r; rw [y2, show 1383 + 7 * σ.1 69 1382 + 3 + 2 = 1383 + 7 * σ.1 69 1382 + 5 by omega, i6]
    · rw [j_upN q, j_upN q, j_upN q, j_upN q, j_upN q, d_cm_o (by omega) (by omega), d_cm_o (by omega) (by omega), d_cm_o (by omega) (by omega), d_cm_o (by omega) (by omega)]
      obtain ⟨z1, z2, z3, z4, z5⟩ := hK.2.1.2.2.2 x x0 (by omega)
      exact ⟨z1, z2, z3, fun i q0 q1 => by rw [d_cm_o (by omega) (by omega)]; exact z4 i q0 q1, z5⟩
  · rw [e17, e19]
    by_cases q : x = σ.1 69 1382
    · rw [q, j_upS, j_upS]
      exact ⟨okp_path hl ha hb hc, by rw [y0]; have := (hl a ha).1; omega, by rw [y1, y2]; exact hbc, by rw [y0, y1, y2]; exact hle⟩
    · rw [j_upN q, j_upN q]
      refine hK.2.2.1.2.1 x ⟨hx.1, by have := hx.2.1; show x < σ.2.1 16 5; have h9 : x < τ.2.1 16 5 := this; omega, ?_⟩
      have h9 : τ.1 21 x = 0 := hx.2.2
      rw [e21, j_upN q] at h9; exact h9
  · rw [h5] at x1
    rw [e18]
    by_cases q : x = σ.1 69 1382
    · rw [q, j_upS]; exact hpW
    · rw [j_upN q]; exact hK.2.2.1.2.2.2 x x0 (by show x < σ.2.1 16 5; omega)
  · have := hK.2.2.2 i
    unfold d_cm
    by_cases q : i = 1382 ∨ (1383 + 7 * σ.1 69 1382 ≤ i ∧ i < 1383 + 7 * σ.1 69 1382 + 7)
    · have hb9 : -9 ≤ b ∧ b ≤ 29 := by rcases fb with g | g <;> omega
      have hc9 : -9 ≤ c ∧ c ≤ 29 := by rcases fc with g | g <;> omega
      have ha9 := hl a ha
      unfold j_up
      repeat' split
      all_goals omega
    · rw [j_upN (by omega), j_upN (by omega), j_upN (by omega), j_upN (by omega), j_upN (by omega), j_upN (by omega), j_upN (by omega), j_upN (by omega)]; exact this
set_option maxHeartbeats 4000000 in
theorem s_dcomes {G : j_G} {X : k_X} {n : Nat} {σ : k_St} (hn : 101 ≤ n) (hg : ∀ i : Int, -128 ≤ σ.1 69 i ∧ σ.1 69 i ≤ 9999) (hgr : (0 ≤ σ.1 69 0 ∧ σ.1 69 0 ≤ 300) ∧ (0 ≤ σ.1 69 301 ∧ σ.1 69 301 ≤ 30) ∧ (0 ≤ σ.1 69 1382 ∧ σ.1 69 1382 ≤ 50)) (hf4 : 0 ≤ σ.2.1 68 4 ∧ σ.2.1 68 4 < 40) (hm5 : 0 ≤ σ.2.1 68 5 ∧ σ.2.1 68 5 ≤ 40) {p k a b c t : Int} (h50 : σ.1 69 1382 < 50)  : k_run G X mX12_comes [.ref 68, j_i p, j_i k, j_i a, j_i b, j_i c, j_i t] n σ 0 0 (k_is n (k_sA (d_kp σ) 69 (d_cm (σ.1 69) (σ.1 69 1382) p k a b c t)) (some (j_i (σ.1 69 1382)))) := by
  obtain ⟨hgW, hgE, hgM⟩ := hgr
  refine k_enter (by decide +kernel) (Nat.le_of_ble_eq_true rfl) ?_
  show j_at _ _ _ [(0, .ref 68), (1, j_i p), (2, j_i k), (3, j_i a), (4, j_i b), (5, j_i c), (6, j_i t)] [] _ _ _ _
  refine a_aload_n (pc := 0) (i := 0) (by decide +kernel) rfl ?_
  refine b_callV (pc := 1) (c' := 0) (sl' := 0) [] [] ml_X12_132 (by decide +kernel) rfl rfl (sh_68 hn) rfl rfl (Nat.le_of_ble_eq_true rfl) (j_fitI rfl rfl) (s_dkeep hn hf4 hm5) (fun v n' σ' hq => ?_)
  obtain ⟨rfl, e1, e2⟩ := hq
  rw [e1, e2]; clear e1 e2
  obtain ⟨σ1, hσ1⟩ : ∃ z, z = d_kp σ := ⟨_, rfl⟩
  rw [← hσ1]
  show j_at _ _ _ [(0, .ref 68), (1, j_i p), (2, j_i k), (3, j_i a), (4, j_i b), (5, j_i c), (6, j_i t)] [] _ _ _ _
  refine a_aload_n (pc := 4) (i := 0) (by decide +kernel) rfl ?_
  refine b_pureV (pc := 5) [] [] ml_X12_135 (by decide +kernel) rfl rfl (sh_68 hn) rfl rfl (Nat.le_of_ble_eq_true rfl) (j_fitI rfl rfl) (s_dmarksEver hn) ?_
  rw [show σ1.1 69 = σ.1 69 by rw [hσ1]; exact d_kp_69 (by omega)]
  show j_at _ _ _ [(0, .ref 68), (1, j_i p), (2, j_i k), (3, j_i a), (4, j_i b), (5, j_i c), (6, j_i t)] [j_i (σ.1 69 1382)] _ _ _ _
  refine a_istore (pc := 8) (i := 7) (lv' := [(0, .ref 68), (1, j_i p), (2, j_i k), (3, j_i a), (4, j_i b), (5, j_i c), (6, j_i t), (7, j_i (σ.1 69 1382))]) (by decide +kernel) (Nat.le_of_ble_eq_true rfl) rfl ?_
  refine a_aload_n (pc := 10) (i := 0) (by decide +kernel) rfl ?_
  refine b_getR (pc := 11) (b := 69) fl_X12_7 (by decide +kernel) (sh_68 hn) rfl ?_
  refine a_sipush (pc := 14) (n := 1382) (by decide +kernel) rfl ?_
  refine a_dup2 (pc := 17) (by decide +kernel) rfl rfl ?_
  refine b_iaload (pc := 18) (by decide +kernel) (sh_69 hn) (by omega) (by omega) (by omega) ?_
  rw [show σ1.1 69 = σ.1 69 from (by rw [hσ1]; exact d_kp_69 (by omega))]
  refine a_iconst (pc := 19) (n := 1) (by decide +kernel) ?_
  refine a_iadd (pc := 20) (by decide +kernel) ?_
  refine b_iastore (pc := 21) (by decide +kernel) (sh_69 hn) (by omega) (by omega) (by omega) ?_
  obtain ⟨σ2, hσ2⟩ : ∃ z, z = k_sA σ1 69 (j_up (σ1.1 69) 1382 ((σ.1 69 1382) + 1)) := ⟨_, rfl⟩
  rw [← hσ2]
  refine a_aload_n (pc := 22) (i := 0) (by decide +kernel) rfl ?_
  refine b_getR (pc := 23) (b := 69) fl_X12_7 (by decide +kernel) (sh_68 hn) rfl ?_
  refine a_aload_n (pc := 26) (i := 0) (by decide +kernel) rfl ?_
  refine a_iload (pc := 27) (i := 7) (by decide +kernel) rfl ?_
  refine b_pureV (pc := 29) [j_i (σ.1 69 1382)] [.ref 69] ml_X12_251 (by decide +kernel) rfl rfl (sh_68 hn) rfl rfl (Nat.le_of_ble_eq_true rfl) (j_fitI rfl rfl) (s_dmarkAt) ?_
  show j_at _ _ _ [(0, .ref 68), (1, j_i p), (2, j_i k), (3, j_i a), (4, j_i b), (5, j_i c), (6, j_i t), (7, j_i (σ.1 69 1382))] [j_i (1383 + 7 * (σ.1 69 1382)), .ref 69] _ _ _ _
  refine a_iconst (pc := 32) (n := 1) (by decide +kernel) ?_
  refine b_iastore (pc := 33) (by decide +kernel) (sh_69 hn) (by omega) (by omega) (by omega) ?_
  obtain ⟨σ4, hσ4⟩ : ∃ z, z = k_sA σ2 69 (j_up (σ2.1 69) (1383 + 7 * (σ.1 69 1382)) 1) := ⟨_, rfl⟩
  rw [← hσ4]
  refine a_aload_n (pc := 34) (i := 0) (by decide +kernel) rfl ?_
  refine b_getR (pc := 35) (b := 69) fl_X12_7 (by decide +kernel) (sh_68 hn) rfl ?_
  refine a_aload_n (pc := 38) (i := 0) (by decide +kernel) rfl ?_
  refine a_iload (pc := 39) (i := 7) (by decide +kernel) rfl ?_
  refine b_pureV (pc := 41) [j_i (σ.1 69 1382)] [.ref 69] ml_X12_251 (by decide +kernel) rfl rfl (sh_68 hn) rfl rfl (Nat.le_of_ble_eq_true rfl) (j_fitI rfl rfl) (s_dmarkAt) ?_
  show j_at _ _ _ [(0, .ref 68), (1, j_i p), (2, j_i k), (3, j_i a), (4, j_i b), (5, j_i c), (6, j_i t), (7, j_i (σ.1 69 1382))] [j_i (1383 + 7 * (σ.1 69 1382)), .ref 69] _ _ _ _
  refine a_iconst (pc := 44) (n := 1) (by decide +kernel) ?_
  refine a_iadd (pc := 45) (by decide +kernel) ?_
  refine a_iload_n (pc := 46) (i := 2) (by decide +kernel) rfl ?_
  refine b_iastore (pc := 47) (by decide +kernel) (sh_69 hn) (by omega) (by omega) (by omega) ?_
  obtain ⟨σ6, hσ6⟩ : ∃ z, z = k_sA σ4 69 (j_up (σ4.1 69) ((1383 + 7 * (σ.1 69 1382)) + 1) k) := ⟨_, rfl⟩
  rw [← hσ6]
  refine a_aload_n (pc := 48) (i := 0) (by decide +kernel) rfl ?_
  refine b_getR (pc := 49) (b := 69) fl_X12_7 (by decide +kernel) (sh_68 hn) rfl ?_
  refine a_aload_n (pc := 52) (i := 0) (by decide +kernel) rfl ?_
  refine a_iload (pc := 53) (i := 7) (by decide +kernel) rfl ?_
  refine b_pureV (pc := 55) [j_i (σ.1 69 1382)] [.ref 69] ml_X12_138 (by decide +kernel) rfl rfl (sh_68 hn) rfl rfl (Nat.le_of_ble_eq_true rfl) (j_fitI rfl rfl) (s_dgapAt hn) ?_
  show j_at _ _ _ [(0, .ref 68), (1, j_i p), (2, j_i k), (3, j_i a), (4, j_i b), (5, j_i c), (6, j_i t), (7, j_i (σ.1 69 1382))] [j_i (1383 + 7 * (σ.1 69 1382) + 2), .ref 69] _ _ _ _
  refine a_iload_n (pc := 58) (i := 1) (by decide +kernel) rfl ?_
  refine b_iastore (pc := 59) (by decide +kernel) (sh_69 hn) (by omega) (by omega) (by omega) ?_
  obtain ⟨σ8, hσ8⟩ : ∃ z, z = k_sA σ6 69 (j_up (σ6.1 69) (1383 + 7 * (σ.1 69 1382) + 2) p) := ⟨_, rfl⟩
  rw [← hσ8]
  refine a_aload_n (pc := 60) (i := 0) (by decide +kernel) rfl ?_
  refine b_getR (pc := 61) (b := 69) fl_X12_7 (by decide +kernel) (sh_68 hn) rfl ?_
  refine a_aload_n (pc := 64) (i := 0) (by decide +kernel) rfl ?_
  refine a_iload (pc := 65) (i := 7) (by decide +kernel) rfl ?_
  refine b_pureV (pc := 67) [j_i (σ.1 69 1382)] [.ref 69] ml_X12_251 (by decide +kernel) rfl rfl (sh_68 hn) rfl rfl (Nat.le_of_ble_eq_true rfl) (j_fitI rfl rfl) (s_dmarkAt) ?_
  show j_at _ _ _ [(0, .ref 68), (1, j_i p), (2, j_i k), (3, j_i a), (4, j_i b), (5, j_i c), (6, j_i t), (7, j_i (σ.1 69 1382))] [j_i (1383 + 7 * (σ.1 69 1382)), .ref 69] _ _ _ _
  refine a_iconst (pc := 70) (n := 3) (by decide +kernel) ?_
  refine a_iadd (pc := 71) (by decide +kernel) ?_
  refine a_iload_n (pc := 72) (i := 3) (by decide +kernel) rfl ?_
  refine b_iastore (pc := 73) (by decide +kernel) (sh_69 hn) (by omega) (by omega) (by omega) ?_
  obtain ⟨σ10, hσ10⟩ : ∃ z, z = k_sA σ8 69 (j_up (σ8.1 69) ((1383 + 7 * (σ.1 69 1382)) + 3) a) := ⟨_, rfl⟩
  rw [← hσ10]
  refine a_aload_n (pc := 74) (i := 0) (by decide +kernel) rfl ?_
  refine b_getR (pc := 75) (b := 69) fl_X12_7 (by decide +kernel) (sh_68 hn) rfl ?_
  refine a_aload_n (pc := 78) (i := 0) (by decide +kernel) rfl ?_
  refine a_iload (pc := 79) (i := 7) (by decide +kernel) rfl ?_
  refine b_pureV (pc := 81) [j_i (σ.1 69 1382)] [.ref 69] ml_X12_251 (by decide +kernel) rfl rfl (sh_68 hn) rfl rfl (Nat.le_of_ble_eq_true rfl) (j_fitI rfl rfl) (s_dmarkAt) ?_
  show j_at _ _ _ [(0, .ref 68), (1, j_i p), (2, j_i k), (3, j_i a), (4, j_i b), (5, j_i c), (6, j_i t), (7, j_i (σ.1 69 1382))] [j_i (1383 + 7 * (σ.1 69 1382)), .ref 69] _ _ _ _
  refine a_iconst (pc := 84) (n := 4) (by decide +kernel) ?_
  refine a_iadd (pc := 85) (by decide +kernel) ?_
  refine a_iload (pc := 86) (i := 4) (by decide +kernel) rfl ?_
  refine b_iastore (pc := 88) (by decide +kernel) (sh_69 hn) (by omega) (by omega) (by omega) ?_
  obtain ⟨σ12, hσ12⟩ : ∃ z, z = k_sA σ10 69 (j_up (σ10.1 69) ((1383 + 7 * (σ.1 69 1382)) + 4) b) := ⟨_, rfl⟩
  rw [← hσ12]
  refine a_aload_n (pc := 89) (i := 0) (by decide +kernel) rfl ?_
  refine b_getR (pc := 90) (b := 69) fl_X12_7 (by decide +kernel) (sh_68 hn) rfl ?_
  refine a_aload_n (pc := 93) (i := 0) (by decide +kernel) rfl ?_
  refine a_iload (pc := 94) (i := 7) (by decide +kernel) rfl ?_
  refine b_pureV (pc := 96) [j_i (σ.1 69 1382)] [.ref 69] ml_X12_251 (by decide +kernel) rfl rfl (sh_68 hn) rfl rfl (Nat.le_of_ble_eq_true rfl) (j_fitI rfl rfl) (s_dmarkAt) ?_
  show j_at _ _ _ [(0, .ref 68), (1, j_i p), (2, j_i k), (3, j_i a), (4, j_i b), (5, j_i c), (6, j_i t), (7, j_i (σ.1 69 1382))] [j_i (1383 + 7 * (σ.1 69 1382)), .ref 69] _ _ _ _
  refine a_iconst (pc := 99) (n := 5) (by decide +kernel) ?_
  refine a_iadd (pc := 100) (by decide +kernel) ?_
  refine a_iload (pc := 101) (i := 5) (by decide +kernel) rfl ?_
  refine b_iastore (pc := 103) (by decide +kernel) (sh_69 hn) (by omega) (by omega) (by omega) ?_
  obtain ⟨σ14, hσ14⟩ : ∃ z, z = k_sA σ12 69 (j_up (σ12.1 69) ((1383 + 7 * (σ.1 69 1382)) + 5) c) := ⟨_, rfl⟩
  rw [← hσ14]
  refine a_aload_n (pc := 104) (i := 0) (by decide +kernel) rfl ?_
  refine b_getR (pc := 105) (b := 69) fl_X12_7 (by decide +kernel) (sh_68 hn) rfl ?_
  refine a_aload_n (pc := 108) (i := 0) (by decide +kernel) rfl ?_
  refine a_iload (pc := 109) (i := 7) (by decide +kernel) rfl ?_
  refine b_pureV (pc := 111) [j_i (σ.1 69 1382)] [.ref 69] ml_X12_251 (by decide +kernel) rfl rfl (sh_68 hn) rfl rfl (Nat.le_of_ble_eq_true rfl) (j_fitI rfl rfl) (s_dmarkAt) ?_
  show j_at _ _ _ [(0, .ref 68), (1, j_i p), (2, j_i k), (3, j_i a), (4, j_i b), (5, j_i c), (6, j_i t), (7, j_i (σ.1 69 1382))] [j_i (1383 + 7 * (σ.1 69 1382)), .ref 69] _ _ _ _
  refine a_bipush (pc := 114) (n := 6) (by decide +kernel) rfl ?_
  refine a_iadd (pc := 116) (by decide +kernel) ?_
  refine a_iload (pc := 117) (i := 6) (by decide +kernel) rfl ?_
  refine b_iastore (pc := 119) (by decide +kernel) (sh_69 hn) (by omega) (by omega) (by omega) ?_
  obtain ⟨σ16, hσ16⟩ : ∃ z, z = k_sA σ14 69 (j_up (σ14.1 69) ((1383 + 7 * (σ.1 69 1382)) + 6) t) := ⟨_, rfl⟩
  rw [← hσ16]
  refine a_iload (pc := 120) (i := 7) (by decide +kernel) rfl ?_
  refine a_ireturn (pc := 122) (by decide +kernel) rfl ?_
  refine k_ret ?_
  refine ⟨rfl, rfl, ?_⟩
  rw [hσ16]
  rw [hσ14]
  rw [hσ12]
  rw [hσ10]
  rw [hσ8]
  rw [hσ6]
  rw [hσ4]
  rw [hσ2]
  simp only [k_AA, k_sA2]
  rw [hσ1, d_kp_69 (by omega)]
  rfl
def mk_R (σ : k_St) (gp kd x y z t q : Int) : Prop := (¬ (0 ≤ gp ∧ gp ≤ σ.2.1 6 1) ∧ q = -1) ∨ ((0 ≤ gp ∧ gp ≤ σ.2.1 6 1) ∧ bi (h_is σ x ∧ (y = -9 ∨ h_is σ y) ∧ (z = -9 ∨ h_is σ z)) = 0 ∧ q = -1) ∨ ((0 ≤ gp ∧ gp ≤ σ.2.1 6 1) ∧ bi (h_is σ x ∧ (y = -9 ∨ h_is σ y) ∧ (z = -9 ∨ h_is σ z)) = 1 ∧ ¬ (0 ≤ kd ∧ kd ≤ 5) ∧ q = -2) ∨ ((0 ≤ gp ∧ gp ≤ σ.2.1 6 1) ∧ bi (h_is σ x ∧ (y = -9 ∨ h_is σ y) ∧ (z = -9 ∨ h_is σ z)) = 1 ∧ (0 ≤ kd ∧ kd ≤ 5) ∧ kd = 4 ∧ ¬ (1 ≤ t ∧ t ≤ 99) ∧ q = -2) ∨ ((0 ≤ gp ∧ gp ≤ σ.2.1 6 1) ∧ bi (h_is σ x ∧ (y = -9 ∨ h_is σ y) ∧ (z = -9 ∨ h_is σ z)) = 1 ∧ (0 ≤ kd ∧ kd ≤ 5) ∧ ¬ (kd = 4 ∧ ¬ (1 ≤ t ∧ t ≤ 99)) ∧ y = -9 ∧ z ≠ -9 ∧ q = -3) ∨ ((0 ≤ gp ∧ gp ≤ σ.2.1 6 1) ∧ bi (h_is σ x ∧ (y = -9 ∨ h_is σ y) ∧ (z = -9 ∨ h_is σ z)) = 1 ∧ (0 ≤ kd ∧ kd ≤ 5) ∧ ¬ (kd = 4 ∧ ¬ (1 ≤ t ∧ t ≤ 99)) ∧ ¬ (y = -9 ∧ z ≠ -9) ∧ 50 ≤ σ.2.1 16 5 ∧ q = -4) ∨ ((0 ≤ gp ∧ gp ≤ σ.2.1 6 1) ∧ bi (h_is σ x ∧ (y = -9 ∨ h_is σ y) ∧ (z = -9 ∨ h_is σ z)) = 1 ∧ (0 ≤ kd ∧ kd ≤ 5) ∧ ¬ (kd = 4 ∧ ¬ (1 ≤ t ∧ t ≤ 99)) ∧ ¬ (y = -9 ∧ z ≠ -9) ∧ σ.2.1 16 5 < 50 ∧ q = 0)
def mk_D (σ : k_St) (gp kd x y z t q : Int) : Prop := (¬ (0 ≤ gp ∧ gp ≤ σ.1 69 0) ∧ q = -1) ∨ ((0 ≤ gp ∧ gp ≤ σ.1 69 0) ∧ bi (d_is σ x ∧ (y = -9 ∨ d_is σ y) ∧ (z = -9 ∨ d_is σ z)) = 0 ∧ q = -1) ∨ ((0 ≤ gp ∧ gp ≤ σ.1 69 0) ∧ bi (d_is σ x ∧ (y = -9 ∨ d_is σ y) ∧ (z = -9 ∨ d_is σ z)) = 1 ∧ ¬ (0 ≤ kd ∧ kd ≤ 5) ∧ q = -2) ∨ ((0 ≤ gp ∧ gp ≤ σ.1 69 0) ∧ bi (d_is σ x ∧ (y = -9 ∨ d_is σ y) ∧ (z = -9 ∨ d_is σ z)) = 1 ∧ (0 ≤ kd ∧ kd ≤ 5) ∧ kd = 4 ∧ ¬ (1 ≤ t ∧ t ≤ 99) ∧ q = -2) ∨ ((0 ≤ gp ∧ gp ≤ σ.1 69 0) ∧ bi (d_is σ x ∧ (y = -9 ∨ d_is σ y) ∧ (z = -9 ∨ d_is σ z)) = 1 ∧ (0 ≤ kd ∧ kd ≤ 5) ∧ ¬ (kd = 4 ∧ ¬ (1 ≤ t ∧ t ≤ 99)) ∧ y = -9 ∧ z ≠ -9 ∧ q = -3) ∨ ((0 ≤ gp ∧ gp ≤ σ.1 69 0) ∧ bi (d_is σ x ∧ (y = -9 ∨ d_is σ y) ∧ (z = -9 ∨ d_is σ z)) = 1 ∧ (0 ≤ kd ∧ kd ≤ 5) ∧ ¬ (kd = 4 ∧ ¬ (1 ≤ t ∧ t ≤ 99)) ∧ ¬ (y = -9 ∧ z ≠ -9) ∧ 50 ≤ σ.1 69 1382 ∧ q = -4) ∨ ((0 ≤ gp ∧ gp ≤ σ.1 69 0) ∧ bi (d_is σ x ∧ (y = -9 ∨ d_is σ y) ∧ (z = -9 ∨ d_is σ z)) = 1 ∧ (0 ≤ kd ∧ kd ≤ 5) ∧ ¬ (kd = 4 ∧ ¬ (1 ≤ t ∧ t ≤ 99)) ∧ ¬ (y = -9 ∧ z ≠ -9) ∧ σ.1 69 1382 < 50 ∧ q = 0)
def mk_C (n : Nat) (σ : k_St) (gp kd x y z t r : Int) (n' : Nat) (σ' : k_St) : Prop := (∃ q, mk_R σ gp kd x y z t q ∧ q < 0 ∧ r = q ∧ n' = n ∧ σ' = σ) ∨ (mk_R σ gp kd x y z t 0 ∧ r = σ.2.1 16 5 ∧ ∃ σs, SV n σ n' σs ∧ σ' = m_add σs gp kd (f_path x y z) (if kd = 4 then t else 0))
set_option maxHeartbeats 4000000 in
theorem c_mark {G : j_G} {X : k_X} {n : Nat} {σ : k_St} (hR : RR n σ) {gp : Int} (hgp : -2147483648 ≤ gp ∧ gp ≤ 2147483647) {kd : Int} (hkd : -2147483648 ≤ kd ∧ kd ≤ 2147483647) {x : Int} (hx : -2147483648 ≤ x ∧ x ≤ 2147483647) {y : Int} (hy : -2147483648 ≤ y ∧ y ≤ 2147483647) {z : Int} (hz : -2147483648 ≤ z ∧ z ≤ 2147483647) {t : Int} (ht : -2147483648 ≤ t ∧ t ≤ 2147483647)  : k_run G X mX11_mark [.ref 5, j_i gp, j_i kd, j_i x, j_i y, j_i z, j_i t] n σ 16 1618 (fun v n' σ' => ∃ r : Int, v = some (j_i r) ∧ mk_C n σ gp kd x y z t r n' σ') := by
  obtain ⟨hK, hAc, hNm, hPs, hPt, hSm, hIx⟩ := id hR
  have hn := RR_n hR
  have hk := hK.1
  have hwh : h_wf σ 8 := hk.2.1
  have hwm : m_wf σ 16 := hk.2.2
  have hW : 0 ≤ σ.2.1 6 1 ∧ σ.2.1 6 1 ≤ 300 := hk.1
  have hfl := hSm.1
  have hM9 := hwm.1
  refine k_enter (by decide +kernel) (Nat.le_of_ble_eq_true rfl) ?_
  show j_at _ _ _ [(0, .ref 5), (1, j_i gp), (2, j_i kd), (3, j_i x), (4, j_i y), (5, j_i z), (6, j_i t)] [] _ _ _ _
  refine a_aload_n (pc := 0) (i := 0) (by decide +kernel) rfl ?_
  refine b_getR (pc := 1) (b := 6) fl_X11_12 (by decide +kernel) (sh_5 hn) rfl ?_
  refine a_iload_n (pc := 4) (i := 1) (by decide +kernel) rfl ?_
  refine b_callV (pc := 5) (c' := 0) (sl' := 0) [j_i gp] [] ml_X11_91 (by decide +kernel) rfl rfl (sh_6 hn) rfl rfl (Nat.le_of_ble_eq_true rfl) (j_fitI rfl rfl) (s_hasGap hn hW (by omega)) (fun v n' σ' hq => ?_)
  obtain ⟨x, rfl, e1, e2, hx⟩ := hq
  rw [e1, e2]; clear e1 e2
  rcases hx with ⟨rfl, p5⟩ | ⟨rfl, p5⟩
  · show j_at _ _ _ [(0, .ref 5), (1, j_i gp), (2, j_i kd), (3, j_i x), (4, j_i y), (5, j_i z), (6, j_i t)] [j_i 1] _ _ _ _
    refine a_if_eq (pc := 8) (off := 15) (tgt := 23) (by decide +kernel) (by decide) (by omega) (fun c8 => ?_) (fun c8 => ?_)
    · exact absurd c8 (by decide)
    · refine a_aload_n (pc := 11) (i := 0) (by decide +kernel) rfl ?_
      refine a_iload_n (pc := 12) (i := 3) (by decide +kernel) rfl ?_
      refine a_iload (pc := 13) (i := 4) (by decide +kernel) rfl ?_
      refine a_iload (pc := 15) (i := 5) (by decide +kernel) rfl ?_
      refine b_callV (pc := 17) (c' := 0) (sl' := 0) [j_i x, j_i y, j_i z] [] ml_X11_233 (by decide +kernel) rfl rfl (sh_5 hn) rfl rfl (Nat.le_of_ble_eq_true rfl) (j_fitI rfl rfl) (c_hasHeads hR (by omega) (by omega) (by omega)) (fun v n' σ' hq => ?_)
      obtain ⟨x, rfl, e1, e2, hx⟩ := hq
      rw [e1, e2]; clear e1 e2
      rcases hx with ⟨rfl, p17⟩ | ⟨rfl, p17⟩
      · show j_at _ _ _ [(0, .ref 5), (1, j_i gp), (2, j_i kd), (3, j_i x), (4, j_i y), (5, j_i z), (6, j_i t)] [j_i 1] _ _ _ _
        have i17 := bi_y p17
        refine a_if_ne (pc := 20) (off := 5) (tgt := 25) (by decide +kernel) (by decide) (by omega) (fun c20 => ?_) (fun c20 => ?_)
        · refine a_iload_n (pc := 25) (i := 2) (by decide +kernel) rfl ?_
          refine a_if_lt (pc := 26) (off := 26) (tgt := 52) (by decide +kernel) (by decide) (by omega) (fun c26 => ?_) (fun c26 => ?_)
          · refine a_bipush (pc := 52) (n := (-2)) (by decide +kernel) rfl ?_
            refine a_ireturn (pc := 54) (by decide +kernel) rfl ?_
            refine k_ret ?_
            refine ⟨_, rfl, Or.inl ⟨_, ?_, by omega, rfl, rfl, rfl⟩⟩
            unfold mk_R
            first | exact Or.inl (by omega) | exact Or.inr (Or.inl (by omega)) | exact Or.inr (Or.inr (Or.inl (by omega))) | exact Or.inr (Or.inr (Or.inr (Or.inl (by omega)))) | exact Or.inr (Or.inr (Or.inr (Or.inr (Or.inl (by omega))))) | exact Or.inr (Or.inr (Or.inr (Or.inr (Or.inr (Or.inl (by omega)))))) | exact Or.inr (Or.inr (Or.inr (Or.inr (Or.inr (Or.inr (by omega))))))
          · refine a_iload_n (pc := 29) (i := 2) (by decide +kernel) rfl ?_
            refine a_iconst (pc := 30) (n := 5) (by decide +kernel) ?_
            refine a_icmp_gt (pc := 31) (off := 21) (tgt := 52) (by decide +kernel) (by decide) (by omega) (by omega) (fun c31 => ?_) (fun c31 => ?_)
            · refine a_bipush (pc := 52) (n := (-2)) (by decide +kernel) rfl ?_
              refine a_ireturn (pc := 54) (by decide +kernel) rfl ?_
              refine k_ret ?_
              refine ⟨_, rfl, Or.inl ⟨_, ?_, by omega, rfl, rfl, rfl⟩⟩
              unfold mk_R
              first | exact Or.inl (by omega) | exact Or.inr (Or.inl (by omega)) | exact Or.inr (Or.inr (Or.inl (by omega))) | exact Or.inr (Or.inr (Or.inr (Or.inl (by omega)))) | exact Or.inr (Or.inr (Or.inr (Or.inr (Or.inl (by omega))))) | exact Or.inr (Or.inr (Or.inr (Or.inr (Or.inr (Or.inl (by omega)))))) | exact Or.inr (Or.inr (Or.inr (Or.inr (Or.inr (Or.inr (by omega))))))
            · refine a_iload_n (pc := 34) (i := 2) (by decide +kernel) rfl ?_
              refine a_iconst (pc := 35) (n := 4) (by decide +kernel) ?_
              refine a_icmp_ne (pc := 36) (off := 19) (tgt := 55) (by decide +kernel) (by decide) (by omega) (by omega) (fun c36 => ?_) (fun c36 => ?_)
              · refine a_iload (pc := 55) (i := 4) (by decide +kernel) rfl ?_
                refine a_bipush (pc := 57) (n := (-9)) (by decide +kernel) rfl ?_
                refine a_icmp_ne (pc := 59) (off := 13) (tgt := 72) (by decide +kernel) (by decide) (by omega) (by omega) (fun c59 => ?_) (fun c59 => ?_)
                · refine a_aload_n (pc := 72) (i := 0) (by decide +kernel) rfl ?_
                  refine b_getR (pc := 73) (b := 16) fl_X11_25 (by decide +kernel) (sh_5 hn) rfl ?_
                  refine b_getI (pc := 76) fl_X11_236 (by decide +kernel) (sh_16 hn) rfl ?_
                  refine a_bipush (pc := 79) (n := 50) (by decide +kernel) rfl ?_
                  refine a_icmp_lt (pc := 81) (off := 6) (tgt := 87) (by decide +kernel) (by decide) (by omega) (by omega) (fun c81 => ?_) (fun c81 => ?_)
                  · refine a_aload_n (pc := 87) (i := 0) (by decide +kernel) rfl ?_
                    refine b_getR (pc := 88) (b := 22) fl_X11_29 (by decide +kernel) (sh_5 hn) rfl ?_
                    refine a_aload_n (pc := 91) (i := 0) (by decide +kernel) rfl ?_
                    refine b_getR (pc := 92) (b := 6) fl_X11_12 (by decide +kernel) (sh_5 hn) rfl ?_
                    refine b_callV (pc := 95) (c' := 16) (sl' := 1618) [.ref 6] [] ml_X11_98 (by decide +kernel) rfl rfl (sh_22 hn) rfl rfl (Nat.le_of_ble_eq_true rfl) (j_fitI rfl rfl) (s_save hk hAc) (fun v n' σ' hq => ?_)
                    obtain ⟨σ1, hσ1⟩ : ∃ z, z = σ' := ⟨_, rfl⟩
                    rw [← hσ1] at hq ⊢
                    obtain ⟨rfl, hsv⟩ := hq
                    clear hσ1
                    obtain ⟨sv1, sv2, hn9⟩ := SV_e hsv
                    have hn : 101 ≤ n' := hn9
                    have hwm : m_wf σ1 16 := m_wf_congr (sv1 _ (by omega)) (sv1 _ (by omega)) (sv1 _ (by omega)) (sv1 _ (by omega)) (sv1 _ (by omega)) (sv2 _ _ (by omega) (by omega)) hwm
                    have hwh : h_wf σ1 8 := h_wf_congr (sv1 _ (by omega)) (sv1 _ (by omega)) (sv1 _ (by omega)) (sv1 _ (by omega)) (sv1 _ (by omega)) (sv2 _ _ (by omega) (by omega)) hwh
                    show j_at _ _ _ [(0, .ref 5), (1, j_i gp), (2, j_i kd), (3, j_i x), (4, j_i y), (5, j_i z), (6, j_i t)] [] _ _ _ _
                    refine a_aload_n (pc := 98) (i := 0) (by decide +kernel) rfl ?_
                    refine b_getR (pc := 99) (b := 16) fl_X11_25 (by decide +kernel) (sh_5 hn) rfl ?_
                    refine a_iload_n (pc := 102) (i := 1) (by decide +kernel) rfl ?_
                    refine a_iload_n (pc := 103) (i := 2) (by decide +kernel) rfl ?_
                    refine a_iload_n (pc := 104) (i := 3) (by decide +kernel) rfl ?_
                    refine a_iload (pc := 105) (i := 4) (by decide +kernel) rfl ?_
                    refine a_iload (pc := 107) (i := 5) (by decide +kernel) rfl ?_
                    refine a_iload_n (pc := 109) (i := 2) (by decide +kernel) rfl ?_
                    refine a_iconst (pc := 110) (n := 4) (by decide +kernel) ?_
                    refine a_icmp_ne (pc := 111) (off := 8) (tgt := 119) (by decide +kernel) (by decide) (by omega) (by omega) (fun c111 => ?_) (fun c111 => ?_)
                    · refine a_iconst (pc := 119) (n := 0) (by decide +kernel) ?_
                      refine b_callV (pc := 120) (c' := 0) (sl' := 0) [j_i gp, j_i kd, j_i x, j_i y, j_i z, j_i 0] [] ml_X11_237 (by decide +kernel) rfl rfl (sh_16 hn) rfl rfl (Nat.le_of_ble_eq_true rfl) (j_fitI rfl rfl) (s_madd hn hwm (by rw [sv2 16 5 (by omega) (by omega)]; omega) (by omega) (by omega) (by omega)) (fun v n' σ' hq => ?_)
                      obtain ⟨hv1, e1, e2⟩ := hq
                      rw [hv1, e1, e2]; clear e1 e2
                      obtain ⟨σ2, hσ2⟩ : ∃ w, w = m_add σ1 gp kd (f_path x y z) 0 := ⟨_, rfl⟩
                      rw [← hσ2, sv2 16 5 (by omega) (by omega)]
                      show j_at _ _ _ [(0, .ref 5), (1, j_i gp), (2, j_i kd), (3, j_i x), (4, j_i y), (5, j_i z), (6, j_i t)] [j_i (σ.2.1 16 5)] _ _ _ _
                      refine a_ireturn (pc := 123) (by decide +kernel) rfl ?_
                      refine k_ret ?_
                      refine ⟨_, rfl, Or.inr ⟨?_, rfl, σ1, hsv, by rw [hσ2]; congr 1; first | (rw [if_pos (by omega)]; done) | (rw [if_neg (by omega)]; done) | (exfalso; omega)⟩⟩
                      unfold mk_R
                      first | exact Or.inl (by omega) | exact Or.inr (Or.inl (by omega)) | exact Or.inr (Or.inr (Or.inl (by omega))) | exact Or.inr (Or.inr (Or.inr (Or.inl (by omega)))) | exact Or.inr (Or.inr (Or.inr (Or.inr (Or.inl (by omega))))) | exact Or.inr (Or.inr (Or.inr (Or.inr (Or.inr (Or.inl (by omega)))))) | exact Or.inr (Or.inr (Or.inr (Or.inr (Or.inr (Or.inr (by omega))))))
                    · refine a_iload (pc := 114) (i := 6) (by decide +kernel) rfl ?_
                      refine a_goto (pc := 116) (off := 4) (tgt := 120) (by decide +kernel) (by decide) ?_
                      refine b_callV (pc := 120) (c' := 0) (sl' := 0) [j_i gp, j_i kd, j_i x, j_i y, j_i z, j_i t] [] ml_X11_237 (by decide +kernel) rfl rfl (sh_16 hn) rfl rfl (Nat.le_of_ble_eq_true rfl) (j_fitI rfl rfl) (s_madd hn hwm (by rw [sv2 16 5 (by omega) (by omega)]; omega) (by omega) (by omega) (by omega)) (fun v n' σ' hq => ?_)
                      obtain ⟨hv1, e1, e2⟩ := hq
                      rw [hv1, e1, e2]; clear e1 e2
                      obtain ⟨σ3, hσ3⟩ : ∃ w, w = m_add σ1 gp kd (f_path x y z) t := ⟨_, rfl⟩
                      rw [← hσ3, sv2 16 5 (by omega) (by omega)]
                      show j_at _ _ _ [(0, .ref 5), (1, j_i gp), (2, j_i kd), (3, j_i x), (4, j_i y), (5, j_i z), (6, j_i t)] [j_i (σ.2.1 16 5)] _ _ _ _
                      refine a_ireturn (pc := 123) (by decide +kernel) rfl ?_
                      refine k_ret ?_
                      refine ⟨_, rfl, Or.inr ⟨?_, rfl, σ1, hsv, by rw [hσ3]; congr 1; first | (rw [if_pos (by omega)]; done) | (rw [if_neg (by omega)]; done) | (exfalso; omega)⟩⟩
                      unfold mk_R
                      first | exact Or.inl (by omega) | exact Or.inr (Or.inl (by omega)) | exact Or.inr (Or.inr (Or.inl (by omega))) | exact Or.inr (Or.inr (Or.inr (Or.inl (by omega)))) | exact Or.inr (Or.inr (Or.inr (Or.inr (Or.inl (by omega))))) | exact Or.inr (Or.inr (Or.inr (Or.inr (Or.inr (Or.inl (by omega)))))) | exact Or.inr (Or.inr (Or.inr (Or.inr (Or.inr (Or.inr (by omega))))))
                  · refine a_bipush (pc := 84) (n := (-4)) (by decide +kernel) rfl ?_
                    refine a_ireturn (pc := 86) (by decide +kernel) rfl ?_
                    refine k_ret ?_
                    refine ⟨_, rfl, Or.inl ⟨_, ?_, by omega, rfl, rfl, rfl⟩⟩
                    unfold mk_R
                    first | exact Or.inl (by omega) | exact Or.inr (Or.inl (by omega)) | exact Or.inr (Or.inr (Or.inl (by omega))) | exact Or.inr (Or.inr (Or.inr (Or.inl (by omega)))) | exact Or.inr (Or.inr (Or.inr (Or.inr (Or.inl (by omega))))) | exact Or.inr (Or.inr (Or.inr (Or.inr (Or.inr (Or.inl (by omega)))))) | exact Or.inr (Or.inr (Or.inr (Or.inr (Or.inr (Or.inr (by omega))))))
                · refine a_iload (pc := 62) (i := 5) (by decide +kernel) rfl ?_
                  refine a_bipush (pc := 64) (n := (-9)) (by decide +kernel) rfl ?_
                  refine a_icmp_eq (pc := 66) (off := 6) (tgt := 72) (by decide +kernel) (by decide) (by omega) (by omega) (fun c66 => ?_) (fun c66 => ?_)
                  · refine a_aload_n (pc := 72) (i := 0) (by decide +kernel) rfl ?_
                    refine b_getR (pc := 73) (b := 16) fl_X11_25 (by decide +kernel) (sh_5 hn) rfl ?_
                    refine b_getI (pc := 76) fl_X11_236 (by decide +kernel) (sh_16 hn) rfl ?_
                    refine a_bipush (pc := 79) (n := 50) (by decide +kernel) rfl ?_
                    refine a_icmp_lt (pc := 81) (off := 6) (tgt := 87) (by decide +kernel) (by decide) (by omega) (by omega) (fun c81 => ?_) (fun c81 => ?_)
                    · refine a_aload_n (pc := 87) (i := 0) (by decide +kernel) rfl ?_
                      refine b_getR (pc := 88) (b := 22) fl_X11_29 (by decide +kernel) (sh_5 hn) rfl ?_
                      refine a_aload_n (pc := 91) (i := 0) (by decide +kernel) rfl ?_
                      refine b_getR (pc := 92) (b := 6) fl_X11_12 (by decide +kernel) (sh_5 hn) rfl ?_
                      refine b_callV (pc := 95) (c' := 16) (sl' := 1618) [.ref 6] [] ml_X11_98 (by decide +kernel) rfl rfl (sh_22 hn) rfl rfl (Nat.le_of_ble_eq_true rfl) (j_fitI rfl rfl) (s_save hk hAc) (fun v n' σ' hq => ?_)
                      obtain ⟨σ4, hσ4⟩ : ∃ z, z = σ' := ⟨_, rfl⟩
                      rw [← hσ4] at hq ⊢
                      obtain ⟨rfl, hsv⟩ := hq
                      clear hσ4
                      obtain ⟨sv1, sv2, hn9⟩ := SV_e hsv
                      have hn : 101 ≤ n' := hn9
                      have hwm : m_wf σ4 16 := m_wf_congr (sv1 _ (by omega)) (sv1 _ (by omega)) (sv1 _ (by omega)) (sv1 _ (by omega)) (sv1 _ (by omega)) (sv2 _ _ (by omega) (by omega)) hwm
                      have hwh : h_wf σ4 8 := h_wf_congr (sv1 _ (by omega)) (sv1 _ (by omega)) (sv1 _ (by omega)) (sv1 _ (by omega)) (sv1 _ (by omega)) (sv2 _ _ (by omega) (by omega)) hwh
                      show j_at _ _ _ [(0, .ref 5), (1, j_i gp), (2, j_i kd), (3, j_i x), (4, j_i y), (5, j_i z), (6, j_i t)] [] _ _ _ _
                      refine a_aload_n (pc := 98) (i := 0) (by decide +kernel) rfl ?_
                      refine b_getR (pc := 99) (b := 16) fl_X11_25 (by decide +kernel) (sh_5 hn) rfl ?_
                      refine a_iload_n (pc := 102) (i := 1) (by decide +kernel) rfl ?_
                      refine a_iload_n (pc := 103) (i := 2) (by decide +kernel) rfl ?_
                      refine a_iload_n (pc := 104) (i := 3) (by decide +kernel) rfl ?_
                      refine a_iload (pc := 105) (i := 4) (by decide +kernel) rfl ?_
                      refine a_iload (pc := 107) (i := 5) (by decide +kernel) rfl ?_
                      refine a_iload_n (pc := 109) (i := 2) (by decide +kernel) rfl ?_
                      refine a_iconst (pc := 110) (n := 4) (by decide +kernel) ?_
                      refine a_icmp_ne (pc := 111) (off := 8) (tgt := 119) (by decide +kernel) (by decide) (by omega) (by omega) (fun c111 => ?_) (fun c111 => ?_)
                      · refine a_iconst (pc := 119) (n := 0) (by decide +kernel) ?_
                        refine b_callV (pc := 120) (c' := 0) (sl' := 0) [j_i gp, j_i kd, j_i x, j_i y, j_i z, j_i 0] [] ml_X11_237 (by decide +kernel) rfl rfl (sh_16 hn) rfl rfl (Nat.le_of_ble_eq_true rfl) (j_fitI rfl rfl) (s_madd hn hwm (by rw [sv2 16 5 (by omega) (by omega)]; omega) (by omega) (by omega) (by omega)) (fun v n' σ' hq => ?_)
                        obtain ⟨hv1, e1, e2⟩ := hq
                        rw [hv1, e1, e2]; clear e1 e2
                        obtain ⟨σ5, hσ5⟩ : ∃ w, w = m_add σ4 gp kd (f_path x y z) 0 := ⟨_, rfl⟩
                        rw [← hσ5, sv2 16 5 (by omega) (by omega)]
                        show j_at _ _ _ [(0, .ref 5), (1, j_i gp), (2, j_i kd), (3, j_i x), (4, j_i y), (5, j_i z), (6, j_i t)] [j_i (σ.2.1 16 5)] _ _ _ _
                        refine a_ireturn (pc := 123) (by decide +kernel) rfl ?_
                        refine k_ret ?_
                        refine ⟨_, rfl, Or.inr ⟨?_, rfl, σ4, hsv, by rw [hσ5]; congr 1; first | (rw [if_pos (by omega)]; done) | (rw [if_neg (by omega)]; done) | (exfalso; omega)⟩⟩
                        unfold mk_R
                        first | exact Or.inl (by omega) | exact Or.inr (Or.inl (by omega)) | exact Or.inr (Or.inr (Or.inl (by omega))) | exact Or.inr (Or.inr (Or.inr (Or.inl (by omega)))) | exact Or.inr (Or.inr (Or.inr (Or.inr (Or.inl (by omega))))) | exact Or.inr (Or.inr (Or.inr (Or.inr (Or.inr (Or.inl (by omega)))))) | exact Or.inr (Or.inr (Or.inr (Or.inr (Or.inr (Or.inr (by omega))))))
                      · refine a_iload (pc := 114) (i := 6) (by decide +kernel) rfl ?_
                        refine a_goto (pc := 116) (off := 4) (tgt := 120) (by decide +kernel) (by decide) ?_
                        refine b_callV (pc := 120) (c' := 0) (sl' := 0) [j_i gp, j_i kd, j_i x, j_i y, j_i z, j_i t] [] ml_X11_237 (by decide +kernel) rfl rfl (sh_16 hn) rfl rfl (Nat.le_of_ble_eq_true rfl) (j_fitI rfl rfl) (s_madd hn hwm (by rw [sv2 16 5 (by omega) (by omega)]; omega) (by omega) (by omega) (by omega)) (fun v n' σ' hq => ?_)
                        obtain ⟨hv1, e1, e2⟩ := hq
                        rw [hv1, e1, e2]; clear e1 e2
                        obtain ⟨σ6, hσ6⟩ : ∃ w, w = m_add σ4 gp kd (f_path x y z) t := ⟨_, rfl⟩
                        rw [← hσ6, sv2 16 5 (by omega) (by omega)]
                        show j_at _ _ _ [(0, .ref 5), (1, j_i gp), (2, j_i kd), (3, j_i x), (4, j_i y), (5, j_i z), (6, j_i t)] [j_i (σ.2.1 16 5)] _ _ _ _
                        refine a_ireturn (pc := 123) (by decide +kernel) rfl ?_
                        refine k_ret ?_
                        refine ⟨_, rfl, Or.inr ⟨?_, rfl, σ4, hsv, by rw [hσ6]; congr 1; first | (rw [if_pos (by omega)]; done) | (rw [if_neg (by omega)]; done) | (exfalso; omega)⟩⟩
                        unfold mk_R
                        first | exact Or.inl (by omega) | exact Or.inr (Or.inl (by omega)) | exact Or.inr (Or.inr (Or.inl (by omega))) | exact Or.inr (Or.inr (Or.inr (Or.inl (by omega)))) | exact Or.inr (Or.inr (Or.inr (Or.inr (Or.inl (by omega))))) | exact Or.inr (Or.inr (Or.inr (Or.inr (Or.inr (Or.inl (by omega)))))) | exact Or.inr (Or.inr (Or.inr (Or.inr (Or.inr (Or.inr (by omega))))))
                    · refine a_bipush (pc := 84) (n := (-4)) (by decide +kernel) rfl ?_
                      refine a_ireturn (pc := 86) (by decide +kernel) rfl ?_
                      refine k_ret ?_
                      refine ⟨_, rfl, Or.inl ⟨_, ?_, by omega, rfl, rfl, rfl⟩⟩
                      unfold mk_R
                      first | exact Or.inl (by omega) | exact Or.inr (Or.inl (by omega)) | exact Or.inr (Or.inr (Or.inl (by omega))) | exact Or.inr (Or.inr (Or.inr (Or.inl (by omega)))) | exact Or.inr (Or.inr (Or.inr (Or.inr (Or.inl (by omega))))) | exact Or.inr (Or.inr (Or.inr (Or.inr (Or.inr (Or.inl (by omega)))))) | exact Or.inr (Or.inr (Or.inr (Or.inr (Or.inr (Or.inr (by omega))))))
                  · refine a_bipush (pc := 69) (n := (-3)) (by decide +kernel) rfl ?_
                    refine a_ireturn (pc := 71) (by decide +kernel) rfl ?_
                    refine k_ret ?_
                    refine ⟨_, rfl, Or.inl ⟨_, ?_, by omega, rfl, rfl, rfl⟩⟩
                    unfold mk_R
                    first | exact Or.inl (by omega) | exact Or.inr (Or.inl (by omega)) | exact Or.inr (Or.inr (Or.inl (by omega))) | exact Or.inr (Or.inr (Or.inr (Or.inl (by omega)))) | exact Or.inr (Or.inr (Or.inr (Or.inr (Or.inl (by omega))))) | exact Or.inr (Or.inr (Or.inr (Or.inr (Or.inr (Or.inl (by omega)))))) | exact Or.inr (Or.inr (Or.inr (Or.inr (Or.inr (Or.inr (by omega))))))
              · refine a_iload (pc := 39) (i := 6) (by decide +kernel) rfl ?_
                refine a_iconst (pc := 41) (n := 1) (by decide +kernel) ?_
                refine a_icmp_lt (pc := 42) (off := 10) (tgt := 52) (by decide +kernel) (by decide) (by omega) (by omega) (fun c42 => ?_) (fun c42 => ?_)
                · refine a_bipush (pc := 52) (n := (-2)) (by decide +kernel) rfl ?_
                  refine a_ireturn (pc := 54) (by decide +kernel) rfl ?_
                  refine k_ret ?_
                  refine ⟨_, rfl, Or.inl ⟨_, ?_, by omega, rfl, rfl, rfl⟩⟩
                  unfold mk_R
                  first | exact Or.inl (by omega) | exact Or.inr (Or.inl (by omega)) | exact Or.inr (Or.inr (Or.inl (by omega))) | exact Or.inr (Or.inr (Or.inr (Or.inl (by omega)))) | exact Or.inr (Or.inr (Or.inr (Or.inr (Or.inl (by omega))))) | exact Or.inr (Or.inr (Or.inr (Or.inr (Or.inr (Or.inl (by omega)))))) | exact Or.inr (Or.inr (Or.inr (Or.inr (Or.inr (Or.inr (by omega))))))
                · refine a_iload (pc := 45) (i := 6) (by decide +kernel) rfl ?_
                  refine a_bipush (pc := 47) (n := 99) (by decide +kernel) rfl ?_
                  refine a_icmp_le (pc := 49) (off := 6) (tgt := 55) (by decide +kernel) (by decide) (by omega) (by omega) (fun c49 => ?_) (fun c49 => ?_)
                  · refine a_iload (pc := 55) (i := 4) (by decide +kernel) rfl ?_
                    refine a_bipush (pc := 57) (n := (-9)) (by decide +kernel) rfl ?_
                    refine a_icmp_ne (pc := 59) (off := 13) (tgt := 72) (by decide +kernel) (by decide) (by omega) (by omega) (fun c59 => ?_) (fun c59 => ?_)
                    · refine a_aload_n (pc := 72) (i := 0) (by decide +kernel) rfl ?_
                      refine b_getR (pc := 73) (b := 16) fl_X11_25 (by decide +kernel) (sh_5 hn) rfl ?_
                      refine b_getI (pc := 76) fl_X11_236 (by decide +kernel) (sh_16 hn) rfl ?_
                      refine a_bipush (pc := 79) (n := 50) (by decide +kernel) rfl ?_
                      refine a_icmp_lt (pc := 81) (off := 6) (tgt := 87) (by decide +kernel) (by decide) (by omega) (by omega) (fun c81 => ?_) (fun c81 => ?_)
                      · refine a_aload_n (pc := 87) (i := 0) (by decide +kernel) rfl ?_
                        refine b_getR (pc := 88) (b := 22) fl_X11_29 (by decide +kernel) (sh_5 hn) rfl ?_
                        refine a_aload_n (pc := 91) (i := 0) (by decide +kernel) rfl ?_
                        refine b_getR (pc := 92) (b := 6) fl_X11_12 (by decide +kernel) (sh_5 hn) rfl ?_
                        refine b_callV (pc := 95) (c' := 16) (sl' := 1618) [.ref 6] [] ml_X11_98 (by decide +kernel) rfl rfl (sh_22 hn) rfl rfl (Nat.le_of_ble_eq_true rfl) (j_fitI rfl rfl) (s_save hk hAc) (fun v n' σ' hq => ?_)
                        obtain ⟨σ7, hσ7⟩ : ∃ z, z = σ' := ⟨_, rfl⟩
                        rw [← hσ7] at hq ⊢
                        obtain ⟨rfl, hsv⟩ := hq
                        clear hσ7
                        obtain ⟨sv1, sv2, hn9⟩ := SV_e hsv
                        have hn : 101 ≤ n' := hn9
                        have hwm : m_wf σ7 16 := m_wf_congr (sv1 _ (by omega)) (sv1 _ (by omega)) (sv1 _ (by omega)) (sv1 _ (by omega)) (sv1 _ (by omega)) (sv2 _ _ (by omega) (by omega)) hwm
                        have hwh : h_wf σ7 8 := h_wf_congr (sv1 _ (by omega)) (sv1 _ (by omega)) (sv1 _ (by omega)) (sv1 _ (by omega)) (sv1 _ (by omega)) (sv2 _ _ (by omega) (by omega)) hwh
                        show j_at _ _ _ [(0, .ref 5), (1, j_i gp), (2, j_i kd), (3, j_i x), (4, j_i y), (5, j_i z), (6, j_i t)] [] _ _ _ _
                        refine a_aload_n (pc := 98) (i := 0) (by decide +kernel) rfl ?_
                        refine b_getR (pc := 99) (b := 16) fl_X11_25 (by decide +kernel) (sh_5 hn) rfl ?_
                        refine a_iload_n (pc := 102) (i := 1) (by decide +kernel) rfl ?_
                        refine a_iload_n (pc := 103) (i := 2) (by decide +kernel) rfl ?_
                        refine a_iload_n (pc := 104) (i := 3) (by decide +kernel) rfl ?_
                        refine a_iload (pc := 105) (i := 4) (by decide +kernel) rfl ?_
                        refine a_iload (pc := 107) (i := 5) (by decide +kernel) rfl ?_
                        refine a_iload_n (pc := 109) (i := 2) (by decide +kernel) rfl ?_
                        refine a_iconst (pc := 110) (n := 4) (by decide +kernel) ?_
                        refine a_icmp_ne (pc := 111) (off := 8) (tgt := 119) (by decide +kernel) (by decide) (by omega) (by omega) (fun c111 => ?_) (fun c111 => ?_)
                        · refine a_iconst (pc := 119) (n := 0) (by decide +kernel) ?_
                          refine b_callV (pc := 120) (c' := 0) (sl' := 0) [j_i gp, j_i kd, j_i x, j_i y, j_i z, j_i 0] [] ml_X11_237 (by decide +kernel) rfl rfl (sh_16 hn) rfl rfl (Nat.le_of_ble_eq_true rfl) (j_fitI rfl rfl) (s_madd hn hwm (by rw [sv2 16 5 (by omega) (by omega)]; omega) (by omega) (by omega) (by omega)) (fun v n' σ' hq => ?_)
                          obtain ⟨hv1, e1, e2⟩ := hq
                          rw [hv1, e1, e2]; clear e1 e2
                          obtain ⟨σ8, hσ8⟩ : ∃ w, w = m_add σ7 gp kd (f_path x y z) 0 := ⟨_, rfl⟩
                          rw [← hσ8, sv2 16 5 (by omega) (by omega)]
                          show j_at _ _ _ [(0, .ref 5), (1, j_i gp), (2, j_i kd), (3, j_i x), (4, j_i y), (5, j_i z), (6, j_i t)] [j_i (σ.2.1 16 5)] _ _ _ _
                          refine a_ireturn (pc := 123) (by decide +kernel) rfl ?_
                          refine k_ret ?_
                          refine ⟨_, rfl, Or.inr ⟨?_, rfl, σ7, hsv, by rw [hσ8]; congr 1; first | (rw [if_pos (by omega)]; done) | (rw [if_neg (by omega)]; done) | (exfalso; omega)⟩⟩
                          unfold mk_R
                          first | exact Or.inl (by omega) | exact Or.inr (Or.inl (by omega)) | exact Or.inr (Or.inr (Or.inl (by omega))) | exact Or.inr (Or.inr (Or.inr (Or.inl (by omega)))) | exact Or.inr (Or.inr (Or.inr (Or.inr (Or.inl (by omega))))) | exact Or.inr (Or.inr (Or.inr (Or.inr (Or.inr (Or.inl (by omega)))))) | exact Or.inr (Or.inr (Or.inr (Or.inr (Or.inr (Or.inr (by omega))))))
                        · refine a_iload (pc := 114) (i := 6) (by decide +kernel) rfl ?_
                          refine a_goto (pc := 116) (off := 4) (tgt := 120) (by decide +kernel) (by decide) ?_
                          refine b_callV (pc := 120) (c' := 0) (sl' := 0) [j_i gp, j_i kd, j_i x, j_i y, j_i z, j_i t] [] ml_X11_237 (by decide +kernel) rfl rfl (sh_16 hn) rfl rfl (Nat.le_of_ble_eq_true rfl) (j_fitI rfl rfl) (s_madd hn hwm (by rw [sv2 16 5 (by omega) (by omega)]; omega) (by omega) (by omega) (by omega)) (fun v n' σ' hq => ?_)
                          obtain ⟨hv1, e1, e2⟩ := hq
                          rw [hv1, e1, e2]; clear e1 e2
                          obtain ⟨σ9, hσ9⟩ : ∃ w, w = m_add σ7 gp kd (f_path x y z) t := ⟨_, rfl⟩
                          rw [← hσ9, sv2 16 5 (by omega) (by omega)]
                          show j_at _ _ _ [(0, .ref 5), (1, j_i gp), (2, j_i kd), (3, j_i x), (4, j_i y), (5, j_i z), (6, j_i t)] [j_i (σ.2.1 16 5)] _ _ _ _
                          refine a_ireturn (pc := 123) (by decide +kernel) rfl ?_
                          refine k_ret ?_
                          refine ⟨_, rfl, Or.inr ⟨?_, rfl, σ7, hsv, by rw [hσ9]; congr 1; first | (rw [if_pos (by omega)]; done) | (rw [if_neg (by omega)]; done) | (exfalso; omega)⟩⟩
                          unfold mk_R
                          first | exact Or.inl (by omega) | exact Or.inr (Or.inl (by omega)) | exact Or.inr (Or.inr (Or.inl (by omega))) | exact Or.inr (Or.inr (Or.inr (Or.inl (by omega)))) | exact Or.inr (Or.inr (Or.inr (Or.inr (Or.inl (by omega))))) | exact Or.inr (Or.inr (Or.inr (Or.inr (Or.inr (Or.inl (by omega)))))) | exact Or.inr (Or.inr (Or.inr (Or.inr (Or.inr (Or.inr (by omega))))))
                      · refine a_bipush (pc := 84) (n := (-4)) (by decide +kernel) rfl ?_
                        refine a_ireturn (pc := 86) (by decide +kernel) rfl ?_
                        refine k_ret ?_
                        refine ⟨_, rfl, Or.inl ⟨_, ?_, by omega, rfl, rfl, rfl⟩⟩
                        unfold mk_R
                        first | exact Or.inl (by omega) | exact Or.inr (Or.inl (by omega)) | exact Or.inr (Or.inr (Or.inl (by omega))) | exact Or.inr (Or.inr (Or.inr (Or.inl (by omega)))) | exact Or.inr (Or.inr (Or.inr (Or.inr (Or.inl (by omega))))) | exact Or.inr (Or.inr (Or.inr (Or.inr (Or.inr (Or.inl (by omega)))))) | exact Or.inr (Or.inr (Or.inr (Or.inr (Or.inr (Or.inr (by omega))))))
                    · refine a_iload (pc := 62) (i := 5) (by decide +kernel) rfl ?_
                      refine a_bipush (pc := 64) (n := (-9)) (by decide +kernel) rfl ?_
                      refine a_icmp_eq (pc := 66) (off := 6) (tgt := 72) (by decide +kernel) (by decide) (by omega) (by omega) (fun c66 => ?_) (fun c66 => ?_)
                      · refine a_aload_n (pc := 72) (i := 0) (by decide +kernel) rfl ?_
                        refine b_getR (pc := 73) (b := 16) fl_X11_25 (by decide +kernel) (sh_5 hn) rfl ?_
                        refine b_getI (pc := 76) fl_X11_236 (by decide +kernel) (sh_16 hn) rfl ?_
                        refine a_bipush (pc := 79) (n := 50) (by decide +kernel) rfl ?_
                        refine a_icmp_lt (pc := 81) (off := 6) (tgt := 87) (by decide +kernel) (by decide) (by omega) (by omega) (fun c81 => ?_) (fun c81 => ?_)
                        · refine a_aload_n (pc := 87) (i := 0) (by decide +kernel) rfl ?_
                          refine b_getR (pc := 88) (b := 22) fl_X11_29 (by decide +kernel) (sh_5 hn) rfl ?_
                          refine a_aload_n (pc := 91) (i := 0) (by decide +kernel) rfl ?_
                          refine b_getR (pc := 92) (b := 6) fl_X11_12 (by decide +kernel) (sh_5 hn) rfl ?_
                          refine b_callV (pc := 95) (c' := 16) (sl' := 1618) [.ref 6] [] ml_X11_98 (by decide +kernel) rfl rfl (sh_22 hn) rfl rfl (Nat.le_of_ble_eq_true rfl) (j_fitI rfl rfl) (s_save hk hAc) (fun v n' σ' hq => ?_)
                          obtain ⟨σ10, hσ10⟩ : ∃ z, z = σ' := ⟨_, rfl⟩
                          rw [← hσ10] at hq ⊢
                          obtain ⟨rfl, hsv⟩ := hq
                          clear hσ10
                          obtain ⟨sv1, sv2, hn9⟩ := SV_e hsv
                          have hn : 101 ≤ n' := hn9
                          have hwm : m_wf σ10 16 := m_wf_congr (sv1 _ (by omega)) (sv1 _ (by omega)) (sv1 _ (by omega)) (sv1 _ (by omega)) (sv1 _ (by omega)) (sv2 _ _ (by omega) (by omega)) hwm
                          have hwh : h_wf σ10 8 := h_wf_congr (sv1 _ (by omega)) (sv1 _ (by omega)) (sv1 _ (by omega)) (sv1 _ (by omega)) (sv1 _ (by omega)) (sv2 _ _ (by omega) (by omega)) hwh
                          show j_at _ _ _ [(0, .ref 5), (1, j_i gp), (2, j_i kd), (3, j_i x), (4, j_i y), (5, j_i z), (6, j_i t)] [] _ _ _ _
                          refine a_aload_n (pc := 98) (i := 0) (by decide +kernel) rfl ?_
                          refine b_getR (pc := 99) (b := 16) fl_X11_25 (by decide +kernel) (sh_5 hn) rfl ?_
                          refine a_iload_n (pc := 102) (i := 1) (by decide +kernel) rfl ?_
                          refine a_iload_n (pc := 103) (i := 2) (by decide +kernel) rfl ?_
                          refine a_iload_n (pc := 104) (i := 3) (by decide +kernel) rfl ?_
                          refine a_iload (pc := 105) (i := 4) (by decide +kernel) rfl ?_
                          refine a_iload (pc := 107) (i := 5) (by decide +kernel) rfl ?_
                          refine a_iload_n (pc := 109) (i := 2) (by decide +kernel) rfl ?_
                          refine a_iconst (pc := 110) (n := 4) (by decide +kernel) ?_
                          refine a_icmp_ne (pc := 111) (off := 8) (tgt := 119) (by decide +kernel) (by decide) (by omega) (by omega) (fun c111 => ?_) (fun c111 => ?_)
                          · refine a_iconst (pc := 119) (n := 0) (by decide +kernel) ?_
                            refine b_callV (pc := 120) (c' := 0) (sl' := 0) [j_i gp, j_i kd, j_i x, j_i y, j_i z, j_i 0] [] ml_X11_237 (by decide +kernel) rfl rfl (sh_16 hn) rfl rfl (Nat.le_of_ble_eq_true rfl) (j_fitI rfl rfl) (s_madd hn hwm (by rw [sv2 16 5 (by omega) (by omega)]; omega) (by omega) (by omega) (by omega)) (fun v n' σ' hq => ?_)
                            obtain ⟨hv1, e1, e2⟩ := hq
                            rw [hv1, e1, e2]; clear e1 e2
                            obtain ⟨σ11, hσ11⟩ : ∃ w, w = m_add σ10 gp kd (f_path x y z) 0 := ⟨_, rfl⟩
                            rw [← hσ11, sv2 16 5 (by omega) (by omega)]
                            show j_at _ _ _ [(0, .ref 5), (1, j_i gp), (2, j_i kd), (3, j_i x), (4, j_i y), (5, j_i z), (6, j_i t)] [j_i (σ.2.1 16 5)] _ _ _ _
                            refine a_ireturn (pc := 123) (by decide +kernel) rfl ?_
                            refine k_ret ?_
                            refine ⟨_, rfl, Or.inr ⟨?_, rfl, σ10, hsv, by rw [hσ11]; congr 1; first | (rw [if_pos (by omega)]; done) | (rw [if_neg (by omega)]; done) | (exfalso; omega)⟩⟩
                            unfold mk_R
                            first | exact Or.inl (by omega) | exact Or.inr (Or.inl (by omega)) | exact Or.inr (Or.inr (Or.inl (by omega))) | exact Or.inr (Or.inr (Or.inr (Or.inl (by omega)))) | exact Or.inr (Or.inr (Or.inr (Or.inr (Or.inl (by omega))))) | exact Or.inr (Or.inr (Or.inr (Or.inr (Or.inr (Or.inl (by omega)))))) | exact Or.inr (Or.inr (Or.inr (Or.inr (Or.inr (Or.inr (by omega))))))
                          · refine a_iload (pc := 114) (i := 6) (by decide +kernel) rfl ?_
                            refine a_goto (pc := 116) (off := 4) (tgt := 120) (by decide +kernel) (by decide) ?_
                            refine b_callV (pc := 120) (c' := 0) (sl' := 0) [j_i gp, j_i kd, j_i x, j_i y, j_i z, j_i t] [] ml_X11_237 (by decide +kernel) rfl rfl (sh_16 hn) rfl rfl (Nat.le_of_ble_eq_true rfl) (j_fitI rfl rfl) (s_madd hn hwm (by rw [sv2 16 5 (by omega) (by omega)]; omega) (by omega) (by omega) (by omega)) (fun v n' σ' hq => ?_)
                            obtain ⟨hv1, e1, e2⟩ := hq
                            rw [hv1, e1, e2]; clear e1 e2
                            obtain ⟨σ12, hσ12⟩ : ∃ w, w = m_add σ10 gp kd (f_path x y z) t := ⟨_, rfl⟩
                            rw [← hσ12, sv2 16 5 (by omega) (by omega)]
                            show j_at _ _ _ [(0, .ref 5), (1, j_i gp), (2, j_i kd), (3, j_i x), (4, j_i y), (5, j_i z), (6, j_i t)] [j_i (σ.2.1 16 5)] _ _ _ _
                            refine a_ireturn (pc := 123) (by decide +kernel) rfl ?_
                            refine k_ret ?_
                            refine ⟨_, rfl, Or.inr ⟨?_, rfl, σ10, hsv, by rw [hσ12]; congr 1; first | (rw [if_pos (by omega)]; done) | (rw [if_neg (by omega)]; done) | (exfalso; omega)⟩⟩
                            unfold mk_R
                            first | exact Or.inl (by omega) | exact Or.inr (Or.inl (by omega)) | exact Or.inr (Or.inr (Or.inl (by omega))) | exact Or.inr (Or.inr (Or.inr (Or.inl (by omega)))) | exact Or.inr (Or.inr (Or.inr (Or.inr (Or.inl (by omega))))) | exact Or.inr (Or.inr (Or.inr (Or.inr (Or.inr (Or.inl (by omega)))))) | exact Or.inr (Or.inr (Or.inr (Or.inr (Or.inr (Or.inr (by omega))))))
                        · refine a_bipush (pc := 84) (n := (-4)) (by decide +kernel) rfl ?_
                          refine a_ireturn (pc := 86) (by decide +kernel) rfl ?_
                          refine k_ret ?_
                          refine ⟨_, rfl, Or.inl ⟨_, ?_, by omega, rfl, rfl, rfl⟩⟩
                          unfold mk_R
                          first | exact Or.inl (by omega) | exact Or.inr (Or.inl (by omega)) | exact Or.inr (Or.inr (Or.inl (by omega))) | exact Or.inr (Or.inr (Or.inr (Or.inl (by omega)))) | exact Or.inr (Or.inr (Or.inr (Or.inr (Or.inl (by omega))))) | exact Or.inr (Or.inr (Or.inr (Or.inr (Or.inr (Or.inl (by omega)))))) | exact Or.inr (Or.inr (Or.inr (Or.inr (Or.inr (Or.inr (by omega))))))
                      · refine a_bipush (pc := 69) (n := (-3)) (by decide +kernel) rfl ?_
                        refine a_ireturn (pc := 71) (by decide +kernel) rfl ?_
                        refine k_ret ?_
                        refine ⟨_, rfl, Or.inl ⟨_, ?_, by omega, rfl, rfl, rfl⟩⟩
                        unfold mk_R
                        first | exact Or.inl (by omega) | exact Or.inr (Or.inl (by omega)) | exact Or.inr (Or.inr (Or.inl (by omega))) | exact Or.inr (Or.inr (Or.inr (Or.inl (by omega)))) | exact Or.inr (Or.inr (Or.inr (Or.inr (Or.inl (by omega))))) | exact Or.inr (Or.inr (Or.inr (Or.inr (Or.inr (Or.inl (by omega)))))) | exact Or.inr (Or.inr (Or.inr (Or.inr (Or.inr (Or.inr (by omega))))))
                  · refine a_bipush (pc := 52) (n := (-2)) (by decide +kernel) rfl ?_
                    refine a_ireturn (pc := 54) (by decide +kernel) rfl ?_
                    refine k_ret ?_
                    refine ⟨_, rfl, Or.inl ⟨_, ?_, by omega, rfl, rfl, rfl⟩⟩
                    unfold mk_R
                    first | exact Or.inl (by omega) | exact Or.inr (Or.inl (by omega)) | exact Or.inr (Or.inr (Or.inl (by omega))) | exact Or.inr (Or.inr (Or.inr (Or.inl (by omega)))) | exact Or.inr (Or.inr (Or.inr (Or.inr (Or.inl (by omega))))) | exact Or.inr (Or.inr (Or.inr (Or.inr (Or.inr (Or.inl (by omega)))))) | exact Or.inr (Or.inr (Or.inr (Or.inr (Or.inr (Or.inr (by omega))))))
        · exact absurd c20 (by decide)
      · show j_at _ _ _ [(0, .ref 5), (1, j_i gp), (2, j_i kd), (3, j_i x), (4, j_i y), (5, j_i z), (6, j_i t)] [j_i 0] _ _ _ _
        have i17 := bi_n p17
        refine a_if_ne (pc := 20) (off := 5) (tgt := 25) (by decide +kernel) (by decide) (by omega) (fun c20 => ?_) (fun c20 => ?_)
        · exact absurd c20 (by decide)
        · refine a_iconst (pc := 23) (n := (-1)) (by decide +kernel) ?_
          refine a_ireturn (pc := 24) (by decide +kernel) rfl ?_
          refine k_ret ?_
          refine ⟨_, rfl, Or.inl ⟨_, ?_, by omega, rfl, rfl, rfl⟩⟩
          unfold mk_R
          first | exact Or.inl (by omega) | exact Or.inr (Or.inl (by omega)) | exact Or.inr (Or.inr (Or.inl (by omega))) | exact Or.inr (Or.inr (Or.inr (Or.inl (by omega)))) | exact Or.inr (Or.inr (Or.inr (Or.inr (Or.inl (by omega))))) | exact Or.inr (Or.inr (Or.inr (Or.inr (Or.inr (Or.inl (by omega)))))) | exact Or.inr (Or.inr (Or.inr (Or.inr (Or.inr (Or.inr (by omega))))))
  · show j_at _ _ _ [(0, .ref 5), (1, j_i gp), (2, j_i kd), (3, j_i x), (4, j_i y), (5, j_i z), (6, j_i t)] [j_i 0] _ _ _ _
    refine a_if_eq (pc := 8) (off := 15) (tgt := 23) (by decide +kernel) (by decide) (by omega) (fun c8 => ?_) (fun c8 => ?_)
    · refine a_iconst (pc := 23) (n := (-1)) (by decide +kernel) ?_
      refine a_ireturn (pc := 24) (by decide +kernel) rfl ?_
      refine k_ret ?_
      refine ⟨_, rfl, Or.inl ⟨_, ?_, by omega, rfl, rfl, rfl⟩⟩
      unfold mk_R
      first | exact Or.inl (by omega) | exact Or.inr (Or.inl (by omega)) | exact Or.inr (Or.inr (Or.inl (by omega))) | exact Or.inr (Or.inr (Or.inr (Or.inl (by omega)))) | exact Or.inr (Or.inr (Or.inr (Or.inr (Or.inl (by omega))))) | exact Or.inr (Or.inr (Or.inr (Or.inr (Or.inr (Or.inl (by omega)))))) | exact Or.inr (Or.inr (Or.inr (Or.inr (Or.inr (Or.inr (by omega))))))
    · exact absurd c8 (by decide)
set_option maxHeartbeats 4000000 in
theorem d_mark {G : j_G} {X : k_X} {n : Nat} {σ : k_St} (hn : 101 ≤ n) (hg : ∀ i : Int, -128 ≤ σ.1 69 i ∧ σ.1 69 i ≤ 9999) (hgr : (0 ≤ σ.1 69 0 ∧ σ.1 69 0 ≤ 300) ∧ (0 ≤ σ.1 69 301 ∧ σ.1 69 301 ≤ 30) ∧ (0 ≤ σ.1 69 1382 ∧ σ.1 69 1382 ≤ 50)) (hf4 : 0 ≤ σ.2.1 68 4 ∧ σ.2.1 68 4 < 40) (hm5 : 0 ≤ σ.2.1 68 5 ∧ σ.2.1 68 5 ≤ 40) {gp : Int} (hgp : -2147483648 ≤ gp ∧ gp ≤ 2147483647) {kd : Int} (hkd : -2147483648 ≤ kd ∧ kd ≤ 2147483647) {x : Int} (hx : -2147483648 ≤ x ∧ x ≤ 2147483647) {y : Int} (hy : -2147483648 ≤ y ∧ y ≤ 2147483647) {z : Int} (hz : -2147483648 ≤ z ∧ z ≤ 2147483647) {t : Int} (ht : -2147483648 ≤ t ∧ t ≤ 2147483647) {q : Int} (hP : mk_D σ gp kd x y z t q)  : k_run G X mX12_mark [.ref 68, j_i gp, j_i kd, j_i x, j_i y, j_i z, j_i t] n σ 0 0 (fun v n' σ' => (q < 0 ∧ v = some (j_i q) ∧ n' = n ∧ σ' = σ) ∨ (q = 0 ∧ v = some (j_i (σ.1 69 1382)) ∧ n' = n ∧ σ' = k_sA (d_kp σ) 69 (d_cm (σ.1 69) (σ.1 69 1382) gp kd x y z (if kd = 4 then t else 0)))) := by
  obtain ⟨hgW, hgE, hgM⟩ := hgr
  refine k_enter (by decide +kernel) (Nat.le_of_ble_eq_true rfl) ?_
  show j_at _ _ _ [(0, .ref 68), (1, j_i gp), (2, j_i kd), (3, j_i x), (4, j_i y), (5, j_i z), (6, j_i t)] [] _ _ _ _
  refine a_iload_n (pc := 0) (i := 1) (by decide +kernel) rfl ?_
  refine a_iconst (pc := 1) (n := 0) (by decide +kernel) ?_
  refine a_aload_n (pc := 2) (i := 0) (by decide +kernel) rfl ?_
  refine b_pureV (pc := 3) [] [j_i 0, j_i gp] ml_X12_124 (by decide +kernel) rfl rfl (sh_68 hn) rfl rfl (Nat.le_of_ble_eq_true rfl) (j_fitI rfl rfl) (s_dwords hn) ?_
  have q1 := hg 0
  show j_at _ _ _ [(0, .ref 68), (1, j_i gp), (2, j_i kd), (3, j_i x), (4, j_i y), (5, j_i z), (6, j_i t)] [j_i (σ.1 69 0), j_i 0, j_i gp] _ _ _ _
  refine b_callS (pc := 6) (c' := 0) (sl' := 0) [j_i gp, j_i 0, j_i (σ.1 69 0)] [] ml_X12_128 (by decide +kernel) rfl rfl (Nat.le_of_ble_eq_true rfl) (j_fitI rfl rfl) (s_dwithin (by omega) (by omega) (by omega)) (fun v n' σ' hq => ?_)
  obtain ⟨x, rfl, e1, e2, hx⟩ := hq
  rw [e1, e2]; clear e1 e2
  rcases hx with ⟨rfl, p6⟩ | ⟨rfl, p6⟩
  · show j_at _ _ _ [(0, .ref 68), (1, j_i gp), (2, j_i kd), (3, j_i x), (4, j_i y), (5, j_i z), (6, j_i t)] [j_i 1] _ _ _ _
    refine a_if_eq (pc := 9) (off := 43) (tgt := 52) (by decide +kernel) (by decide) (by omega) (fun c9 => ?_) (fun c9 => ?_)
    · exact absurd c9 (by decide)
    · refine a_aload_n (pc := 12) (i := 0) (by decide +kernel) rfl ?_
      refine a_iload_n (pc := 13) (i := 3) (by decide +kernel) rfl ?_
      refine b_callV (pc := 14) (c' := 0) (sl' := 0) [j_i x] [] ml_X12_202 (by decide +kernel) rfl rfl (sh_68 hn) rfl rfl (Nat.le_of_ble_eq_true rfl) (j_fitI rfl rfl) (s_disHead hn hg (by omega) (by omega)) (fun v n' σ' hq => ?_)
      obtain ⟨x, rfl, e1, e2, hx⟩ := hq
      rw [e1, e2]; clear e1 e2
      rcases hx with ⟨rfl, p14⟩ | ⟨rfl, p14⟩
      · show j_at _ _ _ [(0, .ref 68), (1, j_i gp), (2, j_i kd), (3, j_i x), (4, j_i y), (5, j_i z), (6, j_i t)] [j_i 1] _ _ _ _
        have i14 := bi_y p14
        have u14 := p14.1
        have w14 := p14.2.1
        refine a_if_eq (pc := 17) (off := 35) (tgt := 52) (by decide +kernel) (by decide) (by omega) (fun c17 => ?_) (fun c17 => ?_)
        · exact absurd c17 (by decide)
        · refine a_iload (pc := 20) (i := 4) (by decide +kernel) rfl ?_
          refine a_bipush (pc := 22) (n := (-9)) (by decide +kernel) rfl ?_
          refine a_icmp_eq (pc := 24) (off := 12) (tgt := 36) (by decide +kernel) (by decide) (by omega) (by omega) (fun c24 => ?_) (fun c24 => ?_)
          · refine a_iload (pc := 36) (i := 5) (by decide +kernel) rfl ?_
            refine a_bipush (pc := 38) (n := (-9)) (by decide +kernel) rfl ?_
            refine a_icmp_eq (pc := 40) (off := 14) (tgt := 54) (by decide +kernel) (by decide) (by omega) (by omega) (fun c40 => ?_) (fun c40 => ?_)
            · have hH := bi_y (show (d_is σ x ∧ (y = -9 ∨ d_is σ y) ∧ (z = -9 ∨ d_is σ z)) from ⟨p14, by first | exact Or.inl (by assumption) | exact Or.inr (by assumption), by first | exact Or.inl (by assumption) | exact Or.inr (by assumption)⟩)
              refine a_iload_n (pc := 54) (i := 2) (by decide +kernel) rfl ?_
              refine a_iconst (pc := 55) (n := 0) (by decide +kernel) ?_
              refine a_iconst (pc := 56) (n := 5) (by decide +kernel) ?_
              refine b_callS (pc := 57) (c' := 0) (sl' := 0) [j_i kd, j_i 0, j_i 5] [] ml_X12_128 (by decide +kernel) rfl rfl (Nat.le_of_ble_eq_true rfl) (j_fitI rfl rfl) (s_dwithin (by omega) (by omega) (by omega)) (fun v n' σ' hq => ?_)
              obtain ⟨x, rfl, e1, e2, hx⟩ := hq
              rw [e1, e2]; clear e1 e2
              rcases hx with ⟨rfl, p57⟩ | ⟨rfl, p57⟩
              · show j_at _ _ _ [(0, .ref 68), (1, j_i gp), (2, j_i kd), (3, j_i x), (4, j_i y), (5, j_i z), (6, j_i t)] [j_i 1] _ _ _ _
                refine a_if_eq (pc := 60) (off := 19) (tgt := 79) (by decide +kernel) (by decide) (by omega) (fun c60 => ?_) (fun c60 => ?_)
                · exact absurd c60 (by decide)
                · refine a_iload_n (pc := 63) (i := 2) (by decide +kernel) rfl ?_
                  refine a_iconst (pc := 64) (n := 4) (by decide +kernel) ?_
                  refine a_icmp_ne (pc := 65) (off := 17) (tgt := 82) (by decide +kernel) (by decide) (by omega) (by omega) (fun c65 => ?_) (fun c65 => ?_)
                  · refine a_iload (pc := 82) (i := 4) (by decide +kernel) rfl ?_
                    refine a_bipush (pc := 84) (n := (-9)) (by decide +kernel) rfl ?_
                    refine a_icmp_ne (pc := 86) (off := 13) (tgt := 99) (by decide +kernel) (by decide) (by omega) (by omega) (fun c86 => ?_) (fun c86 => ?_)
                    · refine a_aload_n (pc := 99) (i := 0) (by decide +kernel) rfl ?_
                      refine b_pureV (pc := 100) [] [] ml_X12_135 (by decide +kernel) rfl rfl (sh_68 hn) rfl rfl (Nat.le_of_ble_eq_true rfl) (j_fitI rfl rfl) (s_dmarksEver hn) ?_
                      have q2 := hg 1382
                      show j_at _ _ _ [(0, .ref 68), (1, j_i gp), (2, j_i kd), (3, j_i x), (4, j_i y), (5, j_i z), (6, j_i t)] [j_i (σ.1 69 1382)] _ _ _ _
                      refine a_bipush (pc := 103) (n := 50) (by decide +kernel) rfl ?_
                      refine a_icmp_ne (pc := 105) (off := 6) (tgt := 111) (by decide +kernel) (by decide) (by omega) (by omega) (fun c105 => ?_) (fun c105 => ?_)
                      · refine a_aload_n (pc := 111) (i := 0) (by decide +kernel) rfl ?_
                        refine a_iload_n (pc := 112) (i := 1) (by decide +kernel) rfl ?_
                        refine a_iload_n (pc := 113) (i := 2) (by decide +kernel) rfl ?_
                        refine a_iload_n (pc := 114) (i := 3) (by decide +kernel) rfl ?_
                        refine a_iload (pc := 115) (i := 4) (by decide +kernel) rfl ?_
                        refine a_iload (pc := 117) (i := 5) (by decide +kernel) rfl ?_
                        refine a_iload_n (pc := 119) (i := 2) (by decide +kernel) rfl ?_
                        refine a_iconst (pc := 120) (n := 4) (by decide +kernel) ?_
                        refine a_icmp_ne (pc := 121) (off := 8) (tgt := 129) (by decide +kernel) (by decide) (by omega) (by omega) (fun c121 => ?_) (fun c121 => ?_)
                        · refine a_iconst (pc := 129) (n := 0) (by decide +kernel) ?_
                          refine b_callV (pc := 130) (c' := 0) (sl' := 0) [j_i gp, j_i kd, j_i x, j_i y, j_i z, j_i 0] [] ml_X12_263 (by decide +kernel) rfl rfl (sh_68 hn) rfl rfl (Nat.le_of_ble_eq_true rfl) (j_fitI rfl rfl) (s_dcomes hn hg ⟨hgW, hgE, hgM⟩ hf4 hm5 (by omega)) (fun v n' σ' hq => ?_)
                          obtain ⟨hv1, e1, e2⟩ := hq
                          rw [hv1, e1, e2]; clear e1 e2
                          obtain ⟨σ3, hσ3⟩ : ∃ w, w = k_sA (d_kp σ) 69 (d_cm (σ.1 69) (σ.1 69 1382) gp kd x y z 0) := ⟨_, rfl⟩
                          rw [← hσ3]
                          show j_at _ _ _ [(0, .ref 68), (1, j_i gp), (2, j_i kd), (3, j_i x), (4, j_i y), (5, j_i z), (6, j_i t)] [j_i (σ.1 69 1382)] _ _ _ _
                          refine a_ireturn (pc := 133) (by decide +kernel) rfl ?_
                          refine k_ret ?_
                          have hr : (0 : Int) = q := by
                            unfold mk_D at hP
                            rcases hP with hP | hP | hP | hP | hP | hP | hP <;> omega
                          exact Or.inr ⟨hr.symm, rfl, rfl, by rw [hσ3]; congr 2; first | (rw [if_pos (by omega)]; done) | (rw [if_neg (by omega)]; done) | (exfalso; omega)⟩
                        · refine a_iload (pc := 124) (i := 6) (by decide +kernel) rfl ?_
                          refine a_goto (pc := 126) (off := 4) (tgt := 130) (by decide +kernel) (by decide) ?_
                          refine b_callV (pc := 130) (c' := 0) (sl' := 0) [j_i gp, j_i kd, j_i x, j_i y, j_i z, j_i t] [] ml_X12_263 (by decide +kernel) rfl rfl (sh_68 hn) rfl rfl (Nat.le_of_ble_eq_true rfl) (j_fitI rfl rfl) (s_dcomes hn hg ⟨hgW, hgE, hgM⟩ hf4 hm5 (by omega)) (fun v n' σ' hq => ?_)
                          obtain ⟨hv1, e1, e2⟩ := hq
                          rw [hv1, e1, e2]; clear e1 e2
                          obtain ⟨σ4, hσ4⟩ : ∃ w, w = k_sA (d_kp σ) 69 (d_cm (σ.1 69) (σ.1 69 1382) gp kd x y z t) := ⟨_, rfl⟩
                          rw [← hσ4]
                          show j_at _ _ _ [(0, .ref 68), (1, j_i gp), (2, j_i kd), (3, j_i x), (4, j_i y), (5, j_i z), (6, j_i t)] [j_i (σ.1 69 1382)] _ _ _ _
                          refine a_ireturn (pc := 133) (by decide +kernel) rfl ?_
                          refine k_ret ?_
                          have hr : (0 : Int) = q := by
                            unfold mk_D at hP
                            rcases hP with hP | hP | hP | hP | hP | hP | hP <;> omega
                          exact Or.inr ⟨hr.symm, rfl, rfl, by rw [hσ4]; congr 2; first | (rw [if_pos (by omega)]; done) | (rw [if_neg (by omega)]; done) | (exfalso; omega)⟩
                      · refine a_bipush (pc := 108) (n := (-4)) (by decide +kernel) rfl ?_
                        refine a_ireturn (pc := 110) (by decide +kernel) rfl ?_
                        refine k_ret ?_
                        have hr : ((-4) : Int) = q := by
                          unfold mk_D at hP
                          rcases hP with hP | hP | hP | hP | hP | hP | hP <;> omega
                        exact Or.inl ⟨by omega, by rw [hr], rfl, rfl⟩
                    · refine a_iload (pc := 89) (i := 5) (by decide +kernel) rfl ?_
                      refine a_bipush (pc := 91) (n := (-9)) (by decide +kernel) rfl ?_
                      refine a_icmp_eq (pc := 93) (off := 6) (tgt := 99) (by decide +kernel) (by decide) (by omega) (by omega) (fun c93 => ?_) (fun c93 => ?_)
                      · refine a_aload_n (pc := 99) (i := 0) (by decide +kernel) rfl ?_
                        refine b_pureV (pc := 100) [] [] ml_X12_135 (by decide +kernel) rfl rfl (sh_68 hn) rfl rfl (Nat.le_of_ble_eq_true rfl) (j_fitI rfl rfl) (s_dmarksEver hn) ?_
                        have q5 := hg 1382
                        show j_at _ _ _ [(0, .ref 68), (1, j_i gp), (2, j_i kd), (3, j_i x), (4, j_i y), (5, j_i z), (6, j_i t)] [j_i (σ.1 69 1382)] _ _ _ _
                        refine a_bipush (pc := 103) (n := 50) (by decide +kernel) rfl ?_
                        refine a_icmp_ne (pc := 105) (off := 6) (tgt := 111) (by decide +kernel) (by decide) (by omega) (by omega) (fun c105 => ?_) (fun c105 => ?_)
                        · refine a_aload_n (pc := 111) (i := 0) (by decide +kernel) rfl ?_
                          refine a_iload_n (pc := 112) (i := 1) (by decide +kernel) rfl ?_
                          refine a_iload_n (pc := 113) (i := 2) (by decide +kernel) rfl ?_
                          refine a_iload_n (pc := 114) (i := 3) (by decide +kernel) rfl ?_
                          refine a_iload (pc := 115) (i := 4) (by decide +kernel) rfl ?_
                          refine a_iload (pc := 117) (i := 5) (by decide +kernel) rfl ?_
                          refine a_iload_n (pc := 119) (i := 2) (by decide +kernel) rfl ?_
                          refine a_iconst (pc := 120) (n := 4) (by decide +kernel) ?_
                          refine a_icmp_ne (pc := 121) (off := 8) (tgt := 129) (by decide +kernel) (by decide) (by omega) (by omega) (fun c121 => ?_) (fun c121 => ?_)
                          · refine a_iconst (pc := 129) (n := 0) (by decide +kernel) ?_
                            refine b_callV (pc := 130) (c' := 0) (sl' := 0) [j_i gp, j_i kd, j_i x, j_i y, j_i z, j_i 0] [] ml_X12_263 (by decide +kernel) rfl rfl (sh_68 hn) rfl rfl (Nat.le_of_ble_eq_true rfl) (j_fitI rfl rfl) (s_dcomes hn hg ⟨hgW, hgE, hgM⟩ hf4 hm5 (by omega)) (fun v n' σ' hq => ?_)
                            obtain ⟨hv1, e1, e2⟩ := hq
                            rw [hv1, e1, e2]; clear e1 e2
                            obtain ⟨σ6, hσ6⟩ : ∃ w, w = k_sA (d_kp σ) 69 (d_cm (σ.1 69) (σ.1 69 1382) gp kd x y z 0) := ⟨_, rfl⟩
                            rw [← hσ6]
                            show j_at _ _ _ [(0, .ref 68), (1, j_i gp), (2, j_i kd), (3, j_i x), (4, j_i y), (5, j_i z), (6, j_i t)] [j_i (σ.1 69 1382)] _ _ _ _
                            refine a_ireturn (pc := 133) (by decide +kernel) rfl ?_
                            refine k_ret ?_
                            have hr : (0 : Int) = q := by
                              unfold mk_D at hP
                              rcases hP with hP | hP | hP | hP | hP | hP | hP <;> omega
                            exact Or.inr ⟨hr.symm, rfl, rfl, by rw [hσ6]; congr 2; first | (rw [if_pos (by omega)]; done) | (rw [if_neg (by omega)]; done) | (exfalso; omega)⟩
                          · refine a_iload (pc := 124) (i := 6) (by decide +kernel) rfl ?_
                            refine a_goto (pc := 126) (off := 4) (tgt := 130) (by decide +kernel) (by decide) ?_
                            refine b_callV (pc := 130) (c' := 0) (sl' := 0) [j_i gp, j_i kd, j_i x, j_i y, j_i z, j_i t] [] ml_X12_263 (by decide +kernel) rfl rfl (sh_68 hn) rfl rfl (Nat.le_of_ble_eq_true rfl) (j_fitI rfl rfl) (s_dcomes hn hg ⟨hgW, hgE, hgM⟩ hf4 hm5 (by omega)) (fun v n' σ' hq => ?_)
                            obtain ⟨hv1, e1, e2⟩ := hq
                            rw [hv1, e1, e2]; clear e1 e2
                            obtain ⟨σ7, hσ7⟩ : ∃ w, w = k_sA (d_kp σ) 69 (d_cm (σ.1 69) (σ.1 69 1382) gp kd x y z t) := ⟨_, rfl⟩
                            rw [← hσ7]
                            show j_at _ _ _ [(0, .ref 68), (1, j_i gp), (2, j_i kd), (3, j_i x), (4, j_i y), (5, j_i z), (6, j_i t)] [j_i (σ.1 69 1382)] _ _ _ _
                            refine a_ireturn (pc := 133) (by decide +kernel) rfl ?_
                            refine k_ret ?_
                            have hr : (0 : Int) = q := by
                              unfold mk_D at hP
                              rcases hP with hP | hP | hP | hP | hP | hP | hP <;> omega
                            exact Or.inr ⟨hr.symm, rfl, rfl, by rw [hσ7]; congr 2; first | (rw [if_pos (by omega)]; done) | (rw [if_neg (by omega)]; done) | (exfalso; omega)⟩
                        · refine a_bipush (pc := 108) (n := (-4)) (by decide +kernel) rfl ?_
                          refine a_ireturn (pc := 110) (by decide +kernel) rfl ?_
                          refine k_ret ?_
                          have hr : ((-4) : Int) = q := by
                            unfold mk_D at hP
                            rcases hP with hP | hP | hP | hP | hP | hP | hP <;> omega
                          exact Or.inl ⟨by omega, by rw [hr], rfl, rfl⟩
                      · refine a_bipush (pc := 96) (n := (-3)) (by decide +kernel) rfl ?_
                        refine a_ireturn (pc := 98) (by decide +kernel) rfl ?_
                        refine k_ret ?_
                        have hr : ((-3) : Int) = q := by
                          unfold mk_D at hP
                          rcases hP with hP | hP | hP | hP | hP | hP | hP <;> omega
                        exact Or.inl ⟨by omega, by rw [hr], rfl, rfl⟩
                  · refine a_iload (pc := 68) (i := 6) (by decide +kernel) rfl ?_
                    refine a_iconst (pc := 70) (n := 1) (by decide +kernel) ?_
                    refine a_bipush (pc := 71) (n := 99) (by decide +kernel) rfl ?_
                    refine b_callS (pc := 73) (c' := 0) (sl' := 0) [j_i t, j_i 1, j_i 99] [] ml_X12_128 (by decide +kernel) rfl rfl (Nat.le_of_ble_eq_true rfl) (j_fitI rfl rfl) (s_dwithin (by omega) (by omega) (by omega)) (fun v n' σ' hq => ?_)
                    obtain ⟨x, rfl, e1, e2, hx⟩ := hq
                    rw [e1, e2]; clear e1 e2
                    rcases hx with ⟨rfl, p73⟩ | ⟨rfl, p73⟩
                    · show j_at _ _ _ [(0, .ref 68), (1, j_i gp), (2, j_i kd), (3, j_i x), (4, j_i y), (5, j_i z), (6, j_i t)] [j_i 1] _ _ _ _
                      refine a_if_ne (pc := 76) (off := 6) (tgt := 82) (by decide +kernel) (by decide) (by omega) (fun c76 => ?_) (fun c76 => ?_)
                      · refine a_iload (pc := 82) (i := 4) (by decide +kernel) rfl ?_
                        refine a_bipush (pc := 84) (n := (-9)) (by decide +kernel) rfl ?_
                        refine a_icmp_ne (pc := 86) (off := 13) (tgt := 99) (by decide +kernel) (by decide) (by omega) (by omega) (fun c86 => ?_) (fun c86 => ?_)
                        · refine a_aload_n (pc := 99) (i := 0) (by decide +kernel) rfl ?_
                          refine b_pureV (pc := 100) [] [] ml_X12_135 (by decide +kernel) rfl rfl (sh_68 hn) rfl rfl (Nat.le_of_ble_eq_true rfl) (j_fitI rfl rfl) (s_dmarksEver hn) ?_
                          have q8 := hg 1382
                          show j_at _ _ _ [(0, .ref 68), (1, j_i gp), (2, j_i kd), (3, j_i x), (4, j_i y), (5, j_i z), (6, j_i t)] [j_i (σ.1 69 1382)] _ _ _ _
                          refine a_bipush (pc := 103) (n := 50) (by decide +kernel) rfl ?_
                          refine a_icmp_ne (pc := 105) (off := 6) (tgt := 111) (by decide +kernel) (by decide) (by omega) (by omega) (fun c105 => ?_) (fun c105 => ?_)
                          · refine a_aload_n (pc := 111) (i := 0) (by decide +kernel) rfl ?_
                            refine a_iload_n (pc := 112) (i := 1) (by decide +kernel) rfl ?_
                            refine a_iload_n (pc := 113) (i := 2) (by decide +kernel) rfl ?_
                            refine a_iload_n (pc := 114) (i := 3) (by decide +kernel) rfl ?_
                            refine a_iload (pc := 115) (i := 4) (by decide +kernel) rfl ?_
                            refine a_iload (pc := 117) (i := 5) (by decide +kernel) rfl ?_
                            refine a_iload_n (pc := 119) (i := 2) (by decide +kernel) rfl ?_
                            refine a_iconst (pc := 120) (n := 4) (by decide +kernel) ?_
                            refine a_icmp_ne (pc := 121) (off := 8) (tgt := 129) (by decide +kernel) (by decide) (by omega) (by omega) (fun c121 => ?_) (fun c121 => ?_)
                            · refine a_iconst (pc := 129) (n := 0) (by decide +kernel) ?_
                              refine b_callV (pc := 130) (c' := 0) (sl' := 0) [j_i gp, j_i kd, j_i x, j_i y, j_i z, j_i 0] [] ml_X12_263 (by decide +kernel) rfl rfl (sh_68 hn) rfl rfl (Nat.le_of_ble_eq_true rfl) (j_fitI rfl rfl) (s_dcomes hn hg ⟨hgW, hgE, hgM⟩ hf4 hm5 (by omega)) (fun v n' σ' hq => ?_)
                              obtain ⟨hv1, e1, e2⟩ := hq
                              rw [hv1, e1, e2]; clear e1 e2
                              obtain ⟨σ9, hσ9⟩ : ∃ w, w = k_sA (d_kp σ) 69 (d_cm (σ.1 69) (σ.1 69 1382) gp kd x y z 0) := ⟨_, rfl⟩
                              rw [← hσ9]
                              show j_at _ _ _ [(0, .ref 68), (1, j_i gp), (2, j_i kd), (3, j_i x), (4, j_i y), (5, j_i z), (6, j_i t)] [j_i (σ.1 69 1382)] _ _ _ _
                              refine a_ireturn (pc := 133) (by decide +kernel) rfl ?_
                              refine k_ret ?_
                              have hr : (0 : Int) = q := by
                                unfold mk_D at hP
                                rcases hP with hP | hP | hP | hP | hP | hP | hP <;> omega
                              exact Or.inr ⟨hr.symm, rfl, rfl, by rw [hσ9]; congr 2; first | (rw [if_pos (by omega)]; done) | (rw [if_neg (by omega)]; done) | (exfalso; omega)⟩
                            · refine a_iload (pc := 124) (i := 6) (by decide +kernel) rfl ?_
                              refine a_goto (pc := 126) (off := 4) (tgt := 130) (by decide +kernel) (by decide) ?_
                              refine b_callV (pc := 130) (c' := 0) (sl' := 0) [j_i gp, j_i kd, j_i x, j_i y, j_i z, j_i t] [] ml_X12_263 (by decide +kernel) rfl rfl (sh_68 hn) rfl rfl (Nat.le_of_ble_eq_true rfl) (j_fitI rfl rfl) (s_dcomes hn hg ⟨hgW, hgE, hgM⟩ hf4 hm5 (by omega)) (fun v n' σ' hq => ?_)
                              obtain ⟨hv1, e1, e2⟩ := hq
                              rw [hv1, e1, e2]; clear e1 e2
                              obtain ⟨σ10, hσ10⟩ : ∃ w, w = k_sA (d_kp σ) 69 (d_cm (σ.1 69) (σ.1 69 1382) gp kd x y z t) := ⟨_, rfl⟩
                              rw [← hσ10]
                              show j_at _ _ _ [(0, .ref 68), (1, j_i gp), (2, j_i kd), (3, j_i x), (4, j_i y), (5, j_i z), (6, j_i t)] [j_i (σ.1 69 1382)] _ _ _ _
                              refine a_ireturn (pc := 133) (by decide +kernel) rfl ?_
                              refine k_ret ?_
                              have hr : (0 : Int) = q := by
                                unfold mk_D at hP
                                rcases hP with hP | hP | hP | hP | hP | hP | hP <;> omega
                              exact Or.inr ⟨hr.symm, rfl, rfl, by rw [hσ10]; congr 2; first | (rw [if_pos (by omega)]; done) | (rw [if_neg (by omega)]; done) | (exfalso; omega)⟩
                          · refine a_bipush (pc := 108) (n := (-4)) (by decide +kernel) rfl ?_
                            refine a_ireturn (pc := 110) (by decide +kernel) rfl ?_
                            refine k_ret ?_
                            have hr : ((-4) : Int) = q := by
                              unfold mk_D at hP
                              rcases hP with hP | hP | hP | hP | hP | hP | hP <;> omega
                            exact Or.inl ⟨by omega, by rw [hr], rfl, rfl⟩
                        · refine a_iload (pc := 89) (i := 5) (by decide +kernel) rfl ?_
                          refine a_bipush (pc := 91) (n := (-9)) (by decide +kernel) rfl ?_
                          refine a_icmp_eq (pc := 93) (off := 6) (tgt := 99) (by decide +kernel) (by decide) (by omega) (by omega) (fun c93 => ?_) (fun c93 => ?_)
                          · refine a_aload_n (pc := 99) (i := 0) (by decide +kernel) rfl ?_
                            refine b_pureV (pc := 100) [] [] ml_X12_135 (by decide +kernel) rfl rfl (sh_68 hn) rfl rfl (Nat.le_of_ble_eq_true rfl) (j_fitI rfl rfl) (s_dmarksEver hn) ?_
                            have q11 := hg 1382
                            show j_at _ _ _ [(0, .ref 68), (1, j_i gp), (2, j_i kd), (3, j_i x), (4, j_i y), (5, j_i z), (6, j_i t)] [j_i (σ.1 69 1382)] _ _ _ _
                            refine a_bipush (pc := 103) (n := 50) (by decide +kernel) rfl ?_
                            refine a_icmp_ne (pc := 105) (off := 6) (tgt := 111) (by decide +kernel) (by decide) (by omega) (by omega) (fun c105 => ?_) (fun c105 => ?_)
                            · refine a_aload_n (pc := 111) (i := 0) (by decide +kernel) rfl ?_
                              refine a_iload_n (pc := 112) (i := 1) (by decide +kernel) rfl ?_
                              refine a_iload_n (pc := 113) (i := 2) (by decide +kernel) rfl ?_
                              refine a_iload_n (pc := 114) (i := 3) (by decide +kernel) rfl ?_
                              refine a_iload (pc := 115) (i := 4) (by decide +kernel) rfl ?_
                              refine a_iload (pc := 117) (i := 5) (by decide +kernel) rfl ?_
                              refine a_iload_n (pc := 119) (i := 2) (by decide +kernel) rfl ?_
                              refine a_iconst (pc := 120) (n := 4) (by decide +kernel) ?_
                              refine a_icmp_ne (pc := 121) (off := 8) (tgt := 129) (by decide +kernel) (by decide) (by omega) (by omega) (fun c121 => ?_) (fun c121 => ?_)
                              · refine a_iconst (pc := 129) (n := 0) (by decide +kernel) ?_
                                refine b_callV (pc := 130) (c' := 0) (sl' := 0) [j_i gp, j_i kd, j_i x, j_i y, j_i z, j_i 0] [] ml_X12_263 (by decide +kernel) rfl rfl (sh_68 hn) rfl rfl (Nat.le_of_ble_eq_true rfl) (j_fitI rfl rfl) (s_dcomes hn hg ⟨hgW, hgE, hgM⟩ hf4 hm5 (by omega)) (fun v n' σ' hq => ?_)
                                obtain ⟨hv1, e1, e2⟩ := hq
                                rw [hv1, e1, e2]; clear e1 e2
                                obtain ⟨σ12, hσ12⟩ : ∃ w, w = k_sA (d_kp σ) 69 (d_cm (σ.1 69) (σ.1 69 1382) gp kd x y z 0) := ⟨_, rfl⟩
                                rw [← hσ12]
                                show j_at _ _ _ [(0, .ref 68), (1, j_i gp), (2, j_i kd), (3, j_i x), (4, j_i y), (5, j_i z), (6, j_i t)] [j_i (σ.1 69 1382)] _ _ _ _
                                refine a_ireturn (pc := 133) (by decide +kernel) rfl ?_
                                refine k_ret ?_
                                have hr : (0 : Int) = q := by
                                  unfold mk_D at hP
                                  rcases hP with hP | hP | hP | hP | hP | hP | hP <;> omega
                                exact Or.inr ⟨hr.symm, rfl, rfl, by rw [hσ12]; congr 2; first | (rw [if_pos (by omega)]; done) | (rw [if_neg (by omega)]; done) | (exfalso; omega)⟩
                              · refine a_iload (pc := 124) (i := 6) (by decide +kernel) rfl ?_
                                refine a_goto (pc := 126) (off := 4) (tgt := 130) (by decide +kernel) (by decide) ?_
                                refine b_callV (pc := 130) (c' := 0) (sl' := 0) [j_i gp, j_i kd, j_i x, j_i y, j_i z, j_i t] [] ml_X12_263 (by decide +kernel) rfl rfl (sh_68 hn) rfl rfl (Nat.le_of_ble_eq_true rfl) (j_fitI rfl rfl) (s_dcomes hn hg ⟨hgW, hgE, hgM⟩ hf4 hm5 (by omega)) (fun v n' σ' hq => ?_)
                                obtain ⟨hv1, e1, e2⟩ := hq
                                rw [hv1, e1, e2]; clear e1 e2
                                obtain ⟨σ13, hσ13⟩ : ∃ w, w = k_sA (d_kp σ) 69 (d_cm (σ.1 69) (σ.1 69 1382) gp kd x y z t) := ⟨_, rfl⟩
                                rw [← hσ13]
                                show j_at _ _ _ [(0, .ref 68), (1, j_i gp), (2, j_i kd), (3, j_i x), (4, j_i y), (5, j_i z), (6, j_i t)] [j_i (σ.1 69 1382)] _ _ _ _
                                refine a_ireturn (pc := 133) (by decide +kernel) rfl ?_
                                refine k_ret ?_
                                have hr : (0 : Int) = q := by
                                  unfold mk_D at hP
                                  rcases hP with hP | hP | hP | hP | hP | hP | hP <;> omega
                                exact Or.inr ⟨hr.symm, rfl, rfl, by rw [hσ13]; congr 2; first | (rw [if_pos (by omega)]; done) | (rw [if_neg (by omega)]; done) | (exfalso; omega)⟩
                            · refine a_bipush (pc := 108) (n := (-4)) (by decide +kernel) rfl ?_
                              refine a_ireturn (pc := 110) (by decide +kernel) rfl ?_
                              refine k_ret ?_
                              have hr : ((-4) : Int) = q := by
                                unfold mk_D at hP
                                rcases hP with hP | hP | hP | hP | hP | hP | hP <;> omega
                              exact Or.inl ⟨by omega, by rw [hr], rfl, rfl⟩
                          · refine a_bipush (pc := 96) (n := (-3)) (by decide +kernel) rfl ?_
                            refine a_ireturn (pc := 98) (by decide +kernel) rfl ?_
                            refine k_ret ?_
                            have hr : ((-3) : Int) = q := by
                              unfold mk_D at hP
                              rcases hP with hP | hP | hP | hP | hP | hP | hP <;> omega
                            exact Or.inl ⟨by omega, by rw [hr], rfl, rfl⟩
                      · exact absurd c76 (by decide)
                    · show j_at _ _ _ [(0, .ref 68), (1, j_i gp), (2, j_i kd), (3, j_i x), (4, j_i y), (5, j_i z), (6, j_i t)] [j_i 0] _ _ _ _
                      refine a_if_ne (pc := 76) (off := 6) (tgt := 82) (by decide +kernel) (by decide) (by omega) (fun c76 => ?_) (fun c76 => ?_)
                      · exact absurd c76 (by decide)
                      · refine a_bipush (pc := 79) (n := (-2)) (by decide +kernel) rfl ?_
                        refine a_ireturn (pc := 81) (by decide +kernel) rfl ?_
                        refine k_ret ?_
                        have hr : ((-2) : Int) = q := by
                          unfold mk_D at hP
                          rcases hP with hP | hP | hP | hP | hP | hP | hP <;> omega
                        exact Or.inl ⟨by omega, by rw [hr], rfl, rfl⟩
              · show j_at _ _ _ [(0, .ref 68), (1, j_i gp), (2, j_i kd), (3, j_i x), (4, j_i y), (5, j_i z), (6, j_i t)] [j_i 0] _ _ _ _
                refine a_if_eq (pc := 60) (off := 19) (tgt := 79) (by decide +kernel) (by decide) (by omega) (fun c60 => ?_) (fun c60 => ?_)
                · refine a_bipush (pc := 79) (n := (-2)) (by decide +kernel) rfl ?_
                  refine a_ireturn (pc := 81) (by decide +kernel) rfl ?_
                  refine k_ret ?_
                  have hr : ((-2) : Int) = q := by
                    unfold mk_D at hP
                    rcases hP with hP | hP | hP | hP | hP | hP | hP <;> omega
                  exact Or.inl ⟨by omega, by rw [hr], rfl, rfl⟩
                · exact absurd c60 (by decide)
            · refine a_aload_n (pc := 43) (i := 0) (by decide +kernel) rfl ?_
              refine a_iload (pc := 44) (i := 5) (by decide +kernel) rfl ?_
              refine b_callV (pc := 46) (c' := 0) (sl' := 0) [j_i z] [] ml_X12_202 (by decide +kernel) rfl rfl (sh_68 hn) rfl rfl (Nat.le_of_ble_eq_true rfl) (j_fitI rfl rfl) (s_disHead hn hg (by omega) (by omega)) (fun v n' σ' hq => ?_)
              obtain ⟨x, rfl, e1, e2, hx⟩ := hq
              rw [e1, e2]; clear e1 e2
              rcases hx with ⟨rfl, p46⟩ | ⟨rfl, p46⟩
              · show j_at _ _ _ [(0, .ref 68), (1, j_i gp), (2, j_i kd), (3, j_i x), (4, j_i y), (5, j_i z), (6, j_i t)] [j_i 1] _ _ _ _
                have i46 := bi_y p46
                have u46 := p46.1
                have w46 := p46.2.1
                refine a_if_ne (pc := 49) (off := 5) (tgt := 54) (by decide +kernel) (by decide) (by omega) (fun c49 => ?_) (fun c49 => ?_)
                · have hH := bi_y (show (d_is σ x ∧ (y = -9 ∨ d_is σ y) ∧ (z = -9 ∨ d_is σ z)) from ⟨p14, by first | exact Or.inl (by assumption) | exact Or.inr (by assumption), by first | exact Or.inl (by assumption) | exact Or.inr (by assumption)⟩)
                  refine a_iload_n (pc := 54) (i := 2) (by decide +kernel) rfl ?_
                  refine a_iconst (pc := 55) (n := 0) (by decide +kernel) ?_
                  refine a_iconst (pc := 56) (n := 5) (by decide +kernel) ?_
                  refine b_callS (pc := 57) (c' := 0) (sl' := 0) [j_i kd, j_i 0, j_i 5] [] ml_X12_128 (by decide +kernel) rfl rfl (Nat.le_of_ble_eq_true rfl) (j_fitI rfl rfl) (s_dwithin (by omega) (by omega) (by omega)) (fun v n' σ' hq => ?_)
                  obtain ⟨x, rfl, e1, e2, hx⟩ := hq
                  rw [e1, e2]; clear e1 e2
                  rcases hx with ⟨rfl, p57⟩ | ⟨rfl, p57⟩
                  · show j_at _ _ _ [(0, .ref 68), (1, j_i gp), (2, j_i kd), (3, j_i x), (4, j_i y), (5, j_i z), (6, j_i t)] [j_i 1] _ _ _ _
                    refine a_if_eq (pc := 60) (off := 19) (tgt := 79) (by decide +kernel) (by decide) (by omega) (fun c60 => ?_) (fun c60 => ?_)
                    · exact absurd c60 (by decide)
                    · refine a_iload_n (pc := 63) (i := 2) (by decide +kernel) rfl ?_
                      refine a_iconst (pc := 64) (n := 4) (by decide +kernel) ?_
                      refine a_icmp_ne (pc := 65) (off := 17) (tgt := 82) (by decide +kernel) (by decide) (by omega) (by omega) (fun c65 => ?_) (fun c65 => ?_)
                      · refine a_iload (pc := 82) (i := 4) (by decide +kernel) rfl ?_
                        refine a_bipush (pc := 84) (n := (-9)) (by decide +kernel) rfl ?_
                        refine a_icmp_ne (pc := 86) (off := 13) (tgt := 99) (by decide +kernel) (by decide) (by omega) (by omega) (fun c86 => ?_) (fun c86 => ?_)
                        · refine a_aload_n (pc := 99) (i := 0) (by decide +kernel) rfl ?_
                          refine b_pureV (pc := 100) [] [] ml_X12_135 (by decide +kernel) rfl rfl (sh_68 hn) rfl rfl (Nat.le_of_ble_eq_true rfl) (j_fitI rfl rfl) (s_dmarksEver hn) ?_
                          have q14 := hg 1382
                          show j_at _ _ _ [(0, .ref 68), (1, j_i gp), (2, j_i kd), (3, j_i x), (4, j_i y), (5, j_i z), (6, j_i t)] [j_i (σ.1 69 1382)] _ _ _ _
                          refine a_bipush (pc := 103) (n := 50) (by decide +kernel) rfl ?_
                          refine a_icmp_ne (pc := 105) (off := 6) (tgt := 111) (by decide +kernel) (by decide) (by omega) (by omega) (fun c105 => ?_) (fun c105 => ?_)
                          · refine a_aload_n (pc := 111) (i := 0) (by decide +kernel) rfl ?_
                            refine a_iload_n (pc := 112) (i := 1) (by decide +kernel) rfl ?_
                            refine a_iload_n (pc := 113) (i := 2) (by decide +kernel) rfl ?_
                            refine a_iload_n (pc := 114) (i := 3) (by decide +kernel) rfl ?_
                            refine a_iload (pc := 115) (i := 4) (by decide +kernel) rfl ?_
                            refine a_iload (pc := 117) (i := 5) (by decide +kernel) rfl ?_
                            refine a_iload_n (pc := 119) (i := 2) (by decide +kernel) rfl ?_
                            refine a_iconst (pc := 120) (n := 4) (by decide +kernel) ?_
                            refine a_icmp_ne (pc := 121) (off := 8) (tgt := 129) (by decide +kernel) (by decide) (by omega) (by omega) (fun c121 => ?_) (fun c121 => ?_)
                            · refine a_iconst (pc := 129) (n := 0) (by decide +kernel) ?_
                              refine b_callV (pc := 130) (c' := 0) (sl' := 0) [j_i gp, j_i kd, j_i x, j_i y, j_i z, j_i 0] [] ml_X12_263 (by decide +kernel) rfl rfl (sh_68 hn) rfl rfl (Nat.le_of_ble_eq_true rfl) (j_fitI rfl rfl) (s_dcomes hn hg ⟨hgW, hgE, hgM⟩ hf4 hm5 (by omega)) (fun v n' σ' hq => ?_)
                              obtain ⟨hv1, e1, e2⟩ := hq
                              rw [hv1, e1, e2]; clear e1 e2
                              obtain ⟨σ15, hσ15⟩ : ∃ w, w = k_sA (d_kp σ) 69 (d_cm (σ.1 69) (σ.1 69 1382) gp kd x y z 0) := ⟨_, rfl⟩
                              rw [← hσ15]
                              show j_at _ _ _ [(0, .ref 68), (1, j_i gp), (2, j_i kd), (3, j_i x), (4, j_i y), (5, j_i z), (6, j_i t)] [j_i (σ.1 69 1382)] _ _ _ _
                              refine a_ireturn (pc := 133) (by decide +kernel) rfl ?_
                              refine k_ret ?_
                              have hr : (0 : Int) = q := by
                                unfold mk_D at hP
                                rcases hP with hP | hP | hP | hP | hP | hP | hP <;> omega
                              exact Or.inr ⟨hr.symm, rfl, rfl, by rw [hσ15]; congr 2; first | (rw [if_pos (by omega)]; done) | (rw [if_neg (by omega)]; done) | (exfalso; omega)⟩
                            · refine a_iload (pc := 124) (i := 6) (by decide +kernel) rfl ?_
                              refine a_goto (pc := 126) (off := 4) (tgt := 130) (by decide +kernel) (by decide) ?_
                              refine b_callV (pc := 130) (c' := 0) (sl' := 0) [j_i gp, j_i kd, j_i x, j_i y, j_i z, j_i t] [] ml_X12_263 (by decide +kernel) rfl rfl (sh_68 hn) rfl rfl (Nat.le_of_ble_eq_true rfl) (j_fitI rfl rfl) (s_dcomes hn hg ⟨hgW, hgE, hgM⟩ hf4 hm5 (by omega)) (fun v n' σ' hq => ?_)
                              obtain ⟨hv1, e1, e2⟩ := hq
                              rw [hv1, e1, e2]; clear e1 e2
                              obtain ⟨σ16, hσ16⟩ : ∃ w, w = k_sA (d_kp σ) 69 (d_cm (σ.1 69) (σ.1 69 1382) gp kd x y z t) := ⟨_, rfl⟩
                              rw [← hσ16]
                              show j_at _ _ _ [(0, .ref 68), (1, j_i gp), (2, j_i kd), (3, j_i x), (4, j_i y), (5, j_i z), (6, j_i t)] [j_i (σ.1 69 1382)] _ _ _ _
                              refine a_ireturn (pc := 133) (by decide +kernel) rfl ?_
                              refine k_ret ?_
                              have hr : (0 : Int) = q := by
                                unfold mk_D at hP
                                rcases hP with hP | hP | hP | hP | hP | hP | hP <;> omega
                              exact Or.inr ⟨hr.symm, rfl, rfl, by rw [hσ16]; congr 2; first | (rw [if_pos (by omega)]; done) | (rw [if_neg (by omega)]; done) | (exfalso; omega)⟩
                          · refine a_bipush (pc := 108) (n := (-4)) (by decide +kernel) rfl ?_
                            refine a_ireturn (pc := 110) (by decide +kernel) rfl ?_
                            refine k_ret ?_
                            have hr : ((-4) : Int) = q := by
                              unfold mk_D at hP
                              rcases hP with hP | hP | hP | hP | hP | hP | hP <;> omega
                            exact Or.inl ⟨by omega, by rw [hr], rfl, rfl⟩
                        · refine a_iload (pc := 89) (i := 5) (by decide +kernel) rfl ?_
                          refine a_bipush (pc := 91) (n := (-9)) (by decide +kernel) rfl ?_
                          refine a_icmp_eq (pc := 93) (off := 6) (tgt := 99) (by decide +kernel) (by decide) (by omega) (by omega) (fun c93 => ?_) (fun c93 => ?_)
                          · refine a_aload_n (pc := 99) (i := 0) (by decide +kernel) rfl ?_
                            refine b_pureV (pc := 100) [] [] ml_X12_135 (by decide +kernel) rfl rfl (sh_68 hn) rfl rfl (Nat.le_of_ble_eq_true rfl) (j_fitI rfl rfl) (s_dmarksEver hn) ?_
                            have q17 := hg 1382
                            show j_at _ _ _ [(0, .ref 68), (1, j_i gp), (2, j_i kd), (3, j_i x), (4, j_i y), (5, j_i z), (6, j_i t)] [j_i (σ.1 69 1382)] _ _ _ _
                            refine a_bipush (pc := 103) (n := 50) (by decide +kernel) rfl ?_
                            refine a_icmp_ne (pc := 105) (off := 6) (tgt := 111) (by decide +kernel) (by decide) (by omega) (by omega) (fun c105 => ?_) (fun c105 => ?_)
                            · refine a_aload_n (pc := 111) (i := 0) (by decide +kernel) rfl ?_
                              refine a_iload_n (pc := 112) (i := 1) (by decide +kernel) rfl ?_
                              refine a_iload_n (pc := 113) (i := 2) (by decide +kernel) rfl ?_
                              refine a_iload_n (pc := 114) (i := 3) (by decide +kernel) rfl ?_
                              refine a_iload (pc := 115) (i := 4) (by decide +kernel) rfl ?_
                              refine a_iload (pc := 117) (i := 5) (by decide +kernel) rfl ?_
                              refine a_iload_n (pc := 119) (i := 2) (by decide +kernel) rfl ?_
                              refine a_iconst (pc := 120) (n := 4) (by decide +kernel) ?_
                              refine a_icmp_ne (pc := 121) (off := 8) (tgt := 129) (by decide +kernel) (by decide) (by omega) (by omega) (fun c121 => ?_) (fun c121 => ?_)
                              · refine a_iconst (pc := 129) (n := 0) (by decide +kernel) ?_
                                refine b_callV (pc := 130) (c' := 0) (sl' := 0) [j_i gp, j_i kd, j_i x, j_i y, j_i z, j_i 0] [] ml_X12_263 (by decide +kernel) rfl rfl (sh_68 hn) rfl rfl (Nat.le_of_ble_eq_true rfl) (j_fitI rfl rfl) (s_dcomes hn hg ⟨hgW, hgE, hgM⟩ hf4 hm5 (by omega)) (fun v n' σ' hq => ?_)
                                obtain ⟨hv1, e1, e2⟩ := hq
                                rw [hv1, e1, e2]; clear e1 e2
                                obtain ⟨σ18, hσ18⟩ : ∃ w, w = k_sA (d_kp σ) 69 (d_cm (σ.1 69) (σ.1 69 1382) gp kd x y z 0) := ⟨_, rfl⟩
                                rw [← hσ18]
                                show j_at _ _ _ [(0, .ref 68), (1, j_i gp), (2, j_i kd), (3, j_i x), (4, j_i y), (5, j_i z), (6, j_i t)] [j_i (σ.1 69 1382)] _ _ _ _
                                refine a_ireturn (pc := 133) (by decide +kernel) rfl ?_
                                refine k_ret ?_
                                have hr : (0 : Int) = q := by
                                  unfold mk_D at hP
                                  rcases hP with hP | hP | hP | hP | hP | hP | hP <;> omega
                                exact Or.inr ⟨hr.symm, rfl, rfl, by rw [hσ18]; congr 2; first | (rw [if_pos (by omega)]; done) | (rw [if_neg (by omega)]; done) | (exfalso; omega)⟩
                              · refine a_iload (pc := 124) (i := 6) (by decide +kernel) rfl ?_
                                refine a_goto (pc := 126) (off := 4) (tgt := 130) (by decide +kernel) (by decide) ?_
                                refine b_callV (pc := 130) (c' := 0) (sl' := 0) [j_i gp, j_i kd, j_i x, j_i y, j_i z, j_i t] [] ml_X12_263 (by decide +kernel) rfl rfl (sh_68 hn) rfl rfl (Nat.le_of_ble_eq_true rfl) (j_fitI rfl rfl) (s_dcomes hn hg ⟨hgW, hgE, hgM⟩ hf4 hm5 (by omega)) (fun v n' σ' hq => ?_)
                                obtain ⟨hv1, e1, e2⟩ := hq
                                rw [hv1, e1, e2]; clear e1 e2
                                obtain ⟨σ19, hσ19⟩ : ∃ w, w = k_sA (d_kp σ) 69 (d_cm (σ.1 69) (σ.1 69 1382) gp kd x y z t) := ⟨_, rfl⟩
                                rw [← hσ19]
                                show j_at _ _ _ [(0, .ref 68), (1, j_i gp), (2, j_i kd), (3, j_i x), (4, j_i y), (5, j_i z), (6, j_i t)] [j_i (σ.1 69 1382)] _ _ _ _
                                refine a_ireturn (pc := 133) (by decide +kernel) rfl ?_
                                refine k_ret ?_
                                have hr : (0 : Int) = q := by
                                  unfold mk_D at hP
                                  rcases hP with hP | hP | hP | hP | hP | hP | hP <;> omega
                                exact Or.inr ⟨hr.symm, rfl, rfl, by rw [hσ19]; congr 2; first | (rw [if_pos (by omega)]; done) | (rw [if_neg (by omega)]; done) | (exfalso; omega)⟩
                            · refine a_bipush (pc := 108) (n := (-4)) (by decide +kernel) rfl ?_
                              refine a_ireturn (pc := 110) (by decide +kernel) rfl ?_
                              refine k_ret ?_
                              have hr : ((-4) : Int) = q := by
                                unfold mk_D at hP
                                rcases hP with hP | hP | hP | hP | hP | hP | hP <;> omega
                              exact Or.inl ⟨by omega, by rw [hr], rfl, rfl⟩
                          · refine a_bipush (pc := 96) (n := (-3)) (by decide +kernel) rfl ?_
                            refine a_ireturn (pc := 98) (by decide +kernel) rfl ?_
                            refine k_ret ?_
                            have hr : ((-3) : Int) = q := by
                              unfold mk_D at hP
                              rcases hP with hP | hP | hP | hP | hP | hP | hP <;> omega
                            exact Or.inl ⟨by omega, by rw [hr], rfl, rfl⟩
                      · refine a_iload (pc := 68) (i := 6) (by decide +kernel) rfl ?_
                        refine a_iconst (pc := 70) (n := 1) (by decide +kernel) ?_
                        refine a_bipush (pc := 71) (n := 99) (by decide +kernel) rfl ?_
                        refine b_callS (pc := 73) (c' := 0) (sl' := 0) [j_i t, j_i 1, j_i 99] [] ml_X12_128 (by decide +kernel) rfl rfl (Nat.le_of_ble_eq_true rfl) (j_fitI rfl rfl) (s_dwithin (by omega) (by omega) (by omega)) (fun v n' σ' hq => ?_)
                        obtain ⟨x, rfl, e1, e2, hx⟩ := hq
                        rw [e1, e2]; clear e1 e2
                        rcases hx with ⟨rfl, p73⟩ | ⟨rfl, p73⟩
                        · show j_at _ _ _ [(0, .ref 68), (1, j_i gp), (2, j_i kd), (3, j_i x), (4, j_i y), (5, j_i z), (6, j_i t)] [j_i 1] _ _ _ _
                          refine a_if_ne (pc := 76) (off := 6) (tgt := 82) (by decide +kernel) (by decide) (by omega) (fun c76 => ?_) (fun c76 => ?_)
                          · refine a_iload (pc := 82) (i := 4) (by decide +kernel) rfl ?_
                            refine a_bipush (pc := 84) (n := (-9)) (by decide +kernel) rfl ?_
                            refine a_icmp_ne (pc := 86) (off := 13) (tgt := 99) (by decide +kernel) (by decide) (by omega) (by omega) (fun c86 => ?_) (fun c86 => ?_)
                            · refine a_aload_n (pc := 99) (i := 0) (by decide +kernel) rfl ?_
                              refine b_pureV (pc := 100) [] [] ml_X12_135 (by decide +kernel) rfl rfl (sh_68 hn) rfl rfl (Nat.le_of_ble_eq_true rfl) (j_fitI rfl rfl) (s_dmarksEver hn) ?_
                              have q20 := hg 1382
                              show j_at _ _ _ [(0, .ref 68), (1, j_i gp), (2, j_i kd), (3, j_i x), (4, j_i y), (5, j_i z), (6, j_i t)] [j_i (σ.1 69 1382)] _ _ _ _
                              refine a_bipush (pc := 103) (n := 50) (by decide +kernel) rfl ?_
                              refine a_icmp_ne (pc := 105) (off := 6) (tgt := 111) (by decide +kernel) (by decide) (by omega) (by omega) (fun c105 => ?_) (fun c105 => ?_)
                              · refine a_aload_n (pc := 111) (i := 0) (by decide +kernel) rfl ?_
                                refine a_iload_n (pc := 112) (i := 1) (by decide +kernel) rfl ?_
                                refine a_iload_n (pc := 113) (i := 2) (by decide +kernel) rfl ?_
                                refine a_iload_n (pc := 114) (i := 3) (by decide +kernel) rfl ?_
                                refine a_iload (pc := 115) (i := 4) (by decide +kernel) rfl ?_
                                refine a_iload (pc := 117) (i := 5) (by decide +kernel) rfl ?_
                                refine a_iload_n (pc := 119) (i := 2) (by decide +kernel) rfl ?_
                                refine a_iconst (pc := 120) (n := 4) (by decide +kernel) ?_
                                refine a_icmp_ne (pc := 121) (off := 8) (tgt := 129) (by decide +kernel) (by decide) (by omega) (by omega) (fun c121 => ?_) (fun c121 => ?_)
                                · refine a_iconst (pc := 129) (n := 0) (by decide +kernel) ?_
                                  refine b_callV (pc := 130) (c' := 0) (sl' := 0) [j_i gp, j_i kd, j_i x, j_i y, j_i z, j_i 0] [] ml_X12_263 (by decide +kernel) rfl rfl (sh_68 hn) rfl rfl (Nat.le_of_ble_eq_true rfl) (j_fitI rfl rfl) (s_dcomes hn hg ⟨hgW, hgE, hgM⟩ hf4 hm5 (by omega)) (fun v n' σ' hq => ?_)
                                  obtain ⟨hv1, e1, e2⟩ := hq
                                  rw [hv1, e1, e2]; clear e1 e2
                                  obtain ⟨σ21, hσ21⟩ : ∃ w, w = k_sA (d_kp σ) 69 (d_cm (σ.1 69) (σ.1 69 1382) gp kd x y z 0) := ⟨_, rfl⟩
                                  rw [← hσ21]
                                  show j_at _ _ _ [(0, .ref 68), (1, j_i gp), (2, j_i kd), (3, j_i x), (4, j_i y), (5, j_i z), (6, j_i t)] [j_i (σ.1 69 1382)] _ _ _ _
                                  refine a_ireturn (pc := 133) (by decide +kernel) rfl ?_
                                  refine k_ret ?_
                                  have hr : (0 : Int) = q := by
                                    unfold mk_D at hP
                                    rcases hP with hP | hP | hP | hP | hP | hP | hP <;> omega
                                  exact Or.inr ⟨hr.symm, rfl, rfl, by rw [hσ21]; congr 2; first | (rw [if_pos (by omega)]; done) | (rw [if_neg (by omega)]; done) | (exfalso; omega)⟩
                                · refine a_iload (pc := 124) (i := 6) (by decide +kernel) rfl ?_
                                  refine a_goto (pc := 126) (off := 4) (tgt := 130) (by decide +kernel) (by decide) ?_
                                  refine b_callV (pc := 130) (c' := 0) (sl' := 0) [j_i gp, j_i kd, j_i x, j_i y, j_i z, j_i t] [] ml_X12_263 (by decide +kernel) rfl rfl (sh_68 hn) rfl rfl (Nat.le_of_ble_eq_true rfl) (j_fitI rfl rfl) (s_dcomes hn hg ⟨hgW, hgE, hgM⟩ hf4 hm5 (by omega)) (fun v n' σ' hq => ?_)
                                  obtain ⟨hv1, e1, e2⟩ := hq
                                  rw [hv1, e1, e2]; clear e1 e2
                                  obtain ⟨σ22, hσ22⟩ : ∃ w, w = k_sA (d_kp σ) 69 (d_cm (σ.1 69) (σ.1 69 1382) gp kd x y z t) := ⟨_, rfl⟩
                                  rw [← hσ22]
                                  show j_at _ _ _ [(0, .ref 68), (1, j_i gp), (2, j_i kd), (3, j_i x), (4, j_i y), (5, j_i z), (6, j_i t)] [j_i (σ.1 69 1382)] _ _ _ _
                                  refine a_ireturn (pc := 133) (by decide +kernel) rfl ?_
                                  refine k_ret ?_
                                  have hr : (0 : Int) = q := by
                                    unfold mk_D at hP
                                    rcases hP with hP | hP | hP | hP | hP | hP | hP <;> omega
                                  exact Or.inr ⟨hr.symm, rfl, rfl, by rw [hσ22]; congr 2; first | (rw [if_pos (by omega)]; done) | (rw [if_neg (by omega)]; done) | (exfalso; omega)⟩
                              · refine a_bipush (pc := 108) (n := (-4)) (by decide +kernel) rfl ?_
                                refine a_ireturn (pc := 110) (by decide +kernel) rfl ?_
                                refine k_ret ?_
                                have hr : ((-4) : Int) = q := by
                                  unfold mk_D at hP
                                  rcases hP with hP | hP | hP | hP | hP | hP | hP <;> omega
                                exact Or.inl ⟨by omega, by rw [hr], rfl, rfl⟩
                            · refine a_iload (pc := 89) (i := 5) (by decide +kernel) rfl ?_
                              refine a_bipush (pc := 91) (n := (-9)) (by decide +kernel) rfl ?_
                              refine a_icmp_eq (pc := 93) (off := 6) (tgt := 99) (by decide +kernel) (by decide) (by omega) (by omega) (fun c93 => ?_) (fun c93 => ?_)
                              · refine a_aload_n (pc := 99) (i := 0) (by decide +kernel) rfl ?_
                                refine b_pureV (pc := 100) [] [] ml_X12_135 (by decide +kernel) rfl rfl (sh_68 hn) rfl rfl (Nat.le_of_ble_eq_true rfl) (j_fitI rfl rfl) (s_dmarksEver hn) ?_
                                have q23 := hg 1382
                                show j_at _ _ _ [(0, .ref 68), (1, j_i gp), (2, j_i kd), (3, j_i x), (4, j_i y), (5, j_i z), (6, j_i t)] [j_i (σ.1 69 1382)] _ _ _ _
                                refine a_bipush (pc := 103) (n := 50) (by decide +kernel) rfl ?_
                                refine a_icmp_ne (pc := 105) (off := 6) (tgt := 111) (by decide +kernel) (by decide) (by omega) (by omega) (fun c105 => ?_) (fun c105 => ?_)
                                · refine a_aload_n (pc := 111) (i := 0) (by decide +kernel) rfl ?_
                                  refine a_iload_n (pc := 112) (i := 1) (by decide +kernel) rfl ?_
                                  refine a_iload_n (pc := 113) (i := 2) (by decide +kernel) rfl ?_
                                  refine a_iload_n (pc := 114) (i := 3) (by decide +kernel) rfl ?_
                                  refine a_iload (pc := 115) (i := 4) (by decide +kernel) rfl ?_
                                  refine a_iload (pc := 117) (i := 5) (by decide +kernel) rfl ?_
                                  refine a_iload_n (pc := 119) (i := 2) (by decide +kernel) rfl ?_
                                  refine a_iconst (pc := 120) (n := 4) (by decide +kernel) ?_
                                  refine a_icmp_ne (pc := 121) (off := 8) (tgt := 129) (by decide +kernel) (by decide) (by omega) (by omega) (fun c121 => ?_) (fun c121 => ?_)
                                  · refine a_iconst (pc := 129) (n := 0) (by decide +kernel) ?_
                                    refine b_callV (pc := 130) (c' := 0) (sl' := 0) [j_i gp, j_i kd, j_i x, j_i y, j_i z, j_i 0] [] ml_X12_263 (by decide +kernel) rfl rfl (sh_68 hn) rfl rfl (Nat.le_of_ble_eq_true rfl) (j_fitI rfl rfl) (s_dcomes hn hg ⟨hgW, hgE, hgM⟩ hf4 hm5 (by omega)) (fun v n' σ' hq => ?_)
                                    obtain ⟨hv1, e1, e2⟩ := hq
                                    rw [hv1, e1, e2]; clear e1 e2
                                    obtain ⟨σ24, hσ24⟩ : ∃ w, w = k_sA (d_kp σ) 69 (d_cm (σ.1 69) (σ.1 69 1382) gp kd x y z 0) := ⟨_, rfl⟩
                                    rw [← hσ24]
                                    show j_at _ _ _ [(0, .ref 68), (1, j_i gp), (2, j_i kd), (3, j_i x), (4, j_i y), (5, j_i z), (6, j_i t)] [j_i (σ.1 69 1382)] _ _ _ _
                                    refine a_ireturn (pc := 133) (by decide +kernel) rfl ?_
                                    refine k_ret ?_
                                    have hr : (0 : Int) = q := by
                                      unfold mk_D at hP
                                      rcases hP with hP | hP | hP | hP | hP | hP | hP <;> omega
                                    exact Or.inr ⟨hr.symm, rfl, rfl, by rw [hσ24]; congr 2; first | (rw [if_pos (by omega)]; done) | (rw [if_neg (by omega)]; done) | (exfalso; omega)⟩
                                  · refine a_iload (pc := 124) (i := 6) (by decide +kernel) rfl ?_
                                    refine a_goto (pc := 126) (off := 4) (tgt := 130) (by decide +kernel) (by decide) ?_
                                    refine b_callV (pc := 130) (c' := 0) (sl' := 0) [j_i gp, j_i kd, j_i x, j_i y, j_i z, j_i t] [] ml_X12_263 (by decide +kernel) rfl rfl (sh_68 hn) rfl rfl (Nat.le_of_ble_eq_true rfl) (j_fitI rfl rfl) (s_dcomes hn hg ⟨hgW, hgE, hgM⟩ hf4 hm5 (by omega)) (fun v n' σ' hq => ?_)
                                    obtain ⟨hv1, e1, e2⟩ := hq
                                    rw [hv1, e1, e2]; clear e1 e2
                                    obtain ⟨σ25, hσ25⟩ : ∃ w, w = k_sA (d_kp σ) 69 (d_cm (σ.1 69) (σ.1 69 1382) gp kd x y z t) := ⟨_, rfl⟩
                                    rw [← hσ25]
                                    show j_at _ _ _ [(0, .ref 68), (1, j_i gp), (2, j_i kd), (3, j_i x), (4, j_i y), (5, j_i z), (6, j_i t)] [j_i (σ.1 69 1382)] _ _ _ _
                                    refine a_ireturn (pc := 133) (by decide +kernel) rfl ?_
                                    refine k_ret ?_
                                    have hr : (0 : Int) = q := by
                                      unfold mk_D at hP
                                      rcases hP with hP | hP | hP | hP | hP | hP | hP <;> omega
                                    exact Or.inr ⟨hr.symm, rfl, rfl, by rw [hσ25]; congr 2; first | (rw [if_pos (by omega)]; done) | (rw [if_neg (by omega)]; done) | (exfalso; omega)⟩
                                · refine a_bipush (pc := 108) (n := (-4)) (by decide +kernel) rfl ?_
                                  refine a_ireturn (pc := 110) (by decide +kernel) rfl ?_
                                  refine k_ret ?_
                                  have hr : ((-4) : Int) = q := by
                                    unfold mk_D at hP
                                    rcases hP with hP | hP | hP | hP | hP | hP | hP <;> omega
                                  exact Or.inl ⟨by omega, by rw [hr], rfl, rfl⟩
                              · refine a_bipush (pc := 96) (n := (-3)) (by decide +kernel) rfl ?_
                                refine a_ireturn (pc := 98) (by decide +kernel) rfl ?_
                                refine k_ret ?_
                                have hr : ((-3) : Int) = q := by
                                  unfold mk_D at hP
                                  rcases hP with hP | hP | hP | hP | hP | hP | hP <;> omega
                                exact Or.inl ⟨by omega, by rw [hr], rfl, rfl⟩
                          · exact absurd c76 (by decide)
                        · show j_at _ _ _ [(0, .ref 68), (1, j_i gp), (2, j_i kd), (3, j_i x), (4, j_i y), (5, j_i z), (6, j_i t)] [j_i 0] _ _ _ _
                          refine a_if_ne (pc := 76) (off := 6) (tgt := 82) (by decide +kernel) (by decide) (by omega) (fun c76 => ?_) (fun c76 => ?_)
                          · exact absurd c76 (by decide)
                          · refine a_bipush (pc := 79) (n := (-2)) (by decide +kernel) rfl ?_
                            refine a_ireturn (pc := 81) (by decide +kernel) rfl ?_
                            refine k_ret ?_
                            have hr : ((-2) : Int) = q := by
                              unfold mk_D at hP
                              rcases hP with hP | hP | hP | hP | hP | hP | hP <;> omega
                            exact Or.inl ⟨by omega, by rw [hr], rfl, rfl⟩
                  · show j_at _ _ _ [(0, .ref 68), (1, j_i gp), (2, j_i kd), (3, j_i x), (4, j_i y), (5, j_i z), (6, j_i t)] [j_i 0] _ _ _ _
                    refine a_if_eq (pc := 60) (off := 19) (tgt := 79) (by decide +kernel) (by decide) (by omega) (fun c60 => ?_) (fun c60 => ?_)
                    · refine a_bipush (pc := 79) (n := (-2)) (by decide +kernel) rfl ?_
                      refine a_ireturn (pc := 81) (by decide +kernel) rfl ?_
                      refine k_ret ?_
                      have hr : ((-2) : Int) = q := by
                        unfold mk_D at hP
                        rcases hP with hP | hP | hP | hP | hP | hP | hP <;> omega
                      exact Or.inl ⟨by omega, by rw [hr], rfl, rfl⟩
                    · exact absurd c60 (by decide)
                · exact absurd c49 (by decide)
              · show j_at _ _ _ [(0, .ref 68), (1, j_i gp), (2, j_i kd), (3, j_i x), (4, j_i y), (5, j_i z), (6, j_i t)] [j_i 0] _ _ _ _
                have i46 := bi_n p46
                refine a_if_ne (pc := 49) (off := 5) (tgt := 54) (by decide +kernel) (by decide) (by omega) (fun c49 => ?_) (fun c49 => ?_)
                · exact absurd c49 (by decide)
                · refine a_iconst (pc := 52) (n := (-1)) (by decide +kernel) ?_
                  refine a_ireturn (pc := 53) (by decide +kernel) rfl ?_
                  refine k_ret ?_
                  have hH : bi (d_is σ x ∧ (y = -9 ∨ d_is σ y) ∧ (z = -9 ∨ d_is σ z)) = 0 ∨ ¬ (0 ≤ gp ∧ gp ≤ σ.1 69 0) := by
                    first | exact Or.inr (by omega) | exact Or.inl (bi_n (by
                      rintro ⟨g1, g2, g3⟩
                      first | exact absurd g1 (by assumption) | (rcases g2 with g2 | g2; exact absurd g2 (by assumption); exact absurd g2 (by assumption)) | (rcases g3 with g3 | g3; exact absurd g3 (by assumption); exact absurd g3 (by assumption))))
                  have hr : ((-1) : Int) = q := by
                    unfold mk_D at hP
                    rcases hP with hP | hP | hP | hP | hP | hP | hP <;> omega
                  exact Or.inl ⟨by omega, by rw [hr], rfl, rfl⟩
          · refine a_aload_n (pc := 27) (i := 0) (by decide +kernel) rfl ?_
            refine a_iload (pc := 28) (i := 4) (by decide +kernel) rfl ?_
            refine b_callV (pc := 30) (c' := 0) (sl' := 0) [j_i y] [] ml_X12_202 (by decide +kernel) rfl rfl (sh_68 hn) rfl rfl (Nat.le_of_ble_eq_true rfl) (j_fitI rfl rfl) (s_disHead hn hg (by omega) (by omega)) (fun v n' σ' hq => ?_)
            obtain ⟨x, rfl, e1, e2, hx⟩ := hq
            rw [e1, e2]; clear e1 e2
            rcases hx with ⟨rfl, p30⟩ | ⟨rfl, p30⟩
            · show j_at _ _ _ [(0, .ref 68), (1, j_i gp), (2, j_i kd), (3, j_i x), (4, j_i y), (5, j_i z), (6, j_i t)] [j_i 1] _ _ _ _
              have i30 := bi_y p30
              have u30 := p30.1
              have w30 := p30.2.1
              refine a_if_eq (pc := 33) (off := 19) (tgt := 52) (by decide +kernel) (by decide) (by omega) (fun c33 => ?_) (fun c33 => ?_)
              · exact absurd c33 (by decide)
              · refine a_iload (pc := 36) (i := 5) (by decide +kernel) rfl ?_
                refine a_bipush (pc := 38) (n := (-9)) (by decide +kernel) rfl ?_
                refine a_icmp_eq (pc := 40) (off := 14) (tgt := 54) (by decide +kernel) (by decide) (by omega) (by omega) (fun c40 => ?_) (fun c40 => ?_)
                · have hH := bi_y (show (d_is σ x ∧ (y = -9 ∨ d_is σ y) ∧ (z = -9 ∨ d_is σ z)) from ⟨p14, by first | exact Or.inl (by assumption) | exact Or.inr (by assumption), by first | exact Or.inl (by assumption) | exact Or.inr (by assumption)⟩)
                  refine a_iload_n (pc := 54) (i := 2) (by decide +kernel) rfl ?_
                  refine a_iconst (pc := 55) (n := 0) (by decide +kernel) ?_
                  refine a_iconst (pc := 56) (n := 5) (by decide +kernel) ?_
                  refine b_callS (pc := 57) (c' := 0) (sl' := 0) [j_i kd, j_i 0, j_i 5] [] ml_X12_128 (by decide +kernel) rfl rfl (Nat.le_of_ble_eq_true rfl) (j_fitI rfl rfl) (s_dwithin (by omega) (by omega) (by omega)) (fun v n' σ' hq => ?_)
                  obtain ⟨x, rfl, e1, e2, hx⟩ := hq
                  rw [e1, e2]; clear e1 e2
                  rcases hx with ⟨rfl, p57⟩ | ⟨rfl, p57⟩
                  · show j_at _ _ _ [(0, .ref 68), (1, j_i gp), (2, j_i kd), (3, j_i x), (4, j_i y), (5, j_i z), (6, j_i t)] [j_i 1] _ _ _ _
                    refine a_if_eq (pc := 60) (off := 19) (tgt := 79) (by decide +kernel) (by decide) (by omega) (fun c60 => ?_) (fun c60 => ?_)
                    · exact absurd c60 (by decide)
                    · refine a_iload_n (pc := 63) (i := 2) (by decide +kernel) rfl ?_
                      refine a_iconst (pc := 64) (n := 4) (by decide +kernel) ?_
                      refine a_icmp_ne (pc := 65) (off := 17) (tgt := 82) (by decide +kernel) (by decide) (by omega) (by omega) (fun c65 => ?_) (fun c65 => ?_)
                      · refine a_iload (pc := 82) (i := 4) (by decide +kernel) rfl ?_
                        refine a_bipush (pc := 84) (n := (-9)) (by decide +kernel) rfl ?_
                        refine a_icmp_ne (pc := 86) (off := 13) (tgt := 99) (by decide +kernel) (by decide) (by omega) (by omega) (fun c86 => ?_) (fun c86 => ?_)
                        · refine a_aload_n (pc := 99) (i := 0) (by decide +kernel) rfl ?_
                          refine b_pureV (pc := 100) [] [] ml_X12_135 (by decide +kernel) rfl rfl (sh_68 hn) rfl rfl (Nat.le_of_ble_eq_true rfl) (j_fitI rfl rfl) (s_dmarksEver hn) ?_
                          have q26 := hg 1382
                          show j_at _ _ _ [(0, .ref 68), (1, j_i gp), (2, j_i kd), (3, j_i x), (4, j_i y), (5, j_i z), (6, j_i t)] [j_i (σ.1 69 1382)] _ _ _ _
                          refine a_bipush (pc := 103) (n := 50) (by decide +kernel) rfl ?_
                          refine a_icmp_ne (pc := 105) (off := 6) (tgt := 111) (by decide +kernel) (by decide) (by omega) (by omega) (fun c105 => ?_) (fun c105 => ?_)
                          · refine a_aload_n (pc := 111) (i := 0) (by decide +kernel) rfl ?_
                            refine a_iload_n (pc := 112) (i := 1) (by decide +kernel) rfl ?_
                            refine a_iload_n (pc := 113) (i := 2) (by decide +kernel) rfl ?_
                            refine a_iload_n (pc := 114) (i := 3) (by decide +kernel) rfl ?_
                            refine a_iload (pc := 115) (i := 4) (by decide +kernel) rfl ?_
                            refine a_iload (pc := 117) (i := 5) (by decide +kernel) rfl ?_
                            refine a_iload_n (pc := 119) (i := 2) (by decide +kernel) rfl ?_
                            refine a_iconst (pc := 120) (n := 4) (by decide +kernel) ?_
                            refine a_icmp_ne (pc := 121) (off := 8) (tgt := 129) (by decide +kernel) (by decide) (by omega) (by omega) (fun c121 => ?_) (fun c121 => ?_)
                            · refine a_iconst (pc := 129) (n := 0) (by decide +kernel) ?_
                              refine b_callV (pc := 130) (c' := 0) (sl' := 0) [j_i gp, j_i kd, j_i x, j_i y, j_i z, j_i 0] [] ml_X12_263 (by decide +kernel) rfl rfl (sh_68 hn) rfl rfl (Nat.le_of_ble_eq_true rfl) (j_fitI rfl rfl) (s_dcomes hn hg ⟨hgW, hgE, hgM⟩ hf4 hm5 (by omega)) (fun v n' σ' hq => ?_)
                              obtain ⟨hv1, e1, e2⟩ := hq
                              rw [hv1, e1, e2]; clear e1 e2
                              obtain ⟨σ27, hσ27⟩ : ∃ w, w = k_sA (d_kp σ) 69 (d_cm (σ.1 69) (σ.1 69 1382) gp kd x y z 0) := ⟨_, rfl⟩
                              rw [← hσ27]
                              show j_at _ _ _ [(0, .ref 68), (1, j_i gp), (2, j_i kd), (3, j_i x), (4, j_i y), (5, j_i z), (6, j_i t)] [j_i (σ.1 69 1382)] _ _ _ _
                              refine a_ireturn (pc := 133) (by decide +kernel) rfl ?_
                              refine k_ret ?_
                              have hr : (0 : Int) = q := by
                                unfold mk_D at hP
                                rcases hP with hP | hP | hP | hP | hP | hP | hP <;> omega
                              exact Or.inr ⟨hr.symm, rfl, rfl, by rw [hσ27]; congr 2; first | (rw [if_pos (by omega)]; done) | (rw [if_neg (by omega)]; done) | (exfalso; omega)⟩
                            · refine a_iload (pc := 124) (i := 6) (by decide +kernel) rfl ?_
                              refine a_goto (pc := 126) (off := 4) (tgt := 130) (by decide +kernel) (by decide) ?_
                              refine b_callV (pc := 130) (c' := 0) (sl' := 0) [j_i gp, j_i kd, j_i x, j_i y, j_i z, j_i t] [] ml_X12_263 (by decide +kernel) rfl rfl (sh_68 hn) rfl rfl (Nat.le_of_ble_eq_true rfl) (j_fitI rfl rfl) (s_dcomes hn hg ⟨hgW, hgE, hgM⟩ hf4 hm5 (by omega)) (fun v n' σ' hq => ?_)
                              obtain ⟨hv1, e1, e2⟩ := hq
                              rw [hv1, e1, e2]; clear e1 e2
                              obtain ⟨σ28, hσ28⟩ : ∃ w, w = k_sA (d_kp σ) 69 (d_cm (σ.1 69) (σ.1 69 1382) gp kd x y z t) := ⟨_, rfl⟩
                              rw [← hσ28]
                              show j_at _ _ _ [(0, .ref 68), (1, j_i gp), (2, j_i kd), (3, j_i x), (4, j_i y), (5, j_i z), (6, j_i t)] [j_i (σ.1 69 1382)] _ _ _ _
                              refine a_ireturn (pc := 133) (by decide +kernel) rfl ?_
                              refine k_ret ?_
                              have hr : (0 : Int) = q := by
                                unfold mk_D at hP
                                rcases hP with hP | hP | hP | hP | hP | hP | hP <;> omega
                              exact Or.inr ⟨hr.symm, rfl, rfl, by rw [hσ28]; congr 2; first | (rw [if_pos (by omega)]; done) | (rw [if_neg (by omega)]; done) | (exfalso; omega)⟩
                          · refine a_bipush (pc := 108) (n := (-4)) (by decide +kernel) rfl ?_
                            refine a_ireturn (pc := 110) (by decide +kernel) rfl ?_
                            refine k_ret ?_
                            have hr : ((-4) : Int) = q := by
                              unfold mk_D at hP
                              rcases hP with hP | hP | hP | hP | hP | hP | hP <;> omega
                            exact Or.inl ⟨by omega, by rw [hr], rfl, rfl⟩
                        · refine a_iload (pc := 89) (i := 5) (by decide +kernel) rfl ?_
                          refine a_bipush (pc := 91) (n := (-9)) (by decide +kernel) rfl ?_
                          refine a_icmp_eq (pc := 93) (off := 6) (tgt := 99) (by decide +kernel) (by decide) (by omega) (by omega) (fun c93 => ?_) (fun c93 => ?_)
                          · refine a_aload_n (pc := 99) (i := 0) (by decide +kernel) rfl ?_
                            refine b_pureV (pc := 100) [] [] ml_X12_135 (by decide +kernel) rfl rfl (sh_68 hn) rfl rfl (Nat.le_of_ble_eq_true rfl) (j_fitI rfl rfl) (s_dmarksEver hn) ?_
                            have q29 := hg 1382
                            show j_at _ _ _ [(0, .ref 68), (1, j_i gp), (2, j_i kd), (3, j_i x), (4, j_i y), (5, j_i z), (6, j_i t)] [j_i (σ.1 69 1382)] _ _ _ _
                            refine a_bipush (pc := 103) (n := 50) (by decide +kernel) rfl ?_
                            refine a_icmp_ne (pc := 105) (off := 6) (tgt := 111) (by decide +kernel) (by decide) (by omega) (by omega) (fun c105 => ?_) (fun c105 => ?_)
                            · refine a_aload_n (pc := 111) (i := 0) (by decide +kernel) rfl ?_
                              refine a_iload_n (pc := 112) (i := 1) (by decide +kernel) rfl ?_
                              refine a_iload_n (pc := 113) (i := 2) (by decide +kernel) rfl ?_
                              refine a_iload_n (pc := 114) (i := 3) (by decide +kernel) rfl ?_
                              refine a_iload (pc := 115) (i := 4) (by decide +kernel) rfl ?_
                              refine a_iload (pc := 117) (i := 5) (by decide +kernel) rfl ?_
                              refine a_iload_n (pc := 119) (i := 2) (by decide +kernel) rfl ?_
                              refine a_iconst (pc := 120) (n := 4) (by decide +kernel) ?_
                              refine a_icmp_ne (pc := 121) (off := 8) (tgt := 129) (by decide +kernel) (by decide) (by omega) (by omega) (fun c121 => ?_) (fun c121 => ?_)
                              · refine a_iconst (pc := 129) (n := 0) (by decide +kernel) ?_
                                refine b_callV (pc := 130) (c' := 0) (sl' := 0) [j_i gp, j_i kd, j_i x, j_i y, j_i z, j_i 0] [] ml_X12_263 (by decide +kernel) rfl rfl (sh_68 hn) rfl rfl (Nat.le_of_ble_eq_true rfl) (j_fitI rfl rfl) (s_dcomes hn hg ⟨hgW, hgE, hgM⟩ hf4 hm5 (by omega)) (fun v n' σ' hq => ?_)
                                obtain ⟨hv1, e1, e2⟩ := hq
                                rw [hv1, e1, e2]; clear e1 e2
                                obtain ⟨σ30, hσ30⟩ : ∃ w, w = k_sA (d_kp σ) 69 (d_cm (σ.1 69) (σ.1 69 1382) gp kd x y z 0) := ⟨_, rfl⟩
                                rw [← hσ30]
                                show j_at _ _ _ [(0, .ref 68), (1, j_i gp), (2, j_i kd), (3, j_i x), (4, j_i y), (5, j_i z), (6, j_i t)] [j_i (σ.1 69 1382)] _ _ _ _
                                refine a_ireturn (pc := 133) (by decide +kernel) rfl ?_
                                refine k_ret ?_
                                have hr : (0 : Int) = q := by
                                  unfold mk_D at hP
                                  rcases hP with hP | hP | hP | hP | hP | hP | hP <;> omega
                                exact Or.inr ⟨hr.symm, rfl, rfl, by rw [hσ30]; congr 2; first | (rw [if_pos (by omega)]; done) | (rw [if_neg (by omega)]; done) | (exfalso; omega)⟩
                              · refine a_iload (pc := 124) (i := 6) (by decide +kernel) rfl ?_
                                refine a_goto (pc := 126) (off := 4) (tgt := 130) (by decide +kernel) (by decide) ?_
                                refine b_callV (pc := 130) (c' := 0) (sl' := 0) [j_i gp, j_i kd, j_i x, j_i y, j_i z, j_i t] [] ml_X12_263 (by decide +kernel) rfl rfl (sh_68 hn) rfl rfl (Nat.le_of_ble_eq_true rfl) (j_fitI rfl rfl) (s_dcomes hn hg ⟨hgW, hgE, hgM⟩ hf4 hm5 (by omega)) (fun v n' σ' hq => ?_)
                                obtain ⟨hv1, e1, e2⟩ := hq
                                rw [hv1, e1, e2]; clear e1 e2
                                obtain ⟨σ31, hσ31⟩ : ∃ w, w = k_sA (d_kp σ) 69 (d_cm (σ.1 69) (σ.1 69 1382) gp kd x y z t) := ⟨_, rfl⟩
                                rw [← hσ31]
                                show j_at _ _ _ [(0, .ref 68), (1, j_i gp), (2, j_i kd), (3, j_i x), (4, j_i y), (5, j_i z), (6, j_i t)] [j_i (σ.1 69 1382)] _ _ _ _
                                refine a_ireturn (pc := 133) (by decide +kernel) rfl ?_
                                refine k_ret ?_
                                have hr : (0 : Int) = q := by
                                  unfold mk_D at hP
                                  rcases hP with hP | hP | hP | hP | hP | hP | hP <;> omega
                                exact Or.inr ⟨hr.symm, rfl, rfl, by rw [hσ31]; congr 2; first | (rw [if_pos (by omega)]; done) | (rw [if_neg (by omega)]; done) | (exfalso; omega)⟩
                            · refine a_bipush (pc := 108) (n := (-4)) (by decide +kernel) rfl ?_
                              refine a_ireturn (pc := 110) (by decide +kernel) rfl ?_
                              refine k_ret ?_
                              have hr : ((-4) : Int) = q := by
                                unfold mk_D at hP
                                rcases hP with hP | hP | hP | hP | hP | hP | hP <;> omega
                              exact Or.inl ⟨by omega, by rw [hr], rfl, rfl⟩
                          · refine a_bipush (pc := 96) (n := (-3)) (by decide +kernel) rfl ?_
                            refine a_ireturn (pc := 98) (by decide +kernel) rfl ?_
                            refine k_ret ?_
                            have hr : ((-3) : Int) = q := by
                              unfold mk_D at hP
                              rcases hP with hP | hP | hP | hP | hP | hP | hP <;> omega
                            exact Or.inl ⟨by omega, by rw [hr], rfl, rfl⟩
                      · refine a_iload (pc := 68) (i := 6) (by decide +kernel) rfl ?_
                        refine a_iconst (pc := 70) (n := 1) (by decide +kernel) ?_
                        refine a_bipush (pc := 71) (n := 99) (by decide +kernel) rfl ?_
                        refine b_callS (pc := 73) (c' := 0) (sl' := 0) [j_i t, j_i 1, j_i 99] [] ml_X12_128 (by decide +kernel) rfl rfl (Nat.le_of_ble_eq_true rfl) (j_fitI rfl rfl) (s_dwithin (by omega) (by omega) (by omega)) (fun v n' σ' hq => ?_)
                        obtain ⟨x, rfl, e1, e2, hx⟩ := hq
                        rw [e1, e2]; clear e1 e2
                        rcases hx with ⟨rfl, p73⟩ | ⟨rfl, p73⟩
                        · show j_at _ _ _ [(0, .ref 68), (1, j_i gp), (2, j_i kd), (3, j_i x), (4, j_i y), (5, j_i z), (6, j_i t)] [j_i 1] _ _ _ _
                          refine a_if_ne (pc := 76) (off := 6) (tgt := 82) (by decide +kernel) (by decide) (by omega) (fun c76 => ?_) (fun c76 => ?_)
                          · refine a_iload (pc := 82) (i := 4) (by decide +kernel) rfl ?_
                            refine a_bipush (pc := 84) (n := (-9)) (by decide +kernel) rfl ?_
                            refine a_icmp_ne (pc := 86) (off := 13) (tgt := 99) (by decide +kernel) (by decide) (by omega) (by omega) (fun c86 => ?_) (fun c86 => ?_)
                            · refine a_aload_n (pc := 99) (i := 0) (by decide +kernel) rfl ?_
                              refine b_pureV (pc := 100) [] [] ml_X12_135 (by decide +kernel) rfl rfl (sh_68 hn) rfl rfl (Nat.le_of_ble_eq_true rfl) (j_fitI rfl rfl) (s_dmarksEver hn) ?_
                              have q32 := hg 1382
                              show j_at _ _ _ [(0, .ref 68), (1, j_i gp), (2, j_i kd), (3, j_i x), (4, j_i y), (5, j_i z), (6, j_i t)] [j_i (σ.1 69 1382)] _ _ _ _
                              refine a_bipush (pc := 103) (n := 50) (by decide +kernel) rfl ?_
                              refine a_icmp_ne (pc := 105) (off := 6) (tgt := 111) (by decide +kernel) (by decide) (by omega) (by omega) (fun c105 => ?_) (fun c105 => ?_)
                              · refine a_aload_n (pc := 111) (i := 0) (by decide +kernel) rfl ?_
                                refine a_iload_n (pc := 112) (i := 1) (by decide +kernel) rfl ?_
                                refine a_iload_n (pc := 113) (i := 2) (by decide +kernel) rfl ?_
                                refine a_iload_n (pc := 114) (i := 3) (by decide +kernel) rfl ?_
                                refine a_iload (pc := 115) (i := 4) (by decide +kernel) rfl ?_
                                refine a_iload (pc := 117) (i := 5) (by decide +kernel) rfl ?_
                                refine a_iload_n (pc := 119) (i := 2) (by decide +kernel) rfl ?_
                                refine a_iconst (pc := 120) (n := 4) (by decide +kernel) ?_
                                refine a_icmp_ne (pc := 121) (off := 8) (tgt := 129) (by decide +kernel) (by decide) (by omega) (by omega) (fun c121 => ?_) (fun c121 => ?_)
                                · refine a_iconst (pc := 129) (n := 0) (by decide +kernel) ?_
                                  refine b_callV (pc := 130) (c' := 0) (sl' := 0) [j_i gp, j_i kd, j_i x, j_i y, j_i z, j_i 0] [] ml_X12_263 (by decide +kernel) rfl rfl (sh_68 hn) rfl rfl (Nat.le_of_ble_eq_true rfl) (j_fitI rfl rfl) (s_dcomes hn hg ⟨hgW, hgE, hgM⟩ hf4 hm5 (by omega)) (fun v n' σ' hq => ?_)
                                  obtain ⟨hv1, e1, e2⟩ := hq
                                  rw [hv1, e1, e2]; clear e1 e2
                                  obtain ⟨σ33, hσ33⟩ : ∃ w, w = k_sA (d_kp σ) 69 (d_cm (σ.1 69) (σ.1 69 1382) gp kd x y z 0) := ⟨_, rfl⟩
                                  rw [← hσ33]
                                  show j_at _ _ _ [(0, .ref 68), (1, j_i gp), (2, j_i kd), (3, j_i x), (4, j_i y), (5, j_i z), (6, j_i t)] [j_i (σ.1 69 1382)] _ _ _ _
                                  refine a_ireturn (pc := 133) (by decide +kernel) rfl ?_
                                  refine k_ret ?_
                                  have hr : (0 : Int) = q := by
                                    unfold mk_D at hP
                                    rcases hP with hP | hP | hP | hP | hP | hP | hP <;> omega
                                  exact Or.inr ⟨hr.symm, rfl, rfl, by rw [hσ33]; congr 2; first | (rw [if_pos (by omega)]; done) | (rw [if_neg (by omega)]; done) | (exfalso; omega)⟩
                                · refine a_iload (pc := 124) (i := 6) (by decide +kernel) rfl ?_
                                  refine a_goto (pc := 126) (off := 4) (tgt := 130) (by decide +kernel) (by decide) ?_
                                  refine b_callV (pc := 130) (c' := 0) (sl' := 0) [j_i gp, j_i kd, j_i x, j_i y, j_i z, j_i t] [] ml_X12_263 (by decide +kernel) rfl rfl (sh_68 hn) rfl rfl (Nat.le_of_ble_eq_true rfl) (j_fitI rfl rfl) (s_dcomes hn hg ⟨hgW, hgE, hgM⟩ hf4 hm5 (by omega)) (fun v n' σ' hq => ?_)
                                  obtain ⟨hv1, e1, e2⟩ := hq
                                  rw [hv1, e1, e2]; clear e1 e2
                                  obtain ⟨σ34, hσ34⟩ : ∃ w, w = k_sA (d_kp σ) 69 (d_cm (σ.1 69) (σ.1 69 1382) gp kd x y z t) := ⟨_, rfl⟩
                                  rw [← hσ34]
                                  show j_at _ _ _ [(0, .ref 68), (1, j_i gp), (2, j_i kd), (3, j_i x), (4, j_i y), (5, j_i z), (6, j_i t)] [j_i (σ.1 69 1382)] _ _ _ _
                                  refine a_ireturn (pc := 133) (by decide +kernel) rfl ?_
                                  refine k_ret ?_
                                  have hr : (0 : Int) = q := by
                                    unfold mk_D at hP
                                    rcases hP with hP | hP | hP | hP | hP | hP | hP <;> omega
                                  exact Or.inr ⟨hr.symm, rfl, rfl, by rw [hσ34]; congr 2; first | (rw [if_pos (by omega)]; done) | (rw [if_neg (by omega)]; done) | (exfalso; omega)⟩
                              · refine a_bipush (pc := 108) (n := (-4)) (by decide +kernel) rfl ?_
                                refine a_ireturn (pc := 110) (by decide +kernel) rfl ?_
                                refine k_ret ?_
                                have hr : ((-4) : Int) = q := by
                                  unfold mk_D at hP
                                  rcases hP with hP | hP | hP | hP | hP | hP | hP <;> omega
                                exact Or.inl ⟨by omega, by rw [hr], rfl, rfl⟩
                            · refine a_iload (pc := 89) (i := 5) (by decide +kernel) rfl ?_
                              refine a_bipush (pc := 91) (n := (-9)) (by decide +kernel) rfl ?_
                              refine a_icmp_eq (pc := 93) (off := 6) (tgt := 99) (by decide +kernel) (by decide) (by omega) (by omega) (fun c93 => ?_) (fun c93 => ?_)
                              · refine a_aload_n (pc := 99) (i := 0) (by decide +kernel) rfl ?_
                                refine b_pureV (pc := 100) [] [] ml_X12_135 (by decide +kernel) rfl rfl (sh_68 hn) rfl rfl (Nat.le_of_ble_eq_true rfl) (j_fitI rfl rfl) (s_dmarksEver hn) ?_
                                have q35 := hg 1382
                                show j_at _ _ _ [(0, .ref 68), (1, j_i gp), (2, j_i kd), (3, j_i x), (4, j_i y), (5, j_i z), (6, j_i t)] [j_i (σ.1 69 1382)] _ _ _ _
                                refine a_bipush (pc := 103) (n := 50) (by decide +kernel) rfl ?_
                                refine a_icmp_ne (pc := 105) (off := 6) (tgt := 111) (by decide +kernel) (by decide) (by omega) (by omega) (fun c105 => ?_) (fun c105 => ?_)
                                · refine a_aload_n (pc := 111) (i := 0) (by decide +kernel) rfl ?_
                                  refine a_iload_n (pc := 112) (i := 1) (by decide +kernel) rfl ?_
                                  refine a_iload_n (pc := 113) (i := 2) (by decide +kernel) rfl ?_
                                  refine a_iload_n (pc := 114) (i := 3) (by decide +kernel) rfl ?_
                                  refine a_iload (pc := 115) (i := 4) (by decide +kernel) rfl ?_
                                  refine a_iload (pc := 117) (i := 5) (by decide +kernel) rfl ?_
                                  refine a_iload_n (pc := 119) (i := 2) (by decide +kernel) rfl ?_
                                  refine a_iconst (pc := 120) (n := 4) (by decide +kernel) ?_
                                  refine a_icmp_ne (pc := 121) (off := 8) (tgt := 129) (by decide +kernel) (by decide) (by omega) (by omega) (fun c121 => ?_) (fun c121 => ?_)
                                  · refine a_iconst (pc := 129) (n := 0) (by decide +kernel) ?_
                                    refine b_callV (pc := 130) (c' := 0) (sl' := 0) [j_i gp, j_i kd, j_i x, j_i y, j_i z, j_i 0] [] ml_X12_263 (by decide +kernel) rfl rfl (sh_68 hn) rfl rfl (Nat.le_of_ble_eq_true rfl) (j_fitI rfl rfl) (s_dcomes hn hg ⟨hgW, hgE, hgM⟩ hf4 hm5 (by omega)) (fun v n' σ' hq => ?_)
                                    obtain ⟨hv1, e1, e2⟩ := hq
                                    rw [hv1, e1, e2]; clear e1 e2
                                    obtain ⟨σ36, hσ36⟩ : ∃ w, w = k_sA (d_kp σ) 69 (d_cm (σ.1 69) (σ.1 69 1382) gp kd x y z 0) := ⟨_, rfl⟩
                                    rw [← hσ36]
                                    show j_at _ _ _ [(0, .ref 68), (1, j_i gp), (2, j_i kd), (3, j_i x), (4, j_i y), (5, j_i z), (6, j_i t)] [j_i (σ.1 69 1382)] _ _ _ _
                                    refine a_ireturn (pc := 133) (by decide +kernel) rfl ?_
                                    refine k_ret ?_
                                    have hr : (0 : Int) = q := by
                                      unfold mk_D at hP
                                      rcases hP with hP | hP | hP | hP | hP | hP | hP <;> omega
                                    exact Or.inr ⟨hr.symm, rfl, rfl, by rw [hσ36]; congr 2; first | (rw [if_pos (by omega)]; done) | (rw [if_neg (by omega)]; done) | (exfalso; omega)⟩
                                  · refine a_iload (pc := 124) (i := 6) (by decide +kernel) rfl ?_
                                    refine a_goto (pc := 126) (off := 4) (tgt := 130) (by decide +kernel) (by decide) ?_
                                    refine b_callV (pc := 130) (c' := 0) (sl' := 0) [j_i gp, j_i kd, j_i x, j_i y, j_i z, j_i t] [] ml_X12_263 (by decide +kernel) rfl rfl (sh_68 hn) rfl rfl (Nat.le_of_ble_eq_true rfl) (j_fitI rfl rfl) (s_dcomes hn hg ⟨hgW, hgE, hgM⟩ hf4 hm5 (by omega)) (fun v n' σ' hq => ?_)
                                    obtain ⟨hv1, e1, e2⟩ := hq
                                    rw [hv1, e1, e2]; clear e1 e2
                                    obtain ⟨σ37, hσ37⟩ : ∃ w, w = k_sA (d_kp σ) 69 (d_cm (σ.1 69) (σ.1 69 1382) gp kd x y z t) := ⟨_, rfl⟩
                                    rw [← hσ37]
                                    show j_at _ _ _ [(0, .ref 68), (1, j_i gp), (2, j_i kd), (3, j_i x), (4, j_i y), (5, j_i z), (6, j_i t)] [j_i (σ.1 69 1382)] _ _ _ _
                                    refine a_ireturn (pc := 133) (by decide +kernel) rfl ?_
                                    refine k_ret ?_
                                    have hr : (0 : Int) = q := by
                                      unfold mk_D at hP
                                      rcases hP with hP | hP | hP | hP | hP | hP | hP <;> omega
                                    exact Or.inr ⟨hr.symm, rfl, rfl, by rw [hσ37]; congr 2; first | (rw [if_pos (by omega)]; done) | (rw [if_neg (by omega)]; done) | (exfalso; omega)⟩
                                · refine a_bipush (pc := 108) (n := (-4)) (by decide +kernel) rfl ?_
                                  refine a_ireturn (pc := 110) (by decide +kernel) rfl ?_
                                  refine k_ret ?_
                                  have hr : ((-4) : Int) = q := by
                                    unfold mk_D at hP
                                    rcases hP with hP | hP | hP | hP | hP | hP | hP <;> omega
                                  exact Or.inl ⟨by omega, by rw [hr], rfl, rfl⟩
                              · refine a_bipush (pc := 96) (n := (-3)) (by decide +kernel) rfl ?_
                                refine a_ireturn (pc := 98) (by decide +kernel) rfl ?_
                                refine k_ret ?_
                                have hr : ((-3) : Int) = q := by
                                  unfold mk_D at hP
                                  rcases hP with hP | hP | hP | hP | hP | hP | hP <;> omega
                                exact Or.inl ⟨by omega, by rw [hr], rfl, rfl⟩
                          · exact absurd c76 (by decide)
                        · show j_at _ _ _ [(0, .ref 68), (1, j_i gp), (2, j_i kd), (3, j_i x), (4, j_i y), (5, j_i z), (6, j_i t)] [j_i 0] _ _ _ _
                          refine a_if_ne (pc := 76) (off := 6) (tgt := 82) (by decide +kernel) (by decide) (by omega) (fun c76 => ?_) (fun c76 => ?_)
                          · exact absurd c76 (by decide)
                          · refine a_bipush (pc := 79) (n := (-2)) (by decide +kernel) rfl ?_
                            refine a_ireturn (pc := 81) (by decide +kernel) rfl ?_
                            refine k_ret ?_
                            have hr : ((-2) : Int) = q := by
                              unfold mk_D at hP
                              rcases hP with hP | hP | hP | hP | hP | hP | hP <;> omega
                            exact Or.inl ⟨by omega, by rw [hr], rfl, rfl⟩
                  · show j_at _ _ _ [(0, .ref 68), (1, j_i gp), (2, j_i kd), (3, j_i x), (4, j_i y), (5, j_i z), (6, j_i t)] [j_i 0] _ _ _ _
                    refine a_if_eq (pc := 60) (off := 19) (tgt := 79) (by decide +kernel) (by decide) (by omega) (fun c60 => ?_) (fun c60 => ?_)
                    · refine a_bipush (pc := 79) (n := (-2)) (by decide +kernel) rfl ?_
                      refine a_ireturn (pc := 81) (by decide +kernel) rfl ?_
                      refine k_ret ?_
                      have hr : ((-2) : Int) = q := by
                        unfold mk_D at hP
                        rcases hP with hP | hP | hP | hP | hP | hP | hP <;> omega
                      exact Or.inl ⟨by omega, by rw [hr], rfl, rfl⟩
                    · exact absurd c60 (by decide)
                · refine a_aload_n (pc := 43) (i := 0) (by decide +kernel) rfl ?_
                  refine a_iload (pc := 44) (i := 5) (by decide +kernel) rfl ?_
                  refine b_callV (pc := 46) (c' := 0) (sl' := 0) [j_i z] [] ml_X12_202 (by decide +kernel) rfl rfl (sh_68 hn) rfl rfl (Nat.le_of_ble_eq_true rfl) (j_fitI rfl rfl) (s_disHead hn hg (by omega) (by omega)) (fun v n' σ' hq => ?_)
                  obtain ⟨x, rfl, e1, e2, hx⟩ := hq
                  rw [e1, e2]; clear e1 e2
                  rcases hx with ⟨rfl, p46⟩ | ⟨rfl, p46⟩
                  · show j_at _ _ _ [(0, .ref 68), (1, j_i gp), (2, j_i kd), (3, j_i x), (4, j_i y), (5, j_i z), (6, j_i t)] [j_i 1] _ _ _ _
                    have i46 := bi_y p46
                    have u46 := p46.1
                    have w46 := p46.2.1
                    refine a_if_ne (pc := 49) (off := 5) (tgt := 54) (by decide +kernel) (by decide) (by omega) (fun c49 => ?_) (fun c49 => ?_)
                    · have hH := bi_y (show (d_is σ x ∧ (y = -9 ∨ d_is σ y) ∧ (z = -9 ∨ d_is σ z)) from ⟨p14, by first | exact Or.inl (by assumption) | exact Or.inr (by assumption), by first | exact Or.inl (by assumption) | exact Or.inr (by assumption)⟩)
                      refine a_iload_n (pc := 54) (i := 2) (by decide +kernel) rfl ?_
                      refine a_iconst (pc := 55) (n := 0) (by decide +kernel) ?_
                      refine a_iconst (pc := 56) (n := 5) (by decide +kernel) ?_
                      refine b_callS (pc := 57) (c' := 0) (sl' := 0) [j_i kd, j_i 0, j_i 5] [] ml_X12_128 (by decide +kernel) rfl rfl (Nat.le_of_ble_eq_true rfl) (j_fitI rfl rfl) (s_dwithin (by omega) (by omega) (by omega)) (fun v n' σ' hq => ?_)
                      obtain ⟨x, rfl, e1, e2, hx⟩ := hq
                      rw [e1, e2]; clear e1 e2
                      rcases hx with ⟨rfl, p57⟩ | ⟨rfl, p57⟩
                      · show j_at _ _ _ [(0, .ref 68), (1, j_i gp), (2, j_i kd), (3, j_i x), (4, j_i y), (5, j_i z), (6, j_i t)] [j_i 1] _ _ _ _
                        refine a_if_eq (pc := 60) (off := 19) (tgt := 79) (by decide +kernel) (by decide) (by omega) (fun c60 => ?_) (fun c60 => ?_)
                        · exact absurd c60 (by decide)
                        · refine a_iload_n (pc := 63) (i := 2) (by decide +kernel) rfl ?_
                          refine a_iconst (pc := 64) (n := 4) (by decide +kernel) ?_
                          refine a_icmp_ne (pc := 65) (off := 17) (tgt := 82) (by decide +kernel) (by decide) (by omega) (by omega) (fun c65 => ?_) (fun c65 => ?_)
                          · refine a_iload (pc := 82) (i := 4) (by decide +kernel) rfl ?_
                            refine a_bipush (pc := 84) (n := (-9)) (by decide +kernel) rfl ?_
                            refine a_icmp_ne (pc := 86) (off := 13) (tgt := 99) (by decide +kernel) (by decide) (by omega) (by omega) (fun c86 => ?_) (fun c86 => ?_)
                            · refine a_aload_n (pc := 99) (i := 0) (by decide +kernel) rfl ?_
                              refine b_pureV (pc := 100) [] [] ml_X12_135 (by decide +kernel) rfl rfl (sh_68 hn) rfl rfl (Nat.le_of_ble_eq_true rfl) (j_fitI rfl rfl) (s_dmarksEver hn) ?_
                              have q38 := hg 1382
                              show j_at _ _ _ [(0, .ref 68), (1, j_i gp), (2, j_i kd), (3, j_i x), (4, j_i y), (5, j_i z), (6, j_i t)] [j_i (σ.1 69 1382)] _ _ _ _
                              refine a_bipush (pc := 103) (n := 50) (by decide +kernel) rfl ?_
                              refine a_icmp_ne (pc := 105) (off := 6) (tgt := 111) (by decide +kernel) (by decide) (by omega) (by omega) (fun c105 => ?_) (fun c105 => ?_)
                              · refine a_aload_n (pc := 111) (i := 0) (by decide +kernel) rfl ?_
                                refine a_iload_n (pc := 112) (i := 1) (by decide +kernel) rfl ?_
                                refine a_iload_n (pc := 113) (i := 2) (by decide +kernel) rfl ?_
                                refine a_iload_n (pc := 114) (i := 3) (by decide +kernel) rfl ?_
                                refine a_iload (pc := 115) (i := 4) (by decide +kernel) rfl ?_
                                refine a_iload (pc := 117) (i := 5) (by decide +kernel) rfl ?_
                                refine a_iload_n (pc := 119) (i := 2) (by decide +kernel) rfl ?_
                                refine a_iconst (pc := 120) (n := 4) (by decide +kernel) ?_
                                refine a_icmp_ne (pc := 121) (off := 8) (tgt := 129) (by decide +kernel) (by decide) (by omega) (by omega) (fun c121 => ?_) (fun c121 => ?_)
                                · refine a_iconst (pc := 129) (n := 0) (by decide +kernel) ?_
                                  refine b_callV (pc := 130) (c' := 0) (sl' := 0) [j_i gp, j_i kd, j_i x, j_i y, j_i z, j_i 0] [] ml_X12_263 (by decide +kernel) rfl rfl (sh_68 hn) rfl rfl (Nat.le_of_ble_eq_true rfl) (j_fitI rfl rfl) (s_dcomes hn hg ⟨hgW, hgE, hgM⟩ hf4 hm5 (by omega)) (fun v n' σ' hq => ?_)
                                  obtain ⟨hv1, e1, e2⟩ := hq
                                  rw [hv1, e1, e2]; clear e1 e2
                                  obtain ⟨σ39, hσ39⟩ : ∃ w, w = k_sA (d_kp σ) 69 (d_cm (σ.1 69) (σ.1 69 1382) gp kd x y z 0) := ⟨_, rfl⟩
                                  rw [← hσ39]
                                  show j_at _ _ _ [(0, .ref 68), (1, j_i gp), (2, j_i kd), (3, j_i x), (4, j_i y), (5, j_i z), (6, j_i t)] [j_i (σ.1 69 1382)] _ _ _ _
                                  refine a_ireturn (pc := 133) (by decide +kernel) rfl ?_
                                  refine k_ret ?_
                                  have hr : (0 : Int) = q := by
                                    unfold mk_D at hP
                                    rcases hP with hP | hP | hP | hP | hP | hP | hP <;> omega
                                  exact Or.inr ⟨hr.symm, rfl, rfl, by rw [hσ39]; congr 2; first | (rw [if_pos (by omega)]; done) | (rw [if_neg (by omega)]; done) | (exfalso; omega)⟩
                                · refine a_iload (pc := 124) (i := 6) (by decide +kernel) rfl ?_
                                  refine a_goto (pc := 126) (off := 4) (tgt := 130) (by decide +kernel) (by decide) ?_
                                  refine b_callV (pc := 130) (c' := 0) (sl' := 0) [j_i gp, j_i kd, j_i x, j_i y, j_i z, j_i t] [] ml_X12_263 (by decide +kernel) rfl rfl (sh_68 hn) rfl rfl (Nat.le_of_ble_eq_true rfl) (j_fitI rfl rfl) (s_dcomes hn hg ⟨hgW, hgE, hgM⟩ hf4 hm5 (by omega)) (fun v n' σ' hq => ?_)
                                  obtain ⟨hv1, e1, e2⟩ := hq
                                  rw [hv1, e1, e2]; clear e1 e2
                                  obtain ⟨σ40, hσ40⟩ : ∃ w, w = k_sA (d_kp σ) 69 (d_cm (σ.1 69) (σ.1 69 1382) gp kd x y z t) := ⟨_, rfl⟩
                                  rw [← hσ40]
                                  show j_at _ _ _ [(0, .ref 68), (1, j_i gp), (2, j_i kd), (3, j_i x), (4, j_i y), (5, j_i z), (6, j_i t)] [j_i (σ.1 69 1382)] _ _ _ _
                                  refine a_ireturn (pc := 133) (by decide +kernel) rfl ?_
                                  refine k_ret ?_
                                  have hr : (0 : Int) = q := by
                                    unfold mk_D at hP
                                    rcases hP with hP | hP | hP | hP | hP | hP | hP <;> omega
                                  exact Or.inr ⟨hr.symm, rfl, rfl, by rw [hσ40]; congr 2; first | (rw [if_pos (by omega)]; done) | (rw [if_neg (by omega)]; done) | (exfalso; omega)⟩
                              · refine a_bipush (pc := 108) (n := (-4)) (by decide +kernel) rfl ?_
                                refine a_ireturn (pc := 110) (by decide +kernel) rfl ?_
                                refine k_ret ?_
                                have hr : ((-4) : Int) = q := by
                                  unfold mk_D at hP
                                  rcases hP with hP | hP | hP | hP | hP | hP | hP <;> omega
                                exact Or.inl ⟨by omega, by rw [hr], rfl, rfl⟩
                            · refine a_iload (pc := 89) (i := 5) (by decide +kernel) rfl ?_
                              refine a_bipush (pc := 91) (n := (-9)) (by decide +kernel) rfl ?_
                              refine a_icmp_eq (pc := 93) (off := 6) (tgt := 99) (by decide +kernel) (by decide) (by omega) (by omega) (fun c93 => ?_) (fun c93 => ?_)
                              · refine a_aload_n (pc := 99) (i := 0) (by decide +kernel) rfl ?_
                                refine b_pureV (pc := 100) [] [] ml_X12_135 (by decide +kernel) rfl rfl (sh_68 hn) rfl rfl (Nat.le_of_ble_eq_true rfl) (j_fitI rfl rfl) (s_dmarksEver hn) ?_
                                have q41 := hg 1382
                                show j_at _ _ _ [(0, .ref 68), (1, j_i gp), (2, j_i kd), (3, j_i x), (4, j_i y), (5, j_i z), (6, j_i t)] [j_i (σ.1 69 1382)] _ _ _ _
                                refine a_bipush (pc := 103) (n := 50) (by decide +kernel) rfl ?_
                                refine a_icmp_ne (pc := 105) (off := 6) (tgt := 111) (by decide +kernel) (by decide) (by omega) (by omega) (fun c105 => ?_) (fun c105 => ?_)
                                · refine a_aload_n (pc := 111) (i := 0) (by decide +kernel) rfl ?_
                                  refine a_iload_n (pc := 112) (i := 1) (by decide +kernel) rfl ?_
                                  refine a_iload_n (pc := 113) (i := 2) (by decide +kernel) rfl ?_
                                  refine a_iload_n (pc := 114) (i := 3) (by decide +kernel) rfl ?_
                                  refine a_iload (pc := 115) (i := 4) (by decide +kernel) rfl ?_
                                  refine a_iload (pc := 117) (i := 5) (by decide +kernel) rfl ?_
                                  refine a_iload_n (pc := 119) (i := 2) (by decide +kernel) rfl ?_
                                  refine a_iconst (pc := 120) (n := 4) (by decide +kernel) ?_
                                  refine a_icmp_ne (pc := 121) (off := 8) (tgt := 129) (by decide +kernel) (by decide) (by omega) (by omega) (fun c121 => ?_) (fun c121 => ?_)
                                  · refine a_iconst (pc := 129) (n := 0) (by decide +kernel) ?_
                                    refine b_callV (pc := 130) (c' := 0) (sl' := 0) [j_i gp, j_i kd, j_i x, j_i y, j_i z, j_i 0] [] ml_X12_263 (by decide +kernel) rfl rfl (sh_68 hn) rfl rfl (Nat.le_of_ble_eq_true rfl) (j_fitI rfl rfl) (s_dcomes hn hg ⟨hgW, hgE, hgM⟩ hf4 hm5 (by omega)) (fun v n' σ' hq => ?_)
                                    obtain ⟨hv1, e1, e2⟩ := hq
                                    rw [hv1, e1, e2]; clear e1 e2
                                    obtain ⟨σ42, hσ42⟩ : ∃ w, w = k_sA (d_kp σ) 69 (d_cm (σ.1 69) (σ.1 69 1382) gp kd x y z 0) := ⟨_, rfl⟩
                                    rw [← hσ42]
                                    show j_at _ _ _ [(0, .ref 68), (1, j_i gp), (2, j_i kd), (3, j_i x), (4, j_i y), (5, j_i z), (6, j_i t)] [j_i (σ.1 69 1382)] _ _ _ _
                                    refine a_ireturn (pc := 133) (by decide +kernel) rfl ?_
                                    refine k_ret ?_
                                    have hr : (0 : Int) = q := by
                                      unfold mk_D at hP
                                      rcases hP with hP | hP | hP | hP | hP | hP | hP <;> omega
                                    exact Or.inr ⟨hr.symm, rfl, rfl, by rw [hσ42]; congr 2; first | (rw [if_pos (by omega)]; done) | (rw [if_neg (by omega)]; done) | (exfalso; omega)⟩
                                  · refine a_iload (pc := 124) (i := 6) (by decide +kernel) rfl ?_
                                    refine a_goto (pc := 126) (off := 4) (tgt := 130) (by decide +kernel) (by decide) ?_
                                    refine b_callV (pc := 130) (c' := 0) (sl' := 0) [j_i gp, j_i kd, j_i x, j_i y, j_i z, j_i t] [] ml_X12_263 (by decide +kernel) rfl rfl (sh_68 hn) rfl rfl (Nat.le_of_ble_eq_true rfl) (j_fitI rfl rfl) (s_dcomes hn hg ⟨hgW, hgE, hgM⟩ hf4 hm5 (by omega)) (fun v n' σ' hq => ?_)
                                    obtain ⟨hv1, e1, e2⟩ := hq
                                    rw [hv1, e1, e2]; clear e1 e2
                                    obtain ⟨σ43, hσ43⟩ : ∃ w, w = k_sA (d_kp σ) 69 (d_cm (σ.1 69) (σ.1 69 1382) gp kd x y z t) := ⟨_, rfl⟩
                                    rw [← hσ43]
                                    show j_at _ _ _ [(0, .ref 68), (1, j_i gp), (2, j_i kd), (3, j_i x), (4, j_i y), (5, j_i z), (6, j_i t)] [j_i (σ.1 69 1382)] _ _ _ _
                                    refine a_ireturn (pc := 133) (by decide +kernel) rfl ?_
                                    refine k_ret ?_
                                    have hr : (0 : Int) = q := by
                                      unfold mk_D at hP
                                      rcases hP with hP | hP | hP | hP | hP | hP | hP <;> omega
                                    exact Or.inr ⟨hr.symm, rfl, rfl, by rw [hσ43]; congr 2; first | (rw [if_pos (by omega)]; done) | (rw [if_neg (by omega)]; done) | (exfalso; omega)⟩
                                · refine a_bipush (pc := 108) (n := (-4)) (by decide +kernel) rfl ?_
                                  refine a_ireturn (pc := 110) (by decide +kernel) rfl ?_
                                  refine k_ret ?_
                                  have hr : ((-4) : Int) = q := by
                                    unfold mk_D at hP
                                    rcases hP with hP | hP | hP | hP | hP | hP | hP <;> omega
                                  exact Or.inl ⟨by omega, by rw [hr], rfl, rfl⟩
                              · refine a_bipush (pc := 96) (n := (-3)) (by decide +kernel) rfl ?_
                                refine a_ireturn (pc := 98) (by decide +kernel) rfl ?_
                                refine k_ret ?_
                                have hr : ((-3) : Int) = q := by
                                  unfold mk_D at hP
                                  rcases hP with hP | hP | hP | hP | hP | hP | hP <;> omega
                                exact Or.inl ⟨by omega, by rw [hr], rfl, rfl⟩
                          · refine a_iload (pc := 68) (i := 6) (by decide +kernel) rfl ?_
                            refine a_iconst (pc := 70) (n := 1) (by decide +kernel) ?_
                            refine a_bipush (pc := 71) (n := 99) (by decide +kernel) rfl ?_
                            refine b_callS (pc := 73) (c' := 0) (sl' := 0) [j_i t, j_i 1, j_i 99] [] ml_X12_128 (by decide +kernel) rfl rfl (Nat.le_of_ble_eq_true rfl) (j_fitI rfl rfl) (s_dwithin (by omega) (by omega) (by omega)) (fun v n' σ' hq => ?_)
                            obtain ⟨x, rfl, e1, e2, hx⟩ := hq
                            rw [e1, e2]; clear e1 e2
                            rcases hx with ⟨rfl, p73⟩ | ⟨rfl, p73⟩
                            · show j_at _ _ _ [(0, .ref 68), (1, j_i gp), (2, j_i kd), (3, j_i x), (4, j_i y), (5, j_i z), (6, j_i t)] [j_i 1] _ _ _ _
                              refine a_if_ne (pc := 76) (off := 6) (tgt := 82) (by decide +kernel) (by decide) (by omega) (fun c76 => ?_) (fun c76 => ?_)
                              · refine a_iload (pc := 82) (i := 4) (by decide +kernel) rfl ?_
                                refine a_bipush (pc := 84) (n := (-9)) (by decide +kernel) rfl ?_
                                refine a_icmp_ne (pc := 86) (off := 13) (tgt := 99) (by decide +kernel) (by decide) (by omega) (by omega) (fun c86 => ?_) (fun c86 => ?_)
                                · refine a_aload_n (pc := 99) (i := 0) (by decide +kernel) rfl ?_
                                  refine b_pureV (pc := 100) [] [] ml_X12_135 (by decide +kernel) rfl rfl (sh_68 hn) rfl rfl (Nat.le_of_ble_eq_true rfl) (j_fitI rfl rfl) (s_dmarksEver hn) ?_
                                  have q44 := hg 1382
                                  show j_at _ _ _ [(0, .ref 68), (1, j_i gp), (2, j_i kd), (3, j_i x), (4, j_i y), (5, j_i z), (6, j_i t)] [j_i (σ.1 69 1382)] _ _ _ _
                                  refine a_bipush (pc := 103) (n := 50) (by decide +kernel) rfl ?_
                                  refine a_icmp_ne (pc := 105) (off := 6) (tgt := 111) (by decide +kernel) (by decide) (by omega) (by omega) (fun c105 => ?_) (fun c105 => ?_)
                                  · refine a_aload_n (pc := 111) (i := 0) (by decide +kernel) rfl ?_
                                    refine a_iload_n (pc := 112) (i := 1) (by decide +kernel) rfl ?_
                                    refine a_iload_n (pc := 113) (i := 2) (by decide +kernel) rfl ?_
                                    refine a_iload_n (pc := 114) (i := 3) (by decide +kernel) rfl ?_
                                    refine a_iload (pc := 115) (i := 4) (by decide +kernel) rfl ?_
                                    refine a_iload (pc := 117) (i := 5) (by decide +kernel) rfl ?_
                                    refine a_iload_n (pc := 119) (i := 2) (by decide +kernel) rfl ?_
                                    refine a_iconst (pc := 120) (n := 4) (by decide +kernel) ?_
                                    refine a_icmp_ne (pc := 121) (off := 8) (tgt := 129) (by decide +kernel) (by decide) (by omega) (by omega) (fun c121 => ?_) (fun c121 => ?_)
                                    · refine a_iconst (pc := 129) (n := 0) (by decide +kernel) ?_
                                      refine b_callV (pc := 130) (c' := 0) (sl' := 0) [j_i gp, j_i kd, j_i x, j_i y, j_i z, j_i 0] [] ml_X12_263 (by decide +kernel) rfl rfl (sh_68 hn) rfl rfl (Nat.le_of_ble_eq_true rfl) (j_fitI rfl rfl) (s_dcomes hn hg ⟨hgW, hgE, hgM⟩ hf4 hm5 (by omega)) (fun v n' σ' hq => ?_)
                                      obtain ⟨hv1, e1, e2⟩ := hq
                                      rw [hv1, e1, e2]; clear e1 e2
                                      obtain ⟨σ45, hσ45⟩ : ∃ w, w = k_sA (d_kp σ) 69 (d_cm (σ.1 69) (σ.1 69 1382) gp kd x y z 0) := ⟨_, rfl⟩
                                      rw [← hσ45]
                                      show j_at _ _ _ [(0, .ref 68), (1, j_i gp), (2, j_i kd), (3, j_i x), (4, j_i y), (5, j_i z), (6, j_i t)] [j_i (σ.1 69 1382)] _ _ _ _
                                      refine a_ireturn (pc := 133) (by decide +kernel) rfl ?_
                                      refine k_ret ?_
                                      have hr : (0 : Int) = q := by
                                        unfold mk_D at hP
                                        rcases hP with hP | hP | hP | hP | hP | hP | hP <;> omega
                                      exact Or.inr ⟨hr.symm, rfl, rfl, by rw [hσ45]; congr 2; first | (rw [if_pos (by omega)]; done) | (rw [if_neg (by omega)]; done) | (exfalso; omega)⟩
                                    · refine a_iload (pc := 124) (i := 6) (by decide +kernel) rfl ?_
                                      refine a_goto (pc := 126) (off := 4) (tgt := 130) (by decide +kernel) (by decide) ?_
                                      refine b_callV (pc := 130) (c' := 0) (sl' := 0) [j_i gp, j_i kd, j_i x, j_i y, j_i z, j_i t] [] ml_X12_263 (by decide +kernel) rfl rfl (sh_68 hn) rfl rfl (Nat.le_of_ble_eq_true rfl) (j_fitI rfl rfl) (s_dcomes hn hg ⟨hgW, hgE, hgM⟩ hf4 hm5 (by omega)) (fun v n' σ' hq => ?_)
                                      obtain ⟨hv1, e1, e2⟩ := hq
                                      rw [hv1, e1, e2]; clear e1 e2
                                      obtain ⟨σ46, hσ46⟩ : ∃ w, w = k_sA (d_kp σ) 69 (d_cm (σ.1 69) (σ.1 69 1382) gp kd x y z t) := ⟨_, rfl⟩
                                      rw [← hσ46]
                                      show j_at _ _ _ [(0, .ref 68), (1, j_i gp), (2, j_i kd), (3, j_i x), (4, j_i y), (5, j_i z), (6, j_i t)] [j_i (σ.1 69 1382)] _ _ _ _
                                      refine a_ireturn (pc := 133) (by decide +kernel) rfl ?_
                                      refine k_ret ?_
                                      have hr : (0 : Int) = q := by
                                        unfold mk_D at hP
                                        rcases hP with hP | hP | hP | hP | hP | hP | hP <;> omega
                                      exact Or.inr ⟨hr.symm, rfl, rfl, by rw [hσ46]; congr 2; first | (rw [if_pos (by omega)]; done) | (rw [if_neg (by omega)]; done) | (exfalso; omega)⟩
                                  · refine a_bipush (pc := 108) (n := (-4)) (by decide +kernel) rfl ?_
                                    refine a_ireturn (pc := 110) (by decide +kernel) rfl ?_
                                    refine k_ret ?_
                                    have hr : ((-4) : Int) = q := by
                                      unfold mk_D at hP
                                      rcases hP with hP | hP | hP | hP | hP | hP | hP <;> omega
                                    exact Or.inl ⟨by omega, by rw [hr], rfl, rfl⟩
                                · refine a_iload (pc := 89) (i := 5) (by decide +kernel) rfl ?_
                                  refine a_bipush (pc := 91) (n := (-9)) (by decide +kernel) rfl ?_
                                  refine a_icmp_eq (pc := 93) (off := 6) (tgt := 99) (by decide +kernel) (by decide) (by omega) (by omega) (fun c93 => ?_) (fun c93 => ?_)
                                  · refine a_aload_n (pc := 99) (i := 0) (by decide +kernel) rfl ?_
                                    refine b_pureV (pc := 100) [] [] ml_X12_135 (by decide +kernel) rfl rfl (sh_68 hn) rfl rfl (Nat.le_of_ble_eq_true rfl) (j_fitI rfl rfl) (s_dmarksEver hn) ?_
                                    have q47 := hg 1382
                                    show j_at _ _ _ [(0, .ref 68), (1, j_i gp), (2, j_i kd), (3, j_i x), (4, j_i y), (5, j_i z), (6, j_i t)] [j_i (σ.1 69 1382)] _ _ _ _
                                    refine a_bipush (pc := 103) (n := 50) (by decide +kernel) rfl ?_
                                    refine a_icmp_ne (pc := 105) (off := 6) (tgt := 111) (by decide +kernel) (by decide) (by omega) (by omega) (fun c105 => ?_) (fun c105 => ?_)
                                    · refine a_aload_n (pc := 111) (i := 0) (by decide +kernel) rfl ?_
                                      refine a_iload_n (pc := 112) (i := 1) (by decide +kernel) rfl ?_
                                      refine a_iload_n (pc := 113) (i := 2) (by decide +kernel) rfl ?_
                                      refine a_iload_n (pc := 114) (i := 3) (by decide +kernel) rfl ?_
                                      refine a_iload (pc := 115) (i := 4) (by decide +kernel) rfl ?_
                                      refine a_iload (pc := 117) (i := 5) (by decide +kernel) rfl ?_
                                      refine a_iload_n (pc := 119) (i := 2) (by decide +kernel) rfl ?_
                                      refine a_iconst (pc := 120) (n := 4) (by decide +kernel) ?_
                                      refine a_icmp_ne (pc := 121) (off := 8) (tgt := 129) (by decide +kernel) (by decide) (by omega) (by omega) (fun c121 => ?_) (fun c121 => ?_)
                                      · refine a_iconst (pc := 129) (n := 0) (by decide +kernel) ?_
                                        refine b_callV (pc := 130) (c' := 0) (sl' := 0) [j_i gp, j_i kd, j_i x, j_i y, j_i z, j_i 0] [] ml_X12_263 (by decide +kernel) rfl rfl (sh_68 hn) rfl rfl (Nat.le_of_ble_eq_true rfl) (j_fitI rfl rfl) (s_dcomes hn hg ⟨hgW, hgE, hgM⟩ hf4 hm5 (by omega)) (fun v n' σ' hq => ?_)
                                        obtain ⟨hv1, e1, e2⟩ := hq
                                        rw [hv1, e1, e2]; clear e1 e2
                                        obtain ⟨σ48, hσ48⟩ : ∃ w, w = k_sA (d_kp σ) 69 (d_cm (σ.1 69) (σ.1 69 1382) gp kd x y z 0) := ⟨_, rfl⟩
                                        rw [← hσ48]
                                        show j_at _ _ _ [(0, .ref 68), (1, j_i gp), (2, j_i kd), (3, j_i x), (4, j_i y), (5, j_i z), (6, j_i t)] [j_i (σ.1 69 1382)] _ _ _ _
                                        refine a_ireturn (pc := 133) (by decide +kernel) rfl ?_
                                        refine k_ret ?_
                                        have hr : (0 : Int) = q := by
                                          unfold mk_D at hP
                                          rcases hP with hP | hP | hP | hP | hP | hP | hP <;> omega
                                        exact Or.inr ⟨hr.symm, rfl, rfl, by rw [hσ48]; congr 2; first | (rw [if_pos (by omega)]; done) | (rw [if_neg (by omega)]; done) | (exfalso; omega)⟩
                                      · refine a_iload (pc := 124) (i := 6) (by decide +kernel) rfl ?_
                                        refine a_goto (pc := 126) (off := 4) (tgt := 130) (by decide +kernel) (by decide) ?_
                                        refine b_callV (pc := 130) (c' := 0) (sl' := 0) [j_i gp, j_i kd, j_i x, j_i y, j_i z, j_i t] [] ml_X12_263 (by decide +kernel) rfl rfl (sh_68 hn) rfl rfl (Nat.le_of_ble_eq_true rfl) (j_fitI rfl rfl) (s_dcomes hn hg ⟨hgW, hgE, hgM⟩ hf4 hm5 (by omega)) (fun v n' σ' hq => ?_)
                                        obtain ⟨hv1, e1, e2⟩ := hq
                                        rw [hv1, e1, e2]; clear e1 e2
                                        obtain ⟨σ49, hσ49⟩ : ∃ w, w = k_sA (d_kp σ) 69 (d_cm (σ.1 69) (σ.1 69 1382) gp kd x y z t) := ⟨_, rfl⟩
                                        rw [← hσ49]
                                        show j_at _ _ _ [(0, .ref 68), (1, j_i gp), (2, j_i kd), (3, j_i x), (4, j_i y), (5, j_i z), (6, j_i t)] [j_i (σ.1 69 1382)] _ _ _ _
                                        refine a_ireturn (pc := 133) (by decide +kernel) rfl ?_
                                        refine k_ret ?_
                                        have hr : (0 : Int) = q := by
                                          unfold mk_D at hP
                                          rcases hP with hP | hP | hP | hP | hP | hP | hP <;> omega
                                        exact Or.inr ⟨hr.symm, rfl, rfl, by rw [hσ49]; congr 2; first | (rw [if_pos (by omega)]; done) | (rw [if_neg (by omega)]; done) | (exfalso; omega)⟩
                                    · refine a_bipush (pc := 108) (n := (-4)) (by decide +kernel) rfl ?_
                                      refine a_ireturn (pc := 110) (by decide +kernel) rfl ?_
                                      refine k_ret ?_
                                      have hr : ((-4) : Int) = q := by
                                        unfold mk_D at hP
                                        rcases hP with hP | hP | hP | hP | hP | hP | hP <;> omega
                                      exact Or.inl ⟨by omega, by rw [hr], rfl, rfl⟩
                                  · refine a_bipush (pc := 96) (n := (-3)) (by decide +kernel) rfl ?_
                                    refine a_ireturn (pc := 98) (by decide +kernel) rfl ?_
                                    refine k_ret ?_
                                    have hr : ((-3) : Int) = q := by
                                      unfold mk_D at hP
                                      rcases hP with hP | hP | hP | hP | hP | hP | hP <;> omega
                                    exact Or.inl ⟨by omega, by rw [hr], rfl, rfl⟩
                              · exact absurd c76 (by decide)
                            · show j_at _ _ _ [(0, .ref 68), (1, j_i gp), (2, j_i kd), (3, j_i x), (4, j_i y), (5, j_i z), (6, j_i t)] [j_i 0] _ _ _ _
                              refine a_if_ne (pc := 76) (off := 6) (tgt := 82) (by decide +kernel) (by decide) (by omega) (fun c76 => ?_) (fun c76 => ?_)
                              · exact absurd c76 (by decide)
                              · refine a_bipush (pc := 79) (n := (-2)) (by decide +kernel) rfl ?_
                                refine a_ireturn (pc := 81) (by decide +kernel) rfl ?_
                                refine k_ret ?_
                                have hr : ((-2) : Int) = q := by
                                  unfold mk_D at hP
                                  rcases hP with hP | hP | hP | hP | hP | hP | hP <;> omega
                                exact Or.inl ⟨by omega, by rw [hr], rfl, rfl⟩
                      · show j_at _ _ _ [(0, .ref 68), (1, j_i gp), (2, j_i kd), (3, j_i x), (4, j_i y), (5, j_i z), (6, j_i t)] [j_i 0] _ _ _ _
                        refine a_if_eq (pc := 60) (off := 19) (tgt := 79) (by decide +kernel) (by decide) (by omega) (fun c60 => ?_) (fun c60 => ?_)
                        · refine a_bipush (pc := 79) (n := (-2)) (by decide +kernel) rfl ?_
                          refine a_ireturn (pc := 81) (by decide +kernel) rfl ?_
                          refine k_ret ?_
                          have hr : ((-2) : Int) = q := by
                            unfold mk_D at hP
                            rcases hP with hP | hP | hP | hP | hP | hP | hP <;> omega
                          exact Or.inl ⟨by omega, by rw [hr], rfl, rfl⟩
                        · exact absurd c60 (by decide)
                    · exact absurd c49 (by decide)
                  · show j_at _ _ _ [(0, .ref 68), (1, j_i gp), (2, j_i kd), (3, j_i x), (4, j_i y), (5, j_i z), (6, j_i t)] [j_i 0] _ _ _ _
                    have i46 := bi_n p46
                    refine a_if_ne (pc := 49) (off := 5) (tgt := 54) (by decide +kernel) (by decide) (by omega) (fun c49 => ?_) (fun c49 => ?_)
                    · exact absurd c49 (by decide)
                    · refine a_iconst (pc := 52) (n := (-1)) (by decide +kernel) ?_
                      refine a_ireturn (pc := 53) (by decide +kernel) rfl ?_
                      refine k_ret ?_
                      have hH : bi (d_is σ x ∧ (y = -9 ∨ d_is σ y) ∧ (z = -9 ∨ d_is σ z)) = 0 ∨ ¬ (0 ≤ gp ∧ gp ≤ σ.1 69 0) := by
                        first | exact Or.inr (by omega) | exact Or.inl (bi_n (by
                          rintro ⟨g1, g2, g3⟩
                          first | exact absurd g1 (by assumption) | (rcases g2 with g2 | g2; exact absurd g2 (by assumption); exact absurd g2 (by assumption)) | (rcases g3 with g3 | g3; exact absurd g3 (by assumption); exact absurd g3 (by assumption))))
                      have hr : ((-1) : Int) = q := by
                        unfold mk_D at hP
                        rcases hP with hP | hP | hP | hP | hP | hP | hP <;> omega
                      exact Or.inl ⟨by omega, by rw [hr], rfl, rfl⟩
            · show j_at _ _ _ [(0, .ref 68), (1, j_i gp), (2, j_i kd), (3, j_i x), (4, j_i y), (5, j_i z), (6, j_i t)] [j_i 0] _ _ _ _
              have i30 := bi_n p30
              refine a_if_eq (pc := 33) (off := 19) (tgt := 52) (by decide +kernel) (by decide) (by omega) (fun c33 => ?_) (fun c33 => ?_)
              · refine a_iconst (pc := 52) (n := (-1)) (by decide +kernel) ?_
                refine a_ireturn (pc := 53) (by decide +kernel) rfl ?_
                refine k_ret ?_
                have hH : bi (d_is σ x ∧ (y = -9 ∨ d_is σ y) ∧ (z = -9 ∨ d_is σ z)) = 0 ∨ ¬ (0 ≤ gp ∧ gp ≤ σ.1 69 0) := by
                  first | exact Or.inr (by omega) | exact Or.inl (bi_n (by
                    rintro ⟨g1, g2, g3⟩
                    first | exact absurd g1 (by assumption) | (rcases g2 with g2 | g2; exact absurd g2 (by assumption); exact absurd g2 (by assumption)) | (rcases g3 with g3 | g3; exact absurd g3 (by assumption); exact absurd g3 (by assumption))))
                have hr : ((-1) : Int) = q := by
                  unfold mk_D at hP
                  rcases hP with hP | hP | hP | hP | hP | hP | hP <;> omega
                exact Or.inl ⟨by omega, by rw [hr], rfl, rfl⟩
              · exact absurd c33 (by decide)
      · show j_at _ _ _ [(0, .ref 68), (1, j_i gp), (2, j_i kd), (3, j_i x), (4, j_i y), (5, j_i z), (6, j_i t)] [j_i 0] _ _ _ _
        have i14 := bi_n p14
        refine a_if_eq (pc := 17) (off := 35) (tgt := 52) (by decide +kernel) (by decide) (by omega) (fun c17 => ?_) (fun c17 => ?_)
        · refine a_iconst (pc := 52) (n := (-1)) (by decide +kernel) ?_
          refine a_ireturn (pc := 53) (by decide +kernel) rfl ?_
          refine k_ret ?_
          have hH : bi (d_is σ x ∧ (y = -9 ∨ d_is σ y) ∧ (z = -9 ∨ d_is σ z)) = 0 ∨ ¬ (0 ≤ gp ∧ gp ≤ σ.1 69 0) := by
            first | exact Or.inr (by omega) | exact Or.inl (bi_n (by
              rintro ⟨g1, g2, g3⟩
              first | exact absurd g1 (by assumption) | (rcases g2 with g2 | g2; exact absurd g2 (by assumption); exact absurd g2 (by assumption)) | (rcases g3 with g3 | g3; exact absurd g3 (by assumption); exact absurd g3 (by assumption))))
          have hr : ((-1) : Int) = q := by
            unfold mk_D at hP
            rcases hP with hP | hP | hP | hP | hP | hP | hP <;> omega
          exact Or.inl ⟨by omega, by rw [hr], rfl, rfl⟩
        · exact absurd c17 (by decide)
  · show j_at _ _ _ [(0, .ref 68), (1, j_i gp), (2, j_i kd), (3, j_i x), (4, j_i y), (5, j_i z), (6, j_i t)] [j_i 0] _ _ _ _
    refine a_if_eq (pc := 9) (off := 43) (tgt := 52) (by decide +kernel) (by decide) (by omega) (fun c9 => ?_) (fun c9 => ?_)
    · refine a_iconst (pc := 52) (n := (-1)) (by decide +kernel) ?_
      refine a_ireturn (pc := 53) (by decide +kernel) rfl ?_
      refine k_ret ?_
      have hH : bi (d_is σ x ∧ (y = -9 ∨ d_is σ y) ∧ (z = -9 ∨ d_is σ z)) = 0 ∨ ¬ (0 ≤ gp ∧ gp ≤ σ.1 69 0) := by
        first | exact Or.inr (by omega) | exact Or.inl (bi_n (by
          rintro ⟨g1, g2, g3⟩
          first | exact absurd g1 (by assumption) | (rcases g2 with g2 | g2; exact absurd g2 (by assumption); exact absurd g2 (by assumption)) | (rcases g3 with g3 | g3; exact absurd g3 (by assumption); exact absurd g3 (by assumption))))
      have hr : ((-1) : Int) = q := by
        unfold mk_D at hP
        rcases hP with hP | hP | hP | hP | hP | hP | hP <;> omega
      exact Or.inl ⟨by omega, by rw [hr], rfl, rfl⟩
    · exact absurd c9 (by decide)
theorem mk_RD {n : Nat} {σ τ : k_St} (hR : RR n σ) (h69 : τ.1 69 = σ.1 69) {g k x y z t q : Int} (h : mk_R σ g k x y z t q) : mk_D τ g k x y z t q := by
  have hW0 : σ.2.1 6 1 = σ.1 69 0 := hR.1.2.1.1.1
  have hM0 : σ.2.1 16 5 = σ.1 69 1382 := hR.1.2.1.2.2.1
  have hi : ∀ h, d_is τ h ↔ h_is σ h := fun h => by rw [← RK_h hR h]; unfold d_is; rw [h69]
  have hbe : bi (d_is τ x ∧ (y = -9 ∨ d_is τ y) ∧ (z = -9 ∨ d_is τ z)) = bi (h_is σ x ∧ (y = -9 ∨ h_is σ y) ∧ (z = -9 ∨ h_is σ z)) := bi_c (by rw [hi, hi, hi])
  unfold mk_R at h
  unfold mk_D
  rw [h69, hbe, ← hW0, ← hM0]; exact h
theorem m_add_CM {σ : k_St} {g k p t : Int} : CM σ (m_add σ g k p t) := by
  unfold m_add
  exact ⟨fun c hc => by rw [k_I1, k_AN (by omega), k_AN (by omega), k_AN (by omega), k_AN (by omega), k_AN (by omega)], fun c j hc => by rw [k_IN (by omega)]; rfl, rfl⟩
theorem m_add_K {n n' : Nat} {σ σs : k_St} (hR : RR n σ) (hS : SV n σ n' σs) {p k a b c t : Int} (h50 : σ.2.1 16 5 < 50) (hp : 0 ≤ p ∧ p ≤ 300) (hpW : p ≤ σ.2.1 6 1) (hk : 0 ≤ k ∧ k ≤ 7) (ht : 0 ≤ t ∧ t ≤ 99) (ha : h_is σ a) (hb : b = -9 ∨ h_is σ b) (hc : c = -9 ∨ h_is σ c) (hbc : b = -9 → c = -9) (hle : 5 < k → b ≠ -9 ∧ c = -9 ∧ a ≠ b) : KN (m_add σs p k (f_path a b c) t) (d_cm (σ.1 69) (σ.1 69 1382) p k a b c t) := by
  obtain ⟨s1, s2, s3⟩ := SV_e hS
  have s5 : σs.2.1 16 5 = σ.2.1 16 5 := s2 16 5 (by omega) (by omega)
  refine KN_add hR.1 h50 hp hpW hk ht ha hb hc hbc hle (fun d d0 d1 => ?_) ?_ ?_ ?_ ?_ ?_ (fun d j d0 d1 hj => ?_) ?_
  · unfold m_add; rw [k_I1, k_AN (by omega), k_AN (by omega), k_AN (by omega), k_AN (by omega), k_AN (by omega)]; exact s1 d (by omega)
  · unfold m_add; rw [k_I1, k_AN (by omega), k_AN (by omega), k_AN (by omega), k_AA, s5, s1 17 (by omega)]
  · unfold m_add; rw [k_I1, k_AN (by omega), k_AN (by omega), k_AN (by omega), k_AN (by omega), k_AA, s5, s1 18 (by omega)]
  · unfold m_add; rw [k_I1, k_AN (by omega), k_AN (by omega), k_AA, s5, s1 19 (by omega)]
  · unfold m_add; rw [k_I1, k_AN (by omega), k_AA, s5, s1 20 (by omega)]
  · unfold m_add; rw [k_I1, k_AA, s5, s1 21 (by omega)]
  · unfold m_add; rw [k_IN hj]; exact s2 d j (by omega) (by omega)
  · unfold m_add; rw [k_II, s5]
theorem p_mark {G : j_G} {X : k_X} {n : Nat} {σ : k_St} (hR : RR n σ) {g k x y z t : Int} (h1 : -2147483648 ≤ g ∧ g ≤ 2147483647) (h2 : -2147483648 ≤ k ∧ k ≤ 2147483647) (h3 : -2147483648 ≤ x ∧ x ≤ 2147483647) (h4 : -2147483648 ≤ y ∧ y ≤ 2147483647) (h5 : -2147483648 ≤ z ∧ z ≤ 2147483647) (h6 : -2147483648 ≤ t ∧ t ≤ 2147483647) : pr_ok G X mX11_mark mX12_mark [j_i g, j_i k, j_i x, j_i y, j_i z, j_i t] n σ 16 1618 := by
  refine ⟨_, c_mark hR h1 h2 h3 h4 h5 h6, fun v n' σ' hq => ?_⟩
  obtain ⟨r, hv, ⟨q, q1, q2, rfl, rfl, rfl⟩ | ⟨q1, rfl, σs, hS, hσ⟩⟩ := hq
  · obtain ⟨a1, a2, a3, a4⟩ := RR_md hR
    refine ⟨RR_n hR, _, hv, k_runw (fun v2 n2 σ2 p => ?_) (d_mark (RR_n hR) a1 a2 a3 a4 h1 h2 h3 h4 h5 h6 (mk_RD hR rfl q1))⟩
    rcases p with ⟨g1, g2, g3, g4⟩ | ⟨g1, _⟩
    · subst g3; subst g4; exact ⟨g2, hR⟩
    · omega
  · have hM : CM σs σ' := by rw [hσ]; exact m_add_CM
    obtain ⟨a1, a2, a3, a4⟩ := CM_md hR hS hM
    obtain ⟨e1, e2⟩ := CM_e hS hM
    obtain ⟨s1, s2, s3⟩ := SV_e hS
    have hM0 : σ.2.1 16 5 = σ.1 69 1382 := hR.1.2.1.2.2.1
    refine ⟨s3, _, hv, k_runw (fun v2 n2 σ2 p => ?_) (d_mark s3 a1 a2 a3 a4 h1 h2 h3 h4 h5 h6 (mk_RD hR (e1 69 (by omega) (by omega)) q1))⟩
    rcases p with ⟨g1, _⟩ | ⟨g1, g2, g3, g4⟩
    · omega
    · subst g3
      rw [e1 69 (by omega) (by omega)] at g2 g4
      refine ⟨by rw [g2, hM0], ?_⟩
      rw [g4]
      refine mut_RR hR hS hM ?_
      rw [hσ]
      unfold mk_R at q1
      have hW := hR.1.1.1
      have hW' : 0 ≤ σ.2.1 6 1 ∧ σ.2.1 6 1 ≤ 300 := hW
      rcases q1 with q1 | q1 | q1 | q1 | q1 | q1 | q1
      · omega
      · omega
      · omega
      · omega
      · omega
      · omega
      · obtain ⟨u1, u2, u3, u4, u5, u6, _⟩ := q1
        have hH := bi_1.mp u2
        exact m_add_K hR hS u6 (by omega) u1.2 (by omega) (by split <;> omega) hH.1 hH.2.1 hH.2.2 (fun e => by by_cases w : z = -9; exact w; exact absurd ⟨e, w⟩ u5) (fun e => by omega)
