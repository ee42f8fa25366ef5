theorem or_b1 {b : Int} (h : b = 0 ∨ b = 1) : Int32.ofInt b ||| Int32.ofInt 1 = Int32.ofInt 1 := by rcases h with h | h <;> subst h <;> decide
theorem or_b0 {b : Int} (h : b = 0 ∨ b = 1) : Int32.ofInt b ||| Int32.ofInt 0 = Int32.ofInt b := by rcases h with h | h <;> subst h <;> decide
def ml_lb (σ : k_St) (a b : Int) : Prop := ∃ m, (m_lead σ m ∧ (m_head σ m 0 = a ∧ m_head σ m 1 = b ∨ m_head σ m 0 = b ∧ m_head σ m 1 = a))
def ml_C (n : Nat) (σ : k_St) (a b r : Int) (n' : Nat) (σ' : k_St) : Prop := (¬ (h_is σ a ∧ h_is σ b) ∧ r = -1 ∧ n' = n ∧ σ' = σ) ∨ ((h_is σ a ∧ h_is σ b) ∧ (a = b ∨ ml_lb σ a b) ∧ r = -3 ∧ n' = n ∧ σ' = σ) ∨ ((h_is σ a ∧ h_is σ b) ∧ (a ≠ b ∧ ¬ ml_lb σ a b) ∧ ∃ σs τ, SV n σ n' σs ∧ τ = k_sA σs 15 (j_up (σs.1 15) a 1) ∧ r = f_count (m_rB τ a b) (τ.2.1 16 5).toNat ∧ σ' = k_sA τ 19 (f_map (m_rF τ a b) (τ.1 19) (τ.2.1 16 5)))
set_option maxHeartbeats 4000000 in
theorem c_meld {G : j_G} {X : k_X} {n : Nat} {σ : k_St} (hR : RR n σ) {a : Int} (ha : -2147483648 ≤ a ∧ a ≤ 2147483647) {b : Int} (hb : -2147483648 ≤ b ∧ b ≤ 2147483647)  : k_run G X mX11_meld [.ref 5, j_i a, j_i b] n σ 16 1618 (fun v n' σ' => ∃ r : Int, v = some (j_i r) ∧ ml_C n σ a b r n' σ') := by
  obtain ⟨hK, hAc, hNm, hPs, hPt, hSm, hIx⟩ := id hR
  have hn := RR_n hR
  have hk := hK.1
  have hwh : h_wf σ 8 := hk.2.1
  have hwm : m_wf σ 16 := hk.2.2
  have hW : 0 ≤ σ.2.1 6 1 ∧ σ.2.1 6 1 ≤ 300 := hk.1
  have hfl := hSm.1
  have hwh0 := hwh
  refine k_enter (by decide +kernel) (Nat.le_of_ble_eq_true rfl) ?_
  show j_at _ _ _ [(0, .ref 5), (1, j_i a), (2, j_i b)] [] _ _ _ _
  refine a_aload_n (pc := 0) (i := 0) (by decide +kernel) rfl ?_
  refine b_getR (pc := 1) (b := 8) fl_X11_20 (by decide +kernel) (sh_5 hn) rfl ?_
  refine a_iload_n (pc := 4) (i := 1) (by decide +kernel) rfl ?_
  refine b_callV (pc := 5) (c' := 0) (sl' := 0) [j_i a] [] ml_X11_180 (by decide +kernel) rfl rfl (sh_8 hn) rfl rfl (Nat.le_of_ble_eq_true rfl) (j_fitI rfl rfl) (s_hhas hn hwh (by omega)) (fun v n' σ' hq => ?_)
  obtain ⟨x, rfl, e1, e2, hx⟩ := hq
  rw [e1, e2]; clear e1 e2
  rcases hx with ⟨rfl, p5⟩ | ⟨rfl, p5⟩
  · show j_at _ _ _ [(0, .ref 5), (1, j_i a), (2, j_i b)] [j_i 1] _ _ _ _
    refine a_if_eq (pc := 8) (off := 14) (tgt := 22) (by decide +kernel) (by decide) (by omega) (fun c8 => ?_) (fun c8 => ?_)
    · exact absurd c8 (by decide)
    · refine a_aload_n (pc := 11) (i := 0) (by decide +kernel) rfl ?_
      refine b_getR (pc := 12) (b := 8) fl_X11_20 (by decide +kernel) (sh_5 hn) rfl ?_
      refine a_iload_n (pc := 15) (i := 2) (by decide +kernel) rfl ?_
      refine b_callV (pc := 16) (c' := 0) (sl' := 0) [j_i b] [] ml_X11_180 (by decide +kernel) rfl rfl (sh_8 hn) rfl rfl (Nat.le_of_ble_eq_true rfl) (j_fitI rfl rfl) (s_hhas hn hwh (by omega)) (fun v n' σ' hq => ?_)
      obtain ⟨x, rfl, e1, e2, hx⟩ := hq
      rw [e1, e2]; clear e1 e2
      rcases hx with ⟨rfl, p16⟩ | ⟨rfl, p16⟩
      · show j_at _ _ _ [(0, .ref 5), (1, j_i a), (2, j_i b)] [j_i 1] _ _ _ _
        refine a_if_ne (pc := 19) (off := 5) (tgt := 24) (by decide +kernel) (by decide) (by omega) (fun c19 => ?_) (fun c19 => ?_)
        · refine a_iload_n (pc := 24) (i := 1) (by decide +kernel) rfl ?_
          refine a_iload_n (pc := 25) (i := 2) (by decide +kernel) rfl ?_
          refine a_icmp_eq (pc := 26) (off := 15) (tgt := 41) (by decide +kernel) (by decide) (by omega) (by omega) (fun c26 => ?_) (fun c26 => ?_)
          · refine a_bipush (pc := 41) (n := (-3)) (by decide +kernel) rfl ?_
            refine a_ireturn (pc := 43) (by decide +kernel) rfl ?_
            refine k_ret ?_
            refine ⟨_, rfl, ?_⟩
            first | exact Or.inl ⟨fun g => p5 g.1, rfl, rfl, rfl⟩ | exact Or.inl ⟨fun g => p16 g.2, rfl, rfl, rfl⟩ | exact Or.inr (Or.inl ⟨⟨p5, p16⟩, Or.inl c26, rfl, rfl, rfl⟩) | exact Or.inr (Or.inl ⟨⟨p5, p16⟩, Or.inr p35, rfl, rfl, rfl⟩)
          · refine a_aload_n (pc := 29) (i := 0) (by decide +kernel) rfl ?_
            refine b_getR (pc := 30) (b := 16) fl_X11_25 (by decide +kernel) (sh_5 hn) rfl ?_
            refine a_iload_n (pc := 33) (i := 1) (by decide +kernel) rfl ?_
            refine a_iload_n (pc := 34) (i := 2) (by decide +kernel) rfl ?_
            refine b_callV (pc := 35) (c' := 0) (sl' := 0) [j_i a, j_i b] [] ml_X11_221 (by decide +kernel) rfl rfl (sh_16 hn) rfl rfl (Nat.le_of_ble_eq_true rfl) (j_fitI rfl rfl) (s_leadBetween hn hwm (by omega) (by omega)) (fun v n' σ' hq => ?_)
            obtain ⟨x, rfl, e1, e2, hx⟩ := hq
            rw [e1, e2]; clear e1 e2
            rcases hx with ⟨rfl, p35⟩ | ⟨rfl, p35⟩
            · show j_at _ _ _ [(0, .ref 5), (1, j_i a), (2, j_i b)] [j_i 1] _ _ _ _
              refine a_if_eq (pc := 38) (off := 6) (tgt := 44) (by decide +kernel) (by decide) (by omega) (fun c38 => ?_) (fun c38 => ?_)
              · exact absurd c38 (by decide)
              · refine a_bipush (pc := 41) (n := (-3)) (by decide +kernel) rfl ?_
                refine a_ireturn (pc := 43) (by decide +kernel) rfl ?_
                refine k_ret ?_
                refine ⟨_, rfl, ?_⟩
                first | exact Or.inl ⟨fun g => p5 g.1, rfl, rfl, rfl⟩ | exact Or.inl ⟨fun g => p16 g.2, rfl, rfl, rfl⟩ | exact Or.inr (Or.inl ⟨⟨p5, p16⟩, Or.inl c26, rfl, rfl, rfl⟩) | exact Or.inr (Or.inl ⟨⟨p5, p16⟩, Or.inr p35, rfl, rfl, rfl⟩)
            · show j_at _ _ _ [(0, .ref 5), (1, j_i a), (2, j_i b)] [j_i 0] _ _ _ _
              refine a_if_eq (pc := 38) (off := 6) (tgt := 44) (by decide +kernel) (by decide) (by omega) (fun c38 => ?_) (fun c38 => ?_)
              · refine a_aload_n (pc := 44) (i := 0) (by decide +kernel) rfl ?_
                refine b_getR (pc := 45) (b := 22) fl_X11_29 (by decide +kernel) (sh_5 hn) rfl ?_
                refine a_aload_n (pc := 48) (i := 0) (by decide +kernel) rfl ?_
                refine b_getR (pc := 49) (b := 6) fl_X11_12 (by decide +kernel) (sh_5 hn) rfl ?_
                refine b_callV (pc := 52) (c' := 16) (sl' := 1618) [.ref 6] [] ml_X11_98 (by decide +kernel) rfl rfl (sh_22 hn) rfl rfl (Nat.le_of_ble_eq_true rfl) (j_fitI rfl rfl) (s_save hk hAc) (fun v n' σ' hq => ?_)
                obtain ⟨σ1, hσ1⟩ : ∃ z, z = σ' := ⟨_, rfl⟩
                rw [← hσ1] at hq ⊢
                obtain ⟨rfl, hsv⟩ := hq
                clear hσ1
                obtain ⟨sv1, sv2, hn9⟩ := SV_e hsv
                have hn : 101 ≤ n' := hn9
                have hwm : m_wf σ1 16 := m_wf_congr (sv1 _ (by omega)) (sv1 _ (by omega)) (sv1 _ (by omega)) (sv1 _ (by omega)) (sv1 _ (by omega)) (sv2 _ _ (by omega) (by omega)) hwm
                have hwh : h_wf σ1 8 := h_wf_congr (sv1 _ (by omega)) (sv1 _ (by omega)) (sv1 _ (by omega)) (sv1 _ (by omega)) (sv1 _ (by omega)) (sv2 _ _ (by omega) (by omega)) hwh
                show j_at _ _ _ [(0, .ref 5), (1, j_i a), (2, j_i b)] [] _ _ _ _
                refine a_aload_n (pc := 55) (i := 0) (by decide +kernel) rfl ?_
                refine b_getR (pc := 56) (b := 8) fl_X11_20 (by decide +kernel) (sh_5 hn) rfl ?_
                refine a_iload_n (pc := 59) (i := 1) (by decide +kernel) rfl ?_
                refine b_callV (pc := 60) (c' := 0) (sl' := 0) [j_i a] [] ml_X11_227 (by decide +kernel) rfl rfl (sh_8 hn) rfl rfl (Nat.le_of_ble_eq_true rfl) (j_fitI rfl rfl) (s_hremove hn hwh (by unfold h_is; rw [sv1 15 (by omega), sv2 8 3 (by omega) (by omega)]; exact p5)) (fun v n' σ' hq => ?_)
                obtain ⟨rfl, e1, e2⟩ := hq
                rw [e1, e2]; clear e1 e2
                obtain ⟨σ2, hσ2⟩ : ∃ z, z = k_sA σ1 15 (j_up (σ1.1 15) a 1) := ⟨_, rfl⟩
                rw [← hσ2]
                have hwm : m_wf σ2 16 := by rw [hσ2]; exact m_wf_congr (k_AN (by omega)) (k_AN (by omega)) (k_AN (by omega)) (k_AN (by omega)) (k_AN (by omega)) rfl hwm
                have hb9 : f_hd b := by have := hwh0.1; have := p16.1; have := p16.2.1; exact Or.inr (by omega)
                show j_at _ _ _ [(0, .ref 5), (1, j_i a), (2, j_i b)] [] _ _ _ _
                refine a_aload_n (pc := 63) (i := 0) (by decide +kernel) rfl ?_
                refine b_getR (pc := 64) (b := 16) fl_X11_25 (by decide +kernel) (sh_5 hn) rfl ?_
                refine a_iload_n (pc := 67) (i := 1) (by decide +kernel) rfl ?_
                refine a_iload_n (pc := 68) (i := 2) (by decide +kernel) rfl ?_
                refine b_callV (pc := 69) (c' := 0) (sl' := 0) [j_i a, j_i b] [] ml_X11_230 (by decide +kernel) rfl rfl (sh_16 hn) rfl rfl (Nat.le_of_ble_eq_true rfl) (j_fitI rfl rfl) (s_replaceHead hn hwm (by omega) hb9) (fun v n' σ' hq => ?_)
                obtain ⟨hv1, e1, e2⟩ := hq
                rw [hv1, e1, e2]; clear e1 e2
                obtain ⟨σ3, hσ3⟩ : ∃ z, z = k_sA σ2 19 (f_map (m_rF σ2 a b) (σ2.1 19) (σ2.2.1 16 5)) := ⟨_, rfl⟩
                rw [← hσ3]
                show j_at _ _ _ [(0, .ref 5), (1, j_i a), (2, j_i b)] [j_i (f_count (m_rB σ2 a b) (σ2.2.1 16 5).toNat)] _ _ _ _
                refine a_ireturn (pc := 72) (by decide +kernel) rfl ?_
                refine k_ret ?_
                exact ⟨_, rfl, Or.inr (Or.inr ⟨⟨p5, p16⟩, ⟨c26, p35⟩, σ1, σ2, hsv, hσ2, rfl, hσ3⟩)⟩
              · exact absurd c38 (by decide)
        · exact absurd c19 (by decide)
      · show j_at _ _ _ [(0, .ref 5), (1, j_i a), (2, j_i b)] [j_i 0] _ _ _ _
        refine a_if_ne (pc := 19) (off := 5) (tgt := 24) (by decide +kernel) (by decide) (by omega) (fun c19 => ?_) (fun c19 => ?_)
        · exact absurd c19 (by decide)
        · refine a_iconst (pc := 22) (n := (-1)) (by decide +kernel) ?_
          refine a_ireturn (pc := 23) (by decide +kernel) rfl ?_
          refine k_ret ?_
          refine ⟨_, rfl, ?_⟩
          first | exact Or.inl ⟨fun g => p5 g.1, rfl, rfl, rfl⟩ | exact Or.inl ⟨fun g => p16 g.2, rfl, rfl, rfl⟩ | exact Or.inr (Or.inl ⟨⟨p5, p16⟩, Or.inl c26, rfl, rfl, rfl⟩) | exact Or.inr (Or.inl ⟨⟨p5, p16⟩, Or.inr p35, rfl, rfl, rfl⟩)
  · show j_at _ _ _ [(0, .ref 5), (1, j_i a), (2, j_i b)] [j_i 0] _ _ _ _
    refine a_if_eq (pc := 8) (off := 14) (tgt := 22) (by decide +kernel) (by decide) (by omega) (fun c8 => ?_) (fun c8 => ?_)
    · refine a_iconst (pc := 22) (n := (-1)) (by decide +kernel) ?_
      refine a_ireturn (pc := 23) (by decide +kernel) rfl ?_
      refine k_ret ?_
      refine ⟨_, rfl, ?_⟩
      first | exact Or.inl ⟨fun g => p5 g.1, rfl, rfl, rfl⟩ | exact Or.inl ⟨fun g => p16 g.2, rfl, rfl, rfl⟩ | exact Or.inr (Or.inl ⟨⟨p5, p16⟩, Or.inl c26, rfl, rfl, rfl⟩) | exact Or.inr (Or.inl ⟨⟨p5, p16⟩, Or.inr p35, rfl, rfl, rfl⟩)
    · exact absurd c8 (by decide)
def ml_w (g : Int → Int) (a b x : Int) : Prop := g (1383 + 7 * x) = 1 ∧ 6 ≤ g (1383 + 7 * x + 1) ∧ f_re a b (g (1383 + 7 * x + 3 + 0)) = f_re a b (g (1383 + 7 * x + 3 + 1))
def ml_N (a b : Int) (g : Int → Int) (t : Int) : Int → Int := fun j => if (0 ≤ j - 1383 ∧ 3 ≤ (j - 1383) % 7 ∧ (j - 1383) % 7 < 6) ∧ j < t ∧ g (1383 + 7 * ((j - 1383) / 7)) = 1 then f_re a b (g j) else g j
theorem ml_N_at {a b : Int} {g : Int → Int} {t j : Int} (h : t ≤ j) : ml_N a b g t j = g j := by unfold ml_N; rw [if_neg (by omega)]
theorem ml_N_o {a b : Int} {g : Int → Int} {t j : Int} (h : j < 1386 ∨ (j - 1383) % 7 < 3 ∨ 6 ≤ (j - 1383) % 7) : ml_N a b g t j = g j := by unfold ml_N; rw [if_neg (by omega)]
theorem ml_N_in {a b : Int} {g : Int → Int} {t x i : Int} (h0 : 0 ≤ x) (i0 : 0 ≤ i) (i1 : i < 3) (ht : 1383 + 7 * x + 3 + i < t) (hl : g (1383 + 7 * x) = 1) : ml_N a b g t (1383 + 7 * x + 3 + i) = f_re a b (g (1383 + 7 * x + 3 + i)) := by
  unfold ml_N; rw [if_pos ⟨by omega, ht, by rw [show (1383 + 7 * x + 3 + i - 1383) / 7 = x by omega]; exact hl⟩]
theorem ml_N_d {a b : Int} {g : Int → Int} {t x i : Int} (h0 : 0 ≤ x) (i0 : 0 ≤ i) (i1 : i < 3) (hl : g (1383 + 7 * x) ≠ 1) : ml_N a b g t (1383 + 7 * x + 3 + i) = g (1383 + 7 * x + 3 + i) := by
  unfold ml_N; rw [if_neg (fun q => hl (by have := q.2.2; rw [show (1383 + 7 * x + 3 + i - 1383) / 7 = x by omega] at this; exact this))]
theorem ml_N_0 {a b : Int} {g : Int → Int} : ml_N a b g 1383 = g := by funext j; unfold ml_N; rw [if_neg (by omega)]
/-- from t to t', where nothing changes between -/
theorem ml_N_c {a b : Int} {g : Int → Int} {t t' : Int} (ht : t ≤ t') (h : ∀ j, t ≤ j → j < t' → 0 ≤ j - 1383 → 3 ≤ (j - 1383) % 7 → (j - 1383) % 7 < 6 → g (1383 + 7 * ((j - 1383) / 7)) = 1 → g j ≠ a) : ml_N a b g t = ml_N a b g t' := by
  funext j
  unfold ml_N
  by_cases q : (0 ≤ j - 1383 ∧ 3 ≤ (j - 1383) % 7 ∧ (j - 1383) % 7 < 6) ∧ j < t' ∧ g (1383 + 7 * ((j - 1383) / 7)) = 1
  · by_cases r : j < t
    · rw [if_pos ⟨q.1, r, q.2.2⟩, if_pos q]
    · rw [if_neg (fun z => r z.2.1), if_pos q]
      unfold f_re; rw [if_neg (h j (by omega) q.2.1 q.1.1 q.1.2.1 q.1.2.2 q.2.2)]
  · rw [if_neg q, if_neg (fun z => q ⟨z.1, by omega, z.2.2⟩)]
theorem ml_N_w {a b : Int} {g : Int → Int} {k i : Int} (h0 : 0 ≤ k) (i0 : 0 ≤ i) (i1 : i < 3) (hl : g (1383 + 7 * k) = 1) (ha : g (1383 + 7 * k + 3 + i) = a) : j_up (ml_N a b g (1383 + 7 * k + 3 + i)) (1383 + 7 * k + 3 + i) b = ml_N a b g (1383 + 7 * k + 3 + (i + 1)) := by
  funext j
  by_cases q : j = 1383 + 7 * k + 3 + i
  · rw [q, j_upS, ml_N_in h0 i0 i1 (by omega) hl, ha]; unfold f_re; rw [if_pos rfl]
  · rw [j_upN q]
    unfold ml_N
    by_cases r : (0 ≤ j - 1383 ∧ 3 ≤ (j - 1383) % 7 ∧ (j - 1383) % 7 < 6) ∧ j < 1383 + 7 * k + 3 + i ∧ g (1383 + 7 * ((j - 1383) / 7)) = 1
    · rw [if_pos r, if_pos ⟨r.1, by omega, r.2.2⟩]
    · rw [if_neg r, if_neg (fun z => r ⟨z.1, by omega, z.2.2⟩)]
theorem ml_N_rg {a b : Int} {g : Int → Int} {t : Int} (hb : 0 ≤ b ∧ b ≤ 29) (hg : d_rg g) : d_rg (ml_N a b g t) := fun j => by
  unfold ml_N; split
  · unfold f_re; split
    · omega
    · exact hg j
  · exact hg j
def ml_B (a : Int) (g : Int → Int) : Int → Bool := fun m => decide (g (1383 + 7 * m) = 1 ∧ (g (1383 + 7 * m + 3 + 0) = a ∨ g (1383 + 7 * m + 3 + 1) = a ∨ g (1383 + 7 * m + 3 + 2) = a))
theorem ml_ex {g : Int → Int} {a c : Int} : (∃ y, 0 ≤ y ∧ y < 3 ∧ g (c + y) = a) ↔ (g (c + 0) = a ∨ g (c + 1) = a ∨ g (c + 2) = a) := by
  constructor
  · rintro ⟨y, y0, y1, h⟩
    have : y = 0 ∨ y = 1 ∨ y = 2 := by omega
    rcases this with e | e | e
    · rw [e] at h; exact Or.inl h
    · rw [e] at h; exact Or.inr (Or.inl h)
    · rw [e] at h; exact Or.inr (Or.inr h)
  · rintro (h | h | h)
    · exact ⟨0, by omega, by omega, h⟩
    · exact ⟨1, by omega, by omega, h⟩
    · exact ⟨2, by omega, by omega, h⟩
