/-- the parts from x on have gone one place up -/
def pq_F (σ τ : k_St) (x : Int) : Prop := (∀ c, ¬ (74 ≤ c ∧ c ≤ 77) → τ.1 c = σ.1 c) ∧ (∀ c, 74 ≤ c → c ≤ 77 → τ.1 c = j_cpy (σ.1 c) (σ.1 c) x (x + 1) (σ.2.1 68 12 - x)) ∧ τ.2 = σ.2
theorem pq_1 {g : Int → Int} {x m : Int} (h : x ≤ m) : j_up (j_cpy g g x (x + 1) (m - x)) x (j_cpy g g x (x + 1) (m - x) (x - 1)) = j_cpy g g (x + -1) (x + -1 + 1) (m - (x + -1)) := by
  funext j
  have e : j_cpy g g x (x + 1) (m - x) (x - 1) = g (x - 1) := by unfold j_cpy; rw [if_neg (by omega)]
  rw [e]
  unfold j_up j_cpy
  by_cases q : j = x
  · rw [if_pos q, if_pos (by omega), show x + -1 + (j - (x + -1 + 1)) = x - 1 by omega]
  · rw [if_neg q]
    by_cases r : x + 1 ≤ j ∧ j < x + 1 + (m - x)
    · rw [if_pos r, if_pos (by omega), show x + (j - (x + 1)) = x + -1 + (j - (x + -1 + 1)) by omega]
    · rw [if_neg r, if_neg (by omega)]
theorem pq_s {σ τ s1 s2 s3 s4 : k_St} {x : Int} (hF : pq_F σ τ x) (hx : x ≤ σ.2.1 68 12) (h1 : s1 = k_sA τ 74 (j_up (τ.1 74) x (τ.1 74 (x - 1)))) (h2 : s2 = k_sA s1 75 (j_up (s1.1 75) x (τ.1 75 (x - 1)))) (h3 : s3 = k_sA s2 76 (j_up (s2.1 76) x (τ.1 76 (x - 1)))) (h4 : s4 = k_sA s3 77 (j_up (s3.1 77) x (τ.1 77 (x - 1)))) : pq_F σ s4 (x + -1) := by
  obtain ⟨a, b, c⟩ := hF
  refine ⟨fun q hq => by rw [h4, k_AN (by omega), h3, k_AN (by omega), h2, k_AN (by omega), h1, k_AN (by omega)]; exact a q hq, fun q q0 q1 => ?_, by rw [h4]; show s3.2 = _; rw [h3]; show s2.2 = _; rw [h2]; show s1.2 = _; rw [h1]; exact c⟩
  have e : q = 74 ∨ q = 75 ∨ q = 76 ∨ q = 77 := by omega
  have e' : s4.1 q = j_up (τ.1 q) x (τ.1 q (x - 1)) := by
    rcases e with rfl | rfl | rfl | rfl
    · rw [h4, k_AN (by omega), h3, k_AN (by omega), h2, k_AN (by omega), h1, k_AA]
    · rw [h4, k_AN (by omega), h3, k_AN (by omega), h2, k_AA, h1, k_AN (by omega)]
    · rw [h4, k_AN (by omega), h3, k_AA, h2, k_AN (by omega), h1, k_AN (by omega)]
    · rw [h4, k_AA, h3, k_AN (by omega), h2, k_AN (by omega), h1, k_AN (by omega)]
  rw [e', b q q0 q1]
  exact pq_1 hx
set_option maxHeartbeats 4000000 in
theorem l_dpart118 {G : j_G} {X : k_X} {n : Nat} {σ : k_St} (hn : 101 ≤ n) {g f y l k : Int} (hk : 0 ≤ k) (hm : σ.2.1 68 12 < 8) {Q : k_P} (kk : ∀ τ, pq_F σ τ k → ∀ x, j_at G mX12_part 195 [(0, .ref 68), (1, j_i g), (2, j_i f), (3, j_i y), (4, j_i l), (5, j_i k), (6, j_i x)] [] (k_h X n τ) 0 0 (k_Q X Q))  : ∀ (z : Nat) (x : Int) (τ : k_St), x - k < (z : Int) → k ≤ x → x ≤ σ.2.1 68 12 → pq_F σ τ x → j_at G mX12_part 118 [(0, .ref 68), (1, j_i g), (2, j_i f), (3, j_i y), (4, j_i l), (5, j_i k), (6, j_i x)] [] (k_h X n τ) 0 0 (k_Q X Q) := by
  intro z
  induction z with
  | zero => intro x τ h1 h2 h3; exact absurd h1 (by omega)
  | succ z ih =>
    intro x τ hz h0 hN hF
    refine a_iload (pc := 118) (i := 6) (by decide +kernel) rfl ?_
    refine a_iload (pc := 120) (i := 5) (by decide +kernel) rfl ?_
    refine a_icmp_le (pc := 122) (off := 73) (tgt := 195) (by decide +kernel) (by decide) (by omega) (by omega) (fun c122 => ?_) (fun c122 => ?_)
    · rw [show x = k by omega] at hF
      exact kk τ hF x
    · refine a_aload_n (pc := 125) (i := 0) (by decide +kernel) rfl ?_
      refine b_getR (pc := 126) (b := 74) fl_X12_30 (by decide +kernel) (sh_68 hn) rfl ?_
      refine a_iload (pc := 129) (i := 6) (by decide +kernel) rfl ?_
      refine a_aload_n (pc := 131) (i := 0) (by decide +kernel) rfl ?_
      refine b_getR (pc := 132) (b := 74) fl_X12_30 (by decide +kernel) (sh_68 hn) rfl ?_
      refine a_iload (pc := 135) (i := 6) (by decide +kernel) rfl ?_
      refine a_iconst (pc := 137) (n := 1) (by decide +kernel) ?_
      refine a_isub (pc := 138) (by decide +kernel) ?_
      refine b_iaload (pc := 139) (by decide +kernel) (sh_74 hn) (by omega) (by omega) (by omega) ?_
      refine b_iastore (pc := 140) (by decide +kernel) (sh_74 hn) (by omega) (by omega) (by omega) ?_
      obtain ⟨σ1, hσ1⟩ : ∃ z, z = k_sA τ 74 (j_up (τ.1 74) x (τ.1 74 (x - 1))) := ⟨_, rfl⟩
      rw [← hσ1]
      refine a_aload_n (pc := 141) (i := 0) (by decide +kernel) rfl ?_
      refine b_getR (pc := 142) (b := 75) fl_X12_33 (by decide +kernel) (sh_68 hn) rfl ?_
      refine a_iload (pc := 145) (i := 6) (by decide +kernel) rfl ?_
      refine a_aload_n (pc := 147) (i := 0) (by decide +kernel) rfl ?_
      refine b_getR (pc := 148) (b := 75) fl_X12_33 (by decide +kernel) (sh_68 hn) rfl ?_
      refine a_iload (pc := 151) (i := 6) (by decide +kernel) rfl ?_
      refine a_iconst (pc := 153) (n := 1) (by decide +kernel) ?_
      refine a_isub (pc := 154) (by decide +kernel) ?_
      refine b_iaload (pc := 155) (by decide +kernel) (sh_75 hn) (by omega) (by omega) (by omega) ?_
      rw [show σ1.1 75 = τ.1 75 by rw [hσ1]; exact k_AN (by omega)]
      refine b_iastore (pc := 156) (by decide +kernel) (sh_75 hn) (by omega) (by omega) (by omega) ?_
      obtain ⟨σ2, hσ2⟩ : ∃ z, z = k_sA σ1 75 (j_up (σ1.1 75) x (τ.1 75 (x - 1))) := ⟨_, rfl⟩
      rw [← hσ2]
      refine a_aload_n (pc := 157) (i := 0) (by decide +kernel) rfl ?_
      refine b_getR (pc := 158) (b := 76) fl_X12_36 (by decide +kernel) (sh_68 hn) rfl ?_
      refine a_iload (pc := 161) (i := 6) (by decide +kernel) rfl ?_
      refine a_aload_n (pc := 163) (i := 0) (by decide +kernel) rfl ?_
      refine b_getR (pc := 164) (b := 76) fl_X12_36 (by decide +kernel) (sh_68 hn) rfl ?_
      refine a_iload (pc := 167) (i := 6) (by decide +kernel) rfl ?_
      refine a_iconst (pc := 169) (n := 1) (by decide +kernel) ?_
      refine a_isub (pc := 170) (by decide +kernel) ?_
      refine b_iaload (pc := 171) (by decide +kernel) (sh_76 hn) (by omega) (by omega) (by omega) ?_
      rw [show σ2.1 76 = σ1.1 76 by rw [hσ2]; exact k_AN (by omega)]
      rw [show σ1.1 76 = τ.1 76 by rw [hσ1]; exact k_AN (by omega)]
      refine b_iastore (pc := 172) (by decide +kernel) (sh_76 hn) (by omega) (by omega) (by omega) ?_
      obtain ⟨σ3, hσ3⟩ : ∃ z, z = k_sA σ2 76 (j_up (σ2.1 76) x (τ.1 76 (x - 1))) := ⟨_, rfl⟩
      rw [← hσ3]
      refine a_aload_n (pc := 173) (i := 0) (by decide +kernel) rfl ?_
      refine b_getR (pc := 174) (b := 77) fl_X12_39 (by decide +kernel) (sh_68 hn) rfl ?_
      refine a_iload (pc := 177) (i := 6) (by decide +kernel) rfl ?_
      refine a_aload_n (pc := 179) (i := 0) (by decide +kernel) rfl ?_
      refine b_getR (pc := 180) (b := 77) fl_X12_39 (by decide +kernel) (sh_68 hn) rfl ?_
      refine a_iload (pc := 183) (i := 6) (by decide +kernel) rfl ?_
      refine a_iconst (pc := 185) (n := 1) (by decide +kernel) ?_
      refine a_isub (pc := 186) (by decide +kernel) ?_
      refine b_iaload (pc := 187) (by decide +kernel) (sh_77 hn) (by omega) (by omega) (by omega) ?_
      rw [show σ3.1 77 = σ2.1 77 by rw [hσ3]; exact k_AN (by omega)]
      rw [show σ2.1 77 = σ1.1 77 by rw [hσ2]; exact k_AN (by omega)]
      rw [show σ1.1 77 = τ.1 77 by rw [hσ1]; exact k_AN (by omega)]
      refine b_iastore (pc := 188) (by decide +kernel) (sh_77 hn) (by omega) (by omega) (by omega) ?_
      obtain ⟨σ4, hσ4⟩ : ∃ z, z = k_sA σ3 77 (j_up (σ3.1 77) x (τ.1 77 (x - 1))) := ⟨_, rfl⟩
      rw [← hσ4]
      refine a_iinc (pc := 189) (i := 6) (n := -1) (x := x) (lv' := [(0, .ref 68), (1, j_i g), (2, j_i f), (3, j_i y), (4, j_i l), (5, j_i k), (6, j_i (x + (-1)))]) (by decide +kernel) rfl (Nat.le_of_ble_eq_true rfl) rfl ?_
      refine a_goto (pc := 192) (off := -74) (tgt := 118) (by decide +kernel) (by decide) ?_
      exact ih (x + -1) σ4 (by omega) (by omega) (by omega) (pq_s hF (by omega) hσ1 hσ2 hσ3 hσ4)
