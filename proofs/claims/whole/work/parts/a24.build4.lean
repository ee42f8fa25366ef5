theorem i_led_u {σ : k_St} {a : Nat} : ∀ {m : Nat} {h r q : Int}, i_led σ a m h r → i_led σ a m h q → r = q
  | 0, h, r, q, x, y => by have x : r = 2 := x; have y : q = 2 := y; omega
  | m + 1, h, r, q, ⟨e, e1, e2⟩, ⟨f, f1, f2⟩ => by
    have hef := i_of_u e1 f1
    subst hef
    rcases e2 with ⟨a1, a2⟩ | ⟨a1, a2, a3⟩ | ⟨a1, a2, a3⟩ <;> rcases f2 with ⟨b1, b2⟩ | ⟨b1, b2, b3⟩ | ⟨b1, b2, b3⟩
    · omega
    · exact absurd a1 b1
    · exact absurd a1 b1
    · exact absurd b1 a1
    · omega
    · exact absurd a2 b2
    · exact absurd b1 a1
    · exact absurd b2 a2
    · exact i_led_u a3 b3
theorem i_body_cg {σ τ : k_St} {a : Nat} (h : ∀ c, c < 81 → τ.1 c = σ.1 c) (ha : a = 48 ∨ a = 58) (h0 : τ.2.1 a 0 = σ.2.1 a 0) (e : Int) : (i_body τ a e ↔ i_body σ a e) ∧ i_sn τ a e = i_sn σ a e ∧ i_ls τ a e = i_ls σ a e ∧ i_pn τ a e = i_pn σ a e := by
  unfold i_body i_sn i_pn i_ls i_ps
  rw [h (a + 1) (by omega), h (a + 2) (by omega), h (a + 3) (by omega), h0]
  exact ⟨Iff.rfl, rfl, rfl, rfl⟩
def lcf (σ τ : k_St) : Prop := (∀ c, c ≠ 87 → c ≠ 100 → τ.1 c = σ.1 c) ∧ τ.2 = σ.2 ∧ ∀ j, τ.1 87 (3 * j) = σ.1 87 (3 * j) ∧ τ.1 87 (3 * j + 1) = σ.1 87 (3 * j + 1)
theorem lcf_r {σ : k_St} : lcf σ σ := ⟨fun _ _ _ => rfl, rfl, fun _ => ⟨rfl, rfl⟩⟩
theorem lcf_m {σ τ : k_St} (h : lcf σ τ) : mfr σ τ := ⟨fun c q => h.1 c (by omega) (by omega), fun c j _ => by rw [h.2.1], by rw [h.2.1]⟩
theorem LH_cg {σ τ : k_St} {a : Nat} {pe : Int → Int} (ha : a = 48 ∨ a = 58) (h : lcf σ τ) (hL : LH σ a pe) : LH τ a pe := by
  obtain ⟨l1, l2, l3, l4, l5, l6⟩ := hL
  have b := i_body_cg (σ := σ) (τ := τ) (fun c hc => h.1 c (by omega) (by omega)) ha (by rw [h.2.1])
  have hm : ∀ e, hmr τ e ↔ hmr σ e := fun e => by unfold hmr; rw [h.1 82 (by omega) (by omega), h.1 81 (by omega) (by omega), h.2.1]
  unfold LH
  rw [h.2.1, h.1 (a + 1) (by omega) (by omega), h.1 (a + 5) (by omega) (by omega), h.1 85 (by omega) (by omega), h.1 82 (by omega) (by omega)]
  refine ⟨l1, l2, l3, fun e e0 e1 e2 => by rw [hm, (b e).1]; exact l4 e e0 e1 e2, fun e e0 e1 e2 e3 => ?_, l6⟩
  rw [(b e).1] at e3
  rw [(b e).2.1, (b e).2.2.1, (h.2.2 _).1]
  exact l5 e e0 e1 e2 e3
def LG (σ τ : k_St) (a : Nat) (m : Int) : Prop := lcf σ τ ∧ ∀ j, 0 ≤ j → j < m → τ.1 87 (3 * j + 2) = σ.1 (a + 5) (3 * j + 2)
theorem LG_s {σ τ τ1 τ2 : k_St} {a : Nat} {m r : Int} (h : LG σ τ a m) (g : f100 τ τ1) (e : τ2 = k_sA τ1 87 (j_up (τ1.1 87) (3 * m + 2) r)) (hr : r = σ.1 (a + 5) (3 * m + 2)) : LG σ τ2 a (m + 1) := by
  obtain ⟨h1, h2⟩ := h
  have f : τ2.1 87 = j_up (τ.1 87) (3 * m + 2) r := by rw [e, k_AA, g.1 87 (by omega)]
  refine ⟨⟨fun c q1 q2 => by rw [e, k_AN q1, g.1 c q2]; exact h1.1 c q1 q2, by rw [e]; exact g.2.trans h1.2.1, fun j => by rw [f, j_upN (by omega), j_upN (by omega)]; exact h1.2.2 j⟩, fun j j0 j1 => ?_⟩
  rw [f]
  by_cases c : j = m
  · rw [c, j_upS]; exact hr
  · rw [j_upN (by omega)]; exact h2 j j0 (by omega)
/-- the sees, before it is told where they lead -/
def EH (σ : k_St) (a : Nat) (pe : Int → Int) : Prop := (a = 48 ∨ a = 58) ∧ MB σ pe ∧ i_wf σ a ∧ LH σ a pe ∧ (∀ e, 0 ≤ e → e < σ.2.1 68 25 → σ.1 85 e = pst (σ.1 (a + 3)) e ∧ σ.1 84 e = σ.1 (a + 3) e - pst (σ.1 (a + 3)) e ∧ pst (σ.1 (a + 3)) e ≤ σ.1 (a + 3) e) ∧ σ.2.1 a 7 = pst (σ.1 (a + 3)) (σ.2.1 68 25) ∧ (∀ j, 0 ≤ j → j < σ.2.1 a 7 → σ.1 87 (3 * j) = σ.1 (a + 5) (3 * j) ∧ σ.1 87 (3 * j + 1) = σ.1 (a + 5) (3 * j + 1)) ∧ (∀ j, 0 ≤ j → j < σ.2.1 a 7 → i_led σ a (σ.2.1 a 0 + 1).toNat (σ.1 (a + 5) (j * 3)) (σ.1 (a + 5) (j * 3 + 2))) ∧ ∀ e, 0 ≤ e → e < σ.2.1 68 25 → σ.1 (a + 3) e ≤ σ.2.1 a 7
set_option maxHeartbeats 4000000 in
theorem l_bd251 {G : j_G} {X : k_X} {n : Nat} {σ : k_St} (hn : 101 ≤ n) {a : Nat} {pe : Int → Int} {od d c : Int} (hH : EH σ a pe) {e : Int} (e0 : 0 ≤ e ∧ e < σ.2.1 68 25) {Q : k_P} (kk : ∀ τ k, LG σ τ a (σ.1 (a + 3) e) → j_at G mX12_build 309 [(0, .ref 68), (1, j_i od), (2, j_i d), (3, j_i c), (4, j_i e), (5, j_i k)] [] (k_h X n τ) 0 0 (k_Q X Q))  : ∀ (z : Nat) (k : Int) (τ : k_St), σ.1 84 e - k < (z : Int) → 0 ≤ k → k ≤ σ.1 84 e → LG σ τ a (σ.1 85 e + k) → j_at G mX12_build 251 [(0, .ref 68), (1, j_i od), (2, j_i d), (3, j_i c), (4, j_i e), (5, j_i k)] [] (k_h X n τ) 0 0 (k_Q X Q) := by
  obtain ⟨ha, hB, hw, hL, hse, h7, h87, hled, hle7⟩ := id hH
  have hE1 := hB.2.2.2.1.1
  have hw7 := hw.2.2.1
  intro z
  induction z with
  | zero => intro k τ h1 h2 h3; exact absurd h1 (by omega)
  | succ z ih =>
    intro k τ hz k0 kN hI
    have se := hse e e0.1 e0.2
    have ge := hle7 e e0.1 e0.2
    have p3 := pst_in3 hw e
    refine a_iload (pc := 251) (i := 5) (by decide +kernel) rfl ?_
    refine a_aload_n (pc := 253) (i := 0) (by decide +kernel) rfl ?_
    refine b_getR (pc := 254) (b := 84) fl_X12_60 (by decide +kernel) (sh_68 hn) rfl ?_
    refine a_iload (pc := 257) (i := 4) (by decide +kernel) rfl ?_
    refine b_iaload (pc := 259) (by decide +kernel) (sh_84 hn) (by omega) (by omega) (by omega) ?_
    rw [show τ.1 84 = σ.1 84 from hI.1.1 84 (by omega) (by omega)]
    refine a_icmp_ge (pc := 260) (off := 49) (tgt := 309) (by decide +kernel) (by decide) (by omega) (by omega) (fun c260 => ?_) (fun c260 => ?_)
    · rw [show σ.1 85 e + k = σ.1 (a + 3) e by omega] at hI
      exact kk τ k hI
    · refine a_aload_n (pc := 263) (i := 0) (by decide +kernel) rfl ?_
      refine b_getR (pc := 264) (b := 87) fl_X12_69 (by decide +kernel) (sh_68 hn) rfl ?_
      refine a_iconst (pc := 267) (n := 3) (by decide +kernel) ?_
      refine a_aload_n (pc := 268) (i := 0) (by decide +kernel) rfl ?_
      refine b_getR (pc := 269) (b := 85) fl_X12_63 (by decide +kernel) (sh_68 hn) rfl ?_
      refine a_iload (pc := 272) (i := 4) (by decide +kernel) rfl ?_
      refine b_iaload (pc := 274) (by decide +kernel) (sh_85 hn) (by omega) (by omega) (by omega) ?_
      rw [show τ.1 85 = σ.1 85 from hI.1.1 85 (by omega) (by omega)]
      refine a_iload (pc := 275) (i := 5) (by decide +kernel) rfl ?_
      refine a_iadd (pc := 277) (by decide +kernel) ?_
      refine a_imul (pc := 278) (by decide +kernel) ?_
      refine a_iconst (pc := 279) (n := 2) (by decide +kernel) ?_
      refine a_iadd (pc := 280) (by decide +kernel) ?_
      refine a_aload_n (pc := 281) (i := 0) (by decide +kernel) rfl ?_
      refine a_aload_n (pc := 282) (i := 0) (by decide +kernel) rfl ?_
      refine b_getR (pc := 283) (b := 87) fl_X12_69 (by decide +kernel) (sh_68 hn) rfl ?_
      refine a_iconst (pc := 286) (n := 3) (by decide +kernel) ?_
      refine a_aload_n (pc := 287) (i := 0) (by decide +kernel) rfl ?_
      refine b_getR (pc := 288) (b := 85) fl_X12_63 (by decide +kernel) (sh_68 hn) rfl ?_
      refine a_iload (pc := 291) (i := 4) (by decide +kernel) rfl ?_
      refine b_iaload (pc := 293) (by decide +kernel) (sh_85 hn) (by omega) (by omega) (by omega) ?_
      rw [show τ.1 85 = σ.1 85 from hI.1.1 85 (by omega) (by omega)]
      refine a_iload (pc := 294) (i := 5) (by decide +kernel) rfl ?_
      refine a_iadd (pc := 296) (by decide +kernel) ?_
      refine a_imul (pc := 297) (by decide +kernel) ?_
      refine b_iaload (pc := 298) (by decide +kernel) (sh_87 hn) (by omega) (by omega) (by omega) ?_
      rw [show τ.1 87 (3 * ((σ.1 85 e) + k)) = σ.1 (a + 5) (3 * (σ.1 85 e + k)) from ((hI.1.2.2 _).1).trans (h87 _ (by omega) (by omega)).1]
      have r5 := (hw.2.2.2.2 (3 * (σ.1 85 e + k))).2.2.2.2.1
      refine b_callV (pc := 299) (c' := 0) (sl' := 0) [j_i (σ.1 (a + 5) (3 * (σ.1 85 e + k)))] [j_i ((3 * ((σ.1 85 e) + k)) + 2), .ref 87] ml_X12_380 (by decide +kernel) rfl rfl (sh_68 hn) rfl rfl (Nat.le_of_ble_eq_true rfl) (j_fitI rfl rfl) (e_ledTo hn (MB_m (lcf_m hI.1) hB) (LH_cg ha hI.1 hL) (by omega)) (fun v n' σ' hq => ?_)
      obtain ⟨rfl, g1, r, rfl, g2⟩ := hq
      obtain ⟨σ1, hσ1⟩ : ∃ z, z = σ' := ⟨_, rfl⟩
      rw [← hσ1] at g1 ⊢
      clear hσ1
      rw [hI.1.2.1, i_led_cg (hI.1.1 _ (by omega) (by omega)) (hI.1.1 _ (by omega) (by omega)) (hI.1.1 _ (by omega) (by omega)) (by rw [hI.1.2.1]) (fun j => by rw [hI.1.1 _ (by omega) (by omega)])] at g2
      show j_at _ _ _ [(0, .ref 68), (1, j_i od), (2, j_i d), (3, j_i c), (4, j_i e), (5, j_i k)] [j_i r, j_i ((3 * ((σ.1 85 e) + k)) + 2), .ref 87] _ _ _ _
      refine b_iastore (pc := 302) (by decide +kernel) (sh_87 hn) (by omega) (by omega) (by omega) ?_
      obtain ⟨σ2, hσ2⟩ : ∃ z, z = k_sA σ1 87 (j_up (σ1.1 87) ((3 * ((σ.1 85 e) + k)) + 2) r) := ⟨_, rfl⟩
      rw [← hσ2]
      refine a_iinc (pc := 303) (i := 5) (n := 1) (x := k) (lv' := [(0, .ref 68), (1, j_i od), (2, j_i d), (3, j_i c), (4, j_i e), (5, j_i (k + 1))]) (by decide +kernel) rfl (Nat.le_of_ble_eq_true rfl) rfl ?_
      refine a_goto (pc := 306) (off := -55) (tgt := 251) (by decide +kernel) (by decide) ?_
      have hr : r = σ.1 (a + 5) (3 * (σ.1 85 e + k) + 2) := by
        have z := hled (σ.1 85 e + k) (by omega) (by omega)
        rw [show (σ.1 85 e + k) * 3 = 3 * (σ.1 85 e + k) by omega, hL.1] at z
        exact i_led_u g2 z
      exact ih (k + 1) σ2 (by omega) (by omega) (by omega) (by have y := LG_s (m := (σ.1 85 e + k)) hI g1 hσ2 hr; rw [show (σ.1 85 e + k) + 1 = σ.1 85 e + (k + 1) by omega] at y; exact y)
set_option maxHeartbeats 4000000 in
theorem l_bd239 {G : j_G} {X : k_X} {n : Nat} {σ : k_St} (hn : 101 ≤ n) {a : Nat} {pe : Int → Int} {od d c : Int} (hH : EH σ a pe) {Q : k_P} (kk : ∀ τ e, LG σ τ a (pst (σ.1 (a + 3)) (σ.2.1 68 25)) → j_at G mX12_build 315 [(0, .ref 68), (1, j_i od), (2, j_i d), (3, j_i c), (4, j_i e)] [] (k_h X n τ) 0 0 (k_Q X Q))  : ∀ (z : Nat) (e : Int) (τ : k_St), 151 - e < (z : Int) → 0 ≤ e → e ≤ σ.2.1 68 25 → LG σ τ a (pst (σ.1 (a + 3)) e) → j_at G mX12_build 239 [(0, .ref 68), (1, j_i od), (2, j_i d), (3, j_i c), (4, j_i e)] [] (k_h X n τ) 0 0 (k_Q X Q) := by
  obtain ⟨ha, hB, hw, hL, hse, h7, h87, hled, hle7⟩ := id hH
  have hE1 := hB.2.2.2.1.1
  have hw7 := hw.2.2.1
  intro z
  induction z with
  | zero => intro e τ h1 h2 h3; exact absurd h1 (by omega)
  | succ z ih =>
    intro e τ hz e0 eN hI
    refine a_iload (pc := 239) (i := 4) (by decide +kernel) rfl ?_
    refine a_aload_n (pc := 241) (i := 0) (by decide +kernel) rfl ?_
    refine b_getI (pc := 242) fl_X12_281 (by decide +kernel) (sh_68 hn) rfl ?_
    rw [show τ.2.1 68 25 = σ.2.1 68 25 from (by rw [hI.1.2.1])]
    refine a_icmp_ge (pc := 245) (off := 70) (tgt := 315) (by decide +kernel) (by decide) (by omega) (by omega) (fun c245 => ?_) (fun c245 => ?_)
    · rw [show e = σ.2.1 68 25 by omega] at hI
      exact kk τ e hI
    · refine a_iconst (pc := 248) (n := 0) (by decide +kernel) ?_
      refine a_istore (pc := 249) (i := 5) (lv' := [(0, .ref 68), (1, j_i od), (2, j_i d), (3, j_i c), (4, j_i e), (5, j_i 0)]) (by decide +kernel) (Nat.le_of_ble_eq_true rfl) rfl ?_
      have se := hse e e0 (by omega)
      refine l_bd251 hn hH (by omega) (fun τ' k' hI' => ?_) (σ.1 84 e).toNat.succ 0 τ (by omega) (by omega) (by omega) (by rw [show σ.1 85 e + 0 = pst (σ.1 (a + 3)) e by omega]; exact hI)
      refine a_iinc (pc := 309) (i := 4) (n := 1) (x := e) (lv' := [(0, .ref 68), (1, j_i od), (2, j_i d), (3, j_i c), (4, j_i (e + 1)), (5, j_i k')]) (by decide +kernel) rfl (Nat.le_of_ble_eq_true rfl) rfl ?_
      refine a_goto (pc := 312) (off := -73) (tgt := 239) (by decide +kernel) (by decide) ?_
      exact a_sub (lv' := [(0, .ref 68), (1, j_i od), (2, j_i d), (3, j_i c), (4, j_i (e + 1))]) (fun q hq => by simp only [List.mem_cons, List.not_mem_nil, or_false] at hq ⊢; rcases hq with rfl | rfl | rfl | rfl | rfl <;> simp) (ih (e + 1) τ' (by omega) (by omega) (by omega) (by rw [pst_s e0]; exact hI'))
