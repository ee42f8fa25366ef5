theorem i_led_congr {σ τ : k_St} {a : Nat} (h1 : ∀ c, c ≠ a + 5 → τ.1 c = σ.1 c) (h2 : τ.2.1 a 0 = σ.2.1 a 0) (h3 : ∀ k : Int, τ.1 (a + 5) (k * 3) = σ.1 (a + 5) (k * 3)) : ∀ {m : Nat} {h r : Int}, i_led τ a m h r ↔ i_led σ a m h r
  | 0, _, _ => Iff.rfl
  | m + 1, h, r => by
    have e1 : ∀ p e, i_of τ a p e ↔ i_of σ a p e := fun p e => by unfold i_of; rw [h1 (a + 1) (by omega), h2]
    have e2 : ∀ e, i_ps τ a e = i_ps σ a e := fun e => by unfold i_ps; rw [h1 (a + 2) (by omega)]
    have e3 : ∀ e, i_ls τ a e = i_ls σ a e := fun e => by unfold i_ls; rw [h1 (a + 3) (by omega)]
    have e4 : ∀ e, i_pn τ a e = i_pn σ a e := fun e => by unfold i_pn; rw [h1 (a + 2) (by omega), h2, e2]
    have e5 : ∀ e, i_sn τ a e = i_sn σ a e := fun e => by unfold i_sn; rw [h1 (a + 3) (by omega), h2, e3]
    have e6 : ∀ e, i_body τ a e ↔ i_body σ a e := fun e => by unfold i_body; rw [e4, h2, h1 (a + 1) (by omega)]
    show (∃ e, i_of τ a _ e ∧ ((e = -9 ∧ r = 1) ∨ (e ≠ -9 ∧ i_body τ a e ∧ r = 0) ∨ (e ≠ -9 ∧ ¬ i_body τ a e ∧ i_led τ a m (if 0 < i_sn τ a e then τ.1 (a + 5) (i_ls τ a e * 3) else h) r))) ↔ (∃ e, i_of σ a _ e ∧ ((e = -9 ∧ r = 1) ∨ (e ≠ -9 ∧ i_body σ a e ∧ r = 0) ∨ (e ≠ -9 ∧ ¬ i_body σ a e ∧ i_led σ a m (if 0 < i_sn σ a e then σ.1 (a + 5) (i_ls σ a e * 3) else h) r)))
    refine exists_congr fun e => ?_
    rw [e1, e5, e3, h3, i_led_congr h1 h2 h3, e6]
def i_flI (σ : k_St) (a : Nat) (f : Int → Int) (k : Int) : Prop := (∀ j, 0 ≤ j → j < k → i_led σ a (σ.2.1 a 0 + 1).toNat (σ.1 (a + 5) (j * 3)) (f (j * 3 + 2))) ∧ ∀ j, f j = σ.1 (a + 5) j ∨ ((0 ≤ f j ∧ f j ≤ 2) ∧ ∃ i, 0 ≤ i ∧ i < k ∧ j = i * 3 + 2)
def i_flP (n : Nat) (σ : k_St) (a : Nat) : k_P := fun v n' τ => v = none ∧ n' = n ∧ ∃ f, i_flI σ a f (σ.2.1 a 7) ∧ τ = k_sA σ (a + 5) f
set_option maxHeartbeats 4000000 in
theorem l_follow {G : j_G} {X : k_X} {n : Nat} {σ : k_St} {a : Nat} (hA : i_at X n a) (hw : i_wf σ a)  : ∀ (m : Nat) (k : Int) (f : Int → Int), 50 - k < (m : Int) → 0 ≤ k → k ≤ σ.2.1 a 7 → i_flI σ a f k → j_at G mX3_follow 2 [(0, .ref a), (1, j_i k)] [] (k_h X n (k_sA σ (a + 5) f)) 0 0 (k_Q X (i_flP n σ a)) := by
  intro m
  induction m with
  | zero => intro k f h1 h2 h3; exact absurd h3 (by have := hw.2.2.1; omega)
  | succ m ih =>
    intro k f hm h0 hN hI
    obtain ⟨h5, hs0, hs1, hs2, hs3, hs4, hs5, hs6, hs7⟩ := id hA
    obtain ⟨hc, hpc, hlc, hlo, hv⟩ := id hw
    obtain ⟨τ, hτ⟩ : ∃ z, z = k_sA σ (a + 5) f := ⟨_, rfl⟩
    rw [← hτ]
    have e5 : τ.1 (a + 5) = f := by rw [hτ]; exact k_AA
    have e3 : ∀ q : Int, τ.1 (a + 5) (q * 3) = σ.1 (a + 5) (q * 3) := fun q => by
      rw [e5]; rcases hI.2 (q * 3) with h | ⟨_, i, _, _, h⟩
      · exact h
      · omega
    have hfr : ∀ j, 0 ≤ f j ∧ f j ≤ 29 := fun j => by
      rcases hI.2 j with h | ⟨h, _⟩
      · rw [h]; exact (hv j).2.2.2.2.1
      · omega
    have hwt : i_wf τ a := by
      refine ⟨by rw [hτ]; exact hc, by rw [hτ]; exact hpc, by rw [hτ]; exact hlc, by rw [hτ]; exact hlo, fun e => ?_⟩
      rw [e5, hτ, k_AN (by omega), k_AN (by omega), k_AN (by omega), k_AN (by omega), k_AN (by omega)]
      have := hv e; exact ⟨this.1, this.2.1, this.2.2.1, this.2.2.2.1, hfr e, this.2.2.2.2.2⟩
    have hv3 := hfr (k * 3)
    have e3k : τ.1 (a + 5) (k * 3) = f (k * 3) := by rw [e5]
    refine a_iload_n (pc := 2) (i := 1) (by decide +kernel) rfl ?_
    refine a_aload_n (pc := 3) (i := 0) (by decide +kernel) rfl ?_
    refine b_getI (pc := 4) fl_X3_34 (by decide +kernel) hs0 rfl ?_
    rw [show τ.2.1 a 7 = σ.2.1 a 7 by rw [hτ]; rfl]
    refine a_icmp_ge (pc := 7) (off := 31) (tgt := 38) (by decide +kernel) (by decide) (by omega) (by omega) (fun c7 => ?_) (fun c7 => ?_)
    · refine a_return (pc := 38) (by decide +kernel) rfl ?_
      refine k_ret ?_
      refine ⟨rfl, rfl, f, ?_, hτ⟩
      rw [← show k = σ.2.1 a 7 by omega]; exact hI
    · refine a_aload_n (pc := 10) (i := 0) (by decide +kernel) rfl ?_
      refine b_getR (pc := 11) (b := a + 5) fl_X3_31 (by decide +kernel) hs0 rfl ?_
      refine a_iload_n (pc := 14) (i := 1) (by decide +kernel) rfl ?_
      refine a_iconst (pc := 15) (n := 3) (by decide +kernel) ?_
      refine a_imul (pc := 16) (by decide +kernel) ?_
      refine a_iconst (pc := 17) (n := 2) (by decide +kernel) ?_
      refine a_iadd (pc := 18) (by decide +kernel) ?_
      refine a_aload_n (pc := 19) (i := 0) (by decide +kernel) rfl ?_
      refine a_aload_n (pc := 20) (i := 0) (by decide +kernel) rfl ?_
      refine b_getR (pc := 21) (b := a + 5) fl_X3_31 (by decide +kernel) hs0 rfl ?_
      refine a_iload_n (pc := 24) (i := 1) (by decide +kernel) rfl ?_
      refine a_iconst (pc := 25) (n := 3) (by decide +kernel) ?_
      refine a_imul (pc := 26) (by decide +kernel) ?_
      refine b_iaload (pc := 27) (by decide +kernel) hs5 (by omega) (by omega) (by omega) ?_
      refine b_callV (pc := 28) (c' := 0) (sl' := 0) [j_i (τ.1 (a + 5) (k * 3))] [j_i ((k * 3) + 2), .ref (a + 5)] ml_X3_99 (by decide +kernel) rfl rfl hs0 rfl rfl (Nat.le_of_ble_eq_true rfl) (j_fitI rfl rfl) (s_ledFrom hA hwt (by omega)) (fun v n' σ' hq => ?_)
      obtain ⟨r1, rfl, e1, e2, hr1⟩ := hq
      rw [e1, e2]; clear e1 e2
      rw [i_led_congr (σ := σ) (fun c hc => by rw [hτ]; exact k_AN hc) (by rw [hτ]; rfl) e3, show τ.2.1 a 0 = σ.2.1 a 0 by rw [hτ]; rfl, e3] at hr1
      have hrr1 := i_led_r hr1
      show j_at _ _ _ [(0, .ref a), (1, j_i k)] [j_i r1, j_i ((k * 3) + 2), .ref (a + 5)] _ _ _ _
      refine b_iastore (pc := 31) (by decide +kernel) hs5 (by omega) (by omega) (by omega) ?_
      obtain ⟨σ2, hσ2⟩ : ∃ z, z = k_sA τ (a + 5) (j_up (τ.1 (a + 5)) ((k * 3) + 2) r1) := ⟨_, rfl⟩
      rw [← hσ2]
      refine a_iinc (pc := 32) (i := 1) (n := 1) (x := k) (lv' := [(0, .ref a), (1, j_i (k + 1))]) (by decide +kernel) rfl (Nat.le_of_ble_eq_true rfl) rfl ?_
      refine a_goto (pc := 35) (off := -33) (tgt := 2) (by decide +kernel) (by decide) ?_
      rw [hσ2, e5, hτ, k_sA_sA]
      refine ih (k + 1) (j_up f (k * 3 + 2) r1) (by omega) (by omega) (by omega) ⟨fun j j0 j1 => ?_, fun j => ?_⟩
      · rcases (show j = k ∨ j < k by omega) with h | h
        · rw [h, j_upS]; exact hr1
        · rw [j_upN (by omega)]; exact hI.1 j j0 h
      · by_cases hj : j = k * 3 + 2
        · rw [hj, j_upS]; exact Or.inr ⟨hrr1, k, h0, by omega, rfl⟩
        · rw [j_upN hj]
          rcases hI.2 j with h | ⟨h, i, i0, i1, i2⟩
          · exact Or.inl h
          · exact Or.inr ⟨h, i, i0, by omega, i2⟩
set_option maxHeartbeats 4000000 in
theorem s_follow {G : j_G} {X : k_X} {n : Nat} {σ : k_St} {a : Nat} (hA : i_at X n a) (hw : i_wf σ a)  : k_run G X mX3_follow [.ref a] n σ 0 0 (i_flP n σ a) := by
  obtain ⟨h5, hs0, hs1, hs2, hs3, hs4, hs5, hs6, hs7⟩ := id hA
  obtain ⟨hc, hpc, hlc, hlo, hv⟩ := id hw
  refine k_enter (by decide +kernel) (Nat.le_of_ble_eq_true rfl) ?_
  show j_at _ _ _ [(0, .ref a)] [] _ _ _ _
  refine a_iconst (pc := 0) (n := 0) (by decide +kernel) ?_
  refine a_istore_n (pc := 1) (i := 1) (lv' := [(0, .ref a), (1, j_i 0)]) (by decide +kernel) (Nat.le_of_ble_eq_true rfl) rfl ?_
  have e := l_follow (G := G) (X := X) hA hw 51 0 (σ.1 (a + 5)) (by omega) (by omega) hlc.1 ⟨fun j j0 j1 => absurd j0 (by omega), fun j => Or.inl rfl⟩
  rw [k_sA_id rfl] at e
  exact e
