def i_ins (σ : k_St) (a : Nat) (q p : Int) : k_St := k_sI (k_sA σ (a + 1) (j_up (j_cpy (σ.1 (a + 1)) (σ.1 (a + 1)) p (p + 1) (σ.2.1 a 0 - p)) p q)) a 0 (σ.2.1 a 0 + 1)
def i_adp (n : Nat) (σ : k_St) (a : Nat) (q : Int) : k_P := fun v n' τ => v = none ∧ n' = n ∧ ((τ = σ ∧ (q ≤ 0 ∨ ∃ e, 0 ≤ e ∧ e < σ.2.1 a 0 ∧ σ.1 (a + 1) e = q)) ∨ (0 < q ∧ ∃ p, 0 ≤ p ∧ p ≤ σ.2.1 a 0 ∧ (∀ e, p ≤ e → e < σ.2.1 a 0 → q < σ.1 (a + 1) e) ∧ (p = 0 ∨ σ.1 (a + 1) (p - 1) < q) ∧ τ = i_ins σ a q p))
set_option maxHeartbeats 4000000 in
theorem l_addPath {G : j_G} {X : k_X} {n : Nat} {σ : k_St} {a : Nat} (hA : i_at X n a) (hw : i_wf σ a) {q : Int} (hq : -2147483648 ≤ q ∧ q ≤ 2147483647) (h15 : σ.2.1 a 0 < 150) : ∀ (m : Nat) (p : Int), p < (m : Int) → 0 ≤ p → p ≤ σ.2.1 a 0 → (∀ e, p ≤ e → e < σ.2.1 a 0 → q < σ.1 (a + 1) e) → j_at G mX3_addPath 5 [(0, .ref a), (1, j_i q), (2, j_i p)] [] (k_h X n σ) 0 0 (k_Q X (i_adp n σ a q)) := by
  intro m
  induction m with
  | zero => intro p h1 h2; exact absurd h2 (by omega)
  | succ m ih =>
    intro p hm h0 hN hI
    obtain ⟨h5, hs0, hs1, hs2, hs3, hs4, hs5, hs6, hs7⟩ := id hA
    obtain ⟨hc, hpc, hlc, hlo, hv⟩ := id hw
    refine a_iload_n (pc := 5) (i := 2) (by decide +kernel) rfl ?_
    refine a_if_le (pc := 6) (off := 34) (tgt := 40) (by decide +kernel) (by decide) (by omega) (fun c6 => ?_) (fun c6 => ?_)
    · refine a_iload_n (pc := 40) (i := 1) (by decide +kernel) rfl ?_
      refine a_if_le (pc := 41) (off := 13) (tgt := 54) (by decide +kernel) (by decide) (by omega) (fun c41 => ?_) (fun c41 => ?_)
      · refine a_return (pc := 54) (by decide +kernel) rfl ?_
        refine k_ret ?_
        first | exact ⟨rfl, rfl, Or.inl ⟨rfl, Or.inl c41⟩⟩ | (exfalso; omega)
      · refine a_aload_n (pc := 44) (i := 0) (by decide +kernel) rfl ?_
        refine b_getI (pc := 45) fl_X3_9 (by decide +kernel) hs0 rfl ?_
        refine a_sipush (pc := 48) (n := 150) (by decide +kernel) rfl ?_
        refine a_icmp_lt (pc := 51) (off := 4) (tgt := 55) (by decide +kernel) (by decide) (by omega) (by omega) (fun c51 => ?_) (fun c51 => ?_)
        · refine a_aload_n (pc := 55) (i := 0) (by decide +kernel) rfl ?_
          refine b_getR (pc := 56) (b := a + 1) fl_X3_15 (by decide +kernel) hs0 rfl ?_
          refine a_iload_n (pc := 59) (i := 2) (by decide +kernel) rfl ?_
          refine a_aload_n (pc := 60) (i := 0) (by decide +kernel) rfl ?_
          refine b_getR (pc := 61) (b := a + 1) fl_X3_15 (by decide +kernel) hs0 rfl ?_
          refine a_iload_n (pc := 64) (i := 2) (by decide +kernel) rfl ?_
          refine a_iconst (pc := 65) (n := 1) (by decide +kernel) ?_
          refine a_iadd (pc := 66) (by decide +kernel) ?_
          refine a_aload_n (pc := 67) (i := 0) (by decide +kernel) rfl ?_
          refine b_getI (pc := 68) fl_X3_9 (by decide +kernel) hs0 rfl ?_
          refine a_iload_n (pc := 71) (i := 2) (by decide +kernel) rfl ?_
          refine a_isub (pc := 72) (by decide +kernel) ?_
          refine b_arraycopy (pc := 73) (by decide +kernel) ol_X3_69 hs1 hs1 (by omega) (by omega) (by decide) (by omega) (by omega) (by omega) (by omega) (by omega) (by omega) (by omega) (fun _ _ _ => rfl) (Nat.le_of_ble_eq_true rfl) (Nat.le_of_ble_eq_true rfl) ?_
          obtain ⟨σ1, hσ1⟩ : ∃ z, z = k_sA σ (a + 1) (j_cpy (σ.1 (a + 1)) (σ.1 (a + 1)) p (p + 1) ((σ.2.1 a 0) - p)) := ⟨_, rfl⟩
          rw [← hσ1]
          refine a_aload_n (pc := 76) (i := 0) (by decide +kernel) rfl ?_
          refine b_getR (pc := 77) (b := a + 1) fl_X3_15 (by decide +kernel) hs0 rfl ?_
          refine a_iload_n (pc := 80) (i := 2) (by decide +kernel) rfl ?_
          refine a_iload_n (pc := 81) (i := 1) (by decide +kernel) rfl ?_
          refine b_iastore (pc := 82) (by decide +kernel) hs1 (by omega) (by omega) (by omega) ?_
          obtain ⟨σ2, hσ2⟩ : ∃ z, z = k_sA σ1 (a + 1) (j_up (σ1.1 (a + 1)) p q) := ⟨_, rfl⟩
          rw [← hσ2]
          refine a_aload_n (pc := 83) (i := 0) (by decide +kernel) rfl ?_
          refine a_dup (pc := 84) (by decide +kernel) rfl ?_
          refine b_getI (pc := 85) fl_X3_9 (by decide +kernel) hs0 rfl ?_
          rw [show σ2.2.1 a 0 = σ1.2.1 a 0 by rw [hσ2]; rfl]
          rw [show σ1.2.1 a 0 = σ.2.1 a 0 by rw [hσ1]; rfl]
          refine a_iconst (pc := 88) (n := 1) (by decide +kernel) ?_
          refine a_iadd (pc := 89) (by decide +kernel) ?_
          refine b_putI (pc := 90) fl_X3_9 (by decide +kernel) hs0 rfl rfl rfl ?_
          obtain ⟨σ3, hσ3⟩ : ∃ z, z = k_sI σ2 a 0 ((σ.2.1 a 0) + 1) := ⟨_, rfl⟩
          rw [← hσ3]
          refine a_return (pc := 93) (by decide +kernel) rfl ?_
          refine k_ret ?_
          refine ⟨rfl, rfl, Or.inr ⟨by omega, p, h0, hN, hI, by omega, ?_⟩⟩
          subst hσ3; subst hσ2; subst hσ1
          unfold i_ins
          rw [k_AA, k_sA_sA]
        · refine a_return (pc := 54) (by decide +kernel) rfl ?_
          refine k_ret ?_
          first | exact ⟨rfl, rfl, Or.inl ⟨rfl, Or.inl c41⟩⟩ | (exfalso; omega)
    · refine a_aload_n (pc := 9) (i := 0) (by decide +kernel) rfl ?_
      refine b_getR (pc := 10) (b := a + 1) fl_X3_15 (by decide +kernel) hs0 rfl ?_
      refine a_iload_n (pc := 13) (i := 2) (by decide +kernel) rfl ?_
      refine a_iconst (pc := 14) (n := 1) (by decide +kernel) ?_
      refine a_isub (pc := 15) (by decide +kernel) ?_
      refine b_iaload (pc := 16) (by decide +kernel) hs1 (by omega) (by omega) (by omega) ?_
      refine a_iload_n (pc := 17) (i := 1) (by decide +kernel) rfl ?_
      have hvp := (hv (p - 1)).1
      refine a_icmp_lt (pc := 18) (off := 22) (tgt := 40) (by decide +kernel) (by decide) (by omega) (by omega) (fun c18 => ?_) (fun c18 => ?_)
      · refine a_iload_n (pc := 40) (i := 1) (by decide +kernel) rfl ?_
        refine a_if_le (pc := 41) (off := 13) (tgt := 54) (by decide +kernel) (by decide) (by omega) (fun c41 => ?_) (fun c41 => ?_)
        · refine a_return (pc := 54) (by decide +kernel) rfl ?_
          refine k_ret ?_
          first | exact ⟨rfl, rfl, Or.inl ⟨rfl, Or.inl c41⟩⟩ | (exfalso; omega)
        · refine a_aload_n (pc := 44) (i := 0) (by decide +kernel) rfl ?_
          refine b_getI (pc := 45) fl_X3_9 (by decide +kernel) hs0 rfl ?_
          refine a_sipush (pc := 48) (n := 150) (by decide +kernel) rfl ?_
          refine a_icmp_lt (pc := 51) (off := 4) (tgt := 55) (by decide +kernel) (by decide) (by omega) (by omega) (fun c51 => ?_) (fun c51 => ?_)
          · refine a_aload_n (pc := 55) (i := 0) (by decide +kernel) rfl ?_
            refine b_getR (pc := 56) (b := a + 1) fl_X3_15 (by decide +kernel) hs0 rfl ?_
            refine a_iload_n (pc := 59) (i := 2) (by decide +kernel) rfl ?_
            refine a_aload_n (pc := 60) (i := 0) (by decide +kernel) rfl ?_
            refine b_getR (pc := 61) (b := a + 1) fl_X3_15 (by decide +kernel) hs0 rfl ?_
            refine a_iload_n (pc := 64) (i := 2) (by decide +kernel) rfl ?_
            refine a_iconst (pc := 65) (n := 1) (by decide +kernel) ?_
            refine a_iadd (pc := 66) (by decide +kernel) ?_
            refine a_aload_n (pc := 67) (i := 0) (by decide +kernel) rfl ?_
            refine b_getI (pc := 68) fl_X3_9 (by decide +kernel) hs0 rfl ?_
            refine a_iload_n (pc := 71) (i := 2) (by decide +kernel) rfl ?_
            refine a_isub (pc := 72) (by decide +kernel) ?_
            refine b_arraycopy (pc := 73) (by decide +kernel) ol_X3_69 hs1 hs1 (by omega) (by omega) (by decide) (by omega) (by omega) (by omega) (by omega) (by omega) (by omega) (by omega) (fun _ _ _ => rfl) (Nat.le_of_ble_eq_true rfl) (Nat.le_of_ble_eq_true rfl) ?_
            obtain ⟨σ4, hσ4⟩ : ∃ z, z = k_sA σ (a + 1) (j_cpy (σ.1 (a + 1)) (σ.1 (a + 1)) p (p + 1) ((σ.2.1 a 0) - p)) := ⟨_, rfl⟩
            rw [← hσ4]
            refine a_aload_n (pc := 76) (i := 0) (by decide +kernel) rfl ?_
            refine b_getR (pc := 77) (b := a + 1) fl_X3_15 (by decide +kernel) hs0 rfl ?_
            refine a_iload_n (pc := 80) (i := 2) (by decide +kernel) rfl ?_
            refine a_iload_n (pc := 81) (i := 1) (by decide +kernel) rfl ?_
            refine b_iastore (pc := 82) (by decide +kernel) hs1 (by omega) (by omega) (by omega) ?_
            obtain ⟨σ5, hσ5⟩ : ∃ z, z = k_sA σ4 (a + 1) (j_up (σ4.1 (a + 1)) p q) := ⟨_, rfl⟩
            rw [← hσ5]
            refine a_aload_n (pc := 83) (i := 0) (by decide +kernel) rfl ?_
            refine a_dup (pc := 84) (by decide +kernel) rfl ?_
            refine b_getI (pc := 85) fl_X3_9 (by decide +kernel) hs0 rfl ?_
            rw [show σ5.2.1 a 0 = σ4.2.1 a 0 by rw [hσ5]; rfl]
            rw [show σ4.2.1 a 0 = σ.2.1 a 0 by rw [hσ4]; rfl]
            refine a_iconst (pc := 88) (n := 1) (by decide +kernel) ?_
            refine a_iadd (pc := 89) (by decide +kernel) ?_
            refine b_putI (pc := 90) fl_X3_9 (by decide +kernel) hs0 rfl rfl rfl ?_
            obtain ⟨σ6, hσ6⟩ : ∃ z, z = k_sI σ5 a 0 ((σ.2.1 a 0) + 1) := ⟨_, rfl⟩
            rw [← hσ6]
            refine a_return (pc := 93) (by decide +kernel) rfl ?_
            refine k_ret ?_
            refine ⟨rfl, rfl, Or.inr ⟨by omega, p, h0, hN, hI, by omega, ?_⟩⟩
            subst hσ6; subst hσ5; subst hσ4
            unfold i_ins
            rw [k_AA, k_sA_sA]
          · refine a_return (pc := 54) (by decide +kernel) rfl ?_
            refine k_ret ?_
            first | exact ⟨rfl, rfl, Or.inl ⟨rfl, Or.inl c41⟩⟩ | (exfalso; omega)
      · refine a_aload_n (pc := 21) (i := 0) (by decide +kernel) rfl ?_
        refine b_getR (pc := 22) (b := a + 1) fl_X3_15 (by decide +kernel) hs0 rfl ?_
        refine a_iload_n (pc := 25) (i := 2) (by decide +kernel) rfl ?_
        refine a_iconst (pc := 26) (n := 1) (by decide +kernel) ?_
        refine a_isub (pc := 27) (by decide +kernel) ?_
        refine b_iaload (pc := 28) (by decide +kernel) hs1 (by omega) (by omega) (by omega) ?_
        refine a_iload_n (pc := 29) (i := 1) (by decide +kernel) rfl ?_
        refine a_icmp_ne (pc := 30) (off := 4) (tgt := 34) (by decide +kernel) (by decide) (by omega) (by omega) (fun c30 => ?_) (fun c30 => ?_)
        · refine a_iinc (pc := 34) (i := 2) (n := -1) (x := p) (lv' := [(0, .ref a), (1, j_i q), (2, j_i (p + (-1)))]) (by decide +kernel) rfl (Nat.le_of_ble_eq_true rfl) rfl ?_
          refine a_goto (pc := 37) (off := -32) (tgt := 5) (by decide +kernel) (by decide) ?_
          exact ih (p + -1) (by omega) (by omega) (by omega) (fun e e0 e1 => by rcases (show e = p - 1 ∨ p ≤ e by omega) with h | h; rw [h]; omega; exact hI e h e1)
        · refine a_return (pc := 33) (by decide +kernel) rfl ?_
          refine k_ret ?_
          exact ⟨rfl, rfl, Or.inl ⟨rfl, Or.inr ⟨p - 1, by omega, by omega, c30⟩⟩⟩
set_option maxHeartbeats 4000000 in
theorem s_addPath {G : j_G} {X : k_X} {n : Nat} {σ : k_St} {a : Nat} (hA : i_at X n a) (hw : i_wf σ a) {q : Int} (hq : -2147483648 ≤ q ∧ q ≤ 2147483647) (h15 : σ.2.1 a 0 < 150) : k_run G X mX3_addPath [.ref a, j_i q] n σ 0 0 (i_adp n σ a q) := by
  obtain ⟨h5, hs0, hs1, hs2, hs3, hs4, hs5, hs6, hs7⟩ := id hA
  obtain ⟨hc, hpc, hlc, hlo, hv⟩ := id hw
  refine k_enter (by decide +kernel) (Nat.le_of_ble_eq_true rfl) ?_
  show j_at _ _ _ [(0, .ref a), (1, j_i q)] [] _ _ _ _
  refine a_aload_n (pc := 0) (i := 0) (by decide +kernel) rfl ?_
  refine b_getI (pc := 1) fl_X3_9 (by decide +kernel) hs0 rfl ?_
  refine a_istore_n (pc := 4) (i := 2) (lv' := [(0, .ref a), (1, j_i q), (2, j_i (σ.2.1 a 0))]) (by decide +kernel) (Nat.le_of_ble_eq_true rfl) rfl ?_
  exact l_addPath hA hw hq h15 151 (σ.2.1 a 0) (by omega) hc.1 (by omega) (fun e e0 e1 => absurd e0 (by omega))
/-- a place's weight -/
def i_wk (σ : k_St) (a : Nat) (k c : Int) : Int := i_wt (σ.1 (a + 4) (k * 4)) (σ.1 (a + 4) (k * 4 + 1)) (σ.1 (a + 4) (k * 4 + 3)) c
theorem i_wt_in {k f t c : Int} (h1 : 0 ≤ f ∧ f ≤ 299) (h2 : 0 ≤ t ∧ t ≤ 299) : 0 ≤ i_wt k f t c ∧ i_wt k f t c ≤ 1000000 := by
  unfold i_wt i_rank; (repeat' split) <;> omega
set_option maxHeartbeats 4000000 in
theorem s_weightAt {G : j_G} {X : k_X} {n : Nat} {σ : k_St} {a : Nat} (hA : i_at X n a) (hw : i_wf σ a) (hn : 101 ≤ n) {k c : Int} (hk : 0 ≤ k ∧ k < 50) (hc9 : c = 0 ∨ c = 1) (hk5 : σ.1 (a + 4) (k * 4) ≤ 5) : k_run G X mX3_weightAt [.ref a, j_i k, j_i c] n σ 0 0 (k_is n σ (some (j_i (i_wk σ a k c)))) := by
  obtain ⟨h5, hs0, hs1, hs2, hs3, hs4, hs5, hs6, hs7⟩ := id hA
  obtain ⟨hc, hpc, hlc, hlo, hv⟩ := id hw
  have hv0 := (hv (k * 4)).2.2.2.1
  refine k_enter (by decide +kernel) (Nat.le_of_ble_eq_true rfl) ?_
  show j_at _ _ _ [(0, .ref a), (1, j_i k), (2, j_i c)] [] _ _ _ _
  refine a_aload_n (pc := 0) (i := 0) (by decide +kernel) rfl ?_
  refine b_getR (pc := 1) (b := a + 4) fl_X3_25 (by decide +kernel) hs0 rfl ?_
  refine a_iload_n (pc := 4) (i := 1) (by decide +kernel) rfl ?_
  refine a_iconst (pc := 5) (n := 4) (by decide +kernel) ?_
  refine a_imul (pc := 6) (by decide +kernel) ?_
  refine b_iaload (pc := 7) (by decide +kernel) hs4 (by omega) (by omega) (by omega) ?_
  refine a_aload_n (pc := 8) (i := 0) (by decide +kernel) rfl ?_
  refine b_getR (pc := 9) (b := a + 4) fl_X3_25 (by decide +kernel) hs0 rfl ?_
  refine a_iload_n (pc := 12) (i := 1) (by decide +kernel) rfl ?_
  refine a_iconst (pc := 13) (n := 4) (by decide +kernel) ?_
  refine a_imul (pc := 14) (by decide +kernel) ?_
  refine a_iconst (pc := 15) (n := 1) (by decide +kernel) ?_
  refine a_iadd (pc := 16) (by decide +kernel) ?_
  refine b_iaload (pc := 17) (by decide +kernel) hs4 (by omega) (by omega) (by omega) ?_
  refine a_aload_n (pc := 18) (i := 0) (by decide +kernel) rfl ?_
  refine b_getR (pc := 19) (b := a + 4) fl_X3_25 (by decide +kernel) hs0 rfl ?_
  refine a_iload_n (pc := 22) (i := 1) (by decide +kernel) rfl ?_
  refine a_iconst (pc := 23) (n := 4) (by decide +kernel) ?_
  refine a_imul (pc := 24) (by decide +kernel) ?_
  refine a_iconst (pc := 25) (n := 3) (by decide +kernel) ?_
  refine a_iadd (pc := 26) (by decide +kernel) ?_
  refine b_iaload (pc := 27) (by decide +kernel) hs4 (by omega) (by omega) (by omega) ?_
  refine a_iload_n (pc := 28) (i := 2) (by decide +kernel) rfl ?_
  refine b_pureS (pc := 29) [j_i (σ.1 (a + 4) (k * 4)), j_i (σ.1 (a + 4) ((k * 4) + 1)), j_i (σ.1 (a + 4) ((k * 4) + 3)), j_i c] [] ml_X3_75 (by decide +kernel) rfl rfl (Nat.le_of_ble_eq_true rfl) (j_fitI rfl rfl) (s_weightOf hn (by omega) (by omega)) ?_
  show j_at _ _ _ [(0, .ref a), (1, j_i k), (2, j_i c)] [j_i (i_wt (σ.1 (a + 4) (k * 4)) (σ.1 (a + 4) ((k * 4) + 1)) (σ.1 (a + 4) ((k * 4) + 3)) c)] _ _ _ _
  refine a_ireturn (pc := 32) (by decide +kernel) rfl ?_
  refine k_ret ?_
  exact ⟨rfl, rfl, rfl⟩
def i_plS (σ : k_St) (a : Nat) (p k f l t : Int) : k_St := k_sI (k_sA σ (a + 4) (j_up (j_up (j_up (j_up (j_cpy (σ.1 (a + 4)) (σ.1 (a + 4)) (p * 4) (p * 4 + 4) ((σ.2.1 a 5 - p) * 4)) (p * 4) k) (p * 4 + 1) f) (p * 4 + 2) l) (p * 4 + 3) t)) a 5 (σ.2.1 a 5 + 1)
def i_adl (n : Nat) (σ : k_St) (a : Nat) (s k f l t c : Int) : k_P := fun v n' τ => v = none ∧ n' = n ∧ ((τ = σ ∧ ∃ p, s ≤ p ∧ p < σ.2.1 a 5 ∧ i_wk σ a p c = i_wt k f t c) ∨ (∃ p, s ≤ p ∧ p ≤ σ.2.1 a 5 ∧ (∀ e, p ≤ e → e < σ.2.1 a 5 → i_wt k f t c < i_wk σ a e c) ∧ (p = s ∨ i_wk σ a (p - 1) c < i_wt k f t c) ∧ τ = i_plS σ a p k f l t))
set_option maxHeartbeats 4000000 in
theorem l_addPlace {G : j_G} {X : k_X} {n : Nat} {σ : k_St} {a : Nat} (hA : i_at X n a) (hw : i_wf σ a) {s k f l t c : Int} (hn : 101 ≤ n) (hs9 : 0 ≤ s) (hsp : s ≤ σ.2.1 a 5) (hp5 : σ.2.1 a 5 < 50) (hc9 : c = 0 ∨ c = 1) (hk : 0 ≤ k ∧ k ≤ 5) (hf : 0 ≤ f ∧ f ≤ 299) (ht : 0 ≤ t ∧ t ≤ 99) (hk5 : ∀ e, 0 ≤ e → e < σ.2.1 a 5 → σ.1 (a + 4) (e * 4) ≤ 5)  : ∀ (m : Nat) (p : Int), p < (m : Int) → s ≤ p → p ≤ σ.2.1 a 5 → (∀ e, p ≤ e → e < σ.2.1 a 5 → i_wt k f t c < i_wk σ a e c) → j_at G mX3_addPlace 31 [(0, .ref a), (1, j_i s), (2, j_i k), (3, j_i f), (4, j_i l), (5, j_i t), (6, j_i c), (7, j_i (i_wt k f t c)), (8, j_i p)] [] (k_h X n σ) 0 0 (k_Q X (i_adl n σ a s k f l t c)) := by
  intro m
  induction m with
  | zero => intro p h1 h2; exact absurd h2 (by omega)
  | succ m ih =>
    intro p hm h0 hN hI
    obtain ⟨h5, hs0, hs1, hs2, hs3, hs4, hs5, hs6, hs7⟩ := id hA
    obtain ⟨hc, hpc, hlc, hlo, hv⟩ := id hw
    have hwt := i_wt_in (k := k) (f := f) (t := t) (c := c) hf (by omega)
    refine a_iload (pc := 31) (i := 8) (by decide +kernel) rfl ?_
    refine a_iload_n (pc := 33) (i := 1) (by decide +kernel) rfl ?_
    refine a_icmp_le (pc := 34) (off := 40) (tgt := 74) (by decide +kernel) (by decide) (by omega) (by omega) (fun c34 => ?_) (fun c34 => ?_)
    · refine a_iload (pc := 74) (i := 8) (by decide +kernel) rfl ?_
      refine a_iconst (pc := 76) (n := 4) (by decide +kernel) ?_
      refine a_imul (pc := 77) (by decide +kernel) ?_
      refine a_istore (pc := 78) (i := 9) (lv' := [(0, .ref a), (1, j_i s), (2, j_i k), (3, j_i f), (4, j_i l), (5, j_i t), (6, j_i c), (7, j_i (i_wt k f t c)), (8, j_i p), (9, j_i (p * 4))]) (by decide +kernel) (Nat.le_of_ble_eq_true rfl) rfl ?_
      refine a_aload_n (pc := 80) (i := 0) (by decide +kernel) rfl ?_
      refine b_getR (pc := 81) (b := a + 4) fl_X3_25 (by decide +kernel) hs0 rfl ?_
      refine a_iload (pc := 84) (i := 9) (by decide +kernel) rfl ?_
      refine a_aload_n (pc := 86) (i := 0) (by decide +kernel) rfl ?_
      refine b_getR (pc := 87) (b := a + 4) fl_X3_25 (by decide +kernel) hs0 rfl ?_
      refine a_iload (pc := 90) (i := 9) (by decide +kernel) rfl ?_
      refine a_iconst (pc := 92) (n := 4) (by decide +kernel) ?_
      refine a_iadd (pc := 93) (by decide +kernel) ?_
      refine a_aload_n (pc := 94) (i := 0) (by decide +kernel) rfl ?_
      refine b_getI (pc := 95) fl_X3_28 (by decide +kernel) hs0 rfl ?_
      refine a_iload (pc := 98) (i := 8) (by decide +kernel) rfl ?_
      refine a_isub (pc := 100) (by decide +kernel) ?_
      refine a_iconst (pc := 101) (n := 4) (by decide +kernel) ?_
      refine a_imul (pc := 102) (by decide +kernel) ?_
      refine b_arraycopy (pc := 103) (by decide +kernel) ol_X3_69 hs4 hs4 (by omega) (by omega) (by decide) (by omega) (by omega) (by omega) (by omega) (by omega) (by omega) (by omega) (fun _ _ _ => rfl) (Nat.le_of_ble_eq_true rfl) (Nat.le_of_ble_eq_true rfl) ?_
      obtain ⟨σ1, hσ1⟩ : ∃ z, z = k_sA σ (a + 4) (j_cpy (σ.1 (a + 4)) (σ.1 (a + 4)) (p * 4) ((p * 4) + 4) (((σ.2.1 a 5) - p) * 4)) := ⟨_, rfl⟩
      rw [← hσ1]
      refine a_aload_n (pc := 106) (i := 0) (by decide +kernel) rfl ?_
      refine b_getR (pc := 107) (b := a + 4) fl_X3_25 (by decide +kernel) hs0 rfl ?_
      refine a_iload (pc := 110) (i := 9) (by decide +kernel) rfl ?_
      refine a_iload_n (pc := 112) (i := 2) (by decide +kernel) rfl ?_
      refine b_iastore (pc := 113) (by decide +kernel) hs4 (by omega) (by omega) (by omega) ?_
      obtain ⟨σ2, hσ2⟩ : ∃ z, z = k_sA σ1 (a + 4) (j_up (σ1.1 (a + 4)) (p * 4) k) := ⟨_, rfl⟩
      rw [← hσ2]
      refine a_aload_n (pc := 114) (i := 0) (by decide +kernel) rfl ?_
      refine b_getR (pc := 115) (b := a + 4) fl_X3_25 (by decide +kernel) hs0 rfl ?_
      refine a_iload (pc := 118) (i := 9) (by decide +kernel) rfl ?_
      refine a_iconst (pc := 120) (n := 1) (by decide +kernel) ?_
      refine a_iadd (pc := 121) (by decide +kernel) ?_
      refine a_iload_n (pc := 122) (i := 3) (by decide +kernel) rfl ?_
      refine b_iastore (pc := 123) (by decide +kernel) hs4 (by omega) (by omega) (by omega) ?_
      obtain ⟨σ3, hσ3⟩ : ∃ z, z = k_sA σ2 (a + 4) (j_up (σ2.1 (a + 4)) ((p * 4) + 1) f) := ⟨_, rfl⟩
      rw [← hσ3]
      refine a_aload_n (pc := 124) (i := 0) (by decide +kernel) rfl ?_
      refine b_getR (pc := 125) (b := a + 4) fl_X3_25 (by decide +kernel) hs0 rfl ?_
      refine a_iload (pc := 128) (i := 9) (by decide +kernel) rfl ?_
      refine a_iconst (pc := 130) (n := 2) (by decide +kernel) ?_
      refine a_iadd (pc := 131) (by decide +kernel) ?_
      refine a_iload (pc := 132) (i := 4) (by decide +kernel) rfl ?_
      refine b_iastore (pc := 134) (by decide +kernel) hs4 (by omega) (by omega) (by omega) ?_
      obtain ⟨σ4, hσ4⟩ : ∃ z, z = k_sA σ3 (a + 4) (j_up (σ3.1 (a + 4)) ((p * 4) + 2) l) := ⟨_, rfl⟩
      rw [← hσ4]
      refine a_aload_n (pc := 135) (i := 0) (by decide +kernel) rfl ?_
      refine b_getR (pc := 136) (b := a + 4) fl_X3_25 (by decide +kernel) hs0 rfl ?_
      refine a_iload (pc := 139) (i := 9) (by decide +kernel) rfl ?_
      refine a_iconst (pc := 141) (n := 3) (by decide +kernel) ?_
      refine a_iadd (pc := 142) (by decide +kernel) ?_
      refine a_iload (pc := 143) (i := 5) (by decide +kernel) rfl ?_
      refine b_iastore (pc := 145) (by decide +kernel) hs4 (by omega) (by omega) (by omega) ?_
      obtain ⟨σ5, hσ5⟩ : ∃ z, z = k_sA σ4 (a + 4) (j_up (σ4.1 (a + 4)) ((p * 4) + 3) t) := ⟨_, rfl⟩
      rw [← hσ5]
      refine a_aload_n (pc := 146) (i := 0) (by decide +kernel) rfl ?_
      refine a_dup (pc := 147) (by decide +kernel) rfl ?_
      refine b_getI (pc := 148) fl_X3_28 (by decide +kernel) hs0 rfl ?_
      rw [show σ5.2.1 a 5 = σ4.2.1 a 5 by rw [hσ5]; rfl]
      rw [show σ4.2.1 a 5 = σ3.2.1 a 5 by rw [hσ4]; rfl]
      rw [show σ3.2.1 a 5 = σ2.2.1 a 5 by rw [hσ3]; rfl]
      rw [show σ2.2.1 a 5 = σ1.2.1 a 5 by rw [hσ2]; rfl]
      rw [show σ1.2.1 a 5 = σ.2.1 a 5 by rw [hσ1]; rfl]
      refine a_iconst (pc := 151) (n := 1) (by decide +kernel) ?_
      refine a_iadd (pc := 152) (by decide +kernel) ?_
      refine b_putI (pc := 153) fl_X3_28 (by decide +kernel) hs0 rfl rfl rfl ?_
      obtain ⟨σ6, hσ6⟩ : ∃ z, z = k_sI σ5 a 5 ((σ.2.1 a 5) + 1) := ⟨_, rfl⟩
      rw [← hσ6]
      refine a_return (pc := 156) (by decide +kernel) rfl ?_
      refine k_ret ?_
      refine ⟨rfl, rfl, Or.inr ⟨p, h0, hN, hI, by omega, ?_⟩⟩
      subst hσ6; subst hσ5; subst hσ4; subst hσ3; subst hσ2; subst hσ1
      unfold i_plS
      simp only [k_AA, k_sA_sA]
    · refine a_aload_n (pc := 37) (i := 0) (by decide +kernel) rfl ?_
      refine a_iload (pc := 38) (i := 8) (by decide +kernel) rfl ?_
      refine a_iconst (pc := 40) (n := 1) (by decide +kernel) ?_
      refine a_isub (pc := 41) (by decide +kernel) ?_
      refine a_iload (pc := 42) (i := 6) (by decide +kernel) rfl ?_
      refine b_pureV (pc := 44) [j_i (p - 1), j_i c] [] ml_X3_79 (by decide +kernel) rfl rfl hs0 rfl rfl (Nat.le_of_ble_eq_true rfl) (j_fitI rfl rfl) (s_weightAt hA hw hn (by omega) hc9 (hk5 _ (by omega) (by omega))) ?_
      have qw7 := i_wt_in (k := σ.1 (a + 4) ((p - 1) * 4)) (f := σ.1 (a + 4) ((p - 1) * 4 + 1)) (t := σ.1 (a + 4) ((p - 1) * 4 + 3)) (c := c) (hv ((p - 1) * 4 + 1)).2.2.2.1 (hv ((p - 1) * 4 + 3)).2.2.2.1
      have qx7 : 0 ≤ i_wk σ a (p - 1) c ∧ i_wk σ a (p - 1) c ≤ 1000000 := qw7
      show j_at _ _ _ [(0, .ref a), (1, j_i s), (2, j_i k), (3, j_i f), (4, j_i l), (5, j_i t), (6, j_i c), (7, j_i (i_wt k f t c)), (8, j_i p)] [j_i (i_wk σ a (p - 1) c)] _ _ _ _
      refine a_iload (pc := 47) (i := 7) (by decide +kernel) rfl ?_
      refine a_icmp_lt (pc := 49) (off := 25) (tgt := 74) (by decide +kernel) (by decide) (by omega) (by omega) (fun c49 => ?_) (fun c49 => ?_)
      · refine a_iload (pc := 74) (i := 8) (by decide +kernel) rfl ?_
        refine a_iconst (pc := 76) (n := 4) (by decide +kernel) ?_
        refine a_imul (pc := 77) (by decide +kernel) ?_
        refine a_istore (pc := 78) (i := 9) (lv' := [(0, .ref a), (1, j_i s), (2, j_i k), (3, j_i f), (4, j_i l), (5, j_i t), (6, j_i c), (7, j_i (i_wt k f t c)), (8, j_i p), (9, j_i (p * 4))]) (by decide +kernel) (Nat.le_of_ble_eq_true rfl) rfl ?_
        refine a_aload_n (pc := 80) (i := 0) (by decide +kernel) rfl ?_
        refine b_getR (pc := 81) (b := a + 4) fl_X3_25 (by decide +kernel) hs0 rfl ?_
        refine a_iload (pc := 84) (i := 9) (by decide +kernel) rfl ?_
        refine a_aload_n (pc := 86) (i := 0) (by decide +kernel) rfl ?_
        refine b_getR (pc := 87) (b := a + 4) fl_X3_25 (by decide +kernel) hs0 rfl ?_
        refine a_iload (pc := 90) (i := 9) (by decide +kernel) rfl ?_
        refine a_iconst (pc := 92) (n := 4) (by decide +kernel) ?_
        refine a_iadd (pc := 93) (by decide +kernel) ?_
        refine a_aload_n (pc := 94) (i := 0) (by decide +kernel) rfl ?_
        refine b_getI (pc := 95) fl_X3_28 (by decide +kernel) hs0 rfl ?_
        refine a_iload (pc := 98) (i := 8) (by decide +kernel) rfl ?_
        refine a_isub (pc := 100) (by decide +kernel) ?_
        refine a_iconst (pc := 101) (n := 4) (by decide +kernel) ?_
        refine a_imul (pc := 102) (by decide +kernel) ?_
        refine b_arraycopy (pc := 103) (by decide +kernel) ol_X3_69 hs4 hs4 (by omega) (by omega) (by decide) (by omega) (by omega) (by omega) (by omega) (by omega) (by omega) (by omega) (fun _ _ _ => rfl) (Nat.le_of_ble_eq_true rfl) (Nat.le_of_ble_eq_true rfl) ?_
        obtain ⟨σ8, hσ8⟩ : ∃ z, z = k_sA σ (a + 4) (j_cpy (σ.1 (a + 4)) (σ.1 (a + 4)) (p * 4) ((p * 4) + 4) (((σ.2.1 a 5) - p) * 4)) := ⟨_, rfl⟩
        rw [← hσ8]
        refine a_aload_n (pc := 106) (i := 0) (by decide +kernel) rfl ?_
        refine b_getR (pc := 107) (b := a + 4) fl_X3_25 (by decide +kernel) hs0 rfl ?_
        refine a_iload (pc := 110) (i := 9) (by decide +kernel) rfl ?_
        refine a_iload_n (pc := 112) (i := 2) (by decide +kernel) rfl ?_
        refine b_iastore (pc := 113) (by decide +kernel) hs4 (by omega) (by omega) (by omega) ?_
        obtain ⟨σ9, hσ9⟩ : ∃ z, z = k_sA σ8 (a + 4) (j_up (σ8.1 (a + 4)) (p * 4) k) := ⟨_, rfl⟩
        rw [← hσ9]
        refine a_aload_n (pc := 114) (i := 0) (by decide +kernel) rfl ?_
        refine b_getR (pc := 115) (b := a + 4) fl_X3_25 (by decide +kernel) hs0 rfl ?_
        refine a_iload (pc := 118) (i := 9) (by decide +kernel) rfl ?_
        refine a_iconst (pc := 120) (n := 1) (by decide +kernel) ?_
        refine a_iadd (pc := 121) (by decide +kernel) ?_
        refine a_iload_n (pc := 122) (i := 3) (by decide +kernel) rfl ?_
        refine b_iastore (pc := 123) (by decide +kernel) hs4 (by omega) (by omega) (by omega) ?_
        obtain ⟨σ10, hσ10⟩ : ∃ z, z = k_sA σ9 (a + 4) (j_up (σ9.1 (a + 4)) ((p * 4) + 1) f) := ⟨_, rfl⟩
        rw [← hσ10]
        refine a_aload_n (pc := 124) (i := 0) (by decide +kernel) rfl ?_
        refine b_getR (pc := 125) (b := a + 4) fl_X3_25 (by decide +kernel) hs0 rfl ?_
        refine a_iload (pc := 128) (i := 9) (by decide +kernel) rfl ?_
        refine a_iconst (pc := 130) (n := 2) (by decide +kernel) ?_
        refine a_iadd (pc := 131) (by decide +kernel) ?_
        refine a_iload (pc := 132) (i := 4) (by decide +kernel) rfl ?_
        refine b_iastore (pc := 134) (by decide +kernel) hs4 (by omega) (by omega) (by omega) ?_
        obtain ⟨σ11, hσ11⟩ : ∃ z, z = k_sA σ10 (a + 4) (j_up (σ10.1 (a + 4)) ((p * 4) + 2) l) := ⟨_, rfl⟩
        rw [← hσ11]
        refine a_aload_n (pc := 135) (i := 0) (by decide +kernel) rfl ?_
        refine b_getR (pc := 136) (b := a + 4) fl_X3_25 (by decide +kernel) hs0 rfl ?_
        refine a_iload (pc := 139) (i := 9) (by decide +kernel) rfl ?_
        refine a_iconst (pc := 141) (n := 3) (by decide +kernel) ?_
        refine a_iadd (pc := 142) (by decide +kernel) ?_
        refine a_iload (pc := 143) (i := 5) (by decide +kernel) rfl ?_
        refine b_iastore (pc := 145) (by decide +kernel) hs4 (by omega) (by omega) (by omega) ?_
        obtain ⟨σ12, hσ12⟩ : ∃ z, z = k_sA σ11 (a + 4) (j_up (σ11.1 (a + 4)) ((p * 4) + 3) t) := ⟨_, rfl⟩
        rw [← hσ12]
        refine a_aload_n (pc := 146) (i := 0) (by decide +kernel) rfl ?_
        refine a_dup (pc := 147) (by decide +kernel) rfl ?_
        refine b_getI (pc := 148) fl_X3_28 (by decide +kernel) hs0 rfl ?_
        rw [show σ12.2.1 a 5 = σ11.2.1 a 5 by rw [hσ12]; rfl]
        rw [show σ11.2.1 a 5 = σ10.2.1 a 5 by rw [hσ11]; rfl]
        rw [show σ10.2.1 a 5 = σ9.2.1 a 5 by rw [hσ10]; rfl]
        rw [show σ9.2.1 a 5 = σ8.2.1 a 5 by rw [hσ9]; rfl]
        rw [show σ8.2.1 a 5 = σ.2.1 a 5 by rw [hσ8]; rfl]
        refine a_iconst (pc := 151) (n := 1) (by decide +kernel) ?_
        refine a_iadd (pc := 152) (by decide +kernel) ?_
        refine b_putI (pc := 153) fl_X3_28 (by decide +kernel) hs0 rfl rfl rfl ?_
        obtain ⟨σ13, hσ13⟩ : ∃ z, z = k_sI σ12 a 5 ((σ.2.1 a 5) + 1) := ⟨_, rfl⟩
        rw [← hσ13]
        refine a_return (pc := 156) (by decide +kernel) rfl ?_
        refine k_ret ?_
        refine ⟨rfl, rfl, Or.inr ⟨p, h0, hN, hI, by omega, ?_⟩⟩
        subst hσ13; subst hσ12; subst hσ11; subst hσ10; subst hσ9; subst hσ8
        unfold i_plS
        simp only [k_AA, k_sA_sA]
      · refine a_aload_n (pc := 52) (i := 0) (by decide +kernel) rfl ?_
        refine a_iload (pc := 53) (i := 8) (by decide +kernel) rfl ?_
        refine a_iconst (pc := 55) (n := 1) (by decide +kernel) ?_
        refine a_isub (pc := 56) (by decide +kernel) ?_
        refine a_iload (pc := 57) (i := 6) (by decide +kernel) rfl ?_
        refine b_pureV (pc := 59) [j_i (p - 1), j_i c] [] ml_X3_79 (by decide +kernel) rfl rfl hs0 rfl rfl (Nat.le_of_ble_eq_true rfl) (j_fitI rfl rfl) (s_weightAt hA hw hn (by omega) hc9 (hk5 _ (by omega) (by omega))) ?_
        have qw14 := i_wt_in (k := σ.1 (a + 4) ((p - 1) * 4)) (f := σ.1 (a + 4) ((p - 1) * 4 + 1)) (t := σ.1 (a + 4) ((p - 1) * 4 + 3)) (c := c) (hv ((p - 1) * 4 + 1)).2.2.2.1 (hv ((p - 1) * 4 + 3)).2.2.2.1
        have qx14 : 0 ≤ i_wk σ a (p - 1) c ∧ i_wk σ a (p - 1) c ≤ 1000000 := qw14
        show j_at _ _ _ [(0, .ref a), (1, j_i s), (2, j_i k), (3, j_i f), (4, j_i l), (5, j_i t), (6, j_i c), (7, j_i (i_wt k f t c)), (8, j_i p)] [j_i (i_wk σ a (p - 1) c)] _ _ _ _
        refine a_iload (pc := 62) (i := 7) (by decide +kernel) rfl ?_
        refine a_icmp_ne (pc := 64) (off := 4) (tgt := 68) (by decide +kernel) (by decide) (by omega) (by omega) (fun c64 => ?_) (fun c64 => ?_)
        · refine a_iinc (pc := 68) (i := 8) (n := -1) (x := p) (lv' := [(0, .ref a), (1, j_i s), (2, j_i k), (3, j_i f), (4, j_i l), (5, j_i t), (6, j_i c), (7, j_i (i_wt k f t c)), (8, j_i (p + (-1)))]) (by decide +kernel) rfl (Nat.le_of_ble_eq_true rfl) rfl ?_
          refine a_goto (pc := 71) (off := -40) (tgt := 31) (by decide +kernel) (by decide) ?_
          exact ih (p + -1) (by omega) (by omega) (by omega) (fun e e0 e1 => by rcases (show e = p - 1 ∨ p ≤ e by omega) with h | h; rw [h]; omega; exact hI e h e1)
        · refine a_return (pc := 67) (by decide +kernel) rfl ?_
          refine k_ret ?_
          exact ⟨rfl, rfl, Or.inl ⟨rfl, p - 1, by omega, by omega, c64⟩⟩
set_option maxHeartbeats 4000000 in
theorem s_addPlace {G : j_G} {X : k_X} {n : Nat} {σ : k_St} {a : Nat} (hA : i_at X n a) (hw : i_wf σ a) {s k f l t c : Int} (hn : 101 ≤ n) (hs9 : 0 ≤ s) (hsp : s ≤ σ.2.1 a 5) (hp5 : σ.2.1 a 5 < 50) (hc9 : c = 0 ∨ c = 1) (hk : 0 ≤ k ∧ k ≤ 5) (hf : 0 ≤ f ∧ f ≤ 299) (ht : 0 ≤ t ∧ t ≤ 99) (hk5 : ∀ e, 0 ≤ e → e < σ.2.1 a 5 → σ.1 (a + 4) (e * 4) ≤ 5)  : k_run G X mX3_addPlace [.ref a, j_i s, j_i k, j_i f, j_i l, j_i t, j_i c] n σ 0 0 (i_adl n σ a s k f l t c) := by
  obtain ⟨h5, hs0, hs1, hs2, hs3, hs4, hs5, hs6, hs7⟩ := id hA
  obtain ⟨hc, hpc, hlc, hlo, hv⟩ := id hw
  refine k_enter (by decide +kernel) (Nat.le_of_ble_eq_true rfl) ?_
  show j_at _ _ _ [(0, .ref a), (1, j_i s), (2, j_i k), (3, j_i f), (4, j_i l), (5, j_i t), (6, j_i c)] [] _ _ _ _
  refine a_aload_n (pc := 0) (i := 0) (by decide +kernel) rfl ?_
  refine b_getI (pc := 1) fl_X3_28 (by decide +kernel) hs0 rfl ?_
  refine a_bipush (pc := 4) (n := 50) (by decide +kernel) rfl ?_
  refine a_icmp_ge (pc := 6) (off := 7) (tgt := 13) (by decide +kernel) (by decide) (by omega) (by omega) (fun c6 => ?_) (fun c6 => ?_)
  · refine a_return (pc := 13) (by decide +kernel) rfl ?_
    refine k_ret ?_
    exfalso; omega
  · refine a_iload_n (pc := 9) (i := 1) (by decide +kernel) rfl ?_
    refine a_if_ge (pc := 10) (off := 4) (tgt := 14) (by decide +kernel) (by decide) (by omega) (fun c10 => ?_) (fun c10 => ?_)
    · refine a_iload_n (pc := 14) (i := 2) (by decide +kernel) rfl ?_
      refine a_iload_n (pc := 15) (i := 3) (by decide +kernel) rfl ?_
      refine a_iload (pc := 16) (i := 5) (by decide +kernel) rfl ?_
      refine a_iload (pc := 18) (i := 6) (by decide +kernel) rfl ?_
      refine b_pureS (pc := 20) [j_i k, j_i f, j_i t, j_i c] [] ml_X3_75 (by decide +kernel) rfl rfl (Nat.le_of_ble_eq_true rfl) (j_fitI rfl rfl) (s_weightOf hn (by omega) (by omega)) ?_
      show j_at _ _ _ [(0, .ref a), (1, j_i s), (2, j_i k), (3, j_i f), (4, j_i l), (5, j_i t), (6, j_i c)] [j_i (i_wt k f t c)] _ _ _ _
      refine a_istore (pc := 23) (i := 7) (lv' := [(0, .ref a), (1, j_i s), (2, j_i k), (3, j_i f), (4, j_i l), (5, j_i t), (6, j_i c), (7, j_i (i_wt k f t c))]) (by decide +kernel) (Nat.le_of_ble_eq_true rfl) rfl ?_
      refine a_aload_n (pc := 25) (i := 0) (by decide +kernel) rfl ?_
      refine b_getI (pc := 26) fl_X3_28 (by decide +kernel) hs0 rfl ?_
      refine a_istore (pc := 29) (i := 8) (lv' := [(0, .ref a), (1, j_i s), (2, j_i k), (3, j_i f), (4, j_i l), (5, j_i t), (6, j_i c), (7, j_i (i_wt k f t c)), (8, j_i (σ.2.1 a 5))]) (by decide +kernel) (Nat.le_of_ble_eq_true rfl) rfl ?_
      exact l_addPlace hA hw hn hs9 hsp hp5 hc9 hk hf ht hk5 51 (σ.2.1 a 5) (by omega) (by omega) (by omega) (fun e e0 e1 => absurd e0 (by omega))
    · refine a_return (pc := 13) (by decide +kernel) rfl ?_
      refine k_ret ?_
      exfalso; omega
/-- where a see leads, m steps at most: 0 good, 1 nowhere, 2 round -/
def i_led (σ : k_St) (a : Nat) : Nat → Int → Int → Prop
  | 0, _, r => r = 2
  | m + 1, h, r => ∃ e, i_of σ a (f_path h (-9) (-9)) e ∧ ((e = -9 ∧ r = 1) ∨ (e ≠ -9 ∧ i_body σ a e ∧ r = 0) ∨ (e ≠ -9 ∧ ¬ i_body σ a e ∧ i_led σ a m (if 0 < i_sn σ a e then σ.1 (a + 5) (i_ls σ a e * 3) else h) r))
theorem i_of_r {σ : k_St} {a : Nat} {p r : Int} (h : i_of σ a p r) : r = -9 ∨ 0 ≤ r ∧ r < σ.2.1 a 0 := h.elim (fun q => Or.inl q.1) (fun q => Or.inr ⟨q.1, q.2.1⟩)
theorem i_led_r {σ : k_St} {a : Nat} : ∀ {m : Nat} {h r : Int}, i_led σ a m h r → 0 ≤ r ∧ r ≤ 2
  | 0, h, r, e => by have : r = 2 := e; omega
  | m + 1, h, r, ⟨e, _, h2⟩ => by
    rcases h2 with h2 | h2 | h2
    · omega
    · omega
    · exact i_led_r h2.2.2
set_option maxHeartbeats 4000000 in
theorem l_ledFrom {G : j_G} {X : k_X} {n : Nat} {σ : k_St} {a : Nat} (hA : i_at X n a) (hw : i_wf σ a) {h0 : Int} : ∀ (m : Nat) (s h : Int), s + m = σ.2.1 a 0 + 1 → 0 ≤ s → (0 ≤ h ∧ h ≤ 29) → j_at G mX3_ledFrom 4 [(0, .ref a), (1, j_i h0), (2, j_i h), (3, j_i s)] [] (k_h X n σ) 0 0 (k_Q X (k_ex n σ (i_led σ a m h))) := by
  intro m
  induction m with
  | zero =>
    intro s h hm hs hh
    obtain ⟨h5, hs0, hs1, hs2, hs3, hs4, hs5, hs6, hs7⟩ := id hA
    obtain ⟨hc, hpc, hlc, hlo, hv⟩ := id hw
    refine a_iload_n (pc := 4) (i := 3) (by decide +kernel) rfl ?_
    refine a_aload_n (pc := 5) (i := 0) (by decide +kernel) rfl ?_
    refine b_getI (pc := 6) fl_X3_9 (by decide +kernel) hs0 rfl ?_
    refine a_icmp_gt (pc := 9) (off := 66) (tgt := 75) (by decide +kernel) (by decide) (by omega) (by omega) (fun c9 => ?_) (fun c9 => ?_)
    · refine a_iconst (pc := 75) (n := 2) (by decide +kernel) ?_
      refine a_ireturn (pc := 76) (by decide +kernel) rfl ?_
      refine k_ret ?_
      exact k_exI rfl
    · exfalso; omega
  | succ m ih =>
    intro s h hm hs hh
    obtain ⟨h5, hs0, hs1, hs2, hs3, hs4, hs5, hs6, hs7⟩ := id hA
    obtain ⟨hc, hpc, hlc, hlo, hv⟩ := id hw
    refine a_iload_n (pc := 4) (i := 3) (by decide +kernel) rfl ?_
    refine a_aload_n (pc := 5) (i := 0) (by decide +kernel) rfl ?_
    refine b_getI (pc := 6) fl_X3_9 (by decide +kernel) hs0 rfl ?_
    refine a_icmp_gt (pc := 9) (off := 66) (tgt := 75) (by decide +kernel) (by decide) (by omega) (by omega) (fun c9 => ?_) (fun c9 => ?_)
    · refine a_iconst (pc := 75) (n := 2) (by decide +kernel) ?_
      refine a_ireturn (pc := 76) (by decide +kernel) rfl ?_
      refine k_ret ?_
      exfalso; omega
    · have hpr := f_path_in (a := h) (b := -9) (c := -9) (by unfold f_hd; omega) (by unfold f_hd; omega) (by unfold f_hd; omega)
      refine a_aload_n (pc := 12) (i := 0) (by decide +kernel) rfl ?_
      refine a_iload_n (pc := 13) (i := 2) (by decide +kernel) rfl ?_
      refine a_bipush (pc := 14) (n := (-9)) (by decide +kernel) rfl ?_
      refine a_bipush (pc := 16) (n := (-9)) (by decide +kernel) rfl ?_
      refine b_pureS (pc := 18) [j_i h, j_i (-9), j_i (-9)] [.ref a] ml_X3_86 (by decide +kernel) rfl rfl (Nat.le_of_ble_eq_true rfl) (j_fitI rfl rfl) (s_pathOf (by omega) (by omega) (by omega)) ?_
      show j_at _ _ _ [(0, .ref a), (1, j_i h0), (2, j_i h), (3, j_i s)] [j_i (f_path h (-9) (-9)), .ref a] _ _ _ _
      refine b_callV (pc := 21) (c' := 0) (sl' := 0) [j_i (f_path h (-9) (-9))] [] ml_X3_90 (by decide +kernel) rfl rfl hs0 rfl rfl (Nat.le_of_ble_eq_true rfl) (j_fitI rfl rfl) (s_entryOf hA hw (by omega)) (fun v n' σ' hq => ?_)
      obtain ⟨e1, rfl, e1, e2, he1⟩ := hq
      rw [e1, e2]; clear e1 e2
      have re1 := i_of_r he1
      show j_at _ _ _ [(0, .ref a), (1, j_i h0), (2, j_i h), (3, j_i s)] [j_i e1] _ _ _ _
      refine a_istore (pc := 24) (i := 4) (lv' := [(0, .ref a), (1, j_i h0), (2, j_i h), (3, j_i s), (4, j_i e1)]) (by decide +kernel) (Nat.le_of_ble_eq_true rfl) rfl ?_
      refine a_iload (pc := 26) (i := 4) (by decide +kernel) rfl ?_
      refine a_bipush (pc := 28) (n := (-9)) (by decide +kernel) rfl ?_
      refine a_icmp_ne (pc := 30) (off := 5) (tgt := 35) (by decide +kernel) (by decide) (by omega) (by omega) (fun c30 => ?_) (fun c30 => ?_)
      · refine a_aload_n (pc := 35) (i := 0) (by decide +kernel) rfl ?_
        refine a_iload (pc := 36) (i := 4) (by decide +kernel) rfl ?_
        refine b_callV (pc := 38) (c' := 0) (sl' := 0) [j_i e1] [] ml_X3_93 (by decide +kernel) rfl rfl hs0 rfl rfl (Nat.le_of_ble_eq_true rfl) (j_fitI rfl rfl) (s_hasBody hA hw (by omega)) (fun v n' σ' hq => ?_)
        obtain ⟨x, rfl, e1, e2, hx⟩ := hq
        rw [e1, e2]; clear e1 e2
        rcases hx with ⟨rfl, p38⟩ | ⟨rfl, p38⟩
        · show j_at _ _ _ [(0, .ref a), (1, j_i h0), (2, j_i h), (3, j_i s), (4, j_i e1)] [j_i 1] _ _ _ _
          refine a_if_eq (pc := 41) (off := 5) (tgt := 46) (by decide +kernel) (by decide) (by omega) (fun c41 => ?_) (fun c41 => ?_)
          · exact absurd c41 (by decide)
          · refine a_iconst (pc := 44) (n := 0) (by decide +kernel) ?_
            refine a_ireturn (pc := 45) (by decide +kernel) rfl ?_
            refine k_ret ?_
            exact k_exI ⟨e1, he1, Or.inr (Or.inl ⟨c30, p38, rfl⟩)⟩
        · show j_at _ _ _ [(0, .ref a), (1, j_i h0), (2, j_i h), (3, j_i s), (4, j_i e1)] [j_i 0] _ _ _ _
          refine a_if_eq (pc := 41) (off := 5) (tgt := 46) (by decide +kernel) (by decide) (by omega) (fun c41 => ?_) (fun c41 => ?_)
          · refine a_aload_n (pc := 46) (i := 0) (by decide +kernel) rfl ?_
            refine a_iload (pc := 47) (i := 4) (by decide +kernel) rfl ?_
            refine b_pureV (pc := 49) [j_i e1] [] ml_X3_96 (by decide +kernel) rfl rfl hs0 rfl rfl (Nat.le_of_ble_eq_true rfl) (j_fitI rfl rfl) (s_seesOf hA hw (by omega)) ?_
            have qi2 := i_sn_in hw e1
            show j_at _ _ _ [(0, .ref a), (1, j_i h0), (2, j_i h), (3, j_i s), (4, j_i e1)] [j_i (i_sn σ a e1)] _ _ _ _
            refine a_if_le (pc := 52) (off := 17) (tgt := 69) (by decide +kernel) (by decide) (by omega) (fun c52 => ?_) (fun c52 => ?_)
            · refine a_iinc (pc := 69) (i := 3) (n := 1) (x := s) (lv' := [(0, .ref a), (1, j_i h0), (2, j_i h), (3, j_i (s + 1)), (4, j_i e1)]) (by decide +kernel) rfl (Nat.le_of_ble_eq_true rfl) rfl ?_
              refine a_goto (pc := 72) (off := -68) (tgt := 4) (by decide +kernel) (by decide) ?_
              refine a_post (pc := 4) (fun v h9 q9 => ?_) (a_sub (fun q hq => by simp only [List.mem_cons, List.not_mem_nil, or_false] at hq ⊢; rcases hq with rfl | rfl | rfl | rfl <;> simp) (ih (s + 1) h (by omega) (by omega) (by omega)))
              obtain ⟨n9, σ9, r1, r, r2, r3, r4, r5⟩ := q9
              refine ⟨n9, σ9, r1, r, r2, r3, r4, e1, he1, Or.inr (Or.inr ⟨c30, p38, ?_⟩)⟩
              rw [if_neg (by omega)]; exact r5
            · refine a_aload_n (pc := 55) (i := 0) (by decide +kernel) rfl ?_
              refine b_getR (pc := 56) (b := a + 5) fl_X3_31 (by decide +kernel) hs0 rfl ?_
              refine a_aload_n (pc := 59) (i := 0) (by decide +kernel) rfl ?_
              refine a_iload (pc := 60) (i := 4) (by decide +kernel) rfl ?_
              refine b_pureV (pc := 62) [j_i e1] [.ref (a + 5)] ml_X3_60 (by decide +kernel) rfl rfl hs0 rfl rfl (Nat.le_of_ble_eq_true rfl) (j_fitI rfl rfl) (s_leadStart hA hw (by omega)) ?_
              have qi3 := i_ls_in hw e1
              show j_at _ _ _ [(0, .ref a), (1, j_i h0), (2, j_i h), (3, j_i s), (4, j_i e1)] [j_i (i_ls σ a e1), .ref (a + 5)] _ _ _ _
              refine a_iconst (pc := 65) (n := 3) (by decide +kernel) ?_
              refine a_imul (pc := 66) (by decide +kernel) ?_
              have hvl := (hv (i_ls σ a e1 * 3)).2.2.2.2.1
              refine b_iaload (pc := 67) (by decide +kernel) hs5 (by omega) (by omega) (by omega) ?_
              refine a_istore_n (pc := 68) (i := 2) (lv' := [(0, .ref a), (1, j_i h0), (2, j_i (σ.1 (a + 5) ((i_ls σ a e1) * 3))), (3, j_i s), (4, j_i e1)]) (by decide +kernel) (Nat.le_of_ble_eq_true rfl) rfl ?_
              refine a_iinc (pc := 69) (i := 3) (n := 1) (x := s) (lv' := [(0, .ref a), (1, j_i h0), (2, j_i (σ.1 (a + 5) ((i_ls σ a e1) * 3))), (3, j_i (s + 1)), (4, j_i e1)]) (by decide +kernel) rfl (Nat.le_of_ble_eq_true rfl) rfl ?_
              refine a_goto (pc := 72) (off := -68) (tgt := 4) (by decide +kernel) (by decide) ?_
              refine a_post (pc := 4) (fun v h9 q9 => ?_) (a_sub (fun q hq => by simp only [List.mem_cons, List.not_mem_nil, or_false] at hq ⊢; rcases hq with rfl | rfl | rfl | rfl <;> simp) (ih (s + 1) (σ.1 (a + 5) ((i_ls σ a e1) * 3)) (by omega) (by omega) (by omega)))
              obtain ⟨n9, σ9, r1, r, r2, r3, r4, r5⟩ := q9
              refine ⟨n9, σ9, r1, r, r2, r3, r4, e1, he1, Or.inr (Or.inr ⟨c30, p38, ?_⟩)⟩
              rw [if_pos c52]; exact r5
          · exact absurd c41 (by decide)
      · refine a_iconst (pc := 33) (n := 1) (by decide +kernel) ?_
        refine a_ireturn (pc := 34) (by decide +kernel) rfl ?_
        refine k_ret ?_
        exact k_exI ⟨e1, he1, Or.inl ⟨c30, rfl⟩⟩
set_option maxHeartbeats 4000000 in
theorem s_ledFrom {G : j_G} {X : k_X} {n : Nat} {σ : k_St} {a : Nat} (hA : i_at X n a) (hw : i_wf σ a) {h : Int} (hh : 0 ≤ h ∧ h ≤ 29) : k_run G X mX3_ledFrom [.ref a, j_i h] n σ 0 0 (k_ex n σ (i_led σ a (σ.2.1 a 0 + 1).toNat h)) := by
  obtain ⟨h5, hs0, hs1, hs2, hs3, hs4, hs5, hs6, hs7⟩ := id hA
  obtain ⟨hc, hpc, hlc, hlo, hv⟩ := id hw
  refine k_enter (by decide +kernel) (Nat.le_of_ble_eq_true rfl) ?_
  show j_at _ _ _ [(0, .ref a), (1, j_i h)] [] _ _ _ _
  refine a_iload_n (pc := 0) (i := 1) (by decide +kernel) rfl ?_
  refine a_istore_n (pc := 1) (i := 2) (lv' := [(0, .ref a), (1, j_i h), (2, j_i h)]) (by decide +kernel) (Nat.le_of_ble_eq_true rfl) rfl ?_
  refine a_iconst (pc := 2) (n := 0) (by decide +kernel) ?_
  refine a_istore_n (pc := 3) (i := 3) (lv' := [(0, .ref a), (1, j_i h), (2, j_i h), (3, j_i 0)]) (by decide +kernel) (Nat.le_of_ble_eq_true rfl) rfl ?_
  have e := l_ledFrom (G := G) (X := X) (h0 := h) hA hw (σ.2.1 a 0 + 1).toNat 0 h (by omega) (by omega) hh
  exact e
