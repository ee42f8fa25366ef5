def i_lkL (σ : k_St) (a : Nat) (e : Int) (b : Nat) (q k : Int) : Prop := σ.1 (a + 5) ((i_ls σ a e + k) * 3) = σ.1 (b + 5) ((i_ls σ b q + k) * 3) ∧ σ.1 (a + 5) ((i_ls σ a e + k) * 3 + 1) = σ.1 (b + 5) ((i_ls σ b q + k) * 3 + 1)
def i_likeL (σ : k_St) (a : Nat) (e : Int) (b : Nat) (q : Int) : Prop := ∀ k, 0 ≤ k → k < i_sn σ a e → i_lkL σ a e b q k
def i_like (σ : k_St) (a : Nat) (e : Int) (b : Nat) (q : Int) : Prop := i_pn σ a e = i_pn σ b q ∧ i_sn σ a e = i_sn σ b q ∧ (∀ k, 0 ≤ k → k < i_pn σ a e * 4 → σ.1 (a + 4) (i_ps σ a e * 4 + k) = σ.1 (b + 4) (i_ps σ b q * 4 + k)) ∧ i_likeL σ a e b q
set_option maxHeartbeats 4000000 in
theorem l_likeLeads {G : j_G} {X : k_X} {n : Nat} {σ : k_St} {a : Nat} (hA : i_at X n a) (hw : i_wf σ a) {b : Nat} (hB : i_at X n b) (hwb : i_wf σ b) {e q : Int} (he : -2147483648 ≤ e ∧ e ≤ 2147483647) (hq : -2147483648 ≤ q ∧ q ≤ 2147483647) (hsn : i_sn σ a e = i_sn σ b q) : ∀ (m : Nat) (i : Int), 50 - i < (m : Int) → 0 ≤ i → (i ≤ i_sn σ a e ∨ i = 0) → (∀ k, 0 ≤ k → k < i → i_lkL σ a e b q k) → j_at G mX3_hasLikeLeads 3 [(0, .ref a), (1, j_i e), (2, .ref b), (3, j_i q), (4, j_i i)] [] (k_h X n σ) 0 0 (k_Q X (k_b n σ (i_likeL σ a e b q))) := by
  intro m
  induction m with
  | zero => intro i h1 h2 h3; exact absurd h3 (by have := i_sn_in hw e; have := i_ls_in hw e; omega)
  | succ m ih =>
    intro i hm h0 hN hI
    obtain ⟨h5, hs0, hs1, hs2, hs3, hs4, hs5, hs6, hs7⟩ := id hA
    obtain ⟨hc, hpc, hlc, hlo, hv⟩ := id hw
    obtain ⟨g5, gs0, gs1, gs2, gs3, gs4, gs5, gs6, gs7⟩ := id hB
    obtain ⟨-, -, -, -, hvb⟩ := id hwb
    have hsz := i_sn_in hw e
    refine a_iload (pc := 3) (i := 4) (by decide +kernel) rfl ?_
    refine a_aload_n (pc := 5) (i := 0) (by decide +kernel) rfl ?_
    refine a_iload_n (pc := 6) (i := 1) (by decide +kernel) rfl ?_
    refine b_pureV (pc := 7) [j_i e] [j_i i] ml_X3_96 (by decide +kernel) rfl rfl hs0 rfl rfl (Nat.le_of_ble_eq_true rfl) (j_fitI rfl rfl) (s_seesOf hA hw (by omega)) ?_
    have qi1 := i_sn_in hw e
    show j_at _ _ _ [(0, .ref a), (1, j_i e), (2, .ref b), (3, j_i q), (4, j_i i)] [j_i (i_sn σ a e), j_i i] _ _ _ _
    refine a_icmp_ge (pc := 10) (off := 73) (tgt := 83) (by decide +kernel) (by decide) (by omega) (by omega) (fun c10 => ?_) (fun c10 => ?_)
    · refine a_iconst (pc := 83) (n := 1) (by decide +kernel) ?_
      refine a_zreturn (pc := 84) (by decide +kernel) rfl (by omega) ?_
      refine k_ret ?_
      exact k_by (fun k k0 k1 => hI k k0 (by omega))
    · refine a_aload_n (pc := 13) (i := 0) (by decide +kernel) rfl ?_
      refine a_iload_n (pc := 14) (i := 1) (by decide +kernel) rfl ?_
      refine b_pureV (pc := 15) [j_i e] [] ml_X3_60 (by decide +kernel) rfl rfl hs0 rfl rfl (Nat.le_of_ble_eq_true rfl) (j_fitI rfl rfl) (s_leadStart hA hw (by omega)) ?_
      have qi2 := i_ls_in hw e
      show j_at _ _ _ [(0, .ref a), (1, j_i e), (2, .ref b), (3, j_i q), (4, j_i i)] [j_i (i_ls σ a e)] _ _ _ _
      refine a_iload (pc := 18) (i := 4) (by decide +kernel) rfl ?_
      refine a_iadd (pc := 20) (by decide +kernel) ?_
      refine a_iconst (pc := 21) (n := 3) (by decide +kernel) ?_
      refine a_imul (pc := 22) (by decide +kernel) ?_
      refine a_istore (pc := 23) (i := 5) (lv' := [(0, .ref a), (1, j_i e), (2, .ref b), (3, j_i q), (4, j_i i), (5, j_i (((i_ls σ a e) + i) * 3))]) (by decide +kernel) (Nat.le_of_ble_eq_true rfl) rfl ?_
      refine a_aload_n (pc := 25) (i := 2) (by decide +kernel) rfl ?_
      refine a_iload_n (pc := 26) (i := 3) (by decide +kernel) rfl ?_
      refine b_pureV (pc := 27) [j_i q] [] ml_X3_60 (by decide +kernel) rfl rfl gs0 rfl rfl (Nat.le_of_ble_eq_true rfl) (j_fitI rfl rfl) (s_leadStart hB hwb (by omega)) ?_
      have qi3 := i_ls_in hwb q
      show j_at _ _ _ [(0, .ref a), (1, j_i e), (2, .ref b), (3, j_i q), (4, j_i i), (5, j_i (((i_ls σ a e) + i) * 3))] [j_i (i_ls σ b q)] _ _ _ _
      refine a_iload (pc := 30) (i := 4) (by decide +kernel) rfl ?_
      refine a_iadd (pc := 32) (by decide +kernel) ?_
      refine a_iconst (pc := 33) (n := 3) (by decide +kernel) ?_
      refine a_imul (pc := 34) (by decide +kernel) ?_
      refine a_istore (pc := 35) (i := 6) (lv' := [(0, .ref a), (1, j_i e), (2, .ref b), (3, j_i q), (4, j_i i), (5, j_i (((i_ls σ a e) + i) * 3)), (6, j_i (((i_ls σ b q) + i) * 3))]) (by decide +kernel) (Nat.le_of_ble_eq_true rfl) rfl ?_
      refine a_aload_n (pc := 37) (i := 0) (by decide +kernel) rfl ?_
      refine b_getR (pc := 38) (b := a + 5) fl_X3_31 (by decide +kernel) hs0 rfl ?_
      have l1 := i_sn_in hwb q
      refine a_iload (pc := 41) (i := 5) (by decide +kernel) rfl ?_
      refine b_iaload (pc := 43) (by decide +kernel) hs5 (by omega) (by omega) (by omega) ?_
      refine a_aload_n (pc := 44) (i := 2) (by decide +kernel) rfl ?_
      refine b_getR (pc := 45) (b := b + 5) fl_X3_31 (by decide +kernel) gs0 rfl ?_
      refine a_iload (pc := 48) (i := 6) (by decide +kernel) rfl ?_
      refine b_iaload (pc := 50) (by decide +kernel) gs5 (by omega) (by omega) (by omega) ?_
      have v1 := (hv ((i_ls σ a e + i) * 3)).2.2.2.2.1
      have v2 := (hvb ((i_ls σ b q + i) * 3)).2.2.2.2.1
      have v3 := (hv ((i_ls σ a e + i) * 3 + 1)).2.2.2.2.1
      have v4 := (hvb ((i_ls σ b q + i) * 3 + 1)).2.2.2.2.1
      refine a_icmp_ne (pc := 51) (off := 24) (tgt := 75) (by decide +kernel) (by decide) (by omega) (by omega) (fun c51 => ?_) (fun c51 => ?_)
      · refine a_iconst (pc := 75) (n := 0) (by decide +kernel) ?_
        refine a_zreturn (pc := 76) (by decide +kernel) rfl (by omega) ?_
        refine k_ret ?_
        refine k_bn (fun h9 => ?_)
        have h8 := h9 i h0 c10
        first | exact c51 h8.1 | exact c72 h8.2
      · refine a_aload_n (pc := 54) (i := 0) (by decide +kernel) rfl ?_
        refine b_getR (pc := 55) (b := a + 5) fl_X3_31 (by decide +kernel) hs0 rfl ?_
        refine a_iload (pc := 58) (i := 5) (by decide +kernel) rfl ?_
        refine a_iconst (pc := 60) (n := 1) (by decide +kernel) ?_
        refine a_iadd (pc := 61) (by decide +kernel) ?_
        refine b_iaload (pc := 62) (by decide +kernel) hs5 (by omega) (by omega) (by omega) ?_
        refine a_aload_n (pc := 63) (i := 2) (by decide +kernel) rfl ?_
        refine b_getR (pc := 64) (b := b + 5) fl_X3_31 (by decide +kernel) gs0 rfl ?_
        refine a_iload (pc := 67) (i := 6) (by decide +kernel) rfl ?_
        refine a_iconst (pc := 69) (n := 1) (by decide +kernel) ?_
        refine a_iadd (pc := 70) (by decide +kernel) ?_
        refine b_iaload (pc := 71) (by decide +kernel) gs5 (by omega) (by omega) (by omega) ?_
        refine a_icmp_eq (pc := 72) (off := 5) (tgt := 77) (by decide +kernel) (by decide) (by omega) (by omega) (fun c72 => ?_) (fun c72 => ?_)
        · refine a_iinc (pc := 77) (i := 4) (n := 1) (x := i) (lv' := [(0, .ref a), (1, j_i e), (2, .ref b), (3, j_i q), (4, j_i (i + 1)), (5, j_i (((i_ls σ a e) + i) * 3)), (6, j_i (((i_ls σ b q) + i) * 3))]) (by decide +kernel) rfl (Nat.le_of_ble_eq_true rfl) rfl ?_
          refine a_goto (pc := 80) (off := -77) (tgt := 3) (by decide +kernel) (by decide) ?_
          exact a_sub (fun q hq => by simp only [List.mem_cons, List.not_mem_nil, or_false] at hq ⊢; rcases hq with rfl | rfl | rfl | rfl | rfl <;> simp) (ih (i + 1) (by omega) (by omega) (by omega) (lt_succ_cases hI ⟨c51, c72⟩))
        · refine a_iconst (pc := 75) (n := 0) (by decide +kernel) ?_
          refine a_zreturn (pc := 76) (by decide +kernel) rfl (by omega) ?_
          refine k_ret ?_
          refine k_bn (fun h9 => ?_)
          have h8 := h9 i h0 c10
          first | exact c51 h8.1 | exact c72 h8.2
set_option maxHeartbeats 4000000 in
theorem s_likeLeads {G : j_G} {X : k_X} {n : Nat} {σ : k_St} {a : Nat} (hA : i_at X n a) (hw : i_wf σ a) {b : Nat} (hB : i_at X n b) (hwb : i_wf σ b) {e q : Int} (he : -2147483648 ≤ e ∧ e ≤ 2147483647) (hq : -2147483648 ≤ q ∧ q ≤ 2147483647) (hsn : i_sn σ a e = i_sn σ b q) : k_run G X mX3_hasLikeLeads [.ref a, j_i e, .ref b, j_i q] n σ 0 0 (k_b n σ (i_likeL σ a e b q)) := by
  obtain ⟨h5, hs0, hs1, hs2, hs3, hs4, hs5, hs6, hs7⟩ := id hA
  obtain ⟨hc, hpc, hlc, hlo, hv⟩ := id hw
  obtain ⟨g5, gs0, gs1, gs2, gs3, gs4, gs5, gs6, gs7⟩ := id hB
  obtain ⟨-, -, -, -, hvb⟩ := id hwb
  refine k_enter (by decide +kernel) (Nat.le_of_ble_eq_true rfl) ?_
  show j_at _ _ _ [(0, .ref a), (1, j_i e), (2, .ref b), (3, j_i q)] [] _ _ _ _
  refine a_iconst (pc := 0) (n := 0) (by decide +kernel) ?_
  refine a_istore (pc := 1) (i := 4) (lv' := [(0, .ref a), (1, j_i e), (2, .ref b), (3, j_i q), (4, j_i 0)]) (by decide +kernel) (Nat.le_of_ble_eq_true rfl) rfl ?_
  exact l_likeLeads hA hw hB hwb he hq hsn 51 0 (by omega) (by omega) (Or.inr rfl) (fun k k0 k1 => absurd k0 (by omega))
set_option maxHeartbeats 4000000 in
theorem l_isAlike {G : j_G} {X : k_X} {n : Nat} {σ : k_St} {a : Nat} (hA : i_at X n a) (hw : i_wf σ a) {b : Nat} (hB : i_at X n b) (hwb : i_wf σ b) {e q : Int} (he : -2147483648 ≤ e ∧ e ≤ 2147483647) (hq : -2147483648 ≤ q ∧ q ≤ 2147483647) (hpn : i_pn σ a e = i_pn σ b q) (hsn : i_sn σ a e = i_sn σ b q) : ∀ (m : Nat) (i : Int), 200 - i < (m : Int) → 0 ≤ i → (i ≤ i_pn σ a e * 4 ∨ i = 0) → (∀ k, 0 ≤ k → k < i → σ.1 (a + 4) (i_ps σ a e * 4 + k) = σ.1 (b + 4) (i_ps σ b q * 4 + k)) → j_at G mX3_isAlike 49 [(0, .ref a), (1, j_i e), (2, .ref b), (3, j_i q), (4, j_i (i_ps σ a e * 4)), (5, j_i (i_ps σ b q * 4)), (6, j_i i)] [] (k_h X n σ) 0 0 (k_Q X (k_b n σ (i_like σ a e b q))) := by
  intro m
  induction m with
  | zero => intro i h1 h2 h3; exact absurd h3 (by have := i_pn_in hw e; have := i_ps_in hw e; omega)
  | succ m ih =>
    intro i hm h0 hN hI
    obtain ⟨h5, hs0, hs1, hs2, hs3, hs4, hs5, hs6, hs7⟩ := id hA
    obtain ⟨hc, hpc, hlc, hlo, hv⟩ := id hw
    obtain ⟨g5, gs0, gs1, gs2, gs3, gs4, gs5, gs6, gs7⟩ := id hB
    obtain ⟨-, -, -, -, hvb⟩ := id hwb
    have hsz := i_pn_in hw e
    refine a_iload (pc := 49) (i := 6) (by decide +kernel) rfl ?_
    refine a_aload_n (pc := 51) (i := 0) (by decide +kernel) rfl ?_
    refine a_iload_n (pc := 52) (i := 1) (by decide +kernel) rfl ?_
    refine b_pureV (pc := 53) [j_i e] [j_i i] ml_X3_66 (by decide +kernel) rfl rfl hs0 rfl rfl (Nat.le_of_ble_eq_true rfl) (j_fitI rfl rfl) (s_placesOf hA hw (by omega)) ?_
    have qi1 := i_pn_in hw e
    show j_at _ _ _ [(0, .ref a), (1, j_i e), (2, .ref b), (3, j_i q), (4, j_i (i_ps σ a e * 4)), (5, j_i (i_ps σ b q * 4)), (6, j_i i)] [j_i (i_pn σ a e), j_i i] _ _ _ _
    refine a_iconst (pc := 56) (n := 4) (by decide +kernel) ?_
    refine a_imul (pc := 57) (by decide +kernel) ?_
    refine a_icmp_ge (pc := 58) (off := 34) (tgt := 92) (by decide +kernel) (by decide) (by omega) (by omega) (fun c58 => ?_) (fun c58 => ?_)
    · refine a_aload_n (pc := 92) (i := 0) (by decide +kernel) rfl ?_
      refine a_iload_n (pc := 93) (i := 1) (by decide +kernel) rfl ?_
      refine a_aload_n (pc := 94) (i := 2) (by decide +kernel) rfl ?_
      refine a_iload_n (pc := 95) (i := 3) (by decide +kernel) rfl ?_
      refine b_callV (pc := 96) (c' := 0) (sl' := 0) [j_i e, .ref b, j_i q] [] ml_X3_102 (by decide +kernel) rfl rfl hs0 rfl rfl (Nat.le_of_ble_eq_true rfl) (j_fitI rfl rfl) (s_likeLeads hA hw hB hwb he hq hsn) (fun v n' σ' hq => ?_)
      obtain ⟨x, rfl, e1, e2, hx⟩ := hq
      rw [e1, e2]; clear e1 e2
      rcases hx with ⟨rfl, p96⟩ | ⟨rfl, p96⟩
      · show j_at _ _ _ [(0, .ref a), (1, j_i e), (2, .ref b), (3, j_i q), (4, j_i (i_ps σ a e * 4)), (5, j_i (i_ps σ b q * 4)), (6, j_i i)] [j_i 1] _ _ _ _
        refine a_zreturn (pc := 99) (by decide +kernel) rfl (by omega) ?_
        refine k_ret ?_
        exact k_by ⟨hpn, hsn, fun k k0 k1 => hI k k0 (by omega), p96⟩
      · show j_at _ _ _ [(0, .ref a), (1, j_i e), (2, .ref b), (3, j_i q), (4, j_i (i_ps σ a e * 4)), (5, j_i (i_ps σ b q * 4)), (6, j_i i)] [j_i 0] _ _ _ _
        refine a_zreturn (pc := 99) (by decide +kernel) rfl (by omega) ?_
        refine k_ret ?_
        exact k_bn (fun h9 => p96 h9.2.2.2)
    · have l1 := i_pn_in hwb q
      have l2 := i_ps_in hw e
      have l3 := i_ps_in hwb q
      refine a_aload_n (pc := 61) (i := 0) (by decide +kernel) rfl ?_
      refine b_getR (pc := 62) (b := a + 4) fl_X3_25 (by decide +kernel) hs0 rfl ?_
      refine a_iload (pc := 65) (i := 4) (by decide +kernel) rfl ?_
      refine a_iload (pc := 67) (i := 6) (by decide +kernel) rfl ?_
      refine a_iadd (pc := 69) (by decide +kernel) ?_
      refine b_iaload (pc := 70) (by decide +kernel) hs4 (by omega) (by omega) (by omega) ?_
      refine a_aload_n (pc := 71) (i := 2) (by decide +kernel) rfl ?_
      refine b_getR (pc := 72) (b := b + 4) fl_X3_25 (by decide +kernel) gs0 rfl ?_
      refine a_iload (pc := 75) (i := 5) (by decide +kernel) rfl ?_
      refine a_iload (pc := 77) (i := 6) (by decide +kernel) rfl ?_
      refine a_iadd (pc := 79) (by decide +kernel) ?_
      refine b_iaload (pc := 80) (by decide +kernel) gs4 (by omega) (by omega) (by omega) ?_
      have v1 := (hv (i_ps σ a e * 4 + i)).2.2.2.1
      have v2 := (hvb (i_ps σ b q * 4 + i)).2.2.2.1
      refine a_icmp_eq (pc := 81) (off := 5) (tgt := 86) (by decide +kernel) (by decide) (by omega) (by omega) (fun c81 => ?_) (fun c81 => ?_)
      · refine a_iinc (pc := 86) (i := 6) (n := 1) (x := i) (lv' := [(0, .ref a), (1, j_i e), (2, .ref b), (3, j_i q), (4, j_i (i_ps σ a e * 4)), (5, j_i (i_ps σ b q * 4)), (6, j_i (i + 1))]) (by decide +kernel) rfl (Nat.le_of_ble_eq_true rfl) rfl ?_
        refine a_goto (pc := 89) (off := -40) (tgt := 49) (by decide +kernel) (by decide) ?_
        exact ih (i + 1) (by omega) (by omega) (by omega) (lt_succ_cases hI c81)
      · refine a_iconst (pc := 84) (n := 0) (by decide +kernel) ?_
        refine a_zreturn (pc := 85) (by decide +kernel) rfl (by omega) ?_
        refine k_ret ?_
        exact k_bn (fun h9 => c81 (h9.2.2.1 i h0 c58))
set_option maxHeartbeats 4000000 in
theorem s_isAlike {G : j_G} {X : k_X} {n : Nat} {σ : k_St} {a : Nat} (hA : i_at X n a) (hw : i_wf σ a) {b : Nat} (hB : i_at X n b) (hwb : i_wf σ b) {e q : Int} (he : -2147483648 ≤ e ∧ e ≤ 2147483647) (hq : -2147483648 ≤ q ∧ q ≤ 2147483647)  : k_run G X mX3_isAlike [.ref a, j_i e, .ref b, j_i q] n σ 0 0 (k_b n σ (i_like σ a e b q)) := by
  obtain ⟨h5, hs0, hs1, hs2, hs3, hs4, hs5, hs6, hs7⟩ := id hA
  obtain ⟨hc, hpc, hlc, hlo, hv⟩ := id hw
  obtain ⟨g5, gs0, gs1, gs2, gs3, gs4, gs5, gs6, gs7⟩ := id hB
  obtain ⟨-, -, -, -, hvb⟩ := id hwb
  refine k_enter (by decide +kernel) (Nat.le_of_ble_eq_true rfl) ?_
  show j_at _ _ _ [(0, .ref a), (1, j_i e), (2, .ref b), (3, j_i q)] [] _ _ _ _
  refine a_aload_n (pc := 0) (i := 0) (by decide +kernel) rfl ?_
  refine a_iload_n (pc := 1) (i := 1) (by decide +kernel) rfl ?_
  refine b_pureV (pc := 2) [j_i e] [] ml_X3_66 (by decide +kernel) rfl rfl hs0 rfl rfl (Nat.le_of_ble_eq_true rfl) (j_fitI rfl rfl) (s_placesOf hA hw (by omega)) ?_
  have qi1 := i_pn_in hw e
  show j_at _ _ _ [(0, .ref a), (1, j_i e), (2, .ref b), (3, j_i q)] [j_i (i_pn σ a e)] _ _ _ _
  refine a_aload_n (pc := 5) (i := 2) (by decide +kernel) rfl ?_
  refine a_iload_n (pc := 6) (i := 3) (by decide +kernel) rfl ?_
  refine b_pureV (pc := 7) [j_i q] [j_i (i_pn σ a e)] ml_X3_66 (by decide +kernel) rfl rfl gs0 rfl rfl (Nat.le_of_ble_eq_true rfl) (j_fitI rfl rfl) (s_placesOf hB hwb (by omega)) ?_
  have qi2 := i_pn_in hwb q
  show j_at _ _ _ [(0, .ref a), (1, j_i e), (2, .ref b), (3, j_i q)] [j_i (i_pn σ b q), j_i (i_pn σ a e)] _ _ _ _
  refine a_icmp_ne (pc := 10) (off := 16) (tgt := 26) (by decide +kernel) (by decide) (by omega) (by omega) (fun c10 => ?_) (fun c10 => ?_)
  · refine a_iconst (pc := 26) (n := 0) (by decide +kernel) ?_
    refine a_zreturn (pc := 27) (by decide +kernel) rfl (by omega) ?_
    refine k_ret ?_
    refine k_bn (fun h9 => ?_)
    first | exact c10 h9.1 | exact c23 h9.2.1
  · refine a_aload_n (pc := 13) (i := 0) (by decide +kernel) rfl ?_
    refine a_iload_n (pc := 14) (i := 1) (by decide +kernel) rfl ?_
    refine b_pureV (pc := 15) [j_i e] [] ml_X3_96 (by decide +kernel) rfl rfl hs0 rfl rfl (Nat.le_of_ble_eq_true rfl) (j_fitI rfl rfl) (s_seesOf hA hw (by omega)) ?_
    have qi3 := i_sn_in hw e
    show j_at _ _ _ [(0, .ref a), (1, j_i e), (2, .ref b), (3, j_i q)] [j_i (i_sn σ a e)] _ _ _ _
    refine a_aload_n (pc := 18) (i := 2) (by decide +kernel) rfl ?_
    refine a_iload_n (pc := 19) (i := 3) (by decide +kernel) rfl ?_
    refine b_pureV (pc := 20) [j_i q] [j_i (i_sn σ a e)] ml_X3_96 (by decide +kernel) rfl rfl gs0 rfl rfl (Nat.le_of_ble_eq_true rfl) (j_fitI rfl rfl) (s_seesOf hB hwb (by omega)) ?_
    have qi4 := i_sn_in hwb q
    show j_at _ _ _ [(0, .ref a), (1, j_i e), (2, .ref b), (3, j_i q)] [j_i (i_sn σ b q), j_i (i_sn σ a e)] _ _ _ _
    refine a_icmp_eq (pc := 23) (off := 5) (tgt := 28) (by decide +kernel) (by decide) (by omega) (by omega) (fun c23 => ?_) (fun c23 => ?_)
    · refine a_aload_n (pc := 28) (i := 0) (by decide +kernel) rfl ?_
      refine a_iload_n (pc := 29) (i := 1) (by decide +kernel) rfl ?_
      refine b_pureV (pc := 30) [j_i e] [] ml_X3_56 (by decide +kernel) rfl rfl hs0 rfl rfl (Nat.le_of_ble_eq_true rfl) (j_fitI rfl rfl) (s_placeStart hA hw (by omega)) ?_
      have qi5 := i_ps_in hw e
      show j_at _ _ _ [(0, .ref a), (1, j_i e), (2, .ref b), (3, j_i q)] [j_i (i_ps σ a e)] _ _ _ _
      refine a_iconst (pc := 33) (n := 4) (by decide +kernel) ?_
      refine a_imul (pc := 34) (by decide +kernel) ?_
      refine a_istore (pc := 35) (i := 4) (lv' := [(0, .ref a), (1, j_i e), (2, .ref b), (3, j_i q), (4, j_i ((i_ps σ a e) * 4))]) (by decide +kernel) (Nat.le_of_ble_eq_true rfl) rfl ?_
      refine a_aload_n (pc := 37) (i := 2) (by decide +kernel) rfl ?_
      refine a_iload_n (pc := 38) (i := 3) (by decide +kernel) rfl ?_
      refine b_pureV (pc := 39) [j_i q] [] ml_X3_56 (by decide +kernel) rfl rfl gs0 rfl rfl (Nat.le_of_ble_eq_true rfl) (j_fitI rfl rfl) (s_placeStart hB hwb (by omega)) ?_
      have qi6 := i_ps_in hwb q
      show j_at _ _ _ [(0, .ref a), (1, j_i e), (2, .ref b), (3, j_i q), (4, j_i ((i_ps σ a e) * 4))] [j_i (i_ps σ b q)] _ _ _ _
      refine a_iconst (pc := 42) (n := 4) (by decide +kernel) ?_
      refine a_imul (pc := 43) (by decide +kernel) ?_
      refine a_istore (pc := 44) (i := 5) (lv' := [(0, .ref a), (1, j_i e), (2, .ref b), (3, j_i q), (4, j_i ((i_ps σ a e) * 4)), (5, j_i ((i_ps σ b q) * 4))]) (by decide +kernel) (Nat.le_of_ble_eq_true rfl) rfl ?_
      refine a_iconst (pc := 46) (n := 0) (by decide +kernel) ?_
      refine a_istore (pc := 47) (i := 6) (lv' := [(0, .ref a), (1, j_i e), (2, .ref b), (3, j_i q), (4, j_i ((i_ps σ a e) * 4)), (5, j_i ((i_ps σ b q) * 4)), (6, j_i 0)]) (by decide +kernel) (Nat.le_of_ble_eq_true rfl) rfl ?_
      exact l_isAlike hA hw hB hwb he hq c10 c23 201 0 (by omega) (by omega) (Or.inr rfl) (fun k k0 k1 => absurd k0 (by omega))
    · refine a_iconst (pc := 26) (n := 0) (by decide +kernel) ?_
      refine a_zreturn (pc := 27) (by decide +kernel) rfl (by omega) ?_
      refine k_ret ?_
      refine k_bn (fun h9 => ?_)
      first | exact c10 h9.1 | exact c23 h9.2.1
def i_rank (k : Int) : Int := if k = 3 then 0 else if k = 4 then 3 else if k = 5 then 2 else 1
def i_wt (k f t c : Int) : Int := (((if c = 1 ∧ k ≠ 3 then 1 else 0) * 300 + f) * 4 + i_rank k) * 100 + t
theorem i_rank_k {X : k_X} {k : Int} (h0 : 0 ≤ k) (h1 : k ≤ 5) : k_rof X 4 k = i_rank k := by
  rcases (show k = 0 ∨ k = 1 ∨ k = 2 ∨ k = 3 ∨ k = 4 ∨ k = 5 by omega) with rfl | rfl | rfl | rfl | rfl | rfl <;> rfl
set_option maxHeartbeats 4000000 in
theorem s_weightOf {G : j_G} {X : k_X} {n : Nat} {σ : k_St} (hn : 101 ≤ n) {k f t c : Int} (hk : 0 ≤ k ∧ k ≤ 5) (hc : -2147483648 ≤ c ∧ c ≤ 2147483647) : k_run G X mX3_weightOf [j_i k, j_i f, j_i t, j_i c] n σ 0 0 (k_is n σ (some (j_i (i_wt k f t c)))) := by
  refine k_enter (by decide +kernel) (Nat.le_of_ble_eq_true rfl) ?_
  show j_at _ _ _ [(0, j_i k), (1, j_i f), (2, j_i t), (3, j_i c)] [] _ _ _ _
  refine a_iload_n (pc := 0) (i := 3) (by decide +kernel) rfl ?_
  refine a_iconst (pc := 1) (n := 1) (by decide +kernel) ?_
  refine a_icmp_ne (pc := 2) (off := 12) (tgt := 14) (by decide +kernel) (by decide) (by omega) (by omega) (fun c2 => ?_) (fun c2 => ?_)
  · refine a_iconst (pc := 14) (n := 0) (by decide +kernel) ?_
    refine a_istore (pc := 15) (i := 4) (lv' := [(0, j_i k), (1, j_i f), (2, j_i t), (3, j_i c), (4, j_i 0)]) (by decide +kernel) (Nat.le_of_ble_eq_true rfl) rfl ?_
    refine a_iload_n (pc := 17) (i := 0) (by decide +kernel) rfl ?_
    refine a_if_lt (pc := 18) (off := 19) (tgt := 37) (by decide +kernel) (by decide) (by omega) (fun c18 => ?_) (fun c18 => ?_)
    · refine a_iconst (pc := 37) (n := 0) (by decide +kernel) ?_
      refine a_istore (pc := 38) (i := 5) (lv' := [(0, j_i k), (1, j_i f), (2, j_i t), (3, j_i c), (4, j_i 0), (5, j_i 0)]) (by decide +kernel) (Nat.le_of_ble_eq_true rfl) rfl ?_
      refine a_iload (pc := 40) (i := 4) (by decide +kernel) rfl ?_
      refine a_sipush (pc := 42) (n := 300) (by decide +kernel) rfl ?_
      refine a_imul (pc := 45) (by decide +kernel) ?_
      refine a_iload_n (pc := 46) (i := 1) (by decide +kernel) rfl ?_
      refine a_iadd (pc := 47) (by decide +kernel) ?_
      refine a_iconst (pc := 48) (n := 4) (by decide +kernel) ?_
      refine a_imul (pc := 49) (by decide +kernel) ?_
      refine a_iload (pc := 50) (i := 5) (by decide +kernel) rfl ?_
      refine a_iadd (pc := 52) (by decide +kernel) ?_
      refine a_bipush (pc := 53) (n := 100) (by decide +kernel) rfl ?_
      refine a_imul (pc := 55) (by decide +kernel) ?_
      refine a_iload_n (pc := 56) (i := 2) (by decide +kernel) rfl ?_
      refine a_iadd (pc := 57) (by decide +kernel) ?_
      refine a_ireturn (pc := 58) (by decide +kernel) rfl ?_
      refine k_ret ?_
      refine ⟨?_, rfl, rfl⟩
      unfold i_wt
      first | (exfalso; omega) | (rw [i_rank_k hk.1 hk.2]; first | rw [if_pos (by omega)] | rw [if_neg (by omega)])
    · refine a_iload_n (pc := 21) (i := 0) (by decide +kernel) rfl ?_
      refine a_getstatic (pc := 22) (k := 4) (by decide) sl_X3_83 (by decide +kernel) ?_
      refine b_len (pc := 25) (by decide +kernel) (sh_4 hn) (by decide) ?_
      refine a_icmp_ge (pc := 26) (off := 11) (tgt := 37) (by decide +kernel) (by decide) (by omega) (by omega) (fun c26 => ?_) (fun c26 => ?_)
      · refine a_iconst (pc := 37) (n := 0) (by decide +kernel) ?_
        refine a_istore (pc := 38) (i := 5) (lv' := [(0, j_i k), (1, j_i f), (2, j_i t), (3, j_i c), (4, j_i 0), (5, j_i 0)]) (by decide +kernel) (Nat.le_of_ble_eq_true rfl) rfl ?_
        refine a_iload (pc := 40) (i := 4) (by decide +kernel) rfl ?_
        refine a_sipush (pc := 42) (n := 300) (by decide +kernel) rfl ?_
        refine a_imul (pc := 45) (by decide +kernel) ?_
        refine a_iload_n (pc := 46) (i := 1) (by decide +kernel) rfl ?_
        refine a_iadd (pc := 47) (by decide +kernel) ?_
        refine a_iconst (pc := 48) (n := 4) (by decide +kernel) ?_
        refine a_imul (pc := 49) (by decide +kernel) ?_
        refine a_iload (pc := 50) (i := 5) (by decide +kernel) rfl ?_
        refine a_iadd (pc := 52) (by decide +kernel) ?_
        refine a_bipush (pc := 53) (n := 100) (by decide +kernel) rfl ?_
        refine a_imul (pc := 55) (by decide +kernel) ?_
        refine a_iload_n (pc := 56) (i := 2) (by decide +kernel) rfl ?_
        refine a_iadd (pc := 57) (by decide +kernel) ?_
        refine a_ireturn (pc := 58) (by decide +kernel) rfl ?_
        refine k_ret ?_
        refine ⟨?_, rfl, rfl⟩
        unfold i_wt
        first | (exfalso; omega) | (rw [i_rank_k hk.1 hk.2]; first | rw [if_pos (by omega)] | rw [if_neg (by omega)])
      · refine a_getstatic (pc := 29) (k := 4) (by decide) sl_X3_83 (by decide +kernel) ?_
        refine a_iload_n (pc := 32) (i := 0) (by decide +kernel) rfl ?_
        refine b_siload (pc := 33) (by decide +kernel) (sh_4 hn) (by decide) (by omega) (by decide) ?_
        refine a_goto (pc := 34) (off := 4) (tgt := 38) (by decide +kernel) (by decide) ?_
        refine a_istore (pc := 38) (i := 5) (lv' := [(0, j_i k), (1, j_i f), (2, j_i t), (3, j_i c), (4, j_i 0), (5, j_i (k_rof X 4 k))]) (by decide +kernel) (Nat.le_of_ble_eq_true rfl) rfl ?_
        refine a_iload (pc := 40) (i := 4) (by decide +kernel) rfl ?_
        refine a_sipush (pc := 42) (n := 300) (by decide +kernel) rfl ?_
        refine a_imul (pc := 45) (by decide +kernel) ?_
        refine a_iload_n (pc := 46) (i := 1) (by decide +kernel) rfl ?_
        refine a_iadd (pc := 47) (by decide +kernel) ?_
        refine a_iconst (pc := 48) (n := 4) (by decide +kernel) ?_
        refine a_imul (pc := 49) (by decide +kernel) ?_
        refine a_iload (pc := 50) (i := 5) (by decide +kernel) rfl ?_
        refine a_iadd (pc := 52) (by decide +kernel) ?_
        refine a_bipush (pc := 53) (n := 100) (by decide +kernel) rfl ?_
        refine a_imul (pc := 55) (by decide +kernel) ?_
        refine a_iload_n (pc := 56) (i := 2) (by decide +kernel) rfl ?_
        refine a_iadd (pc := 57) (by decide +kernel) ?_
        refine a_ireturn (pc := 58) (by decide +kernel) rfl ?_
        refine k_ret ?_
        refine ⟨?_, rfl, rfl⟩
        unfold i_wt
        first | (exfalso; omega) | (rw [i_rank_k hk.1 hk.2]; first | rw [if_pos (by omega)] | rw [if_neg (by omega)])
  · refine a_iload_n (pc := 5) (i := 0) (by decide +kernel) rfl ?_
    refine a_iconst (pc := 6) (n := 3) (by decide +kernel) ?_
    refine a_icmp_eq (pc := 7) (off := 7) (tgt := 14) (by decide +kernel) (by decide) (by omega) (by omega) (fun c7 => ?_) (fun c7 => ?_)
    · refine a_iconst (pc := 14) (n := 0) (by decide +kernel) ?_
      refine a_istore (pc := 15) (i := 4) (lv' := [(0, j_i k), (1, j_i f), (2, j_i t), (3, j_i c), (4, j_i 0)]) (by decide +kernel) (Nat.le_of_ble_eq_true rfl) rfl ?_
      refine a_iload_n (pc := 17) (i := 0) (by decide +kernel) rfl ?_
      refine a_if_lt (pc := 18) (off := 19) (tgt := 37) (by decide +kernel) (by decide) (by omega) (fun c18 => ?_) (fun c18 => ?_)
      · refine a_iconst (pc := 37) (n := 0) (by decide +kernel) ?_
        refine a_istore (pc := 38) (i := 5) (lv' := [(0, j_i k), (1, j_i f), (2, j_i t), (3, j_i c), (4, j_i 0), (5, j_i 0)]) (by decide +kernel) (Nat.le_of_ble_eq_true rfl) rfl ?_
        refine a_iload (pc := 40) (i := 4) (by decide +kernel) rfl ?_
        refine a_sipush (pc := 42) (n := 300) (by decide +kernel) rfl ?_
        refine a_imul (pc := 45) (by decide +kernel) ?_
        refine a_iload_n (pc := 46) (i := 1) (by decide +kernel) rfl ?_
        refine a_iadd (pc := 47) (by decide +kernel) ?_
        refine a_iconst (pc := 48) (n := 4) (by decide +kernel) ?_
        refine a_imul (pc := 49) (by decide +kernel) ?_
        refine a_iload (pc := 50) (i := 5) (by decide +kernel) rfl ?_
        refine a_iadd (pc := 52) (by decide +kernel) ?_
        refine a_bipush (pc := 53) (n := 100) (by decide +kernel) rfl ?_
        refine a_imul (pc := 55) (by decide +kernel) ?_
        refine a_iload_n (pc := 56) (i := 2) (by decide +kernel) rfl ?_
        refine a_iadd (pc := 57) (by decide +kernel) ?_
        refine a_ireturn (pc := 58) (by decide +kernel) rfl ?_
        refine k_ret ?_
        refine ⟨?_, rfl, rfl⟩
        unfold i_wt
        first | (exfalso; omega) | (rw [i_rank_k hk.1 hk.2]; first | rw [if_pos (by omega)] | rw [if_neg (by omega)])
      · refine a_iload_n (pc := 21) (i := 0) (by decide +kernel) rfl ?_
        refine a_getstatic (pc := 22) (k := 4) (by decide) sl_X3_83 (by decide +kernel) ?_
        refine b_len (pc := 25) (by decide +kernel) (sh_4 hn) (by decide) ?_
        refine a_icmp_ge (pc := 26) (off := 11) (tgt := 37) (by decide +kernel) (by decide) (by omega) (by omega) (fun c26 => ?_) (fun c26 => ?_)
        · refine a_iconst (pc := 37) (n := 0) (by decide +kernel) ?_
          refine a_istore (pc := 38) (i := 5) (lv' := [(0, j_i k), (1, j_i f), (2, j_i t), (3, j_i c), (4, j_i 0), (5, j_i 0)]) (by decide +kernel) (Nat.le_of_ble_eq_true rfl) rfl ?_
          refine a_iload (pc := 40) (i := 4) (by decide +kernel) rfl ?_
          refine a_sipush (pc := 42) (n := 300) (by decide +kernel) rfl ?_
          refine a_imul (pc := 45) (by decide +kernel) ?_
          refine a_iload_n (pc := 46) (i := 1) (by decide +kernel) rfl ?_
          refine a_iadd (pc := 47) (by decide +kernel) ?_
          refine a_iconst (pc := 48) (n := 4) (by decide +kernel) ?_
          refine a_imul (pc := 49) (by decide +kernel) ?_
          refine a_iload (pc := 50) (i := 5) (by decide +kernel) rfl ?_
          refine a_iadd (pc := 52) (by decide +kernel) ?_
          refine a_bipush (pc := 53) (n := 100) (by decide +kernel) rfl ?_
          refine a_imul (pc := 55) (by decide +kernel) ?_
          refine a_iload_n (pc := 56) (i := 2) (by decide +kernel) rfl ?_
          refine a_iadd (pc := 57) (by decide +kernel) ?_
          refine a_ireturn (pc := 58) (by decide +kernel) rfl ?_
          refine k_ret ?_
          refine ⟨?_, rfl, rfl⟩
          unfold i_wt
          first | (exfalso; omega) | (rw [i_rank_k hk.1 hk.2]; first | rw [if_pos (by omega)] | rw [if_neg (by omega)])
        · refine a_getstatic (pc := 29) (k := 4) (by decide) sl_X3_83 (by decide +kernel) ?_
          refine a_iload_n (pc := 32) (i := 0) (by decide +kernel) rfl ?_
          refine b_siload (pc := 33) (by decide +kernel) (sh_4 hn) (by decide) (by omega) (by decide) ?_
          refine a_goto (pc := 34) (off := 4) (tgt := 38) (by decide +kernel) (by decide) ?_
          refine a_istore (pc := 38) (i := 5) (lv' := [(0, j_i k), (1, j_i f), (2, j_i t), (3, j_i c), (4, j_i 0), (5, j_i (k_rof X 4 k))]) (by decide +kernel) (Nat.le_of_ble_eq_true rfl) rfl ?_
          refine a_iload (pc := 40) (i := 4) (by decide +kernel) rfl ?_
          refine a_sipush (pc := 42) (n := 300) (by decide +kernel) rfl ?_
          refine a_imul (pc := 45) (by decide +kernel) ?_
          refine a_iload_n (pc := 46) (i := 1) (by decide +kernel) rfl ?_
          refine a_iadd (pc := 47) (by decide +kernel) ?_
          refine a_iconst (pc := 48) (n := 4) (by decide +kernel) ?_
          refine a_imul (pc := 49) (by decide +kernel) ?_
          refine a_iload (pc := 50) (i := 5) (by decide +kernel) rfl ?_
          refine a_iadd (pc := 52) (by decide +kernel) ?_
          refine a_bipush (pc := 53) (n := 100) (by decide +kernel) rfl ?_
          refine a_imul (pc := 55) (by decide +kernel) ?_
          refine a_iload_n (pc := 56) (i := 2) (by decide +kernel) rfl ?_
          refine a_iadd (pc := 57) (by decide +kernel) ?_
          refine a_ireturn (pc := 58) (by decide +kernel) rfl ?_
          refine k_ret ?_
          refine ⟨?_, rfl, rfl⟩
          unfold i_wt
          first | (exfalso; omega) | (rw [i_rank_k hk.1 hk.2]; first | rw [if_pos (by omega)] | rw [if_neg (by omega)])
    · refine a_iconst (pc := 10) (n := 1) (by decide +kernel) ?_
      refine a_goto (pc := 11) (off := 4) (tgt := 15) (by decide +kernel) (by decide) ?_
      refine a_istore (pc := 15) (i := 4) (lv' := [(0, j_i k), (1, j_i f), (2, j_i t), (3, j_i c), (4, j_i 1)]) (by decide +kernel) (Nat.le_of_ble_eq_true rfl) rfl ?_
      refine a_iload_n (pc := 17) (i := 0) (by decide +kernel) rfl ?_
      refine a_if_lt (pc := 18) (off := 19) (tgt := 37) (by decide +kernel) (by decide) (by omega) (fun c18 => ?_) (fun c18 => ?_)
      · refine a_iconst (pc := 37) (n := 0) (by decide +kernel) ?_
        refine a_istore (pc := 38) (i := 5) (lv' := [(0, j_i k), (1, j_i f), (2, j_i t), (3, j_i c), (4, j_i 1), (5, j_i 0)]) (by decide +kernel) (Nat.le_of_ble_eq_true rfl) rfl ?_
        refine a_iload (pc := 40) (i := 4) (by decide +kernel) rfl ?_
        refine a_sipush (pc := 42) (n := 300) (by decide +kernel) rfl ?_
        refine a_imul (pc := 45) (by decide +kernel) ?_
        refine a_iload_n (pc := 46) (i := 1) (by decide +kernel) rfl ?_
        refine a_iadd (pc := 47) (by decide +kernel) ?_
        refine a_iconst (pc := 48) (n := 4) (by decide +kernel) ?_
        refine a_imul (pc := 49) (by decide +kernel) ?_
        refine a_iload (pc := 50) (i := 5) (by decide +kernel) rfl ?_
        refine a_iadd (pc := 52) (by decide +kernel) ?_
        refine a_bipush (pc := 53) (n := 100) (by decide +kernel) rfl ?_
        refine a_imul (pc := 55) (by decide +kernel) ?_
        refine a_iload_n (pc := 56) (i := 2) (by decide +kernel) rfl ?_
        refine a_iadd (pc := 57) (by decide +kernel) ?_
        refine a_ireturn (pc := 58) (by decide +kernel) rfl ?_
        refine k_ret ?_
        refine ⟨?_, rfl, rfl⟩
        unfold i_wt
        first | (exfalso; omega) | (rw [i_rank_k hk.1 hk.2]; first | rw [if_pos (by omega)] | rw [if_neg (by omega)])
      · refine a_iload_n (pc := 21) (i := 0) (by decide +kernel) rfl ?_
        refine a_getstatic (pc := 22) (k := 4) (by decide) sl_X3_83 (by decide +kernel) ?_
        refine b_len (pc := 25) (by decide +kernel) (sh_4 hn) (by decide) ?_
        refine a_icmp_ge (pc := 26) (off := 11) (tgt := 37) (by decide +kernel) (by decide) (by omega) (by omega) (fun c26 => ?_) (fun c26 => ?_)
        · refine a_iconst (pc := 37) (n := 0) (by decide +kernel) ?_
          refine a_istore (pc := 38) (i := 5) (lv' := [(0, j_i k), (1, j_i f), (2, j_i t), (3, j_i c), (4, j_i 1), (5, j_i 0)]) (by decide +kernel) (Nat.le_of_ble_eq_true rfl) rfl ?_
          refine a_iload (pc := 40) (i := 4) (by decide +kernel) rfl ?_
          refine a_sipush (pc := 42) (n := 300) (by decide +kernel) rfl ?_
          refine a_imul (pc := 45) (by decide +kernel) ?_
          refine a_iload_n (pc := 46) (i := 1) (by decide +kernel) rfl ?_
          refine a_iadd (pc := 47) (by decide +kernel) ?_
          refine a_iconst (pc := 48) (n := 4) (by decide +kernel) ?_
          refine a_imul (pc := 49) (by decide +kernel) ?_
          refine a_iload (pc := 50) (i := 5) (by decide +kernel) rfl ?_
          refine a_iadd (pc := 52) (by decide +kernel) ?_
          refine a_bipush (pc := 53) (n := 100) (by decide +kernel) rfl ?_
          refine a_imul (pc := 55) (by decide +kernel) ?_
          refine a_iload_n (pc := 56) (i := 2) (by decide +kernel) rfl ?_
          refine a_iadd (pc := 57) (by decide +kernel) ?_
          refine a_ireturn (pc := 58) (by decide +kernel) rfl ?_
          refine k_ret ?_
          refine ⟨?_, rfl, rfl⟩
          unfold i_wt
          first | (exfalso; omega) | (rw [i_rank_k hk.1 hk.2]; first | rw [if_pos (by omega)] | rw [if_neg (by omega)])
        · refine a_getstatic (pc := 29) (k := 4) (by decide) sl_X3_83 (by decide +kernel) ?_
          refine a_iload_n (pc := 32) (i := 0) (by decide +kernel) rfl ?_
          refine b_siload (pc := 33) (by decide +kernel) (sh_4 hn) (by decide) (by omega) (by decide) ?_
          refine a_goto (pc := 34) (off := 4) (tgt := 38) (by decide +kernel) (by decide) ?_
          refine a_istore (pc := 38) (i := 5) (lv' := [(0, j_i k), (1, j_i f), (2, j_i t), (3, j_i c), (4, j_i 1), (5, j_i (k_rof X 4 k))]) (by decide +kernel) (Nat.le_of_ble_eq_true rfl) rfl ?_
          refine a_iload (pc := 40) (i := 4) (by decide +kernel) rfl ?_
          refine a_sipush (pc := 42) (n := 300) (by decide +kernel) rfl ?_
          refine a_imul (pc := 45) (by decide +kernel) ?_
          refine a_iload_n (pc := 46) (i := 1) (by decide +kernel) rfl ?_
          refine a_iadd (pc := 47) (by decide +kernel) ?_
          refine a_iconst (pc := 48) (n := 4) (by decide +kernel) ?_
          refine a_imul (pc := 49) (by decide +kernel) ?_
          refine a_iload (pc := 50) (i := 5) (by decide +kernel) rfl ?_
          refine a_iadd (pc := 52) (by decide +kernel) ?_
          refine a_bipush (pc := 53) (n := 100) (by decide +kernel) rfl ?_
          refine a_imul (pc := 55) (by decide +kernel) ?_
          refine a_iload_n (pc := 56) (i := 2) (by decide +kernel) rfl ?_
          refine a_iadd (pc := 57) (by decide +kernel) ?_
          refine a_ireturn (pc := 58) (by decide +kernel) rfl ?_
          refine k_ret ?_
          refine ⟨?_, rfl, rfl⟩
          unfold i_wt
          first | (exfalso; omega) | (rw [i_rank_k hk.1 hk.2]; first | rw [if_pos (by omega)] | rw [if_neg (by omega)])
def i_aL (σ : k_St) (a : Nat) (t k : Int) : k_St := k_sI (k_sA (k_sA σ (a + 5) (j_up (σ.1 (a + 5)) (σ.2.1 a 7 * 3) t)) (a + 5) (j_up (j_up (σ.1 (a + 5)) (σ.2.1 a 7 * 3) t) (σ.2.1 a 7 * 3 + 1) k)) a 7 (σ.2.1 a 7 + 1)
def i_aO (σ : k_St) (a : Nat) (m : Int) : k_St := k_sI (k_sA σ (a + 6) (j_up (σ.1 (a + 6)) (σ.2.1 a 9) m)) a 9 (σ.2.1 a 9 + 1)
def i_cl (σ : k_St) (a : Nat) : k_St := k_sI (k_sI (k_sI (k_sI σ a 0 0) a 5 0) a 7 0) a 9 0
set_option maxHeartbeats 4000000 in
theorem s_addLead {G : j_G} {X : k_X} {n : Nat} {σ : k_St} {a : Nat} (hA : i_at X n a) (hl : 0 ≤ σ.2.1 a 7 ∧ σ.2.1 a 7 < 50) {t k : Int} : k_run G X mX3_addLead [.ref a, j_i t, j_i k] n σ 0 0 (k_is n (i_aL σ a t k) none) := by
  obtain ⟨h5, hs0, hs1, hs2, hs3, hs4, hs5, hs6, hs7⟩ := id hA
  refine k_enter (by decide +kernel) (Nat.le_of_ble_eq_true rfl) ?_
  show j_at _ _ _ [(0, .ref a), (1, j_i t), (2, j_i k)] [] _ _ _ _
  refine a_aload_n (pc := 0) (i := 0) (by decide +kernel) rfl ?_
  refine b_getI (pc := 1) fl_X3_34 (by decide +kernel) hs0 rfl ?_
  refine a_bipush (pc := 4) (n := 50) (by decide +kernel) rfl ?_
  refine a_icmp_lt (pc := 6) (off := 4) (tgt := 10) (by decide +kernel) (by decide) (by omega) (by omega) (fun c6 => ?_) (fun c6 => ?_)
  · refine a_aload_n (pc := 10) (i := 0) (by decide +kernel) rfl ?_
    refine b_getR (pc := 11) (b := a + 5) fl_X3_31 (by decide +kernel) hs0 rfl ?_
    refine a_aload_n (pc := 14) (i := 0) (by decide +kernel) rfl ?_
    refine b_getI (pc := 15) fl_X3_34 (by decide +kernel) hs0 rfl ?_
    refine a_iconst (pc := 18) (n := 3) (by decide +kernel) ?_
    refine a_imul (pc := 19) (by decide +kernel) ?_
    refine a_iload_n (pc := 20) (i := 1) (by decide +kernel) rfl ?_
    refine b_iastore (pc := 21) (by decide +kernel) hs5 (by omega) (by omega) (by omega) ?_
    obtain ⟨σ1, hσ1⟩ : ∃ z, z = k_sA σ (a + 5) (j_up (σ.1 (a + 5)) ((σ.2.1 a 7) * 3) t) := ⟨_, rfl⟩
    rw [← hσ1]
    refine a_aload_n (pc := 22) (i := 0) (by decide +kernel) rfl ?_
    refine b_getR (pc := 23) (b := a + 5) fl_X3_31 (by decide +kernel) hs0 rfl ?_
    refine a_aload_n (pc := 26) (i := 0) (by decide +kernel) rfl ?_
    refine b_getI (pc := 27) fl_X3_34 (by decide +kernel) hs0 rfl ?_
    rw [show σ1.2.1 a 7 = σ.2.1 a 7 by rw [hσ1]; rfl]
    refine a_iconst (pc := 30) (n := 3) (by decide +kernel) ?_
    refine a_imul (pc := 31) (by decide +kernel) ?_
    refine a_iconst (pc := 32) (n := 1) (by decide +kernel) ?_
    refine a_iadd (pc := 33) (by decide +kernel) ?_
    refine a_iload_n (pc := 34) (i := 2) (by decide +kernel) rfl ?_
    refine b_iastore (pc := 35) (by decide +kernel) hs5 (by omega) (by omega) (by omega) ?_
    obtain ⟨σ2, hσ2⟩ : ∃ z, z = k_sA σ1 (a + 5) (j_up (σ1.1 (a + 5)) (((σ.2.1 a 7) * 3) + 1) k) := ⟨_, rfl⟩
    rw [← hσ2]
    refine a_aload_n (pc := 36) (i := 0) (by decide +kernel) rfl ?_
    refine a_dup (pc := 37) (by decide +kernel) rfl ?_
    refine b_getI (pc := 38) fl_X3_34 (by decide +kernel) hs0 rfl ?_
    rw [show σ2.2.1 a 7 = σ1.2.1 a 7 by rw [hσ2]; rfl]
    rw [show σ1.2.1 a 7 = σ.2.1 a 7 by rw [hσ1]; rfl]
    refine a_iconst (pc := 41) (n := 1) (by decide +kernel) ?_
    refine a_iadd (pc := 42) (by decide +kernel) ?_
    refine b_putI (pc := 43) fl_X3_34 (by decide +kernel) hs0 rfl rfl rfl ?_
    obtain ⟨σ3, hσ3⟩ : ∃ z, z = k_sI σ2 a 7 ((σ.2.1 a 7) + 1) := ⟨_, rfl⟩
    rw [← hσ3]
    refine a_return (pc := 46) (by decide +kernel) rfl ?_
    refine k_ret ?_
    subst hσ3; subst hσ2; subst hσ1; refine ⟨rfl, rfl, ?_⟩; unfold i_aL; rw [k_AA]
  · refine a_return (pc := 9) (by decide +kernel) rfl ?_
    refine k_ret ?_
    exfalso; omega
set_option maxHeartbeats 4000000 in
theorem s_addLoose {G : j_G} {X : k_X} {n : Nat} {σ : k_St} {a : Nat} (hA : i_at X n a) (hl : 0 ≤ σ.2.1 a 9 ∧ σ.2.1 a 9 < 50) {m : Int} : k_run G X mX3_addLoose [.ref a, j_i m] n σ 0 0 (k_is n (i_aO σ a m) none) := by
  obtain ⟨h5, hs0, hs1, hs2, hs3, hs4, hs5, hs6, hs7⟩ := id hA
  refine k_enter (by decide +kernel) (Nat.le_of_ble_eq_true rfl) ?_
  show j_at _ _ _ [(0, .ref a), (1, j_i m)] [] _ _ _ _
  refine a_aload_n (pc := 0) (i := 0) (by decide +kernel) rfl ?_
  refine b_getI (pc := 1) fl_X3_40 (by decide +kernel) hs0 rfl ?_
  refine a_bipush (pc := 4) (n := 50) (by decide +kernel) rfl ?_
  refine a_icmp_ge (pc := 6) (off := 23) (tgt := 29) (by decide +kernel) (by decide) (by omega) (by omega) (fun c6 => ?_) (fun c6 => ?_)
  · refine a_return (pc := 29) (by decide +kernel) rfl ?_
    refine k_ret ?_
    exfalso; omega
  · refine a_aload_n (pc := 9) (i := 0) (by decide +kernel) rfl ?_
    refine b_getR (pc := 10) (b := a + 6) fl_X3_37 (by decide +kernel) hs0 rfl ?_
    refine a_aload_n (pc := 13) (i := 0) (by decide +kernel) rfl ?_
    refine b_getI (pc := 14) fl_X3_40 (by decide +kernel) hs0 rfl ?_
    refine a_iload_n (pc := 17) (i := 1) (by decide +kernel) rfl ?_
    refine b_iastore (pc := 18) (by decide +kernel) hs6 (by omega) (by omega) (by omega) ?_
    obtain ⟨σ1, hσ1⟩ : ∃ z, z = k_sA σ (a + 6) (j_up (σ.1 (a + 6)) (σ.2.1 a 9) m) := ⟨_, rfl⟩
    rw [← hσ1]
    refine a_aload_n (pc := 19) (i := 0) (by decide +kernel) rfl ?_
    refine a_dup (pc := 20) (by decide +kernel) rfl ?_
    refine b_getI (pc := 21) fl_X3_40 (by decide +kernel) hs0 rfl ?_
    rw [show σ1.2.1 a 9 = σ.2.1 a 9 by rw [hσ1]; rfl]
    refine a_iconst (pc := 24) (n := 1) (by decide +kernel) ?_
    refine a_iadd (pc := 25) (by decide +kernel) ?_
    refine b_putI (pc := 26) fl_X3_40 (by decide +kernel) hs0 rfl rfl rfl ?_
    obtain ⟨σ2, hσ2⟩ : ∃ z, z = k_sI σ1 a 9 ((σ.2.1 a 9) + 1) := ⟨_, rfl⟩
    rw [← hσ2]
    refine a_return (pc := 29) (by decide +kernel) rfl ?_
    refine k_ret ?_
    subst hσ2; subst hσ1; exact ⟨rfl, rfl, rfl⟩
set_option maxHeartbeats 4000000 in
theorem s_iclear {G : j_G} {X : k_X} {n : Nat} {σ : k_St} {a : Nat} (hA : i_at X n a)  : k_run G X mX3_clear [.ref a] n σ 0 0 (k_is n (i_cl σ a) none) := by
  obtain ⟨h5, hs0, hs1, hs2, hs3, hs4, hs5, hs6, hs7⟩ := id hA
  refine k_enter (by decide +kernel) (Nat.le_of_ble_eq_true rfl) ?_
  show j_at _ _ _ [(0, .ref a)] [] _ _ _ _
  refine a_aload_n (pc := 0) (i := 0) (by decide +kernel) rfl ?_
  refine a_iconst (pc := 1) (n := 0) (by decide +kernel) ?_
  refine b_putI (pc := 2) fl_X3_9 (by decide +kernel) hs0 rfl rfl rfl ?_
  obtain ⟨σ1, hσ1⟩ : ∃ z, z = k_sI σ a 0 0 := ⟨_, rfl⟩
  rw [← hσ1]
  refine a_aload_n (pc := 5) (i := 0) (by decide +kernel) rfl ?_
  refine a_iconst (pc := 6) (n := 0) (by decide +kernel) ?_
  refine b_putI (pc := 7) fl_X3_28 (by decide +kernel) hs0 rfl rfl rfl ?_
  obtain ⟨σ2, hσ2⟩ : ∃ z, z = k_sI σ1 a 5 0 := ⟨_, rfl⟩
  rw [← hσ2]
  refine a_aload_n (pc := 10) (i := 0) (by decide +kernel) rfl ?_
  refine a_iconst (pc := 11) (n := 0) (by decide +kernel) ?_
  refine b_putI (pc := 12) fl_X3_34 (by decide +kernel) hs0 rfl rfl rfl ?_
  obtain ⟨σ3, hσ3⟩ : ∃ z, z = k_sI σ2 a 7 0 := ⟨_, rfl⟩
  rw [← hσ3]
  refine a_aload_n (pc := 15) (i := 0) (by decide +kernel) rfl ?_
  refine a_iconst (pc := 16) (n := 0) (by decide +kernel) ?_
  refine b_putI (pc := 17) fl_X3_40 (by decide +kernel) hs0 rfl rfl rfl ?_
  obtain ⟨σ4, hσ4⟩ : ∃ z, z = k_sI σ3 a 9 0 := ⟨_, rfl⟩
  rw [← hσ4]
  refine a_return (pc := 20) (by decide +kernel) rfl ?_
  refine k_ret ?_
  subst hσ4; subst hσ3; subst hσ2; subst hσ1; exact ⟨rfl, rfl, rfl⟩
