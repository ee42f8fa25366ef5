/-- an Index at a -/
def i_at (X : k_X) (n a : Nat) : Prop := 5 ≤ a ∧ k_has X n a (.inr (.inr (3, [0, a + 1 + 3, a + 2 + 3, a + 3 + 3, a + 4 + 3, 0, a + 5 + 3, 0, a + 6 + 3, 0, a + 7 + 3]))) ∧ k_has X n (a + 1) (.inl (0, 150)) ∧ k_has X n (a + 2) (.inl (0, 150)) ∧ k_has X n (a + 3) (.inl (0, 150)) ∧ k_has X n (a + 4) (.inl (0, 200)) ∧ k_has X n (a + 5) (.inl (0, 150)) ∧ k_has X n (a + 6) (.inl (0, 50)) ∧ r_at X n (a + 7) 30
theorem iA_48 {X : k_X} {n : Nat} (hn : 101 ≤ n) : i_at X n 48 := ⟨by omega, sh_48 hn, sh_49 hn, sh_50 hn, sh_51 hn, sh_52 hn, sh_53 hn, sh_54 hn, rA_55 hn⟩
theorem iA_58 {X : k_X} {n : Nat} (hn : 101 ≤ n) : i_at X n 58 := ⟨by omega, sh_58 hn, sh_59 hn, sh_60 hn, sh_61 hn, sh_62 hn, sh_63 hn, sh_64 hn, rA_65 hn⟩
def i_wf (σ : k_St) (a : Nat) : Prop := (0 ≤ σ.2.1 a 0 ∧ σ.2.1 a 0 ≤ 150) ∧ (0 ≤ σ.2.1 a 5 ∧ σ.2.1 a 5 ≤ 50) ∧ (0 ≤ σ.2.1 a 7 ∧ σ.2.1 a 7 ≤ 50) ∧ (0 ≤ σ.2.1 a 9 ∧ σ.2.1 a 9 ≤ 50) ∧ ∀ e : Int, (0 ≤ σ.1 (a + 1) e ∧ σ.1 (a + 1) e ≤ 29790) ∧ (0 ≤ σ.1 (a + 2) e ∧ σ.1 (a + 2) e ≤ 50) ∧ (0 ≤ σ.1 (a + 3) e ∧ σ.1 (a + 3) e ≤ 50) ∧ (0 ≤ σ.1 (a + 4) e ∧ σ.1 (a + 4) e ≤ 299) ∧ (0 ≤ σ.1 (a + 5) e ∧ σ.1 (a + 5) e ≤ 29) ∧ (0 ≤ σ.1 (a + 6) e ∧ σ.1 (a + 6) e ≤ 49)
def i_ps (σ : k_St) (a : Nat) (e : Int) : Int := if 0 < e ∧ e < 150 then σ.1 (a + 2) (e - 1) else 0
def i_ls (σ : k_St) (a : Nat) (e : Int) : Int := if 0 < e ∧ e < 150 then σ.1 (a + 3) (e - 1) else 0
def i_pn (σ : k_St) (a : Nat) (e : Int) : Int := if 0 ≤ e ∧ e < σ.2.1 a 0 then σ.1 (a + 2) e - i_ps σ a e else 0
def i_sn (σ : k_St) (a : Nat) (e : Int) : Int := if 0 ≤ e ∧ e < σ.2.1 a 0 then σ.1 (a + 3) e - i_ls σ a e else 0
def i_body (σ : k_St) (a : Nat) (e : Int) : Prop := 0 < i_pn σ a e ∨ (0 ≤ e ∧ e + 1 < σ.2.1 a 0 ∧ f_aro (σ.1 (a + 1) (e + 1)) = σ.1 (a + 1) e)
/-- the first entry of a path, or -9 -/
def i_of (σ : k_St) (a : Nat) (p r : Int) : Prop := (r = -9 ∧ ∀ e, 0 ≤ e → e < σ.2.1 a 0 → σ.1 (a + 1) e ≠ p) ∨ (0 ≤ r ∧ r < σ.2.1 a 0 ∧ σ.1 (a + 1) r = p ∧ ∀ e, 0 ≤ e → e < r → σ.1 (a + 1) e ≠ p)
theorem i_ps_in {σ : k_St} {a : Nat} (hw : i_wf σ a) (e : Int) : 0 ≤ i_ps σ a e ∧ i_ps σ a e ≤ 50 := by unfold i_ps; split; exact (hw.2.2.2.2 _).2.1; omega
theorem i_ls_in {σ : k_St} {a : Nat} (hw : i_wf σ a) (e : Int) : 0 ≤ i_ls σ a e ∧ i_ls σ a e ≤ 50 := by unfold i_ls; split; exact (hw.2.2.2.2 _).2.2.1; omega
theorem i_pn_in {σ : k_St} {a : Nat} (hw : i_wf σ a) (e : Int) : -50 ≤ i_pn σ a e ∧ i_pn σ a e ≤ 50 ∧ i_pn σ a e + i_ps σ a e ≤ 50 := by
  have h1 := i_ps_in hw e; unfold i_pn; split
  · have := (hw.2.2.2.2 e).2.1; omega
  · omega
theorem i_sn_in {σ : k_St} {a : Nat} (hw : i_wf σ a) (e : Int) : -50 ≤ i_sn σ a e ∧ i_sn σ a e ≤ 50 ∧ i_sn σ a e + i_ls σ a e ≤ 50 := by
  have h1 := i_ls_in hw e; unfold i_sn; split
  · have := (hw.2.2.2.2 e).2.2.1; omega
  · omega
theorem f_aro_in {p : Int} (h : 0 ≤ p ∧ p ≤ 29790) : 0 ≤ f_aro p ∧ f_aro p ≤ 29790 := by unfold f_aro; split <;> (try split) <;> omega
set_option maxHeartbeats 4000000 in
theorem s_ihas {G : j_G} {X : k_X} {n : Nat} {σ : k_St} {a : Nat} (hA : i_at X n a) (hw : i_wf σ a) {e : Int} (he : -2147483648 ≤ e ∧ e ≤ 2147483647) : k_run G X mX3_has [.ref a, j_i e] n σ 0 0 (k_b n σ (0 ≤ e ∧ e < σ.2.1 a 0)) := by
  obtain ⟨h5, hs0, hs1, hs2, hs3, hs4, hs5, hs6, hs7⟩ := id hA
  obtain ⟨hc, hpc, hlc, hlo, hv⟩ := id hw
  refine k_enter (by decide +kernel) (Nat.le_of_ble_eq_true rfl) ?_
  show j_at _ _ _ [(0, .ref a), (1, j_i e)] [] _ _ _ _
  refine a_iload_n (pc := 0) (i := 1) (by decide +kernel) rfl ?_
  refine a_if_lt (pc := 1) (off := 15) (tgt := 16) (by decide +kernel) (by decide) (by omega) (fun c1 => ?_) (fun c1 => ?_)
  · refine a_iconst (pc := 16) (n := 0) (by decide +kernel) ?_
    refine a_zreturn (pc := 17) (by decide +kernel) rfl (by omega) ?_
    refine k_ret ?_
    exact k_bn (by omega)
  · refine a_iload_n (pc := 4) (i := 1) (by decide +kernel) rfl ?_
    refine a_aload_n (pc := 5) (i := 0) (by decide +kernel) rfl ?_
    refine b_getI (pc := 6) fl_X3_9 (by decide +kernel) hs0 rfl ?_
    refine a_icmp_ge (pc := 9) (off := 7) (tgt := 16) (by decide +kernel) (by decide) (by omega) (by omega) (fun c9 => ?_) (fun c9 => ?_)
    · refine a_iconst (pc := 16) (n := 0) (by decide +kernel) ?_
      refine a_zreturn (pc := 17) (by decide +kernel) rfl (by omega) ?_
      refine k_ret ?_
      exact k_bn (by omega)
    · refine a_iconst (pc := 12) (n := 1) (by decide +kernel) ?_
      refine a_goto (pc := 13) (off := 4) (tgt := 17) (by decide +kernel) (by decide) ?_
      refine a_zreturn (pc := 17) (by decide +kernel) rfl (by omega) ?_
      refine k_ret ?_
      exact k_by (by omega)
set_option maxHeartbeats 4000000 in
theorem s_placeStart {G : j_G} {X : k_X} {n : Nat} {σ : k_St} {a : Nat} (hA : i_at X n a) (hw : i_wf σ a) {e : Int} (he : -2147483648 ≤ e ∧ e ≤ 2147483647) : k_run G X mX3_placeStart [.ref a, j_i e] n σ 0 0 (k_is n σ (some (j_i (i_ps σ a e)))) := by
  obtain ⟨h5, hs0, hs1, hs2, hs3, hs4, hs5, hs6, hs7⟩ := id hA
  obtain ⟨hc, hpc, hlc, hlo, hv⟩ := id hw
  refine k_enter (by decide +kernel) (Nat.le_of_ble_eq_true rfl) ?_
  show j_at _ _ _ [(0, .ref a), (1, j_i e)] [] _ _ _ _
  refine a_iload_n (pc := 0) (i := 1) (by decide +kernel) rfl ?_
  refine a_if_le (pc := 1) (off := 21) (tgt := 22) (by decide +kernel) (by decide) (by omega) (fun c1 => ?_) (fun c1 => ?_)
  · refine a_iconst (pc := 22) (n := 0) (by decide +kernel) ?_
    refine a_ireturn (pc := 23) (by decide +kernel) rfl ?_
    refine k_ret ?_
    refine ⟨?_, rfl, rfl⟩
    unfold i_ps
    first | rw [if_pos (by omega)] | rw [if_neg (by omega)]
  · refine a_iload_n (pc := 4) (i := 1) (by decide +kernel) rfl ?_
    refine a_sipush (pc := 5) (n := 150) (by decide +kernel) rfl ?_
    refine a_icmp_ge (pc := 8) (off := 14) (tgt := 22) (by decide +kernel) (by decide) (by omega) (by omega) (fun c8 => ?_) (fun c8 => ?_)
    · refine a_iconst (pc := 22) (n := 0) (by decide +kernel) ?_
      refine a_ireturn (pc := 23) (by decide +kernel) rfl ?_
      refine k_ret ?_
      refine ⟨?_, rfl, rfl⟩
      unfold i_ps
      first | rw [if_pos (by omega)] | rw [if_neg (by omega)]
    · refine a_aload_n (pc := 11) (i := 0) (by decide +kernel) rfl ?_
      refine b_getR (pc := 12) (b := a + 2) fl_X3_19 (by decide +kernel) hs0 rfl ?_
      refine a_iload_n (pc := 15) (i := 1) (by decide +kernel) rfl ?_
      refine a_iconst (pc := 16) (n := 1) (by decide +kernel) ?_
      refine a_isub (pc := 17) (by decide +kernel) ?_
      refine b_iaload (pc := 18) (by decide +kernel) hs2 (by omega) (by omega) (by omega) ?_
      refine a_goto (pc := 19) (off := 4) (tgt := 23) (by decide +kernel) (by decide) ?_
      refine a_ireturn (pc := 23) (by decide +kernel) rfl ?_
      refine k_ret ?_
      refine ⟨?_, rfl, rfl⟩
      unfold i_ps
      first | rw [if_pos (by omega)] | rw [if_neg (by omega)]
set_option maxHeartbeats 4000000 in
theorem s_leadStart {G : j_G} {X : k_X} {n : Nat} {σ : k_St} {a : Nat} (hA : i_at X n a) (hw : i_wf σ a) {e : Int} (he : -2147483648 ≤ e ∧ e ≤ 2147483647) : k_run G X mX3_leadStart [.ref a, j_i e] n σ 0 0 (k_is n σ (some (j_i (i_ls σ a e)))) := by
  obtain ⟨h5, hs0, hs1, hs2, hs3, hs4, hs5, hs6, hs7⟩ := id hA
  obtain ⟨hc, hpc, hlc, hlo, hv⟩ := id hw
  refine k_enter (by decide +kernel) (Nat.le_of_ble_eq_true rfl) ?_
  show j_at _ _ _ [(0, .ref a), (1, j_i e)] [] _ _ _ _
  refine a_iload_n (pc := 0) (i := 1) (by decide +kernel) rfl ?_
  refine a_if_le (pc := 1) (off := 21) (tgt := 22) (by decide +kernel) (by decide) (by omega) (fun c1 => ?_) (fun c1 => ?_)
  · refine a_iconst (pc := 22) (n := 0) (by decide +kernel) ?_
    refine a_ireturn (pc := 23) (by decide +kernel) rfl ?_
    refine k_ret ?_
    refine ⟨?_, rfl, rfl⟩
    unfold i_ls
    first | rw [if_pos (by omega)] | rw [if_neg (by omega)]
  · refine a_iload_n (pc := 4) (i := 1) (by decide +kernel) rfl ?_
    refine a_sipush (pc := 5) (n := 150) (by decide +kernel) rfl ?_
    refine a_icmp_ge (pc := 8) (off := 14) (tgt := 22) (by decide +kernel) (by decide) (by omega) (by omega) (fun c8 => ?_) (fun c8 => ?_)
    · refine a_iconst (pc := 22) (n := 0) (by decide +kernel) ?_
      refine a_ireturn (pc := 23) (by decide +kernel) rfl ?_
      refine k_ret ?_
      refine ⟨?_, rfl, rfl⟩
      unfold i_ls
      first | rw [if_pos (by omega)] | rw [if_neg (by omega)]
    · refine a_aload_n (pc := 11) (i := 0) (by decide +kernel) rfl ?_
      refine b_getR (pc := 12) (b := a + 3) fl_X3_22 (by decide +kernel) hs0 rfl ?_
      refine a_iload_n (pc := 15) (i := 1) (by decide +kernel) rfl ?_
      refine a_iconst (pc := 16) (n := 1) (by decide +kernel) ?_
      refine a_isub (pc := 17) (by decide +kernel) ?_
      refine b_iaload (pc := 18) (by decide +kernel) hs3 (by omega) (by omega) (by omega) ?_
      refine a_goto (pc := 19) (off := 4) (tgt := 23) (by decide +kernel) (by decide) ?_
      refine a_ireturn (pc := 23) (by decide +kernel) rfl ?_
      refine k_ret ?_
      refine ⟨?_, rfl, rfl⟩
      unfold i_ls
      first | rw [if_pos (by omega)] | rw [if_neg (by omega)]
set_option maxHeartbeats 4000000 in
theorem s_placesOf {G : j_G} {X : k_X} {n : Nat} {σ : k_St} {a : Nat} (hA : i_at X n a) (hw : i_wf σ a) {e : Int} (he : -2147483648 ≤ e ∧ e ≤ 2147483647) : k_run G X mX3_placesOf [.ref a, j_i e] n σ 0 0 (k_is n σ (some (j_i (i_pn σ a e)))) := by
  obtain ⟨h5, hs0, hs1, hs2, hs3, hs4, hs5, hs6, hs7⟩ := id hA
  obtain ⟨hc, hpc, hlc, hlo, hv⟩ := id hw
  refine k_enter (by decide +kernel) (Nat.le_of_ble_eq_true rfl) ?_
  show j_at _ _ _ [(0, .ref a), (1, j_i e)] [] _ _ _ _
  refine a_aload_n (pc := 0) (i := 0) (by decide +kernel) rfl ?_
  refine a_iload_n (pc := 1) (i := 1) (by decide +kernel) rfl ?_
  refine b_callV (pc := 2) (c' := 0) (sl' := 0) [j_i e] [] ml_X3_52 (by decide +kernel) rfl rfl hs0 rfl rfl (Nat.le_of_ble_eq_true rfl) (j_fitI rfl rfl) (s_ihas hA hw (by omega)) (fun v n' σ' hq => ?_)
  obtain ⟨x, rfl, e1, e2, hx⟩ := hq
  rw [e1, e2]; clear e1 e2
  rcases hx with ⟨rfl, p2⟩ | ⟨rfl, p2⟩
  · show j_at _ _ _ [(0, .ref a), (1, j_i e)] [j_i 1] _ _ _ _
    refine a_if_eq (pc := 5) (off := 18) (tgt := 23) (by decide +kernel) (by decide) (by omega) (fun c5 => ?_) (fun c5 => ?_)
    · exact absurd c5 (by decide)
    · refine a_aload_n (pc := 8) (i := 0) (by decide +kernel) rfl ?_
      refine b_getR (pc := 9) (b := a + 2) fl_X3_19 (by decide +kernel) hs0 rfl ?_
      refine a_iload_n (pc := 12) (i := 1) (by decide +kernel) rfl ?_
      refine b_iaload (pc := 13) (by decide +kernel) hs2 (by omega) (by omega) (by omega) ?_
      refine a_aload_n (pc := 14) (i := 0) (by decide +kernel) rfl ?_
      refine a_iload_n (pc := 15) (i := 1) (by decide +kernel) rfl ?_
      refine b_pureV (pc := 16) [j_i e] [j_i (σ.1 (a + 2) e)] ml_X3_56 (by decide +kernel) rfl rfl hs0 rfl rfl (Nat.le_of_ble_eq_true rfl) (j_fitI rfl rfl) (s_placeStart hA hw (by omega)) ?_
      have qi1 := i_ps_in hw e
      show j_at _ _ _ [(0, .ref a), (1, j_i e)] [j_i (i_ps σ a e), j_i (σ.1 (a + 2) e)] _ _ _ _
      refine a_isub (pc := 19) (by decide +kernel) ?_
      refine a_goto (pc := 20) (off := 4) (tgt := 24) (by decide +kernel) (by decide) ?_
      refine a_ireturn (pc := 24) (by decide +kernel) rfl ?_
      refine k_ret ?_
      refine ⟨?_, rfl, rfl⟩
      unfold i_pn
      first | rw [if_pos p2] | rw [if_neg p2]
  · show j_at _ _ _ [(0, .ref a), (1, j_i e)] [j_i 0] _ _ _ _
    refine a_if_eq (pc := 5) (off := 18) (tgt := 23) (by decide +kernel) (by decide) (by omega) (fun c5 => ?_) (fun c5 => ?_)
    · refine a_iconst (pc := 23) (n := 0) (by decide +kernel) ?_
      refine a_ireturn (pc := 24) (by decide +kernel) rfl ?_
      refine k_ret ?_
      refine ⟨?_, rfl, rfl⟩
      unfold i_pn
      first | rw [if_pos p2] | rw [if_neg p2]
    · exact absurd c5 (by decide)
set_option maxHeartbeats 4000000 in
theorem s_seesOf {G : j_G} {X : k_X} {n : Nat} {σ : k_St} {a : Nat} (hA : i_at X n a) (hw : i_wf σ a) {e : Int} (he : -2147483648 ≤ e ∧ e ≤ 2147483647) : k_run G X mX3_seesOf [.ref a, j_i e] n σ 0 0 (k_is n σ (some (j_i (i_sn σ a e)))) := by
  obtain ⟨h5, hs0, hs1, hs2, hs3, hs4, hs5, hs6, hs7⟩ := id hA
  obtain ⟨hc, hpc, hlc, hlo, hv⟩ := id hw
  refine k_enter (by decide +kernel) (Nat.le_of_ble_eq_true rfl) ?_
  show j_at _ _ _ [(0, .ref a), (1, j_i e)] [] _ _ _ _
  refine a_aload_n (pc := 0) (i := 0) (by decide +kernel) rfl ?_
  refine a_iload_n (pc := 1) (i := 1) (by decide +kernel) rfl ?_
  refine b_callV (pc := 2) (c' := 0) (sl' := 0) [j_i e] [] ml_X3_52 (by decide +kernel) rfl rfl hs0 rfl rfl (Nat.le_of_ble_eq_true rfl) (j_fitI rfl rfl) (s_ihas hA hw (by omega)) (fun v n' σ' hq => ?_)
  obtain ⟨x, rfl, e1, e2, hx⟩ := hq
  rw [e1, e2]; clear e1 e2
  rcases hx with ⟨rfl, p2⟩ | ⟨rfl, p2⟩
  · show j_at _ _ _ [(0, .ref a), (1, j_i e)] [j_i 1] _ _ _ _
    refine a_if_eq (pc := 5) (off := 18) (tgt := 23) (by decide +kernel) (by decide) (by omega) (fun c5 => ?_) (fun c5 => ?_)
    · exact absurd c5 (by decide)
    · refine a_aload_n (pc := 8) (i := 0) (by decide +kernel) rfl ?_
      refine b_getR (pc := 9) (b := a + 3) fl_X3_22 (by decide +kernel) hs0 rfl ?_
      refine a_iload_n (pc := 12) (i := 1) (by decide +kernel) rfl ?_
      refine b_iaload (pc := 13) (by decide +kernel) hs3 (by omega) (by omega) (by omega) ?_
      refine a_aload_n (pc := 14) (i := 0) (by decide +kernel) rfl ?_
      refine a_iload_n (pc := 15) (i := 1) (by decide +kernel) rfl ?_
      refine b_pureV (pc := 16) [j_i e] [j_i (σ.1 (a + 3) e)] ml_X3_60 (by decide +kernel) rfl rfl hs0 rfl rfl (Nat.le_of_ble_eq_true rfl) (j_fitI rfl rfl) (s_leadStart hA hw (by omega)) ?_
      have qi1 := i_ls_in hw e
      show j_at _ _ _ [(0, .ref a), (1, j_i e)] [j_i (i_ls σ a e), j_i (σ.1 (a + 3) e)] _ _ _ _
      refine a_isub (pc := 19) (by decide +kernel) ?_
      refine a_goto (pc := 20) (off := 4) (tgt := 24) (by decide +kernel) (by decide) ?_
      refine a_ireturn (pc := 24) (by decide +kernel) rfl ?_
      refine k_ret ?_
      refine ⟨?_, rfl, rfl⟩
      unfold i_sn
      first | rw [if_pos p2] | rw [if_neg p2]
  · show j_at _ _ _ [(0, .ref a), (1, j_i e)] [j_i 0] _ _ _ _
    refine a_if_eq (pc := 5) (off := 18) (tgt := 23) (by decide +kernel) (by decide) (by omega) (fun c5 => ?_) (fun c5 => ?_)
    · refine a_iconst (pc := 23) (n := 0) (by decide +kernel) ?_
      refine a_ireturn (pc := 24) (by decide +kernel) rfl ?_
      refine k_ret ?_
      refine ⟨?_, rfl, rfl⟩
      unfold i_sn
      first | rw [if_pos p2] | rw [if_neg p2]
    · exact absurd c5 (by decide)
def i_wB (σ : k_St) (a : Nat) (e : Int) : Int → Bool := fun k => decide (f_aro (σ.1 (a + 1) k) = σ.1 (a + 1) e)
def i_win (σ : k_St) (a : Nat) (e : Int) : Int := if 0 ≤ e ∧ e < σ.2.1 a 0 then f_count (i_wB σ a e) (σ.2.1 a 0).toNat - f_count (i_wB σ a e) (e + 1).toNat else 0
set_option maxHeartbeats 4000000 in
theorem l_withinOf {G : j_G} {X : k_X} {n : Nat} {σ : k_St} {a : Nat} (hA : i_at X n a) (hw : i_wf σ a) {e : Int} (he : 0 ≤ e ∧ e < σ.2.1 a 0) : ∀ (m : Nat) (k : Int), 150 - k < (m : Int) → e < k → k ≤ σ.2.1 a 0 → j_at G mX3_withinOf 6 [(0, .ref a), (1, j_i e), (2, j_i (f_count (i_wB σ a e) k.toNat - f_count (i_wB σ a e) (e + 1).toNat)), (3, j_i k)] [] (k_h X n σ) 0 0 (k_Q X (k_is n σ (some (j_i (i_win σ a e))))) := by
  intro m
  induction m with
  | zero => intro i h1 h2 h3; exact absurd h3 (by have := hw.1; omega)
  | succ m ih =>
    intro k hm h0 hN
    obtain ⟨h5, hs0, hs1, hs2, hs3, hs4, hs5, hs6, hs7⟩ := id hA
    obtain ⟨hc, hpc, hlc, hlo, hv⟩ := id hw
    refine a_aload_n (pc := 6) (i := 0) (by decide +kernel) rfl ?_
    refine a_iload_n (pc := 7) (i := 1) (by decide +kernel) rfl ?_
    refine b_callV (pc := 8) (c' := 0) (sl' := 0) [j_i e] [] ml_X3_52 (by decide +kernel) rfl rfl hs0 rfl rfl (Nat.le_of_ble_eq_true rfl) (j_fitI rfl rfl) (s_ihas hA hw (by omega)) (fun v n' σ' hq => ?_)
    obtain ⟨x, rfl, e1, e2, hx⟩ := hq
    rw [e1, e2]; clear e1 e2
    rcases hx with ⟨rfl, p8⟩ | ⟨rfl, p8⟩
    · show j_at _ _ _ [(0, .ref a), (1, j_i e), (2, j_i (f_count (i_wB σ a e) k.toNat - f_count (i_wB σ a e) (e + 1).toNat)), (3, j_i k)] [j_i 1] _ _ _ _
      refine a_if_eq (pc := 11) (off := 38) (tgt := 49) (by decide +kernel) (by decide) (by omega) (fun c11 => ?_) (fun c11 => ?_)
      · exact absurd c11 (by decide)
      · refine a_iload_n (pc := 14) (i := 3) (by decide +kernel) rfl ?_
        refine a_aload_n (pc := 15) (i := 0) (by decide +kernel) rfl ?_
        refine b_getI (pc := 16) fl_X3_9 (by decide +kernel) hs0 rfl ?_
        refine a_icmp_ge (pc := 19) (off := 30) (tgt := 49) (by decide +kernel) (by decide) (by omega) (by omega) (fun c19 => ?_) (fun c19 => ?_)
        · refine a_iload_n (pc := 49) (i := 2) (by decide +kernel) rfl ?_
          refine a_ireturn (pc := 50) (by decide +kernel) rfl ?_
          refine k_ret ?_
          refine ⟨?_, rfl, rfl⟩
          unfold i_win
          first | (rw [if_pos p8, show k = σ.2.1 a 0 by omega]) | exact absurd he p8
        · refine a_aload_n (pc := 22) (i := 0) (by decide +kernel) rfl ?_
          refine b_getR (pc := 23) (b := a + 1) fl_X3_15 (by decide +kernel) hs0 rfl ?_
          refine a_iload_n (pc := 26) (i := 3) (by decide +kernel) rfl ?_
          refine b_iaload (pc := 27) (by decide +kernel) hs1 (by omega) (by omega) (by omega) ?_
          have hvk := hv k
          have hva := f_aro_in hvk.1
          have hve := hv e
          refine b_pureS (pc := 28) [j_i (σ.1 (a + 1) k)] [] ml_X3_63 (by decide +kernel) rfl rfl (Nat.le_of_ble_eq_true rfl) (j_fitI rfl rfl) (s_around (by omega)) ?_
          show j_at _ _ _ [(0, .ref a), (1, j_i e), (2, j_i (f_count (i_wB σ a e) k.toNat - f_count (i_wB σ a e) (e + 1).toNat)), (3, j_i k)] [j_i (f_aro (σ.1 (a + 1) k))] _ _ _ _
          refine a_aload_n (pc := 31) (i := 0) (by decide +kernel) rfl ?_
          refine b_getR (pc := 32) (b := a + 1) fl_X3_15 (by decide +kernel) hs0 rfl ?_
          refine a_iload_n (pc := 35) (i := 1) (by decide +kernel) rfl ?_
          refine b_iaload (pc := 36) (by decide +kernel) hs1 (by omega) (by omega) (by omega) ?_
          refine a_icmp_ne (pc := 37) (off := 6) (tgt := 43) (by decide +kernel) (by decide) (by omega) (by omega) (fun c37 => ?_) (fun c37 => ?_)
          · refine a_iinc (pc := 43) (i := 3) (n := 1) (x := k) (lv' := [(0, .ref a), (1, j_i e), (2, j_i (f_count (i_wB σ a e) k.toNat - f_count (i_wB σ a e) (e + 1).toNat)), (3, j_i (k + 1))]) (by decide +kernel) rfl (Nat.le_of_ble_eq_true rfl) rfl ?_
            refine a_goto (pc := 46) (off := -40) (tgt := 6) (by decide +kernel) (by decide) ?_
            have e9 := f_count_n (g := i_wB σ a e) (i := k) (by omega) (by unfold i_wB; simp [c37])
            have e8 := ih (k + 1) (by omega) (by omega) (by omega)
            rw [e9] at e8
            exact e8
          · refine a_iinc (pc := 40) (i := 2) (n := 1) (x := f_count (i_wB σ a e) k.toNat - f_count (i_wB σ a e) (e + 1).toNat) (lv' := [(0, .ref a), (1, j_i e), (2, j_i ((f_count (i_wB σ a e) k.toNat - f_count (i_wB σ a e) (e + 1).toNat) + 1)), (3, j_i k)]) (by decide +kernel) rfl (Nat.le_of_ble_eq_true rfl) rfl ?_
            refine a_iinc (pc := 43) (i := 3) (n := 1) (x := k) (lv' := [(0, .ref a), (1, j_i e), (2, j_i ((f_count (i_wB σ a e) k.toNat - f_count (i_wB σ a e) (e + 1).toNat) + 1)), (3, j_i (k + 1))]) (by decide +kernel) rfl (Nat.le_of_ble_eq_true rfl) rfl ?_
            refine a_goto (pc := 46) (off := -40) (tgt := 6) (by decide +kernel) (by decide) ?_
            have e9 := f_count_y (g := i_wB σ a e) (i := k) (by omega) (by unfold i_wB; simp [c37])
            have e8 := ih (k + 1) (by omega) (by omega) (by omega)
            rw [e9] at e8
            rw [show f_count (i_wB σ a e) k.toNat + 1 - f_count (i_wB σ a e) (e + 1).toNat = f_count (i_wB σ a e) k.toNat - f_count (i_wB σ a e) (e + 1).toNat + 1 by omega] at e8
            exact e8
    · show j_at _ _ _ [(0, .ref a), (1, j_i e), (2, j_i (f_count (i_wB σ a e) k.toNat - f_count (i_wB σ a e) (e + 1).toNat)), (3, j_i k)] [j_i 0] _ _ _ _
      refine a_if_eq (pc := 11) (off := 38) (tgt := 49) (by decide +kernel) (by decide) (by omega) (fun c11 => ?_) (fun c11 => ?_)
      · refine a_iload_n (pc := 49) (i := 2) (by decide +kernel) rfl ?_
        refine a_ireturn (pc := 50) (by decide +kernel) rfl ?_
        refine k_ret ?_
        refine ⟨?_, rfl, rfl⟩
        unfold i_win
        first | (rw [if_pos p8, show k = σ.2.1 a 0 by omega]) | exact absurd he p8
      · exact absurd c11 (by decide)
set_option maxHeartbeats 4000000 in
theorem s_withinOf {G : j_G} {X : k_X} {n : Nat} {σ : k_St} {a : Nat} (hA : i_at X n a) (hw : i_wf σ a) {e : Int} (hr : -2147483648 ≤ e ∧ e ≤ 2147483646) : k_run G X mX3_withinOf [.ref a, j_i e] n σ 0 0 (k_is n σ (some (j_i (i_win σ a e)))) := by
  obtain ⟨h5, hs0, hs1, hs2, hs3, hs4, hs5, hs6, hs7⟩ := id hA
  obtain ⟨hc, hpc, hlc, hlo, hv⟩ := id hw
  refine k_enter (by decide +kernel) (Nat.le_of_ble_eq_true rfl) ?_
  show j_at _ _ _ [(0, .ref a), (1, j_i e)] [] _ _ _ _
  refine a_iconst (pc := 0) (n := 0) (by decide +kernel) ?_
  refine a_istore_n (pc := 1) (i := 2) (lv' := [(0, .ref a), (1, j_i e), (2, j_i 0)]) (by decide +kernel) (Nat.le_of_ble_eq_true rfl) rfl ?_
  refine a_iload_n (pc := 2) (i := 1) (by decide +kernel) rfl ?_
  refine a_iconst (pc := 3) (n := 1) (by decide +kernel) ?_
  refine a_iadd (pc := 4) (by decide +kernel) ?_
  refine a_istore_n (pc := 5) (i := 3) (lv' := [(0, .ref a), (1, j_i e), (2, j_i 0), (3, j_i (e + 1))]) (by decide +kernel) (Nat.le_of_ble_eq_true rfl) rfl ?_
  by_cases he : 0 ≤ e ∧ e < σ.2.1 a 0
  · have e8 := l_withinOf (G := G) (X := X) hA hw he 151 (e + 1) (by omega) (by omega) (by omega)
    rw [Int.sub_self] at e8
    exact e8
  · skip
    refine a_aload_n (pc := 6) (i := 0) (by decide +kernel) rfl ?_
    refine a_iload_n (pc := 7) (i := 1) (by decide +kernel) rfl ?_
    refine b_callV (pc := 8) (c' := 0) (sl' := 0) [j_i e] [] ml_X3_52 (by decide +kernel) rfl rfl hs0 rfl rfl (Nat.le_of_ble_eq_true rfl) (j_fitI rfl rfl) (s_ihas hA hw (by omega)) (fun v n' σ' hq => ?_)
    obtain ⟨x, rfl, e1, e2, hx⟩ := hq
    rw [e1, e2]; clear e1 e2
    rcases hx with ⟨rfl, p8⟩ | ⟨rfl, p8⟩
    · show j_at _ _ _ [(0, .ref a), (1, j_i e), (2, j_i 0), (3, j_i (e + 1))] [j_i 1] _ _ _ _
      refine a_if_eq (pc := 11) (off := 38) (tgt := 49) (by decide +kernel) (by decide) (by omega) (fun c11 => ?_) (fun c11 => ?_)
      · exact absurd c11 (by decide)
      · refine a_iload_n (pc := 14) (i := 3) (by decide +kernel) rfl ?_
        refine a_aload_n (pc := 15) (i := 0) (by decide +kernel) rfl ?_
        refine b_getI (pc := 16) fl_X3_9 (by decide +kernel) hs0 rfl ?_
        refine a_icmp_ge (pc := 19) (off := 30) (tgt := 49) (by decide +kernel) (by decide) (by omega) (by omega) (fun c19 => ?_) (fun c19 => ?_)
        · exact absurd p8 he
        · exact absurd p8 he
    · show j_at _ _ _ [(0, .ref a), (1, j_i e), (2, j_i 0), (3, j_i (e + 1))] [j_i 0] _ _ _ _
      refine a_if_eq (pc := 11) (off := 38) (tgt := 49) (by decide +kernel) (by decide) (by omega) (fun c11 => ?_) (fun c11 => ?_)
      · refine a_iload_n (pc := 49) (i := 2) (by decide +kernel) rfl ?_
        refine a_ireturn (pc := 50) (by decide +kernel) rfl ?_
        refine k_ret ?_
        refine ⟨?_, rfl, rfl⟩
        unfold i_win
        rw [if_neg he]
      · exact absurd c11 (by decide)
set_option maxHeartbeats 4000000 in
theorem s_hasBody {G : j_G} {X : k_X} {n : Nat} {σ : k_St} {a : Nat} (hA : i_at X n a) (hw : i_wf σ a) {e : Int} (hr : -2147483648 ≤ e ∧ e ≤ 2147483646) : k_run G X mX3_hasBody [.ref a, j_i e] n σ 0 0 (k_b n σ (i_body σ a e)) := by
  obtain ⟨h5, hs0, hs1, hs2, hs3, hs4, hs5, hs6, hs7⟩ := id hA
  obtain ⟨hc, hpc, hlc, hlo, hv⟩ := id hw
  refine k_enter (by decide +kernel) (Nat.le_of_ble_eq_true rfl) ?_
  show j_at _ _ _ [(0, .ref a), (1, j_i e)] [] _ _ _ _
  refine a_aload_n (pc := 0) (i := 0) (by decide +kernel) rfl ?_
  refine a_iload_n (pc := 1) (i := 1) (by decide +kernel) rfl ?_
  refine b_pureV (pc := 2) [j_i e] [] ml_X3_66 (by decide +kernel) rfl rfl hs0 rfl rfl (Nat.le_of_ble_eq_true rfl) (j_fitI rfl rfl) (s_placesOf hA hw (by omega)) ?_
  have qi1 := i_pn_in hw e
  show j_at _ _ _ [(0, .ref a), (1, j_i e)] [j_i (i_pn σ a e)] _ _ _ _
  refine a_if_gt (pc := 5) (off := 41) (tgt := 46) (by decide +kernel) (by decide) (by omega) (fun c5 => ?_) (fun c5 => ?_)
  · refine a_iconst (pc := 46) (n := 1) (by decide +kernel) ?_
    refine a_goto (pc := 47) (off := 4) (tgt := 51) (by decide +kernel) (by decide) ?_
    refine a_zreturn (pc := 51) (by decide +kernel) rfl (by omega) ?_
    refine k_ret ?_
    refine k_by ?_
    unfold i_body
    first | exact Or.inl c5 | exact Or.inr ⟨p10.1, p20.2, c43⟩
  · refine a_aload_n (pc := 8) (i := 0) (by decide +kernel) rfl ?_
    refine a_iload_n (pc := 9) (i := 1) (by decide +kernel) rfl ?_
    refine b_callV (pc := 10) (c' := 0) (sl' := 0) [j_i e] [] ml_X3_52 (by decide +kernel) rfl rfl hs0 rfl rfl (Nat.le_of_ble_eq_true rfl) (j_fitI rfl rfl) (s_ihas hA hw (by omega)) (fun v n' σ' hq => ?_)
    obtain ⟨x, rfl, e1, e2, hx⟩ := hq
    rw [e1, e2]; clear e1 e2
    rcases hx with ⟨rfl, p10⟩ | ⟨rfl, p10⟩
    · show j_at _ _ _ [(0, .ref a), (1, j_i e)] [j_i 1] _ _ _ _
      refine a_if_eq (pc := 13) (off := 37) (tgt := 50) (by decide +kernel) (by decide) (by omega) (fun c13 => ?_) (fun c13 => ?_)
      · exact absurd c13 (by decide)
      · refine a_aload_n (pc := 16) (i := 0) (by decide +kernel) rfl ?_
        refine a_iload_n (pc := 17) (i := 1) (by decide +kernel) rfl ?_
        refine a_iconst (pc := 18) (n := 1) (by decide +kernel) ?_
        refine a_iadd (pc := 19) (by decide +kernel) ?_
        refine b_callV (pc := 20) (c' := 0) (sl' := 0) [j_i (e + 1)] [] ml_X3_52 (by decide +kernel) rfl rfl hs0 rfl rfl (Nat.le_of_ble_eq_true rfl) (j_fitI rfl rfl) (s_ihas hA hw (by omega)) (fun v n' σ' hq => ?_)
        obtain ⟨x, rfl, e1, e2, hx⟩ := hq
        rw [e1, e2]; clear e1 e2
        rcases hx with ⟨rfl, p20⟩ | ⟨rfl, p20⟩
        · show j_at _ _ _ [(0, .ref a), (1, j_i e)] [j_i 1] _ _ _ _
          refine a_if_eq (pc := 23) (off := 27) (tgt := 50) (by decide +kernel) (by decide) (by omega) (fun c23 => ?_) (fun c23 => ?_)
          · exact absurd c23 (by decide)
          · refine a_aload_n (pc := 26) (i := 0) (by decide +kernel) rfl ?_
            refine b_getR (pc := 27) (b := a + 1) fl_X3_15 (by decide +kernel) hs0 rfl ?_
            refine a_iload_n (pc := 30) (i := 1) (by decide +kernel) rfl ?_
            refine a_iconst (pc := 31) (n := 1) (by decide +kernel) ?_
            refine a_iadd (pc := 32) (by decide +kernel) ?_
            have hve := hv (e + 1)
            have hva := f_aro_in hve.1
            have hve0 := hv e
            refine b_iaload (pc := 33) (by decide +kernel) hs1 (by omega) (by omega) (by omega) ?_
            refine b_pureS (pc := 34) [j_i (σ.1 (a + 1) (e + 1))] [] ml_X3_63 (by decide +kernel) rfl rfl (Nat.le_of_ble_eq_true rfl) (j_fitI rfl rfl) (s_around (by omega)) ?_
            show j_at _ _ _ [(0, .ref a), (1, j_i e)] [j_i (f_aro (σ.1 (a + 1) (e + 1)))] _ _ _ _
            refine a_aload_n (pc := 37) (i := 0) (by decide +kernel) rfl ?_
            refine b_getR (pc := 38) (b := a + 1) fl_X3_15 (by decide +kernel) hs0 rfl ?_
            refine a_iload_n (pc := 41) (i := 1) (by decide +kernel) rfl ?_
            refine b_iaload (pc := 42) (by decide +kernel) hs1 (by omega) (by omega) (by omega) ?_
            refine a_icmp_ne (pc := 43) (off := 7) (tgt := 50) (by decide +kernel) (by decide) (by omega) (by omega) (fun c43 => ?_) (fun c43 => ?_)
            · refine a_iconst (pc := 50) (n := 0) (by decide +kernel) ?_
              refine a_zreturn (pc := 51) (by decide +kernel) rfl (by omega) ?_
              refine k_ret ?_
              refine k_bn (fun h9 => ?_)
              unfold i_body at h9
              rcases h9 with h9 | ⟨h1, h2, h3⟩
              · omega
              · first | exact p10 ⟨h1, by omega⟩ | exact p20 ⟨by omega, h2⟩ | exact c43 h3
            · refine a_iconst (pc := 46) (n := 1) (by decide +kernel) ?_
              refine a_goto (pc := 47) (off := 4) (tgt := 51) (by decide +kernel) (by decide) ?_
              refine a_zreturn (pc := 51) (by decide +kernel) rfl (by omega) ?_
              refine k_ret ?_
              refine k_by ?_
              unfold i_body
              first | exact Or.inl c5 | exact Or.inr ⟨p10.1, p20.2, c43⟩
        · show j_at _ _ _ [(0, .ref a), (1, j_i e)] [j_i 0] _ _ _ _
          refine a_if_eq (pc := 23) (off := 27) (tgt := 50) (by decide +kernel) (by decide) (by omega) (fun c23 => ?_) (fun c23 => ?_)
          · refine a_iconst (pc := 50) (n := 0) (by decide +kernel) ?_
            refine a_zreturn (pc := 51) (by decide +kernel) rfl (by omega) ?_
            refine k_ret ?_
            refine k_bn (fun h9 => ?_)
            unfold i_body at h9
            rcases h9 with h9 | ⟨h1, h2, h3⟩
            · omega
            · first | exact p10 ⟨h1, by omega⟩ | exact p20 ⟨by omega, h2⟩ | exact c43 h3
          · exact absurd c23 (by decide)
    · show j_at _ _ _ [(0, .ref a), (1, j_i e)] [j_i 0] _ _ _ _
      refine a_if_eq (pc := 13) (off := 37) (tgt := 50) (by decide +kernel) (by decide) (by omega) (fun c13 => ?_) (fun c13 => ?_)
      · refine a_iconst (pc := 50) (n := 0) (by decide +kernel) ?_
        refine a_zreturn (pc := 51) (by decide +kernel) rfl (by omega) ?_
        refine k_ret ?_
        refine k_bn (fun h9 => ?_)
        unfold i_body at h9
        rcases h9 with h9 | ⟨h1, h2, h3⟩
        · omega
        · first | exact p10 ⟨h1, by omega⟩ | exact p20 ⟨by omega, h2⟩ | exact c43 h3
      · exact absurd c13 (by decide)
set_option maxHeartbeats 4000000 in
theorem l_entryOf {G : j_G} {X : k_X} {n : Nat} {σ : k_St} {a : Nat} (hA : i_at X n a) (hw : i_wf σ a) {p : Int} (hp : -2147483648 ≤ p ∧ p ≤ 2147483647) : ∀ (m : Nat) (i : Int), 150 - i < (m : Int) → 0 ≤ i → i ≤ σ.2.1 a 0 → (∀ q, 0 ≤ q → q < i → σ.1 (a + 1) q ≠ p) → j_at G mX3_entryOf 2 [(0, .ref a), (1, j_i p), (2, j_i i)] [] (k_h X n σ) 0 0 (k_Q X (k_ex n σ (i_of σ a p))) := by
  intro m
  induction m with
  | zero => intro i h1 h2 h3; exact absurd h3 (by have := hw.1; omega)
  | succ m ih =>
    intro i hm h0 hN hI
    obtain ⟨h5, hs0, hs1, hs2, hs3, hs4, hs5, hs6, hs7⟩ := id hA
    obtain ⟨hc, hpc, hlc, hlo, hv⟩ := id hw
    refine a_iload_n (pc := 2) (i := 2) (by decide +kernel) rfl ?_
    refine a_aload_n (pc := 3) (i := 0) (by decide +kernel) rfl ?_
    refine b_getI (pc := 4) fl_X3_9 (by decide +kernel) hs0 rfl ?_
    refine a_icmp_ge (pc := 7) (off := 21) (tgt := 28) (by decide +kernel) (by decide) (by omega) (by omega) (fun c7 => ?_) (fun c7 => ?_)
    · refine a_bipush (pc := 28) (n := (-9)) (by decide +kernel) rfl ?_
      refine a_ireturn (pc := 30) (by decide +kernel) rfl ?_
      refine k_ret ?_
      exact k_exI (Or.inl ⟨rfl, fun q q0 q1 => hI q q0 (by omega)⟩)
    · refine a_aload_n (pc := 10) (i := 0) (by decide +kernel) rfl ?_
      refine b_getR (pc := 11) (b := a + 1) fl_X3_15 (by decide +kernel) hs0 rfl ?_
      refine a_iload_n (pc := 14) (i := 2) (by decide +kernel) rfl ?_
      refine b_iaload (pc := 15) (by decide +kernel) hs1 (by omega) (by omega) (by omega) ?_
      refine a_iload_n (pc := 16) (i := 1) (by decide +kernel) rfl ?_
      have hvi := hv i
      refine a_icmp_ne (pc := 17) (off := 5) (tgt := 22) (by decide +kernel) (by decide) (by omega) (by omega) (fun c17 => ?_) (fun c17 => ?_)
      · refine a_iinc (pc := 22) (i := 2) (n := 1) (x := i) (lv' := [(0, .ref a), (1, j_i p), (2, j_i (i + 1))]) (by decide +kernel) rfl (Nat.le_of_ble_eq_true rfl) rfl ?_
        refine a_goto (pc := 25) (off := -23) (tgt := 2) (by decide +kernel) (by decide) ?_
        exact ih (i + 1) (by omega) (by omega) (by omega) (lt_succ_cases hI c17)
      · refine a_iload_n (pc := 20) (i := 2) (by decide +kernel) rfl ?_
        refine a_ireturn (pc := 21) (by decide +kernel) rfl ?_
        refine k_ret ?_
        exact k_exI (Or.inr ⟨h0, c7, c17, hI⟩)
set_option maxHeartbeats 4000000 in
theorem s_entryOf {G : j_G} {X : k_X} {n : Nat} {σ : k_St} {a : Nat} (hA : i_at X n a) (hw : i_wf σ a) {p : Int} (hp : -2147483648 ≤ p ∧ p ≤ 2147483647) : k_run G X mX3_entryOf [.ref a, j_i p] n σ 0 0 (k_ex n σ (i_of σ a p)) := by
  obtain ⟨h5, hs0, hs1, hs2, hs3, hs4, hs5, hs6, hs7⟩ := id hA
  obtain ⟨hc, hpc, hlc, hlo, hv⟩ := id hw
  refine k_enter (by decide +kernel) (Nat.le_of_ble_eq_true rfl) ?_
  show j_at _ _ _ [(0, .ref a), (1, j_i p)] [] _ _ _ _
  refine a_iconst (pc := 0) (n := 0) (by decide +kernel) ?_
  refine a_istore_n (pc := 1) (i := 2) (lv' := [(0, .ref a), (1, j_i p), (2, j_i 0)]) (by decide +kernel) (Nat.le_of_ble_eq_true rfl) rfl ?_
  exact l_entryOf hA hw hp 151 0 (by omega) (by omega) hc.1 (fun j h0 h1 => absurd h0 (by omega))
def i_lB (σ : k_St) (a : Nat) (w : Int) : Int → Bool := fun k => decide (σ.1 (a + 5) (k * 3 + 2) = w)
set_option maxHeartbeats 4000000 in
theorem l_countLed {G : j_G} {X : k_X} {n : Nat} {σ : k_St} {a : Nat} (hA : i_at X n a) (hw : i_wf σ a) {w : Int} (hww : -2147483648 ≤ w ∧ w ≤ 2147483647) : ∀ (m : Nat) (i : Int), 50 - i < (m : Int) → 0 ≤ i → i ≤ σ.2.1 a 7 → j_at G mX3_countLed 4 [(0, .ref a), (1, j_i w), (2, j_i (f_count (i_lB σ a w) i.toNat)), (3, j_i i)] [] (k_h X n σ) 0 0 (k_Q X (k_is n σ (some (j_i (f_count (i_lB σ a w) (σ.2.1 a 7).toNat))))) := by
  intro m
  induction m with
  | zero => intro i h1 h2 h3; exact absurd h3 (by have := hw.2.2.1; omega)
  | succ m ih =>
    intro i hm h0 hN
    obtain ⟨h5, hs0, hs1, hs2, hs3, hs4, hs5, hs6, hs7⟩ := id hA
    obtain ⟨hc, hpc, hlc, hlo, hv⟩ := id hw
    refine a_iload_n (pc := 4) (i := 3) (by decide +kernel) rfl ?_
    refine a_aload_n (pc := 5) (i := 0) (by decide +kernel) rfl ?_
    refine b_getI (pc := 6) fl_X3_34 (by decide +kernel) hs0 rfl ?_
    refine a_icmp_ge (pc := 9) (off := 26) (tgt := 35) (by decide +kernel) (by decide) (by omega) (by omega) (fun c9 => ?_) (fun c9 => ?_)
    · refine a_iload_n (pc := 35) (i := 2) (by decide +kernel) rfl ?_
      refine a_ireturn (pc := 36) (by decide +kernel) rfl ?_
      refine k_ret ?_
      rw [show i = σ.2.1 a 7 by omega]; exact ⟨rfl, rfl, rfl⟩
    · refine a_aload_n (pc := 12) (i := 0) (by decide +kernel) rfl ?_
      refine b_getR (pc := 13) (b := a + 5) fl_X3_31 (by decide +kernel) hs0 rfl ?_
      refine a_iload_n (pc := 16) (i := 3) (by decide +kernel) rfl ?_
      refine a_iconst (pc := 17) (n := 3) (by decide +kernel) ?_
      refine a_imul (pc := 18) (by decide +kernel) ?_
      refine a_iconst (pc := 19) (n := 2) (by decide +kernel) ?_
      refine a_iadd (pc := 20) (by decide +kernel) ?_
      refine b_iaload (pc := 21) (by decide +kernel) hs5 (by omega) (by omega) (by omega) ?_
      refine a_iload_n (pc := 22) (i := 1) (by decide +kernel) rfl ?_
      have hvi := hv (i * 3 + 2)
      refine a_icmp_ne (pc := 23) (off := 6) (tgt := 29) (by decide +kernel) (by decide) (by omega) (by omega) (fun c23 => ?_) (fun c23 => ?_)
      · refine a_iinc (pc := 29) (i := 3) (n := 1) (x := i) (lv' := [(0, .ref a), (1, j_i w), (2, j_i (f_count (i_lB σ a w) i.toNat)), (3, j_i (i + 1))]) (by decide +kernel) rfl (Nat.le_of_ble_eq_true rfl) rfl ?_
        refine a_goto (pc := 32) (off := -28) (tgt := 4) (by decide +kernel) (by decide) ?_
        have e9 := f_count_n (g := i_lB σ a w) h0 (by unfold i_lB; simp [c23])
        have e8 := ih (i + 1) (by omega) (by omega) (by omega)
        rw [e9] at e8
        exact e8
      · refine a_iinc (pc := 26) (i := 2) (n := 1) (x := f_count (i_lB σ a w) i.toNat) (lv' := [(0, .ref a), (1, j_i w), (2, j_i ((f_count (i_lB σ a w) i.toNat) + 1)), (3, j_i i)]) (by decide +kernel) rfl (Nat.le_of_ble_eq_true rfl) rfl ?_
        refine a_iinc (pc := 29) (i := 3) (n := 1) (x := i) (lv' := [(0, .ref a), (1, j_i w), (2, j_i ((f_count (i_lB σ a w) i.toNat) + 1)), (3, j_i (i + 1))]) (by decide +kernel) rfl (Nat.le_of_ble_eq_true rfl) rfl ?_
        refine a_goto (pc := 32) (off := -28) (tgt := 4) (by decide +kernel) (by decide) ?_
        have e9 := f_count_y (g := i_lB σ a w) h0 (by unfold i_lB; simp [c23])
        have e8 := ih (i + 1) (by omega) (by omega) (by omega)
        rw [e9] at e8
        exact e8
set_option maxHeartbeats 4000000 in
theorem s_countLed {G : j_G} {X : k_X} {n : Nat} {σ : k_St} {a : Nat} (hA : i_at X n a) (hw : i_wf σ a) {w : Int} (hww : -2147483648 ≤ w ∧ w ≤ 2147483647) : k_run G X mX3_countLed [.ref a, j_i w] n σ 0 0 (k_is n σ (some (j_i (f_count (i_lB σ a w) (σ.2.1 a 7).toNat)))) := by
  obtain ⟨h5, hs0, hs1, hs2, hs3, hs4, hs5, hs6, hs7⟩ := id hA
  obtain ⟨hc, hpc, hlc, hlo, hv⟩ := id hw
  refine k_enter (by decide +kernel) (Nat.le_of_ble_eq_true rfl) ?_
  show j_at _ _ _ [(0, .ref a), (1, j_i w)] [] _ _ _ _
  refine a_iconst (pc := 0) (n := 0) (by decide +kernel) ?_
  refine a_istore_n (pc := 1) (i := 2) (lv' := [(0, .ref a), (1, j_i w), (2, j_i 0)]) (by decide +kernel) (Nat.le_of_ble_eq_true rfl) rfl ?_
  refine a_iconst (pc := 2) (n := 0) (by decide +kernel) ?_
  refine a_istore_n (pc := 3) (i := 3) (lv' := [(0, .ref a), (1, j_i w), (2, j_i 0), (3, j_i 0)]) (by decide +kernel) (Nat.le_of_ble_eq_true rfl) rfl ?_
  exact l_countLed hA hw hww 51 0 (by omega) (by omega) hlc.1
