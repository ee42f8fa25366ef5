set_option maxHeartbeats 4000000 in
theorem l_melt {G : j_G} {X : k_X} {n : Nat} {σ : k_St} (hn : 101 ≤ n) {d : Int} (hd : 0 ≤ d ∧ d ≤ 20) : ∀ (t : List (Int × Int)) (k m : Int) (R : List (Int × Int)) (τ : k_St), u_fr σ τ → τ.2.1 45 2 = k + t.length → m ≤ k → m = R.length → u_seg (τ.1 46) (τ.1 47) 0 R.reverse → u_seg (τ.1 46) (τ.1 47) k t → u_ok t → u_ok R → k + t.length ≤ 50 → j_at G mX10_melt 4 [(0, .ref 45), (1, j_i d), (2, j_i m), (3, j_i k)] [] (k_h X n τ) 0 0 (k_Q X (u_post n σ (fun l => l = u_melt d R t))) := by
  intro t
  induction t with
  | nil =>
    intro k m R τ hf hc hmk hmR hR hs hok hro hk
    rw [List.length_nil] at hc
    refine a_iload_n (pc := 4) (i := 3) (by decide +kernel) rfl ?_
    refine a_aload_n (pc := 5) (i := 0) (by decide +kernel) rfl ?_
    refine b_getI (pc := 6) fl_X10_18 (by decide +kernel) (sh_45 hn) rfl ?_
    refine a_icmp_ge (pc := 9) (off := 73) (tgt := 82) (by decide +kernel) (by decide) (by omega) (by omega) (fun c9 => ?_) (fun c9 => ?_)
    · refine a_aload_n (pc := 82) (i := 0) (by decide +kernel) rfl ?_
      refine a_iload_n (pc := 83) (i := 2) (by decide +kernel) rfl ?_
      refine b_putI (pc := 84) fl_X10_18 (by decide +kernel) (sh_45 hn) rfl rfl rfl ?_
      obtain ⟨σ1, hσ1⟩ : ∃ z, z = k_sI τ 45 2 m := ⟨_, rfl⟩
      rw [← hσ1]
      refine a_return (pc := 87) (by decide +kernel) rfl ?_
      refine k_ret ?_
      refine ⟨rfl, rfl, by rw [hσ1]; exact u_fr_I hf, _, ⟨?_, by rw [hσ1]; exact hR, fun y hy => hro y (by simpa using hy), by simp; omega⟩, by cases R <;> rfl⟩
      rw [hσ1, k_II]; simp; omega
    · exfalso; omega
  | cons x t ih =>
    intro k m R τ hf hc hmk hmR hR hs hok hro hk
    rw [List.length_cons] at hc hk
    have s1 := hs.1
    have s2 := hs.2.1
    have xo := hok x List.mem_cons_self
    have hok2 : u_ok t := fun y hy => hok y (List.mem_cons_of_mem _ hy)
    cases R with
    | nil =>
      have hm0 : m = 0 := hmR
      have hmR' : m = ([] : List (Int × Int)).reverse.length := hmR
      refine a_iload_n (pc := 4) (i := 3) (by decide +kernel) rfl ?_
      refine a_aload_n (pc := 5) (i := 0) (by decide +kernel) rfl ?_
      refine b_getI (pc := 6) fl_X10_18 (by decide +kernel) (sh_45 hn) rfl ?_
      refine a_icmp_ge (pc := 9) (off := 73) (tgt := 82) (by decide +kernel) (by decide) (by omega) (by omega) (fun c9 => ?_) (fun c9 => ?_)
      · exfalso; omega
      · refine a_iload_n (pc := 12) (i := 1) (by decide +kernel) rfl ?_
        refine a_if_le (pc := 13) (off := 54) (tgt := 67) (by decide +kernel) (by decide) (by omega) (fun c13 => ?_) (fun c13 => ?_)
        · refine a_aload_n (pc := 67) (i := 0) (by decide +kernel) rfl ?_
          refine a_iload_n (pc := 68) (i := 3) (by decide +kernel) rfl ?_
          refine a_iload_n (pc := 69) (i := 2) (by decide +kernel) rfl ?_
          refine b_callV (pc := 70) (c' := 0) (sl' := 0) [j_i k, j_i m] [] ml_X10_26 (by decide +kernel) rfl rfl (sh_45 hn) rfl rfl (Nat.le_of_ble_eq_true rfl) (j_fitI rfl rfl) (s_rkeep hn (by omega) (by omega)) (fun v n' σ' hq => ?_)
          obtain ⟨rfl, e1, e2⟩ := hq
          rw [e1, e2]; clear e1 e2
          obtain ⟨σ1, hσ1⟩ : ∃ z, z = k_sA (k_sA τ 46 (j_up (τ.1 46) m (τ.1 46 k))) 47 (j_up (τ.1 47) m (τ.1 47 k)) := ⟨_, rfl⟩
          rw [← hσ1]
          show j_at _ _ _ [(0, .ref 45), (1, j_i d), (2, j_i m), (3, j_i k)] [] _ _ _ _
          refine a_iinc (pc := 73) (i := 2) (n := 1) (x := m) (lv' := [(0, .ref 45), (1, j_i d), (2, j_i (m + 1)), (3, j_i k)]) (by decide +kernel) rfl (Nat.le_of_ble_eq_true rfl) rfl ?_
          refine a_iinc (pc := 76) (i := 3) (n := 1) (x := k) (lv' := [(0, .ref 45), (1, j_i d), (2, j_i (m + 1)), (3, j_i (k + 1))]) (by decide +kernel) rfl (Nat.le_of_ble_eq_true rfl) rfl ?_
          refine a_goto (pc := 79) (off := -75) (tgt := 4) (by decide +kernel) (by decide) ?_
          show j_at _ _ _ _ _ _ _ _ (k_Q X (u_post n σ (fun l => l = u_melt d [x] t)))
          obtain ⟨r1, r2⟩ := u_keep hσ1 hmR' hmk hR hs
          exact ih (k + 1) (m + 1) (x :: []) σ1 (by rw [hσ1]; exact u_fr_A (u_fr_A hf (Or.inl rfl)) (Or.inr rfl)) (by rw [hσ1]; show τ.2.1 45 2 = _; omega) (by omega) (by simp; omega) (by rw [List.reverse_cons]; exact r1) r2 hok2 (fun y hy => (List.mem_cons.mp hy).elim (fun hz => by rw [hz]; exact xo) (hro y)) (by omega)
        · refine a_iload_n (pc := 16) (i := 2) (by decide +kernel) rfl ?_
          refine a_if_le (pc := 17) (off := 50) (tgt := 67) (by decide +kernel) (by decide) (by omega) (fun c17 => ?_) (fun c17 => ?_)
          · refine a_aload_n (pc := 67) (i := 0) (by decide +kernel) rfl ?_
            refine a_iload_n (pc := 68) (i := 3) (by decide +kernel) rfl ?_
            refine a_iload_n (pc := 69) (i := 2) (by decide +kernel) rfl ?_
            refine b_callV (pc := 70) (c' := 0) (sl' := 0) [j_i k, j_i m] [] ml_X10_26 (by decide +kernel) rfl rfl (sh_45 hn) rfl rfl (Nat.le_of_ble_eq_true rfl) (j_fitI rfl rfl) (s_rkeep hn (by omega) (by omega)) (fun v n' σ' hq => ?_)
            obtain ⟨rfl, e1, e2⟩ := hq
            rw [e1, e2]; clear e1 e2
            obtain ⟨σ2, hσ2⟩ : ∃ z, z = k_sA (k_sA τ 46 (j_up (τ.1 46) m (τ.1 46 k))) 47 (j_up (τ.1 47) m (τ.1 47 k)) := ⟨_, rfl⟩
            rw [← hσ2]
            show j_at _ _ _ [(0, .ref 45), (1, j_i d), (2, j_i m), (3, j_i k)] [] _ _ _ _
            refine a_iinc (pc := 73) (i := 2) (n := 1) (x := m) (lv' := [(0, .ref 45), (1, j_i d), (2, j_i (m + 1)), (3, j_i k)]) (by decide +kernel) rfl (Nat.le_of_ble_eq_true rfl) rfl ?_
            refine a_iinc (pc := 76) (i := 3) (n := 1) (x := k) (lv' := [(0, .ref 45), (1, j_i d), (2, j_i (m + 1)), (3, j_i (k + 1))]) (by decide +kernel) rfl (Nat.le_of_ble_eq_true rfl) rfl ?_
            refine a_goto (pc := 79) (off := -75) (tgt := 4) (by decide +kernel) (by decide) ?_
            show j_at _ _ _ _ _ _ _ _ (k_Q X (u_post n σ (fun l => l = u_melt d [x] t)))
            obtain ⟨r1, r2⟩ := u_keep hσ2 hmR' hmk hR hs
            exact ih (k + 1) (m + 1) (x :: []) σ2 (by rw [hσ2]; exact u_fr_A (u_fr_A hf (Or.inl rfl)) (Or.inr rfl)) (by rw [hσ2]; show τ.2.1 45 2 = _; omega) (by omega) (by simp; omega) (by rw [List.reverse_cons]; exact r1) r2 hok2 (fun y hy => (List.mem_cons.mp hy).elim (fun hz => by rw [hz]; exact xo) (hro y)) (by omega)
          · exfalso; omega
    | cons r R =>
      have hmR' : m = (r :: R).reverse.length := by rw [List.length_reverse]; exact hmR
      rw [List.length_cons] at hmR
      have hRr := u_seg_app.mp (by rw [List.reverse_cons] at hR; exact hR)
      have hR1 : τ.1 46 (m - 1) = r.1 := by have := hRr.2.1; rw [show (0 : Int) + R.reverse.length = m - 1 by simp; omega] at this; exact this
      have s3 : τ.1 47 (m - 1) = r.2 := by have := hRr.2.2.1; rw [show (0 : Int) + R.reverse.length = m - 1 by simp; omega] at this; exact this
      have ro := hro r List.mem_cons_self
      refine a_iload_n (pc := 4) (i := 3) (by decide +kernel) rfl ?_
      refine a_aload_n (pc := 5) (i := 0) (by decide +kernel) rfl ?_
      refine b_getI (pc := 6) fl_X10_18 (by decide +kernel) (sh_45 hn) rfl ?_
      refine a_icmp_ge (pc := 9) (off := 73) (tgt := 82) (by decide +kernel) (by decide) (by omega) (by omega) (fun c9 => ?_) (fun c9 => ?_)
      · exfalso; omega
      · refine a_iload_n (pc := 12) (i := 1) (by decide +kernel) rfl ?_
        refine a_if_le (pc := 13) (off := 54) (tgt := 67) (by decide +kernel) (by decide) (by omega) (fun c13 => ?_) (fun c13 => ?_)
        · refine a_aload_n (pc := 67) (i := 0) (by decide +kernel) rfl ?_
          refine a_iload_n (pc := 68) (i := 3) (by decide +kernel) rfl ?_
          refine a_iload_n (pc := 69) (i := 2) (by decide +kernel) rfl ?_
          refine b_callV (pc := 70) (c' := 0) (sl' := 0) [j_i k, j_i m] [] ml_X10_26 (by decide +kernel) rfl rfl (sh_45 hn) rfl rfl (Nat.le_of_ble_eq_true rfl) (j_fitI rfl rfl) (s_rkeep hn (by omega) (by omega)) (fun v n' σ' hq => ?_)
          obtain ⟨rfl, e1, e2⟩ := hq
          rw [e1, e2]; clear e1 e2
          obtain ⟨σ1, hσ1⟩ : ∃ z, z = k_sA (k_sA τ 46 (j_up (τ.1 46) m (τ.1 46 k))) 47 (j_up (τ.1 47) m (τ.1 47 k)) := ⟨_, rfl⟩
          rw [← hσ1]
          show j_at _ _ _ [(0, .ref 45), (1, j_i d), (2, j_i m), (3, j_i k)] [] _ _ _ _
          refine a_iinc (pc := 73) (i := 2) (n := 1) (x := m) (lv' := [(0, .ref 45), (1, j_i d), (2, j_i (m + 1)), (3, j_i k)]) (by decide +kernel) rfl (Nat.le_of_ble_eq_true rfl) rfl ?_
          refine a_iinc (pc := 76) (i := 3) (n := 1) (x := k) (lv' := [(0, .ref 45), (1, j_i d), (2, j_i (m + 1)), (3, j_i (k + 1))]) (by decide +kernel) rfl (Nat.le_of_ble_eq_true rfl) rfl ?_
          refine a_goto (pc := 79) (off := -75) (tgt := 4) (by decide +kernel) (by decide) ?_
          rw [show u_melt d (r :: R) (x :: t) = u_melt d (x :: r :: R) t from if_neg (by omega)]
          obtain ⟨r1, r2⟩ := u_keep hσ1 hmR' hmk hR hs
          exact ih (k + 1) (m + 1) (x :: r :: R) σ1 (by rw [hσ1]; exact u_fr_A (u_fr_A hf (Or.inl rfl)) (Or.inr rfl)) (by rw [hσ1]; show τ.2.1 45 2 = _; omega) (by omega) (by simp; omega) (by rw [List.reverse_cons]; exact r1) r2 hok2 (fun y hy => (List.mem_cons.mp hy).elim (fun hz => by rw [hz]; exact xo) (hro y)) (by omega)
        · refine a_iload_n (pc := 16) (i := 2) (by decide +kernel) rfl ?_
          refine a_if_le (pc := 17) (off := 50) (tgt := 67) (by decide +kernel) (by decide) (by omega) (fun c17 => ?_) (fun c17 => ?_)
          · exfalso; omega
          · refine a_aload_n (pc := 20) (i := 0) (by decide +kernel) rfl ?_
            refine b_getR (pc := 21) (b := 46) fl_X10_9 (by decide +kernel) (sh_45 hn) rfl ?_
            refine a_iload_n (pc := 24) (i := 3) (by decide +kernel) rfl ?_
            refine b_iaload (pc := 25) (by decide +kernel) (sh_46 hn) (by omega) (by omega) (by omega) ?_
            rw [s1]
            refine a_aload_n (pc := 26) (i := 0) (by decide +kernel) rfl ?_
            refine b_getR (pc := 27) (b := 47) fl_X10_15 (by decide +kernel) (sh_45 hn) rfl ?_
            refine a_iload_n (pc := 30) (i := 2) (by decide +kernel) rfl ?_
            refine a_iconst (pc := 31) (n := 1) (by decide +kernel) ?_
            refine a_isub (pc := 32) (by decide +kernel) ?_
            refine b_iaload (pc := 33) (by decide +kernel) (sh_47 hn) (by omega) (by omega) (by omega) ?_
            rw [s3]
            refine a_isub (pc := 34) (by decide +kernel) ?_
            refine a_iload_n (pc := 35) (i := 1) (by decide +kernel) rfl ?_
            refine a_icmp_gt (pc := 36) (off := 31) (tgt := 67) (by decide +kernel) (by decide) (by omega) (by omega) (fun c36 => ?_) (fun c36 => ?_)
            · refine a_aload_n (pc := 67) (i := 0) (by decide +kernel) rfl ?_
              refine a_iload_n (pc := 68) (i := 3) (by decide +kernel) rfl ?_
              refine a_iload_n (pc := 69) (i := 2) (by decide +kernel) rfl ?_
              refine b_callV (pc := 70) (c' := 0) (sl' := 0) [j_i k, j_i m] [] ml_X10_26 (by decide +kernel) rfl rfl (sh_45 hn) rfl rfl (Nat.le_of_ble_eq_true rfl) (j_fitI rfl rfl) (s_rkeep hn (by omega) (by omega)) (fun v n' σ' hq => ?_)
              obtain ⟨rfl, e1, e2⟩ := hq
              rw [e1, e2]; clear e1 e2
              obtain ⟨σ2, hσ2⟩ : ∃ z, z = k_sA (k_sA τ 46 (j_up (τ.1 46) m (τ.1 46 k))) 47 (j_up (τ.1 47) m (τ.1 47 k)) := ⟨_, rfl⟩
              rw [← hσ2]
              show j_at _ _ _ [(0, .ref 45), (1, j_i d), (2, j_i m), (3, j_i k)] [] _ _ _ _
              refine a_iinc (pc := 73) (i := 2) (n := 1) (x := m) (lv' := [(0, .ref 45), (1, j_i d), (2, j_i (m + 1)), (3, j_i k)]) (by decide +kernel) rfl (Nat.le_of_ble_eq_true rfl) rfl ?_
              refine a_iinc (pc := 76) (i := 3) (n := 1) (x := k) (lv' := [(0, .ref 45), (1, j_i d), (2, j_i (m + 1)), (3, j_i (k + 1))]) (by decide +kernel) rfl (Nat.le_of_ble_eq_true rfl) rfl ?_
              refine a_goto (pc := 79) (off := -75) (tgt := 4) (by decide +kernel) (by decide) ?_
              rw [show u_melt d (r :: R) (x :: t) = u_melt d (x :: r :: R) t from if_neg (by omega)]
              obtain ⟨r1, r2⟩ := u_keep hσ2 hmR' hmk hR hs
              exact ih (k + 1) (m + 1) (x :: r :: R) σ2 (by rw [hσ2]; exact u_fr_A (u_fr_A hf (Or.inl rfl)) (Or.inr rfl)) (by rw [hσ2]; show τ.2.1 45 2 = _; omega) (by omega) (by simp; omega) (by rw [List.reverse_cons]; exact r1) r2 hok2 (fun y hy => (List.mem_cons.mp hy).elim (fun hz => by rw [hz]; exact xo) (hro y)) (by omega)
            · refine a_aload_n (pc := 39) (i := 0) (by decide +kernel) rfl ?_
              refine b_getR (pc := 40) (b := 47) fl_X10_15 (by decide +kernel) (sh_45 hn) rfl ?_
              refine a_iload_n (pc := 43) (i := 2) (by decide +kernel) rfl ?_
              refine a_iconst (pc := 44) (n := 1) (by decide +kernel) ?_
              refine a_isub (pc := 45) (by decide +kernel) ?_
              refine a_aload_n (pc := 46) (i := 0) (by decide +kernel) rfl ?_
              refine b_getR (pc := 47) (b := 47) fl_X10_15 (by decide +kernel) (sh_45 hn) rfl ?_
              refine a_iload_n (pc := 50) (i := 2) (by decide +kernel) rfl ?_
              refine a_iconst (pc := 51) (n := 1) (by decide +kernel) ?_
              refine a_isub (pc := 52) (by decide +kernel) ?_
              refine b_iaload (pc := 53) (by decide +kernel) (sh_47 hn) (by omega) (by omega) (by omega) ?_
              rw [s3]
              refine a_aload_n (pc := 54) (i := 0) (by decide +kernel) rfl ?_
              refine b_getR (pc := 55) (b := 47) fl_X10_15 (by decide +kernel) (sh_45 hn) rfl ?_
              refine a_iload_n (pc := 58) (i := 3) (by decide +kernel) rfl ?_
              refine b_iaload (pc := 59) (by decide +kernel) (sh_47 hn) (by omega) (by omega) (by omega) ?_
              rw [s2]
              refine a_mmax (pc := 60) mm_X10_30 (by decide +kernel) (by omega) (by omega) (Nat.le_of_ble_eq_true rfl) (Nat.le_of_ble_eq_true rfl) ?_
              refine b_iastore (pc := 63) (by decide +kernel) (sh_47 hn) (by omega) (by omega) (by omega) ?_
              obtain ⟨σ3, hσ3⟩ : ∃ z, z = k_sA τ 47 (j_up (τ.1 47) (m - 1) (max (r.2) (x.2))) := ⟨_, rfl⟩
              rw [← hσ3]
              refine a_goto (pc := 64) (off := 12) (tgt := 76) (by decide +kernel) (by decide) ?_
              refine a_iinc (pc := 76) (i := 3) (n := 1) (x := k) (lv' := [(0, .ref 45), (1, j_i d), (2, j_i m), (3, j_i (k + 1))]) (by decide +kernel) rfl (Nat.le_of_ble_eq_true rfl) rfl ?_
              refine a_goto (pc := 79) (off := -75) (tgt := 4) (by decide +kernel) (by decide) ?_
              rw [show u_melt d (r :: R) (x :: t) = u_melt d ((r.1, max r.2 x.2) :: R) t from if_pos ⟨c13, c36⟩]
              have e46 : σ3.1 46 = τ.1 46 := by rw [hσ3]; exact k_AN (by omega)
              have e47 : σ3.1 47 = j_up (τ.1 47) (m - 1) (max r.2 x.2) := by rw [hσ3]; exact k_AA
              refine ih (k + 1) m ((r.1, max r.2 x.2) :: R) σ3 (by rw [hσ3]; exact u_fr_A hf (Or.inr rfl)) (by rw [hσ3]; show τ.2.1 45 2 = _; omega) (by omega) (by simp; omega) ?_ ?_ hok2 (fun y hy => (List.mem_cons.mp hy).elim (fun hz => by rw [hz]; exact ⟨(hro r List.mem_cons_self).1, by show 0 ≤ max r.2 x.2 ∧ max r.2 x.2 ≤ 299; have := hro r List.mem_cons_self; omega⟩) (fun hz => hro y (List.mem_cons_of_mem _ hz))) (by omega)
              · rw [e46, e47, List.reverse_cons]
                refine u_seg_app.mpr ⟨u_seg_congr (fun j j0 j1 => ⟨rfl, j_upN (by simp at j1; omega)⟩) hRr.1, ?_⟩
                rw [show (0 : Int) + R.reverse.length = m - 1 by simp; omega]
                exact ⟨hR1, by rw [j_upS], trivial⟩
              · rw [e46, e47]
                exact u_seg_congr (fun j j0 j1 => ⟨rfl, j_upN (by omega)⟩) hs.2.2
set_option maxHeartbeats 4000000 in
theorem s_melt {G : j_G} {X : k_X} {n : Nat} {σ : k_St} (hn : 101 ≤ n) {l : List (Int × Int)} (hu : u_is σ l) {d : Int} (hd : 0 ≤ d ∧ d ≤ 20) : k_run G X mX10_melt [.ref 45, j_i d] n σ 0 0 (u_post n σ (fun z => z = u_melt d [] l)) := by
  obtain ⟨h1, h2, h3, h4⟩ := hu
  refine k_enter (by decide +kernel) (Nat.le_of_ble_eq_true rfl) ?_
  show j_at _ _ _ [(0, .ref 45), (1, j_i d)] [] _ _ _ _
  refine a_iconst (pc := 0) (n := 0) (by decide +kernel) ?_
  refine a_istore_n (pc := 1) (i := 2) (lv' := [(0, .ref 45), (1, j_i d), (2, j_i 0)]) (by decide +kernel) (Nat.le_of_ble_eq_true rfl) rfl ?_
  refine a_iconst (pc := 2) (n := 0) (by decide +kernel) ?_
  refine a_istore_n (pc := 3) (i := 3) (lv' := [(0, .ref 45), (1, j_i d), (2, j_i 0), (3, j_i 0)]) (by decide +kernel) (Nat.le_of_ble_eq_true rfl) rfl ?_
  have e := l_melt (G := G) (X := X) (σ := σ) hn hd l 0 0 [] σ u_fr_r (by rw [h1]; omega) (by omega) rfl trivial h2 h3 (fun _ h => by cases h) (by omega)
  exact e
set_option maxHeartbeats 4000000 in
theorem s_isAhead {G : j_G} {X : k_X} {n : Nat} {σ : k_St} (hn : 101 ≤ n) {f l k : Int} (hf : -2147483648 ≤ f ∧ f ≤ 2147483647) (hl : -2147483648 ≤ l ∧ l ≤ 2147483647) (hk : 0 ≤ k ∧ k < 50) (h1 : -2147483648 ≤ σ.1 46 k ∧ σ.1 46 k ≤ 2147483647) (h2 : -2147483648 ≤ σ.1 47 k ∧ σ.1 47 k ≤ 2147483647) : k_run G X mX10_isAhead [.ref 45, j_i f, j_i l, j_i k] n σ 0 0 (k_b n σ (u_ahead f l (σ.1 46 k, σ.1 47 k))) := by
  refine k_enter (by decide +kernel) (Nat.le_of_ble_eq_true rfl) ?_
  show j_at _ _ _ [(0, .ref 45), (1, j_i f), (2, j_i l), (3, j_i k)] [] _ _ _ _
  refine a_iload_n (pc := 0) (i := 1) (by decide +kernel) rfl ?_
  refine a_aload_n (pc := 1) (i := 0) (by decide +kernel) rfl ?_
  refine b_getR (pc := 2) (b := 46) fl_X10_9 (by decide +kernel) (sh_45 hn) rfl ?_
  refine a_iload_n (pc := 5) (i := 3) (by decide +kernel) rfl ?_
  refine b_iaload (pc := 6) (by decide +kernel) (sh_46 hn) (by omega) (by omega) (by omega) ?_
  refine a_icmp_lt (pc := 7) (off := 23) (tgt := 30) (by decide +kernel) (by decide) (by omega) (by omega) (fun c7 => ?_) (fun c7 => ?_)
  · refine a_iconst (pc := 30) (n := 1) (by decide +kernel) ?_
    refine a_goto (pc := 31) (off := 4) (tgt := 35) (by decide +kernel) (by decide) ?_
    refine a_zreturn (pc := 35) (by decide +kernel) rfl (by omega) ?_
    refine k_ret ?_
    exact k_by (by unfold u_ahead; show (f < σ.1 46 k ∨ f = σ.1 46 k ∧ σ.1 47 k < l); omega)
  · refine a_iload_n (pc := 10) (i := 1) (by decide +kernel) rfl ?_
    refine a_aload_n (pc := 11) (i := 0) (by decide +kernel) rfl ?_
    refine b_getR (pc := 12) (b := 46) fl_X10_9 (by decide +kernel) (sh_45 hn) rfl ?_
    refine a_iload_n (pc := 15) (i := 3) (by decide +kernel) rfl ?_
    refine b_iaload (pc := 16) (by decide +kernel) (sh_46 hn) (by omega) (by omega) (by omega) ?_
    refine a_icmp_ne (pc := 17) (off := 17) (tgt := 34) (by decide +kernel) (by decide) (by omega) (by omega) (fun c17 => ?_) (fun c17 => ?_)
    · refine a_iconst (pc := 34) (n := 0) (by decide +kernel) ?_
      refine a_zreturn (pc := 35) (by decide +kernel) rfl (by omega) ?_
      refine k_ret ?_
      exact k_bn (by unfold u_ahead; show ¬ (f < σ.1 46 k ∨ f = σ.1 46 k ∧ σ.1 47 k < l); omega)
    · refine a_iload_n (pc := 20) (i := 2) (by decide +kernel) rfl ?_
      refine a_aload_n (pc := 21) (i := 0) (by decide +kernel) rfl ?_
      refine b_getR (pc := 22) (b := 47) fl_X10_15 (by decide +kernel) (sh_45 hn) rfl ?_
      refine a_iload_n (pc := 25) (i := 3) (by decide +kernel) rfl ?_
      refine b_iaload (pc := 26) (by decide +kernel) (sh_47 hn) (by omega) (by omega) (by omega) ?_
      refine a_icmp_le (pc := 27) (off := 7) (tgt := 34) (by decide +kernel) (by decide) (by omega) (by omega) (fun c27 => ?_) (fun c27 => ?_)
      · refine a_iconst (pc := 34) (n := 0) (by decide +kernel) ?_
        refine a_zreturn (pc := 35) (by decide +kernel) rfl (by omega) ?_
        refine k_ret ?_
        exact k_bn (by unfold u_ahead; show ¬ (f < σ.1 46 k ∨ f = σ.1 46 k ∧ σ.1 47 k < l); omega)
      · refine a_iconst (pc := 30) (n := 1) (by decide +kernel) ?_
        refine a_goto (pc := 31) (off := 4) (tgt := 35) (by decide +kernel) (by decide) ?_
        refine a_zreturn (pc := 35) (by decide +kernel) rfl (by omega) ?_
        refine k_ret ?_
        exact k_by (by unfold u_ahead; show (f < σ.1 46 k ∨ f = σ.1 46 k ∧ σ.1 47 k < l); omega)
/-- x comes behind P, ahead of S -/
def u_adds (f l : Int) (L z : List (Int × Int)) : Prop := ∃ P S, L = P ++ S ∧ z = P ++ (f, l) :: S ∧ (∀ s ∈ S, u_ahead f l s) ∧ ∀ r ∈ P.getLast?, ¬ u_ahead f l r
set_option maxHeartbeats 4000000 in
theorem l_add65 {G : j_G} {X : k_X} {n : Nat} {σ : k_St} (hn : 101 ≤ n) {f l p : Int} {P S : List (Int × Int)} {τ : k_St} (hf : u_fr σ τ) (hc : τ.2.1 45 2 = (P.length : Int) + S.length) (h50 : P.length + S.length < 50) (hp : p = P.length) (hP : u_seg (τ.1 46) (τ.1 47) 0 P) (hS : u_seg (τ.1 46) (τ.1 47) (p + 1) S) (hok : u_ok (P ++ S)) (hfo : 0 ≤ f ∧ f ≤ 299) (hlo : 0 ≤ l ∧ l ≤ 299) (ha : ∀ s ∈ S, u_ahead f l s) (hb : ∀ r ∈ P.getLast?, ¬ u_ahead f l r) : j_at G mX10_add 65 [(0, .ref 45), (1, j_i f), (2, j_i l), (3, j_i p)] [] (k_h X n τ) 0 0 (k_Q X (u_post n σ (u_adds f l (P ++ S)))) := by
  refine a_aload_n (pc := 65) (i := 0) (by decide +kernel) rfl ?_
  refine b_getR (pc := 66) (b := 46) fl_X10_9 (by decide +kernel) (sh_45 hn) rfl ?_
  refine a_iload_n (pc := 69) (i := 3) (by decide +kernel) rfl ?_
  refine a_iload_n (pc := 70) (i := 1) (by decide +kernel) rfl ?_
  refine b_iastore (pc := 71) (by decide +kernel) (sh_46 hn) (by omega) (by omega) (by omega) ?_
  obtain ⟨σ1, hσ1⟩ : ∃ z, z = k_sA τ 46 (j_up (τ.1 46) p f) := ⟨_, rfl⟩
  rw [← hσ1]
  refine a_aload_n (pc := 72) (i := 0) (by decide +kernel) rfl ?_
  refine b_getR (pc := 73) (b := 47) fl_X10_15 (by decide +kernel) (sh_45 hn) rfl ?_
  refine a_iload_n (pc := 76) (i := 3) (by decide +kernel) rfl ?_
  refine a_iload_n (pc := 77) (i := 2) (by decide +kernel) rfl ?_
  refine b_iastore (pc := 78) (by decide +kernel) (sh_47 hn) (by omega) (by omega) (by omega) ?_
  obtain ⟨σ2, hσ2⟩ : ∃ z, z = k_sA σ1 47 (j_up (σ1.1 47) p l) := ⟨_, rfl⟩
  rw [← hσ2]
  refine a_aload_n (pc := 79) (i := 0) (by decide +kernel) rfl ?_
  refine a_dup (pc := 80) (by decide +kernel) rfl ?_
  refine b_getI (pc := 81) fl_X10_18 (by decide +kernel) (sh_45 hn) rfl ?_
  rw [show σ2.2.1 45 2 = σ1.2.1 45 2 by rw [hσ2]; rfl]
  rw [show σ1.2.1 45 2 = τ.2.1 45 2 by rw [hσ1]; rfl]
  refine a_iconst (pc := 84) (n := 1) (by decide +kernel) ?_
  refine a_iadd (pc := 85) (by decide +kernel) ?_
  refine b_putI (pc := 86) fl_X10_18 (by decide +kernel) (sh_45 hn) rfl rfl rfl ?_
  obtain ⟨σ3, hσ3⟩ : ∃ z, z = k_sI σ2 45 2 ((τ.2.1 45 2) + 1) := ⟨_, rfl⟩
  rw [← hσ3]
  refine a_return (pc := 89) (by decide +kernel) rfl ?_
  refine k_ret ?_
  have e46 : σ3.1 46 = j_up (τ.1 46) p f := by rw [hσ3, k_I1, hσ2, k_AN (by omega), hσ1, k_AA]
  have e47 : σ3.1 47 = j_up (τ.1 47) p l := by rw [hσ3, k_I1, hσ2, k_AA, hσ1, k_AN (by omega)]
  refine ⟨rfl, rfl, by rw [hσ3, hσ2, hσ1]; exact u_fr_I (u_fr_A (u_fr_A hf (Or.inl rfl)) (Or.inr rfl)), P ++ (f, l) :: S, ⟨?_, ?_, ?_, ?_⟩, P, S, rfl, rfl, ha, hb⟩
  · rw [hσ3, k_II, List.length_append, List.length_cons]; omega
  · rw [e46, e47]
    refine u_seg_app.mpr ⟨u_seg_congr (fun j j0 j1 => ⟨j_upN (by omega), j_upN (by omega)⟩) hP, ?_⟩
    rw [show (0 : Int) + P.length = p by omega]
    exact ⟨j_upS, j_upS, u_seg_congr (fun j j0 j1 => ⟨j_upN (by omega), j_upN (by omega)⟩) hS⟩
  · intro y hy
    rcases List.mem_append.mp hy with hz | hz
    · exact hok y (List.mem_append_left _ hz)
    · rcases List.mem_cons.mp hz with hz | hz
      · rw [hz]; exact ⟨hfo, hlo⟩
      · exact hok y (List.mem_append_right _ hz)
  · rw [List.length_append, List.length_cons]; omega
set_option maxHeartbeats 4000000 in
theorem l_add {G : j_G} {X : k_X} {n : Nat} {σ : k_St} (hn : 101 ≤ n) {f l : Int} (hfo : 0 ≤ f ∧ f ≤ 299) (hlo : 0 ≤ l ∧ l ≤ 299) : ∀ (Pr S : List (Int × Int)) (p : Int) (τ : k_St), u_fr σ τ → τ.2.1 45 2 = (Pr.length : Int) + S.length → Pr.length + S.length < 50 → p = Pr.length → u_seg (τ.1 46) (τ.1 47) 0 Pr.reverse → u_seg (τ.1 46) (τ.1 47) (p + 1) S → u_ok (Pr.reverse ++ S) → (∀ s ∈ S, u_ahead f l s) → j_at G mX10_add 15 [(0, .ref 45), (1, j_i f), (2, j_i l), (3, j_i p)] [] (k_h X n τ) 0 0 (k_Q X (u_post n σ (u_adds f l (Pr.reverse ++ S)))) := by
  intro Pr
  induction Pr with
  | nil =>
    intro S p τ hf hc h50 hp hP hS hok ha
    have hp0 : p = 0 := hp
    refine a_iload_n (pc := 15) (i := 3) (by decide +kernel) rfl ?_
    refine a_if_le (pc := 16) (off := 49) (tgt := 65) (by decide +kernel) (by decide) (by omega) (fun c16 => ?_) (fun c16 => ?_)
    · exact l_add65 hn hf (by simpa using hc) (by simpa using h50) (by simpa using hp) trivial hS hok hfo hlo ha (fun r hr => by simp at hr)
    · exfalso; omega
  | cons r Pr ih =>
    intro S p τ hf hc h50 hp hP hS hok ha
    rw [List.length_cons] at hc h50 hp
    have hL : (r :: Pr).reverse ++ S = Pr.reverse ++ r :: S := by simp
    have hPr := u_seg_app.mp (by rw [List.reverse_cons] at hP; exact hP)
    have t1 : τ.1 46 (p - 1) = r.1 := by have := hPr.2.1; rw [show (0 : Int) + Pr.reverse.length = p - 1 by simp; omega] at this; exact this
    have t2 : τ.1 47 (p - 1) = r.2 := by have := hPr.2.2.1; rw [show (0 : Int) + Pr.reverse.length = p - 1 by simp; omega] at this; exact this
    have ro := hok r (by rw [hL]; simp)
    refine a_iload_n (pc := 15) (i := 3) (by decide +kernel) rfl ?_
    refine a_if_le (pc := 16) (off := 49) (tgt := 65) (by decide +kernel) (by decide) (by omega) (fun c16 => ?_) (fun c16 => ?_)
    · exfalso; omega
    · refine a_aload_n (pc := 19) (i := 0) (by decide +kernel) rfl ?_
      refine a_iload_n (pc := 20) (i := 1) (by decide +kernel) rfl ?_
      refine a_iload_n (pc := 21) (i := 2) (by decide +kernel) rfl ?_
      refine a_iload_n (pc := 22) (i := 3) (by decide +kernel) rfl ?_
      refine a_iconst (pc := 23) (n := 1) (by decide +kernel) ?_
      refine a_isub (pc := 24) (by decide +kernel) ?_
      refine b_callV (pc := 25) (c' := 0) (sl' := 0) [j_i f, j_i l, j_i (p - 1)] [] ml_X10_22 (by decide +kernel) rfl rfl (sh_45 hn) rfl rfl (Nat.le_of_ble_eq_true rfl) (j_fitI rfl rfl) (s_isAhead hn (by omega) (by omega) (by omega) (by rw [t1]; omega) (by rw [t2]; omega)) (fun v n' σ' hq => ?_)
      obtain ⟨x, rfl, e1, e2, hx⟩ := hq
      rw [e1, e2]; clear e1 e2
      rcases hx with ⟨rfl, p25⟩ | ⟨rfl, p25⟩
      · show j_at _ _ _ [(0, .ref 45), (1, j_i f), (2, j_i l), (3, j_i p)] [j_i 1] _ _ _ _
        refine a_if_eq (pc := 28) (off := 37) (tgt := 65) (by decide +kernel) (by decide) (by omega) (fun c28 => ?_) (fun c28 => ?_)
        · exact absurd c28 (by decide)
        · refine a_aload_n (pc := 31) (i := 0) (by decide +kernel) rfl ?_
          refine b_getR (pc := 32) (b := 46) fl_X10_9 (by decide +kernel) (sh_45 hn) rfl ?_
          refine a_iload_n (pc := 35) (i := 3) (by decide +kernel) rfl ?_
          refine a_aload_n (pc := 36) (i := 0) (by decide +kernel) rfl ?_
          refine b_getR (pc := 37) (b := 46) fl_X10_9 (by decide +kernel) (sh_45 hn) rfl ?_
          refine a_iload_n (pc := 40) (i := 3) (by decide +kernel) rfl ?_
          refine a_iconst (pc := 41) (n := 1) (by decide +kernel) ?_
          refine a_isub (pc := 42) (by decide +kernel) ?_
          refine b_iaload (pc := 43) (by decide +kernel) (sh_46 hn) (by omega) (by omega) (by omega) ?_
          refine b_iastore (pc := 44) (by decide +kernel) (sh_46 hn) (by omega) (by omega) (by omega) ?_
          obtain ⟨σ1, hσ1⟩ : ∃ z, z = k_sA τ 46 (j_up (τ.1 46) p (τ.1 46 (p - 1))) := ⟨_, rfl⟩
          rw [← hσ1]
          refine a_aload_n (pc := 45) (i := 0) (by decide +kernel) rfl ?_
          refine b_getR (pc := 46) (b := 47) fl_X10_15 (by decide +kernel) (sh_45 hn) rfl ?_
          refine a_iload_n (pc := 49) (i := 3) (by decide +kernel) rfl ?_
          refine a_aload_n (pc := 50) (i := 0) (by decide +kernel) rfl ?_
          refine b_getR (pc := 51) (b := 47) fl_X10_15 (by decide +kernel) (sh_45 hn) rfl ?_
          refine a_iload_n (pc := 54) (i := 3) (by decide +kernel) rfl ?_
          refine a_iconst (pc := 55) (n := 1) (by decide +kernel) ?_
          refine a_isub (pc := 56) (by decide +kernel) ?_
          refine b_iaload (pc := 57) (by decide +kernel) (sh_47 hn) (by omega) (by omega) (by omega) ?_
          rw [show σ1.1 47 = τ.1 47 by rw [hσ1]; exact k_AN (by omega)]
          refine b_iastore (pc := 58) (by decide +kernel) (sh_47 hn) (by omega) (by omega) (by omega) ?_
          obtain ⟨σ2, hσ2⟩ : ∃ z, z = k_sA σ1 47 (j_up (σ1.1 47) p (τ.1 47 (p - 1))) := ⟨_, rfl⟩
          rw [← hσ2]
          refine a_iinc (pc := 59) (i := 3) (n := -1) (x := p) (lv' := [(0, .ref 45), (1, j_i f), (2, j_i l), (3, j_i (p + (-1)))]) (by decide +kernel) rfl (Nat.le_of_ble_eq_true rfl) rfl ?_
          refine a_goto (pc := 62) (off := -47) (tgt := 15) (by decide +kernel) (by decide) ?_
          rw [t1, t2] at p25
          have e46 : σ2.1 46 = j_up (τ.1 46) p r.1 := by rw [hσ2, k_AN (by omega), hσ1, k_AA, t1]
          have e47 : σ2.1 47 = j_up (τ.1 47) p r.2 := by rw [hσ2, k_AA, hσ1, k_AN (by omega), t2]
          have e3 := ih (r :: S) (p + -1) σ2 (by rw [hσ2, hσ1]; exact u_fr_A (u_fr_A hf (Or.inl rfl)) (Or.inr rfl)) (by rw [hσ2, hσ1]; show τ.2.1 45 2 = _; rw [List.length_cons]; omega) (by rw [List.length_cons]; omega) (by omega) (by rw [e46, e47]; exact u_seg_congr (fun j j0 j1 => ⟨j_upN (by simp at j1; omega), j_upN (by simp at j1; omega)⟩) hPr.1) (by rw [e46, e47]; exact ⟨by rw [show p + -1 + 1 = p by omega, j_upS], by rw [show p + -1 + 1 = p by omega, j_upS], u_seg_congr (fun j j0 j1 => ⟨j_upN (by omega), j_upN (by omega)⟩) (by rw [show p + -1 + 1 + 1 = p + 1 by omega]; exact hS)⟩) (by rw [← hL]; exact hok) (fun s hs => (List.mem_cons.mp hs).elim (fun h => by rw [h]; exact p25) (ha s))
          rw [hL]
          exact e3
      · show j_at _ _ _ [(0, .ref 45), (1, j_i f), (2, j_i l), (3, j_i p)] [j_i 0] _ _ _ _
        refine a_if_eq (pc := 28) (off := 37) (tgt := 65) (by decide +kernel) (by decide) (by omega) (fun c28 => ?_) (fun c28 => ?_)
        · rw [t1, t2] at p25
          exact l_add65 hn hf (by rw [List.length_reverse, List.length_cons]; omega) (by rw [List.length_reverse, List.length_cons]; omega) (by rw [List.length_reverse, List.length_cons]; omega) hP hS hok hfo hlo ha (fun y hy => by rw [List.reverse_cons, List.getLast?_concat] at hy; rw [← Option.some.inj hy]; exact p25)
        · exact absurd c28 (by decide)
set_option maxHeartbeats 4000000 in
theorem s_radd {G : j_G} {X : k_X} {n : Nat} {σ : k_St} (hn : 101 ≤ n) {L : List (Int × Int)} (hu : u_is σ L) (h50 : L.length < 50) {f l : Int} (hfo : 0 ≤ f ∧ f ≤ 299) (hlo : 0 ≤ l ∧ l ≤ 299) : k_run G X mX10_add [.ref 45, j_i f, j_i l] n σ 0 0 (u_post n σ (u_adds f l L)) := by
  obtain ⟨h1, h2, h3, h4⟩ := hu
  refine k_enter (by decide +kernel) (Nat.le_of_ble_eq_true rfl) ?_
  show j_at _ _ _ [(0, .ref 45), (1, j_i f), (2, j_i l)] [] _ _ _ _
  refine a_aload_n (pc := 0) (i := 0) (by decide +kernel) rfl ?_
  refine b_getI (pc := 1) fl_X10_18 (by decide +kernel) (sh_45 hn) rfl ?_
  refine a_bipush (pc := 4) (n := 50) (by decide +kernel) rfl ?_
  refine a_icmp_lt (pc := 6) (off := 4) (tgt := 10) (by decide +kernel) (by decide) (by omega) (by omega) (fun c6 => ?_) (fun c6 => ?_)
  · refine a_aload_n (pc := 10) (i := 0) (by decide +kernel) rfl ?_
    refine b_getI (pc := 11) fl_X10_18 (by decide +kernel) (sh_45 hn) rfl ?_
    refine a_istore_n (pc := 14) (i := 3) (lv' := [(0, .ref 45), (1, j_i f), (2, j_i l), (3, j_i (σ.2.1 45 2))]) (by decide +kernel) (Nat.le_of_ble_eq_true rfl) rfl ?_
    have e := l_add (G := G) (X := X) (σ := σ) hn hfo hlo L.reverse [] (σ.2.1 45 2) σ u_fr_r (by simp; omega) (by simp; omega) (by simp; omega) (by rw [List.reverse_reverse]; exact h2) trivial (by rw [List.reverse_reverse, List.append_nil]; exact h3) (fun _ h => by cases h)
    rw [List.reverse_reverse, List.append_nil] at e
    exact e
  · refine a_return (pc := 9) (by decide +kernel) rfl ?_
    refine k_ret ?_
    exfalso; omega
