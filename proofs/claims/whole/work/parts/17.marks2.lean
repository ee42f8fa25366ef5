theorem m_wf_congr {σ τ : k_St} {a : Nat} (h1 : τ.1 (a + 1) = σ.1 (a + 1)) (h2 : τ.1 (a + 2) = σ.1 (a + 2)) (h3 : τ.1 (a + 3) = σ.1 (a + 3)) (h4 : τ.1 (a + 4) = σ.1 (a + 4)) (h5 : τ.1 (a + 5) = σ.1 (a + 5)) (h6 : τ.2.1 a 5 = σ.2.1 a 5) (h : m_wf σ a) : m_wf τ a := by
  unfold m_wf; rw [h1, h2, h3, h4, h5, h6]; exact h
theorem f_lon_in {p h : Int} (hp : 0 ≤ p ∧ p ≤ 960) (hh : f_hd h) : 0 ≤ f_lon p h ∧ f_lon p h ≤ p * 31 + 30 := by unfold f_lon; unfold f_hd at hh; split <;> omega
theorem f_head_hd (p k : Int) : f_hd (f_head p k) := by
  have h1 : ∀ z : Int, f_hd (if z % 31 = 0 then -9 else z % 31 - 1) := fun z => by unfold f_hd; split <;> omega
  unfold f_head; exact h1 _
theorem f_re_hd {h t x : Int} (ht : f_hd t) (hx : f_hd x) : f_hd (f_re h t x) := by unfold f_re; split <;> assumption
theorem f_repl_path (h t p : Int) : f_repl h t p = f_path (f_re h t (f_head p 0)) (f_re h t (f_head p 1)) (f_re h t (f_head p 2)) := rfl
theorem f_repl_in {h t p : Int} (ht : f_hd t) : 0 ≤ f_repl h t p ∧ f_repl h t p ≤ 29790 := by
  rw [f_repl_path]; exact f_path_in (f_re_hd ht (f_head_hd _ _)) (f_re_hd ht (f_head_hd _ _)) (f_re_hd ht (f_head_hd _ _))
/-- what replaceHead does to the paths -/
def m_rF (σ : k_St) (h t : Int) : Int → Int → Int := fun m p => if σ.1 21 m = 0 then f_repl h t p else p
def m_rB (σ : k_St) (h t : Int) : Int → Bool := fun m => decide (σ.1 21 m = 0 ∧ f_repl h t (σ.1 19 m) ≠ σ.1 19 m)
set_option maxHeartbeats 4000000 in
theorem l_replaceHead {G : j_G} {X : k_X} {n : Nat} {σ : k_St} (hn : 101 ≤ n) (hw : m_wf σ 16) {h t : Int} (hh : -2147483648 ≤ h ∧ h ≤ 2147483647) (ht9 : f_hd t) : ∀ (m : Nat) (i : Int), 50 - i < (m : Int) → 0 ≤ i → i ≤ σ.2.1 16 5 → j_at G mX7_replaceHead 5 [(0, .ref 16), (1, j_i h), (2, j_i t), (3, j_i (f_count (m_rB σ h t) i.toNat)), (4, j_i i)] [] (k_h X n (k_sA σ 19 (f_map (m_rF σ h t) (σ.1 19) i))) 0 0 (k_Q X (k_is n (k_sA σ 19 (f_map (m_rF σ h t) (σ.1 19) (σ.2.1 16 5))) (some (j_i (f_count (m_rB σ h t) (σ.2.1 16 5).toNat))))) := by
  intro m
  induction m with
  | zero => intro i h1 h2 h3; exact absurd h3 (by have := hw.1; omega)
  | succ m ih =>
    intro i hm h0 hN
    obtain ⟨he, hg, hm9⟩ := id hw
    have hg : ∀ i : Int, σ.1 21 i = 0 ∨ σ.1 21 i = 1 := hg
    have hv : ∀ m : Int, 0 ≤ m → m < σ.2.1 16 5 → (0 ≤ σ.1 17 m ∧ σ.1 17 m ≤ 7) ∧ (0 ≤ σ.1 18 m ∧ σ.1 18 m ≤ 300) ∧ (0 ≤ σ.1 19 m ∧ σ.1 19 m ≤ 29790) ∧ (0 ≤ σ.1 20 m ∧ σ.1 20 m ≤ 99) := hm9
    clear hm9
    obtain ⟨τ, hτ⟩ : ∃ z, z = (k_sA σ 19 (f_map (m_rF σ h t) (σ.1 19) i)) := ⟨_, rfl⟩
    rw [← hτ]
    have et : τ.1 19 i = σ.1 19 i := by rw [hτ, k_AA, f_map_at]
    have hwt : m_wf τ 16 := by
      refine ⟨by rw [hτ]; exact he, fun k => by rw [hτ, k_AN (by omega)]; exact hg k, fun m h1 h2 => ?_⟩
      have h2 : m < σ.2.1 16 5 := by rw [hτ] at h2; exact h2
      have hvm := hv m h1 h2
      have hr := f_repl_in (h := h) (p := σ.1 19 m) ht9
      have e3 : τ.1 (16 + 3) m = σ.1 19 m ∨ τ.1 (16 + 3) m = f_repl h t (σ.1 19 m) := by
        rw [hτ, k_AA]; unfold f_map m_rF; split
        · split
          · exact Or.inr rfl
          · exact Or.inl rfl
        · exact Or.inl rfl
      rw [show τ.1 (16 + 1) = σ.1 17 by rw [hτ]; exact k_AN (by omega), show τ.1 (16 + 2) = σ.1 18 by rw [hτ]; exact k_AN (by omega), show τ.1 (16 + 4) = σ.1 20 by rw [hτ]; exact k_AN (by omega)]
      omega
    by_cases hgi : i < σ.2.1 16 5 ∧ σ.1 21 i = 0
    · have mh : ∀ k : Int, -2147483648 ≤ k ∧ k ≤ 2147483647 → k_run G X mX7_headAt [.ref 16, j_i i, j_i k] n τ 0 0 (k_is n τ (some (j_i (f_head (σ.1 19 i) k)))) := fun k hk => by
        have q := s_mheadAt (G := G) (X := X) hn hwt (m := i) (k := k) (by omega) hk
        rw [m_head_is (show m_is τ i from ⟨h0, by rw [hτ]; exact hgi.1, by rw [hτ, k_AN (by omega)]; exact hgi.2⟩), et] at q
        exact q
      have hvi := hv i h0 hgi.1
      have f0 := f_head_hd (σ.1 19 i) 0
      have f1 := f_head_hd (σ.1 19 i) 1
      have f2 := f_head_hd (σ.1 19 i) 2
      have ht8 := ht9
      unfold f_hd at f0 f1 f2 ht8
      refine a_iload (pc := 5) (i := 4) (by decide +kernel) rfl ?_
      refine a_aload_n (pc := 7) (i := 0) (by decide +kernel) rfl ?_
      refine b_getI (pc := 8) fl_X7_28 (by decide +kernel) (sh_16 hn) rfl ?_
      rw [show τ.2.1 16 5 = σ.2.1 16 5 by rw [hτ]; rfl]
      refine a_icmp_ge (pc := 11) (off := 100) (tgt := 111) (by decide +kernel) (by decide) (by omega) (by omega) (fun c11 => ?_) (fun c11 => ?_)
      · exfalso; omega
      · refine a_iconst (pc := 14) (n := 0) (by decide +kernel) ?_
        refine a_istore (pc := 15) (i := 5) (lv' := [(0, .ref 16), (1, j_i h), (2, j_i t), (3, j_i (f_count (m_rB σ h t) i.toNat)), (4, j_i i), (5, j_i 0)]) (by decide +kernel) (Nat.le_of_ble_eq_true rfl) rfl ?_
        refine a_iconst (pc := 17) (n := 0) (by decide +kernel) ?_
        refine a_istore (pc := 18) (i := 6) (lv' := [(0, .ref 16), (1, j_i h), (2, j_i t), (3, j_i (f_count (m_rB σ h t) i.toNat)), (4, j_i i), (5, j_i 0), (6, j_i 0)]) (by decide +kernel) (Nat.le_of_ble_eq_true rfl) rfl ?_
        refine a_iload (pc := 20) (i := 6) (by decide +kernel) rfl ?_
        refine a_iconst (pc := 22) (n := 3) (by decide +kernel) ?_
        refine a_icmp_ge (pc := 23) (off := 48) (tgt := 71) (by decide +kernel) (by decide) (by omega) (by omega) (fun c23 => ?_) (fun c23 => ?_)
        · exact absurd c23 (by decide)
        · refine a_aload_n (pc := 26) (i := 0) (by decide +kernel) rfl ?_
          refine b_getR (pc := 27) (b := 21) fl_X7_24 (by decide +kernel) (sh_16 hn) rfl ?_
          refine a_iload (pc := 30) (i := 4) (by decide +kernel) rfl ?_
          refine b_zaload (pc := 32) (by decide +kernel) (sh_21 hn) (by omega) (by omega) (by omega) ?_
          rw [show τ.1 21 = σ.1 21 by rw [hτ]; exact k_AN (by omega)]
          refine a_if_ne (pc := 33) (off := 38) (tgt := 71) (by decide +kernel) (by decide) (by omega) (fun c33 => ?_) (fun c33 => ?_)
          · exfalso; omega
          · refine a_aload_n (pc := 36) (i := 0) (by decide +kernel) rfl ?_
            refine a_iload (pc := 37) (i := 4) (by decide +kernel) rfl ?_
            refine a_iload (pc := 39) (i := 6) (by decide +kernel) rfl ?_
            refine b_pureV (pc := 41) [j_i i, j_i 0] [] ml_X7_47 (by decide +kernel) rfl rfl (sh_16 hn) rfl rfl (Nat.le_of_ble_eq_true rfl) (j_fitI rfl rfl) (mh 0 (by omega)) ?_
            show j_at _ _ _ [(0, .ref 16), (1, j_i h), (2, j_i t), (3, j_i (f_count (m_rB σ h t) i.toNat)), (4, j_i i), (5, j_i 0), (6, j_i 0)] [j_i (f_head (σ.1 19 i) 0)] _ _ _ _
            refine a_istore (pc := 44) (i := 7) (lv' := [(0, .ref 16), (1, j_i h), (2, j_i t), (3, j_i (f_count (m_rB σ h t) i.toNat)), (4, j_i i), (5, j_i 0), (6, j_i 0), (7, j_i (f_head (σ.1 19 i) 0))]) (by decide +kernel) (Nat.le_of_ble_eq_true rfl) rfl ?_
            refine a_iload (pc := 46) (i := 5) (by decide +kernel) rfl ?_
            refine a_iload (pc := 48) (i := 7) (by decide +kernel) rfl ?_
            refine a_iload_n (pc := 50) (i := 1) (by decide +kernel) rfl ?_
            refine a_icmp_ne (pc := 51) (off := 7) (tgt := 58) (by decide +kernel) (by decide) (by omega) (by omega) (fun c51 => ?_) (fun c51 => ?_)
            · refine a_iload (pc := 58) (i := 7) (by decide +kernel) rfl ?_
              refine b_pureS (pc := 60) [j_i 0, j_i (f_head (σ.1 19 i) 0)] [] ml_X7_50 (by decide +kernel) rfl rfl (Nat.le_of_ble_eq_true rfl) (j_fitI rfl rfl) (s_longer (by omega)) ?_
              show j_at _ _ _ [(0, .ref 16), (1, j_i h), (2, j_i t), (3, j_i (f_count (m_rB σ h t) i.toNat)), (4, j_i i), (5, j_i 0), (6, j_i 0), (7, j_i (f_head (σ.1 19 i) 0))] [j_i (f_lon 0 (f_head (σ.1 19 i) 0))] _ _ _ _
              refine a_istore (pc := 63) (i := 5) (lv' := [(0, .ref 16), (1, j_i h), (2, j_i t), (3, j_i (f_count (m_rB σ h t) i.toNat)), (4, j_i i), (5, j_i (f_lon 0 (f_head (σ.1 19 i) 0))), (6, j_i 0), (7, j_i (f_head (σ.1 19 i) 0))]) (by decide +kernel) (Nat.le_of_ble_eq_true rfl) rfl ?_
              refine a_iinc (pc := 65) (i := 6) (n := 1) (x := 0) (lv' := [(0, .ref 16), (1, j_i h), (2, j_i t), (3, j_i (f_count (m_rB σ h t) i.toNat)), (4, j_i i), (5, j_i (f_lon 0 (f_head (σ.1 19 i) 0))), (6, j_i 1), (7, j_i (f_head (σ.1 19 i) 0))]) (by decide +kernel) rfl (Nat.le_of_ble_eq_true rfl) rfl ?_
              refine a_goto (pc := 68) (off := -48) (tgt := 20) (by decide +kernel) (by decide) ?_
              refine a_iload (pc := 20) (i := 6) (by decide +kernel) rfl ?_
              refine a_iconst (pc := 22) (n := 3) (by decide +kernel) ?_
              refine a_icmp_ge (pc := 23) (off := 48) (tgt := 71) (by decide +kernel) (by decide) (by omega) (by omega) (fun c23 => ?_) (fun c23 => ?_)
              · exact absurd c23 (by decide)
              · refine a_aload_n (pc := 26) (i := 0) (by decide +kernel) rfl ?_
                refine b_getR (pc := 27) (b := 21) fl_X7_24 (by decide +kernel) (sh_16 hn) rfl ?_
                refine a_iload (pc := 30) (i := 4) (by decide +kernel) rfl ?_
                refine b_zaload (pc := 32) (by decide +kernel) (sh_21 hn) (by omega) (by omega) (by omega) ?_
                rw [show τ.1 21 = σ.1 21 by rw [hτ]; exact k_AN (by omega)]
                refine a_if_ne (pc := 33) (off := 38) (tgt := 71) (by decide +kernel) (by decide) (by omega) (fun c33 => ?_) (fun c33 => ?_)
                · exfalso; omega
                · refine a_aload_n (pc := 36) (i := 0) (by decide +kernel) rfl ?_
                  refine a_iload (pc := 37) (i := 4) (by decide +kernel) rfl ?_
                  refine a_iload (pc := 39) (i := 6) (by decide +kernel) rfl ?_
                  refine b_pureV (pc := 41) [j_i i, j_i 1] [] ml_X7_47 (by decide +kernel) rfl rfl (sh_16 hn) rfl rfl (Nat.le_of_ble_eq_true rfl) (j_fitI rfl rfl) (mh 1 (by omega)) ?_
                  show j_at _ _ _ [(0, .ref 16), (1, j_i h), (2, j_i t), (3, j_i (f_count (m_rB σ h t) i.toNat)), (4, j_i i), (5, j_i (f_lon 0 (f_head (σ.1 19 i) 0))), (6, j_i 1), (7, j_i (f_head (σ.1 19 i) 0))] [j_i (f_head (σ.1 19 i) 1)] _ _ _ _
                  refine a_istore (pc := 44) (i := 7) (lv' := [(0, .ref 16), (1, j_i h), (2, j_i t), (3, j_i (f_count (m_rB σ h t) i.toNat)), (4, j_i i), (5, j_i (f_lon 0 (f_head (σ.1 19 i) 0))), (6, j_i 1), (7, j_i (f_head (σ.1 19 i) 1))]) (by decide +kernel) (Nat.le_of_ble_eq_true rfl) rfl ?_
                  refine a_iload (pc := 46) (i := 5) (by decide +kernel) rfl ?_
                  refine a_iload (pc := 48) (i := 7) (by decide +kernel) rfl ?_
                  refine a_iload_n (pc := 50) (i := 1) (by decide +kernel) rfl ?_
                  refine a_icmp_ne (pc := 51) (off := 7) (tgt := 58) (by decide +kernel) (by decide) (by omega) (by omega) (fun c51 => ?_) (fun c51 => ?_)
                  · refine a_iload (pc := 58) (i := 7) (by decide +kernel) rfl ?_
                    refine b_pureS (pc := 60) [j_i (f_lon 0 (f_head (σ.1 19 i) 0)), j_i (f_head (σ.1 19 i) 1)] [] ml_X7_50 (by decide +kernel) rfl rfl (Nat.le_of_ble_eq_true rfl) (j_fitI rfl rfl) (s_longer (by omega)) ?_
                    show j_at _ _ _ [(0, .ref 16), (1, j_i h), (2, j_i t), (3, j_i (f_count (m_rB σ h t) i.toNat)), (4, j_i i), (5, j_i (f_lon 0 (f_head (σ.1 19 i) 0))), (6, j_i 1), (7, j_i (f_head (σ.1 19 i) 1))] [j_i (f_lon (f_lon 0 (f_head (σ.1 19 i) 0)) (f_head (σ.1 19 i) 1))] _ _ _ _
                    refine a_istore (pc := 63) (i := 5) (lv' := [(0, .ref 16), (1, j_i h), (2, j_i t), (3, j_i (f_count (m_rB σ h t) i.toNat)), (4, j_i i), (5, j_i (f_lon (f_lon 0 (f_head (σ.1 19 i) 0)) (f_head (σ.1 19 i) 1))), (6, j_i 1), (7, j_i (f_head (σ.1 19 i) 1))]) (by decide +kernel) (Nat.le_of_ble_eq_true rfl) rfl ?_
                    refine a_iinc (pc := 65) (i := 6) (n := 1) (x := 1) (lv' := [(0, .ref 16), (1, j_i h), (2, j_i t), (3, j_i (f_count (m_rB σ h t) i.toNat)), (4, j_i i), (5, j_i (f_lon (f_lon 0 (f_head (σ.1 19 i) 0)) (f_head (σ.1 19 i) 1))), (6, j_i 2), (7, j_i (f_head (σ.1 19 i) 1))]) (by decide +kernel) rfl (Nat.le_of_ble_eq_true rfl) rfl ?_
                    refine a_goto (pc := 68) (off := -48) (tgt := 20) (by decide +kernel) (by decide) ?_
                    refine a_iload (pc := 20) (i := 6) (by decide +kernel) rfl ?_
                    refine a_iconst (pc := 22) (n := 3) (by decide +kernel) ?_
                    refine a_icmp_ge (pc := 23) (off := 48) (tgt := 71) (by decide +kernel) (by decide) (by omega) (by omega) (fun c23 => ?_) (fun c23 => ?_)
                    · exact absurd c23 (by decide)
                    · refine a_aload_n (pc := 26) (i := 0) (by decide +kernel) rfl ?_
                      refine b_getR (pc := 27) (b := 21) fl_X7_24 (by decide +kernel) (sh_16 hn) rfl ?_
                      refine a_iload (pc := 30) (i := 4) (by decide +kernel) rfl ?_
                      refine b_zaload (pc := 32) (by decide +kernel) (sh_21 hn) (by omega) (by omega) (by omega) ?_
                      rw [show τ.1 21 = σ.1 21 by rw [hτ]; exact k_AN (by omega)]
                      refine a_if_ne (pc := 33) (off := 38) (tgt := 71) (by decide +kernel) (by decide) (by omega) (fun c33 => ?_) (fun c33 => ?_)
                      · exfalso; omega
                      · refine a_aload_n (pc := 36) (i := 0) (by decide +kernel) rfl ?_
                        refine a_iload (pc := 37) (i := 4) (by decide +kernel) rfl ?_
                        refine a_iload (pc := 39) (i := 6) (by decide +kernel) rfl ?_
                        refine b_pureV (pc := 41) [j_i i, j_i 2] [] ml_X7_47 (by decide +kernel) rfl rfl (sh_16 hn) rfl rfl (Nat.le_of_ble_eq_true rfl) (j_fitI rfl rfl) (mh 2 (by omega)) ?_
                        show j_at _ _ _ [(0, .ref 16), (1, j_i h), (2, j_i t), (3, j_i (f_count (m_rB σ h t) i.toNat)), (4, j_i i), (5, j_i (f_lon (f_lon 0 (f_head (σ.1 19 i) 0)) (f_head (σ.1 19 i) 1))), (6, j_i 2), (7, j_i (f_head (σ.1 19 i) 1))] [j_i (f_head (σ.1 19 i) 2)] _ _ _ _
                        refine a_istore (pc := 44) (i := 7) (lv' := [(0, .ref 16), (1, j_i h), (2, j_i t), (3, j_i (f_count (m_rB σ h t) i.toNat)), (4, j_i i), (5, j_i (f_lon (f_lon 0 (f_head (σ.1 19 i) 0)) (f_head (σ.1 19 i) 1))), (6, j_i 2), (7, j_i (f_head (σ.1 19 i) 2))]) (by decide +kernel) (Nat.le_of_ble_eq_true rfl) rfl ?_
                        refine a_iload (pc := 46) (i := 5) (by decide +kernel) rfl ?_
                        refine a_iload (pc := 48) (i := 7) (by decide +kernel) rfl ?_
                        refine a_iload_n (pc := 50) (i := 1) (by decide +kernel) rfl ?_
                        refine a_icmp_ne (pc := 51) (off := 7) (tgt := 58) (by decide +kernel) (by decide) (by omega) (by omega) (fun c51 => ?_) (fun c51 => ?_)
                        · refine a_iload (pc := 58) (i := 7) (by decide +kernel) rfl ?_
                          refine b_pureS (pc := 60) [j_i (f_lon (f_lon 0 (f_head (σ.1 19 i) 0)) (f_head (σ.1 19 i) 1)), j_i (f_head (σ.1 19 i) 2)] [] ml_X7_50 (by decide +kernel) rfl rfl (Nat.le_of_ble_eq_true rfl) (j_fitI rfl rfl) (s_longer (by omega)) ?_
                          show j_at _ _ _ [(0, .ref 16), (1, j_i h), (2, j_i t), (3, j_i (f_count (m_rB σ h t) i.toNat)), (4, j_i i), (5, j_i (f_lon (f_lon 0 (f_head (σ.1 19 i) 0)) (f_head (σ.1 19 i) 1))), (6, j_i 2), (7, j_i (f_head (σ.1 19 i) 2))] [j_i (f_lon (f_lon (f_lon 0 (f_head (σ.1 19 i) 0)) (f_head (σ.1 19 i) 1)) (f_head (σ.1 19 i) 2))] _ _ _ _
                          refine a_istore (pc := 63) (i := 5) (lv' := [(0, .ref 16), (1, j_i h), (2, j_i t), (3, j_i (f_count (m_rB σ h t) i.toNat)), (4, j_i i), (5, j_i (f_lon (f_lon (f_lon 0 (f_head (σ.1 19 i) 0)) (f_head (σ.1 19 i) 1)) (f_head (σ.1 19 i) 2))), (6, j_i 2), (7, j_i (f_head (σ.1 19 i) 2))]) (by decide +kernel) (Nat.le_of_ble_eq_true rfl) rfl ?_
                          refine a_iinc (pc := 65) (i := 6) (n := 1) (x := 2) (lv' := [(0, .ref 16), (1, j_i h), (2, j_i t), (3, j_i (f_count (m_rB σ h t) i.toNat)), (4, j_i i), (5, j_i (f_lon (f_lon (f_lon 0 (f_head (σ.1 19 i) 0)) (f_head (σ.1 19 i) 1)) (f_head (σ.1 19 i) 2))), (6, j_i 3), (7, j_i (f_head (σ.1 19 i) 2))]) (by decide +kernel) rfl (Nat.le_of_ble_eq_true rfl) rfl ?_
                          refine a_goto (pc := 68) (off := -48) (tgt := 20) (by decide +kernel) (by decide) ?_
                          refine a_iload (pc := 20) (i := 6) (by decide +kernel) rfl ?_
                          refine a_iconst (pc := 22) (n := 3) (by decide +kernel) ?_
                          refine a_icmp_ge (pc := 23) (off := 48) (tgt := 71) (by decide +kernel) (by decide) (by omega) (by omega) (fun c23 => ?_) (fun c23 => ?_)
                          · have er : f_lon (f_lon (f_lon 0 (f_head (σ.1 19 i) 0)) (f_head (σ.1 19 i) 1)) (f_head (σ.1 19 i) 2) = f_repl h t (σ.1 19 i) := by unfold f_repl f_re; (repeat' split) <;> (first | rfl | (exfalso; omega))
                            refine a_aload_n (pc := 71) (i := 0) (by decide +kernel) rfl ?_
                            refine b_getR (pc := 72) (b := 21) fl_X7_24 (by decide +kernel) (sh_16 hn) rfl ?_
                            refine a_iload (pc := 75) (i := 4) (by decide +kernel) rfl ?_
                            refine b_zaload (pc := 77) (by decide +kernel) (sh_21 hn) (by omega) (by omega) (by omega) ?_
                            rw [show τ.1 21 = σ.1 21 by rw [hτ]; exact k_AN (by omega)]
                            refine a_if_ne (pc := 78) (off := 27) (tgt := 105) (by decide +kernel) (by decide) (by omega) (fun c78 => ?_) (fun c78 => ?_)
                            · exfalso; omega
                            · refine a_iload (pc := 81) (i := 5) (by decide +kernel) rfl ?_
                              refine a_aload_n (pc := 83) (i := 0) (by decide +kernel) rfl ?_
                              refine b_getR (pc := 84) (b := 19) fl_X7_18 (by decide +kernel) (sh_16 hn) rfl ?_
                              refine a_iload (pc := 87) (i := 4) (by decide +kernel) rfl ?_
                              refine b_iaload (pc := 89) (by decide +kernel) (sh_19 hn) (by omega) (by omega) (by omega) ?_
                              refine a_icmp_eq (pc := 90) (off := 15) (tgt := 105) (by decide +kernel) (by decide) (by first | (rw [er]; have := f_repl_in (h := h) (p := σ.1 19 i) ht9; omega) | omega) (by first | (rw [er]; have := f_repl_in (h := h) (p := σ.1 19 i) ht9; omega) | omega) (fun c90 => ?_) (fun c90 => ?_)
                              · refine a_iinc (pc := 105) (i := 4) (n := 1) (x := i) (lv' := [(0, .ref 16), (1, j_i h), (2, j_i t), (3, j_i (f_count (m_rB σ h t) i.toNat)), (4, j_i (i + 1)), (5, j_i (f_lon (f_lon (f_lon 0 (f_head (σ.1 19 i) 0)) (f_head (σ.1 19 i) 1)) (f_head (σ.1 19 i) 2))), (6, j_i 3), (7, j_i (f_head (σ.1 19 i) 2))]) (by decide +kernel) rfl (Nat.le_of_ble_eq_true rfl) rfl ?_
                                refine a_goto (pc := 108) (off := -103) (tgt := 5) (by decide +kernel) (by decide) ?_
                                refine a_sub (pc := 5) (lv' := [(0, .ref 16), (1, j_i h), (2, j_i t), (3, j_i (f_count (m_rB σ h t) i.toNat)), (4, j_i (i + 1))]) (fun q hq => by simp only [List.mem_cons, List.not_mem_nil, or_false] at hq ⊢; rcases hq with rfl | rfl | rfl | rfl | rfl <;> simp) ?_
                                rw [er, et] at c90
                                have e9 := ih (i + 1) (by omega) (by omega) (by omega)
                                rw [f_count_n h0 (by unfold m_rB; simp [c90])] at e9
                                rw [hτ, f_map_skip h0 (by unfold m_rF; rw [if_pos hgi.2]; exact c90)]
                                exact e9
                              · refine a_aload_n (pc := 93) (i := 0) (by decide +kernel) rfl ?_
                                refine b_getR (pc := 94) (b := 19) fl_X7_18 (by decide +kernel) (sh_16 hn) rfl ?_
                                refine a_iload (pc := 97) (i := 4) (by decide +kernel) rfl ?_
                                refine a_iload (pc := 99) (i := 5) (by decide +kernel) rfl ?_
                                refine b_iastore (pc := 101) (by decide +kernel) (sh_19 hn) (by omega) (by omega) (by omega) ?_
                                obtain ⟨σ1, hσ1⟩ : ∃ z, z = k_sA τ 19 (j_up (τ.1 19) i (f_lon (f_lon (f_lon 0 (f_head (σ.1 19 i) 0)) (f_head (σ.1 19 i) 1)) (f_head (σ.1 19 i) 2))) := ⟨_, rfl⟩
                                rw [← hσ1]
                                refine a_iinc (pc := 102) (i := 3) (n := 1) (x := f_count (m_rB σ h t) i.toNat) (lv' := [(0, .ref 16), (1, j_i h), (2, j_i t), (3, j_i ((f_count (m_rB σ h t) i.toNat) + 1)), (4, j_i i), (5, j_i (f_lon (f_lon (f_lon 0 (f_head (σ.1 19 i) 0)) (f_head (σ.1 19 i) 1)) (f_head (σ.1 19 i) 2))), (6, j_i 3), (7, j_i (f_head (σ.1 19 i) 2))]) (by decide +kernel) rfl (Nat.le_of_ble_eq_true rfl) rfl ?_
                                refine a_iinc (pc := 105) (i := 4) (n := 1) (x := i) (lv' := [(0, .ref 16), (1, j_i h), (2, j_i t), (3, j_i ((f_count (m_rB σ h t) i.toNat) + 1)), (4, j_i (i + 1)), (5, j_i (f_lon (f_lon (f_lon 0 (f_head (σ.1 19 i) 0)) (f_head (σ.1 19 i) 1)) (f_head (σ.1 19 i) 2))), (6, j_i 3), (7, j_i (f_head (σ.1 19 i) 2))]) (by decide +kernel) rfl (Nat.le_of_ble_eq_true rfl) rfl ?_
                                refine a_goto (pc := 108) (off := -103) (tgt := 5) (by decide +kernel) (by decide) ?_
                                refine a_sub (pc := 5) (lv' := [(0, .ref 16), (1, j_i h), (2, j_i t), (3, j_i ((f_count (m_rB σ h t) i.toNat) + 1)), (4, j_i (i + 1))]) (fun q hq => by simp only [List.mem_cons, List.not_mem_nil, or_false] at hq ⊢; rcases hq with rfl | rfl | rfl | rfl | rfl <;> simp) ?_
                                rw [er, et] at c90
                                have e9 := ih (i + 1) (by omega) (by omega) (by omega)
                                rw [f_count_y h0 (by unfold m_rB; simp [hgi.2, c90])] at e9
                                rw [er] at hσ1
                                rw [hσ1, hτ, k_AA, k_sA_sA, f_map_up h0 (by unfold m_rF; rw [if_pos hgi.2])]
                                exact e9
                          · exact absurd c23 (by decide)
                        · refine a_iload_n (pc := 54) (i := 2) (by decide +kernel) rfl ?_
                          refine a_goto (pc := 55) (off := 5) (tgt := 60) (by decide +kernel) (by decide) ?_
                          refine b_pureS (pc := 60) [j_i (f_lon (f_lon 0 (f_head (σ.1 19 i) 0)) (f_head (σ.1 19 i) 1)), j_i t] [] ml_X7_50 (by decide +kernel) rfl rfl (Nat.le_of_ble_eq_true rfl) (j_fitI rfl rfl) (s_longer (by omega)) ?_
                          show j_at _ _ _ [(0, .ref 16), (1, j_i h), (2, j_i t), (3, j_i (f_count (m_rB σ h t) i.toNat)), (4, j_i i), (5, j_i (f_lon (f_lon 0 (f_head (σ.1 19 i) 0)) (f_head (σ.1 19 i) 1))), (6, j_i 2), (7, j_i (f_head (σ.1 19 i) 2))] [j_i (f_lon (f_lon (f_lon 0 (f_head (σ.1 19 i) 0)) (f_head (σ.1 19 i) 1)) t)] _ _ _ _
                          refine a_istore (pc := 63) (i := 5) (lv' := [(0, .ref 16), (1, j_i h), (2, j_i t), (3, j_i (f_count (m_rB σ h t) i.toNat)), (4, j_i i), (5, j_i (f_lon (f_lon (f_lon 0 (f_head (σ.1 19 i) 0)) (f_head (σ.1 19 i) 1)) t)), (6, j_i 2), (7, j_i (f_head (σ.1 19 i) 2))]) (by decide +kernel) (Nat.le_of_ble_eq_true rfl) rfl ?_
                          refine a_iinc (pc := 65) (i := 6) (n := 1) (x := 2) (lv' := [(0, .ref 16), (1, j_i h), (2, j_i t), (3, j_i (f_count (m_rB σ h t) i.toNat)), (4, j_i i), (5, j_i (f_lon (f_lon (f_lon 0 (f_head (σ.1 19 i) 0)) (f_head (σ.1 19 i) 1)) t)), (6, j_i 3), (7, j_i (f_head (σ.1 19 i) 2))]) (by decide +kernel) rfl (Nat.le_of_ble_eq_true rfl) rfl ?_
                          refine a_goto (pc := 68) (off := -48) (tgt := 20) (by decide +kernel) (by decide) ?_
                          refine a_iload (pc := 20) (i := 6) (by decide +kernel) rfl ?_
                          refine a_iconst (pc := 22) (n := 3) (by decide +kernel) ?_
                          refine a_icmp_ge (pc := 23) (off := 48) (tgt := 71) (by decide +kernel) (by decide) (by omega) (by omega) (fun c23 => ?_) (fun c23 => ?_)
                          · have er : f_lon (f_lon (f_lon 0 (f_head (σ.1 19 i) 0)) (f_head (σ.1 19 i) 1)) t = f_repl h t (σ.1 19 i) := by unfold f_repl f_re; (repeat' split) <;> (first | rfl | (exfalso; omega))
                            refine a_aload_n (pc := 71) (i := 0) (by decide +kernel) rfl ?_
                            refine b_getR (pc := 72) (b := 21) fl_X7_24 (by decide +kernel) (sh_16 hn) rfl ?_
                            refine a_iload (pc := 75) (i := 4) (by decide +kernel) rfl ?_
                            refine b_zaload (pc := 77) (by decide +kernel) (sh_21 hn) (by omega) (by omega) (by omega) ?_
                            rw [show τ.1 21 = σ.1 21 by rw [hτ]; exact k_AN (by omega)]
                            refine a_if_ne (pc := 78) (off := 27) (tgt := 105) (by decide +kernel) (by decide) (by omega) (fun c78 => ?_) (fun c78 => ?_)
                            · exfalso; omega
                            · refine a_iload (pc := 81) (i := 5) (by decide +kernel) rfl ?_
                              refine a_aload_n (pc := 83) (i := 0) (by decide +kernel) rfl ?_
                              refine b_getR (pc := 84) (b := 19) fl_X7_18 (by decide +kernel) (sh_16 hn) rfl ?_
                              refine a_iload (pc := 87) (i := 4) (by decide +kernel) rfl ?_
                              refine b_iaload (pc := 89) (by decide +kernel) (sh_19 hn) (by omega) (by omega) (by omega) ?_
                              refine a_icmp_eq (pc := 90) (off := 15) (tgt := 105) (by decide +kernel) (by decide) (by first | (rw [er]; have := f_repl_in (h := h) (p := σ.1 19 i) ht9; omega) | omega) (by first | (rw [er]; have := f_repl_in (h := h) (p := σ.1 19 i) ht9; omega) | omega) (fun c90 => ?_) (fun c90 => ?_)
                              · refine a_iinc (pc := 105) (i := 4) (n := 1) (x := i) (lv' := [(0, .ref 16), (1, j_i h), (2, j_i t), (3, j_i (f_count (m_rB σ h t) i.toNat)), (4, j_i (i + 1)), (5, j_i (f_lon (f_lon (f_lon 0 (f_head (σ.1 19 i) 0)) (f_head (σ.1 19 i) 1)) t)), (6, j_i 3), (7, j_i (f_head (σ.1 19 i) 2))]) (by decide +kernel) rfl (Nat.le_of_ble_eq_true rfl) rfl ?_
                                refine a_goto (pc := 108) (off := -103) (tgt := 5) (by decide +kernel) (by decide) ?_
                                refine a_sub (pc := 5) (lv' := [(0, .ref 16), (1, j_i h), (2, j_i t), (3, j_i (f_count (m_rB σ h t) i.toNat)), (4, j_i (i + 1))]) (fun q hq => by simp only [List.mem_cons, List.not_mem_nil, or_false] at hq ⊢; rcases hq with rfl | rfl | rfl | rfl | rfl <;> simp) ?_
                                rw [er, et] at c90
                                have e9 := ih (i + 1) (by omega) (by omega) (by omega)
                                rw [f_count_n h0 (by unfold m_rB; simp [c90])] at e9
                                rw [hτ, f_map_skip h0 (by unfold m_rF; rw [if_pos hgi.2]; exact c90)]
                                exact e9
                              · refine a_aload_n (pc := 93) (i := 0) (by decide +kernel) rfl ?_
                                refine b_getR (pc := 94) (b := 19) fl_X7_18 (by decide +kernel) (sh_16 hn) rfl ?_
                                refine a_iload (pc := 97) (i := 4) (by decide +kernel) rfl ?_
                                refine a_iload (pc := 99) (i := 5) (by decide +kernel) rfl ?_
                                refine b_iastore (pc := 101) (by decide +kernel) (sh_19 hn) (by omega) (by omega) (by omega) ?_
                                obtain ⟨σ2, hσ2⟩ : ∃ z, z = k_sA τ 19 (j_up (τ.1 19) i (f_lon (f_lon (f_lon 0 (f_head (σ.1 19 i) 0)) (f_head (σ.1 19 i) 1)) t)) := ⟨_, rfl⟩
                                rw [← hσ2]
                                refine a_iinc (pc := 102) (i := 3) (n := 1) (x := f_count (m_rB σ h t) i.toNat) (lv' := [(0, .ref 16), (1, j_i h), (2, j_i t), (3, j_i ((f_count (m_rB σ h t) i.toNat) + 1)), (4, j_i i), (5, j_i (f_lon (f_lon (f_lon 0 (f_head (σ.1 19 i) 0)) (f_head (σ.1 19 i) 1)) t)), (6, j_i 3), (7, j_i (f_head (σ.1 19 i) 2))]) (by decide +kernel) rfl (Nat.le_of_ble_eq_true rfl) rfl ?_
                                refine a_iinc (pc := 105) (i := 4) (n := 1) (x := i) (lv' := [(0, .ref 16), (1, j_i h), (2, j_i t), (3, j_i ((f_count (m_rB σ h t) i.toNat) + 1)), (4, j_i (i + 1)), (5, j_i (f_lon (f_lon (f_lon 0 (f_head (σ.1 19 i) 0)) (f_head (σ.1 19 i) 1)) t)), (6, j_i 3), (7, j_i (f_head (σ.1 19 i) 2))]) (by decide +kernel) rfl (Nat.le_of_ble_eq_true rfl) rfl ?_
                                refine a_goto (pc := 108) (off := -103) (tgt := 5) (by decide +kernel) (by decide) ?_
                                refine a_sub (pc := 5) (lv' := [(0, .ref 16), (1, j_i h), (2, j_i t), (3, j_i ((f_count (m_rB σ h t) i.toNat) + 1)), (4, j_i (i + 1))]) (fun q hq => by simp only [List.mem_cons, List.not_mem_nil, or_false] at hq ⊢; rcases hq with rfl | rfl | rfl | rfl | rfl <;> simp) ?_
                                rw [er, et] at c90
                                have e9 := ih (i + 1) (by omega) (by omega) (by omega)
                                rw [f_count_y h0 (by unfold m_rB; simp [hgi.2, c90])] at e9
                                rw [er] at hσ2
                                rw [hσ2, hτ, k_AA, k_sA_sA, f_map_up h0 (by unfold m_rF; rw [if_pos hgi.2])]
                                exact e9
                          · exact absurd c23 (by decide)
                  · refine a_iload_n (pc := 54) (i := 2) (by decide +kernel) rfl ?_
                    refine a_goto (pc := 55) (off := 5) (tgt := 60) (by decide +kernel) (by decide) ?_
                    refine b_pureS (pc := 60) [j_i (f_lon 0 (f_head (σ.1 19 i) 0)), j_i t] [] ml_X7_50 (by decide +kernel) rfl rfl (Nat.le_of_ble_eq_true rfl) (j_fitI rfl rfl) (s_longer (by omega)) ?_
                    show j_at _ _ _ [(0, .ref 16), (1, j_i h), (2, j_i t), (3, j_i (f_count (m_rB σ h t) i.toNat)), (4, j_i i), (5, j_i (f_lon 0 (f_head (σ.1 19 i) 0))), (6, j_i 1), (7, j_i (f_head (σ.1 19 i) 1))] [j_i (f_lon (f_lon 0 (f_head (σ.1 19 i) 0)) t)] _ _ _ _
                    refine a_istore (pc := 63) (i := 5) (lv' := [(0, .ref 16), (1, j_i h), (2, j_i t), (3, j_i (f_count (m_rB σ h t) i.toNat)), (4, j_i i), (5, j_i (f_lon (f_lon 0 (f_head (σ.1 19 i) 0)) t)), (6, j_i 1), (7, j_i (f_head (σ.1 19 i) 1))]) (by decide +kernel) (Nat.le_of_ble_eq_true rfl) rfl ?_
                    refine a_iinc (pc := 65) (i := 6) (n := 1) (x := 1) (lv' := [(0, .ref 16), (1, j_i h), (2, j_i t), (3, j_i (f_count (m_rB σ h t) i.toNat)), (4, j_i i), (5, j_i (f_lon (f_lon 0 (f_head (σ.1 19 i) 0)) t)), (6, j_i 2), (7, j_i (f_head (σ.1 19 i) 1))]) (by decide +kernel) rfl (Nat.le_of_ble_eq_true rfl) rfl ?_
                    refine a_goto (pc := 68) (off := -48) (tgt := 20) (by decide +kernel) (by decide) ?_
                    refine a_iload (pc := 20) (i := 6) (by decide +kernel) rfl ?_
                    refine a_iconst (pc := 22) (n := 3) (by decide +kernel) ?_
                    refine a_icmp_ge (pc := 23) (off := 48) (tgt := 71) (by decide +kernel) (by decide) (by omega) (by omega) (fun c23 => ?_) (fun c23 => ?_)
                    · exact absurd c23 (by decide)
                    · refine a_aload_n (pc := 26) (i := 0) (by decide +kernel) rfl ?_
                      refine b_getR (pc := 27) (b := 21) fl_X7_24 (by decide +kernel) (sh_16 hn) rfl ?_
                      refine a_iload (pc := 30) (i := 4) (by decide +kernel) rfl ?_
                      refine b_zaload (pc := 32) (by decide +kernel) (sh_21 hn) (by omega) (by omega) (by omega) ?_
                      rw [show τ.1 21 = σ.1 21 by rw [hτ]; exact k_AN (by omega)]
                      refine a_if_ne (pc := 33) (off := 38) (tgt := 71) (by decide +kernel) (by decide) (by omega) (fun c33 => ?_) (fun c33 => ?_)
                      · exfalso; omega
                      · refine a_aload_n (pc := 36) (i := 0) (by decide +kernel) rfl ?_
                        refine a_iload (pc := 37) (i := 4) (by decide +kernel) rfl ?_
                        refine a_iload (pc := 39) (i := 6) (by decide +kernel) rfl ?_
                        refine b_pureV (pc := 41) [j_i i, j_i 2] [] ml_X7_47 (by decide +kernel) rfl rfl (sh_16 hn) rfl rfl (Nat.le_of_ble_eq_true rfl) (j_fitI rfl rfl) (mh 2 (by omega)) ?_
                        show j_at _ _ _ [(0, .ref 16), (1, j_i h), (2, j_i t), (3, j_i (f_count (m_rB σ h t) i.toNat)), (4, j_i i), (5, j_i (f_lon (f_lon 0 (f_head (σ.1 19 i) 0)) t)), (6, j_i 2), (7, j_i (f_head (σ.1 19 i) 1))] [j_i (f_head (σ.1 19 i) 2)] _ _ _ _
                        refine a_istore (pc := 44) (i := 7) (lv' := [(0, .ref 16), (1, j_i h), (2, j_i t), (3, j_i (f_count (m_rB σ h t) i.toNat)), (4, j_i i), (5, j_i (f_lon (f_lon 0 (f_head (σ.1 19 i) 0)) t)), (6, j_i 2), (7, j_i (f_head (σ.1 19 i) 2))]) (by decide +kernel) (Nat.le_of_ble_eq_true rfl) rfl ?_
                        refine a_iload (pc := 46) (i := 5) (by decide +kernel) rfl ?_
                        refine a_iload (pc := 48) (i := 7) (by decide +kernel) rfl ?_
                        refine a_iload_n (pc := 50) (i := 1) (by decide +kernel) rfl ?_
                        refine a_icmp_ne (pc := 51) (off := 7) (tgt := 58) (by decide +kernel) (by decide) (by omega) (by omega) (fun c51 => ?_) (fun c51 => ?_)
                        · refine a_iload (pc := 58) (i := 7) (by decide +kernel) rfl ?_
                          refine b_pureS (pc := 60) [j_i (f_lon (f_lon 0 (f_head (σ.1 19 i) 0)) t), j_i (f_head (σ.1 19 i) 2)] [] ml_X7_50 (by decide +kernel) rfl rfl (Nat.le_of_ble_eq_true rfl) (j_fitI rfl rfl) (s_longer (by omega)) ?_
                          show j_at _ _ _ [(0, .ref 16), (1, j_i h), (2, j_i t), (3, j_i (f_count (m_rB σ h t) i.toNat)), (4, j_i i), (5, j_i (f_lon (f_lon 0 (f_head (σ.1 19 i) 0)) t)), (6, j_i 2), (7, j_i (f_head (σ.1 19 i) 2))] [j_i (f_lon (f_lon (f_lon 0 (f_head (σ.1 19 i) 0)) t) (f_head (σ.1 19 i) 2))] _ _ _ _
                          refine a_istore (pc := 63) (i := 5) (lv' := [(0, .ref 16), (1, j_i h), (2, j_i t), (3, j_i (f_count (m_rB σ h t) i.toNat)), (4, j_i i), (5, j_i (f_lon (f_lon (f_lon 0 (f_head (σ.1 19 i) 0)) t) (f_head (σ.1 19 i) 2))), (6, j_i 2), (7, j_i (f_head (σ.1 19 i) 2))]) (by decide +kernel) (Nat.le_of_ble_eq_true rfl) rfl ?_
                          refine a_iinc (pc := 65) (i := 6) (n := 1) (x := 2) (lv' := [(0, .ref 16), (1, j_i h), (2, j_i t), (3, j_i (f_count (m_rB σ h t) i.toNat)), (4, j_i i), (5, j_i (f_lon (f_lon (f_lon 0 (f_head (σ.1 19 i) 0)) t) (f_head (σ.1 19 i) 2))), (6, j_i 3), (7, j_i (f_head (σ.1 19 i) 2))]) (by decide +kernel) rfl (Nat.le_of_ble_eq_true rfl) rfl ?_
                          refine a_goto (pc := 68) (off := -48) (tgt := 20) (by decide +kernel) (by decide) ?_
                          refine a_iload (pc := 20) (i := 6) (by decide +kernel) rfl ?_
                          refine a_iconst (pc := 22) (n := 3) (by decide +kernel) ?_
                          refine a_icmp_ge (pc := 23) (off := 48) (tgt := 71) (by decide +kernel) (by decide) (by omega) (by omega) (fun c23 => ?_) (fun c23 => ?_)
                          · have er : f_lon (f_lon (f_lon 0 (f_head (σ.1 19 i) 0)) t) (f_head (σ.1 19 i) 2) = f_repl h t (σ.1 19 i) := by unfold f_repl f_re; (repeat' split) <;> (first | rfl | (exfalso; omega))
                            refine a_aload_n (pc := 71) (i := 0) (by decide +kernel) rfl ?_
                            refine b_getR (pc := 72) (b := 21) fl_X7_24 (by decide +kernel) (sh_16 hn) rfl ?_
                            refine a_iload (pc := 75) (i := 4) (by decide +kernel) rfl ?_
                            refine b_zaload (pc := 77) (by decide +kernel) (sh_21 hn) (by omega) (by omega) (by omega) ?_
                            rw [show τ.1 21 = σ.1 21 by rw [hτ]; exact k_AN (by omega)]
                            refine a_if_ne (pc := 78) (off := 27) (tgt := 105) (by decide +kernel) (by decide) (by omega) (fun c78 => ?_) (fun c78 => ?_)
                            · exfalso; omega
                            · refine a_iload (pc := 81) (i := 5) (by decide +kernel) rfl ?_
                              refine a_aload_n (pc := 83) (i := 0) (by decide +kernel) rfl ?_
                              refine b_getR (pc := 84) (b := 19) fl_X7_18 (by decide +kernel) (sh_16 hn) rfl ?_
                              refine a_iload (pc := 87) (i := 4) (by decide +kernel) rfl ?_
                              refine b_iaload (pc := 89) (by decide +kernel) (sh_19 hn) (by omega) (by omega) (by omega) ?_
                              refine a_icmp_eq (pc := 90) (off := 15) (tgt := 105) (by decide +kernel) (by decide) (by first | (rw [er]; have := f_repl_in (h := h) (p := σ.1 19 i) ht9; omega) | omega) (by first | (rw [er]; have := f_repl_in (h := h) (p := σ.1 19 i) ht9; omega) | omega) (fun c90 => ?_) (fun c90 => ?_)
                              · refine a_iinc (pc := 105) (i := 4) (n := 1) (x := i) (lv' := [(0, .ref 16), (1, j_i h), (2, j_i t), (3, j_i (f_count (m_rB σ h t) i.toNat)), (4, j_i (i + 1)), (5, j_i (f_lon (f_lon (f_lon 0 (f_head (σ.1 19 i) 0)) t) (f_head (σ.1 19 i) 2))), (6, j_i 3), (7, j_i (f_head (σ.1 19 i) 2))]) (by decide +kernel) rfl (Nat.le_of_ble_eq_true rfl) rfl ?_
                                refine a_goto (pc := 108) (off := -103) (tgt := 5) (by decide +kernel) (by decide) ?_
                                refine a_sub (pc := 5) (lv' := [(0, .ref 16), (1, j_i h), (2, j_i t), (3, j_i (f_count (m_rB σ h t) i.toNat)), (4, j_i (i + 1))]) (fun q hq => by simp only [List.mem_cons, List.not_mem_nil, or_false] at hq ⊢; rcases hq with rfl | rfl | rfl | rfl | rfl <;> simp) ?_
                                rw [er, et] at c90
                                have e9 := ih (i + 1) (by omega) (by omega) (by omega)
                                rw [f_count_n h0 (by unfold m_rB; simp [c90])] at e9
                                rw [hτ, f_map_skip h0 (by unfold m_rF; rw [if_pos hgi.2]; exact c90)]
                                exact e9
                              · refine a_aload_n (pc := 93) (i := 0) (by decide +kernel) rfl ?_
                                refine b_getR (pc := 94) (b := 19) fl_X7_18 (by decide +kernel) (sh_16 hn) rfl ?_
                                refine a_iload (pc := 97) (i := 4) (by decide +kernel) rfl ?_
                                refine a_iload (pc := 99) (i := 5) (by decide +kernel) rfl ?_
                                refine b_iastore (pc := 101) (by decide +kernel) (sh_19 hn) (by omega) (by omega) (by omega) ?_
                                obtain ⟨σ3, hσ3⟩ : ∃ z, z = k_sA τ 19 (j_up (τ.1 19) i (f_lon (f_lon (f_lon 0 (f_head (σ.1 19 i) 0)) t) (f_head (σ.1 19 i) 2))) := ⟨_, rfl⟩
                                rw [← hσ3]
                                refine a_iinc (pc := 102) (i := 3) (n := 1) (x := f_count (m_rB σ h t) i.toNat) (lv' := [(0, .ref 16), (1, j_i h), (2, j_i t), (3, j_i ((f_count (m_rB σ h t) i.toNat) + 1)), (4, j_i i), (5, j_i (f_lon (f_lon (f_lon 0 (f_head (σ.1 19 i) 0)) t) (f_head (σ.1 19 i) 2))), (6, j_i 3), (7, j_i (f_head (σ.1 19 i) 2))]) (by decide +kernel) rfl (Nat.le_of_ble_eq_true rfl) rfl ?_
                                refine a_iinc (pc := 105) (i := 4) (n := 1) (x := i) (lv' := [(0, .ref 16), (1, j_i h), (2, j_i t), (3, j_i ((f_count (m_rB σ h t) i.toNat) + 1)), (4, j_i (i + 1)), (5, j_i (f_lon (f_lon (f_lon 0 (f_head (σ.1 19 i) 0)) t) (f_head (σ.1 19 i) 2))), (6, j_i 3), (7, j_i (f_head (σ.1 19 i) 2))]) (by decide +kernel) rfl (Nat.le_of_ble_eq_true rfl) rfl ?_
                                refine a_goto (pc := 108) (off := -103) (tgt := 5) (by decide +kernel) (by decide) ?_
                                refine a_sub (pc := 5) (lv' := [(0, .ref 16), (1, j_i h), (2, j_i t), (3, j_i ((f_count (m_rB σ h t) i.toNat) + 1)), (4, j_i (i + 1))]) (fun q hq => by simp only [List.mem_cons, List.not_mem_nil, or_false] at hq ⊢; rcases hq with rfl | rfl | rfl | rfl | rfl <;> simp) ?_
                                rw [er, et] at c90
                                have e9 := ih (i + 1) (by omega) (by omega) (by omega)
                                rw [f_count_y h0 (by unfold m_rB; simp [hgi.2, c90])] at e9
                                rw [er] at hσ3
                                rw [hσ3, hτ, k_AA, k_sA_sA, f_map_up h0 (by unfold m_rF; rw [if_pos hgi.2])]
                                exact e9
                          · exact absurd c23 (by decide)
                        · refine a_iload_n (pc := 54) (i := 2) (by decide +kernel) rfl ?_
                          refine a_goto (pc := 55) (off := 5) (tgt := 60) (by decide +kernel) (by decide) ?_
                          refine b_pureS (pc := 60) [j_i (f_lon (f_lon 0 (f_head (σ.1 19 i) 0)) t), j_i t] [] ml_X7_50 (by decide +kernel) rfl rfl (Nat.le_of_ble_eq_true rfl) (j_fitI rfl rfl) (s_longer (by omega)) ?_
                          show j_at _ _ _ [(0, .ref 16), (1, j_i h), (2, j_i t), (3, j_i (f_count (m_rB σ h t) i.toNat)), (4, j_i i), (5, j_i (f_lon (f_lon 0 (f_head (σ.1 19 i) 0)) t)), (6, j_i 2), (7, j_i (f_head (σ.1 19 i) 2))] [j_i (f_lon (f_lon (f_lon 0 (f_head (σ.1 19 i) 0)) t) t)] _ _ _ _
                          refine a_istore (pc := 63) (i := 5) (lv' := [(0, .ref 16), (1, j_i h), (2, j_i t), (3, j_i (f_count (m_rB σ h t) i.toNat)), (4, j_i i), (5, j_i (f_lon (f_lon (f_lon 0 (f_head (σ.1 19 i) 0)) t) t)), (6, j_i 2), (7, j_i (f_head (σ.1 19 i) 2))]) (by decide +kernel) (Nat.le_of_ble_eq_true rfl) rfl ?_
                          refine a_iinc (pc := 65) (i := 6) (n := 1) (x := 2) (lv' := [(0, .ref 16), (1, j_i h), (2, j_i t), (3, j_i (f_count (m_rB σ h t) i.toNat)), (4, j_i i), (5, j_i (f_lon (f_lon (f_lon 0 (f_head (σ.1 19 i) 0)) t) t)), (6, j_i 3), (7, j_i (f_head (σ.1 19 i) 2))]) (by decide +kernel) rfl (Nat.le_of_ble_eq_true rfl) rfl ?_
                          refine a_goto (pc := 68) (off := -48) (tgt := 20) (by decide +kernel) (by decide) ?_
                          refine a_iload (pc := 20) (i := 6) (by decide +kernel) rfl ?_
                          refine a_iconst (pc := 22) (n := 3) (by decide +kernel) ?_
                          refine a_icmp_ge (pc := 23) (off := 48) (tgt := 71) (by decide +kernel) (by decide) (by omega) (by omega) (fun c23 => ?_) (fun c23 => ?_)
                          · have er : f_lon (f_lon (f_lon 0 (f_head (σ.1 19 i) 0)) t) t = f_repl h t (σ.1 19 i) := by unfold f_repl f_re; (repeat' split) <;> (first | rfl | (exfalso; omega))
                            refine a_aload_n (pc := 71) (i := 0) (by decide +kernel) rfl ?_
                            refine b_getR (pc := 72) (b := 21) fl_X7_24 (by decide +kernel) (sh_16 hn) rfl ?_
                            refine a_iload (pc := 75) (i := 4) (by decide +kernel) rfl ?_
                            refine b_zaload (pc := 77) (by decide +kernel) (sh_21 hn) (by omega) (by omega) (by omega) ?_
                            rw [show τ.1 21 = σ.1 21 by rw [hτ]; exact k_AN (by omega)]
                            refine a_if_ne (pc := 78) (off := 27) (tgt := 105) (by decide +kernel) (by decide) (by omega) (fun c78 => ?_) (fun c78 => ?_)
                            · exfalso; omega
                            · refine a_iload (pc := 81) (i := 5) (by decide +kernel) rfl ?_
                              refine a_aload_n (pc := 83) (i := 0) (by decide +kernel) rfl ?_
                              refine b_getR (pc := 84) (b := 19) fl_X7_18 (by decide +kernel) (sh_16 hn) rfl ?_
                              refine a_iload (pc := 87) (i := 4) (by decide +kernel) rfl ?_
                              refine b_iaload (pc := 89) (by decide +kernel) (sh_19 hn) (by omega) (by omega) (by omega) ?_
                              refine a_icmp_eq (pc := 90) (off := 15) (tgt := 105) (by decide +kernel) (by decide) (by first | (rw [er]; have := f_repl_in (h := h) (p := σ.1 19 i) ht9; omega) | omega) (by first | (rw [er]; have := f_repl_in (h := h) (p := σ.1 19 i) ht9; omega) | omega) (fun c90 => ?_) (fun c90 => ?_)
                              · refine a_iinc (pc := 105) (i := 4) (n := 1) (x := i) (lv' := [(0, .ref 16), (1, j_i h), (2, j_i t), (3, j_i (f_count (m_rB σ h t) i.toNat)), (4, j_i (i + 1)), (5, j_i (f_lon (f_lon (f_lon 0 (f_head (σ.1 19 i) 0)) t) t)), (6, j_i 3), (7, j_i (f_head (σ.1 19 i) 2))]) (by decide +kernel) rfl (Nat.le_of_ble_eq_true rfl) rfl ?_
                                refine a_goto (pc := 108) (off := -103) (tgt := 5) (by decide +kernel) (by decide) ?_
                                refine a_sub (pc := 5) (lv' := [(0, .ref 16), (1, j_i h), (2, j_i t), (3, j_i (f_count (m_rB σ h t) i.toNat)), (4, j_i (i + 1))]) (fun q hq => by simp only [List.mem_cons, List.not_mem_nil, or_false] at hq ⊢; rcases hq with rfl | rfl | rfl | rfl | rfl <;> simp) ?_
                                rw [er, et] at c90
                                have e9 := ih (i + 1) (by omega) (by omega) (by omega)
                                rw [f_count_n h0 (by unfold m_rB; simp [c90])] at e9
                                rw [hτ, f_map_skip h0 (by unfold m_rF; rw [if_pos hgi.2]; exact c90)]
                                exact e9
                              · refine a_aload_n (pc := 93) (i := 0) (by decide +kernel) rfl ?_
                                refine b_getR (pc := 94) (b := 19) fl_X7_18 (by decide +kernel) (sh_16 hn) rfl ?_
                                refine a_iload (pc := 97) (i := 4) (by decide +kernel) rfl ?_
                                refine a_iload (pc := 99) (i := 5) (by decide +kernel) rfl ?_
                                refine b_iastore (pc := 101) (by decide +kernel) (sh_19 hn) (by omega) (by omega) (by omega) ?_
                                obtain ⟨σ4, hσ4⟩ : ∃ z, z = k_sA τ 19 (j_up (τ.1 19) i (f_lon (f_lon (f_lon 0 (f_head (σ.1 19 i) 0)) t) t)) := ⟨_, rfl⟩
                                rw [← hσ4]
                                refine a_iinc (pc := 102) (i := 3) (n := 1) (x := f_count (m_rB σ h t) i.toNat) (lv' := [(0, .ref 16), (1, j_i h), (2, j_i t), (3, j_i ((f_count (m_rB σ h t) i.toNat) + 1)), (4, j_i i), (5, j_i (f_lon (f_lon (f_lon 0 (f_head (σ.1 19 i) 0)) t) t)), (6, j_i 3), (7, j_i (f_head (σ.1 19 i) 2))]) (by decide +kernel) rfl (Nat.le_of_ble_eq_true rfl) rfl ?_
                                refine a_iinc (pc := 105) (i := 4) (n := 1) (x := i) (lv' := [(0, .ref 16), (1, j_i h), (2, j_i t), (3, j_i ((f_count (m_rB σ h t) i.toNat) + 1)), (4, j_i (i + 1)), (5, j_i (f_lon (f_lon (f_lon 0 (f_head (σ.1 19 i) 0)) t) t)), (6, j_i 3), (7, j_i (f_head (σ.1 19 i) 2))]) (by decide +kernel) rfl (Nat.le_of_ble_eq_true rfl) rfl ?_
                                refine a_goto (pc := 108) (off := -103) (tgt := 5) (by decide +kernel) (by decide) ?_
                                refine a_sub (pc := 5) (lv' := [(0, .ref 16), (1, j_i h), (2, j_i t), (3, j_i ((f_count (m_rB σ h t) i.toNat) + 1)), (4, j_i (i + 1))]) (fun q hq => by simp only [List.mem_cons, List.not_mem_nil, or_false] at hq ⊢; rcases hq with rfl | rfl | rfl | rfl | rfl <;> simp) ?_
                                rw [er, et] at c90
                                have e9 := ih (i + 1) (by omega) (by omega) (by omega)
                                rw [f_count_y h0 (by unfold m_rB; simp [hgi.2, c90])] at e9
                                rw [er] at hσ4
                                rw [hσ4, hτ, k_AA, k_sA_sA, f_map_up h0 (by unfold m_rF; rw [if_pos hgi.2])]
                                exact e9
                          · exact absurd c23 (by decide)
            · refine a_iload_n (pc := 54) (i := 2) (by decide +kernel) rfl ?_
              refine a_goto (pc := 55) (off := 5) (tgt := 60) (by decide +kernel) (by decide) ?_
              refine b_pureS (pc := 60) [j_i 0, j_i t] [] ml_X7_50 (by decide +kernel) rfl rfl (Nat.le_of_ble_eq_true rfl) (j_fitI rfl rfl) (s_longer (by omega)) ?_
              show j_at _ _ _ [(0, .ref 16), (1, j_i h), (2, j_i t), (3, j_i (f_count (m_rB σ h t) i.toNat)), (4, j_i i), (5, j_i 0), (6, j_i 0), (7, j_i (f_head (σ.1 19 i) 0))] [j_i (f_lon 0 t)] _ _ _ _
              refine a_istore (pc := 63) (i := 5) (lv' := [(0, .ref 16), (1, j_i h), (2, j_i t), (3, j_i (f_count (m_rB σ h t) i.toNat)), (4, j_i i), (5, j_i (f_lon 0 t)), (6, j_i 0), (7, j_i (f_head (σ.1 19 i) 0))]) (by decide +kernel) (Nat.le_of_ble_eq_true rfl) rfl ?_
              refine a_iinc (pc := 65) (i := 6) (n := 1) (x := 0) (lv' := [(0, .ref 16), (1, j_i h), (2, j_i t), (3, j_i (f_count (m_rB σ h t) i.toNat)), (4, j_i i), (5, j_i (f_lon 0 t)), (6, j_i 1), (7, j_i (f_head (σ.1 19 i) 0))]) (by decide +kernel) rfl (Nat.le_of_ble_eq_true rfl) rfl ?_
              refine a_goto (pc := 68) (off := -48) (tgt := 20) (by decide +kernel) (by decide) ?_
              refine a_iload (pc := 20) (i := 6) (by decide +kernel) rfl ?_
              refine a_iconst (pc := 22) (n := 3) (by decide +kernel) ?_
              refine a_icmp_ge (pc := 23) (off := 48) (tgt := 71) (by decide +kernel) (by decide) (by omega) (by omega) (fun c23 => ?_) (fun c23 => ?_)
              · exact absurd c23 (by decide)
              · refine a_aload_n (pc := 26) (i := 0) (by decide +kernel) rfl ?_
                refine b_getR (pc := 27) (b := 21) fl_X7_24 (by decide +kernel) (sh_16 hn) rfl ?_
                refine a_iload (pc := 30) (i := 4) (by decide +kernel) rfl ?_
                refine b_zaload (pc := 32) (by decide +kernel) (sh_21 hn) (by omega) (by omega) (by omega) ?_
                rw [show τ.1 21 = σ.1 21 by rw [hτ]; exact k_AN (by omega)]
                refine a_if_ne (pc := 33) (off := 38) (tgt := 71) (by decide +kernel) (by decide) (by omega) (fun c33 => ?_) (fun c33 => ?_)
                · exfalso; omega
                · refine a_aload_n (pc := 36) (i := 0) (by decide +kernel) rfl ?_
                  refine a_iload (pc := 37) (i := 4) (by decide +kernel) rfl ?_
                  refine a_iload (pc := 39) (i := 6) (by decide +kernel) rfl ?_
                  refine b_pureV (pc := 41) [j_i i, j_i 1] [] ml_X7_47 (by decide +kernel) rfl rfl (sh_16 hn) rfl rfl (Nat.le_of_ble_eq_true rfl) (j_fitI rfl rfl) (mh 1 (by omega)) ?_
                  show j_at _ _ _ [(0, .ref 16), (1, j_i h), (2, j_i t), (3, j_i (f_count (m_rB σ h t) i.toNat)), (4, j_i i), (5, j_i (f_lon 0 t)), (6, j_i 1), (7, j_i (f_head (σ.1 19 i) 0))] [j_i (f_head (σ.1 19 i) 1)] _ _ _ _
                  refine a_istore (pc := 44) (i := 7) (lv' := [(0, .ref 16), (1, j_i h), (2, j_i t), (3, j_i (f_count (m_rB σ h t) i.toNat)), (4, j_i i), (5, j_i (f_lon 0 t)), (6, j_i 1), (7, j_i (f_head (σ.1 19 i) 1))]) (by decide +kernel) (Nat.le_of_ble_eq_true rfl) rfl ?_
                  refine a_iload (pc := 46) (i := 5) (by decide +kernel) rfl ?_
                  refine a_iload (pc := 48) (i := 7) (by decide +kernel) rfl ?_
                  refine a_iload_n (pc := 50) (i := 1) (by decide +kernel) rfl ?_
                  refine a_icmp_ne (pc := 51) (off := 7) (tgt := 58) (by decide +kernel) (by decide) (by omega) (by omega) (fun c51 => ?_) (fun c51 => ?_)
                  · refine a_iload (pc := 58) (i := 7) (by decide +kernel) rfl ?_
                    refine b_pureS (pc := 60) [j_i (f_lon 0 t), j_i (f_head (σ.1 19 i) 1)] [] ml_X7_50 (by decide +kernel) rfl rfl (Nat.le_of_ble_eq_true rfl) (j_fitI rfl rfl) (s_longer (by omega)) ?_
                    show j_at _ _ _ [(0, .ref 16), (1, j_i h), (2, j_i t), (3, j_i (f_count (m_rB σ h t) i.toNat)), (4, j_i i), (5, j_i (f_lon 0 t)), (6, j_i 1), (7, j_i (f_head (σ.1 19 i) 1))] [j_i (f_lon (f_lon 0 t) (f_head (σ.1 19 i) 1))] _ _ _ _
                    refine a_istore (pc := 63) (i := 5) (lv' := [(0, .ref 16), (1, j_i h), (2, j_i t), (3, j_i (f_count (m_rB σ h t) i.toNat)), (4, j_i i), (5, j_i (f_lon (f_lon 0 t) (f_head (σ.1 19 i) 1))), (6, j_i 1), (7, j_i (f_head (σ.1 19 i) 1))]) (by decide +kernel) (Nat.le_of_ble_eq_true rfl) rfl ?_
                    refine a_iinc (pc := 65) (i := 6) (n := 1) (x := 1) (lv' := [(0, .ref 16), (1, j_i h), (2, j_i t), (3, j_i (f_count (m_rB σ h t) i.toNat)), (4, j_i i), (5, j_i (f_lon (f_lon 0 t) (f_head (σ.1 19 i) 1))), (6, j_i 2), (7, j_i (f_head (σ.1 19 i) 1))]) (by decide +kernel) rfl (Nat.le_of_ble_eq_true rfl) rfl ?_
                    refine a_goto (pc := 68) (off := -48) (tgt := 20) (by decide +kernel) (by decide) ?_
                    refine a_iload (pc := 20) (i := 6) (by decide +kernel) rfl ?_
                    refine a_iconst (pc := 22) (n := 3) (by decide +kernel) ?_
                    refine a_icmp_ge (pc := 23) (off := 48) (tgt := 71) (by decide +kernel) (by decide) (by omega) (by omega) (fun c23 => ?_) (fun c23 => ?_)
                    · exact absurd c23 (by decide)
                    · refine a_aload_n (pc := 26) (i := 0) (by decide +kernel) rfl ?_
                      refine b_getR (pc := 27) (b := 21) fl_X7_24 (by decide +kernel) (sh_16 hn) rfl ?_
                      refine a_iload (pc := 30) (i := 4) (by decide +kernel) rfl ?_
                      refine b_zaload (pc := 32) (by decide +kernel) (sh_21 hn) (by omega) (by omega) (by omega) ?_
                      rw [show τ.1 21 = σ.1 21 by rw [hτ]; exact k_AN (by omega)]
                      refine a_if_ne (pc := 33) (off := 38) (tgt := 71) (by decide +kernel) (by decide) (by omega) (fun c33 => ?_) (fun c33 => ?_)
                      · exfalso; omega
                      · refine a_aload_n (pc := 36) (i := 0) (by decide +kernel) rfl ?_
                        refine a_iload (pc := 37) (i := 4) (by decide +kernel) rfl ?_
                        refine a_iload (pc := 39) (i := 6) (by decide +kernel) rfl ?_
                        refine b_pureV (pc := 41) [j_i i, j_i 2] [] ml_X7_47 (by decide +kernel) rfl rfl (sh_16 hn) rfl rfl (Nat.le_of_ble_eq_true rfl) (j_fitI rfl rfl) (mh 2 (by omega)) ?_
                        show j_at _ _ _ [(0, .ref 16), (1, j_i h), (2, j_i t), (3, j_i (f_count (m_rB σ h t) i.toNat)), (4, j_i i), (5, j_i (f_lon (f_lon 0 t) (f_head (σ.1 19 i) 1))), (6, j_i 2), (7, j_i (f_head (σ.1 19 i) 1))] [j_i (f_head (σ.1 19 i) 2)] _ _ _ _
                        refine a_istore (pc := 44) (i := 7) (lv' := [(0, .ref 16), (1, j_i h), (2, j_i t), (3, j_i (f_count (m_rB σ h t) i.toNat)), (4, j_i i), (5, j_i (f_lon (f_lon 0 t) (f_head (σ.1 19 i) 1))), (6, j_i 2), (7, j_i (f_head (σ.1 19 i) 2))]) (by decide +kernel) (Nat.le_of_ble_eq_true rfl) rfl ?_
                        refine a_iload (pc := 46) (i := 5) (by decide +kernel) rfl ?_
                        refine a_iload (pc := 48) (i := 7) (by decide +kernel) rfl ?_
                        refine a_iload_n (pc := 50) (i := 1) (by decide +kernel) rfl ?_
                        refine a_icmp_ne (pc := 51) (off := 7) (tgt := 58) (by decide +kernel) (by decide) (by omega) (by omega) (fun c51 => ?_) (fun c51 => ?_)
                        · refine a_iload (pc := 58) (i := 7) (by decide +kernel) rfl ?_
                          refine b_pureS (pc := 60) [j_i (f_lon (f_lon 0 t) (f_head (σ.1 19 i) 1)), j_i (f_head (σ.1 19 i) 2)] [] ml_X7_50 (by decide +kernel) rfl rfl (Nat.le_of_ble_eq_true rfl) (j_fitI rfl rfl) (s_longer (by omega)) ?_
                          show j_at _ _ _ [(0, .ref 16), (1, j_i h), (2, j_i t), (3, j_i (f_count (m_rB σ h t) i.toNat)), (4, j_i i), (5, j_i (f_lon (f_lon 0 t) (f_head (σ.1 19 i) 1))), (6, j_i 2), (7, j_i (f_head (σ.1 19 i) 2))] [j_i (f_lon (f_lon (f_lon 0 t) (f_head (σ.1 19 i) 1)) (f_head (σ.1 19 i) 2))] _ _ _ _
                          refine a_istore (pc := 63) (i := 5) (lv' := [(0, .ref 16), (1, j_i h), (2, j_i t), (3, j_i (f_count (m_rB σ h t) i.toNat)), (4, j_i i), (5, j_i (f_lon (f_lon (f_lon 0 t) (f_head (σ.1 19 i) 1)) (f_head (σ.1 19 i) 2))), (6, j_i 2), (7, j_i (f_head (σ.1 19 i) 2))]) (by decide +kernel) (Nat.le_of_ble_eq_true rfl) rfl ?_
                          refine a_iinc (pc := 65) (i := 6) (n := 1) (x := 2) (lv' := [(0, .ref 16), (1, j_i h), (2, j_i t), (3, j_i (f_count (m_rB σ h t) i.toNat)), (4, j_i i), (5, j_i (f_lon (f_lon (f_lon 0 t) (f_head (σ.1 19 i) 1)) (f_head (σ.1 19 i) 2))), (6, j_i 3), (7, j_i (f_head (σ.1 19 i) 2))]) (by decide +kernel) rfl (Nat.le_of_ble_eq_true rfl) rfl ?_
                          refine a_goto (pc := 68) (off := -48) (tgt := 20) (by decide +kernel) (by decide) ?_
                          refine a_iload (pc := 20) (i := 6) (by decide +kernel) rfl ?_
                          refine a_iconst (pc := 22) (n := 3) (by decide +kernel) ?_
                          refine a_icmp_ge (pc := 23) (off := 48) (tgt := 71) (by decide +kernel) (by decide) (by omega) (by omega) (fun c23 => ?_) (fun c23 => ?_)
                          · have er : f_lon (f_lon (f_lon 0 t) (f_head (σ.1 19 i) 1)) (f_head (σ.1 19 i) 2) = f_repl h t (σ.1 19 i) := by unfold f_repl f_re; (repeat' split) <;> (first | rfl | (exfalso; omega))
                            refine a_aload_n (pc := 71) (i := 0) (by decide +kernel) rfl ?_
                            refine b_getR (pc := 72) (b := 21) fl_X7_24 (by decide +kernel) (sh_16 hn) rfl ?_
                            refine a_iload (pc := 75) (i := 4) (by decide +kernel) rfl ?_
                            refine b_zaload (pc := 77) (by decide +kernel) (sh_21 hn) (by omega) (by omega) (by omega) ?_
                            rw [show τ.1 21 = σ.1 21 by rw [hτ]; exact k_AN (by omega)]
                            refine a_if_ne (pc := 78) (off := 27) (tgt := 105) (by decide +kernel) (by decide) (by omega) (fun c78 => ?_) (fun c78 => ?_)
                            · exfalso; omega
                            · refine a_iload (pc := 81) (i := 5) (by decide +kernel) rfl ?_
                              refine a_aload_n (pc := 83) (i := 0) (by decide +kernel) rfl ?_
                              refine b_getR (pc := 84) (b := 19) fl_X7_18 (by decide +kernel) (sh_16 hn) rfl ?_
                              refine a_iload (pc := 87) (i := 4) (by decide +kernel) rfl ?_
                              refine b_iaload (pc := 89) (by decide +kernel) (sh_19 hn) (by omega) (by omega) (by omega) ?_
                              refine a_icmp_eq (pc := 90) (off := 15) (tgt := 105) (by decide +kernel) (by decide) (by first | (rw [er]; have := f_repl_in (h := h) (p := σ.1 19 i) ht9; omega) | omega) (by first | (rw [er]; have := f_repl_in (h := h) (p := σ.1 19 i) ht9; omega) | omega) (fun c90 => ?_) (fun c90 => ?_)
                              · refine a_iinc (pc := 105) (i := 4) (n := 1) (x := i) (lv' := [(0, .ref 16), (1, j_i h), (2, j_i t), (3, j_i (f_count (m_rB σ h t) i.toNat)), (4, j_i (i + 1)), (5, j_i (f_lon (f_lon (f_lon 0 t) (f_head (σ.1 19 i) 1)) (f_head (σ.1 19 i) 2))), (6, j_i 3), (7, j_i (f_head (σ.1 19 i) 2))]) (by decide +kernel) rfl (Nat.le_of_ble_eq_true rfl) rfl ?_
                                refine a_goto (pc := 108) (off := -103) (tgt := 5) (by decide +kernel) (by decide) ?_
                                refine a_sub (pc := 5) (lv' := [(0, .ref 16), (1, j_i h), (2, j_i t), (3, j_i (f_count (m_rB σ h t) i.toNat)), (4, j_i (i + 1))]) (fun q hq => by simp only [List.mem_cons, List.not_mem_nil, or_false] at hq ⊢; rcases hq with rfl | rfl | rfl | rfl | rfl <;> simp) ?_
                                rw [er, et] at c90
                                have e9 := ih (i + 1) (by omega) (by omega) (by omega)
                                rw [f_count_n h0 (by unfold m_rB; simp [c90])] at e9
                                rw [hτ, f_map_skip h0 (by unfold m_rF; rw [if_pos hgi.2]; exact c90)]
                                exact e9
                              · refine a_aload_n (pc := 93) (i := 0) (by decide +kernel) rfl ?_
                                refine b_getR (pc := 94) (b := 19) fl_X7_18 (by decide +kernel) (sh_16 hn) rfl ?_
                                refine a_iload (pc := 97) (i := 4) (by decide +kernel) rfl ?_
                                refine a_iload (pc := 99) (i := 5) (by decide +kernel) rfl ?_
                                refine b_iastore (pc := 101) (by decide +kernel) (sh_19 hn) (by omega) (by omega) (by omega) ?_
                                obtain ⟨σ5, hσ5⟩ : ∃ z, z = k_sA τ 19 (j_up (τ.1 19) i (f_lon (f_lon (f_lon 0 t) (f_head (σ.1 19 i) 1)) (f_head (σ.1 19 i) 2))) := ⟨_, rfl⟩
                                rw [← hσ5]
                                refine a_iinc (pc := 102) (i := 3) (n := 1) (x := f_count (m_rB σ h t) i.toNat) (lv' := [(0, .ref 16), (1, j_i h), (2, j_i t), (3, j_i ((f_count (m_rB σ h t) i.toNat) + 1)), (4, j_i i), (5, j_i (f_lon (f_lon (f_lon 0 t) (f_head (σ.1 19 i) 1)) (f_head (σ.1 19 i) 2))), (6, j_i 3), (7, j_i (f_head (σ.1 19 i) 2))]) (by decide +kernel) rfl (Nat.le_of_ble_eq_true rfl) rfl ?_
                                refine a_iinc (pc := 105) (i := 4) (n := 1) (x := i) (lv' := [(0, .ref 16), (1, j_i h), (2, j_i t), (3, j_i ((f_count (m_rB σ h t) i.toNat) + 1)), (4, j_i (i + 1)), (5, j_i (f_lon (f_lon (f_lon 0 t) (f_head (σ.1 19 i) 1)) (f_head (σ.1 19 i) 2))), (6, j_i 3), (7, j_i (f_head (σ.1 19 i) 2))]) (by decide +kernel) rfl (Nat.le_of_ble_eq_true rfl) rfl ?_
                                refine a_goto (pc := 108) (off := -103) (tgt := 5) (by decide +kernel) (by decide) ?_
                                refine a_sub (pc := 5) (lv' := [(0, .ref 16), (1, j_i h), (2, j_i t), (3, j_i ((f_count (m_rB σ h t) i.toNat) + 1)), (4, j_i (i + 1))]) (fun q hq => by simp only [List.mem_cons, List.not_mem_nil, or_false] at hq ⊢; rcases hq with rfl | rfl | rfl | rfl | rfl <;> simp) ?_
                                rw [er, et] at c90
                                have e9 := ih (i + 1) (by omega) (by omega) (by omega)
                                rw [f_count_y h0 (by unfold m_rB; simp [hgi.2, c90])] at e9
                                rw [er] at hσ5
                                rw [hσ5, hτ, k_AA, k_sA_sA, f_map_up h0 (by unfold m_rF; rw [if_pos hgi.2])]
                                exact e9
                          · exact absurd c23 (by decide)
                        · refine a_iload_n (pc := 54) (i := 2) (by decide +kernel) rfl ?_
                          refine a_goto (pc := 55) (off := 5) (tgt := 60) (by decide +kernel) (by decide) ?_
                          refine b_pureS (pc := 60) [j_i (f_lon (f_lon 0 t) (f_head (σ.1 19 i) 1)), j_i t] [] ml_X7_50 (by decide +kernel) rfl rfl (Nat.le_of_ble_eq_true rfl) (j_fitI rfl rfl) (s_longer (by omega)) ?_
                          show j_at _ _ _ [(0, .ref 16), (1, j_i h), (2, j_i t), (3, j_i (f_count (m_rB σ h t) i.toNat)), (4, j_i i), (5, j_i (f_lon (f_lon 0 t) (f_head (σ.1 19 i) 1))), (6, j_i 2), (7, j_i (f_head (σ.1 19 i) 2))] [j_i (f_lon (f_lon (f_lon 0 t) (f_head (σ.1 19 i) 1)) t)] _ _ _ _
                          refine a_istore (pc := 63) (i := 5) (lv' := [(0, .ref 16), (1, j_i h), (2, j_i t), (3, j_i (f_count (m_rB σ h t) i.toNat)), (4, j_i i), (5, j_i (f_lon (f_lon (f_lon 0 t) (f_head (σ.1 19 i) 1)) t)), (6, j_i 2), (7, j_i (f_head (σ.1 19 i) 2))]) (by decide +kernel) (Nat.le_of_ble_eq_true rfl) rfl ?_
                          refine a_iinc (pc := 65) (i := 6) (n := 1) (x := 2) (lv' := [(0, .ref 16), (1, j_i h), (2, j_i t), (3, j_i (f_count (m_rB σ h t) i.toNat)), (4, j_i i), (5, j_i (f_lon (f_lon (f_lon 0 t) (f_head (σ.1 19 i) 1)) t)), (6, j_i 3), (7, j_i (f_head (σ.1 19 i) 2))]) (by decide +kernel) rfl (Nat.le_of_ble_eq_true rfl) rfl ?_
                          refine a_goto (pc := 68) (off := -48) (tgt := 20) (by decide +kernel) (by decide) ?_
                          refine a_iload (pc := 20) (i := 6) (by decide +kernel) rfl ?_
                          refine a_iconst (pc := 22) (n := 3) (by decide +kernel) ?_
                          refine a_icmp_ge (pc := 23) (off := 48) (tgt := 71) (by decide +kernel) (by decide) (by omega) (by omega) (fun c23 => ?_) (fun c23 => ?_)
                          · have er : f_lon (f_lon (f_lon 0 t) (f_head (σ.1 19 i) 1)) t = f_repl h t (σ.1 19 i) := by unfold f_repl f_re; (repeat' split) <;> (first | rfl | (exfalso; omega))
                            refine a_aload_n (pc := 71) (i := 0) (by decide +kernel) rfl ?_
                            refine b_getR (pc := 72) (b := 21) fl_X7_24 (by decide +kernel) (sh_16 hn) rfl ?_
                            refine a_iload (pc := 75) (i := 4) (by decide +kernel) rfl ?_
                            refine b_zaload (pc := 77) (by decide +kernel) (sh_21 hn) (by omega) (by omega) (by omega) ?_
                            rw [show τ.1 21 = σ.1 21 by rw [hτ]; exact k_AN (by omega)]
                            refine a_if_ne (pc := 78) (off := 27) (tgt := 105) (by decide +kernel) (by decide) (by omega) (fun c78 => ?_) (fun c78 => ?_)
                            · exfalso; omega
                            · refine a_iload (pc := 81) (i := 5) (by decide +kernel) rfl ?_
                              refine a_aload_n (pc := 83) (i := 0) (by decide +kernel) rfl ?_
                              refine b_getR (pc := 84) (b := 19) fl_X7_18 (by decide +kernel) (sh_16 hn) rfl ?_
                              refine a_iload (pc := 87) (i := 4) (by decide +kernel) rfl ?_
                              refine b_iaload (pc := 89) (by decide +kernel) (sh_19 hn) (by omega) (by omega) (by omega) ?_
                              refine a_icmp_eq (pc := 90) (off := 15) (tgt := 105) (by decide +kernel) (by decide) (by first | (rw [er]; have := f_repl_in (h := h) (p := σ.1 19 i) ht9; omega) | omega) (by first | (rw [er]; have := f_repl_in (h := h) (p := σ.1 19 i) ht9; omega) | omega) (fun c90 => ?_) (fun c90 => ?_)
                              · refine a_iinc (pc := 105) (i := 4) (n := 1) (x := i) (lv' := [(0, .ref 16), (1, j_i h), (2, j_i t), (3, j_i (f_count (m_rB σ h t) i.toNat)), (4, j_i (i + 1)), (5, j_i (f_lon (f_lon (f_lon 0 t) (f_head (σ.1 19 i) 1)) t)), (6, j_i 3), (7, j_i (f_head (σ.1 19 i) 2))]) (by decide +kernel) rfl (Nat.le_of_ble_eq_true rfl) rfl ?_
                                refine a_goto (pc := 108) (off := -103) (tgt := 5) (by decide +kernel) (by decide) ?_
                                refine a_sub (pc := 5) (lv' := [(0, .ref 16), (1, j_i h), (2, j_i t), (3, j_i (f_count (m_rB σ h t) i.toNat)), (4, j_i (i + 1))]) (fun q hq => by simp only [List.mem_cons, List.not_mem_nil, or_false] at hq ⊢; rcases hq with rfl | rfl | rfl | rfl | rfl <;> simp) ?_
                                rw [er, et] at c90
                                have e9 := ih (i + 1) (by omega) (by omega) (by omega)
                                rw [f_count_n h0 (by unfold m_rB; simp [c90])] at e9
                                rw [hτ, f_map_skip h0 (by unfold m_rF; rw [if_pos hgi.2]; exact c90)]
                                exact e9
                              · refine a_aload_n (pc := 93) (i := 0) (by decide +kernel) rfl ?_
                                refine b_getR (pc := 94) (b := 19) fl_X7_18 (by decide +kernel) (sh_16 hn) rfl ?_
                                refine a_iload (pc := 97) (i := 4) (by decide +kernel) rfl ?_
                                refine a_iload (pc := 99) (i := 5) (by decide +kernel) rfl ?_
                                refine b_iastore (pc := 101) (by decide +kernel) (sh_19 hn) (by omega) (by omega) (by omega) ?_
                                obtain ⟨σ6, hσ6⟩ : ∃ z, z = k_sA τ 19 (j_up (τ.1 19) i (f_lon (f_lon (f_lon 0 t) (f_head (σ.1 19 i) 1)) t)) := ⟨_, rfl⟩
                                rw [← hσ6]
                                refine a_iinc (pc := 102) (i := 3) (n := 1) (x := f_count (m_rB σ h t) i.toNat) (lv' := [(0, .ref 16), (1, j_i h), (2, j_i t), (3, j_i ((f_count (m_rB σ h t) i.toNat) + 1)), (4, j_i i), (5, j_i (f_lon (f_lon (f_lon 0 t) (f_head (σ.1 19 i) 1)) t)), (6, j_i 3), (7, j_i (f_head (σ.1 19 i) 2))]) (by decide +kernel) rfl (Nat.le_of_ble_eq_true rfl) rfl ?_
                                refine a_iinc (pc := 105) (i := 4) (n := 1) (x := i) (lv' := [(0, .ref 16), (1, j_i h), (2, j_i t), (3, j_i ((f_count (m_rB σ h t) i.toNat) + 1)), (4, j_i (i + 1)), (5, j_i (f_lon (f_lon (f_lon 0 t) (f_head (σ.1 19 i) 1)) t)), (6, j_i 3), (7, j_i (f_head (σ.1 19 i) 2))]) (by decide +kernel) rfl (Nat.le_of_ble_eq_true rfl) rfl ?_
                                refine a_goto (pc := 108) (off := -103) (tgt := 5) (by decide +kernel) (by decide) ?_
                                refine a_sub (pc := 5) (lv' := [(0, .ref 16), (1, j_i h), (2, j_i t), (3, j_i ((f_count (m_rB σ h t) i.toNat) + 1)), (4, j_i (i + 1))]) (fun q hq => by simp only [List.mem_cons, List.not_mem_nil, or_false] at hq ⊢; rcases hq with rfl | rfl | rfl | rfl | rfl <;> simp) ?_
                                rw [er, et] at c90
                                have e9 := ih (i + 1) (by omega) (by omega) (by omega)
                                rw [f_count_y h0 (by unfold m_rB; simp [hgi.2, c90])] at e9
                                rw [er] at hσ6
                                rw [hσ6, hτ, k_AA, k_sA_sA, f_map_up h0 (by unfold m_rF; rw [if_pos hgi.2])]
                                exact e9
                          · exact absurd c23 (by decide)
                  · refine a_iload_n (pc := 54) (i := 2) (by decide +kernel) rfl ?_
                    refine a_goto (pc := 55) (off := 5) (tgt := 60) (by decide +kernel) (by decide) ?_
                    refine b_pureS (pc := 60) [j_i (f_lon 0 t), j_i t] [] ml_X7_50 (by decide +kernel) rfl rfl (Nat.le_of_ble_eq_true rfl) (j_fitI rfl rfl) (s_longer (by omega)) ?_
                    show j_at _ _ _ [(0, .ref 16), (1, j_i h), (2, j_i t), (3, j_i (f_count (m_rB σ h t) i.toNat)), (4, j_i i), (5, j_i (f_lon 0 t)), (6, j_i 1), (7, j_i (f_head (σ.1 19 i) 1))] [j_i (f_lon (f_lon 0 t) t)] _ _ _ _
                    refine a_istore (pc := 63) (i := 5) (lv' := [(0, .ref 16), (1, j_i h), (2, j_i t), (3, j_i (f_count (m_rB σ h t) i.toNat)), (4, j_i i), (5, j_i (f_lon (f_lon 0 t) t)), (6, j_i 1), (7, j_i (f_head (σ.1 19 i) 1))]) (by decide +kernel) (Nat.le_of_ble_eq_true rfl) rfl ?_
                    refine a_iinc (pc := 65) (i := 6) (n := 1) (x := 1) (lv' := [(0, .ref 16), (1, j_i h), (2, j_i t), (3, j_i (f_count (m_rB σ h t) i.toNat)), (4, j_i i), (5, j_i (f_lon (f_lon 0 t) t)), (6, j_i 2), (7, j_i (f_head (σ.1 19 i) 1))]) (by decide +kernel) rfl (Nat.le_of_ble_eq_true rfl) rfl ?_
                    refine a_goto (pc := 68) (off := -48) (tgt := 20) (by decide +kernel) (by decide) ?_
                    refine a_iload (pc := 20) (i := 6) (by decide +kernel) rfl ?_
                    refine a_iconst (pc := 22) (n := 3) (by decide +kernel) ?_
                    refine a_icmp_ge (pc := 23) (off := 48) (tgt := 71) (by decide +kernel) (by decide) (by omega) (by omega) (fun c23 => ?_) (fun c23 => ?_)
                    · exact absurd c23 (by decide)
                    · refine a_aload_n (pc := 26) (i := 0) (by decide +kernel) rfl ?_
                      refine b_getR (pc := 27) (b := 21) fl_X7_24 (by decide +kernel) (sh_16 hn) rfl ?_
                      refine a_iload (pc := 30) (i := 4) (by decide +kernel) rfl ?_
                      refine b_zaload (pc := 32) (by decide +kernel) (sh_21 hn) (by omega) (by omega) (by omega) ?_
                      rw [show τ.1 21 = σ.1 21 by rw [hτ]; exact k_AN (by omega)]
                      refine a_if_ne (pc := 33) (off := 38) (tgt := 71) (by decide +kernel) (by decide) (by omega) (fun c33 => ?_) (fun c33 => ?_)
                      · exfalso; omega
                      · refine a_aload_n (pc := 36) (i := 0) (by decide +kernel) rfl ?_
                        refine a_iload (pc := 37) (i := 4) (by decide +kernel) rfl ?_
                        refine a_iload (pc := 39) (i := 6) (by decide +kernel) rfl ?_
                        refine b_pureV (pc := 41) [j_i i, j_i 2] [] ml_X7_47 (by decide +kernel) rfl rfl (sh_16 hn) rfl rfl (Nat.le_of_ble_eq_true rfl) (j_fitI rfl rfl) (mh 2 (by omega)) ?_
                        show j_at _ _ _ [(0, .ref 16), (1, j_i h), (2, j_i t), (3, j_i (f_count (m_rB σ h t) i.toNat)), (4, j_i i), (5, j_i (f_lon (f_lon 0 t) t)), (6, j_i 2), (7, j_i (f_head (σ.1 19 i) 1))] [j_i (f_head (σ.1 19 i) 2)] _ _ _ _
                        refine a_istore (pc := 44) (i := 7) (lv' := [(0, .ref 16), (1, j_i h), (2, j_i t), (3, j_i (f_count (m_rB σ h t) i.toNat)), (4, j_i i), (5, j_i (f_lon (f_lon 0 t) t)), (6, j_i 2), (7, j_i (f_head (σ.1 19 i) 2))]) (by decide +kernel) (Nat.le_of_ble_eq_true rfl) rfl ?_
                        refine a_iload (pc := 46) (i := 5) (by decide +kernel) rfl ?_
                        refine a_iload (pc := 48) (i := 7) (by decide +kernel) rfl ?_
                        refine a_iload_n (pc := 50) (i := 1) (by decide +kernel) rfl ?_
                        refine a_icmp_ne (pc := 51) (off := 7) (tgt := 58) (by decide +kernel) (by decide) (by omega) (by omega) (fun c51 => ?_) (fun c51 => ?_)
                        · refine a_iload (pc := 58) (i := 7) (by decide +kernel) rfl ?_
                          refine b_pureS (pc := 60) [j_i (f_lon (f_lon 0 t) t), j_i (f_head (σ.1 19 i) 2)] [] ml_X7_50 (by decide +kernel) rfl rfl (Nat.le_of_ble_eq_true rfl) (j_fitI rfl rfl) (s_longer (by omega)) ?_
                          show j_at _ _ _ [(0, .ref 16), (1, j_i h), (2, j_i t), (3, j_i (f_count (m_rB σ h t) i.toNat)), (4, j_i i), (5, j_i (f_lon (f_lon 0 t) t)), (6, j_i 2), (7, j_i (f_head (σ.1 19 i) 2))] [j_i (f_lon (f_lon (f_lon 0 t) t) (f_head (σ.1 19 i) 2))] _ _ _ _
                          refine a_istore (pc := 63) (i := 5) (lv' := [(0, .ref 16), (1, j_i h), (2, j_i t), (3, j_i (f_count (m_rB σ h t) i.toNat)), (4, j_i i), (5, j_i (f_lon (f_lon (f_lon 0 t) t) (f_head (σ.1 19 i) 2))), (6, j_i 2), (7, j_i (f_head (σ.1 19 i) 2))]) (by decide +kernel) (Nat.le_of_ble_eq_true rfl) rfl ?_
                          refine a_iinc (pc := 65) (i := 6) (n := 1) (x := 2) (lv' := [(0, .ref 16), (1, j_i h), (2, j_i t), (3, j_i (f_count (m_rB σ h t) i.toNat)), (4, j_i i), (5, j_i (f_lon (f_lon (f_lon 0 t) t) (f_head (σ.1 19 i) 2))), (6, j_i 3), (7, j_i (f_head (σ.1 19 i) 2))]) (by decide +kernel) rfl (Nat.le_of_ble_eq_true rfl) rfl ?_
                          refine a_goto (pc := 68) (off := -48) (tgt := 20) (by decide +kernel) (by decide) ?_
                          refine a_iload (pc := 20) (i := 6) (by decide +kernel) rfl ?_
                          refine a_iconst (pc := 22) (n := 3) (by decide +kernel) ?_
                          refine a_icmp_ge (pc := 23) (off := 48) (tgt := 71) (by decide +kernel) (by decide) (by omega) (by omega) (fun c23 => ?_) (fun c23 => ?_)
                          · have er : f_lon (f_lon (f_lon 0 t) t) (f_head (σ.1 19 i) 2) = f_repl h t (σ.1 19 i) := by unfold f_repl f_re; (repeat' split) <;> (first | rfl | (exfalso; omega))
                            refine a_aload_n (pc := 71) (i := 0) (by decide +kernel) rfl ?_
                            refine b_getR (pc := 72) (b := 21) fl_X7_24 (by decide +kernel) (sh_16 hn) rfl ?_
                            refine a_iload (pc := 75) (i := 4) (by decide +kernel) rfl ?_
                            refine b_zaload (pc := 77) (by decide +kernel) (sh_21 hn) (by omega) (by omega) (by omega) ?_
                            rw [show τ.1 21 = σ.1 21 by rw [hτ]; exact k_AN (by omega)]
                            refine a_if_ne (pc := 78) (off := 27) (tgt := 105) (by decide +kernel) (by decide) (by omega) (fun c78 => ?_) (fun c78 => ?_)
                            · exfalso; omega
                            · refine a_iload (pc := 81) (i := 5) (by decide +kernel) rfl ?_
                              refine a_aload_n (pc := 83) (i := 0) (by decide +kernel) rfl ?_
                              refine b_getR (pc := 84) (b := 19) fl_X7_18 (by decide +kernel) (sh_16 hn) rfl ?_
                              refine a_iload (pc := 87) (i := 4) (by decide +kernel) rfl ?_
                              refine b_iaload (pc := 89) (by decide +kernel) (sh_19 hn) (by omega) (by omega) (by omega) ?_
                              refine a_icmp_eq (pc := 90) (off := 15) (tgt := 105) (by decide +kernel) (by decide) (by first | (rw [er]; have := f_repl_in (h := h) (p := σ.1 19 i) ht9; omega) | omega) (by first | (rw [er]; have := f_repl_in (h := h) (p := σ.1 19 i) ht9; omega) | omega) (fun c90 => ?_) (fun c90 => ?_)
                              · refine a_iinc (pc := 105) (i := 4) (n := 1) (x := i) (lv' := [(0, .ref 16), (1, j_i h), (2, j_i t), (3, j_i (f_count (m_rB σ h t) i.toNat)), (4, j_i (i + 1)), (5, j_i (f_lon (f_lon (f_lon 0 t) t) (f_head (σ.1 19 i) 2))), (6, j_i 3), (7, j_i (f_head (σ.1 19 i) 2))]) (by decide +kernel) rfl (Nat.le_of_ble_eq_true rfl) rfl ?_
                                refine a_goto (pc := 108) (off := -103) (tgt := 5) (by decide +kernel) (by decide) ?_
                                refine a_sub (pc := 5) (lv' := [(0, .ref 16), (1, j_i h), (2, j_i t), (3, j_i (f_count (m_rB σ h t) i.toNat)), (4, j_i (i + 1))]) (fun q hq => by simp only [List.mem_cons, List.not_mem_nil, or_false] at hq ⊢; rcases hq with rfl | rfl | rfl | rfl | rfl <;> simp) ?_
                                rw [er, et] at c90
                                have e9 := ih (i + 1) (by omega) (by omega) (by omega)
                                rw [f_count_n h0 (by unfold m_rB; simp [c90])] at e9
                                rw [hτ, f_map_skip h0 (by unfold m_rF; rw [if_pos hgi.2]; exact c90)]
                                exact e9
                              · refine a_aload_n (pc := 93) (i := 0) (by decide +kernel) rfl ?_
                                refine b_getR (pc := 94) (b := 19) fl_X7_18 (by decide +kernel) (sh_16 hn) rfl ?_
                                refine a_iload (pc := 97) (i := 4) (by decide +kernel) rfl ?_
                                refine a_iload (pc := 99) (i := 5) (by decide +kernel) rfl ?_
                                refine b_iastore (pc := 101) (by decide +kernel) (sh_19 hn) (by omega) (by omega) (by omega) ?_
                                obtain ⟨σ7, hσ7⟩ : ∃ z, z = k_sA τ 19 (j_up (τ.1 19) i (f_lon (f_lon (f_lon 0 t) t) (f_head (σ.1 19 i) 2))) := ⟨_, rfl⟩
                                rw [← hσ7]
                                refine a_iinc (pc := 102) (i := 3) (n := 1) (x := f_count (m_rB σ h t) i.toNat) (lv' := [(0, .ref 16), (1, j_i h), (2, j_i t), (3, j_i ((f_count (m_rB σ h t) i.toNat) + 1)), (4, j_i i), (5, j_i (f_lon (f_lon (f_lon 0 t) t) (f_head (σ.1 19 i) 2))), (6, j_i 3), (7, j_i (f_head (σ.1 19 i) 2))]) (by decide +kernel) rfl (Nat.le_of_ble_eq_true rfl) rfl ?_
                                refine a_iinc (pc := 105) (i := 4) (n := 1) (x := i) (lv' := [(0, .ref 16), (1, j_i h), (2, j_i t), (3, j_i ((f_count (m_rB σ h t) i.toNat) + 1)), (4, j_i (i + 1)), (5, j_i (f_lon (f_lon (f_lon 0 t) t) (f_head (σ.1 19 i) 2))), (6, j_i 3), (7, j_i (f_head (σ.1 19 i) 2))]) (by decide +kernel) rfl (Nat.le_of_ble_eq_true rfl) rfl ?_
                                refine a_goto (pc := 108) (off := -103) (tgt := 5) (by decide +kernel) (by decide) ?_
                                refine a_sub (pc := 5) (lv' := [(0, .ref 16), (1, j_i h), (2, j_i t), (3, j_i ((f_count (m_rB σ h t) i.toNat) + 1)), (4, j_i (i + 1))]) (fun q hq => by simp only [List.mem_cons, List.not_mem_nil, or_false] at hq ⊢; rcases hq with rfl | rfl | rfl | rfl | rfl <;> simp) ?_
                                rw [er, et] at c90
                                have e9 := ih (i + 1) (by omega) (by omega) (by omega)
                                rw [f_count_y h0 (by unfold m_rB; simp [hgi.2, c90])] at e9
                                rw [er] at hσ7
                                rw [hσ7, hτ, k_AA, k_sA_sA, f_map_up h0 (by unfold m_rF; rw [if_pos hgi.2])]
                                exact e9
                          · exact absurd c23 (by decide)
                        · refine a_iload_n (pc := 54) (i := 2) (by decide +kernel) rfl ?_
                          refine a_goto (pc := 55) (off := 5) (tgt := 60) (by decide +kernel) (by decide) ?_
                          refine b_pureS (pc := 60) [j_i (f_lon (f_lon 0 t) t), j_i t] [] ml_X7_50 (by decide +kernel) rfl rfl (Nat.le_of_ble_eq_true rfl) (j_fitI rfl rfl) (s_longer (by omega)) ?_
                          show j_at _ _ _ [(0, .ref 16), (1, j_i h), (2, j_i t), (3, j_i (f_count (m_rB σ h t) i.toNat)), (4, j_i i), (5, j_i (f_lon (f_lon 0 t) t)), (6, j_i 2), (7, j_i (f_head (σ.1 19 i) 2))] [j_i (f_lon (f_lon (f_lon 0 t) t) t)] _ _ _ _
                          refine a_istore (pc := 63) (i := 5) (lv' := [(0, .ref 16), (1, j_i h), (2, j_i t), (3, j_i (f_count (m_rB σ h t) i.toNat)), (4, j_i i), (5, j_i (f_lon (f_lon (f_lon 0 t) t) t)), (6, j_i 2), (7, j_i (f_head (σ.1 19 i) 2))]) (by decide +kernel) (Nat.le_of_ble_eq_true rfl) rfl ?_
                          refine a_iinc (pc := 65) (i := 6) (n := 1) (x := 2) (lv' := [(0, .ref 16), (1, j_i h), (2, j_i t), (3, j_i (f_count (m_rB σ h t) i.toNat)), (4, j_i i), (5, j_i (f_lon (f_lon (f_lon 0 t) t) t)), (6, j_i 3), (7, j_i (f_head (σ.1 19 i) 2))]) (by decide +kernel) rfl (Nat.le_of_ble_eq_true rfl) rfl ?_
                          refine a_goto (pc := 68) (off := -48) (tgt := 20) (by decide +kernel) (by decide) ?_
                          refine a_iload (pc := 20) (i := 6) (by decide +kernel) rfl ?_
                          refine a_iconst (pc := 22) (n := 3) (by decide +kernel) ?_
                          refine a_icmp_ge (pc := 23) (off := 48) (tgt := 71) (by decide +kernel) (by decide) (by omega) (by omega) (fun c23 => ?_) (fun c23 => ?_)
                          · have er : f_lon (f_lon (f_lon 0 t) t) t = f_repl h t (σ.1 19 i) := by unfold f_repl f_re; (repeat' split) <;> (first | rfl | (exfalso; omega))
                            refine a_aload_n (pc := 71) (i := 0) (by decide +kernel) rfl ?_
                            refine b_getR (pc := 72) (b := 21) fl_X7_24 (by decide +kernel) (sh_16 hn) rfl ?_
                            refine a_iload (pc := 75) (i := 4) (by decide +kernel) rfl ?_
                            refine b_zaload (pc := 77) (by decide +kernel) (sh_21 hn) (by omega) (by omega) (by omega) ?_
                            rw [show τ.1 21 = σ.1 21 by rw [hτ]; exact k_AN (by omega)]
                            refine a_if_ne (pc := 78) (off := 27) (tgt := 105) (by decide +kernel) (by decide) (by omega) (fun c78 => ?_) (fun c78 => ?_)
                            · exfalso; omega
                            · refine a_iload (pc := 81) (i := 5) (by decide +kernel) rfl ?_
                              refine a_aload_n (pc := 83) (i := 0) (by decide +kernel) rfl ?_
                              refine b_getR (pc := 84) (b := 19) fl_X7_18 (by decide +kernel) (sh_16 hn) rfl ?_
                              refine a_iload (pc := 87) (i := 4) (by decide +kernel) rfl ?_
                              refine b_iaload (pc := 89) (by decide +kernel) (sh_19 hn) (by omega) (by omega) (by omega) ?_
                              refine a_icmp_eq (pc := 90) (off := 15) (tgt := 105) (by decide +kernel) (by decide) (by first | (rw [er]; have := f_repl_in (h := h) (p := σ.1 19 i) ht9; omega) | omega) (by first | (rw [er]; have := f_repl_in (h := h) (p := σ.1 19 i) ht9; omega) | omega) (fun c90 => ?_) (fun c90 => ?_)
                              · refine a_iinc (pc := 105) (i := 4) (n := 1) (x := i) (lv' := [(0, .ref 16), (1, j_i h), (2, j_i t), (3, j_i (f_count (m_rB σ h t) i.toNat)), (4, j_i (i + 1)), (5, j_i (f_lon (f_lon (f_lon 0 t) t) t)), (6, j_i 3), (7, j_i (f_head (σ.1 19 i) 2))]) (by decide +kernel) rfl (Nat.le_of_ble_eq_true rfl) rfl ?_
                                refine a_goto (pc := 108) (off := -103) (tgt := 5) (by decide +kernel) (by decide) ?_
                                refine a_sub (pc := 5) (lv' := [(0, .ref 16), (1, j_i h), (2, j_i t), (3, j_i (f_count (m_rB σ h t) i.toNat)), (4, j_i (i + 1))]) (fun q hq => by simp only [List.mem_cons, List.not_mem_nil, or_false] at hq ⊢; rcases hq with rfl | rfl | rfl | rfl | rfl <;> simp) ?_
                                rw [er, et] at c90
                                have e9 := ih (i + 1) (by omega) (by omega) (by omega)
                                rw [f_count_n h0 (by unfold m_rB; simp [c90])] at e9
                                rw [hτ, f_map_skip h0 (by unfold m_rF; rw [if_pos hgi.2]; exact c90)]
                                exact e9
                              · refine a_aload_n (pc := 93) (i := 0) (by decide +kernel) rfl ?_
                                refine b_getR (pc := 94) (b := 19) fl_X7_18 (by decide +kernel) (sh_16 hn) rfl ?_
                                refine a_iload (pc := 97) (i := 4) (by decide +kernel) rfl ?_
                                refine a_iload (pc := 99) (i := 5) (by decide +kernel) rfl ?_
                                refine b_iastore (pc := 101) (by decide +kernel) (sh_19 hn) (by omega) (by omega) (by omega) ?_
                                obtain ⟨σ8, hσ8⟩ : ∃ z, z = k_sA τ 19 (j_up (τ.1 19) i (f_lon (f_lon (f_lon 0 t) t) t)) := ⟨_, rfl⟩
                                rw [← hσ8]
                                refine a_iinc (pc := 102) (i := 3) (n := 1) (x := f_count (m_rB σ h t) i.toNat) (lv' := [(0, .ref 16), (1, j_i h), (2, j_i t), (3, j_i ((f_count (m_rB σ h t) i.toNat) + 1)), (4, j_i i), (5, j_i (f_lon (f_lon (f_lon 0 t) t) t)), (6, j_i 3), (7, j_i (f_head (σ.1 19 i) 2))]) (by decide +kernel) rfl (Nat.le_of_ble_eq_true rfl) rfl ?_
                                refine a_iinc (pc := 105) (i := 4) (n := 1) (x := i) (lv' := [(0, .ref 16), (1, j_i h), (2, j_i t), (3, j_i ((f_count (m_rB σ h t) i.toNat) + 1)), (4, j_i (i + 1)), (5, j_i (f_lon (f_lon (f_lon 0 t) t) t)), (6, j_i 3), (7, j_i (f_head (σ.1 19 i) 2))]) (by decide +kernel) rfl (Nat.le_of_ble_eq_true rfl) rfl ?_
                                refine a_goto (pc := 108) (off := -103) (tgt := 5) (by decide +kernel) (by decide) ?_
                                refine a_sub (pc := 5) (lv' := [(0, .ref 16), (1, j_i h), (2, j_i t), (3, j_i ((f_count (m_rB σ h t) i.toNat) + 1)), (4, j_i (i + 1))]) (fun q hq => by simp only [List.mem_cons, List.not_mem_nil, or_false] at hq ⊢; rcases hq with rfl | rfl | rfl | rfl | rfl <;> simp) ?_
                                rw [er, et] at c90
                                have e9 := ih (i + 1) (by omega) (by omega) (by omega)
                                rw [f_count_y h0 (by unfold m_rB; simp [hgi.2, c90])] at e9
                                rw [er] at hσ8
                                rw [hσ8, hτ, k_AA, k_sA_sA, f_map_up h0 (by unfold m_rF; rw [if_pos hgi.2])]
                                exact e9
                          · exact absurd c23 (by decide)
    · refine a_iload (pc := 5) (i := 4) (by decide +kernel) rfl ?_
      refine a_aload_n (pc := 7) (i := 0) (by decide +kernel) rfl ?_
      refine b_getI (pc := 8) fl_X7_28 (by decide +kernel) (sh_16 hn) rfl ?_
      rw [show τ.2.1 16 5 = σ.2.1 16 5 by rw [hτ]; rfl]
      refine a_icmp_ge (pc := 11) (off := 100) (tgt := 111) (by decide +kernel) (by decide) (by omega) (by omega) (fun c11 => ?_) (fun c11 => ?_)
      · refine a_iload_n (pc := 111) (i := 3) (by decide +kernel) rfl ?_
        refine a_ireturn (pc := 112) (by decide +kernel) rfl ?_
        refine k_ret ?_
        have ei : i = σ.2.1 16 5 := by omega
        rw [hτ, ei]
        exact ⟨rfl, rfl, rfl⟩
      · refine a_iconst (pc := 14) (n := 0) (by decide +kernel) ?_
        refine a_istore (pc := 15) (i := 5) (lv' := [(0, .ref 16), (1, j_i h), (2, j_i t), (3, j_i (f_count (m_rB σ h t) i.toNat)), (4, j_i i), (5, j_i 0)]) (by decide +kernel) (Nat.le_of_ble_eq_true rfl) rfl ?_
        refine a_iconst (pc := 17) (n := 0) (by decide +kernel) ?_
        refine a_istore (pc := 18) (i := 6) (lv' := [(0, .ref 16), (1, j_i h), (2, j_i t), (3, j_i (f_count (m_rB σ h t) i.toNat)), (4, j_i i), (5, j_i 0), (6, j_i 0)]) (by decide +kernel) (Nat.le_of_ble_eq_true rfl) rfl ?_
        refine a_iload (pc := 20) (i := 6) (by decide +kernel) rfl ?_
        refine a_iconst (pc := 22) (n := 3) (by decide +kernel) ?_
        refine a_icmp_ge (pc := 23) (off := 48) (tgt := 71) (by decide +kernel) (by decide) (by omega) (by omega) (fun c23 => ?_) (fun c23 => ?_)
        · exact absurd c23 (by decide)
        · refine a_aload_n (pc := 26) (i := 0) (by decide +kernel) rfl ?_
          refine b_getR (pc := 27) (b := 21) fl_X7_24 (by decide +kernel) (sh_16 hn) rfl ?_
          refine a_iload (pc := 30) (i := 4) (by decide +kernel) rfl ?_
          refine b_zaload (pc := 32) (by decide +kernel) (sh_21 hn) (by omega) (by omega) (by omega) ?_
          rw [show τ.1 21 = σ.1 21 by rw [hτ]; exact k_AN (by omega)]
          refine a_if_ne (pc := 33) (off := 38) (tgt := 71) (by decide +kernel) (by decide) (by have := hg i; omega) (fun c33 => ?_) (fun c33 => ?_)
          · refine a_aload_n (pc := 71) (i := 0) (by decide +kernel) rfl ?_
            refine b_getR (pc := 72) (b := 21) fl_X7_24 (by decide +kernel) (sh_16 hn) rfl ?_
            refine a_iload (pc := 75) (i := 4) (by decide +kernel) rfl ?_
            refine b_zaload (pc := 77) (by decide +kernel) (sh_21 hn) (by omega) (by omega) (by omega) ?_
            rw [show τ.1 21 = σ.1 21 by rw [hτ]; exact k_AN (by omega)]
            refine a_if_ne (pc := 78) (off := 27) (tgt := 105) (by decide +kernel) (by decide) (by have := hg i; omega) (fun c78 => ?_) (fun c78 => ?_)
            · refine a_iinc (pc := 105) (i := 4) (n := 1) (x := i) (lv' := [(0, .ref 16), (1, j_i h), (2, j_i t), (3, j_i (f_count (m_rB σ h t) i.toNat)), (4, j_i (i + 1)), (5, j_i 0), (6, j_i 0)]) (by decide +kernel) rfl (Nat.le_of_ble_eq_true rfl) rfl ?_
              refine a_goto (pc := 108) (off := -103) (tgt := 5) (by decide +kernel) (by decide) ?_
              refine a_sub (pc := 5) (lv' := [(0, .ref 16), (1, j_i h), (2, j_i t), (3, j_i (f_count (m_rB σ h t) i.toNat)), (4, j_i (i + 1))]) (fun q hq => by simp only [List.mem_cons, List.not_mem_nil, or_false] at hq ⊢; rcases hq with rfl | rfl | rfl | rfl | rfl <;> simp) ?_
              have hn0 : σ.1 21 i ≠ 0 := fun h9 => hgi ⟨by omega, h9⟩
              have e9 := ih (i + 1) (by omega) (by omega) (by omega)
              rw [f_count_n h0 (by unfold m_rB; simp [hn0])] at e9
              rw [hτ, f_map_skip h0 (by unfold m_rF; rw [if_neg hn0])]
              exact e9
            · exfalso; omega
          · exfalso; omega
set_option maxHeartbeats 4000000 in
theorem s_replaceHead {G : j_G} {X : k_X} {n : Nat} {σ : k_St} (hn : 101 ≤ n) (hw : m_wf σ 16) {h t : Int} (hh : -2147483648 ≤ h ∧ h ≤ 2147483647) (ht9 : f_hd t) : k_run G X mX7_replaceHead [.ref 16, j_i h, j_i t] n σ 0 0 (k_is n (k_sA σ 19 (f_map (m_rF σ h t) (σ.1 19) (σ.2.1 16 5))) (some (j_i (f_count (m_rB σ h t) (σ.2.1 16 5).toNat)))) := by
  obtain ⟨he, hg, hm9⟩ := id hw
  have hg : ∀ i : Int, σ.1 21 i = 0 ∨ σ.1 21 i = 1 := hg
  have hv : ∀ m : Int, 0 ≤ m → m < σ.2.1 16 5 → (0 ≤ σ.1 17 m ∧ σ.1 17 m ≤ 7) ∧ (0 ≤ σ.1 18 m ∧ σ.1 18 m ≤ 300) ∧ (0 ≤ σ.1 19 m ∧ σ.1 19 m ≤ 29790) ∧ (0 ≤ σ.1 20 m ∧ σ.1 20 m ≤ 99) := hm9
  clear hm9
  refine k_enter (by decide +kernel) (Nat.le_of_ble_eq_true rfl) ?_
  show j_at _ _ _ [(0, .ref 16), (1, j_i h), (2, j_i t)] [] _ _ _ _
  refine a_iconst (pc := 0) (n := 0) (by decide +kernel) ?_
  refine a_istore_n (pc := 1) (i := 3) (lv' := [(0, .ref 16), (1, j_i h), (2, j_i t), (3, j_i 0)]) (by decide +kernel) (Nat.le_of_ble_eq_true rfl) rfl ?_
  refine a_iconst (pc := 2) (n := 0) (by decide +kernel) ?_
  refine a_istore (pc := 3) (i := 4) (lv' := [(0, .ref 16), (1, j_i h), (2, j_i t), (3, j_i 0), (4, j_i 0)]) (by decide +kernel) (Nat.le_of_ble_eq_true rfl) rfl ?_
  have e0 : σ = (k_sA σ 19 (f_map (m_rF σ h t) (σ.1 19) 0)) := by rw [f_map_0]; exact (k_sA_id rfl).symm
  have e1 := l_replaceHead (G := G) (X := X) hn hw hh ht9 51 0 (by omega) (by omega) he.1
  rw [← e0] at e1
  exact e1
