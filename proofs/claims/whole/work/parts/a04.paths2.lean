theorem pt_0 {lt : Int → Int → Prop} {p q : Int} (h : f_head p 0 ≠ f_head q 0) : pt_lt lt p q ↔ hl_lt lt (f_head p 0) (f_head q 0) := by
  unfold pt_lt; exact ⟨fun w => by rcases w with w | w; exact w; exact absurd w.1 h, Or.inl⟩
theorem hl_irr {lt : Int → Int → Prop} (hir : ∀ x, ¬ lt x x) {x : Int} : ¬ hl_lt lt x x := by
  rintro ⟨a, b | b⟩
  · exact a b
  · exact hir x b.2
theorem pt_1 {lt : Int → Int → Prop} (hir : ∀ x, ¬ lt x x) {p q : Int} (h : f_head p 0 = f_head q 0) (h1 : f_head p 1 ≠ f_head q 1) : pt_lt lt p q ↔ hl_lt lt (f_head p 1) (f_head q 1) := by
  unfold pt_lt
  constructor
  · rintro (w | ⟨_, w | w⟩)
    · rw [h] at w; exact absurd w (hl_irr hir)
    · exact w
    · exact absurd w.1 h1
  · intro w; exact Or.inr ⟨h, Or.inl w⟩
theorem pt_2 {lt : Int → Int → Prop} (hir : ∀ x, ¬ lt x x) {p q : Int} (h : f_head p 0 = f_head q 0) (h1 : f_head p 1 = f_head q 1) : pt_lt lt p q ↔ hl_lt lt (f_head p 2) (f_head q 2) := by
  unfold pt_lt
  constructor
  · rintro (w | ⟨_, w | w⟩)
    · rw [h] at w; exact absurd w (hl_irr hir)
    · rw [h1] at w; exact absurd w (hl_irr hir)
    · exact w.2
  · intro w; exact Or.inr ⟨h, Or.inr ⟨h1, w⟩⟩
theorem hl_9 {lt : Int → Int → Prop} {x : Int} : ¬ hl_lt lt x (-9) := fun w => w.1 rfl
theorem hl_l {lt : Int → Int → Prop} {x : Int} (h : x ≠ -9) : hl_lt lt (-9) x := ⟨h, Or.inl rfl⟩
theorem hl_b {lt : Int → Int → Prop} {x y : Int} (hx : x ≠ -9) (hy : y ≠ -9) : hl_lt lt x y ↔ lt x y := ⟨fun w => by rcases w.2 with v | v; exact absurd v hx; exact v.2, fun w => ⟨hy, Or.inr ⟨hx, w⟩⟩⟩
theorem o_sg_p {x : Int} : 0 < x ↔ o_sg x = 1 := by
  unfold o_sg f_sgn
  constructor
  · intro h; rw [if_neg (by omega), if_neg (by omega)]
  · intro h; split at h
    · omega
    · split at h <;> omega
theorem o_gt {σ : k_St} {a b od x : Int} (h : o_rel σ a b od (o_sg x)) : 0 < x ↔ o_rel σ b a od (-1) := by
  rw [o_sg_p]
  constructor
  · intro e; rw [e] at h; exact o_rel_anti h
  · intro w
    have := o_rel_u h (by have := o_rel_anti w; exact this)
    omega
/-- what a compare of two paths says -/
def cp_post (n : Nat) (σ : k_St) (P : Prop) : k_P := fun v n' τ => n' = n ∧ b_fr σ τ ∧ ∃ x : Int, v = some (j_i x) ∧ (-100000 ≤ x ∧ x ≤ 100000) ∧ (0 < x ↔ P)
set_option maxHeartbeats 4000000 in
theorem e_comparePaths {G : j_G} {X : k_X} {n : Nat} {σ : k_St} (hn : 101 ≤ n) (hK : RKept σ) (hP : RPass σ) {pe : Int → Int} (hE : pE σ pe) {e f od : Int} (e0 : 0 ≤ e ∧ e < σ.2.1 68 25) (f0 : 0 ≤ f ∧ f < σ.2.1 68 25) (he : okp (h_is σ) (pe e)) (hf : okp (h_is σ) (pe f)) (ho : od = 0 ∨ od = 1) : k_run G X mX12_comparePaths [.ref 68, j_i e, j_i f, j_i od] n σ 0 0 (cp_post n σ (pt_lt (fun x y => o_rel σ x y od (-1)) (pe f) (pe e))) := by
  have hE1 := hE.1
  have z0 := e0
  clear e0
  have hA0 : f_head (pe e) 0 ≠ -9 → f_head (pe f) 0 ≠ -9 → 0 ≤ f_head (pe e) 0 ∧ f_head (pe e) 0 < σ.1 69 301 ∧ 0 ≤ f_head (pe f) 0 ∧ f_head (pe f) 0 < σ.1 69 301 := fun q1 q2 => by
    have w1 := (okp_hd he).1
    have w2 := (okp_hd hf).1
    have hE9 : σ.2.1 8 3 = σ.1 69 301 := hK.2.1.2.1.1
    rcases w1 with w1 | w1
    · exact absurd w1 q1
    · rcases w2 with w2 | w2
      · exact absurd w2 q2
      · exact ⟨w1.1, by have := w1.2.1; omega, w2.1, by have := w2.2.1; omega⟩
  have hA1 : f_head (pe e) 1 ≠ -9 → f_head (pe f) 1 ≠ -9 → 0 ≤ f_head (pe e) 1 ∧ f_head (pe e) 1 < σ.1 69 301 ∧ 0 ≤ f_head (pe f) 1 ∧ f_head (pe f) 1 < σ.1 69 301 := fun q1 q2 => by
    have w1 := (okp_hd he).2.1
    have w2 := (okp_hd hf).2.1
    have hE9 : σ.2.1 8 3 = σ.1 69 301 := hK.2.1.2.1.1
    rcases w1 with w1 | w1
    · exact absurd w1 q1
    · rcases w2 with w2 | w2
      · exact absurd w2 q2
      · exact ⟨w1.1, by have := w1.2.1; omega, w2.1, by have := w2.2.1; omega⟩
  have hA2 : f_head (pe e) 2 ≠ -9 → f_head (pe f) 2 ≠ -9 → 0 ≤ f_head (pe e) 2 ∧ f_head (pe e) 2 < σ.1 69 301 ∧ 0 ≤ f_head (pe f) 2 ∧ f_head (pe f) 2 < σ.1 69 301 := fun q1 q2 => by
    have w1 := (okp_hd he).2.2
    have w2 := (okp_hd hf).2.2
    have hE9 : σ.2.1 8 3 = σ.1 69 301 := hK.2.1.2.1.1
    rcases w1 with w1 | w1
    · exact absurd w1 q1
    · rcases w2 with w2 | w2
      · exact absurd w2 q2
      · exact ⟨w1.1, by have := w1.2.1; omega, w2.1, by have := w2.2.1; omega⟩
  refine k_enter (by decide +kernel) (Nat.le_of_ble_eq_true rfl) ?_
  show j_at _ _ _ [(0, .ref 68), (1, j_i e), (2, j_i f), (3, j_i od)] [] _ _ _ _
  refine a_iconst (pc := 0) (n := 0) (by decide +kernel) ?_
  refine a_istore (pc := 1) (i := 4) (lv' := [(0, .ref 68), (1, j_i e), (2, j_i f), (3, j_i od), (4, j_i 0)]) (by decide +kernel) (Nat.le_of_ble_eq_true rfl) rfl ?_
  refine a_iload (pc := 3) (i := 4) (by decide +kernel) rfl ?_
  refine a_iconst (pc := 5) (n := 3) (by decide +kernel) ?_
  refine a_icmp_ge (pc := 6) (off := 77) (tgt := 83) (by decide +kernel) (by decide) (by omega) (by omega) (fun c6 => ?_) (fun c6 => ?_)
  · exact absurd c6 (by decide)
  · refine a_aload_n (pc := 9) (i := 0) (by decide +kernel) rfl ?_
    refine b_getR (pc := 10) (b := 81) fl_X12_51 (by decide +kernel) (sh_68 hn) rfl ?_
    refine a_iconst (pc := 13) (n := 3) (by decide +kernel) ?_
    refine a_iload_n (pc := 14) (i := 1) (by decide +kernel) rfl ?_
    refine a_imul (pc := 15) (by decide +kernel) ?_
    refine a_iload (pc := 16) (i := 4) (by decide +kernel) rfl ?_
    refine a_iadd (pc := 18) (by decide +kernel) ?_
    refine b_iaload (pc := 19) (by decide +kernel) (sh_81 hn) (by omega) (by omega) (by omega) ?_
    rw [show σ.1 81 ((3 * e) + 0) = f_head (pe e) 0 from hE.2 e 0 (by omega) (by omega) (by omega) (by omega)]
    have re0 := f_head_in (pe e) 0
    refine a_istore (pc := 20) (i := 5) (lv' := [(0, .ref 68), (1, j_i e), (2, j_i f), (3, j_i od), (4, j_i 0), (5, j_i (f_head (pe e) 0))]) (by decide +kernel) (Nat.le_of_ble_eq_true rfl) rfl ?_
    refine a_aload_n (pc := 22) (i := 0) (by decide +kernel) rfl ?_
    refine b_getR (pc := 23) (b := 81) fl_X12_51 (by decide +kernel) (sh_68 hn) rfl ?_
    refine a_iconst (pc := 26) (n := 3) (by decide +kernel) ?_
    refine a_iload_n (pc := 27) (i := 2) (by decide +kernel) rfl ?_
    refine a_imul (pc := 28) (by decide +kernel) ?_
    refine a_iload (pc := 29) (i := 4) (by decide +kernel) rfl ?_
    refine a_iadd (pc := 31) (by decide +kernel) ?_
    refine b_iaload (pc := 32) (by decide +kernel) (sh_81 hn) (by omega) (by omega) (by omega) ?_
    rw [show σ.1 81 ((3 * f) + 0) = f_head (pe f) 0 from hE.2 f 0 (by omega) (by omega) (by omega) (by omega)]
    have rf0 := f_head_in (pe f) 0
    refine a_istore (pc := 33) (i := 6) (lv' := [(0, .ref 68), (1, j_i e), (2, j_i f), (3, j_i od), (4, j_i 0), (5, j_i (f_head (pe e) 0)), (6, j_i (f_head (pe f) 0))]) (by decide +kernel) (Nat.le_of_ble_eq_true rfl) rfl ?_
    refine a_iload (pc := 35) (i := 5) (by decide +kernel) rfl ?_
    refine a_iload (pc := 37) (i := 6) (by decide +kernel) rfl ?_
    refine a_icmp_ne (pc := 39) (off := 6) (tgt := 45) (by decide +kernel) (by decide) (by omega) (by omega) (fun c39 => ?_) (fun c39 => ?_)
    · refine a_iload (pc := 45) (i := 5) (by decide +kernel) rfl ?_
      refine a_bipush (pc := 47) (n := (-9)) (by decide +kernel) rfl ?_
      refine a_icmp_ne (pc := 49) (off := 7) (tgt := 56) (by decide +kernel) (by decide) (by omega) (by omega) (fun c49 => ?_) (fun c49 => ?_)
      · refine a_iload (pc := 56) (i := 6) (by decide +kernel) rfl ?_
        refine a_bipush (pc := 58) (n := (-9)) (by decide +kernel) rfl ?_
        refine a_icmp_ne (pc := 60) (off := 7) (tgt := 67) (by decide +kernel) (by decide) (by omega) (by omega) (fun c60 => ?_) (fun c60 => ?_)
        · refine a_aload_n (pc := 67) (i := 0) (by decide +kernel) rfl ?_
          refine a_iload (pc := 68) (i := 5) (by decide +kernel) rfl ?_
          refine a_iload (pc := 70) (i := 6) (by decide +kernel) rfl ?_
          refine a_iload_n (pc := 72) (i := 3) (by decide +kernel) rfl ?_
          refine b_callV (pc := 73) (c' := 0) (sl' := 0) [j_i (f_head (pe e) 0), j_i (f_head (pe f) 0), j_i od] [] ml_X12_247 (by decide +kernel) rfl rfl (sh_68 hn) rfl rfl (Nat.le_of_ble_eq_true rfl) (j_fitI rfl rfl) (e_compared hn hK hP (hA0 c49 c60).1 (hA0 c49 c60).2.1 (hA0 c49 c60).2.2.1 (hA0 c49 c60).2.2.2 ho) (fun v n' σ' hq => ?_)
          obtain ⟨rfl, hbf, x, rfl, hxr, hx⟩ := hq
          obtain ⟨σ1, hσ1⟩ : ∃ z, z = σ' := ⟨_, rfl⟩
          rw [← hσ1] at hbf ⊢
          clear hσ1
          show j_at _ _ _ [(0, .ref 68), (1, j_i e), (2, j_i f), (3, j_i od), (4, j_i 0), (5, j_i (f_head (pe e) 0)), (6, j_i (f_head (pe f) 0))] [j_i x] _ _ _ _
          refine a_ireturn (pc := 76) (by decide +kernel) rfl ?_
          refine k_ret ?_
          refine ⟨rfl, hbf, x, rfl, hxr, ?_⟩
          rw [pt_0 (fun w => c39 w.symm), hl_b c60 c49]; exact o_gt hx
        · refine a_iconst (pc := 63) (n := 1) (by decide +kernel) ?_
          refine a_goto (pc := 64) (off := 12) (tgt := 76) (by decide +kernel) (by decide) ?_
          refine a_ireturn (pc := 76) (by decide +kernel) rfl ?_
          refine k_ret ?_
          refine ⟨rfl, b_fr_r, 1, rfl, by omega, ⟨fun _ => ?_, fun _ => by omega⟩⟩
          rw [pt_0 (fun w => c39 w.symm), c60]
          exact hl_l c49
      · refine a_iconst (pc := 52) (n := (-1)) (by decide +kernel) ?_
        refine a_goto (pc := 53) (off := 23) (tgt := 76) (by decide +kernel) (by decide) ?_
        refine a_ireturn (pc := 76) (by decide +kernel) rfl ?_
        refine k_ret ?_
        refine ⟨rfl, b_fr_r, (-1), rfl, by omega, ⟨fun w => absurd w (by omega), fun w => ?_⟩⟩
        rw [pt_0 (fun w => c39 w.symm), c49] at w
        exact absurd w hl_9
    · refine a_goto (pc := 42) (off := 35) (tgt := 77) (by decide +kernel) (by decide) ?_
      have e0 := c39
      refine a_iinc (pc := 77) (i := 4) (n := 1) (x := 0) (lv' := [(0, .ref 68), (1, j_i e), (2, j_i f), (3, j_i od), (4, j_i 1), (5, j_i (f_head (pe e) 0)), (6, j_i (f_head (pe f) 0))]) (by decide +kernel) rfl (Nat.le_of_ble_eq_true rfl) rfl ?_
      refine a_goto (pc := 80) (off := -77) (tgt := 3) (by decide +kernel) (by decide) ?_
      refine a_iload (pc := 3) (i := 4) (by decide +kernel) rfl ?_
      refine a_iconst (pc := 5) (n := 3) (by decide +kernel) ?_
      refine a_icmp_ge (pc := 6) (off := 77) (tgt := 83) (by decide +kernel) (by decide) (by omega) (by omega) (fun c6 => ?_) (fun c6 => ?_)
      · exact absurd c6 (by decide)
      · refine a_aload_n (pc := 9) (i := 0) (by decide +kernel) rfl ?_
        refine b_getR (pc := 10) (b := 81) fl_X12_51 (by decide +kernel) (sh_68 hn) rfl ?_
        refine a_iconst (pc := 13) (n := 3) (by decide +kernel) ?_
        refine a_iload_n (pc := 14) (i := 1) (by decide +kernel) rfl ?_
        refine a_imul (pc := 15) (by decide +kernel) ?_
        refine a_iload (pc := 16) (i := 4) (by decide +kernel) rfl ?_
        refine a_iadd (pc := 18) (by decide +kernel) ?_
        refine b_iaload (pc := 19) (by decide +kernel) (sh_81 hn) (by omega) (by omega) (by omega) ?_
        rw [show σ.1 81 ((3 * e) + 1) = f_head (pe e) 1 from hE.2 e 1 (by omega) (by omega) (by omega) (by omega)]
        have re1 := f_head_in (pe e) 1
        refine a_istore (pc := 20) (i := 5) (lv' := [(0, .ref 68), (1, j_i e), (2, j_i f), (3, j_i od), (4, j_i 1), (5, j_i (f_head (pe e) 1)), (6, j_i (f_head (pe f) 0))]) (by decide +kernel) (Nat.le_of_ble_eq_true rfl) rfl ?_
        refine a_aload_n (pc := 22) (i := 0) (by decide +kernel) rfl ?_
        refine b_getR (pc := 23) (b := 81) fl_X12_51 (by decide +kernel) (sh_68 hn) rfl ?_
        refine a_iconst (pc := 26) (n := 3) (by decide +kernel) ?_
        refine a_iload_n (pc := 27) (i := 2) (by decide +kernel) rfl ?_
        refine a_imul (pc := 28) (by decide +kernel) ?_
        refine a_iload (pc := 29) (i := 4) (by decide +kernel) rfl ?_
        refine a_iadd (pc := 31) (by decide +kernel) ?_
        refine b_iaload (pc := 32) (by decide +kernel) (sh_81 hn) (by omega) (by omega) (by omega) ?_
        rw [show σ.1 81 ((3 * f) + 1) = f_head (pe f) 1 from hE.2 f 1 (by omega) (by omega) (by omega) (by omega)]
        have rf1 := f_head_in (pe f) 1
        refine a_istore (pc := 33) (i := 6) (lv' := [(0, .ref 68), (1, j_i e), (2, j_i f), (3, j_i od), (4, j_i 1), (5, j_i (f_head (pe e) 1)), (6, j_i (f_head (pe f) 1))]) (by decide +kernel) (Nat.le_of_ble_eq_true rfl) rfl ?_
        refine a_iload (pc := 35) (i := 5) (by decide +kernel) rfl ?_
        refine a_iload (pc := 37) (i := 6) (by decide +kernel) rfl ?_
        refine a_icmp_ne (pc := 39) (off := 6) (tgt := 45) (by decide +kernel) (by decide) (by omega) (by omega) (fun c39 => ?_) (fun c39 => ?_)
        · refine a_iload (pc := 45) (i := 5) (by decide +kernel) rfl ?_
          refine a_bipush (pc := 47) (n := (-9)) (by decide +kernel) rfl ?_
          refine a_icmp_ne (pc := 49) (off := 7) (tgt := 56) (by decide +kernel) (by decide) (by omega) (by omega) (fun c49 => ?_) (fun c49 => ?_)
          · refine a_iload (pc := 56) (i := 6) (by decide +kernel) rfl ?_
            refine a_bipush (pc := 58) (n := (-9)) (by decide +kernel) rfl ?_
            refine a_icmp_ne (pc := 60) (off := 7) (tgt := 67) (by decide +kernel) (by decide) (by omega) (by omega) (fun c60 => ?_) (fun c60 => ?_)
            · refine a_aload_n (pc := 67) (i := 0) (by decide +kernel) rfl ?_
              refine a_iload (pc := 68) (i := 5) (by decide +kernel) rfl ?_
              refine a_iload (pc := 70) (i := 6) (by decide +kernel) rfl ?_
              refine a_iload_n (pc := 72) (i := 3) (by decide +kernel) rfl ?_
              refine b_callV (pc := 73) (c' := 0) (sl' := 0) [j_i (f_head (pe e) 1), j_i (f_head (pe f) 1), j_i od] [] ml_X12_247 (by decide +kernel) rfl rfl (sh_68 hn) rfl rfl (Nat.le_of_ble_eq_true rfl) (j_fitI rfl rfl) (e_compared hn hK hP (hA1 c49 c60).1 (hA1 c49 c60).2.1 (hA1 c49 c60).2.2.1 (hA1 c49 c60).2.2.2 ho) (fun v n' σ' hq => ?_)
              obtain ⟨rfl, hbf, x, rfl, hxr, hx⟩ := hq
              obtain ⟨σ2, hσ2⟩ : ∃ z, z = σ' := ⟨_, rfl⟩
              rw [← hσ2] at hbf ⊢
              clear hσ2
              show j_at _ _ _ [(0, .ref 68), (1, j_i e), (2, j_i f), (3, j_i od), (4, j_i 1), (5, j_i (f_head (pe e) 1)), (6, j_i (f_head (pe f) 1))] [j_i x] _ _ _ _
              refine a_ireturn (pc := 76) (by decide +kernel) rfl ?_
              refine k_ret ?_
              refine ⟨rfl, hbf, x, rfl, hxr, ?_⟩
              rw [pt_1 (fun x => o_irr) e0.symm (fun w => c39 w.symm), hl_b c60 c49]; exact o_gt hx
            · refine a_iconst (pc := 63) (n := 1) (by decide +kernel) ?_
              refine a_goto (pc := 64) (off := 12) (tgt := 76) (by decide +kernel) (by decide) ?_
              refine a_ireturn (pc := 76) (by decide +kernel) rfl ?_
              refine k_ret ?_
              refine ⟨rfl, b_fr_r, 1, rfl, by omega, ⟨fun _ => ?_, fun _ => by omega⟩⟩
              rw [pt_1 (fun x => o_irr) e0.symm (fun w => c39 w.symm), c60]
              exact hl_l c49
          · refine a_iconst (pc := 52) (n := (-1)) (by decide +kernel) ?_
            refine a_goto (pc := 53) (off := 23) (tgt := 76) (by decide +kernel) (by decide) ?_
            refine a_ireturn (pc := 76) (by decide +kernel) rfl ?_
            refine k_ret ?_
            refine ⟨rfl, b_fr_r, (-1), rfl, by omega, ⟨fun w => absurd w (by omega), fun w => ?_⟩⟩
            rw [pt_1 (fun x => o_irr) e0.symm (fun w => c39 w.symm), c49] at w
            exact absurd w hl_9
        · refine a_goto (pc := 42) (off := 35) (tgt := 77) (by decide +kernel) (by decide) ?_
          have e1 := c39
          refine a_iinc (pc := 77) (i := 4) (n := 1) (x := 1) (lv' := [(0, .ref 68), (1, j_i e), (2, j_i f), (3, j_i od), (4, j_i 2), (5, j_i (f_head (pe e) 1)), (6, j_i (f_head (pe f) 1))]) (by decide +kernel) rfl (Nat.le_of_ble_eq_true rfl) rfl ?_
          refine a_goto (pc := 80) (off := -77) (tgt := 3) (by decide +kernel) (by decide) ?_
          refine a_iload (pc := 3) (i := 4) (by decide +kernel) rfl ?_
          refine a_iconst (pc := 5) (n := 3) (by decide +kernel) ?_
          refine a_icmp_ge (pc := 6) (off := 77) (tgt := 83) (by decide +kernel) (by decide) (by omega) (by omega) (fun c6 => ?_) (fun c6 => ?_)
          · exact absurd c6 (by decide)
          · refine a_aload_n (pc := 9) (i := 0) (by decide +kernel) rfl ?_
            refine b_getR (pc := 10) (b := 81) fl_X12_51 (by decide +kernel) (sh_68 hn) rfl ?_
            refine a_iconst (pc := 13) (n := 3) (by decide +kernel) ?_
            refine a_iload_n (pc := 14) (i := 1) (by decide +kernel) rfl ?_
            refine a_imul (pc := 15) (by decide +kernel) ?_
            refine a_iload (pc := 16) (i := 4) (by decide +kernel) rfl ?_
            refine a_iadd (pc := 18) (by decide +kernel) ?_
            refine b_iaload (pc := 19) (by decide +kernel) (sh_81 hn) (by omega) (by omega) (by omega) ?_
            rw [show σ.1 81 ((3 * e) + 2) = f_head (pe e) 2 from hE.2 e 2 (by omega) (by omega) (by omega) (by omega)]
            have re2 := f_head_in (pe e) 2
            refine a_istore (pc := 20) (i := 5) (lv' := [(0, .ref 68), (1, j_i e), (2, j_i f), (3, j_i od), (4, j_i 2), (5, j_i (f_head (pe e) 2)), (6, j_i (f_head (pe f) 1))]) (by decide +kernel) (Nat.le_of_ble_eq_true rfl) rfl ?_
            refine a_aload_n (pc := 22) (i := 0) (by decide +kernel) rfl ?_
            refine b_getR (pc := 23) (b := 81) fl_X12_51 (by decide +kernel) (sh_68 hn) rfl ?_
            refine a_iconst (pc := 26) (n := 3) (by decide +kernel) ?_
            refine a_iload_n (pc := 27) (i := 2) (by decide +kernel) rfl ?_
            refine a_imul (pc := 28) (by decide +kernel) ?_
            refine a_iload (pc := 29) (i := 4) (by decide +kernel) rfl ?_
            refine a_iadd (pc := 31) (by decide +kernel) ?_
            refine b_iaload (pc := 32) (by decide +kernel) (sh_81 hn) (by omega) (by omega) (by omega) ?_
            rw [show σ.1 81 ((3 * f) + 2) = f_head (pe f) 2 from hE.2 f 2 (by omega) (by omega) (by omega) (by omega)]
            have rf2 := f_head_in (pe f) 2
            refine a_istore (pc := 33) (i := 6) (lv' := [(0, .ref 68), (1, j_i e), (2, j_i f), (3, j_i od), (4, j_i 2), (5, j_i (f_head (pe e) 2)), (6, j_i (f_head (pe f) 2))]) (by decide +kernel) (Nat.le_of_ble_eq_true rfl) rfl ?_
            refine a_iload (pc := 35) (i := 5) (by decide +kernel) rfl ?_
            refine a_iload (pc := 37) (i := 6) (by decide +kernel) rfl ?_
            refine a_icmp_ne (pc := 39) (off := 6) (tgt := 45) (by decide +kernel) (by decide) (by omega) (by omega) (fun c39 => ?_) (fun c39 => ?_)
            · refine a_iload (pc := 45) (i := 5) (by decide +kernel) rfl ?_
              refine a_bipush (pc := 47) (n := (-9)) (by decide +kernel) rfl ?_
              refine a_icmp_ne (pc := 49) (off := 7) (tgt := 56) (by decide +kernel) (by decide) (by omega) (by omega) (fun c49 => ?_) (fun c49 => ?_)
              · refine a_iload (pc := 56) (i := 6) (by decide +kernel) rfl ?_
                refine a_bipush (pc := 58) (n := (-9)) (by decide +kernel) rfl ?_
                refine a_icmp_ne (pc := 60) (off := 7) (tgt := 67) (by decide +kernel) (by decide) (by omega) (by omega) (fun c60 => ?_) (fun c60 => ?_)
                · refine a_aload_n (pc := 67) (i := 0) (by decide +kernel) rfl ?_
                  refine a_iload (pc := 68) (i := 5) (by decide +kernel) rfl ?_
                  refine a_iload (pc := 70) (i := 6) (by decide +kernel) rfl ?_
                  refine a_iload_n (pc := 72) (i := 3) (by decide +kernel) rfl ?_
                  refine b_callV (pc := 73) (c' := 0) (sl' := 0) [j_i (f_head (pe e) 2), j_i (f_head (pe f) 2), j_i od] [] ml_X12_247 (by decide +kernel) rfl rfl (sh_68 hn) rfl rfl (Nat.le_of_ble_eq_true rfl) (j_fitI rfl rfl) (e_compared hn hK hP (hA2 c49 c60).1 (hA2 c49 c60).2.1 (hA2 c49 c60).2.2.1 (hA2 c49 c60).2.2.2 ho) (fun v n' σ' hq => ?_)
                  obtain ⟨rfl, hbf, x, rfl, hxr, hx⟩ := hq
                  obtain ⟨σ3, hσ3⟩ : ∃ z, z = σ' := ⟨_, rfl⟩
                  rw [← hσ3] at hbf ⊢
                  clear hσ3
                  show j_at _ _ _ [(0, .ref 68), (1, j_i e), (2, j_i f), (3, j_i od), (4, j_i 2), (5, j_i (f_head (pe e) 2)), (6, j_i (f_head (pe f) 2))] [j_i x] _ _ _ _
                  refine a_ireturn (pc := 76) (by decide +kernel) rfl ?_
                  refine k_ret ?_
                  refine ⟨rfl, hbf, x, rfl, hxr, ?_⟩
                  rw [pt_2 (fun x => o_irr) e0.symm e1.symm, hl_b c60 c49]; exact o_gt hx
                · refine a_iconst (pc := 63) (n := 1) (by decide +kernel) ?_
                  refine a_goto (pc := 64) (off := 12) (tgt := 76) (by decide +kernel) (by decide) ?_
                  refine a_ireturn (pc := 76) (by decide +kernel) rfl ?_
                  refine k_ret ?_
                  refine ⟨rfl, b_fr_r, 1, rfl, by omega, ⟨fun _ => ?_, fun _ => by omega⟩⟩
                  rw [pt_2 (fun x => o_irr) e0.symm e1.symm, c60]
                  exact hl_l c49
              · refine a_iconst (pc := 52) (n := (-1)) (by decide +kernel) ?_
                refine a_goto (pc := 53) (off := 23) (tgt := 76) (by decide +kernel) (by decide) ?_
                refine a_ireturn (pc := 76) (by decide +kernel) rfl ?_
                refine k_ret ?_
                refine ⟨rfl, b_fr_r, (-1), rfl, by omega, ⟨fun w => absurd w (by omega), fun w => ?_⟩⟩
                rw [pt_2 (fun x => o_irr) e0.symm e1.symm, c49] at w
                exact absurd w hl_9
            · refine a_goto (pc := 42) (off := 35) (tgt := 77) (by decide +kernel) (by decide) ?_
              have e2 := c39
              refine a_iinc (pc := 77) (i := 4) (n := 1) (x := 2) (lv' := [(0, .ref 68), (1, j_i e), (2, j_i f), (3, j_i od), (4, j_i 3), (5, j_i (f_head (pe e) 2)), (6, j_i (f_head (pe f) 2))]) (by decide +kernel) rfl (Nat.le_of_ble_eq_true rfl) rfl ?_
              refine a_goto (pc := 80) (off := -77) (tgt := 3) (by decide +kernel) (by decide) ?_
              refine a_iload (pc := 3) (i := 4) (by decide +kernel) rfl ?_
              refine a_iconst (pc := 5) (n := 3) (by decide +kernel) ?_
              refine a_icmp_ge (pc := 6) (off := 77) (tgt := 83) (by decide +kernel) (by decide) (by omega) (by omega) (fun c6 => ?_) (fun c6 => ?_)
              · refine a_iconst (pc := 83) (n := 0) (by decide +kernel) ?_
                refine a_ireturn (pc := 84) (by decide +kernel) rfl ?_
                refine k_ret ?_
                refine ⟨rfl, b_fr_r, 0, rfl, by omega, ⟨fun w => absurd w (by omega), fun w => ?_⟩⟩
                rw [pt_2 (fun x => o_irr) e0.symm e1.symm, e2] at w
                exact absurd w (hl_irr (fun x => o_irr))
              · exact absurd c6 (by decide)
def swA (F : Int → Int) (a i : Int) : Int → Int := fun j => if j % 3 < i then (if j / 3 = a then F (j - 3) else if j / 3 = a - 1 then F (j + 3) else F j) else F j
theorem swA_s {F G : Int → Int} {a i : Int} (i0 : 0 ≤ i) (i1 : i < 3) (hG : G = swA F a i) : j_up (j_up G (3 * a + i) (G (3 * a - 3 + i))) (3 * a - 3 + i) (G (3 * a + i)) = swA F a (i + 1) := by
  have e1 : G (3 * a - 3 + i) = F (3 * a - 3 + i) := by rw [hG]; unfold swA; rw [if_neg (by omega)]
  have e2 : G (3 * a + i) = F (3 * a + i) := by rw [hG]; unfold swA; rw [if_neg (by omega)]
  rw [e1, e2]
  funext j
  by_cases c : j = 3 * a - 3 + i
  · rw [c, j_upS]; unfold swA; rw [if_pos (by omega), if_neg (by omega), if_pos (by omega), show 3 * a - 3 + i + 3 = 3 * a + i by omega]
  · rw [j_upN c]
    by_cases d : j = 3 * a + i
    · rw [d, j_upS]; unfold swA; rw [if_pos (by omega), if_pos (by omega), show 3 * a + i - 3 = 3 * a - 3 + i by omega]
    · rw [j_upN d, hG]
      unfold swA
      by_cases q : j % 3 < i
      · rw [if_pos q, if_pos (show j % 3 < i + 1 by omega)]
      · rw [if_neg q]
        by_cases r : j % 3 < i + 1
        · rw [if_pos r, if_neg (by omega), if_neg (by omega)]
        · rw [if_neg r]
theorem swA_0 {F : Int → Int} {a : Int} : F = swA F a 0 := by funext j; unfold swA; rw [if_neg (by omega)]
def sp_fr (σ τ : k_St) : Prop := (∀ c, c ≠ 81 → τ.1 c = σ.1 c) ∧ (∀ c j, ¬ (c = 68 ∧ 22 ≤ j ∧ j ≤ 24) → τ.2.1 c j = σ.2.1 c j) ∧ τ.2.2 = σ.2.2
theorem sp_b {σ τ ρ : k_St} (h : sp_fr σ τ) (g : b_fr τ ρ) : sp_fr σ ρ := ⟨fun c hc => by rw [g.1]; exact h.1 c hc, fun c j q => (g.2.1 c j q).trans (h.2.1 c j q), g.2.2.trans h.2.2⟩
theorem sp_A {σ τ ρ : k_St} {f : Int → Int} (h : sp_fr σ τ) (e : ρ = k_sA τ 81 f) : sp_fr σ ρ := by subst e; exact ⟨fun c hc => by rw [k_AN hc]; exact h.1 c hc, h.2.1, h.2.2⟩
theorem sp_K {σ τ : k_St} (h : sp_fr σ τ) (hK : RKept σ) : RKept τ := RKept_cg (fun c _ _ => h.1 c (by omega)) (fun c j _ _ => h.2.1 c j (by omega)) (h.1 69 (by omega)) hK
theorem sp_P {σ τ : k_St} (h : sp_fr σ τ) (hP : RPass σ) : RPass τ := RPass_cg (h.1 _ (by omega)) (h.1 _ (by omega)) (h.1 _ (by omega)) (h.1 _ (by omega)) (h.2.1 _ _ (by omega)) (h.2.1 _ _ (by omega)) hP
theorem sp_o {σ τ : k_St} (h : sp_fr σ τ) {a b od r : Int} : o_rel τ a b od r ↔ o_rel σ a b od r := o_rel_congr (fun c hc => h.1 c (by omega)) (h.2.1 33 1 (by omega))
theorem sp_h {σ τ : k_St} (h : sp_fr σ τ) (x : Int) : h_is τ x ↔ h_is σ x := by unfold h_is; rw [h.1 15 (by omega), h.2.1 8 3 (by omega)]
theorem pE_b {σ τ : k_St} {pe : Int → Int} (h : pE σ pe) (g : b_fr σ τ) : pE τ pe := by unfold pE; rw [g.1, g.2.1 68 25 (by omega)]; exact h
/-- the paths while they are sorted -/
def SP (σ τ : k_St) (pe : Int → Int) (A : Int → Prop) : Prop := sp_fr σ τ ∧ pE τ pe ∧ (∀ e, 0 ≤ e → e < σ.2.1 68 25 → okp (h_is σ) (pe e)) ∧ ij pe (σ.2.1 68 25) ∧ ∀ x, im pe (σ.2.1 68 25) x ↔ A x
theorem ij_sw {f : Int → Int} {n i : Int} (h : ij f n) (i0 : 0 < i) (i1 : i < n) : ij (sw f i) n := fun p q p0 p1 q0 q1 w => by
  by_cases a : p = i
  · by_cases b : q = i
    · omega
    · by_cases c : q = i - 1
      · rw [a, c, sw_i, sw_p] at w; have := h _ _ (by omega) (by omega) (by omega) (by omega) w; omega
      · rw [a, sw_i, sw_n b c] at w; have := h _ _ (by omega) (by omega) q0 q1 w; omega
  · by_cases a2 : p = i - 1
    · by_cases b : q = i
      · rw [a2, b, sw_i, sw_p] at w; have := h _ _ (by omega) (by omega) (by omega) (by omega) w; omega
      · by_cases c : q = i - 1
        · omega
        · rw [a2, sw_p, sw_n b c] at w; have := h _ _ (by omega) (by omega) q0 q1 w; omega
    · by_cases b : q = i
      · rw [b, sw_i, sw_n a a2] at w; have := h _ _ p0 p1 (by omega) (by omega) w; omega
      · by_cases c : q = i - 1
        · rw [c, sw_p, sw_n a a2] at w; have := h _ _ p0 p1 (by omega) (by omega) w; omega
        · rw [sw_n a a2, sw_n b c] at w; exact h p q p0 p1 q0 q1 w
theorem SP_sw {σ τ ρ : k_St} {pe : Int → Int} {A : Int → Prop} {i : Int} (h : SP σ τ pe A) (hf : sp_fr τ ρ) (he : ρ.1 81 = swA (τ.1 81) i 3) (i0 : 0 < i) (i1 : i < σ.2.1 68 25) : SP σ ρ (sw pe i) A := by
  obtain ⟨h1, ⟨h2, h3⟩, h4, h5, h6⟩ := h
  have en : ρ.2.1 68 25 = σ.2.1 68 25 := (hf.2.1 _ _ (by omega)).trans (h1.2.1 _ _ (by omega))
  have et : τ.2.1 68 25 = σ.2.1 68 25 := h1.2.1 _ _ (by omega)
  rw [et] at h2 h3
  refine ⟨⟨fun c hc => (hf.1 c hc).trans (h1.1 c hc), fun c j q => (hf.2.1 c j q).trans (h1.2.1 c j q), hf.2.2.trans h1.2.2⟩, ⟨by rw [en]; exact h2, fun e k e0 e1 k0 k1 => ?_⟩, fun e e0 e1 => ?_, ij_sw h5 i0 i1, fun x => by rw [sw_im i0 i1]; exact h6 x⟩
  · rw [en] at e1; rw [he]; unfold swA
    rw [if_pos (by omega)]
    by_cases c : e = i
    · rw [c, if_pos (by omega), sw_i, show 3 * i + k - 3 = 3 * (i - 1) + k by omega]; exact h3 _ k (by omega) (by omega) k0 k1
    · rw [if_neg (by omega)]
      by_cases d : e = i - 1
      · rw [d, if_pos (by omega), sw_p, show 3 * (i - 1) + k + 3 = 3 * i + k by omega]; exact h3 _ k (by omega) (by omega) k0 k1
      · rw [if_neg (by omega), sw_n c d]; exact h3 e k e0 e1 k0 k1
  · by_cases c : e = i
    · rw [c, sw_i]; exact h4 _ (by omega) (by omega)
    · by_cases d : e = i - 1
      · rw [d, sw_p]; exact h4 _ (by omega) (by omega)
      · rw [sw_n c d]; exact h4 e e0 e1
