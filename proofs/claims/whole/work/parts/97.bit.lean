def b_fr (σ τ : k_St) : Prop := τ.1 = σ.1 ∧ (∀ c j, ¬ (c = 68 ∧ 22 ≤ j ∧ j ≤ 24) → τ.2.1 c j = σ.2.1 c j) ∧ τ.2.2 = σ.2.2
theorem b_fr_r {σ : k_St} : b_fr σ σ := ⟨rfl, fun _ _ _ => rfl, rfl⟩
theorem b_fr_t {σ τ ρ : k_St} (h : b_fr σ τ) (g : b_fr τ ρ) : b_fr σ ρ := ⟨g.1.trans h.1, fun c j q => (g.2.1 c j q).trans (h.2.1 c j q), g.2.2.trans h.2.2⟩
theorem b_fr_i {σ τ ρ : k_St} {j : Nat} {x : Int} (hj : 22 ≤ j ∧ j ≤ 24) (h : b_fr σ τ) (e : ρ = k_sI τ 68 j x) : b_fr σ ρ := by
  subst e; exact ⟨h.1, fun c i q => by rw [k_IN (by omega)]; exact h.2.1 c i q, h.2.2⟩
theorem b_fr_scr {σ τ : k_St} (h : b_fr σ τ) : scr σ τ := ⟨fun c _ => by rw [h.1], fun c j q => h.2.1 c j (by omega), h.2.2⟩
def bt_post (n : Nat) (σ : k_St) (s : Int → Int) (i : Int) : k_P := fun v n' τ => v = none ∧ n' = n ∧ b_fr σ τ ∧ τ.2.1 68 22 = f_bk s i ∧ ((f_bk s i = 0 ∧ τ.2.1 68 23 = 0) ∨ (f_bk s i ≠ 0 ∧ τ.2.1 68 23 = f_bv s i ∧ τ.2.1 68 24 = f_be s i))
theorem bk_0 {s : Int → Int} {i : Int} (h : s i = -9) : f_bk s i = 0 := by unfold f_bk; rw [if_neg (by omega), if_pos h]
theorem bk_n {s : Int → Int} {i : Int} (h : ¬ (48 ≤ s i ∧ s i ≤ 57)) : f_bv s i = f_fold (s i) ∧ f_be s i = i + 1 := by unfold f_bv f_be; rw [if_neg h, if_neg h]; exact ⟨rfl, rfl⟩
theorem bk_1 {s : Int → Int} {i : Int} (h : s i = 32) : f_bk s i = 1 := by unfold f_bk; rw [if_neg (by omega), if_neg (by omega), if_pos h]
theorem bk_4 {s : Int → Int} {i : Int} (h : (65 ≤ s i ∧ s i ≤ 90) ∨ (97 ≤ s i ∧ s i ≤ 122)) : f_bk s i = 4 := by unfold f_bk; rw [if_neg (by omega), if_neg (by omega), if_neg (by omega), if_pos h]
theorem bk_2 {s : Int → Int} {i : Int} (h0 : s i ≠ -9) (h1 : s i ≠ 32) (h2 : ¬ (48 ≤ s i ∧ s i ≤ 57)) (h : ¬ ((65 ≤ s i ∧ s i ≤ 90) ∨ (97 ≤ s i ∧ s i ≤ 122))) : f_bk s i = 2 := by unfold f_bk; rw [if_neg h2, if_neg h0, if_neg h1, if_neg h]
theorem bk_3 {s : Int → Int} {i : Int} (h : 48 ≤ s i ∧ s i ≤ 57) : f_bk s i = 3 ∧ f_bv s i = (f_num s 17 i 0).1 ∧ f_be s i = (f_num s 17 i 0).2 := by unfold f_bk f_bv f_be; rw [if_pos h, if_pos h, if_pos h]; exact ⟨rfl, rfl, rfl⟩
set_option maxHeartbeats 4000000 in
theorem l_bit158 {G : j_G} {X : k_X} {n : Nat} {σ : k_St} (hn : 101 ≤ n) (hK : RKept σ) (hP : RPass σ) {h : Int} (h0 : 0 ≤ h) (h1 : h < σ.1 69 301) {fr od a c : Int}  : ∀ (z : Nat) (i v : Int) (τ : k_St), 16 - i < (z : Int) → 0 ≤ i → i ≤ 16 → b_fr σ τ → τ.2.1 68 22 = 3 → τ.2.1 68 23 = v → τ.2.1 68 24 = i → j_at G mX12_bit 158 [(0, .ref 68), (1, j_i h), (2, j_i fr), (3, j_i od), (4, j_i a), (5, j_i c)] [] (k_h X n τ) 0 0 (k_Q X (fun v' n' ρ => v' = none ∧ n' = n ∧ b_fr σ ρ ∧ ρ.2.1 68 22 = 3 ∧ ρ.2.1 68 23 = (f_num (e_key (σ.1 69) h) z i v).1 ∧ ρ.2.1 68 24 = (f_num (e_key (σ.1 69) h) z i v).2)) := by
  have hg := hK.2.2.2
  have hg3 := (KR_rg hK.1 hK.2.1).1.2.1
  have hl := e_sl_in hK h0 h1
  have hm := hP.1
  intro z
  induction z with
  | zero => intro i v τ hz i0 i1; exact absurd hz (by omega)
  | succ z ih =>
    intro i v τ hz i0 i1 hfr h22 h23 h24
    refine a_aload_n (pc := 158) (i := 0) (by decide +kernel) rfl ?_
    refine b_getI (pc := 159) fl_X12_234 (by decide +kernel) (sh_68 hn) rfl ?_
    rw [show τ.2.1 68 24 = i from h24]
    refine a_aload_n (pc := 162) (i := 0) (by decide +kernel) rfl ?_
    refine a_iload_n (pc := 163) (i := 1) (by decide +kernel) rfl ?_
    refine b_pureV (pc := 164) [j_i h] [j_i i] ml_X12_221 (by decide +kernel) rfl rfl (sh_68 hn) rfl rfl (Nat.le_of_ble_eq_true rfl) (j_fitI rfl rfl) (s_dsortedLong hn (by rw [show τ.1 = σ.1 from hfr.1]; exact hg) (by omega)) ?_
    rw [show τ.1 = σ.1 from hfr.1]
    show j_at _ _ _ [(0, .ref 68), (1, j_i h), (2, j_i fr), (3, j_i od), (4, j_i a), (5, j_i c)] [j_i (e_sl (σ.1 69) h), j_i i] _ _ _ _
    refine a_icmp_ge (pc := 167) (off := 71) (tgt := 238) (by decide +kernel) (by decide) (by omega) (by omega) (fun c167 => ?_) (fun c167 => ?_)
    · refine a_return (pc := 238) (by decide +kernel) rfl ?_
      refine k_ret ?_
      have en : f_num (e_key (σ.1 69) h) (z + 1) i v = (v, i) := by
        show (if _ then _ else _) = _
        by_cases e : i < e_sl (σ.1 69) h
        · rw [e_key_at i0 e, if_neg (by omega)]
        · rw [e_key_o (by omega), if_neg (by omega)]
      rw [en]; exact ⟨rfl, rfl, hfr, h22, h23, h24⟩
    · refine a_aload_n (pc := 170) (i := 0) (by decide +kernel) rfl ?_
      refine a_iload_n (pc := 171) (i := 1) (by decide +kernel) rfl ?_
      refine a_aload_n (pc := 172) (i := 0) (by decide +kernel) rfl ?_
      refine b_getI (pc := 173) fl_X12_234 (by decide +kernel) (sh_68 hn) rfl ?_
      rw [show τ.2.1 68 24 = i from h24]
      refine b_pureV (pc := 176) [j_i h, j_i i] [] ml_X12_224 (by decide +kernel) rfl rfl (sh_68 hn) rfl rfl (Nat.le_of_ble_eq_true rfl) (j_fitI rfl rfl) (s_dsortedSign hn (by rw [show τ.1 = σ.1 from hfr.1]; exact hg) (by omega) (by omega)) ?_
      rw [show τ.1 = σ.1 from hfr.1]
      have q1 := e_st_in hK h0 h1 (i := i) (by omega) (by omega)
      show j_at _ _ _ [(0, .ref 68), (1, j_i h), (2, j_i fr), (3, j_i od), (4, j_i a), (5, j_i c)] [j_i (e_st (σ.1 69) h i)] _ _ _ _
      refine a_bipush (pc := 179) (n := 48) (by decide +kernel) rfl ?_
      refine a_icmp_lt (pc := 181) (off := 57) (tgt := 238) (by decide +kernel) (by decide) (by omega) (by omega) (fun c181 => ?_) (fun c181 => ?_)
      · refine a_return (pc := 238) (by decide +kernel) rfl ?_
        refine k_ret ?_
        have en : f_num (e_key (σ.1 69) h) (z + 1) i v = (v, i) := by
          show (if _ then _ else _) = _
          by_cases e : i < e_sl (σ.1 69) h
          · rw [e_key_at i0 e, if_neg (by omega)]
          · rw [e_key_o (by omega), if_neg (by omega)]
        rw [en]; exact ⟨rfl, rfl, hfr, h22, h23, h24⟩
      · refine a_aload_n (pc := 184) (i := 0) (by decide +kernel) rfl ?_
        refine a_iload_n (pc := 185) (i := 1) (by decide +kernel) rfl ?_
        refine a_aload_n (pc := 186) (i := 0) (by decide +kernel) rfl ?_
        refine b_getI (pc := 187) fl_X12_234 (by decide +kernel) (sh_68 hn) rfl ?_
        rw [show τ.2.1 68 24 = i from h24]
        refine b_pureV (pc := 190) [j_i h, j_i i] [] ml_X12_224 (by decide +kernel) rfl rfl (sh_68 hn) rfl rfl (Nat.le_of_ble_eq_true rfl) (j_fitI rfl rfl) (s_dsortedSign hn (by rw [show τ.1 = σ.1 from hfr.1]; exact hg) (by omega) (by omega)) ?_
        rw [show τ.1 = σ.1 from hfr.1]
        have q2 := e_st_in hK h0 h1 (i := i) (by omega) (by omega)
        show j_at _ _ _ [(0, .ref 68), (1, j_i h), (2, j_i fr), (3, j_i od), (4, j_i a), (5, j_i c)] [j_i (e_st (σ.1 69) h i)] _ _ _ _
        refine a_bipush (pc := 193) (n := 57) (by decide +kernel) rfl ?_
        refine a_icmp_gt (pc := 195) (off := 43) (tgt := 238) (by decide +kernel) (by decide) (by omega) (by omega) (fun c195 => ?_) (fun c195 => ?_)
        · refine a_return (pc := 238) (by decide +kernel) rfl ?_
          refine k_ret ?_
          have en : f_num (e_key (σ.1 69) h) (z + 1) i v = (v, i) := by
            show (if _ then _ else _) = _
            by_cases e : i < e_sl (σ.1 69) h
            · rw [e_key_at i0 e, if_neg (by omega)]
            · rw [e_key_o (by omega), if_neg (by omega)]
          rw [en]; exact ⟨rfl, rfl, hfr, h22, h23, h24⟩
        · refine a_aload_n (pc := 198) (i := 0) (by decide +kernel) rfl ?_
          refine a_ldc2_w (pc := 199) (n := 10) (by decide +kernel) kc_X12_237 ?_
          refine a_aload_n (pc := 202) (i := 0) (by decide +kernel) rfl ?_
          refine b_getL (pc := 203) fl_X12_230 (by decide +kernel) (sh_68 hn) rfl ?_
          rw [show τ.2.1 68 23 = v from h23]
          refine a_lmul (pc := 206) (by decide +kernel) ?_
          refine a_aload_n (pc := 207) (i := 0) (by decide +kernel) rfl ?_
          refine a_iload_n (pc := 208) (i := 1) (by decide +kernel) rfl ?_
          refine a_aload_n (pc := 209) (i := 0) (by decide +kernel) rfl ?_
          refine b_getI (pc := 210) fl_X12_234 (by decide +kernel) (sh_68 hn) rfl ?_
          rw [show τ.2.1 68 24 = i from h24]
          refine b_pureV (pc := 213) [j_i h, j_i i] [j_l (10 * v), .ref 68] ml_X12_224 (by decide +kernel) rfl rfl (sh_68 hn) rfl rfl (Nat.le_of_ble_eq_true rfl) (j_fitI rfl rfl) (s_dsortedSign hn (by rw [show τ.1 = σ.1 from hfr.1]; exact hg) (by omega) (by omega)) ?_
          rw [show τ.1 = σ.1 from hfr.1]
          have q3 := e_st_in hK h0 h1 (i := i) (by omega) (by omega)
          show j_at _ _ _ [(0, .ref 68), (1, j_i h), (2, j_i fr), (3, j_i od), (4, j_i a), (5, j_i c)] [j_i (e_st (σ.1 69) h i), j_l (10 * v), .ref 68] _ _ _ _
          refine a_i2l (pc := 216) (v := Int64.ofInt (e_st (σ.1 69) h i)) (by decide +kernel) (j_i2l (by omega)) ?_
          refine a_ladd (pc := 217) (by decide +kernel) ?_
          refine a_ldc2_w (pc := 218) (n := 48) (by decide +kernel) kc_X12_239 ?_
          refine a_lsub (pc := 221) (by decide +kernel) ?_
          refine b_putL (pc := 222) fl_X12_230 (by decide +kernel) (sh_68 hn) rfl rfl rfl ?_
          obtain ⟨σ4, hσ4⟩ : ∃ z, z = k_sI τ 68 23 (((10 * v) + (e_st (σ.1 69) h i)) - 48) := ⟨_, rfl⟩
          rw [← hσ4]
          refine a_aload_n (pc := 225) (i := 0) (by decide +kernel) rfl ?_
          refine a_dup (pc := 226) (by decide +kernel) rfl ?_
          refine b_getI (pc := 227) fl_X12_234 (by decide +kernel) (sh_68 hn) rfl ?_
          rw [show σ4.2.1 68 24 = τ.2.1 68 24 by rw [hσ4]; exact k_IN (by omega)]
          rw [show τ.2.1 68 24 = i from h24]
          refine a_iconst (pc := 230) (n := 1) (by decide +kernel) ?_
          refine a_iadd (pc := 231) (by decide +kernel) ?_
          refine b_putI (pc := 232) fl_X12_234 (by decide +kernel) (sh_68 hn) rfl rfl rfl ?_
          obtain ⟨σ5, hσ5⟩ : ∃ z, z = k_sI σ4 68 24 (i + 1) := ⟨_, rfl⟩
          rw [← hσ5]
          refine a_goto (pc := 235) (off := -77) (tgt := 158) (by decide +kernel) (by decide) ?_
          have es := e_key_at (g := σ.1 69) (h := h) (i := i) i0 (by omega)
          have en : f_num (e_key (σ.1 69) h) (z + 1) i v = f_num (e_key (σ.1 69) h) z (i + 1) (v * 10 + e_st (σ.1 69) h i - 48) := by show (if _ then _ else _) = _; rw [es, if_pos (by omega)]
          rw [en]
          exact ih (i + 1) _ σ5 (by omega) (by omega) (by omega) (b_fr_i (by omega) (b_fr_i (by omega) hfr hσ4) hσ5) (by rw [hσ5, k_IN (by omega), hσ4, k_IN (by omega)]; exact h22) (by rw [hσ5, k_IN (by omega), hσ4, k_II]; omega) (by rw [hσ5, k_II])
set_option maxHeartbeats 4000000 in
theorem l_bit35 {G : j_G} {X : k_X} {n : Nat} {σ : k_St} (hn : 101 ≤ n) (hK : RKept σ) (hP : RPass σ) {h : Int} (h0 : 0 ≤ h) (h1 : h < σ.1 69 301) {fr od a : Int} (a0 : 0 ≤ a) (a1 : a ≤ 16)  : j_at G mX12_bit 35 [(0, .ref 68), (1, j_i h), (2, j_i fr), (3, j_i od), (4, j_i a)] [] (k_h X n σ) 0 0 (k_Q X (bt_post n σ (e_key (σ.1 69) h) a)) := by
  have hg := hK.2.2.2
  have hg3 := (KR_rg hK.1 hK.2.1).1.2.1
  have hl := e_sl_in hK h0 h1
  have hm := hP.1
  refine a_iload (pc := 35) (i := 4) (by decide +kernel) rfl ?_
  refine a_aload_n (pc := 37) (i := 0) (by decide +kernel) rfl ?_
  refine a_iload_n (pc := 38) (i := 1) (by decide +kernel) rfl ?_
  refine b_pureV (pc := 39) [j_i h] [j_i a] ml_X12_221 (by decide +kernel) rfl rfl (sh_68 hn) rfl rfl (Nat.le_of_ble_eq_true rfl) (j_fitI rfl rfl) (s_dsortedLong hn (by rw [show σ.1 = σ.1 from rfl]; exact hg) (by omega)) ?_
  show j_at _ _ _ [(0, .ref 68), (1, j_i h), (2, j_i fr), (3, j_i od), (4, j_i a)] [j_i (e_sl (σ.1 69) h), j_i a] _ _ _ _
  refine a_icmp_lt (pc := 42) (off := 20) (tgt := 62) (by decide +kernel) (by decide) (by omega) (by omega) (fun c42 => ?_) (fun c42 => ?_)
  · have es := e_key_at (g := σ.1 69) (h := h) (i := a) a0 (by omega)
    refine a_aload_n (pc := 62) (i := 0) (by decide +kernel) rfl ?_
    refine a_iload_n (pc := 63) (i := 1) (by decide +kernel) rfl ?_
    refine a_iload (pc := 64) (i := 4) (by decide +kernel) rfl ?_
    refine b_pureV (pc := 66) [j_i h, j_i a] [] ml_X12_224 (by decide +kernel) rfl rfl (sh_68 hn) rfl rfl (Nat.le_of_ble_eq_true rfl) (j_fitI rfl rfl) (s_dsortedSign hn (by rw [show σ.1 = σ.1 from rfl]; exact hg) (by omega) (by omega)) ?_
    have q1 := e_st_in hK h0 h1 (i := a) (by omega) (by omega)
    show j_at _ _ _ [(0, .ref 68), (1, j_i h), (2, j_i fr), (3, j_i od), (4, j_i a)] [j_i (e_st (σ.1 69) h a)] _ _ _ _
    refine a_istore (pc := 69) (i := 5) (lv' := [(0, .ref 68), (1, j_i h), (2, j_i fr), (3, j_i od), (4, j_i a), (5, j_i (e_st (σ.1 69) h a))]) (by decide +kernel) (Nat.le_of_ble_eq_true rfl) rfl ?_
    refine a_aload_n (pc := 71) (i := 0) (by decide +kernel) rfl ?_
    refine a_iload (pc := 72) (i := 4) (by decide +kernel) rfl ?_
    refine a_iconst (pc := 74) (n := 1) (by decide +kernel) ?_
    refine a_iadd (pc := 75) (by decide +kernel) ?_
    refine b_putI (pc := 76) fl_X12_234 (by decide +kernel) (sh_68 hn) rfl rfl rfl ?_
    obtain ⟨σ2, hσ2⟩ : ∃ z, z = k_sI σ 68 24 (a + 1) := ⟨_, rfl⟩
    rw [← hσ2]
    refine a_aload_n (pc := 79) (i := 0) (by decide +kernel) rfl ?_
    refine a_iload (pc := 80) (i := 5) (by decide +kernel) rfl ?_
    refine b_pureS (pc := 82) [j_i (e_st (σ.1 69) h a)] [.ref 68] ml_X12_218 (by decide +kernel) rfl rfl (Nat.le_of_ble_eq_true rfl) (j_fitI rfl rfl) (s_dsmall (by omega)) ?_
    have qf3 := f_fold_in (s := e_st (σ.1 69) h a) (by omega)
    show j_at _ _ _ [(0, .ref 68), (1, j_i h), (2, j_i fr), (3, j_i od), (4, j_i a), (5, j_i (e_st (σ.1 69) h a))] [j_i (f_fold (e_st (σ.1 69) h a)), .ref 68] _ _ _ _
    refine a_i2l (pc := 85) (v := Int64.ofInt (f_fold (e_st (σ.1 69) h a))) (by decide +kernel) (j_i2l (by omega)) ?_
    refine b_putL (pc := 86) fl_X12_230 (by decide +kernel) (sh_68 hn) rfl rfl rfl ?_
    obtain ⟨σ4, hσ4⟩ : ∃ z, z = k_sI σ2 68 23 (f_fold (e_st (σ.1 69) h a)) := ⟨_, rfl⟩
    rw [← hσ4]
    refine a_iload (pc := 89) (i := 5) (by decide +kernel) rfl ?_
    refine a_bipush (pc := 91) (n := 32) (by decide +kernel) rfl ?_
    refine a_icmp_ne (pc := 93) (off := 11) (tgt := 104) (by decide +kernel) (by decide) (by omega) (by omega) (fun c93 => ?_) (fun c93 => ?_)
    · refine a_iload (pc := 104) (i := 5) (by decide +kernel) rfl ?_
      refine b_callS (pc := 106) (c' := 0) (sl' := 0) [j_i (e_st (σ.1 69) h a)] [] ml_X12_212 (by decide +kernel) rfl rfl (Nat.le_of_ble_eq_true rfl) (j_fitI rfl rfl) (s_disLetter (by omega)) (fun v n' σ' hq => ?_)
      obtain ⟨x, rfl, e1, e2, hx⟩ := hq
      rw [e1, e2]; clear e1 e2
      rcases hx with ⟨rfl, p106⟩ | ⟨rfl, p106⟩
      · show j_at _ _ _ [(0, .ref 68), (1, j_i h), (2, j_i fr), (3, j_i od), (4, j_i a), (5, j_i (e_st (σ.1 69) h a))] [j_i 1] _ _ _ _
        refine a_if_eq (pc := 109) (off := 11) (tgt := 120) (by decide +kernel) (by decide) (by omega) (fun c109 => ?_) (fun c109 => ?_)
        · exact absurd c109 (by decide)
        · refine a_aload_n (pc := 112) (i := 0) (by decide +kernel) rfl ?_
          refine a_iconst (pc := 113) (n := 4) (by decide +kernel) ?_
          refine b_putI (pc := 114) fl_X12_227 (by decide +kernel) (sh_68 hn) rfl rfl rfl ?_
          obtain ⟨σ5, hσ5⟩ : ∃ z, z = k_sI σ4 68 22 4 := ⟨_, rfl⟩
          rw [← hσ5]
          refine a_goto (pc := 117) (off := 121) (tgt := 238) (by decide +kernel) (by decide) ?_
          refine a_return (pc := 238) (by decide +kernel) rfl ?_
          refine k_ret ?_
          have ek : f_bk (e_key (σ.1 69) h) a = 4 := bk_4 (by rw [es]; exact p106)
          have en := bk_n (s := e_key (σ.1 69) h) (i := a) (by rw [es]; omega)
          exact ⟨rfl, rfl, (b_fr_i (by omega) (b_fr_i (by omega) (b_fr_i (by omega) b_fr_r hσ2) hσ4) hσ5), by rw [ek, hσ5, k_II], Or.inr ⟨by omega, by rw [en.1, es, hσ5, k_IN (by omega), hσ4, k_II], by rw [en.2, hσ5, k_IN (by omega), hσ4, k_IN (by omega), hσ2, k_II]⟩⟩
      · show j_at _ _ _ [(0, .ref 68), (1, j_i h), (2, j_i fr), (3, j_i od), (4, j_i a), (5, j_i (e_st (σ.1 69) h a))] [j_i 0] _ _ _ _
        refine a_if_eq (pc := 109) (off := 11) (tgt := 120) (by decide +kernel) (by decide) (by omega) (fun c109 => ?_) (fun c109 => ?_)
        · refine a_iload (pc := 120) (i := 5) (by decide +kernel) rfl ?_
          refine a_bipush (pc := 122) (n := 48) (by decide +kernel) rfl ?_
          refine a_icmp_lt (pc := 124) (off := 10) (tgt := 134) (by decide +kernel) (by decide) (by omega) (by omega) (fun c124 => ?_) (fun c124 => ?_)
          · refine a_aload_n (pc := 134) (i := 0) (by decide +kernel) rfl ?_
            refine a_iconst (pc := 135) (n := 2) (by decide +kernel) ?_
            refine b_putI (pc := 136) fl_X12_227 (by decide +kernel) (sh_68 hn) rfl rfl rfl ?_
            obtain ⟨σ6, hσ6⟩ : ∃ z, z = k_sI σ4 68 22 2 := ⟨_, rfl⟩
            rw [← hσ6]
            refine a_goto (pc := 139) (off := 99) (tgt := 238) (by decide +kernel) (by decide) ?_
            refine a_return (pc := 238) (by decide +kernel) rfl ?_
            refine k_ret ?_
            have ek : f_bk (e_key (σ.1 69) h) a = 2 := bk_2 (by rw [es]; omega) (by rw [es]; omega) (by rw [es]; omega) (by rw [es]; exact p106)
            have en := bk_n (s := e_key (σ.1 69) h) (i := a) (by rw [es]; omega)
            exact ⟨rfl, rfl, (b_fr_i (by omega) (b_fr_i (by omega) (b_fr_i (by omega) b_fr_r hσ2) hσ4) hσ6), by rw [ek, hσ6, k_II], Or.inr ⟨by omega, by rw [en.1, es, hσ6, k_IN (by omega), hσ4, k_II], by rw [en.2, hσ6, k_IN (by omega), hσ4, k_IN (by omega), hσ2, k_II]⟩⟩
          · refine a_iload (pc := 127) (i := 5) (by decide +kernel) rfl ?_
            refine a_bipush (pc := 129) (n := 57) (by decide +kernel) rfl ?_
            refine a_icmp_le (pc := 131) (off := 11) (tgt := 142) (by decide +kernel) (by decide) (by omega) (by omega) (fun c131 => ?_) (fun c131 => ?_)
            · refine a_aload_n (pc := 142) (i := 0) (by decide +kernel) rfl ?_
              refine a_iconst (pc := 143) (n := 3) (by decide +kernel) ?_
              refine b_putI (pc := 144) fl_X12_227 (by decide +kernel) (sh_68 hn) rfl rfl rfl ?_
              obtain ⟨σ7, hσ7⟩ : ∃ z, z = k_sI σ4 68 22 3 := ⟨_, rfl⟩
              rw [← hσ7]
              refine a_aload_n (pc := 147) (i := 0) (by decide +kernel) rfl ?_
              refine a_lconst (pc := 148) (n := 0) (by decide +kernel) ?_
              show j_at _ _ _ [(0, .ref 68), (1, j_i h), (2, j_i fr), (3, j_i od), (4, j_i a), (5, j_i (e_st (σ.1 69) h a))] [j_l 0, .ref 68] _ _ _ _
              refine b_putL (pc := 149) fl_X12_230 (by decide +kernel) (sh_68 hn) rfl rfl rfl ?_
              obtain ⟨σ8, hσ8⟩ : ∃ z, z = k_sI σ7 68 23 0 := ⟨_, rfl⟩
              rw [← hσ8]
              refine a_aload_n (pc := 152) (i := 0) (by decide +kernel) rfl ?_
              refine a_iload (pc := 153) (i := 4) (by decide +kernel) rfl ?_
              refine b_putI (pc := 155) fl_X12_234 (by decide +kernel) (sh_68 hn) rfl rfl rfl ?_
              obtain ⟨σ9, hσ9⟩ : ∃ z, z = k_sI σ8 68 24 a := ⟨_, rfl⟩
              rw [← hσ9]
              have ek := bk_3 (s := e_key (σ.1 69) h) (i := a) (by rw [es]; omega)
              refine k_mono (fun v' n' ρ hq => ?_) (l_bit158 hn hK hP h0 h1 17 a 0 σ9 (by omega) (by omega) (by omega) (b_fr_i (by omega) (b_fr_i (by omega) (b_fr_i (by omega) (b_fr_i (by omega) (b_fr_i (by omega) b_fr_r hσ2) hσ4) hσ7) hσ8) hσ9) (by rw [hσ9, k_IN (by omega), hσ8, k_IN (by omega), hσ7, k_II]) (by rw [hσ9, k_IN (by omega), hσ8, k_II]) (by rw [hσ9, k_II]))
              obtain ⟨w1, w2, w3, w4, w5, w6⟩ := hq
              exact ⟨w1, w2, w3, by rw [w4, ek.1], Or.inr ⟨by rw [ek.1]; omega, by rw [w5, ek.2.1], by rw [w6, ek.2.2]⟩⟩
            · refine a_aload_n (pc := 134) (i := 0) (by decide +kernel) rfl ?_
              refine a_iconst (pc := 135) (n := 2) (by decide +kernel) ?_
              refine b_putI (pc := 136) fl_X12_227 (by decide +kernel) (sh_68 hn) rfl rfl rfl ?_
              obtain ⟨σ10, hσ10⟩ : ∃ z, z = k_sI σ4 68 22 2 := ⟨_, rfl⟩
              rw [← hσ10]
              refine a_goto (pc := 139) (off := 99) (tgt := 238) (by decide +kernel) (by decide) ?_
              refine a_return (pc := 238) (by decide +kernel) rfl ?_
              refine k_ret ?_
              have ek : f_bk (e_key (σ.1 69) h) a = 2 := bk_2 (by rw [es]; omega) (by rw [es]; omega) (by rw [es]; omega) (by rw [es]; exact p106)
              have en := bk_n (s := e_key (σ.1 69) h) (i := a) (by rw [es]; omega)
              exact ⟨rfl, rfl, (b_fr_i (by omega) (b_fr_i (by omega) (b_fr_i (by omega) b_fr_r hσ2) hσ4) hσ10), by rw [ek, hσ10, k_II], Or.inr ⟨by omega, by rw [en.1, es, hσ10, k_IN (by omega), hσ4, k_II], by rw [en.2, hσ10, k_IN (by omega), hσ4, k_IN (by omega), hσ2, k_II]⟩⟩
        · exact absurd c109 (by decide)
    · refine a_aload_n (pc := 96) (i := 0) (by decide +kernel) rfl ?_
      refine a_iconst (pc := 97) (n := 1) (by decide +kernel) ?_
      refine b_putI (pc := 98) fl_X12_227 (by decide +kernel) (sh_68 hn) rfl rfl rfl ?_
      obtain ⟨σ11, hσ11⟩ : ∃ z, z = k_sI σ4 68 22 1 := ⟨_, rfl⟩
      rw [← hσ11]
      refine a_goto (pc := 101) (off := 137) (tgt := 238) (by decide +kernel) (by decide) ?_
      refine a_return (pc := 238) (by decide +kernel) rfl ?_
      refine k_ret ?_
      have ek : f_bk (e_key (σ.1 69) h) a = 1 := bk_1 (by rw [es]; omega)
      have en := bk_n (s := e_key (σ.1 69) h) (i := a) (by rw [es]; omega)
      exact ⟨rfl, rfl, (b_fr_i (by omega) (b_fr_i (by omega) (b_fr_i (by omega) b_fr_r hσ2) hσ4) hσ11), by rw [ek, hσ11, k_II], Or.inr ⟨by omega, by rw [en.1, es, hσ11, k_IN (by omega), hσ4, k_II], by rw [en.2, hσ11, k_IN (by omega), hσ4, k_IN (by omega), hσ2, k_II]⟩⟩
  · refine a_aload_n (pc := 45) (i := 0) (by decide +kernel) rfl ?_
    refine a_iconst (pc := 46) (n := 0) (by decide +kernel) ?_
    refine b_putI (pc := 47) fl_X12_227 (by decide +kernel) (sh_68 hn) rfl rfl rfl ?_
    obtain ⟨σ12, hσ12⟩ : ∃ z, z = k_sI σ 68 22 0 := ⟨_, rfl⟩
    rw [← hσ12]
    refine a_aload_n (pc := 50) (i := 0) (by decide +kernel) rfl ?_
    refine a_lconst (pc := 51) (n := 0) (by decide +kernel) ?_
    show j_at _ _ _ [(0, .ref 68), (1, j_i h), (2, j_i fr), (3, j_i od), (4, j_i a)] [j_l 0, .ref 68] _ _ _ _
    refine b_putL (pc := 52) fl_X12_230 (by decide +kernel) (sh_68 hn) rfl rfl rfl ?_
    obtain ⟨σ13, hσ13⟩ : ∃ z, z = k_sI σ12 68 23 0 := ⟨_, rfl⟩
    rw [← hσ13]
    refine a_aload_n (pc := 55) (i := 0) (by decide +kernel) rfl ?_
    refine a_iload (pc := 56) (i := 4) (by decide +kernel) rfl ?_
    refine b_putI (pc := 58) fl_X12_234 (by decide +kernel) (sh_68 hn) rfl rfl rfl ?_
    obtain ⟨σ14, hσ14⟩ : ∃ z, z = k_sI σ13 68 24 a := ⟨_, rfl⟩
    rw [← hσ14]
    refine a_return (pc := 61) (by decide +kernel) rfl ?_
    refine k_ret ?_
    have ek := bk_0 (e_key_o (g := σ.1 69) (h := h) (i := a) (by omega))
    exact ⟨rfl, rfl, (b_fr_i (by omega) (b_fr_i (by omega) (b_fr_i (by omega) b_fr_r hσ12) hσ13) hσ14), by rw [ek, hσ14, k_IN (by omega), hσ13, k_IN (by omega), hσ12, k_II], Or.inl ⟨ek, by rw [hσ14, k_IN (by omega), hσ13, k_II]⟩⟩
set_option maxHeartbeats 4000000 in
theorem l_bit3 {G : j_G} {X : k_X} {n : Nat} {σ : k_St} (hn : 101 ≤ n) (hK : RKept σ) (hP : RPass σ) {h : Int} (h0 : 0 ≤ h) (h1 : h < σ.1 69 301) {fr : Int}  : ∀ (z : Nat) (a : Int), 16 - a < (z : Int) → 0 ≤ a → a ≤ 16 → j_at G mX12_bit 3 [(0, .ref 68), (1, j_i h), (2, j_i fr), (3, j_i 0), (4, j_i a)] [] (k_h X n σ) 0 0 (k_Q X (bt_post n σ (e_key (σ.1 69) h) (f_sk (e_key (σ.1 69) h) z a))) := by
  have hg := hK.2.2.2
  have hg3 := (KR_rg hK.1 hK.2.1).1.2.1
  have hl := e_sl_in hK h0 h1
  have hm := hP.1
  intro z
  induction z with
  | zero => intro a hz a0 a1; exact absurd hz (by omega)
  | succ z ih =>
    intro a hz a0 a1
    refine a_iload_n (pc := 3) (i := 3) (by decide +kernel) rfl ?_
    refine a_if_ne (pc := 4) (off := 31) (tgt := 35) (by decide +kernel) (by decide) (by omega) (fun c4 => ?_) (fun c4 => ?_)
    · exact absurd c4 (by decide)
    · refine a_iload (pc := 7) (i := 4) (by decide +kernel) rfl ?_
      refine a_aload_n (pc := 9) (i := 0) (by decide +kernel) rfl ?_
      refine a_iload_n (pc := 10) (i := 1) (by decide +kernel) rfl ?_
      refine b_pureV (pc := 11) [j_i h] [j_i a] ml_X12_221 (by decide +kernel) rfl rfl (sh_68 hn) rfl rfl (Nat.le_of_ble_eq_true rfl) (j_fitI rfl rfl) (s_dsortedLong hn (by rw [show σ.1 = σ.1 from rfl]; exact hg) (by omega)) ?_
      show j_at _ _ _ [(0, .ref 68), (1, j_i h), (2, j_i fr), (3, j_i 0), (4, j_i a)] [j_i (e_sl (σ.1 69) h), j_i a] _ _ _ _
      refine a_icmp_ge (pc := 14) (off := 21) (tgt := 35) (by decide +kernel) (by decide) (by omega) (by omega) (fun c14 => ?_) (fun c14 => ?_)
      · have en : f_sk (e_key (σ.1 69) h) (z + 1) a = a := by
          show (if _ then _ else _) = _
          by_cases e : a < e_sl (σ.1 69) h
          · rw [e_key_at a0 e, if_neg (by omega)]
          · rw [e_key_o (by omega), if_neg (by omega)]
        rw [en]; exact l_bit35 hn hK hP h0 h1 a0 a1
      · refine a_aload_n (pc := 17) (i := 0) (by decide +kernel) rfl ?_
        refine a_iload_n (pc := 18) (i := 1) (by decide +kernel) rfl ?_
        refine a_iload (pc := 19) (i := 4) (by decide +kernel) rfl ?_
        refine b_pureV (pc := 21) [j_i h, j_i a] [] ml_X12_224 (by decide +kernel) rfl rfl (sh_68 hn) rfl rfl (Nat.le_of_ble_eq_true rfl) (j_fitI rfl rfl) (s_dsortedSign hn (by rw [show σ.1 = σ.1 from rfl]; exact hg) (by omega) (by omega)) ?_
        have q1 := e_st_in hK h0 h1 (i := a) (by omega) (by omega)
        show j_at _ _ _ [(0, .ref 68), (1, j_i h), (2, j_i fr), (3, j_i 0), (4, j_i a)] [j_i (e_st (σ.1 69) h a)] _ _ _ _
        refine a_bipush (pc := 24) (n := 32) (by decide +kernel) rfl ?_
        refine a_icmp_ne (pc := 26) (off := 9) (tgt := 35) (by decide +kernel) (by decide) (by omega) (by omega) (fun c26 => ?_) (fun c26 => ?_)
        · have en : f_sk (e_key (σ.1 69) h) (z + 1) a = a := by
            show (if _ then _ else _) = _
            by_cases e : a < e_sl (σ.1 69) h
            · rw [e_key_at a0 e, if_neg (by omega)]
            · rw [e_key_o (by omega), if_neg (by omega)]
          rw [en]; exact l_bit35 hn hK hP h0 h1 a0 a1
        · refine a_iinc (pc := 29) (i := 4) (n := 1) (x := a) (lv' := [(0, .ref 68), (1, j_i h), (2, j_i fr), (3, j_i 0), (4, j_i (a + 1))]) (by decide +kernel) rfl (Nat.le_of_ble_eq_true rfl) rfl ?_
          refine a_goto (pc := 32) (off := -29) (tgt := 3) (by decide +kernel) (by decide) ?_
          have es := e_key_at (g := σ.1 69) (h := h) (i := a) a0 (by omega)
          have en : f_sk (e_key (σ.1 69) h) (z + 1) a = f_sk (e_key (σ.1 69) h) z (a + 1) := by show (if _ then _ else _) = _; rw [es, if_pos (by omega)]
          rw [en]
          exact ih (a + 1) (by omega) (by omega) (by omega)
set_option maxHeartbeats 4000000 in
theorem e_bit {G : j_G} {X : k_X} {n : Nat} {σ : k_St} (hn : 101 ≤ n) (hK : RKept σ) (hP : RPass σ) {h : Int} (h0 : 0 ≤ h) (h1 : h < σ.1 69 301) {a od : Int} (a0 : 0 ≤ a) (a1 : a ≤ 16) (ho : od = 0 ∨ od = 1) : k_run G X mX12_bit [.ref 68, j_i h, j_i a, j_i od] n σ 0 0 (bt_post n σ (e_key (σ.1 69) h) (f_bat (e_key (σ.1 69) h) (if od = 0 then 1 else 0) a)) := by
  refine k_enter (by decide +kernel) (Nat.le_of_ble_eq_true rfl) ?_
  show j_at _ _ _ [(0, .ref 68), (1, j_i h), (2, j_i a), (3, j_i od)] [] _ _ _ _
  refine a_iload_n (pc := 0) (i := 2) (by decide +kernel) rfl ?_
  refine a_istore (pc := 1) (i := 4) (lv' := [(0, .ref 68), (1, j_i h), (2, j_i a), (3, j_i od), (4, j_i a)]) (by decide +kernel) (Nat.le_of_ble_eq_true rfl) rfl ?_
  rcases ho with rfl | rfl
  · rw [show f_bat (e_key (σ.1 69) h) (if (0 : Int) = 0 then 1 else 0) a = f_sk (e_key (σ.1 69) h) 17 a from rfl]
    exact l_bit3 hn hK hP h0 h1 17 a (by omega) a0 a1
  · rw [show f_bat (e_key (σ.1 69) h) (if (1 : Int) = 0 then 1 else 0) a = a from rfl]
    refine a_iload_n (pc := 3) (i := 3) (by decide +kernel) rfl ?_
    refine a_if_ne (pc := 4) (off := 31) (tgt := 35) (by decide +kernel) (by decide) (by omega) (fun c4 => ?_) (fun c4 => absurd c4 (by decide))
    exact l_bit35 hn hK hP h0 h1 a0 a1
