theorem PSg_add {σ τ s1 s2 s3 s4 s5 s6 : k_St} {e c a k f l t : Int} {S : q_T → Prop} (hG : PSg σ e c S) (hI : IP σ τ (σ.1 83 e) (σ.1 82 e) a) (a0 : 0 ≤ a) (a1 : a ≤ σ.1 82 e) (hy : q_ok (k, f, l, t)) (h1 : ∀ i, 0 ≤ i → i < a → q_lt c (q4 (σ.1 86) (σ.1 83 e + i)) (k, f, l, t)) (h2 : ∀ i, a ≤ i → i < σ.1 82 e → q_lt c (k, f, l, t) (q4 (σ.1 86) (σ.1 83 e + i))) (e1 : s1 = k_sA τ 86 (j_up (τ.1 86) (4 * (σ.1 83 e + a)) k)) (e2 : s2 = k_sA s1 86 (j_up (s1.1 86) (4 * (σ.1 83 e + a) + 1) f)) (e3 : s3 = k_sA s2 86 (j_up (s2.1 86) (4 * (σ.1 83 e + a) + 2) l)) (e4 : s4 = k_sA s3 86 (j_up (s3.1 86) (4 * (σ.1 83 e + a) + 3) t)) (e5 : s5 = k_sA s4 82 (j_up (s4.1 82) e (σ.1 82 e + 1))) (e6 : s6 = k_sI s5 68 32 (σ.2.1 68 32 + 1)) : plf σ s6 e ∧ s6.2.1 68 32 = σ.2.1 68 32 + 1 ∧ PSg s6 e c (fun x => S x ∨ x = (k, f, l, t)) := by
  obtain ⟨g1, g2, g3, g4⟩ := hG
  obtain ⟨i1, i2, i3⟩ := hI
  have f86 : s6.1 86 = j_up (j_up (j_up (j_up (j_cpy (σ.1 86) (σ.1 86) (4 * (σ.1 83 e + a)) (4 * (σ.1 83 e + a) + 4) (4 * (σ.1 82 e - a))) (4 * (σ.1 83 e + a)) k) (4 * (σ.1 83 e + a) + 1) f) (4 * (σ.1 83 e + a) + 2) l) (4 * (σ.1 83 e + a) + 3) t := by rw [e6, k_I1, e5, k_AN (by omega), e4, k_AA, e3, k_AA, e2, k_AA, e1, k_AA, i3]
  have s82 : s4.1 82 = σ.1 82 := by rw [e4, k_AN (by omega), e3, k_AN (by omega), e2, k_AN (by omega), e1, k_AN (by omega)]; exact i1 82 (by omega)
  have f82 : s6.1 82 = j_up (σ.1 82) e (σ.1 82 e + 1) := by rw [e6, k_I1, e5, k_AA, s82]
  have fo : ∀ c, c ≠ 82 → c ≠ 86 → s6.1 c = σ.1 c := fun c h h' => by rw [e6, k_I1, e5, k_AN h, e4, k_AN h', e3, k_AN h', e2, k_AN h', e1, k_AN h']; exact i1 c h'
  have fn : s6.2.1 68 32 = σ.2.1 68 32 + 1 := by rw [e6, k_II]
  have f83 : s6.1 83 = σ.1 83 := fo 83 (by omega) (by omega)
  have n82 : s6.1 82 e = σ.1 82 e + 1 := by rw [f82, j_upS]
  have fq : ∀ j, 0 ≤ j → j < σ.1 82 e + 1 → q4 (s6.1 86) (σ.1 83 e + j) = pI (fun j => q4 (σ.1 86) (σ.1 83 e + j)) a (k, f, l, t) j := fun j j0 j1 => by rw [f86]; exact in4 j0 (by omega)
  refine ⟨⟨fo, fun c j hc => by rw [e6, k_IN hc, e5]; show s4.2.1 c j = _; rw [e4, e3, e2, e1]; show τ.2.1 c j = _; rw [i2], by rw [e6, e5, e4, e3, e2, e1]; show τ.2.2 = _; rw [i2], fun j hj => by rw [f82, j_upN hj], fun j hj => ?_⟩, fn, ?_⟩
  · rw [f86, j_upN (by omega), j_upN (by omega), j_upN (by omega), j_upN (by omega)]; unfold j_cpy; rw [if_neg (by omega)]
  · unfold PSg
    rw [f83, n82, fn]
    refine ⟨⟨g1.1, by omega, by omega⟩, fun j j0 j1 => ?_, so_cg (fun j j0 j1 => fq j j0 j1) (pI_so g3 a0 a1 h1 h2), fun x => ?_⟩
    · rw [fq j j0 j1]
      rcases Int.lt_trichotomy j a with q | q | q
      · rw [pI_l q]; exact g2 j j0 (by omega)
      · rw [q, pI_k]; exact hy
      · rw [pI_g q]; exact g2 (j - 1) (by omega) (by omega)
    · rw [im_cg (fun j j0 j1 => fq j j0 j1), pI_im a0 a1, g4]
theorem q_w_4 {F : Int → Int} {c j : Int} : q_w c (q4 F j) = i_wt (F (4 * j)) (F (4 * j + 1)) (F (4 * j + 3)) c := rfl
set_option maxHeartbeats 4000000 in
theorem l_ap94 {G : j_G} {X : k_X} {n : Nat} {σ : k_St} (hn : 101 ≤ n) {e k f l t c : Int} {S : q_T → Prop} (hG : PSg σ e c S) (he : 0 ≤ e ∧ e < 150) (hb : σ.2.1 68 32 ≤ 190) (hy : q_ok (k, f, l, t)) (hd : ∀ x, S x → q_w c x = q_w c (k, f, l, t) → x = (k, f, l, t)) (rc : c = 0 ∨ c = 1) (hnS : ¬ S (k, f, l, t))  : ∀ (z : Nat) (a : Int) (τ : k_St), a < (z : Int) → 0 ≤ a → a ≤ σ.1 82 e → IP σ τ (σ.1 83 e) (σ.1 82 e) a → (∀ j, a ≤ j → j < σ.1 82 e → q_lt c (k, f, l, t) (q4 (σ.1 86) (σ.1 83 e + j))) → j_at G mX12_addPlace 94 [(0, .ref 68), (1, j_i e), (2, j_i k), (3, j_i f), (4, j_i l), (5, j_i t), (6, j_i c), (7, j_i (σ.1 82 e)), (8, j_i a)] [] (k_h X n τ) 0 0 (k_Q X (fun v n' τ => v = none ∧ n' = n ∧ plf σ τ e ∧ σ.2.1 68 32 ≤ τ.2.1 68 32 ∧ τ.2.1 68 32 ≤ σ.2.1 68 32 + 1 ∧ PSg τ e c (fun x => S x ∨ x = (k, f, l, t)))) := by
  obtain ⟨gA, gB, gC, gD⟩ := id hG
  obtain ⟨hyk, hyf, hyl, hyt⟩ : kd k ∧ (0 ≤ f ∧ f ≤ 299) ∧ (0 ≤ l ∧ l ≤ 299) ∧ (0 ≤ t ∧ t ≤ 99) := id hy
  have hyk2 : 0 ≤ k ∧ k ≤ 5 := by unfold kd at hyk; omega
  intro z
  induction z with
  | zero => intro a τ h1 h2; exact absurd h1 (by omega)
  | succ z ih =>
    intro a τ hz a0 aN hI hW
    have rr : ∀ x, x < 4 * (σ.1 83 e + a) → τ.1 86 x = σ.1 86 x := fun x hx => by rw [hI.2.2]; unfold j_cpy; rw [if_neg (by omega)]
    refine a_iload (pc := 94) (i := 8) (by decide +kernel) rfl ?_
    refine a_if_le (pc := 96) (off := 90) (tgt := 186) (by decide +kernel) (by decide) (by omega) (fun c96 => ?_) (fun c96 => ?_)
    · have hlow : ∀ i, 0 ≤ i → i < a → q_lt c (q4 (σ.1 86) (σ.1 83 e + i)) (k, f, l, t) := by
        by_cases z0 : a = 0
        · intro i i0 i1; omega
        · have w1 : q_w c (q4 (σ.1 86) (σ.1 83 e + (a - 1))) ≤ q_w c (k, f, l, t) := by
            first | exact absurd z0 (by omega) | (rw [gw]; exact Int.not_lt.mp p119)
          have w2 : S (q4 (σ.1 86) (σ.1 83 e + (a - 1))) := (gD _).mp ⟨a - 1, by omega, by omega, rfl⟩
          have w3 : q_w c (q4 (σ.1 86) (σ.1 83 e + (a - 1))) ≠ q_w c (k, f, l, t) := fun w => hnS (by rw [← hd _ w2 w]; exact w2)
          intro i i0 i1
          by_cases q : i = a - 1
          · rw [q]; show q_w c _ < q_w c _; omega
          · have w4 : q_w c (q4 (σ.1 86) (σ.1 83 e + i)) < q_w c (q4 (σ.1 86) (σ.1 83 e + (a - 1))) := gC i (a - 1) i0 (by omega) (by omega)
            show q_w c _ < q_w c _; omega
      refine a_iconst (pc := 186) (n := 4) (by decide +kernel) ?_
      refine a_aload_n (pc := 187) (i := 0) (by decide +kernel) rfl ?_
      refine b_getR (pc := 188) (b := 83) fl_X12_57 (by decide +kernel) (sh_68 hn) rfl ?_
      refine a_iload_n (pc := 191) (i := 1) (by decide +kernel) rfl ?_
      refine b_iaload (pc := 192) (by decide +kernel) (sh_83 hn) (by omega) (by omega) (by omega) ?_
      rw [show τ.1 83 = σ.1 83 from hI.1 83 (by omega)]
      refine a_iload (pc := 193) (i := 8) (by decide +kernel) rfl ?_
      refine a_iadd (pc := 195) (by decide +kernel) ?_
      refine a_imul (pc := 196) (by decide +kernel) ?_
      refine a_istore (pc := 197) (i := 9) (lv' := [(0, .ref 68), (1, j_i e), (2, j_i k), (3, j_i f), (4, j_i l), (5, j_i t), (6, j_i c), (7, j_i (σ.1 82 e)), (8, j_i a), (9, j_i (4 * ((σ.1 83 e) + a)))]) (by decide +kernel) (Nat.le_of_ble_eq_true rfl) rfl ?_
      refine a_aload_n (pc := 199) (i := 0) (by decide +kernel) rfl ?_
      refine b_getR (pc := 200) (b := 86) fl_X12_66 (by decide +kernel) (sh_68 hn) rfl ?_
      refine a_iload (pc := 203) (i := 9) (by decide +kernel) rfl ?_
      refine a_iload_n (pc := 205) (i := 2) (by decide +kernel) rfl ?_
      refine b_iastore (pc := 206) (by decide +kernel) (sh_86 hn) (by omega) (by omega) (by omega) ?_
      obtain ⟨σ1, hσ1⟩ : ∃ z, z = k_sA τ 86 (j_up (τ.1 86) (4 * ((σ.1 83 e) + a)) k) := ⟨_, rfl⟩
      rw [← hσ1]
      refine a_aload_n (pc := 207) (i := 0) (by decide +kernel) rfl ?_
      refine b_getR (pc := 208) (b := 86) fl_X12_66 (by decide +kernel) (sh_68 hn) rfl ?_
      refine a_iload (pc := 211) (i := 9) (by decide +kernel) rfl ?_
      refine a_iconst (pc := 213) (n := 1) (by decide +kernel) ?_
      refine a_iadd (pc := 214) (by decide +kernel) ?_
      refine a_iload_n (pc := 215) (i := 3) (by decide +kernel) rfl ?_
      refine b_iastore (pc := 216) (by decide +kernel) (sh_86 hn) (by omega) (by omega) (by omega) ?_
      obtain ⟨σ2, hσ2⟩ : ∃ z, z = k_sA σ1 86 (j_up (σ1.1 86) ((4 * ((σ.1 83 e) + a)) + 1) f) := ⟨_, rfl⟩
      rw [← hσ2]
      refine a_aload_n (pc := 217) (i := 0) (by decide +kernel) rfl ?_
      refine b_getR (pc := 218) (b := 86) fl_X12_66 (by decide +kernel) (sh_68 hn) rfl ?_
      refine a_iload (pc := 221) (i := 9) (by decide +kernel) rfl ?_
      refine a_iconst (pc := 223) (n := 2) (by decide +kernel) ?_
      refine a_iadd (pc := 224) (by decide +kernel) ?_
      refine a_iload (pc := 225) (i := 4) (by decide +kernel) rfl ?_
      refine b_iastore (pc := 227) (by decide +kernel) (sh_86 hn) (by omega) (by omega) (by omega) ?_
      obtain ⟨σ3, hσ3⟩ : ∃ z, z = k_sA σ2 86 (j_up (σ2.1 86) ((4 * ((σ.1 83 e) + a)) + 2) l) := ⟨_, rfl⟩
      rw [← hσ3]
      refine a_aload_n (pc := 228) (i := 0) (by decide +kernel) rfl ?_
      refine b_getR (pc := 229) (b := 86) fl_X12_66 (by decide +kernel) (sh_68 hn) rfl ?_
      refine a_iload (pc := 232) (i := 9) (by decide +kernel) rfl ?_
      refine a_iconst (pc := 234) (n := 3) (by decide +kernel) ?_
      refine a_iadd (pc := 235) (by decide +kernel) ?_
      refine a_iload (pc := 236) (i := 5) (by decide +kernel) rfl ?_
      refine b_iastore (pc := 238) (by decide +kernel) (sh_86 hn) (by omega) (by omega) (by omega) ?_
      obtain ⟨σ4, hσ4⟩ : ∃ z, z = k_sA σ3 86 (j_up (σ3.1 86) ((4 * ((σ.1 83 e) + a)) + 3) t) := ⟨_, rfl⟩
      rw [← hσ4]
      refine a_aload_n (pc := 239) (i := 0) (by decide +kernel) rfl ?_
      refine b_getR (pc := 240) (b := 82) fl_X12_54 (by decide +kernel) (sh_68 hn) rfl ?_
      refine a_iload_n (pc := 243) (i := 1) (by decide +kernel) rfl ?_
      refine a_dup2 (pc := 244) (by decide +kernel) rfl rfl ?_
      refine b_iaload (pc := 245) (by decide +kernel) (sh_82 hn) (by omega) (by omega) (by omega) ?_
      rw [show σ4.1 82 = σ3.1 82 by rw [hσ4]; exact k_AN (by omega)]
      rw [show σ3.1 82 = σ2.1 82 by rw [hσ3]; exact k_AN (by omega)]
      rw [show σ2.1 82 = σ1.1 82 by rw [hσ2]; exact k_AN (by omega)]
      rw [show σ1.1 82 = τ.1 82 by rw [hσ1]; exact k_AN (by omega)]
      rw [show τ.1 82 = σ.1 82 from hI.1 82 (by omega)]
      refine a_iconst (pc := 246) (n := 1) (by decide +kernel) ?_
      refine a_iadd (pc := 247) (by decide +kernel) ?_
      refine b_iastore (pc := 248) (by decide +kernel) (sh_82 hn) (by omega) (by omega) (by omega) ?_
      obtain ⟨σ5, hσ5⟩ : ∃ z, z = k_sA σ4 82 (j_up (σ4.1 82) e ((σ.1 82 e) + 1)) := ⟨_, rfl⟩
      rw [← hσ5]
      refine a_aload_n (pc := 249) (i := 0) (by decide +kernel) rfl ?_
      refine a_dup (pc := 250) (by decide +kernel) rfl ?_
      refine b_getI (pc := 251) fl_X12_327 (by decide +kernel) (sh_68 hn) rfl ?_
      rw [show σ5.2.1 68 32 = σ4.2.1 68 32 by rw [hσ5]; rfl]
      rw [show σ4.2.1 68 32 = σ3.2.1 68 32 by rw [hσ4]; rfl]
      rw [show σ3.2.1 68 32 = σ2.2.1 68 32 by rw [hσ3]; rfl]
      rw [show σ2.2.1 68 32 = σ1.2.1 68 32 by rw [hσ2]; rfl]
      rw [show σ1.2.1 68 32 = τ.2.1 68 32 by rw [hσ1]; rfl]
      rw [show τ.2.1 68 32 = σ.2.1 68 32 from (by rw [hI.2.1])]
      refine a_iconst (pc := 254) (n := 1) (by decide +kernel) ?_
      refine a_iadd (pc := 255) (by decide +kernel) ?_
      refine b_putI (pc := 256) fl_X12_327 (by decide +kernel) (sh_68 hn) rfl rfl rfl ?_
      obtain ⟨σ6, hσ6⟩ : ∃ z, z = k_sI σ5 68 32 ((σ.2.1 68 32) + 1) := ⟨_, rfl⟩
      rw [← hσ6]
      refine a_return (pc := 259) (by decide +kernel) rfl ?_
      refine k_ret ?_
      have y := PSg_add hG hI (by omega) (by omega) hy hlow hW hσ1 hσ2 hσ3 hσ4 hσ5 hσ6
      exact ⟨rfl, rfl, y.1, by omega, by omega, y.2.2⟩
    · have gq : kd (σ.1 86 (4 * (σ.1 83 e + a - 1))) ∧ (0 ≤ σ.1 86 (4 * (σ.1 83 e + a - 1) + 1) ∧ σ.1 86 (4 * (σ.1 83 e + a - 1) + 1) ≤ 299) ∧ (0 ≤ σ.1 86 (4 * (σ.1 83 e + a - 1) + 2) ∧ σ.1 86 (4 * (σ.1 83 e + a - 1) + 2) ≤ 299) ∧ (0 ≤ σ.1 86 (4 * (σ.1 83 e + a - 1) + 3) ∧ σ.1 86 (4 * (σ.1 83 e + a - 1) + 3) ≤ 99) := by have z := gB (a - 1) (by omega) (by omega); rw [show σ.1 83 e + (a - 1) = σ.1 83 e + a - 1 by omega] at z; exact z
      have gw : q_w c (q4 (σ.1 86) (σ.1 83 e + (a - 1))) = i_wt (σ.1 86 (4 * (σ.1 83 e + a - 1))) (σ.1 86 (4 * (σ.1 83 e + a - 1) + 1)) (σ.1 86 (4 * (σ.1 83 e + a - 1) + 3)) c := by rw [show σ.1 83 e + (a - 1) = σ.1 83 e + a - 1 by omega]; rfl
      refine a_aload_n (pc := 99) (i := 0) (by decide +kernel) rfl ?_
      refine a_iconst (pc := 100) (n := 4) (by decide +kernel) ?_
      refine a_aload_n (pc := 101) (i := 0) (by decide +kernel) rfl ?_
      refine b_getR (pc := 102) (b := 83) fl_X12_57 (by decide +kernel) (sh_68 hn) rfl ?_
      refine a_iload_n (pc := 105) (i := 1) (by decide +kernel) rfl ?_
      refine b_iaload (pc := 106) (by decide +kernel) (sh_83 hn) (by omega) (by omega) (by omega) ?_
      rw [show τ.1 83 = σ.1 83 from hI.1 83 (by omega)]
      refine a_iload (pc := 107) (i := 8) (by decide +kernel) rfl ?_
      refine a_iadd (pc := 109) (by decide +kernel) ?_
      refine a_iconst (pc := 110) (n := 1) (by decide +kernel) ?_
      refine a_isub (pc := 111) (by decide +kernel) ?_
      refine a_imul (pc := 112) (by decide +kernel) ?_
      refine a_iload_n (pc := 113) (i := 2) (by decide +kernel) rfl ?_
      refine a_iload_n (pc := 114) (i := 3) (by decide +kernel) rfl ?_
      refine a_iload (pc := 115) (i := 5) (by decide +kernel) rfl ?_
      refine a_iload (pc := 117) (i := 6) (by decide +kernel) rfl ?_
      refine b_callV (pc := 119) (c' := 0) (sl' := 0) [j_i (4 * (((σ.1 83 e) + a) - 1)), j_i k, j_i f, j_i t, j_i c] [] ml_X12_323 (by decide +kernel) rfl rfl (sh_68 hn) rfl rfl (Nat.le_of_ble_eq_true rfl) (j_fitI rfl rfl) (e_isPlaceBehind hn (by omega) (rr _ (by omega)) (rr _ (by omega)) (rr _ (by omega)) (gq.1) (gq.2.1) (gq.2.2.2) hyk hyf hyt rc) (fun v n' σ' hq => ?_)
      obtain ⟨x, rfl, e1, e2, hx⟩ := hq
      rw [e1, e2]; clear e1 e2
      rcases hx with ⟨rfl, p119⟩ | ⟨rfl, p119⟩
      · show j_at _ _ _ [(0, .ref 68), (1, j_i e), (2, j_i k), (3, j_i f), (4, j_i l), (5, j_i t), (6, j_i c), (7, j_i (σ.1 82 e)), (8, j_i a)] [j_i 1] _ _ _ _
        refine a_if_eq (pc := 122) (off := 64) (tgt := 186) (by decide +kernel) (by decide) (by omega) (fun c122 => ?_) (fun c122 => ?_)
        · exact absurd c122 (by decide)
        · refine a_iconst (pc := 125) (n := 0) (by decide +kernel) ?_
          refine a_istore (pc := 126) (i := 9) (lv' := [(0, .ref 68), (1, j_i e), (2, j_i k), (3, j_i f), (4, j_i l), (5, j_i t), (6, j_i c), (7, j_i (σ.1 82 e)), (8, j_i a), (9, j_i 0)]) (by decide +kernel) (Nat.le_of_ble_eq_true rfl) rfl ?_
          refine a_iload (pc := 128) (i := 9) (by decide +kernel) rfl ?_
          refine a_iconst (pc := 130) (n := 4) (by decide +kernel) ?_
          refine a_icmp_ge (pc := 131) (off := 49) (tgt := 180) (by decide +kernel) (by decide) (by omega) (by omega) (fun c131 => ?_) (fun c131 => ?_)
          · exact absurd c131 (by decide)
          · refine a_aload_n (pc := 134) (i := 0) (by decide +kernel) rfl ?_
            refine b_getR (pc := 135) (b := 86) fl_X12_66 (by decide +kernel) (sh_68 hn) rfl ?_
            refine a_iconst (pc := 138) (n := 4) (by decide +kernel) ?_
            refine a_aload_n (pc := 139) (i := 0) (by decide +kernel) rfl ?_
            refine b_getR (pc := 140) (b := 83) fl_X12_57 (by decide +kernel) (sh_68 hn) rfl ?_
            refine a_iload_n (pc := 143) (i := 1) (by decide +kernel) rfl ?_
            refine b_iaload (pc := 144) (by decide +kernel) (sh_83 hn) (by omega) (by omega) (by omega) ?_
            rw [show τ.1 83 = σ.1 83 from hI.1 83 (by omega)]
            refine a_iload (pc := 145) (i := 8) (by decide +kernel) rfl ?_
            refine a_iadd (pc := 147) (by decide +kernel) ?_
            refine a_imul (pc := 148) (by decide +kernel) ?_
            refine a_iload (pc := 149) (i := 9) (by decide +kernel) rfl ?_
            refine a_iadd (pc := 151) (by decide +kernel) ?_
            refine a_aload_n (pc := 152) (i := 0) (by decide +kernel) rfl ?_
            refine b_getR (pc := 153) (b := 86) fl_X12_66 (by decide +kernel) (sh_68 hn) rfl ?_
            refine a_iconst (pc := 156) (n := 4) (by decide +kernel) ?_
            refine a_aload_n (pc := 157) (i := 0) (by decide +kernel) rfl ?_
            refine b_getR (pc := 158) (b := 83) fl_X12_57 (by decide +kernel) (sh_68 hn) rfl ?_
            refine a_iload_n (pc := 161) (i := 1) (by decide +kernel) rfl ?_
            refine b_iaload (pc := 162) (by decide +kernel) (sh_83 hn) (by omega) (by omega) (by omega) ?_
            rw [show τ.1 83 = σ.1 83 from hI.1 83 (by omega)]
            refine a_iload (pc := 163) (i := 8) (by decide +kernel) rfl ?_
            refine a_iadd (pc := 165) (by decide +kernel) ?_
            refine a_iconst (pc := 166) (n := 1) (by decide +kernel) ?_
            refine a_isub (pc := 167) (by decide +kernel) ?_
            refine a_imul (pc := 168) (by decide +kernel) ?_
            refine a_iload (pc := 169) (i := 9) (by decide +kernel) rfl ?_
            refine a_iadd (pc := 171) (by decide +kernel) ?_
            refine b_iaload (pc := 172) (by decide +kernel) (sh_86 hn) (by omega) (by omega) (by omega) ?_
            refine b_iastore (pc := 173) (by decide +kernel) (sh_86 hn) (by omega) (by omega) (by omega) ?_
            obtain ⟨σ7, hσ7⟩ : ∃ z, z = k_sA τ 86 (j_up (τ.1 86) ((4 * ((σ.1 83 e) + a)) + 0) (τ.1 86 ((4 * (((σ.1 83 e) + a) - 1)) + 0))) := ⟨_, rfl⟩
            rw [← hσ7]
            refine a_iinc (pc := 174) (i := 9) (n := 1) (x := 0) (lv' := [(0, .ref 68), (1, j_i e), (2, j_i k), (3, j_i f), (4, j_i l), (5, j_i t), (6, j_i c), (7, j_i (σ.1 82 e)), (8, j_i a), (9, j_i 1)]) (by decide +kernel) rfl (Nat.le_of_ble_eq_true rfl) rfl ?_
            refine a_goto (pc := 177) (off := -49) (tgt := 128) (by decide +kernel) (by decide) ?_
            refine a_iload (pc := 128) (i := 9) (by decide +kernel) rfl ?_
            refine a_iconst (pc := 130) (n := 4) (by decide +kernel) ?_
            refine a_icmp_ge (pc := 131) (off := 49) (tgt := 180) (by decide +kernel) (by decide) (by omega) (by omega) (fun c131 => ?_) (fun c131 => ?_)
            · exact absurd c131 (by decide)
            · refine a_aload_n (pc := 134) (i := 0) (by decide +kernel) rfl ?_
              refine b_getR (pc := 135) (b := 86) fl_X12_66 (by decide +kernel) (sh_68 hn) rfl ?_
              refine a_iconst (pc := 138) (n := 4) (by decide +kernel) ?_
              refine a_aload_n (pc := 139) (i := 0) (by decide +kernel) rfl ?_
              refine b_getR (pc := 140) (b := 83) fl_X12_57 (by decide +kernel) (sh_68 hn) rfl ?_
              refine a_iload_n (pc := 143) (i := 1) (by decide +kernel) rfl ?_
              refine b_iaload (pc := 144) (by decide +kernel) (sh_83 hn) (by omega) (by omega) (by omega) ?_
              rw [show σ7.1 83 = τ.1 83 by rw [hσ7]; exact k_AN (by omega)]
              rw [show τ.1 83 = σ.1 83 from hI.1 83 (by omega)]
              refine a_iload (pc := 145) (i := 8) (by decide +kernel) rfl ?_
              refine a_iadd (pc := 147) (by decide +kernel) ?_
              refine a_imul (pc := 148) (by decide +kernel) ?_
              refine a_iload (pc := 149) (i := 9) (by decide +kernel) rfl ?_
              refine a_iadd (pc := 151) (by decide +kernel) ?_
              refine a_aload_n (pc := 152) (i := 0) (by decide +kernel) rfl ?_
              refine b_getR (pc := 153) (b := 86) fl_X12_66 (by decide +kernel) (sh_68 hn) rfl ?_
              refine a_iconst (pc := 156) (n := 4) (by decide +kernel) ?_
              refine a_aload_n (pc := 157) (i := 0) (by decide +kernel) rfl ?_
              refine b_getR (pc := 158) (b := 83) fl_X12_57 (by decide +kernel) (sh_68 hn) rfl ?_
              refine a_iload_n (pc := 161) (i := 1) (by decide +kernel) rfl ?_
              refine b_iaload (pc := 162) (by decide +kernel) (sh_83 hn) (by omega) (by omega) (by omega) ?_
              rw [show σ7.1 83 = τ.1 83 by rw [hσ7]; exact k_AN (by omega)]
              rw [show τ.1 83 = σ.1 83 from hI.1 83 (by omega)]
              refine a_iload (pc := 163) (i := 8) (by decide +kernel) rfl ?_
              refine a_iadd (pc := 165) (by decide +kernel) ?_
              refine a_iconst (pc := 166) (n := 1) (by decide +kernel) ?_
              refine a_isub (pc := 167) (by decide +kernel) ?_
              refine a_imul (pc := 168) (by decide +kernel) ?_
              refine a_iload (pc := 169) (i := 9) (by decide +kernel) rfl ?_
              refine a_iadd (pc := 171) (by decide +kernel) ?_
              refine b_iaload (pc := 172) (by decide +kernel) (sh_86 hn) (by omega) (by omega) (by omega) ?_
              refine b_iastore (pc := 173) (by decide +kernel) (sh_86 hn) (by omega) (by omega) (by omega) ?_
              obtain ⟨σ8, hσ8⟩ : ∃ z, z = k_sA σ7 86 (j_up (σ7.1 86) ((4 * ((σ.1 83 e) + a)) + 1) (σ7.1 86 ((4 * (((σ.1 83 e) + a) - 1)) + 1))) := ⟨_, rfl⟩
              rw [← hσ8]
              refine a_iinc (pc := 174) (i := 9) (n := 1) (x := 1) (lv' := [(0, .ref 68), (1, j_i e), (2, j_i k), (3, j_i f), (4, j_i l), (5, j_i t), (6, j_i c), (7, j_i (σ.1 82 e)), (8, j_i a), (9, j_i 2)]) (by decide +kernel) rfl (Nat.le_of_ble_eq_true rfl) rfl ?_
              refine a_goto (pc := 177) (off := -49) (tgt := 128) (by decide +kernel) (by decide) ?_
              refine a_iload (pc := 128) (i := 9) (by decide +kernel) rfl ?_
              refine a_iconst (pc := 130) (n := 4) (by decide +kernel) ?_
              refine a_icmp_ge (pc := 131) (off := 49) (tgt := 180) (by decide +kernel) (by decide) (by omega) (by omega) (fun c131 => ?_) (fun c131 => ?_)
              · exact absurd c131 (by decide)
              · refine a_aload_n (pc := 134) (i := 0) (by decide +kernel) rfl ?_
                refine b_getR (pc := 135) (b := 86) fl_X12_66 (by decide +kernel) (sh_68 hn) rfl ?_
                refine a_iconst (pc := 138) (n := 4) (by decide +kernel) ?_
                refine a_aload_n (pc := 139) (i := 0) (by decide +kernel) rfl ?_
                refine b_getR (pc := 140) (b := 83) fl_X12_57 (by decide +kernel) (sh_68 hn) rfl ?_
                refine a_iload_n (pc := 143) (i := 1) (by decide +kernel) rfl ?_
                refine b_iaload (pc := 144) (by decide +kernel) (sh_83 hn) (by omega) (by omega) (by omega) ?_
                rw [show σ8.1 83 = σ7.1 83 by rw [hσ8]; exact k_AN (by omega)]
                rw [show σ7.1 83 = τ.1 83 by rw [hσ7]; exact k_AN (by omega)]
                rw [show τ.1 83 = σ.1 83 from hI.1 83 (by omega)]
                refine a_iload (pc := 145) (i := 8) (by decide +kernel) rfl ?_
                refine a_iadd (pc := 147) (by decide +kernel) ?_
                refine a_imul (pc := 148) (by decide +kernel) ?_
                refine a_iload (pc := 149) (i := 9) (by decide +kernel) rfl ?_
                refine a_iadd (pc := 151) (by decide +kernel) ?_
                refine a_aload_n (pc := 152) (i := 0) (by decide +kernel) rfl ?_
                refine b_getR (pc := 153) (b := 86) fl_X12_66 (by decide +kernel) (sh_68 hn) rfl ?_
                refine a_iconst (pc := 156) (n := 4) (by decide +kernel) ?_
                refine a_aload_n (pc := 157) (i := 0) (by decide +kernel) rfl ?_
                refine b_getR (pc := 158) (b := 83) fl_X12_57 (by decide +kernel) (sh_68 hn) rfl ?_
                refine a_iload_n (pc := 161) (i := 1) (by decide +kernel) rfl ?_
                refine b_iaload (pc := 162) (by decide +kernel) (sh_83 hn) (by omega) (by omega) (by omega) ?_
                rw [show σ8.1 83 = σ7.1 83 by rw [hσ8]; exact k_AN (by omega)]
                rw [show σ7.1 83 = τ.1 83 by rw [hσ7]; exact k_AN (by omega)]
                rw [show τ.1 83 = σ.1 83 from hI.1 83 (by omega)]
                refine a_iload (pc := 163) (i := 8) (by decide +kernel) rfl ?_
                refine a_iadd (pc := 165) (by decide +kernel) ?_
                refine a_iconst (pc := 166) (n := 1) (by decide +kernel) ?_
                refine a_isub (pc := 167) (by decide +kernel) ?_
                refine a_imul (pc := 168) (by decide +kernel) ?_
                refine a_iload (pc := 169) (i := 9) (by decide +kernel) rfl ?_
                refine a_iadd (pc := 171) (by decide +kernel) ?_
                refine b_iaload (pc := 172) (by decide +kernel) (sh_86 hn) (by omega) (by omega) (by omega) ?_
                refine b_iastore (pc := 173) (by decide +kernel) (sh_86 hn) (by omega) (by omega) (by omega) ?_
                obtain ⟨σ9, hσ9⟩ : ∃ z, z = k_sA σ8 86 (j_up (σ8.1 86) ((4 * ((σ.1 83 e) + a)) + 2) (σ8.1 86 ((4 * (((σ.1 83 e) + a) - 1)) + 2))) := ⟨_, rfl⟩
                rw [← hσ9]
                refine a_iinc (pc := 174) (i := 9) (n := 1) (x := 2) (lv' := [(0, .ref 68), (1, j_i e), (2, j_i k), (3, j_i f), (4, j_i l), (5, j_i t), (6, j_i c), (7, j_i (σ.1 82 e)), (8, j_i a), (9, j_i 3)]) (by decide +kernel) rfl (Nat.le_of_ble_eq_true rfl) rfl ?_
                refine a_goto (pc := 177) (off := -49) (tgt := 128) (by decide +kernel) (by decide) ?_
                refine a_iload (pc := 128) (i := 9) (by decide +kernel) rfl ?_
                refine a_iconst (pc := 130) (n := 4) (by decide +kernel) ?_
                refine a_icmp_ge (pc := 131) (off := 49) (tgt := 180) (by decide +kernel) (by decide) (by omega) (by omega) (fun c131 => ?_) (fun c131 => ?_)
                · exact absurd c131 (by decide)
                · refine a_aload_n (pc := 134) (i := 0) (by decide +kernel) rfl ?_
                  refine b_getR (pc := 135) (b := 86) fl_X12_66 (by decide +kernel) (sh_68 hn) rfl ?_
                  refine a_iconst (pc := 138) (n := 4) (by decide +kernel) ?_
                  refine a_aload_n (pc := 139) (i := 0) (by decide +kernel) rfl ?_
                  refine b_getR (pc := 140) (b := 83) fl_X12_57 (by decide +kernel) (sh_68 hn) rfl ?_
                  refine a_iload_n (pc := 143) (i := 1) (by decide +kernel) rfl ?_
                  refine b_iaload (pc := 144) (by decide +kernel) (sh_83 hn) (by omega) (by omega) (by omega) ?_
                  rw [show σ9.1 83 = σ8.1 83 by rw [hσ9]; exact k_AN (by omega)]
                  rw [show σ8.1 83 = σ7.1 83 by rw [hσ8]; exact k_AN (by omega)]
                  rw [show σ7.1 83 = τ.1 83 by rw [hσ7]; exact k_AN (by omega)]
                  rw [show τ.1 83 = σ.1 83 from hI.1 83 (by omega)]
                  refine a_iload (pc := 145) (i := 8) (by decide +kernel) rfl ?_
                  refine a_iadd (pc := 147) (by decide +kernel) ?_
                  refine a_imul (pc := 148) (by decide +kernel) ?_
                  refine a_iload (pc := 149) (i := 9) (by decide +kernel) rfl ?_
                  refine a_iadd (pc := 151) (by decide +kernel) ?_
                  refine a_aload_n (pc := 152) (i := 0) (by decide +kernel) rfl ?_
                  refine b_getR (pc := 153) (b := 86) fl_X12_66 (by decide +kernel) (sh_68 hn) rfl ?_
                  refine a_iconst (pc := 156) (n := 4) (by decide +kernel) ?_
                  refine a_aload_n (pc := 157) (i := 0) (by decide +kernel) rfl ?_
                  refine b_getR (pc := 158) (b := 83) fl_X12_57 (by decide +kernel) (sh_68 hn) rfl ?_
                  refine a_iload_n (pc := 161) (i := 1) (by decide +kernel) rfl ?_
                  refine b_iaload (pc := 162) (by decide +kernel) (sh_83 hn) (by omega) (by omega) (by omega) ?_
                  rw [show σ9.1 83 = σ8.1 83 by rw [hσ9]; exact k_AN (by omega)]
                  rw [show σ8.1 83 = σ7.1 83 by rw [hσ8]; exact k_AN (by omega)]
                  rw [show σ7.1 83 = τ.1 83 by rw [hσ7]; exact k_AN (by omega)]
                  rw [show τ.1 83 = σ.1 83 from hI.1 83 (by omega)]
                  refine a_iload (pc := 163) (i := 8) (by decide +kernel) rfl ?_
                  refine a_iadd (pc := 165) (by decide +kernel) ?_
                  refine a_iconst (pc := 166) (n := 1) (by decide +kernel) ?_
                  refine a_isub (pc := 167) (by decide +kernel) ?_
                  refine a_imul (pc := 168) (by decide +kernel) ?_
                  refine a_iload (pc := 169) (i := 9) (by decide +kernel) rfl ?_
                  refine a_iadd (pc := 171) (by decide +kernel) ?_
                  refine b_iaload (pc := 172) (by decide +kernel) (sh_86 hn) (by omega) (by omega) (by omega) ?_
                  refine b_iastore (pc := 173) (by decide +kernel) (sh_86 hn) (by omega) (by omega) (by omega) ?_
                  obtain ⟨σ10, hσ10⟩ : ∃ z, z = k_sA σ9 86 (j_up (σ9.1 86) ((4 * ((σ.1 83 e) + a)) + 3) (σ9.1 86 ((4 * (((σ.1 83 e) + a) - 1)) + 3))) := ⟨_, rfl⟩
                  rw [← hσ10]
                  refine a_iinc (pc := 174) (i := 9) (n := 1) (x := 3) (lv' := [(0, .ref 68), (1, j_i e), (2, j_i k), (3, j_i f), (4, j_i l), (5, j_i t), (6, j_i c), (7, j_i (σ.1 82 e)), (8, j_i a), (9, j_i 4)]) (by decide +kernel) rfl (Nat.le_of_ble_eq_true rfl) rfl ?_
                  refine a_goto (pc := 177) (off := -49) (tgt := 128) (by decide +kernel) (by decide) ?_
                  refine a_iload (pc := 128) (i := 9) (by decide +kernel) rfl ?_
                  refine a_iconst (pc := 130) (n := 4) (by decide +kernel) ?_
                  refine a_icmp_ge (pc := 131) (off := 49) (tgt := 180) (by decide +kernel) (by decide) (by omega) (by omega) (fun c131 => ?_) (fun c131 => ?_)
                  · refine a_iinc (pc := 180) (i := 8) (n := -1) (x := a) (lv' := [(0, .ref 68), (1, j_i e), (2, j_i k), (3, j_i f), (4, j_i l), (5, j_i t), (6, j_i c), (7, j_i (σ.1 82 e)), (8, j_i (a + (-1))), (9, j_i 4)]) (by decide +kernel) rfl (Nat.le_of_ble_eq_true rfl) rfl ?_
                    refine a_goto (pc := 183) (off := -89) (tgt := 94) (by decide +kernel) (by decide) ?_
                    exact a_sub (lv' := [(0, .ref 68), (1, j_i e), (2, j_i k), (3, j_i f), (4, j_i l), (5, j_i t), (6, j_i c), (7, j_i (σ.1 82 e)), (8, j_i (a + -1))]) (fun q hq => by simp only [List.mem_cons, List.not_mem_nil, or_false] at hq ⊢; rcases hq with rfl | rfl | rfl | rfl | rfl | rfl | rfl | rfl | rfl <;> simp) (ih (a + -1) σ10 (by omega) (by omega) (by omega) (IP_s hI (by omega) hσ7 hσ8 hσ9 hσ10) (fun j j0 j1 => by
                      by_cases q : j = a - 1
                      · rw [q]; show q_w c (k, f, l, t) < _; rw [gw]; exact p119
                      · exact hW j (by omega) j1))
                  · exact absurd c131 (by decide)
      · show j_at _ _ _ [(0, .ref 68), (1, j_i e), (2, j_i k), (3, j_i f), (4, j_i l), (5, j_i t), (6, j_i c), (7, j_i (σ.1 82 e)), (8, j_i a)] [j_i 0] _ _ _ _
        refine a_if_eq (pc := 122) (off := 64) (tgt := 186) (by decide +kernel) (by decide) (by omega) (fun c122 => ?_) (fun c122 => ?_)
        · have hlow : ∀ i, 0 ≤ i → i < a → q_lt c (q4 (σ.1 86) (σ.1 83 e + i)) (k, f, l, t) := by
            by_cases z0 : a = 0
            · intro i i0 i1; omega
            · have w1 : q_w c (q4 (σ.1 86) (σ.1 83 e + (a - 1))) ≤ q_w c (k, f, l, t) := by
                first | exact absurd z0 (by omega) | (rw [gw]; exact Int.not_lt.mp p119)
              have w2 : S (q4 (σ.1 86) (σ.1 83 e + (a - 1))) := (gD _).mp ⟨a - 1, by omega, by omega, rfl⟩
              have w3 : q_w c (q4 (σ.1 86) (σ.1 83 e + (a - 1))) ≠ q_w c (k, f, l, t) := fun w => hnS (by rw [← hd _ w2 w]; exact w2)
              intro i i0 i1
              by_cases q : i = a - 1
              · rw [q]; show q_w c _ < q_w c _; omega
              · have w4 : q_w c (q4 (σ.1 86) (σ.1 83 e + i)) < q_w c (q4 (σ.1 86) (σ.1 83 e + (a - 1))) := gC i (a - 1) i0 (by omega) (by omega)
                show q_w c _ < q_w c _; omega
          refine a_iconst (pc := 186) (n := 4) (by decide +kernel) ?_
          refine a_aload_n (pc := 187) (i := 0) (by decide +kernel) rfl ?_
          refine b_getR (pc := 188) (b := 83) fl_X12_57 (by decide +kernel) (sh_68 hn) rfl ?_
          refine a_iload_n (pc := 191) (i := 1) (by decide +kernel) rfl ?_
          refine b_iaload (pc := 192) (by decide +kernel) (sh_83 hn) (by omega) (by omega) (by omega) ?_
          rw [show τ.1 83 = σ.1 83 from hI.1 83 (by omega)]
          refine a_iload (pc := 193) (i := 8) (by decide +kernel) rfl ?_
          refine a_iadd (pc := 195) (by decide +kernel) ?_
          refine a_imul (pc := 196) (by decide +kernel) ?_
          refine a_istore (pc := 197) (i := 9) (lv' := [(0, .ref 68), (1, j_i e), (2, j_i k), (3, j_i f), (4, j_i l), (5, j_i t), (6, j_i c), (7, j_i (σ.1 82 e)), (8, j_i a), (9, j_i (4 * ((σ.1 83 e) + a)))]) (by decide +kernel) (Nat.le_of_ble_eq_true rfl) rfl ?_
          refine a_aload_n (pc := 199) (i := 0) (by decide +kernel) rfl ?_
          refine b_getR (pc := 200) (b := 86) fl_X12_66 (by decide +kernel) (sh_68 hn) rfl ?_
          refine a_iload (pc := 203) (i := 9) (by decide +kernel) rfl ?_
          refine a_iload_n (pc := 205) (i := 2) (by decide +kernel) rfl ?_
          refine b_iastore (pc := 206) (by decide +kernel) (sh_86 hn) (by omega) (by omega) (by omega) ?_
          obtain ⟨σ11, hσ11⟩ : ∃ z, z = k_sA τ 86 (j_up (τ.1 86) (4 * ((σ.1 83 e) + a)) k) := ⟨_, rfl⟩
          rw [← hσ11]
          refine a_aload_n (pc := 207) (i := 0) (by decide +kernel) rfl ?_
          refine b_getR (pc := 208) (b := 86) fl_X12_66 (by decide +kernel) (sh_68 hn) rfl ?_
          refine a_iload (pc := 211) (i := 9) (by decide +kernel) rfl ?_
          refine a_iconst (pc := 213) (n := 1) (by decide +kernel) ?_
          refine a_iadd (pc := 214) (by decide +kernel) ?_
          refine a_iload_n (pc := 215) (i := 3) (by decide +kernel) rfl ?_
          refine b_iastore (pc := 216) (by decide +kernel) (sh_86 hn) (by omega) (by omega) (by omega) ?_
          obtain ⟨σ12, hσ12⟩ : ∃ z, z = k_sA σ11 86 (j_up (σ11.1 86) ((4 * ((σ.1 83 e) + a)) + 1) f) := ⟨_, rfl⟩
          rw [← hσ12]
          refine a_aload_n (pc := 217) (i := 0) (by decide +kernel) rfl ?_
          refine b_getR (pc := 218) (b := 86) fl_X12_66 (by decide +kernel) (sh_68 hn) rfl ?_
          refine a_iload (pc := 221) (i := 9) (by decide +kernel) rfl ?_
          refine a_iconst (pc := 223) (n := 2) (by decide +kernel) ?_
          refine a_iadd (pc := 224) (by decide +kernel) ?_
          refine a_iload (pc := 225) (i := 4) (by decide +kernel) rfl ?_
          refine b_iastore (pc := 227) (by decide +kernel) (sh_86 hn) (by omega) (by omega) (by omega) ?_
          obtain ⟨σ13, hσ13⟩ : ∃ z, z = k_sA σ12 86 (j_up (σ12.1 86) ((4 * ((σ.1 83 e) + a)) + 2) l) := ⟨_, rfl⟩
          rw [← hσ13]
          refine a_aload_n (pc := 228) (i := 0) (by decide +kernel) rfl ?_
          refine b_getR (pc := 229) (b := 86) fl_X12_66 (by decide +kernel) (sh_68 hn) rfl ?_
          refine a_iload (pc := 232) (i := 9) (by decide +kernel) rfl ?_
          refine a_iconst (pc := 234) (n := 3) (by decide +kernel) ?_
          refine a_iadd (pc := 235) (by decide +kernel) ?_
          refine a_iload (pc := 236) (i := 5) (by decide +kernel) rfl ?_
          refine b_iastore (pc := 238) (by decide +kernel) (sh_86 hn) (by omega) (by omega) (by omega) ?_
          obtain ⟨σ14, hσ14⟩ : ∃ z, z = k_sA σ13 86 (j_up (σ13.1 86) ((4 * ((σ.1 83 e) + a)) + 3) t) := ⟨_, rfl⟩
          rw [← hσ14]
          refine a_aload_n (pc := 239) (i := 0) (by decide +kernel) rfl ?_
          refine b_getR (pc := 240) (b := 82) fl_X12_54 (by decide +kernel) (sh_68 hn) rfl ?_
          refine a_iload_n (pc := 243) (i := 1) (by decide +kernel) rfl ?_
          refine a_dup2 (pc := 244) (by decide +kernel) rfl rfl ?_
          refine b_iaload (pc := 245) (by decide +kernel) (sh_82 hn) (by omega) (by omega) (by omega) ?_
          rw [show σ14.1 82 = σ13.1 82 by rw [hσ14]; exact k_AN (by omega)]
          rw [show σ13.1 82 = σ12.1 82 by rw [hσ13]; exact k_AN (by omega)]
          rw [show σ12.1 82 = σ11.1 82 by rw [hσ12]; exact k_AN (by omega)]
          rw [show σ11.1 82 = τ.1 82 by rw [hσ11]; exact k_AN (by omega)]
          rw [show τ.1 82 = σ.1 82 from hI.1 82 (by omega)]
          refine a_iconst (pc := 246) (n := 1) (by decide +kernel) ?_
          refine a_iadd (pc := 247) (by decide +kernel) ?_
          refine b_iastore (pc := 248) (by decide +kernel) (sh_82 hn) (by omega) (by omega) (by omega) ?_
          obtain ⟨σ15, hσ15⟩ : ∃ z, z = k_sA σ14 82 (j_up (σ14.1 82) e ((σ.1 82 e) + 1)) := ⟨_, rfl⟩
          rw [← hσ15]
          refine a_aload_n (pc := 249) (i := 0) (by decide +kernel) rfl ?_
          refine a_dup (pc := 250) (by decide +kernel) rfl ?_
          refine b_getI (pc := 251) fl_X12_327 (by decide +kernel) (sh_68 hn) rfl ?_
          rw [show σ15.2.1 68 32 = σ14.2.1 68 32 by rw [hσ15]; rfl]
          rw [show σ14.2.1 68 32 = σ13.2.1 68 32 by rw [hσ14]; rfl]
          rw [show σ13.2.1 68 32 = σ12.2.1 68 32 by rw [hσ13]; rfl]
          rw [show σ12.2.1 68 32 = σ11.2.1 68 32 by rw [hσ12]; rfl]
          rw [show σ11.2.1 68 32 = τ.2.1 68 32 by rw [hσ11]; rfl]
          rw [show τ.2.1 68 32 = σ.2.1 68 32 from (by rw [hI.2.1])]
          refine a_iconst (pc := 254) (n := 1) (by decide +kernel) ?_
          refine a_iadd (pc := 255) (by decide +kernel) ?_
          refine b_putI (pc := 256) fl_X12_327 (by decide +kernel) (sh_68 hn) rfl rfl rfl ?_
          obtain ⟨σ16, hσ16⟩ : ∃ z, z = k_sI σ15 68 32 ((σ.2.1 68 32) + 1) := ⟨_, rfl⟩
          rw [← hσ16]
          refine a_return (pc := 259) (by decide +kernel) rfl ?_
          refine k_ret ?_
          have y := PSg_add hG hI (by omega) (by omega) hy hlow hW hσ11 hσ12 hσ13 hσ14 hσ15 hσ16
          exact ⟨rfl, rfl, y.1, by omega, by omega, y.2.2⟩
        · exact absurd c122 (by decide)
set_option maxHeartbeats 4000000 in
theorem l_ap11 {G : j_G} {X : k_X} {n : Nat} {σ : k_St} (hn : 101 ≤ n) {e k f l t c : Int} {S : q_T → Prop} (hG : PSg σ e c S) (he : 0 ≤ e ∧ e < 150) (hb : σ.2.1 68 32 ≤ 190) (hy : q_ok (k, f, l, t)) (hd : ∀ x, S x → q_w c x = q_w c (k, f, l, t) → x = (k, f, l, t)) (rc : c = 0 ∨ c = 1)  : ∀ (z : Nat) (i : Int), σ.1 82 e - i < (z : Int) → 0 ≤ i → i ≤ σ.1 82 e → (∀ q, 0 ≤ q → q < i → q4 (σ.1 86) (σ.1 83 e + q) ≠ (k, f, l, t)) → j_at G mX12_addPlace 11 [(0, .ref 68), (1, j_i e), (2, j_i k), (3, j_i f), (4, j_i l), (5, j_i t), (6, j_i c), (7, j_i (σ.1 82 e)), (8, j_i i)] [] (k_h X n σ) 0 0 (k_Q X (fun v n' τ => v = none ∧ n' = n ∧ plf σ τ e ∧ σ.2.1 68 32 ≤ τ.2.1 68 32 ∧ τ.2.1 68 32 ≤ σ.2.1 68 32 + 1 ∧ PSg τ e c (fun x => S x ∨ x = (k, f, l, t)))) := by
  obtain ⟨gA, gB, gC, gD⟩ := id hG
  obtain ⟨hyk, hyf, hyl, hyt⟩ : kd k ∧ (0 ≤ f ∧ f ≤ 299) ∧ (0 ≤ l ∧ l ≤ 299) ∧ (0 ≤ t ∧ t ≤ 99) := id hy
  have hyk2 : 0 ≤ k ∧ k ≤ 5 := by unfold kd at hyk; omega
  intro z
  induction z with
  | zero => intro i h1 h2 h3; exact absurd h1 (by omega)
  | succ z ih =>
    intro i hz i0 iN hI
    refine a_iload (pc := 11) (i := 8) (by decide +kernel) rfl ?_
    refine a_iload (pc := 13) (i := 7) (by decide +kernel) rfl ?_
    refine a_icmp_ge (pc := 15) (off := 75) (tgt := 90) (by decide +kernel) (by decide) (by omega) (by omega) (fun c15 => ?_) (fun c15 => ?_)
    · refine a_iload (pc := 90) (i := 7) (by decide +kernel) rfl ?_
      refine a_istore (pc := 92) (i := 8) (lv' := [(0, .ref 68), (1, j_i e), (2, j_i k), (3, j_i f), (4, j_i l), (5, j_i t), (6, j_i c), (7, j_i (σ.1 82 e)), (8, j_i (σ.1 82 e))]) (by decide +kernel) (Nat.le_of_ble_eq_true rfl) rfl ?_
      exact l_ap94 hn hG he hb hy hd rc (fun w => by obtain ⟨q, q0, q1, q2⟩ := (gD _).mpr w; exact hI q q0 (by omega) q2) (σ.1 82 e).toNat.succ (σ.1 82 e) σ (by omega) (by omega) (by omega) ⟨fun _ _ => rfl, rfl, by rw [show 4 * (σ.1 82 e - σ.1 82 e) = 0 by omega, j_cpy_0]⟩ (fun j j0 j1 => absurd j0 (by omega))
    · have gq : kd (σ.1 86 (4 * (σ.1 83 e + i))) ∧ (0 ≤ σ.1 86 (4 * (σ.1 83 e + i) + 1) ∧ σ.1 86 (4 * (σ.1 83 e + i) + 1) ≤ 299) ∧ (0 ≤ σ.1 86 (4 * (σ.1 83 e + i) + 2) ∧ σ.1 86 (4 * (σ.1 83 e + i) + 2) ≤ 299) ∧ (0 ≤ σ.1 86 (4 * (σ.1 83 e + i) + 3) ∧ σ.1 86 (4 * (σ.1 83 e + i) + 3) ≤ 99) := gB i (by omega) (by omega)
      have gk : 0 ≤ σ.1 86 (4 * (σ.1 83 e + i)) ∧ σ.1 86 (4 * (σ.1 83 e + i)) ≤ 5 := by have z := gq.1; unfold kd at z; omega
      refine a_iconst (pc := 18) (n := 4) (by decide +kernel) ?_
      refine a_aload_n (pc := 19) (i := 0) (by decide +kernel) rfl ?_
      refine b_getR (pc := 20) (b := 83) fl_X12_57 (by decide +kernel) (sh_68 hn) rfl ?_
      refine a_iload_n (pc := 23) (i := 1) (by decide +kernel) rfl ?_
      refine b_iaload (pc := 24) (by decide +kernel) (sh_83 hn) (by omega) (by omega) (by omega) ?_
      refine a_iload (pc := 25) (i := 8) (by decide +kernel) rfl ?_
      refine a_iadd (pc := 27) (by decide +kernel) ?_
      refine a_imul (pc := 28) (by decide +kernel) ?_
      refine a_istore (pc := 29) (i := 9) (lv' := [(0, .ref 68), (1, j_i e), (2, j_i k), (3, j_i f), (4, j_i l), (5, j_i t), (6, j_i c), (7, j_i (σ.1 82 e)), (8, j_i i), (9, j_i (4 * ((σ.1 83 e) + i)))]) (by decide +kernel) (Nat.le_of_ble_eq_true rfl) rfl ?_
      refine a_aload_n (pc := 31) (i := 0) (by decide +kernel) rfl ?_
      refine b_getR (pc := 32) (b := 86) fl_X12_66 (by decide +kernel) (sh_68 hn) rfl ?_
      refine a_iload (pc := 35) (i := 9) (by decide +kernel) rfl ?_
      refine b_iaload (pc := 37) (by decide +kernel) (sh_86 hn) (by omega) (by omega) (by omega) ?_
      refine a_iload_n (pc := 38) (i := 2) (by decide +kernel) rfl ?_
      refine a_icmp_ne (pc := 39) (off := 45) (tgt := 84) (by decide +kernel) (by decide) (by omega) (by omega) (fun c39 => ?_) (fun c39 => ?_)
      · refine a_iinc (pc := 84) (i := 8) (n := 1) (x := i) (lv' := [(0, .ref 68), (1, j_i e), (2, j_i k), (3, j_i f), (4, j_i l), (5, j_i t), (6, j_i c), (7, j_i (σ.1 82 e)), (8, j_i (i + 1)), (9, j_i (4 * ((σ.1 83 e) + i)))]) (by decide +kernel) rfl (Nat.le_of_ble_eq_true rfl) rfl ?_
        refine a_goto (pc := 87) (off := -76) (tgt := 11) (by decide +kernel) (by decide) ?_
        exact a_sub (lv' := [(0, .ref 68), (1, j_i e), (2, j_i k), (3, j_i f), (4, j_i l), (5, j_i t), (6, j_i c), (7, j_i (σ.1 82 e)), (8, j_i (i + 1))]) (fun q hq => by simp only [List.mem_cons, List.not_mem_nil, or_false] at hq ⊢; rcases hq with rfl | rfl | rfl | rfl | rfl | rfl | rfl | rfl | rfl <;> simp) (ih (i + 1) (by omega) (by omega) (by omega) (fun q q0 q1 => by by_cases w : q = i; (rw [w]; intro v; have v1 : σ.1 86 (4 * (σ.1 83 e + i)) = k := congrArg Prod.fst v; have v2 : σ.1 86 (4 * (σ.1 83 e + i) + 1) = f := congrArg (fun x => x.2.1) v; have v3 : σ.1 86 (4 * (σ.1 83 e + i) + 2) = l := congrArg (fun x => x.2.2.1) v; have v4 : σ.1 86 (4 * (σ.1 83 e + i) + 3) = t := congrArg (fun x => x.2.2.2) v; omega); exact hI q q0 (by omega)))
      · refine a_aload_n (pc := 42) (i := 0) (by decide +kernel) rfl ?_
        refine b_getR (pc := 43) (b := 86) fl_X12_66 (by decide +kernel) (sh_68 hn) rfl ?_
        refine a_iload (pc := 46) (i := 9) (by decide +kernel) rfl ?_
        refine a_iconst (pc := 48) (n := 1) (by decide +kernel) ?_
        refine a_iadd (pc := 49) (by decide +kernel) ?_
        refine b_iaload (pc := 50) (by decide +kernel) (sh_86 hn) (by omega) (by omega) (by omega) ?_
        refine a_iload_n (pc := 51) (i := 3) (by decide +kernel) rfl ?_
        refine a_icmp_ne (pc := 52) (off := 32) (tgt := 84) (by decide +kernel) (by decide) (by omega) (by omega) (fun c52 => ?_) (fun c52 => ?_)
        · refine a_iinc (pc := 84) (i := 8) (n := 1) (x := i) (lv' := [(0, .ref 68), (1, j_i e), (2, j_i k), (3, j_i f), (4, j_i l), (5, j_i t), (6, j_i c), (7, j_i (σ.1 82 e)), (8, j_i (i + 1)), (9, j_i (4 * ((σ.1 83 e) + i)))]) (by decide +kernel) rfl (Nat.le_of_ble_eq_true rfl) rfl ?_
          refine a_goto (pc := 87) (off := -76) (tgt := 11) (by decide +kernel) (by decide) ?_
          exact a_sub (lv' := [(0, .ref 68), (1, j_i e), (2, j_i k), (3, j_i f), (4, j_i l), (5, j_i t), (6, j_i c), (7, j_i (σ.1 82 e)), (8, j_i (i + 1))]) (fun q hq => by simp only [List.mem_cons, List.not_mem_nil, or_false] at hq ⊢; rcases hq with rfl | rfl | rfl | rfl | rfl | rfl | rfl | rfl | rfl <;> simp) (ih (i + 1) (by omega) (by omega) (by omega) (fun q q0 q1 => by by_cases w : q = i; (rw [w]; intro v; have v1 : σ.1 86 (4 * (σ.1 83 e + i)) = k := congrArg Prod.fst v; have v2 : σ.1 86 (4 * (σ.1 83 e + i) + 1) = f := congrArg (fun x => x.2.1) v; have v3 : σ.1 86 (4 * (σ.1 83 e + i) + 2) = l := congrArg (fun x => x.2.2.1) v; have v4 : σ.1 86 (4 * (σ.1 83 e + i) + 3) = t := congrArg (fun x => x.2.2.2) v; omega); exact hI q q0 (by omega)))
        · refine a_aload_n (pc := 55) (i := 0) (by decide +kernel) rfl ?_
          refine b_getR (pc := 56) (b := 86) fl_X12_66 (by decide +kernel) (sh_68 hn) rfl ?_
          refine a_iload (pc := 59) (i := 9) (by decide +kernel) rfl ?_
          refine a_iconst (pc := 61) (n := 2) (by decide +kernel) ?_
          refine a_iadd (pc := 62) (by decide +kernel) ?_
          refine b_iaload (pc := 63) (by decide +kernel) (sh_86 hn) (by omega) (by omega) (by omega) ?_
          refine a_iload (pc := 64) (i := 4) (by decide +kernel) rfl ?_
          refine a_icmp_ne (pc := 66) (off := 18) (tgt := 84) (by decide +kernel) (by decide) (by omega) (by omega) (fun c66 => ?_) (fun c66 => ?_)
          · refine a_iinc (pc := 84) (i := 8) (n := 1) (x := i) (lv' := [(0, .ref 68), (1, j_i e), (2, j_i k), (3, j_i f), (4, j_i l), (5, j_i t), (6, j_i c), (7, j_i (σ.1 82 e)), (8, j_i (i + 1)), (9, j_i (4 * ((σ.1 83 e) + i)))]) (by decide +kernel) rfl (Nat.le_of_ble_eq_true rfl) rfl ?_
            refine a_goto (pc := 87) (off := -76) (tgt := 11) (by decide +kernel) (by decide) ?_
            exact a_sub (lv' := [(0, .ref 68), (1, j_i e), (2, j_i k), (3, j_i f), (4, j_i l), (5, j_i t), (6, j_i c), (7, j_i (σ.1 82 e)), (8, j_i (i + 1))]) (fun q hq => by simp only [List.mem_cons, List.not_mem_nil, or_false] at hq ⊢; rcases hq with rfl | rfl | rfl | rfl | rfl | rfl | rfl | rfl | rfl <;> simp) (ih (i + 1) (by omega) (by omega) (by omega) (fun q q0 q1 => by by_cases w : q = i; (rw [w]; intro v; have v1 : σ.1 86 (4 * (σ.1 83 e + i)) = k := congrArg Prod.fst v; have v2 : σ.1 86 (4 * (σ.1 83 e + i) + 1) = f := congrArg (fun x => x.2.1) v; have v3 : σ.1 86 (4 * (σ.1 83 e + i) + 2) = l := congrArg (fun x => x.2.2.1) v; have v4 : σ.1 86 (4 * (σ.1 83 e + i) + 3) = t := congrArg (fun x => x.2.2.2) v; omega); exact hI q q0 (by omega)))
          · refine a_aload_n (pc := 69) (i := 0) (by decide +kernel) rfl ?_
            refine b_getR (pc := 70) (b := 86) fl_X12_66 (by decide +kernel) (sh_68 hn) rfl ?_
            refine a_iload (pc := 73) (i := 9) (by decide +kernel) rfl ?_
            refine a_iconst (pc := 75) (n := 3) (by decide +kernel) ?_
            refine a_iadd (pc := 76) (by decide +kernel) ?_
            refine b_iaload (pc := 77) (by decide +kernel) (sh_86 hn) (by omega) (by omega) (by omega) ?_
            refine a_iload (pc := 78) (i := 5) (by decide +kernel) rfl ?_
            refine a_icmp_ne (pc := 80) (off := 4) (tgt := 84) (by decide +kernel) (by decide) (by omega) (by omega) (fun c80 => ?_) (fun c80 => ?_)
            · refine a_iinc (pc := 84) (i := 8) (n := 1) (x := i) (lv' := [(0, .ref 68), (1, j_i e), (2, j_i k), (3, j_i f), (4, j_i l), (5, j_i t), (6, j_i c), (7, j_i (σ.1 82 e)), (8, j_i (i + 1)), (9, j_i (4 * ((σ.1 83 e) + i)))]) (by decide +kernel) rfl (Nat.le_of_ble_eq_true rfl) rfl ?_
              refine a_goto (pc := 87) (off := -76) (tgt := 11) (by decide +kernel) (by decide) ?_
              exact a_sub (lv' := [(0, .ref 68), (1, j_i e), (2, j_i k), (3, j_i f), (4, j_i l), (5, j_i t), (6, j_i c), (7, j_i (σ.1 82 e)), (8, j_i (i + 1))]) (fun q hq => by simp only [List.mem_cons, List.not_mem_nil, or_false] at hq ⊢; rcases hq with rfl | rfl | rfl | rfl | rfl | rfl | rfl | rfl | rfl <;> simp) (ih (i + 1) (by omega) (by omega) (by omega) (fun q q0 q1 => by by_cases w : q = i; (rw [w]; intro v; have v1 : σ.1 86 (4 * (σ.1 83 e + i)) = k := congrArg Prod.fst v; have v2 : σ.1 86 (4 * (σ.1 83 e + i) + 1) = f := congrArg (fun x => x.2.1) v; have v3 : σ.1 86 (4 * (σ.1 83 e + i) + 2) = l := congrArg (fun x => x.2.2.1) v; have v4 : σ.1 86 (4 * (σ.1 83 e + i) + 3) = t := congrArg (fun x => x.2.2.2) v; omega); exact hI q q0 (by omega)))
            · refine a_return (pc := 83) (by decide +kernel) rfl ?_
              refine k_ret ?_
              have hin : S (k, f, l, t) := (gD _).mp ⟨i, by omega, by omega, by show q4 (σ.1 86) (σ.1 83 e + i) = _; unfold q4; rw [c39, c52, c66, c80]⟩
              exact ⟨rfl, rfl, plf_r, by omega, by omega, gA, gB, gC, fun x => (gD x).trans ⟨Or.inl, fun w => by rcases w with w | w; exact w; rw [w]; exact hin⟩⟩
set_option maxHeartbeats 4000000 in
theorem e_addPlace {G : j_G} {X : k_X} {n : Nat} {σ : k_St} (hn : 101 ≤ n) {e k f l t c : Int} {S : q_T → Prop} (hG : PSg σ e c S) (he : 0 ≤ e ∧ e < 150) (hb : σ.2.1 68 32 ≤ 190) (hy : q_ok (k, f, l, t)) (hd : ∀ x, S x → q_w c x = q_w c (k, f, l, t) → x = (k, f, l, t)) (rc : c = 0 ∨ c = 1)  : k_run G X mX12_addPlace [.ref 68, j_i e, j_i k, j_i f, j_i l, j_i t, j_i c] n σ 0 0 (fun v n' τ => v = none ∧ n' = n ∧ plf σ τ e ∧ σ.2.1 68 32 ≤ τ.2.1 68 32 ∧ τ.2.1 68 32 ≤ σ.2.1 68 32 + 1 ∧ PSg τ e c (fun x => S x ∨ x = (k, f, l, t))) := by
  obtain ⟨gA, gB, gC, gD⟩ := id hG
  obtain ⟨hyk, hyf, hyl, hyt⟩ : kd k ∧ (0 ≤ f ∧ f ≤ 299) ∧ (0 ≤ l ∧ l ≤ 299) ∧ (0 ≤ t ∧ t ≤ 99) := id hy
  have hyk2 : 0 ≤ k ∧ k ≤ 5 := by unfold kd at hyk; omega
  refine k_enter (by decide +kernel) (Nat.le_of_ble_eq_true rfl) ?_
  show j_at _ _ _ [(0, .ref 68), (1, j_i e), (2, j_i k), (3, j_i f), (4, j_i l), (5, j_i t), (6, j_i c)] [] _ _ _ _
  refine a_aload_n (pc := 0) (i := 0) (by decide +kernel) rfl ?_
  refine b_getR (pc := 1) (b := 82) fl_X12_54 (by decide +kernel) (sh_68 hn) rfl ?_
  refine a_iload_n (pc := 4) (i := 1) (by decide +kernel) rfl ?_
  refine b_iaload (pc := 5) (by decide +kernel) (sh_82 hn) (by omega) (by omega) (by omega) ?_
  refine a_istore (pc := 6) (i := 7) (lv' := [(0, .ref 68), (1, j_i e), (2, j_i k), (3, j_i f), (4, j_i l), (5, j_i t), (6, j_i c), (7, j_i (σ.1 82 e))]) (by decide +kernel) (Nat.le_of_ble_eq_true rfl) rfl ?_
  refine a_iconst (pc := 8) (n := 0) (by decide +kernel) ?_
  refine a_istore (pc := 9) (i := 8) (lv' := [(0, .ref 68), (1, j_i e), (2, j_i k), (3, j_i f), (4, j_i l), (5, j_i t), (6, j_i c), (7, j_i (σ.1 82 e)), (8, j_i 0)]) (by decide +kernel) (Nat.le_of_ble_eq_true rfl) rfl ?_
  exact l_ap11 hn hG he hb hy hd rc (σ.1 82 e).toNat.succ 0 (by omega) (by omega) (by omega) (fun q q0 q1 => absurd q1 (by omega))
