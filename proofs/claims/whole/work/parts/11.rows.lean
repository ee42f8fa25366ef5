theorem j_fitI {M M' : j_M} (h1 : Nat.ble (M'.2.2.2.2.1 + 1) M.2.2.2.2.1 = true) (h2 : Nat.ble (8 + (M'.2.2.1 + 11) + M'.2.2.2.2.2) M.2.2.2.2.2 = true) : j_fit M M' := ⟨Nat.le_of_ble_eq_true h1, Nat.le_of_ble_eq_true h2⟩
theorem j_i2l {x : Int} (hx : -2147483648 ≤ x ∧ x ≤ 2147483647) : (Int32.ofInt x).toInt64 = Int64.ofInt x := by
  rw [← Int64.toInt_inj, Int32.toInt_toInt64, j_ti hx, j_lti (by omega)]
theorem j_i2b {x : Int} (hx : -128 ≤ x ∧ x ≤ 127) : (Int32.ofInt x).toInt8.toInt32 = Int32.ofInt x := by
  rw [← Int32.toInt_inj, Int8.toInt_toInt32, Int32.toInt_toInt8, j_ti (by omega)]
  exact Int.bmod_eq_of_le (by omega) (by omega)
theorem k_post {G : j_G} {X : k_X} {M : j_M} {args : List Value} {n : Nat} {σ : k_St} {c sl : Nat} {Q Q' : k_P} (hq : ∀ v n' σ', Q v n' σ' → Q' v n' σ') (h : k_run G X M args n σ c sl Q) : k_run G X M args n σ c sl Q' := by
  intro p e ha hc hk s m args0 below hf happ hP ht
  obtain ⟨t, o, a1, a2, a3, ⟨⟨v, h', c1, ⟨n', σ', c2, c3⟩, c4⟩, c5⟩, a5⟩ := h p e ha hc hk s m args0 below hf happ hP ht
  exact ⟨t, o, a1, a2, a3, ⟨⟨v, h', c1, ⟨n', σ', c2, hq _ _ _ c3⟩, c4⟩, c5⟩, a5⟩
/-- Rows at a, of R rows -/
def r_at (X : k_X) (n a R : Nat) : Prop := 5 ≤ a ∧ R ≤ 30 ∧ k_has X n a (.inr (.inr (9, [a + 1 + 3, a + 2 + 3]))) ∧ k_has X n (a + 1) (.inl (1, 16 * R)) ∧ k_has X n (a + 2) (.inl (0, R))
def r_cnt (σ : k_St) (a R : Nat) (row : Int) : Int := if 0 ≤ row ∧ row < R then σ.1 (a + 2) row else 0
def r_sgn (σ : k_St) (a R : Nat) (row i : Int) : Int := if 0 ≤ row ∧ row < R ∧ 0 ≤ i ∧ i < σ.1 (a + 2) row then σ.1 (a + 1) (row * 16 + i) else -9
/-- counts of 0 to 16, signs of a byte -/
def r_wf (σ : k_St) (a R : Nat) : Prop := (∀ r : Int, 0 ≤ r → r < R → 0 ≤ σ.1 (a + 2) r ∧ σ.1 (a + 2) r ≤ 16) ∧ ∀ i : Int, -128 ≤ σ.1 (a + 1) i ∧ σ.1 (a + 1) i ≤ 127
theorem r_cnt_in {σ : k_St} {a R : Nat} (h : r_wf σ a R) (row : Int) : 0 ≤ r_cnt σ a R row ∧ r_cnt σ a R row ≤ 16 := by
  unfold r_cnt; split
  · exact h.1 row (by omega) (by omega)
  · omega
theorem r_sgn_in {σ : k_St} {a R : Nat} (h : r_wf σ a R) (row i : Int) : -128 ≤ r_sgn σ a R row i ∧ r_sgn σ a R row i ≤ 127 := by
  unfold r_sgn; split
  · exact h.2 _
  · omega

set_option maxHeartbeats 4000000 in
theorem s_countOf {G : j_G} {X : k_X} {n : Nat} {σ : k_St} {a R : Nat} {row : Int} (hR : r_at X n a R) (hw : r_wf σ a R) (hrow : -2147483648 ≤ row ∧ row ≤ 2147483647) : k_run G X mX9_countOf [.ref a, j_i row] n σ 0 0 (k_is n σ (some (j_i (r_cnt σ a R row)))) := by
  obtain ⟨h5, h30, hs0, hs1, hs2⟩ := id hR
  refine k_enter (by decide +kernel) (Nat.le_of_ble_eq_true rfl) ?_
  show j_at _ _ _ [(0, .ref a), (1, j_i row)] [] _ _ _ _
  refine a_iload_n (pc := 0) (i := 1) (by decide +kernel) rfl ?_
  refine a_if_lt (pc := 1) (off := 21) (tgt := 22) (by decide +kernel) (by decide) (by omega) (fun c1 => ?_) (fun c1 => ?_)
  · refine a_iconst (pc := 22) (n := 0) (by decide +kernel) ?_
    refine a_ireturn (pc := 23) (by decide +kernel) rfl ?_
    refine k_ret ?_
    refine ⟨?_, rfl, rfl⟩
    simp only [r_cnt]
    first | rw [if_pos (by omega)] | rw [if_neg (by omega)]
  · refine a_iload_n (pc := 4) (i := 1) (by decide +kernel) rfl ?_
    refine a_aload_n (pc := 5) (i := 0) (by decide +kernel) rfl ?_
    refine b_getR (pc := 6) (b := a + 2) fl_X9_21 (by decide +kernel) hs0 rfl ?_
    refine b_len (pc := 9) (by decide +kernel) hs2 (by decide) ?_
    refine a_icmp_ge (pc := 10) (off := 12) (tgt := 22) (by decide +kernel) (by decide) (by omega) (by omega) (fun c10 => ?_) (fun c10 => ?_)
    · refine a_iconst (pc := 22) (n := 0) (by decide +kernel) ?_
      refine a_ireturn (pc := 23) (by decide +kernel) rfl ?_
      refine k_ret ?_
      refine ⟨?_, rfl, rfl⟩
      simp only [r_cnt]
      first | rw [if_pos (by omega)] | rw [if_neg (by omega)]
    · refine a_aload_n (pc := 13) (i := 0) (by decide +kernel) rfl ?_
      refine b_getR (pc := 14) (b := a + 2) fl_X9_21 (by decide +kernel) hs0 rfl ?_
      refine a_iload_n (pc := 17) (i := 1) (by decide +kernel) rfl ?_
      refine b_iaload (pc := 18) (by decide +kernel) hs2 (by omega) (by omega) (by omega) ?_
      refine a_goto (pc := 19) (off := 4) (tgt := 23) (by decide +kernel) (by decide) ?_
      refine a_ireturn (pc := 23) (by decide +kernel) rfl ?_
      refine k_ret ?_
      refine ⟨?_, rfl, rfl⟩
      simp only [r_cnt]
      first | rw [if_pos (by omega)] | rw [if_neg (by omega)]
set_option maxHeartbeats 4000000 in
theorem s_signAt {G : j_G} {X : k_X} {n : Nat} {σ : k_St} {a R : Nat} {row i : Int} (hR : r_at X n a R) (hw : r_wf σ a R) (hrow : -2147483648 ≤ row ∧ row ≤ 2147483647) (hi : -2147483648 ≤ i ∧ i ≤ 2147483647) : k_run G X mX9_signAt [.ref a, j_i row, j_i i] n σ 0 0 (k_is n σ (some (j_i (r_sgn σ a R row i)))) := by
  obtain ⟨h5, h30, hs0, hs1, hs2⟩ := id hR
  refine k_enter (by decide +kernel) (Nat.le_of_ble_eq_true rfl) ?_
  show j_at _ _ _ [(0, .ref a), (1, j_i row), (2, j_i i)] [] _ _ _ _
  refine a_iload_n (pc := 0) (i := 1) (by decide +kernel) rfl ?_
  refine a_if_lt (pc := 1) (off := 30) (tgt := 31) (by decide +kernel) (by decide) (by omega) (fun c1 => ?_) (fun c1 => ?_)
  · refine a_iconst (pc := 31) (n := 0) (by decide +kernel) ?_
    refine a_istore_n (pc := 32) (i := 3) (lv' := [(0, .ref a), (1, j_i row), (2, j_i i), (3, j_i 0)]) (by decide +kernel) (Nat.le_of_ble_eq_true rfl) rfl ?_
    refine a_iload_n (pc := 33) (i := 3) (by decide +kernel) rfl ?_
    refine a_if_eq (pc := 34) (off := 17) (tgt := 51) (by decide +kernel) (by decide) (by omega) (fun c34 => ?_) (fun c34 => ?_)
    · refine a_bipush (pc := 51) (n := (-9)) (by decide +kernel) rfl ?_
      refine a_ireturn (pc := 53) (by decide +kernel) rfl ?_
      refine k_ret ?_
      refine ⟨?_, rfl, rfl⟩
      simp only [r_sgn]
      first | rw [if_pos (by omega)] | rw [if_neg (by omega)]
    · exact absurd c34 (by decide)
  · refine a_iload_n (pc := 4) (i := 1) (by decide +kernel) rfl ?_
    refine a_aload_n (pc := 5) (i := 0) (by decide +kernel) rfl ?_
    refine b_getR (pc := 6) (b := a + 2) fl_X9_21 (by decide +kernel) hs0 rfl ?_
    refine b_len (pc := 9) (by decide +kernel) hs2 (by decide) ?_
    refine a_icmp_ge (pc := 10) (off := 21) (tgt := 31) (by decide +kernel) (by decide) (by omega) (by omega) (fun c10 => ?_) (fun c10 => ?_)
    · refine a_iconst (pc := 31) (n := 0) (by decide +kernel) ?_
      refine a_istore_n (pc := 32) (i := 3) (lv' := [(0, .ref a), (1, j_i row), (2, j_i i), (3, j_i 0)]) (by decide +kernel) (Nat.le_of_ble_eq_true rfl) rfl ?_
      refine a_iload_n (pc := 33) (i := 3) (by decide +kernel) rfl ?_
      refine a_if_eq (pc := 34) (off := 17) (tgt := 51) (by decide +kernel) (by decide) (by omega) (fun c34 => ?_) (fun c34 => ?_)
      · refine a_bipush (pc := 51) (n := (-9)) (by decide +kernel) rfl ?_
        refine a_ireturn (pc := 53) (by decide +kernel) rfl ?_
        refine k_ret ?_
        refine ⟨?_, rfl, rfl⟩
        simp only [r_sgn]
        first | rw [if_pos (by omega)] | rw [if_neg (by omega)]
      · exact absurd c34 (by decide)
    · refine a_iload_n (pc := 13) (i := 2) (by decide +kernel) rfl ?_
      refine a_if_lt (pc := 14) (off := 17) (tgt := 31) (by decide +kernel) (by decide) (by omega) (fun c14 => ?_) (fun c14 => ?_)
      · refine a_iconst (pc := 31) (n := 0) (by decide +kernel) ?_
        refine a_istore_n (pc := 32) (i := 3) (lv' := [(0, .ref a), (1, j_i row), (2, j_i i), (3, j_i 0)]) (by decide +kernel) (Nat.le_of_ble_eq_true rfl) rfl ?_
        refine a_iload_n (pc := 33) (i := 3) (by decide +kernel) rfl ?_
        refine a_if_eq (pc := 34) (off := 17) (tgt := 51) (by decide +kernel) (by decide) (by omega) (fun c34 => ?_) (fun c34 => ?_)
        · refine a_bipush (pc := 51) (n := (-9)) (by decide +kernel) rfl ?_
          refine a_ireturn (pc := 53) (by decide +kernel) rfl ?_
          refine k_ret ?_
          refine ⟨?_, rfl, rfl⟩
          simp only [r_sgn]
          first | rw [if_pos (by omega)] | rw [if_neg (by omega)]
        · exact absurd c34 (by decide)
      · refine a_iload_n (pc := 17) (i := 2) (by decide +kernel) rfl ?_
        refine a_aload_n (pc := 18) (i := 0) (by decide +kernel) rfl ?_
        refine b_getR (pc := 19) (b := a + 2) fl_X9_21 (by decide +kernel) hs0 rfl ?_
        refine a_iload_n (pc := 22) (i := 1) (by decide +kernel) rfl ?_
        refine b_iaload (pc := 23) (by decide +kernel) hs2 (by omega) (by omega) (by omega) ?_
        have hc9 := hw.1 row (by omega) (by omega)
        refine a_icmp_ge (pc := 24) (off := 7) (tgt := 31) (by decide +kernel) (by decide) (by omega) (by omega) (fun c24 => ?_) (fun c24 => ?_)
        · refine a_iconst (pc := 31) (n := 0) (by decide +kernel) ?_
          refine a_istore_n (pc := 32) (i := 3) (lv' := [(0, .ref a), (1, j_i row), (2, j_i i), (3, j_i 0)]) (by decide +kernel) (Nat.le_of_ble_eq_true rfl) rfl ?_
          refine a_iload_n (pc := 33) (i := 3) (by decide +kernel) rfl ?_
          refine a_if_eq (pc := 34) (off := 17) (tgt := 51) (by decide +kernel) (by decide) (by omega) (fun c34 => ?_) (fun c34 => ?_)
          · refine a_bipush (pc := 51) (n := (-9)) (by decide +kernel) rfl ?_
            refine a_ireturn (pc := 53) (by decide +kernel) rfl ?_
            refine k_ret ?_
            refine ⟨?_, rfl, rfl⟩
            simp only [r_sgn]
            first | rw [if_pos (by omega)] | rw [if_neg (by omega)]
          · exact absurd c34 (by decide)
        · refine a_iconst (pc := 27) (n := 1) (by decide +kernel) ?_
          refine a_goto (pc := 28) (off := 4) (tgt := 32) (by decide +kernel) (by decide) ?_
          refine a_istore_n (pc := 32) (i := 3) (lv' := [(0, .ref a), (1, j_i row), (2, j_i i), (3, j_i 1)]) (by decide +kernel) (Nat.le_of_ble_eq_true rfl) rfl ?_
          refine a_iload_n (pc := 33) (i := 3) (by decide +kernel) rfl ?_
          refine a_if_eq (pc := 34) (off := 17) (tgt := 51) (by decide +kernel) (by decide) (by omega) (fun c34 => ?_) (fun c34 => ?_)
          · exact absurd c34 (by decide)
          · refine a_aload_n (pc := 37) (i := 0) (by decide +kernel) rfl ?_
            refine b_getR (pc := 38) (b := a + 1) fl_X9_15 (by decide +kernel) hs0 rfl ?_
            refine a_iload_n (pc := 41) (i := 1) (by decide +kernel) rfl ?_
            refine a_bipush (pc := 42) (n := 16) (by decide +kernel) rfl ?_
            refine a_imul (pc := 44) (by decide +kernel) ?_
            refine a_iload_n (pc := 45) (i := 2) (by decide +kernel) rfl ?_
            refine a_iadd (pc := 46) (by decide +kernel) ?_
            have hc8 := hw.1 row (by omega) (by omega)
            refine b_baload (pc := 47) (by decide +kernel) hs1 (by omega) (by omega) (by omega) ?_
            refine a_goto (pc := 48) (off := 5) (tgt := 53) (by decide +kernel) (by decide) ?_
            refine a_ireturn (pc := 53) (by decide +kernel) rfl ?_
            refine k_ret ?_
            refine ⟨?_, rfl, rfl⟩
            simp only [r_sgn]
            first | rw [if_pos (by omega)] | rw [if_neg (by omega)]
/-- a yes or no: 1 where P holds, 0 where it doesn't -/
def k_tf (P : Prop) (x : Int) : Prop := (x = 1 ∧ P) ∨ (x = 0 ∧ ¬ P)
def k_b (n : Nat) (σ : k_St) (P : Prop) : k_P := fun v n' σ' => ∃ x : Int, v = some (j_i x) ∧ n' = n ∧ σ' = σ ∧ k_tf P x
theorem k_by {n : Nat} {σ : k_St} {P : Prop} (h : P) : k_b n σ P (some (j_i 1)) n σ := ⟨1, rfl, rfl, rfl, Or.inl ⟨rfl, h⟩⟩
theorem k_bn {n : Nat} {σ : k_St} {P : Prop} (h : ¬ P) : k_b n σ P (some (j_i 0)) n σ := ⟨0, rfl, rfl, rfl, Or.inr ⟨rfl, h⟩⟩
theorem k_AA {σ : k_St} {a : Nat} {f : Int → Int} : (k_sA σ a f).1 a = f := if_pos rfl
theorem k_AN {σ : k_St} {a b : Nat} {f : Int → Int} (h : b ≠ a) : (k_sA σ a f).1 b = σ.1 b := if_neg h
theorem k_IN {σ : k_St} {a b i j : Nat} {x : Int} (h : ¬ (b = a ∧ i = j)) : (k_sI σ a j x).2.1 b i = σ.2.1 b i := if_neg h
theorem k_II {σ : k_St} {a j : Nat} {x : Int} : (k_sI σ a j x).2.1 a j = x := if_pos ⟨rfl, rfl⟩
theorem k_AII {σ : k_St} {a : Nat} {f : Int → Int} : (k_sA σ a f).2 = σ.2 := rfl
theorem k_sA_sA {σ : k_St} {a : Nat} {f g : Int → Int} : k_sA (k_sA σ a f) a g = k_sA σ a g := by
  unfold k_sA; congr 1; funext b; by_cases h : b = a <;> simp [h]
theorem k_sA_comm {σ : k_St} {a b : Nat} {f g : Int → Int} (h : a ≠ b) : k_sA (k_sA σ a f) b g = k_sA (k_sA σ b g) a f := by
  unfold k_sA; congr 1; funext c; by_cases h1 : c = b
  · by_cases h2 : c = a
    · exact absurd (h2.symm.trans h1) h
    · simp [h1, h2]; intro h3; exact absurd h3.symm h
  · by_cases h2 : c = a <;> simp [h1, h2]
    intro h3; exact absurd h3 h
theorem k_sA_id {σ : k_St} {a : Nat} {f : Int → Int} (h : f = σ.1 a) : k_sA σ a f = σ := by
  unfold k_sA; rw [h]
  show (_, σ.2.1, σ.2.2) = σ
  have : (fun b => if b = a then σ.1 a else σ.1 b) = σ.1 := by funext b; by_cases h : b = a <;> simp [h]
  rw [this]
theorem j_upS {f : Int → Int} {i x : Int} : j_up f i x i = x := if_pos rfl
theorem j_upN {f : Int → Int} {i j x : Int} (h : j ≠ i) : j_up f i x j = f j := if_neg h
theorem j_up_up {f : Int → Int} {i x y : Int} : j_up (j_up f i x) i y = j_up f i y := by
  funext k; by_cases h : k = i <;> simp [j_up, h]
theorem j_cpy_up {F g : Int → Int} {sp dp i x : Int} (hi : 0 ≤ i) (hx : x = F (sp + i)) : j_up (j_cpy F g sp dp i) (dp + i) x = j_cpy F g sp dp (i + 1) := by
  funext k
  unfold j_up j_cpy
  by_cases h1 : k = dp + i
  · rw [if_pos h1, if_pos (by omega), hx, h1]; congr 1; omega
  · rw [if_neg h1]
    by_cases h2 : dp ≤ k ∧ k < dp + i
    · rw [if_pos h2, if_pos (by omega)]
    · rw [if_neg h2, if_neg (by omega)]
theorem j_cpy_0 {F g : Int → Int} {sp dp : Int} : j_cpy F g sp dp 0 = g := by
  funext k; unfold j_cpy; rw [if_neg (by omega)]
theorem mm_X11_350 : Cond.methodLink "BackIndex" 350 Lib.Math.min.name ∈ j_wg := j_me5 122 (by decide +kernel) rfl
theorem mm_X11_355 : Cond.methodLink "BackIndex" 355 Lib.Math.max.name ∈ j_wg := j_me5 123 (by decide +kernel) rfl
theorem mm_X0_29 : Cond.methodLink "BackIndex$Acts" 29 Lib.Math.min.name ∈ j_wg := j_me2 188 (by decide +kernel) rfl
theorem mm_X8_38 : Cond.methodLink "BackIndex$Parts" 38 Lib.Math.max.name ∈ j_wg := j_me3 21 (by decide +kernel) rfl
theorem mm_X9_9 : Cond.methodLink "BackIndex$Rows" 9 Lib.Math.max.name ∈ j_wg := j_me1 44 (by decide +kernel) rfl
theorem mm_X9_40 : Cond.methodLink "BackIndex$Rows" 40 Lib.Math.min.name ∈ j_wg := j_me2 179 (by decide +kernel) rfl
theorem mm_X10_30 : Cond.methodLink "BackIndex$Runs" 30 Lib.Math.max.name ∈ j_wg := j_me4 226 (by decide +kernel) rfl
theorem a_mmax {G : j_G} {M : j_M} {pc : Nat} {lv : List (Nat × Value)} {st : List Value} {h : j_H} {c sl : Nat} {Q : j_P} {x y : Int} {idx : Nat} (hw : Cond.methodLink M.1.cls idx Lib.Math.max.name ∈ j_wg) (hd : decode M.2.1 pc = .ok (.invokestatic idx, 3)) (hx : -2147483648 ≤ x ∧ x ≤ 2147483647) (hy : -2147483648 ≤ y ∧ y ≤ 2147483647) (hfr : 1 ≤ M.2.2.2.2.1) (hlo : (st.map fun v => v.category).sum + 13 ≤ M.2.2.2.2.2) (k : j_at G M (pc + 3) lv (j_i (max x y) :: st) h c sl Q) : j_at G M pc lv (j_i y :: j_i x :: st) h c sl Q := by
  intro p e s m args below meth cd H locs ls cells slots mc ms hF hW hS hl hc hs
  have hk := k p e s m args below meth cd H locs ls cells slots mc ms hF hW hS hl hc hs
  refine va_mmax hF.1 hF.2.1 (by rw [hF.2.2.2.1]; exact hl.1.symm) hF.2.2.2.2.1 (hF.2.2.2.2.2.1 _ hw) (hF.2.2.2.2.2.1 _ (j_me1 45 (by decide +kernel) rfl)) (hF.2.2.2.2.2.1 _ (j_me1 5 (by decide +kernel) rfl)) (hF.2.2.2.2.2.1 _ (j_me1 46 rfl rfl)) hfr (by show ((st.map (j_cv G)).map fun v => v.category).sum + 13 ≤ M.2.2.2.2.2; rw [j_cats]; exact hlo) (by show cells ≤ mc; omega) (by show slots ≤ ms; omega) hd ?_
  have e9 : (if Int32.ofInt x < Int32.ofInt y then Int32.ofInt y else Int32.ofInt x) = Int32.ofInt (max x y) := by
    by_cases h9 : x < y
    · rw [if_pos ((j_lt hx hy).mpr h9), show max x y = y by omega]
    · rw [if_neg (fun q => h9 ((j_lt hx hy).mp q)), show max x y = x by omega]
  rw [e9]
  exact hk
theorem a_mmin {G : j_G} {M : j_M} {pc : Nat} {lv : List (Nat × Value)} {st : List Value} {h : j_H} {c sl : Nat} {Q : j_P} {x y : Int} {idx : Nat} (hw : Cond.methodLink M.1.cls idx Lib.Math.min.name ∈ j_wg) (hd : decode M.2.1 pc = .ok (.invokestatic idx, 3)) (hx : -2147483648 ≤ x ∧ x ≤ 2147483647) (hy : -2147483648 ≤ y ∧ y ≤ 2147483647) (hfr : 1 ≤ M.2.2.2.2.1) (hlo : (st.map fun v => v.category).sum + 13 ≤ M.2.2.2.2.2) (k : j_at G M (pc + 3) lv (j_i (min x y) :: st) h c sl Q) : j_at G M pc lv (j_i y :: j_i x :: st) h c sl Q := by
  intro p e s m args below meth cd H locs ls cells slots mc ms hF hW hS hl hc hs
  have hk := k p e s m args below meth cd H locs ls cells slots mc ms hF hW hS hl hc hs
  refine va_mmin hF.1 hF.2.1 (by rw [hF.2.2.2.1]; exact hl.1.symm) hF.2.2.2.2.1 (hF.2.2.2.2.2.1 _ hw) (hF.2.2.2.2.2.1 _ (j_me2 180 (by decide +kernel) rfl)) (hF.2.2.2.2.2.1 _ (j_me1 5 (by decide +kernel) rfl)) (hF.2.2.2.2.2.1 _ (j_me2 181 rfl rfl)) hfr (by show ((st.map (j_cv G)).map fun v => v.category).sum + 13 ≤ M.2.2.2.2.2; rw [j_cats]; exact hlo) (by show cells ≤ mc; omega) (by show slots ≤ ms; omega) hd ?_
  have e9 : (if Int32.ofInt y < Int32.ofInt x then Int32.ofInt y else Int32.ofInt x) = Int32.ofInt (min x y) := by
    by_cases h9 : y < x
    · rw [if_pos ((j_lt hy hx).mpr h9), show min x y = y by omega]
    · rw [if_neg (fun q => h9 ((j_lt hy hx).mp q)), show min x y = x by omega]
  rw [e9]
  exact hk
def f_fold (s : Int) : Int := if 65 ≤ s ∧ s ≤ 90 then s + 32 else s
def f_letter (s : Int) : Prop := (65 ≤ s ∧ s ≤ 90) ∨ (97 ≤ s ∧ s ≤ 122)
def f_digit (s : Int) : Prop := 48 ≤ s ∧ s ≤ 57
theorem f_fold_in {s : Int} (h : -2147483648 ≤ s ∧ s ≤ 2147483647) : -2147483648 ≤ f_fold s ∧ f_fold s ≤ 2147483647 := by unfold f_fold; split <;> omega
def f_sgn (x y : Int) : Int := if x < y then -1 else if x = y then 0 else 1
set_option maxHeartbeats 4000000 in
theorem s_folded {G : j_G} {X : k_X} {n : Nat} {σ : k_St} {s : Int} (hs : -2147483648 ≤ s ∧ s ≤ 2147483647) : k_run G X mX11_folded [j_i s] n σ 0 0 (k_is n σ (some (j_i (f_fold s)))) := by
  refine k_enter (by decide +kernel) (Nat.le_of_ble_eq_true rfl) ?_
  show j_at _ _ _ [(0, j_i s)] [] _ _ _ _
  refine a_iload_n (pc := 0) (i := 0) (by decide +kernel) rfl ?_
  refine a_bipush (pc := 1) (n := 65) (by decide +kernel) rfl ?_
  refine a_icmp_lt (pc := 3) (off := 19) (tgt := 22) (by decide +kernel) (by decide) (by omega) (by omega) (fun c3 => ?_) (fun c3 => ?_)
  · refine a_iload_n (pc := 22) (i := 0) (by decide +kernel) rfl ?_
    refine a_ireturn (pc := 23) (by decide +kernel) rfl ?_
    refine k_ret ?_
    refine ⟨?_, rfl, rfl⟩
    simp only [f_fold]
    first | (rw [if_pos (by omega)]; congr 3; omega) | rw [if_neg (by omega)]
  · refine a_iload_n (pc := 6) (i := 0) (by decide +kernel) rfl ?_
    refine a_bipush (pc := 7) (n := 90) (by decide +kernel) rfl ?_
    refine a_icmp_gt (pc := 9) (off := 13) (tgt := 22) (by decide +kernel) (by decide) (by omega) (by omega) (fun c9 => ?_) (fun c9 => ?_)
    · refine a_iload_n (pc := 22) (i := 0) (by decide +kernel) rfl ?_
      refine a_ireturn (pc := 23) (by decide +kernel) rfl ?_
      refine k_ret ?_
      refine ⟨?_, rfl, rfl⟩
      simp only [f_fold]
      first | (rw [if_pos (by omega)]; congr 3; omega) | rw [if_neg (by omega)]
    · refine a_iload_n (pc := 12) (i := 0) (by decide +kernel) rfl ?_
      refine a_bipush (pc := 13) (n := 97) (by decide +kernel) rfl ?_
      refine a_iadd (pc := 15) (by decide +kernel) ?_
      refine a_bipush (pc := 16) (n := 65) (by decide +kernel) rfl ?_
      refine a_isub (pc := 18) (by decide +kernel) ?_
      refine a_goto (pc := 19) (off := 4) (tgt := 23) (by decide +kernel) (by decide) ?_
      refine a_ireturn (pc := 23) (by decide +kernel) rfl ?_
      refine k_ret ?_
      refine ⟨?_, rfl, rfl⟩
      simp only [f_fold]
      first | (rw [if_pos (by omega)]; congr 3; omega) | rw [if_neg (by omega)]
set_option maxHeartbeats 4000000 in
theorem s_isLetter {G : j_G} {X : k_X} {n : Nat} {σ : k_St} {s : Int} (hs : -2147483648 ≤ s ∧ s ≤ 2147483647) : k_run G X mX11_isLetter [j_i s] n σ 0 0 (k_b n σ (f_letter s)) := by
  refine k_enter (by decide +kernel) (Nat.le_of_ble_eq_true rfl) ?_
  show j_at _ _ _ [(0, j_i s)] [] _ _ _ _
  refine a_iload_n (pc := 0) (i := 0) (by decide +kernel) rfl ?_
  refine b_pureS (pc := 1) [j_i s] [] ml_X11_376 (by decide +kernel) rfl rfl (Nat.le_of_ble_eq_true rfl) (j_fitI rfl rfl) (s_folded (by omega)) ?_
  show j_at _ _ _ [(0, j_i s)] [j_i (f_fold s)] _ _ _ _
  have hf := f_fold_in hs
  refine a_bipush (pc := 4) (n := 97) (by decide +kernel) rfl ?_
  refine a_icmp_lt (pc := 6) (off := 16) (tgt := 22) (by decide +kernel) (by decide) (by omega) (by omega) (fun c6 => ?_) (fun c6 => ?_)
  · refine a_iconst (pc := 22) (n := 0) (by decide +kernel) ?_
    refine a_zreturn (pc := 23) (by decide +kernel) rfl (by omega) ?_
    refine k_ret ?_
    exact k_bn (by unfold f_letter; unfold f_fold at *; omega)
  · refine a_iload_n (pc := 9) (i := 0) (by decide +kernel) rfl ?_
    refine b_pureS (pc := 10) [j_i s] [] ml_X11_376 (by decide +kernel) rfl rfl (Nat.le_of_ble_eq_true rfl) (j_fitI rfl rfl) (s_folded (by omega)) ?_
    show j_at _ _ _ [(0, j_i s)] [j_i (f_fold s)] _ _ _ _
    have hf := f_fold_in hs
    refine a_bipush (pc := 13) (n := 122) (by decide +kernel) rfl ?_
    refine a_icmp_gt (pc := 15) (off := 7) (tgt := 22) (by decide +kernel) (by decide) (by omega) (by omega) (fun c15 => ?_) (fun c15 => ?_)
    · refine a_iconst (pc := 22) (n := 0) (by decide +kernel) ?_
      refine a_zreturn (pc := 23) (by decide +kernel) rfl (by omega) ?_
      refine k_ret ?_
      exact k_bn (by unfold f_letter; unfold f_fold at *; omega)
    · refine a_iconst (pc := 18) (n := 1) (by decide +kernel) ?_
      refine a_goto (pc := 19) (off := 4) (tgt := 23) (by decide +kernel) (by decide) ?_
      refine a_zreturn (pc := 23) (by decide +kernel) rfl (by omega) ?_
      refine k_ret ?_
      exact k_by (by unfold f_letter; unfold f_fold at *; omega)
set_option maxHeartbeats 4000000 in
theorem s_isDigit {G : j_G} {X : k_X} {n : Nat} {σ : k_St} {s : Int} (hs : -2147483648 ≤ s ∧ s ≤ 2147483647) : k_run G X mX11_isDigit [j_i s] n σ 0 0 (k_b n σ (f_digit s)) := by
  refine k_enter (by decide +kernel) (Nat.le_of_ble_eq_true rfl) ?_
  show j_at _ _ _ [(0, j_i s)] [] _ _ _ _
  refine a_iload_n (pc := 0) (i := 0) (by decide +kernel) rfl ?_
  refine a_bipush (pc := 1) (n := 48) (by decide +kernel) rfl ?_
  refine a_icmp_lt (pc := 3) (off := 13) (tgt := 16) (by decide +kernel) (by decide) (by omega) (by omega) (fun c3 => ?_) (fun c3 => ?_)
  · refine a_iconst (pc := 16) (n := 0) (by decide +kernel) ?_
    refine a_zreturn (pc := 17) (by decide +kernel) rfl (by omega) ?_
    refine k_ret ?_
    exact k_bn (by unfold f_digit; omega)
  · refine a_iload_n (pc := 6) (i := 0) (by decide +kernel) rfl ?_
    refine a_bipush (pc := 7) (n := 57) (by decide +kernel) rfl ?_
    refine a_icmp_gt (pc := 9) (off := 7) (tgt := 16) (by decide +kernel) (by decide) (by omega) (by omega) (fun c9 => ?_) (fun c9 => ?_)
    · refine a_iconst (pc := 16) (n := 0) (by decide +kernel) ?_
      refine a_zreturn (pc := 17) (by decide +kernel) rfl (by omega) ?_
      refine k_ret ?_
      exact k_bn (by unfold f_digit; omega)
    · refine a_iconst (pc := 12) (n := 1) (by decide +kernel) ?_
      refine a_goto (pc := 13) (off := 4) (tgt := 17) (by decide +kernel) (by decide) ?_
      refine a_zreturn (pc := 17) (by decide +kernel) rfl (by omega) ?_
      refine k_ret ?_
      exact k_by (by unfold f_digit; omega)
set_option maxHeartbeats 4000000 in
theorem s_icompare {G : j_G} {X : k_X} {n : Nat} {σ : k_St} {x y : Int} (hx : -2147483648 ≤ x ∧ x ≤ 2147483647) (hy : -2147483648 ≤ y ∧ y ≤ 2147483647) : k_run G X mJI_compare [j_i x, j_i y] n σ 0 0 (k_is n σ (some (j_i (f_sgn x y)))) := by
  refine k_enter (by decide +kernel) (Nat.le_of_ble_eq_true rfl) ?_
  show j_at _ _ _ [(0, j_i x), (1, j_i y)] [] _ _ _ _
  refine a_iload_n (pc := 0) (i := 0) (by decide +kernel) rfl ?_
  refine a_iload_n (pc := 1) (i := 1) (by decide +kernel) rfl ?_
  refine a_icmp_ge (pc := 2) (off := 7) (tgt := 9) (by decide +kernel) (by decide) (by omega) (by omega) (fun c2 => ?_) (fun c2 => ?_)
  · refine a_iload_n (pc := 9) (i := 0) (by decide +kernel) rfl ?_
    refine a_iload_n (pc := 10) (i := 1) (by decide +kernel) rfl ?_
    refine a_icmp_ne (pc := 11) (off := 7) (tgt := 18) (by decide +kernel) (by decide) (by omega) (by omega) (fun c11 => ?_) (fun c11 => ?_)
    · refine a_iconst (pc := 18) (n := 1) (by decide +kernel) ?_
      refine a_ireturn (pc := 19) (by decide +kernel) rfl ?_
      refine k_ret ?_
      refine ⟨?_, rfl, rfl⟩
      simp only [f_sgn]
      first | rw [if_pos (by omega)] | rw [if_neg (by omega), if_pos (by omega)] | rw [if_neg (by omega), if_neg (by omega)]
    · refine a_iconst (pc := 14) (n := 0) (by decide +kernel) ?_
      refine a_goto (pc := 15) (off := 4) (tgt := 19) (by decide +kernel) (by decide) ?_
      refine a_ireturn (pc := 19) (by decide +kernel) rfl ?_
      refine k_ret ?_
      refine ⟨?_, rfl, rfl⟩
      simp only [f_sgn]
      first | rw [if_pos (by omega)] | rw [if_neg (by omega), if_pos (by omega)] | rw [if_neg (by omega), if_neg (by omega)]
  · refine a_iconst (pc := 5) (n := (-1)) (by decide +kernel) ?_
    refine a_goto (pc := 6) (off := 13) (tgt := 19) (by decide +kernel) (by decide) ?_
    refine a_ireturn (pc := 19) (by decide +kernel) rfl ?_
    refine k_ret ?_
    refine ⟨?_, rfl, rfl⟩
    simp only [f_sgn]
    first | rw [if_pos (by omega)] | rw [if_neg (by omega), if_pos (by omega)] | rw [if_neg (by omega), if_neg (by omega)]
set_option maxHeartbeats 4000000 in
theorem s_lcompare {G : j_G} {X : k_X} {n : Nat} {σ : k_St} {x y : Int} (hx : -9223372036854775808 ≤ x ∧ x ≤ 9223372036854775807) (hy : -9223372036854775808 ≤ y ∧ y ≤ 9223372036854775807) : k_run G X mJL_compare [j_l x, j_l y] n σ 0 0 (k_is n σ (some (j_i (f_sgn x y)))) := by
  refine k_enter (by decide +kernel) (Nat.le_of_ble_eq_true rfl) ?_
  show j_at _ _ _ [(0, j_l x), (2, j_l y)] [] _ _ _ _
  refine a_lload_n (pc := 0) (i := 0) (by decide +kernel) rfl ?_
  refine a_lload_n (pc := 1) (i := 2) (by decide +kernel) rfl ?_
  refine a_lcmp (pc := 2) (by decide +kernel) (by omega) (by omega) ?_
  refine a_if_ge (pc := 3) (off := 7) (tgt := 10) (by decide +kernel) (by decide) (by split <;> (try split) <;> omega) (fun c3 => ?_) (fun c3 => ?_)
  · refine a_lload_n (pc := 10) (i := 0) (by decide +kernel) rfl ?_
    refine a_lload_n (pc := 11) (i := 2) (by decide +kernel) rfl ?_
    refine a_lcmp (pc := 12) (by decide +kernel) (by omega) (by omega) ?_
    refine a_if_ne (pc := 13) (off := 7) (tgt := 20) (by decide +kernel) (by decide) (by split <;> (try split) <;> omega) (fun c13 => ?_) (fun c13 => ?_)
    · refine a_iconst (pc := 20) (n := 1) (by decide +kernel) ?_
      refine a_ireturn (pc := 21) (by decide +kernel) rfl ?_
      refine k_ret ?_
      refine ⟨?_, rfl, rfl⟩
      simp only [f_sgn]
      repeat' split at *
      all_goals first | rfl | (exfalso; omega)
    · refine a_iconst (pc := 16) (n := 0) (by decide +kernel) ?_
      refine a_goto (pc := 17) (off := 4) (tgt := 21) (by decide +kernel) (by decide) ?_
      refine a_ireturn (pc := 21) (by decide +kernel) rfl ?_
      refine k_ret ?_
      refine ⟨?_, rfl, rfl⟩
      simp only [f_sgn]
      repeat' split at *
      all_goals first | rfl | (exfalso; omega)
  · refine a_iconst (pc := 6) (n := (-1)) (by decide +kernel) ?_
    refine a_goto (pc := 7) (off := 14) (tgt := 21) (by decide +kernel) (by decide) ?_
    refine a_ireturn (pc := 21) (by decide +kernel) rfl ?_
    refine k_ret ?_
    refine ⟨?_, rfl, rfl⟩
    simp only [f_sgn]
    repeat' split at *
    all_goals first | rfl | (exfalso; omega)
set_option maxHeartbeats 4000000 in
theorem s_clear {G : j_G} {X : k_X} {n : Nat} {σ : k_St} {a R : Nat} {row : Int} (hR : r_at X n a R) (h0 : 0 ≤ row) (h1 : row < R) : k_run G X mX9_clear [.ref a, j_i row] n σ 0 0 (k_is n (k_sA σ (a + 2) (j_up (σ.1 (a + 2)) row 0)) none) := by
  obtain ⟨h5, h30, hs0, hs1, hs2⟩ := id hR
  refine k_enter (by decide +kernel) (Nat.le_of_ble_eq_true rfl) ?_
  show j_at _ _ _ [(0, .ref a), (1, j_i row)] [] _ _ _ _
  refine a_iload_n (pc := 0) (i := 1) (by decide +kernel) rfl ?_
  refine a_if_lt (pc := 1) (off := 19) (tgt := 20) (by decide +kernel) (by decide) (by omega) (fun c1 => ?_) (fun c1 => ?_)
  · refine a_return (pc := 20) (by decide +kernel) rfl ?_
    refine k_ret ?_
    first | (exfalso; omega) | (subst hσ1; exact ⟨rfl, rfl, rfl⟩)
  · refine a_iload_n (pc := 4) (i := 1) (by decide +kernel) rfl ?_
    refine a_aload_n (pc := 5) (i := 0) (by decide +kernel) rfl ?_
    refine b_getR (pc := 6) (b := a + 2) fl_X9_21 (by decide +kernel) hs0 rfl ?_
    refine b_len (pc := 9) (by decide +kernel) hs2 (by decide) ?_
    refine a_icmp_ge (pc := 10) (off := 10) (tgt := 20) (by decide +kernel) (by decide) (by omega) (by omega) (fun c10 => ?_) (fun c10 => ?_)
    · refine a_return (pc := 20) (by decide +kernel) rfl ?_
      refine k_ret ?_
      first | (exfalso; omega) | (subst hσ1; exact ⟨rfl, rfl, rfl⟩)
    · refine a_aload_n (pc := 13) (i := 0) (by decide +kernel) rfl ?_
      refine b_getR (pc := 14) (b := a + 2) fl_X9_21 (by decide +kernel) hs0 rfl ?_
      refine a_iload_n (pc := 17) (i := 1) (by decide +kernel) rfl ?_
      refine a_iconst (pc := 18) (n := 0) (by decide +kernel) ?_
      refine b_iastore (pc := 19) (by decide +kernel) hs2 (by omega) (by omega) (by omega) ?_
      obtain ⟨σ1, hσ1⟩ : ∃ z, z = k_sA σ (a + 2) (j_up (σ.1 (a + 2)) row 0) := ⟨_, rfl⟩
      rw [← hσ1]
      refine a_return (pc := 20) (by decide +kernel) rfl ?_
      refine k_ret ?_
      first | (exfalso; omega) | (subst hσ1; exact ⟨rfl, rfl, rfl⟩)
set_option maxHeartbeats 4000000 in
theorem s_append {G : j_G} {X : k_X} {n : Nat} {σ : k_St} {a R : Nat} {row s : Int} (hR : r_at X n a R) (hw : r_wf σ a R) (h0 : 0 ≤ row) (h1 : row < R) (h16 : σ.1 (a + 2) row < 16) (hs : -128 ≤ s ∧ s ≤ 127) : k_run G X mX9_append [.ref a, j_i row, j_i s] n σ 0 0 (k_is n (k_sA (k_sA σ (a + 1) (j_up (σ.1 (a + 1)) (row * 16 + σ.1 (a + 2) row) s)) (a + 2) (j_up (σ.1 (a + 2)) row (σ.1 (a + 2) row + 1))) none) := by
  obtain ⟨h5, h30, hs0, hs1, hs2⟩ := id hR
  refine k_enter (by decide +kernel) (Nat.le_of_ble_eq_true rfl) ?_
  show j_at _ _ _ [(0, .ref a), (1, j_i row), (2, j_i s)] [] _ _ _ _
  refine a_iload_n (pc := 0) (i := 1) (by decide +kernel) rfl ?_
  refine a_if_lt (pc := 1) (off := 51) (tgt := 52) (by decide +kernel) (by decide) (by omega) (fun c1 => ?_) (fun c1 => ?_)
  · refine a_return (pc := 52) (by decide +kernel) rfl ?_
    refine k_ret ?_
    first | (exfalso; omega) | (subst hσ2; subst hσ1; rw [k_AN (by omega)]; exact ⟨rfl, rfl, rfl⟩)
  · refine a_iload_n (pc := 4) (i := 1) (by decide +kernel) rfl ?_
    refine a_aload_n (pc := 5) (i := 0) (by decide +kernel) rfl ?_
    refine b_getR (pc := 6) (b := a + 2) fl_X9_21 (by decide +kernel) hs0 rfl ?_
    refine b_len (pc := 9) (by decide +kernel) hs2 (by decide) ?_
    refine a_icmp_ge (pc := 10) (off := 42) (tgt := 52) (by decide +kernel) (by decide) (by omega) (by omega) (fun c10 => ?_) (fun c10 => ?_)
    · refine a_return (pc := 52) (by decide +kernel) rfl ?_
      refine k_ret ?_
      first | (exfalso; omega) | (subst hσ2; subst hσ1; rw [k_AN (by omega)]; exact ⟨rfl, rfl, rfl⟩)
    · refine a_aload_n (pc := 13) (i := 0) (by decide +kernel) rfl ?_
      refine b_getR (pc := 14) (b := a + 2) fl_X9_21 (by decide +kernel) hs0 rfl ?_
      refine a_iload_n (pc := 17) (i := 1) (by decide +kernel) rfl ?_
      refine b_iaload (pc := 18) (by decide +kernel) hs2 (by omega) (by omega) (by omega) ?_
      refine a_bipush (pc := 19) (n := 16) (by decide +kernel) rfl ?_
      have hc9 := hw.1 row h0 h1
      refine a_icmp_ge (pc := 21) (off := 31) (tgt := 52) (by decide +kernel) (by decide) (by omega) (by omega) (fun c21 => ?_) (fun c21 => ?_)
      · refine a_return (pc := 52) (by decide +kernel) rfl ?_
        refine k_ret ?_
        first | (exfalso; omega) | (subst hσ2; subst hσ1; rw [k_AN (by omega)]; exact ⟨rfl, rfl, rfl⟩)
      · refine a_aload_n (pc := 24) (i := 0) (by decide +kernel) rfl ?_
        refine b_getR (pc := 25) (b := a + 1) fl_X9_15 (by decide +kernel) hs0 rfl ?_
        refine a_iload_n (pc := 28) (i := 1) (by decide +kernel) rfl ?_
        refine a_bipush (pc := 29) (n := 16) (by decide +kernel) rfl ?_
        refine a_imul (pc := 31) (by decide +kernel) ?_
        refine a_aload_n (pc := 32) (i := 0) (by decide +kernel) rfl ?_
        refine b_getR (pc := 33) (b := a + 2) fl_X9_21 (by decide +kernel) hs0 rfl ?_
        refine a_iload_n (pc := 36) (i := 1) (by decide +kernel) rfl ?_
        refine b_iaload (pc := 37) (by decide +kernel) hs2 (by omega) (by omega) (by omega) ?_
        refine a_iadd (pc := 38) (by decide +kernel) ?_
        have hc9 := hw.1 row h0 h1
        refine a_iload_n (pc := 39) (i := 2) (by decide +kernel) rfl ?_
        refine a_i2b (pc := 40) (v := Int32.ofInt s) (by decide +kernel) (j_i2b (by omega)) ?_
        refine b_bastore (pc := 41) (by decide +kernel) hs1 (by omega) (by omega) (by omega) (by omega) ?_
        obtain ⟨σ1, hσ1⟩ : ∃ z, z = k_sA σ (a + 1) (j_up (σ.1 (a + 1)) ((row * 16) + (σ.1 (a + 2) row)) s) := ⟨_, rfl⟩
        rw [← hσ1]
        refine a_aload_n (pc := 42) (i := 0) (by decide +kernel) rfl ?_
        refine b_getR (pc := 43) (b := a + 2) fl_X9_21 (by decide +kernel) hs0 rfl ?_
        refine a_iload_n (pc := 46) (i := 1) (by decide +kernel) rfl ?_
        refine a_dup2 (pc := 47) (by decide +kernel) rfl rfl ?_
        refine b_iaload (pc := 48) (by decide +kernel) hs2 (by omega) (by omega) (by omega) ?_
        rw [show σ1.1 (a + 2) = σ.1 (a + 2) by rw [hσ1]; exact k_AN (by omega)]
        refine a_iconst (pc := 49) (n := 1) (by decide +kernel) ?_
        refine a_iadd (pc := 50) (by decide +kernel) ?_
        refine b_iastore (pc := 51) (by decide +kernel) hs2 (by omega) (by omega) (by omega) ?_
        obtain ⟨σ2, hσ2⟩ : ∃ z, z = k_sA σ1 (a + 2) (j_up (σ1.1 (a + 2)) row ((σ.1 (a + 2) row) + 1)) := ⟨_, rfl⟩
        rw [← hσ2]
        refine a_return (pc := 52) (by decide +kernel) rfl ?_
        refine k_ret ?_
        first | (exfalso; omega) | (subst hσ2; subst hσ1; rw [k_AN (by omega)]; exact ⟨rfl, rfl, rfl⟩)
