def o_sg (x : Int) : Int := f_sgn x 0
theorem o_sg_d {x y : Int} : o_sg (x - y) = f_sgn x y := by unfold o_sg f_sgn; (repeat' split) <;> omega
theorem f_be_s {s : Int → Int} {i : Int} (hs : ∀ j, 16 ≤ j → s j = -9) (h0 : 0 ≤ i) (h1 : i ≤ 16) (hk : f_bk s i ≠ 0) : i < f_be s i ∧ f_be s i ≤ 16 := by
  have h2 := f_be_in hs h0 h1 hk
  refine ⟨?_, h2.2⟩
  unfold f_be
  split
  · rename_i hd
    rw [show f_num s 17 i 0 = f_num s 16 (i + 1) (0 * 10 + s i - 48) from if_pos hd]
    by_cases e : i = 16
    · rw [e, hs 16 (by omega)] at hd; omega
    · have z := (f_num_in (s := s) (by rw [hs 16 (by omega)]; omega) 16 (i + 1) (0 * 10 + s i - 48) (by omega) (by omega) (by omega) (by omega) (by
        have : (10 : Int) ^ 1 ≤ 10 ^ (i + 1).toNat := by
          have e1 : (i + 1).toNat = i.toNat + 1 := by omega
          rw [e1, Int.pow_succ]
          have : (1 : Int) ≤ 10 ^ i.toNat := by
            have : (0 : Int) < 10 ^ i.toNat := Int.pow_pos (by omega)
            omega
          omega
        omega)).1.1
      omega
  · omega
theorem e_key_16 {σ : k_St} (hK : RKept σ) {h : Int} (h0 : 0 ≤ h) (h1 : h < σ.1 69 301) : ∀ j, 16 ≤ j → e_key (σ.1 69) h j = -9 := fun j hj => e_key_o (by have := e_sl_in hK h0 h1; omega)
theorem e_key_b {σ : k_St} (hK : RKept σ) {h : Int} (h0 : 0 ≤ h) (h1 : h < σ.1 69 301) (j : Int) : -128 ≤ e_key (σ.1 69) h j ∧ e_key (σ.1 69) h j ≤ 127 := by
  unfold e_key
  split
  · rename_i q; have := e_st_in hK h0 h1 q.1 q.2; omega
  · omega
/-- what a compare of two heads says -/
def cm_post (n : Nat) (σ : k_St) (P : Int → Prop) : k_P := fun v n' τ => n' = n ∧ b_fr σ τ ∧ ∃ x : Int, v = some (j_i x) ∧ (-100000 ≤ x ∧ x ≤ 100000) ∧ P (o_sg x)
theorem o_res_key {σ : k_St} (hK : RKept σ) {a b : Int} (a0 : 0 ≤ a) (a1 : a < σ.1 69 301) (b0 : 0 ≤ b) (b1 : b < σ.1 69 301) {l i j r : Int} {m : Nat} : o_res (r_sgn σ (h_rows σ a 1) 30 a) (r_sgn σ (h_rows σ b 1) 30 b) l m i j (r_sgn σ 9 30 a) (r_sgn σ 9 30 b) r ↔ o_res (e_key (σ.1 69) a) (e_key (σ.1 69) b) l m i j (e_own (σ.1 69) a) (e_own (σ.1 69) b) r := by
  rw [show r_sgn σ (h_rows σ a 1) 30 a = e_key (σ.1 69) a from funext (KR_key hK a0 a1).2, show r_sgn σ (h_rows σ b 1) 30 b = e_key (σ.1 69) b from funext (KR_key hK b0 b1).2, show r_sgn σ 9 30 a = e_own (σ.1 69) a from funext (KR_own hK a0 a1).2, show r_sgn σ 9 30 b = e_own (σ.1 69) b from funext (KR_own hK b0 b1).2]
theorem f_cb_self {s : Int → Int} {l : Int} : ∀ (m : Nat) (i : Int), f_cb s s l m i i = 0
  | 0, _ => rfl
  | m + 1, i => by
    unfold f_cb
    rw [if_neg (fun h => h rfl), if_neg (fun h => h rfl)]
    split
    · rfl
    · exact f_cb_self m _
theorem o_rel_self {σ : k_St} (hK : RKept σ) (hP : RPass σ) {a od : Int} (a0 : 0 ≤ a) (a1 : a < σ.1 69 301) : o_rel σ a a od 0 := by
  obtain ⟨i, hi⟩ := y_ks_ex hK hP a0 a1
  exact ⟨i, i, hi, hi, Or.inr ⟨f_cb_self _ _, Or.inl ⟨rfl, fun _ _ _ => rfl⟩⟩⟩
theorem e_own_at {g : Int → Int} {h i : Int} (i0 : 0 ≤ i) (i1 : i < g (302 + 36 * h + 1)) : e_own g h i = g (302 + 36 * h + 3 + i) := by unfold e_own; rw [if_pos ⟨i0, i1⟩]
theorem e_own_o {g : Int → Int} {h i : Int} (i1 : g (302 + 36 * h + 1) ≤ i) : e_own g h i = -9 := by unfold e_own; rw [if_neg (by omega)]
set_option maxHeartbeats 4000000 in
theorem l_cmp130 {G : j_G} {X : k_X} {n : Nat} {σ τ : k_St} (hn : 101 ≤ n) (hK : RKept σ) (hP : RPass σ) {a b : Int} (a0 : 0 ≤ a) (a1 : a < σ.1 69 301) (b0 : 0 ≤ b) (b1 : b < σ.1 69 301) (hfr : b_fr σ τ) {od i j w : Int}  : ∀ (z : Nat) (k : Int), 16 - k < (z : Int) → 0 ≤ k → k ≤ σ.1 69 (302 + 36 * a + 1) → k ≤ σ.1 69 (302 + 36 * b + 1) → (∀ q, 0 ≤ q → q < k → e_own (σ.1 69) a q = e_own (σ.1 69) b q) → j_at G mX12_compared 130 [(0, .ref 68), (1, j_i a), (2, j_i b), (3, j_i od), (4, j_i i), (5, j_i j), (6, j_i w), (7, j_i k)] [] (k_h X n τ) 0 0 (k_Q X (cm_post n σ (r_cmp (e_own (σ.1 69) a) (e_own (σ.1 69) b)))) := by
  have hg := hK.2.2.2
  have hg3 := (KR_rg hK.1 hK.2.1).1.2.1
  have hla := (KR_rg hK.1 hK.2.1).2.1 a a0 a1
  have hlb := (KR_rg hK.1 hK.2.1).2.1 b b0 b1
  intro z
  induction z with
  | zero => intro k hz k0 kN; exact absurd hz (by omega)
  | succ z ih =>
    intro k hz k0 kA kB hI
    refine a_iload (pc := 130) (i := 7) (by decide +kernel) rfl ?_
    refine a_aload_n (pc := 132) (i := 0) (by decide +kernel) rfl ?_
    refine a_iload_n (pc := 133) (i := 1) (by decide +kernel) rfl ?_
    refine b_pureV (pc := 134) [j_i a] [j_i k] ml_X12_186 (by decide +kernel) rfl rfl (sh_68 hn) rfl rfl (Nat.le_of_ble_eq_true rfl) (j_fitI rfl rfl) (s_dsignsOf hn (by omega)) ?_
    rw [hfr.1]
    show j_at _ _ _ [(0, .ref 68), (1, j_i a), (2, j_i b), (3, j_i od), (4, j_i i), (5, j_i j), (6, j_i w), (7, j_i k)] [j_i (σ.1 69 (302 + 36 * a + 1)), j_i k] _ _ _ _
    refine a_icmp_ge (pc := 137) (off := 52) (tgt := 189) (by decide +kernel) (by decide) (by omega) (by omega) (fun c137 => ?_) (fun c137 => ?_)
    · refine a_aload_n (pc := 189) (i := 0) (by decide +kernel) rfl ?_
      refine a_iload_n (pc := 190) (i := 1) (by decide +kernel) rfl ?_
      refine b_pureV (pc := 191) [j_i a] [] ml_X12_186 (by decide +kernel) rfl rfl (sh_68 hn) rfl rfl (Nat.le_of_ble_eq_true rfl) (j_fitI rfl rfl) (s_dsignsOf hn (by omega)) ?_
      rw [hfr.1]
      show j_at _ _ _ [(0, .ref 68), (1, j_i a), (2, j_i b), (3, j_i od), (4, j_i i), (5, j_i j), (6, j_i w), (7, j_i k)] [j_i (σ.1 69 (302 + 36 * a + 1))] _ _ _ _
      refine a_aload_n (pc := 194) (i := 0) (by decide +kernel) rfl ?_
      refine a_iload_n (pc := 195) (i := 2) (by decide +kernel) rfl ?_
      refine b_pureV (pc := 196) [j_i b] [j_i (σ.1 69 (302 + 36 * a + 1))] ml_X12_186 (by decide +kernel) rfl rfl (sh_68 hn) rfl rfl (Nat.le_of_ble_eq_true rfl) (j_fitI rfl rfl) (s_dsignsOf hn (by omega)) ?_
      rw [hfr.1]
      show j_at _ _ _ [(0, .ref 68), (1, j_i a), (2, j_i b), (3, j_i od), (4, j_i i), (5, j_i j), (6, j_i w), (7, j_i k)] [j_i (σ.1 69 (302 + 36 * b + 1)), j_i (σ.1 69 (302 + 36 * a + 1))] _ _ _ _
      refine a_isub (pc := 199) (by decide +kernel) ?_
      refine a_ireturn (pc := 200) (by decide +kernel) rfl ?_
      refine k_ret ?_
      refine ⟨rfl, hfr, _, rfl, by omega, ?_⟩
      rw [o_sg_d]
      rcases Int.lt_trichotomy (σ.1 69 (302 + 36 * a + 1)) (σ.1 69 (302 + 36 * b + 1)) with e | e | e
      · have ek : k = σ.1 69 (302 + 36 * a + 1) := by omega
        have ea := e_own_o (g := σ.1 69) (h := a) (i := k) (by omega)
        have eb := e_own_at (g := σ.1 69) (h := b) (i := k) k0 (by omega)
        have qb := e_own_in hK b0 b1 (i := k) (by omega) (by omega)
        exact Or.inr ⟨k, k0, by omega, hI, by omega, by unfold f_sgn; rw [if_pos e, if_pos (by omega)]⟩
      · refine Or.inl ⟨by unfold f_sgn; rw [if_neg (by omega), if_pos e], fun q q0 q1 => ?_⟩
        by_cases w9 : q < k
        · exact hI q q0 w9
        · rw [e_own_o (by omega), e_own_o (by omega)]
      · have ek : k = σ.1 69 (302 + 36 * b + 1) := by omega
        have eb := e_own_o (g := σ.1 69) (h := b) (i := k) (by omega)
        have ea := e_own_at (g := σ.1 69) (h := a) (i := k) k0 (by omega)
        have qa := e_own_in hK a0 a1 (i := k) (by omega) (by omega)
        exact Or.inr ⟨k, k0, by omega, hI, by omega, by unfold f_sgn; rw [if_neg (by omega), if_neg (by omega), if_neg (by omega), if_neg (by omega)]⟩
    · refine a_iload (pc := 140) (i := 7) (by decide +kernel) rfl ?_
      refine a_aload_n (pc := 142) (i := 0) (by decide +kernel) rfl ?_
      refine a_iload_n (pc := 143) (i := 2) (by decide +kernel) rfl ?_
      refine b_pureV (pc := 144) [j_i b] [j_i k] ml_X12_186 (by decide +kernel) rfl rfl (sh_68 hn) rfl rfl (Nat.le_of_ble_eq_true rfl) (j_fitI rfl rfl) (s_dsignsOf hn (by omega)) ?_
      rw [hfr.1]
      show j_at _ _ _ [(0, .ref 68), (1, j_i a), (2, j_i b), (3, j_i od), (4, j_i i), (5, j_i j), (6, j_i w), (7, j_i k)] [j_i (σ.1 69 (302 + 36 * b + 1)), j_i k] _ _ _ _
      refine a_icmp_ge (pc := 147) (off := 42) (tgt := 189) (by decide +kernel) (by decide) (by omega) (by omega) (fun c147 => ?_) (fun c147 => ?_)
      · refine a_aload_n (pc := 189) (i := 0) (by decide +kernel) rfl ?_
        refine a_iload_n (pc := 190) (i := 1) (by decide +kernel) rfl ?_
        refine b_pureV (pc := 191) [j_i a] [] ml_X12_186 (by decide +kernel) rfl rfl (sh_68 hn) rfl rfl (Nat.le_of_ble_eq_true rfl) (j_fitI rfl rfl) (s_dsignsOf hn (by omega)) ?_
        rw [hfr.1]
        show j_at _ _ _ [(0, .ref 68), (1, j_i a), (2, j_i b), (3, j_i od), (4, j_i i), (5, j_i j), (6, j_i w), (7, j_i k)] [j_i (σ.1 69 (302 + 36 * a + 1))] _ _ _ _
        refine a_aload_n (pc := 194) (i := 0) (by decide +kernel) rfl ?_
        refine a_iload_n (pc := 195) (i := 2) (by decide +kernel) rfl ?_
        refine b_pureV (pc := 196) [j_i b] [j_i (σ.1 69 (302 + 36 * a + 1))] ml_X12_186 (by decide +kernel) rfl rfl (sh_68 hn) rfl rfl (Nat.le_of_ble_eq_true rfl) (j_fitI rfl rfl) (s_dsignsOf hn (by omega)) ?_
        rw [hfr.1]
        show j_at _ _ _ [(0, .ref 68), (1, j_i a), (2, j_i b), (3, j_i od), (4, j_i i), (5, j_i j), (6, j_i w), (7, j_i k)] [j_i (σ.1 69 (302 + 36 * b + 1)), j_i (σ.1 69 (302 + 36 * a + 1))] _ _ _ _
        refine a_isub (pc := 199) (by decide +kernel) ?_
        refine a_ireturn (pc := 200) (by decide +kernel) rfl ?_
        refine k_ret ?_
        refine ⟨rfl, hfr, _, rfl, by omega, ?_⟩
        rw [o_sg_d]
        rcases Int.lt_trichotomy (σ.1 69 (302 + 36 * a + 1)) (σ.1 69 (302 + 36 * b + 1)) with e | e | e
        · have ek : k = σ.1 69 (302 + 36 * a + 1) := by omega
          have ea := e_own_o (g := σ.1 69) (h := a) (i := k) (by omega)
          have eb := e_own_at (g := σ.1 69) (h := b) (i := k) k0 (by omega)
          have qb := e_own_in hK b0 b1 (i := k) (by omega) (by omega)
          exact Or.inr ⟨k, k0, by omega, hI, by omega, by unfold f_sgn; rw [if_pos e, if_pos (by omega)]⟩
        · refine Or.inl ⟨by unfold f_sgn; rw [if_neg (by omega), if_pos e], fun q q0 q1 => ?_⟩
          by_cases w9 : q < k
          · exact hI q q0 w9
          · rw [e_own_o (by omega), e_own_o (by omega)]
        · have ek : k = σ.1 69 (302 + 36 * b + 1) := by omega
          have eb := e_own_o (g := σ.1 69) (h := b) (i := k) (by omega)
          have ea := e_own_at (g := σ.1 69) (h := a) (i := k) k0 (by omega)
          have qa := e_own_in hK a0 a1 (i := k) (by omega) (by omega)
          exact Or.inr ⟨k, k0, by omega, hI, by omega, by unfold f_sgn; rw [if_neg (by omega), if_neg (by omega), if_neg (by omega), if_neg (by omega)]⟩
      · refine a_aload_n (pc := 150) (i := 0) (by decide +kernel) rfl ?_
        refine a_iload_n (pc := 151) (i := 1) (by decide +kernel) rfl ?_
        refine a_iload (pc := 152) (i := 7) (by decide +kernel) rfl ?_
        refine b_pureV (pc := 154) [j_i a, j_i k] [] ml_X12_189 (by decide +kernel) rfl rfl (sh_68 hn) rfl rfl (Nat.le_of_ble_eq_true rfl) (j_fitI rfl rfl) (s_dsignOf hn (by omega) (by omega)) ?_
        rw [hfr.1]
        have q1 := e_own_in hK a0 a1 (i := k) (by omega) (by omega)
        show j_at _ _ _ [(0, .ref 68), (1, j_i a), (2, j_i b), (3, j_i od), (4, j_i i), (5, j_i j), (6, j_i w), (7, j_i k)] [j_i (σ.1 69 (302 + 36 * a + 3 + k))] _ _ _ _
        refine a_aload_n (pc := 157) (i := 0) (by decide +kernel) rfl ?_
        refine a_iload_n (pc := 158) (i := 2) (by decide +kernel) rfl ?_
        refine a_iload (pc := 159) (i := 7) (by decide +kernel) rfl ?_
        refine b_pureV (pc := 161) [j_i b, j_i k] [j_i (σ.1 69 (302 + 36 * a + 3 + k))] ml_X12_189 (by decide +kernel) rfl rfl (sh_68 hn) rfl rfl (Nat.le_of_ble_eq_true rfl) (j_fitI rfl rfl) (s_dsignOf hn (by omega) (by omega)) ?_
        rw [hfr.1]
        have q2 := e_own_in hK b0 b1 (i := k) (by omega) (by omega)
        show j_at _ _ _ [(0, .ref 68), (1, j_i a), (2, j_i b), (3, j_i od), (4, j_i i), (5, j_i j), (6, j_i w), (7, j_i k)] [j_i (σ.1 69 (302 + 36 * b + 3 + k)), j_i (σ.1 69 (302 + 36 * a + 3 + k))] _ _ _ _
        refine a_icmp_eq (pc := 164) (off := 19) (tgt := 183) (by decide +kernel) (by decide) (by omega) (by omega) (fun c164 => ?_) (fun c164 => ?_)
        · refine a_iinc (pc := 183) (i := 7) (n := 1) (x := k) (lv' := [(0, .ref 68), (1, j_i a), (2, j_i b), (3, j_i od), (4, j_i i), (5, j_i j), (6, j_i w), (7, j_i (k + 1))]) (by decide +kernel) rfl (Nat.le_of_ble_eq_true rfl) rfl ?_
          refine a_goto (pc := 186) (off := -56) (tgt := 130) (by decide +kernel) (by decide) ?_
          have ea := e_own_at (g := σ.1 69) (h := a) (i := k) k0 (by omega)
          have eb := e_own_at (g := σ.1 69) (h := b) (i := k) k0 (by omega)
          exact ih (k + 1) (by omega) (by omega) (by omega) (by omega) (fun q q0 q1 => by by_cases e : q = k; rw [e, ea, eb]; omega; exact hI q q0 (by omega))
        · refine a_aload_n (pc := 167) (i := 0) (by decide +kernel) rfl ?_
          refine a_iload_n (pc := 168) (i := 1) (by decide +kernel) rfl ?_
          refine a_iload (pc := 169) (i := 7) (by decide +kernel) rfl ?_
          refine b_pureV (pc := 171) [j_i a, j_i k] [] ml_X12_189 (by decide +kernel) rfl rfl (sh_68 hn) rfl rfl (Nat.le_of_ble_eq_true rfl) (j_fitI rfl rfl) (s_dsignOf hn (by omega) (by omega)) ?_
          rw [hfr.1]
          have q3 := e_own_in hK a0 a1 (i := k) (by omega) (by omega)
          show j_at _ _ _ [(0, .ref 68), (1, j_i a), (2, j_i b), (3, j_i od), (4, j_i i), (5, j_i j), (6, j_i w), (7, j_i k)] [j_i (σ.1 69 (302 + 36 * a + 3 + k))] _ _ _ _
          refine a_aload_n (pc := 174) (i := 0) (by decide +kernel) rfl ?_
          refine a_iload_n (pc := 175) (i := 2) (by decide +kernel) rfl ?_
          refine a_iload (pc := 176) (i := 7) (by decide +kernel) rfl ?_
          refine b_pureV (pc := 178) [j_i b, j_i k] [j_i (σ.1 69 (302 + 36 * a + 3 + k))] ml_X12_189 (by decide +kernel) rfl rfl (sh_68 hn) rfl rfl (Nat.le_of_ble_eq_true rfl) (j_fitI rfl rfl) (s_dsignOf hn (by omega) (by omega)) ?_
          rw [hfr.1]
          have q4 := e_own_in hK b0 b1 (i := k) (by omega) (by omega)
          show j_at _ _ _ [(0, .ref 68), (1, j_i a), (2, j_i b), (3, j_i od), (4, j_i i), (5, j_i j), (6, j_i w), (7, j_i k)] [j_i (σ.1 69 (302 + 36 * b + 3 + k)), j_i (σ.1 69 (302 + 36 * a + 3 + k))] _ _ _ _
          refine a_isub (pc := 181) (by decide +kernel) ?_
          refine a_ireturn (pc := 182) (by decide +kernel) rfl ?_
          refine k_ret ?_
          have ea := e_own_at (g := σ.1 69) (h := a) (i := k) k0 (by omega)
          have eb := e_own_at (g := σ.1 69) (h := b) (i := k) k0 (by omega)
          exact ⟨rfl, hfr, _, rfl, by omega, Or.inr ⟨k, k0, by omega, hI, by rw [ea, eb]; exact c164, by rw [o_sg_d, ea, eb]⟩⟩
theorem b_K {σ τ : k_St} (h : b_fr σ τ) (hK : RKept σ) : RKept τ := RKept_cg (fun c _ _ => by rw [h.1]) (fun c j _ _ => h.2.1 c j (by omega)) (by rw [h.1]) hK
theorem b_P {σ τ : k_St} (h : b_fr σ τ) (hP : RPass σ) : RPass τ := RPass_cg (by rw [h.1]) (by rw [h.1]) (by rw [h.1]) (by rw [h.1]) (h.2.1 _ _ (by omega)) (h.2.1 _ _ (by omega)) hP
theorem f_sgn_ne {x y : Int} (h : x ≠ y) : f_sgn x y ≠ 0 := by unfold f_sgn; (repeat' split) <;> omega
theorem lc_1 {x y : Int} (h : (if x < y then (-1 : Int) else if x = y then 0 else 1) < 0) : x < y := by
  split at h
  · assumption
  · split at h <;> omega
theorem lc_2 {x y : Int} (h : 0 ≤ (if x < y then (-1 : Int) else if x = y then 0 else 1)) : ¬ x < y := fun e => by rw [if_pos e] at h; omega
theorem bk_00 {s : Int → Int} {i : Int} (h : f_bk s i = 0) : s i = -9 := by
  unfold f_bk at h
  split at h
  · omega
  · split at h
    · assumption
    · split at h
      · omega
      · split at h <;> omega
theorem bk_v0 {s : Int → Int} {i : Int} (h : s i = -9) : f_bv s i = -9 := by unfold f_bv; rw [if_neg (by omega), h]; rfl
theorem f_bat_le {s : Int → Int} {l i : Int} (i0 : 0 ≤ i) (i1 : i ≤ 16) (hs : s 16 ≠ 32) : i ≤ f_bat s l i := by
  unfold f_bat; split
  · omega
  · exact (f_sk_in hs 17 i (by omega) i1).1
set_option maxHeartbeats 4000000 in
theorem l_cmp24 {G : j_G} {X : k_X} {n : Nat} {σ : k_St} (hn : 101 ≤ n) (hK : RKept σ) (hP : RPass σ) {a b : Int} (a0 : 0 ≤ a) (a1 : a < σ.1 69 301) (b0 : 0 ≤ b) (b1 : b < σ.1 69 301) {od : Int} (ho : od = 0 ∨ od = 1) {P : Int → Prop}  : ∀ (z : Nat) (i j : Int) (τ : k_St), 17 ≤ i + (z : Int) → 0 ≤ i → i ≤ 16 → 0 ≤ j → j ≤ 16 → b_fr σ τ → (∀ r, o_res (e_key (σ.1 69) a) (e_key (σ.1 69) b) (if od = 0 then 1 else 0) z i j (e_own (σ.1 69) a) (e_own (σ.1 69) b) r → P r) → j_at G mX12_compared 24 [(0, .ref 68), (1, j_i a), (2, j_i b), (3, j_i od), (4, j_i i), (5, j_i j), (6, j_i 1)] [] (k_h X n τ) 0 0 (k_Q X (cm_post n σ P)) := by
  have hg := hK.2.2.2
  have hg3 := (KR_rg hK.1 hK.2.1).1.2.1
  have hla := (KR_rg hK.1 hK.2.1).2.1 a a0 a1
  have hlb := (KR_rg hK.1 hK.2.1).2.1 b b0 b1
  intro z
  induction z with
  | zero => intro i j τ hz i0 i1; exact absurd hz (by omega)
  | succ z ih =>
    intro i j τ hz i0 i1 j0 j1 hfr hC
    have sa := e_key_16 hK a0 a1
    have sb := e_key_16 hK b0 b1
    have ba := f_bat_in (s := e_key (σ.1 69) a) (l := (if od = 0 then 1 else 0)) (i := i) (by rw [sa 16 (by omega)]; omega) i0 i1
    have bb := f_bat_in (s := e_key (σ.1 69) b) (l := (if od = 0 then 1 else 0)) (i := j) (by rw [sb 16 (by omega)]; omega) j0 j1
    have ka := f_bk_in (e_key (σ.1 69) a) (f_bat (e_key (σ.1 69) a) (if od = 0 then 1 else 0) i)
    have kb := f_bk_in (e_key (σ.1 69) b) (f_bat (e_key (σ.1 69) b) (if od = 0 then 1 else 0) j)
    have va := f_bv_in (s := e_key (σ.1 69) a) (i := f_bat (e_key (σ.1 69) a) (if od = 0 then 1 else 0) i) (by rw [sa 16 (by omega)]; omega) (e_key_b hK a0 a1 _) ba.1 ba.2
    have vb := f_bv_in (s := e_key (σ.1 69) b) (i := f_bat (e_key (σ.1 69) b) (if od = 0 then 1 else 0) j) (by rw [sb 16 (by omega)]; omega) (e_key_b hK b0 b1 _) bb.1 bb.2
    rw [show (10 : Int) ^ 16 = 10000000000000000 from rfl] at va vb
    refine a_iload (pc := 24) (i := 6) (by decide +kernel) rfl ?_
    refine a_if_eq (pc := 26) (off := 101) (tgt := 127) (by decide +kernel) (by decide) (by omega) (fun c26 => ?_) (fun c26 => ?_)
    · exact absurd c26 (by decide)
    · refine a_aload_n (pc := 29) (i := 0) (by decide +kernel) rfl ?_
      refine a_iload_n (pc := 30) (i := 1) (by decide +kernel) rfl ?_
      refine a_iload (pc := 31) (i := 4) (by decide +kernel) rfl ?_
      refine a_iload_n (pc := 33) (i := 3) (by decide +kernel) rfl ?_
      refine b_callV (pc := 34) (c' := 0) (sl' := 0) [j_i a, j_i i, j_i od] [] ml_X12_244 (by decide +kernel) rfl rfl (sh_68 hn) rfl rfl (Nat.le_of_ble_eq_true rfl) (j_fitI rfl rfl) (e_bit (σ := τ) hn (b_K hfr hK) (b_P hfr hP) a0 (by rw [hfr.1]; exact a1) (by omega) (by omega) ho) (fun v n' σ' hq => ?_)
      obtain ⟨rfl, rfl, w1, kσ1, w2⟩ := hq
      obtain ⟨σ1, hσ1⟩ : ∃ z, z = σ' := ⟨_, rfl⟩
      rw [← hσ1] at w1 kσ1 w2 ⊢
      clear hσ1
      rw [hfr.1] at kσ1 w2
      have frσ1 := b_fr_t hfr w1
      have vσ1 := w2
      clear w1 w2
      show j_at _ _ _ [(0, .ref 68), (1, j_i a), (2, j_i b), (3, j_i od), (4, j_i i), (5, j_i j), (6, j_i 1)] [] _ _ _ _
      refine a_aload_n (pc := 37) (i := 0) (by decide +kernel) rfl ?_
      refine b_getI (pc := 38) fl_X12_227 (by decide +kernel) (sh_68 hn) rfl ?_
      rw [show σ1.2.1 68 22 = f_bk (e_key (σ.1 69) a) (f_bat (e_key (σ.1 69) a) (if od = 0 then 1 else 0) i) from kσ1]
      refine a_istore (pc := 41) (i := 7) (lv' := [(0, .ref 68), (1, j_i a), (2, j_i b), (3, j_i od), (4, j_i i), (5, j_i j), (6, j_i 1), (7, j_i (f_bk (e_key (σ.1 69) a) (f_bat (e_key (σ.1 69) a) (if od = 0 then 1 else 0) i)))]) (by decide +kernel) (Nat.le_of_ble_eq_true rfl) rfl ?_
      refine a_aload_n (pc := 43) (i := 0) (by decide +kernel) rfl ?_
      refine b_getL (pc := 44) fl_X12_230 (by decide +kernel) (sh_68 hn) rfl ?_
      refine a_lstore (pc := 47) (i := 8) (lv' := [(0, .ref 68), (1, j_i a), (2, j_i b), (3, j_i od), (4, j_i i), (5, j_i j), (6, j_i 1), (7, j_i (f_bk (e_key (σ.1 69) a) (f_bat (e_key (σ.1 69) a) (if od = 0 then 1 else 0) i))), (8, j_l (σ1.2.1 68 23))]) (by decide +kernel) (Nat.le_of_ble_eq_true rfl) rfl ?_
      refine a_aload_n (pc := 49) (i := 0) (by decide +kernel) rfl ?_
      refine b_getI (pc := 50) fl_X12_234 (by decide +kernel) (sh_68 hn) rfl ?_
      refine a_istore (pc := 53) (i := 4) (lv' := [(0, .ref 68), (1, j_i a), (2, j_i b), (3, j_i od), (4, j_i (σ1.2.1 68 24)), (5, j_i j), (6, j_i 1), (7, j_i (f_bk (e_key (σ.1 69) a) (f_bat (e_key (σ.1 69) a) (if od = 0 then 1 else 0) i))), (8, j_l (σ1.2.1 68 23))]) (by decide +kernel) (Nat.le_of_ble_eq_true rfl) rfl ?_
      refine a_aload_n (pc := 55) (i := 0) (by decide +kernel) rfl ?_
      refine a_iload_n (pc := 56) (i := 2) (by decide +kernel) rfl ?_
      refine a_iload (pc := 57) (i := 5) (by decide +kernel) rfl ?_
      refine a_iload_n (pc := 59) (i := 3) (by decide +kernel) rfl ?_
      refine b_callV (pc := 60) (c' := 0) (sl' := 0) [j_i b, j_i j, j_i od] [] ml_X12_244 (by decide +kernel) rfl rfl (sh_68 hn) rfl rfl (Nat.le_of_ble_eq_true rfl) (j_fitI rfl rfl) (e_bit (σ := σ1) hn (b_K frσ1 hK) (b_P frσ1 hP) b0 (by rw [frσ1.1]; exact b1) (by omega) (by omega) ho) (fun v n' σ' hq => ?_)
      obtain ⟨rfl, rfl, w1, kσ2, w2⟩ := hq
      obtain ⟨σ2, hσ2⟩ : ∃ z, z = σ' := ⟨_, rfl⟩
      rw [← hσ2] at w1 kσ2 w2 ⊢
      clear hσ2
      rw [frσ1.1] at kσ2 w2
      have frσ2 := b_fr_t frσ1 w1
      have vσ2 := w2
      clear w1 w2
      show j_at _ _ _ [(0, .ref 68), (1, j_i a), (2, j_i b), (3, j_i od), (4, j_i (σ1.2.1 68 24)), (5, j_i j), (6, j_i 1), (7, j_i (f_bk (e_key (σ.1 69) a) (f_bat (e_key (σ.1 69) a) (if od = 0 then 1 else 0) i))), (8, j_l (σ1.2.1 68 23))] [] _ _ _ _
      refine a_aload_n (pc := 63) (i := 0) (by decide +kernel) rfl ?_
      refine b_getI (pc := 64) fl_X12_234 (by decide +kernel) (sh_68 hn) rfl ?_
      refine a_istore (pc := 67) (i := 5) (lv' := [(0, .ref 68), (1, j_i a), (2, j_i b), (3, j_i od), (4, j_i (σ1.2.1 68 24)), (5, j_i (σ2.2.1 68 24)), (6, j_i 1), (7, j_i (f_bk (e_key (σ.1 69) a) (f_bat (e_key (σ.1 69) a) (if od = 0 then 1 else 0) i))), (8, j_l (σ1.2.1 68 23))]) (by decide +kernel) (Nat.le_of_ble_eq_true rfl) rfl ?_
      refine a_iload (pc := 69) (i := 7) (by decide +kernel) rfl ?_
      refine a_aload_n (pc := 71) (i := 0) (by decide +kernel) rfl ?_
      refine b_getI (pc := 72) fl_X12_227 (by decide +kernel) (sh_68 hn) rfl ?_
      rw [show σ2.2.1 68 22 = f_bk (e_key (σ.1 69) b) (f_bat (e_key (σ.1 69) b) (if od = 0 then 1 else 0) j) from kσ2]
      refine a_icmp_eq (pc := 75) (off := 11) (tgt := 86) (by decide +kernel) (by decide) (by omega) (by omega) (fun c75 => ?_) (fun c75 => ?_)
      · have la : -128 ≤ σ1.2.1 68 23 ∧ σ1.2.1 68 23 < 10000000000000000 := by rcases vσ1 with w | w <;> omega
        have lb9 : -128 ≤ σ2.2.1 68 23 ∧ σ2.2.1 68 23 < 10000000000000000 := by rcases vσ2 with w | w <;> omega
        refine a_lload (pc := 86) (i := 8) (by decide +kernel) rfl ?_
        refine a_aload_n (pc := 88) (i := 0) (by decide +kernel) rfl ?_
        refine b_getL (pc := 89) fl_X12_230 (by decide +kernel) (sh_68 hn) rfl ?_
        refine a_lcmp (pc := 92) (by decide +kernel) (by omega) (by omega) ?_
        refine a_if_eq (pc := 93) (off := 19) (tgt := 112) (by decide +kernel) (by decide) (by split <;> (try split) <;> omega) (fun c93 => ?_) (fun c93 => ?_)
        · refine a_iload (pc := 112) (i := 7) (by decide +kernel) rfl ?_
          refine a_if_eq (pc := 114) (off := 7) (tgt := 121) (by decide +kernel) (by decide) (by omega) (fun c114 => ?_) (fun c114 => ?_)
          · refine a_iconst (pc := 121) (n := 0) (by decide +kernel) ?_
            refine a_istore (pc := 122) (i := 6) (lv' := [(0, .ref 68), (1, j_i a), (2, j_i b), (3, j_i od), (4, j_i (σ1.2.1 68 24)), (5, j_i (σ2.2.1 68 24)), (6, j_i 0), (7, j_i (f_bk (e_key (σ.1 69) a) (f_bat (e_key (σ.1 69) a) (if od = 0 then 1 else 0) i))), (8, j_l (σ1.2.1 68 23))]) (by decide +kernel) (Nat.le_of_ble_eq_true rfl) rfl ?_
            refine a_goto (pc := 124) (off := -100) (tgt := 24) (by decide +kernel) (by decide) ?_
            refine a_iload (pc := 24) (i := 6) (by decide +kernel) rfl ?_
            refine a_if_eq (pc := 26) (off := 101) (tgt := 127) (by decide +kernel) (by decide) (by omega) (fun c26 => ?_) (fun c26 => ?_)
            · refine a_iconst (pc := 127) (n := 0) (by decide +kernel) ?_
              refine a_istore (pc := 128) (i := 7) (lv' := [(0, .ref 68), (1, j_i a), (2, j_i b), (3, j_i od), (4, j_i (σ1.2.1 68 24)), (5, j_i (σ2.2.1 68 24)), (6, j_i 0), (7, j_i 0), (8, j_l (σ1.2.1 68 23))]) (by decide +kernel) (Nat.le_of_ble_eq_true rfl) rfl ?_
              have e9 : f_cb (e_key (σ.1 69) a) (e_key (σ.1 69) b) (if od = 0 then 1 else 0) (z + 1) i j = 0 := by
                show (if _ then _ else _) = _
                have ea := bk_00 c114
                have eb : e_key (σ.1 69) b (f_bat (e_key (σ.1 69) b) (if od = 0 then 1 else 0) j) = -9 := bk_00 (show f_bk (e_key (σ.1 69) b) (f_bat (e_key (σ.1 69) b) (if od = 0 then 1 else 0) j) = 0 by omega)
                rw [if_neg (by omega), if_neg (by rw [bk_v0 ea, bk_v0 eb]; omega), if_pos c114]
              refine k_mono (fun v' n' ρ hq => ?_) (a_sub (lv' := [(0, .ref 68), (1, j_i a), (2, j_i b), (3, j_i od), (4, j_i (σ1.2.1 68 24)), (5, j_i (σ2.2.1 68 24)), (6, j_i 0), (7, j_i 0)]) (fun q hq => by simp only [List.mem_cons, List.not_mem_nil, or_false] at hq ⊢; rcases hq with rfl | rfl | rfl | rfl | rfl | rfl | rfl | rfl <;> simp) (l_cmp130 hn hK hP a0 a1 b0 b1 frσ2 18 0 (by omega) (by omega) (by omega) (by omega) (fun q q0 q1 => absurd q0 (by omega))))
              obtain ⟨w1, w2, x, w3, w4, w5⟩ := hq
              exact ⟨w1, w2, x, w3, w4, hC _ (Or.inr ⟨e9, w5⟩)⟩
            · exact absurd c26 (by decide)
          · refine a_iconst (pc := 117) (n := 1) (by decide +kernel) ?_
            refine a_goto (pc := 118) (off := 4) (tgt := 122) (by decide +kernel) (by decide) ?_
            refine a_istore (pc := 122) (i := 6) (lv' := [(0, .ref 68), (1, j_i a), (2, j_i b), (3, j_i od), (4, j_i (σ1.2.1 68 24)), (5, j_i (σ2.2.1 68 24)), (6, j_i 1), (7, j_i (f_bk (e_key (σ.1 69) a) (f_bat (e_key (σ.1 69) a) (if od = 0 then 1 else 0) i))), (8, j_l (σ1.2.1 68 23))]) (by decide +kernel) (Nat.le_of_ble_eq_true rfl) rfl ?_
            refine a_goto (pc := 124) (off := -100) (tgt := 24) (by decide +kernel) (by decide) ?_
            have va9 : σ1.2.1 68 24 = f_be (e_key (σ.1 69) a) (f_bat (e_key (σ.1 69) a) (if od = 0 then 1 else 0) i) := by rcases vσ1 with w | w; exact absurd w.1 c114; exact w.2.2
            have vb9 : σ2.2.1 68 24 = f_be (e_key (σ.1 69) b) (f_bat (e_key (σ.1 69) b) (if od = 0 then 1 else 0) j) := by rcases vσ2 with w | w; omega; exact w.2.2
            have va8 : σ1.2.1 68 23 = f_bv (e_key (σ.1 69) a) (f_bat (e_key (σ.1 69) a) (if od = 0 then 1 else 0) i) := by rcases vσ1 with w | w; exact absurd w.1 c114; exact w.2.1
            have vb8 : σ2.2.1 68 23 = f_bv (e_key (σ.1 69) b) (f_bat (e_key (σ.1 69) b) (if od = 0 then 1 else 0) j) := by rcases vσ2 with w | w; omega; exact w.2.1
            have ea := f_be_s sa ba.1 ba.2 c114
            have eb := f_be_s sb bb.1 bb.2 (show f_bk (e_key (σ.1 69) b) (f_bat (e_key (σ.1 69) b) (if od = 0 then 1 else 0) j) ≠ 0 by omega)
            have hba : i ≤ f_bat (e_key (σ.1 69) a) (if od = 0 then 1 else 0) i := f_bat_le i0 i1 (by rw [sa 16 (by omega)]; omega)
            refine a_sub (pc := 24) (lv' := [(0, .ref 68), (1, j_i a), (2, j_i b), (3, j_i od), (4, j_i (σ1.2.1 68 24)), (5, j_i (σ2.2.1 68 24)), (6, j_i 1)]) (fun q hq => by simp only [List.mem_cons, List.not_mem_nil, or_false] at hq ⊢; rcases hq with rfl | rfl | rfl | rfl | rfl | rfl | rfl <;> simp) ?_
            rw [va9, vb9]
            refine ih _ _ σ2 (by omega) (by omega) (by omega) (by omega) (by omega) frσ2 ?_
            intro r hr
            refine hC r ?_
            have e9 : f_cb (e_key (σ.1 69) a) (e_key (σ.1 69) b) (if od = 0 then 1 else 0) (z + 1) i j = f_cb (e_key (σ.1 69) a) (e_key (σ.1 69) b) (if od = 0 then 1 else 0) z (f_be (e_key (σ.1 69) a) (f_bat (e_key (σ.1 69) a) (if od = 0 then 1 else 0) i)) (f_be (e_key (σ.1 69) b) (f_bat (e_key (σ.1 69) b) (if od = 0 then 1 else 0) j)) := by
              show (if _ then _ else _) = _
              rw [if_neg (by omega), if_neg (by omega), if_neg c114]
            unfold o_res at hr ⊢
            rw [e9]; exact hr
        · refine a_lload (pc := 96) (i := 8) (by decide +kernel) rfl ?_
          refine a_aload_n (pc := 98) (i := 0) (by decide +kernel) rfl ?_
          refine b_getL (pc := 99) fl_X12_230 (by decide +kernel) (sh_68 hn) rfl ?_
          refine a_lcmp (pc := 102) (by decide +kernel) (by omega) (by omega) ?_
          refine a_if_ge (pc := 103) (off := 7) (tgt := 110) (by decide +kernel) (by decide) (by split <;> (try split) <;> omega) (fun c103 => ?_) (fun c103 => ?_)
          · refine a_iconst (pc := 110) (n := 1) (by decide +kernel) ?_
            refine a_ireturn (pc := 111) (by decide +kernel) rfl ?_
            refine k_ret ?_
            have hk0 : f_bk (e_key (σ.1 69) a) (f_bat (e_key (σ.1 69) a) (if od = 0 then 1 else 0) i) ≠ 0 := fun e => by
              rcases vσ1 with w | w
              · rcases vσ2 with u | u
                · exact c93 (by rw [w.2, u.2]; rfl)
                · omega
              · exact w.1 e
            have va8 : σ1.2.1 68 23 = f_bv (e_key (σ.1 69) a) (f_bat (e_key (σ.1 69) a) (if od = 0 then 1 else 0) i) := by rcases vσ1 with w | w; exact absurd w.1 hk0; exact w.2.1
            have vb8 : σ2.2.1 68 23 = f_bv (e_key (σ.1 69) b) (f_bat (e_key (σ.1 69) b) (if od = 0 then 1 else 0) j) := by rcases vσ2 with w | w; omega; exact w.2.1
            rw [va8, vb8] at c93 c103
            have hne : f_bv (e_key (σ.1 69) a) (f_bat (e_key (σ.1 69) a) (if od = 0 then 1 else 0) i) ≠ f_bv (e_key (σ.1 69) b) (f_bat (e_key (σ.1 69) b) (if od = 0 then 1 else 0) j) := fun e => c93 (by rw [e, if_neg (by omega), if_pos rfl])
            have e9 : f_cb (e_key (σ.1 69) a) (e_key (σ.1 69) b) (if od = 0 then 1 else 0) (z + 1) i j = f_sgn (f_bv (e_key (σ.1 69) a) (f_bat (e_key (σ.1 69) a) (if od = 0 then 1 else 0) i)) (f_bv (e_key (σ.1 69) b) (f_bat (e_key (σ.1 69) b) (if od = 0 then 1 else 0) j)) := by
              show (if _ then _ else _) = _
              rw [if_neg (by omega), if_pos hne]
            have es : f_sgn (f_bv (e_key (σ.1 69) a) (f_bat (e_key (σ.1 69) a) (if od = 0 then 1 else 0) i)) (f_bv (e_key (σ.1 69) b) (f_bat (e_key (σ.1 69) b) (if od = 0 then 1 else 0) j)) = 1 := by
              unfold f_sgn
              rw [if_neg (lc_2 c103), if_neg hne]
            refine ⟨rfl, frσ2, _, rfl, by omega, hC _ (Or.inl ⟨by rw [e9, es]; omega, ?_⟩)⟩
            rw [e9, es]; decide
          · refine a_iconst (pc := 106) (n := (-1)) (by decide +kernel) ?_
            refine a_goto (pc := 107) (off := 4) (tgt := 111) (by decide +kernel) (by decide) ?_
            refine a_ireturn (pc := 111) (by decide +kernel) rfl ?_
            refine k_ret ?_
            have hk0 : f_bk (e_key (σ.1 69) a) (f_bat (e_key (σ.1 69) a) (if od = 0 then 1 else 0) i) ≠ 0 := fun e => by
              rcases vσ1 with w | w
              · rcases vσ2 with u | u
                · exact c93 (by rw [w.2, u.2]; rfl)
                · omega
              · exact w.1 e
            have va8 : σ1.2.1 68 23 = f_bv (e_key (σ.1 69) a) (f_bat (e_key (σ.1 69) a) (if od = 0 then 1 else 0) i) := by rcases vσ1 with w | w; exact absurd w.1 hk0; exact w.2.1
            have vb8 : σ2.2.1 68 23 = f_bv (e_key (σ.1 69) b) (f_bat (e_key (σ.1 69) b) (if od = 0 then 1 else 0) j) := by rcases vσ2 with w | w; omega; exact w.2.1
            rw [va8, vb8] at c93 c103
            have hne : f_bv (e_key (σ.1 69) a) (f_bat (e_key (σ.1 69) a) (if od = 0 then 1 else 0) i) ≠ f_bv (e_key (σ.1 69) b) (f_bat (e_key (σ.1 69) b) (if od = 0 then 1 else 0) j) := fun e => c93 (by rw [e, if_neg (by omega), if_pos rfl])
            have e9 : f_cb (e_key (σ.1 69) a) (e_key (σ.1 69) b) (if od = 0 then 1 else 0) (z + 1) i j = f_sgn (f_bv (e_key (σ.1 69) a) (f_bat (e_key (σ.1 69) a) (if od = 0 then 1 else 0) i)) (f_bv (e_key (σ.1 69) b) (f_bat (e_key (σ.1 69) b) (if od = 0 then 1 else 0) j)) := by
              show (if _ then _ else _) = _
              rw [if_neg (by omega), if_pos hne]
            have es : f_sgn (f_bv (e_key (σ.1 69) a) (f_bat (e_key (σ.1 69) a) (if od = 0 then 1 else 0) i)) (f_bv (e_key (σ.1 69) b) (f_bat (e_key (σ.1 69) b) (if od = 0 then 1 else 0) j)) = (-1) := by
              unfold f_sgn
              rw [if_pos (lc_1 c103)]
            refine ⟨rfl, frσ2, _, rfl, by omega, hC _ (Or.inl ⟨by rw [e9, es]; omega, ?_⟩)⟩
            rw [e9, es]; decide
      · refine a_iload (pc := 78) (i := 7) (by decide +kernel) rfl ?_
        refine a_aload_n (pc := 80) (i := 0) (by decide +kernel) rfl ?_
        refine b_getI (pc := 81) fl_X12_227 (by decide +kernel) (sh_68 hn) rfl ?_
        rw [show σ2.2.1 68 22 = f_bk (e_key (σ.1 69) b) (f_bat (e_key (σ.1 69) b) (if od = 0 then 1 else 0) j) from kσ2]
        refine a_isub (pc := 84) (by decide +kernel) ?_
        refine a_ireturn (pc := 85) (by decide +kernel) rfl ?_
        refine k_ret ?_
        exact ⟨rfl, frσ2, _, rfl, by omega, hC _ (Or.inl ⟨by rw [show f_cb (e_key (σ.1 69) a) (e_key (σ.1 69) b) (if od = 0 then 1 else 0) (z + 1) i j = f_sgn (f_bk (e_key (σ.1 69) a) (f_bat (e_key (σ.1 69) a) (if od = 0 then 1 else 0) i)) (f_bk (e_key (σ.1 69) b) (f_bat (e_key (σ.1 69) b) (if od = 0 then 1 else 0) j)) from if_pos c75]; exact f_sgn_ne c75, by rw [o_sg_d]; exact (if_pos c75).symm⟩)⟩
theorem RP_y {σ : k_St} (hP : RPass σ) : y_wf σ := ⟨by rw [hP.2.1]; exact hP.1, hP.2.2.2.1, hP.2.2.1⟩
theorem RK_rw {σ : k_St} (hK : RKept σ) (h : Int) : r_wf σ (h_rows σ h 1) 30 := by
  rcases h_rows_2 σ h 1 with e | e
  · rw [e]; exact hK.1.2.1.2.1
  · rw [e]; exact hK.1.2.1.2.2.1
set_option maxHeartbeats 4000000 in
theorem e_compared {G : j_G} {X : k_X} {n : Nat} {σ : k_St} (hn : 101 ≤ n) (hK : RKept σ) (hP : RPass σ) {a b : Int} (a0 : 0 ≤ a) (a1 : a < σ.1 69 301) (b0 : 0 ≤ b) (b1 : b < σ.1 69 301) {od : Int} (ho : od = 0 ∨ od = 1)  : k_run G X mX12_compared [.ref 68, j_i a, j_i b, j_i od] n σ 0 0 (cm_post n σ (o_rel σ a b od)) := by
  have hg := hK.2.2.2
  have hg3 := (KR_rg hK.1 hK.2.1).1.2.1
  have hla := (KR_rg hK.1 hK.2.1).2.1 a a0 a1
  have hlb := (KR_rg hK.1 hK.2.1).2.1 b b0 b1
  have hy := RP_y hP
  have hwR := RK_rw hK
  refine k_enter (by decide +kernel) (Nat.le_of_ble_eq_true rfl) ?_
  show j_at _ _ _ [(0, .ref 68), (1, j_i a), (2, j_i b), (3, j_i od)] [] _ _ _ _
  refine a_iload_n (pc := 0) (i := 1) (by decide +kernel) rfl ?_
  refine a_iload_n (pc := 1) (i := 2) (by decide +kernel) rfl ?_
  refine a_icmp_ne (pc := 2) (off := 5) (tgt := 7) (by decide +kernel) (by decide) (by omega) (by omega) (fun c2 => ?_) (fun c2 => ?_)
  · refine a_aload_n (pc := 7) (i := 0) (by decide +kernel) rfl ?_
    refine a_iload_n (pc := 8) (i := 1) (by decide +kernel) rfl ?_
    refine b_callV (pc := 9) (c' := 0) (sl' := 0) [j_i a] [] ml_X12_241 (by decide +kernel) rfl rfl (sh_68 hn) rfl rfl (Nat.le_of_ble_eq_true rfl) (j_fitI rfl rfl) (e_keyFrom hn hK hP a0 a1) (fun v n' σ' hq => ?_)
    obtain ⟨i1, rfl, e1, e2, hi1⟩ := hq
    rw [e1, e2]; clear e1 e2
    have ri1 : 0 ≤ i1 ∧ i1 ≤ 16 := y_ks_0 hy (hwR a) hi1
    show j_at _ _ _ [(0, .ref 68), (1, j_i a), (2, j_i b), (3, j_i od)] [j_i i1] _ _ _ _
    refine a_istore (pc := 12) (i := 4) (lv' := [(0, .ref 68), (1, j_i a), (2, j_i b), (3, j_i od), (4, j_i i1)]) (by decide +kernel) (Nat.le_of_ble_eq_true rfl) rfl ?_
    refine a_aload_n (pc := 14) (i := 0) (by decide +kernel) rfl ?_
    refine a_iload_n (pc := 15) (i := 2) (by decide +kernel) rfl ?_
    refine b_callV (pc := 16) (c' := 0) (sl' := 0) [j_i b] [] ml_X12_241 (by decide +kernel) rfl rfl (sh_68 hn) rfl rfl (Nat.le_of_ble_eq_true rfl) (j_fitI rfl rfl) (e_keyFrom hn hK hP b0 b1) (fun v n' σ' hq => ?_)
    obtain ⟨i2, rfl, e1, e2, hi2⟩ := hq
    rw [e1, e2]; clear e1 e2
    have ri2 : 0 ≤ i2 ∧ i2 ≤ 16 := y_ks_0 hy (hwR b) hi2
    show j_at _ _ _ [(0, .ref 68), (1, j_i a), (2, j_i b), (3, j_i od), (4, j_i i1)] [j_i i2] _ _ _ _
    refine a_istore (pc := 19) (i := 5) (lv' := [(0, .ref 68), (1, j_i a), (2, j_i b), (3, j_i od), (4, j_i i1), (5, j_i i2)]) (by decide +kernel) (Nat.le_of_ble_eq_true rfl) rfl ?_
    refine a_iconst (pc := 21) (n := 1) (by decide +kernel) ?_
    refine a_istore (pc := 22) (i := 6) (lv' := [(0, .ref 68), (1, j_i a), (2, j_i b), (3, j_i od), (4, j_i i1), (5, j_i i2), (6, j_i 1)]) (by decide +kernel) (Nat.le_of_ble_eq_true rfl) rfl ?_
    refine l_cmp24 hn hK hP a0 a1 b0 b1 ho 17 _ _ σ (by omega) (by omega) (by omega) (by omega) (by omega) b_fr_r (fun r hr => ?_)
    exact ⟨_, _, hi1, hi2, (o_res_key hK a0 a1 b0 b1).mpr hr⟩
  · refine a_iconst (pc := 5) (n := 0) (by decide +kernel) ?_
    refine a_ireturn (pc := 6) (by decide +kernel) rfl ?_
    refine k_ret ?_
    exact ⟨rfl, b_fr_r, 0, rfl, by omega, by rw [← show a = b by omega]; exact o_rel_self hK hP a0 a1⟩
