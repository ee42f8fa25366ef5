/-- signs that sort are signs -/
theorem e_st_in {σ : k_St} (hK : RKept σ) {h : Int} (h0 : 0 ≤ h) (h1 : h < σ.1 69 301) {i : Int} (i0 : 0 ≤ i) (i1 : i < e_sl (σ.1 69) h) : 32 ≤ e_st (σ.1 69) h i ∧ e_st (σ.1 69) h i ≤ 126 := by
  obtain ⟨b1, b2, b3, b4⟩ := KR_h hK h0 h1
  have hE : σ.2.1 8 3 = σ.1 69 301 := hK.2.1.2.1.1
  have z := hK.2.2.1.2.2.1 h h0 (by show h < σ.2.1 8 3; omega)
  have z1 : ∀ i, 0 ≤ i → i < σ.1 11 h → 32 ≤ σ.1 10 (h * 16 + i) ∧ σ.1 10 (h * 16 + i) ≤ 126 := z.1
  have z2 : ∀ i, 0 ≤ i → i < σ.1 14 h → 32 ≤ σ.1 13 (h * 16 + i) ∧ σ.1 13 (h * 16 + i) ≤ 126 := z.2
  unfold e_st; unfold e_sl at i1
  split
  · rw [if_pos (by assumption)] at i1
    rw [← b3 i i0 i1]; exact z1 i i0 (by omega)
  · rw [if_neg (by assumption)] at i1
    rw [← b4 i i0 i1]; exact z2 i i0 (by omega)
theorem e_own_in {σ : k_St} (hK : RKept σ) {h : Int} (h0 : 0 ≤ h) (h1 : h < σ.1 69 301) {i : Int} (i0 : 0 ≤ i) (i1 : i < σ.1 69 (302 + 36 * h + 1)) : 32 ≤ σ.1 69 (302 + 36 * h + 3 + i) ∧ σ.1 69 (302 + 36 * h + 3 + i) ≤ 126 := by
  obtain ⟨b1, b2, b3, b4⟩ := KR_h hK h0 h1
  have hE : σ.2.1 8 3 = σ.1 69 301 := hK.2.1.2.1.1
  have z := hK.2.2.1.2.2.1 h h0 (by show h < σ.2.1 8 3; omega)
  have z1 : ∀ i, 0 ≤ i → i < σ.1 11 h → 32 ≤ σ.1 10 (h * 16 + i) ∧ σ.1 10 (h * 16 + i) ≤ 126 := z.1
  rw [← b3 i i0 i1]; exact z1 i i0 (by omega)
theorem e_key_at {g : Int → Int} {h i : Int} (i0 : 0 ≤ i) (i1 : i < e_sl g h) : e_key g h i = e_st g h i := by unfold e_key; rw [if_pos ⟨i0, i1⟩]
theorem e_key_o {g : Int → Int} {h i : Int} (i1 : e_sl g h ≤ i) : e_key g h i = -9 := by unfold e_key; rw [if_neg (by omega)]
def ks_m (σ : k_St) (h bl p : Int) : Prop := σ.1 73 p = bl ∧ ∀ q, 0 ≤ q → q < bl → σ.1 72 (16 * p + q) = f_fold (e_st (σ.1 69) h q)
theorem ks_iff {σ : k_St} (hK : RKept σ) (hP : RPass σ) {h bl p : Int} (h0 : 0 ≤ h) (h1 : h < σ.1 69 301) (hb : bl ≤ e_sl (σ.1 69) h) (p0 : 0 ≤ p) (p1 : p < σ.2.1 68 10) : ks_m σ h bl p ↔ y_ksP σ (h_rows σ h 1) 30 h bl p := by
  obtain ⟨P1, P2, P3, P4, P5⟩ := hP
  obtain ⟨q1, q2, q3⟩ := P5 p p0 p1
  have q4 := P4 p p0 (by omega)
  obtain ⟨_, k2⟩ := KR_key hK h0 h1
  have ec : r_cnt σ 34 4 p = σ.1 73 p := by unfold r_cnt; rw [if_pos (by omega)]; exact q1
  have es : ∀ i, 0 ≤ i → i < σ.1 73 p → r_sgn σ 34 4 p i = σ.1 35 (p * 16 + i) := fun i i0 i1 => by unfold r_sgn; rw [if_pos ⟨p0, by omega, i0, by show i < σ.1 36 p; omega⟩]
  unfold ks_m y_ksP r_alike
  rw [ec]
  constructor
  · rintro ⟨a1, a2⟩
    refine ⟨a1, fun i i0 i1 => ?_⟩
    rw [k2, e_key_at i0 (by omega), es i i0 i1, (q3 i i0 i1).1]
    exact (a2 i i0 (by omega)).symm
  · rintro ⟨a1, a2⟩
    refine ⟨a1, fun i i0 i1 => ?_⟩
    have z := a2 i i0 (by omega)
    rw [k2, e_key_at i0 (by omega), es i i0 (by omega), (q3 i i0 (by omega)).1] at z
    exact z.symm
theorem ks_bl {σ : k_St} (hK : RKept σ) {h bl : Int} (h0 : 0 ≤ h) (h1 : h < σ.1 69 301) (b0 : 0 ≤ bl) (b1 : bl < e_sl (σ.1 69) h) (b2 : e_st (σ.1 69) h bl = 32) (b3 : ∀ q, 0 ≤ q → q < bl → e_st (σ.1 69) h q ≠ 32) : r_blank σ (h_rows σ h 1) 30 h bl := by
  obtain ⟨k1, k2⟩ := KR_key hK h0 h1
  refine Or.inr ⟨b0, by rw [k1]; exact b1, by rw [k2, e_key_at b0 b1]; exact b2, fun i i0 i1 => ?_⟩
  rw [k2, e_key_at i0 (by omega)]; exact b3 i i0 i1
theorem ks_no {σ : k_St} (hK : RKept σ) (hP : RPass σ) {h : Int} (h0 : 0 ≤ h) (h1 : h < σ.1 69 301) (b3 : ∀ q, 0 ≤ q → q < e_sl (σ.1 69) h → e_st (σ.1 69) h q ≠ 32) : y_ks σ (h_rows σ h 1) 30 h 0 := by
  obtain ⟨k1, k2⟩ := KR_key hK h0 h1
  refine ⟨-9, Or.inl ⟨rfl, fun i i0 i1 => by rw [k1] at i1; rw [k2, e_key_at i0 i1]; exact b3 i i0 i1⟩, Or.inr ⟨rfl, fun p p0 p1 q => ?_⟩⟩
  have q1 := q.1
  unfold r_cnt at q1
  split at q1
  · have := hP.2.2.2.1 p p0 (by omega)
    have : 0 ≤ σ.1 36 p := this.1
    have q2 : σ.1 36 p = -9 := q1
    omega
  · omega
theorem y_ks_ex {σ : k_St} (hK : RKept σ) (hP : RPass σ) {h : Int} (h0 : 0 ≤ h) (h1 : h < σ.1 69 301) : ∃ r, y_ks σ (h_rows σ h 1) 30 h r := by
  have hl := e_sl_in hK h0 h1
  have hb : ∀ m : Nat, (m : Int) ≤ e_sl (σ.1 69) h → (∀ q, 0 ≤ q → q < (m : Int) → e_st (σ.1 69) h q ≠ 32) ∨ ∃ bl, 0 ≤ bl ∧ bl < (m : Int) ∧ e_st (σ.1 69) h bl = 32 ∧ ∀ q, 0 ≤ q → q < bl → e_st (σ.1 69) h q ≠ 32 := by
    intro m
    induction m with
    | zero => intro _; exact Or.inl (fun q q0 q1 => absurd q1 (by omega))
    | succ m ih =>
      intro hm
      rcases ih (by omega) with a | ⟨bl, b0, b1, b2⟩
      · by_cases e : e_st (σ.1 69) h (m : Int) = 32
        · exact Or.inr ⟨m, by omega, by omega, e, a⟩
        · refine Or.inl (fun q q0 q1 => ?_)
          by_cases w : q = m
          · rw [w]; exact e
          · exact a q q0 (by omega)
      · exact Or.inr ⟨bl, b0, by omega, b2⟩
  rcases hb (e_sl (σ.1 69) h).toNat (by omega) with a | ⟨bl, b0, b1, b2, b3⟩
  · exact ⟨0, ks_no hK hP h0 h1 (fun q q0 q1 => a q q0 (by omega))⟩
  · have hbl := ks_bl hK h0 h1 b0 (by omega) b2 b3
    by_cases e : ∃ p, 0 ≤ p ∧ p < σ.2.1 33 1 ∧ y_ksP σ (h_rows σ h 1) 30 h bl p
    · exact ⟨bl + 1, bl, hbl, Or.inl ⟨rfl, e⟩⟩
    · exact ⟨0, bl, hbl, Or.inr ⟨rfl, fun p p0 p1 q => e ⟨p, p0, p1, q⟩⟩⟩
set_option maxHeartbeats 4000000 in
theorem l_key70 {G : j_G} {X : k_X} {n : Nat} {σ : k_St} (hn : 101 ≤ n) (hK : RKept σ) (hP : RPass σ) {h : Int} (h0 : 0 ≤ h) (h1 : h < σ.1 69 301) {bl p : Int} (b0 : 0 ≤ bl) (b1 : bl < e_sl (σ.1 69) h) (p0 : 0 ≤ p) (p1 : p < σ.2.1 68 10) {Q : k_P} (kk : ∀ b k, (b = 0 ∨ b = 1) → (b = 1 ↔ ks_m σ h bl p) → j_at G mX12_keyFrom 120 [(0, .ref 68), (1, j_i h), (2, j_i (e_sl (σ.1 69) h)), (3, j_i bl), (4, j_i p), (5, j_i b), (6, j_i k)] [] (k_h X n σ) 0 0 (k_Q X Q))  : ∀ (z : Nat) (k b : Int), bl - k < (z : Int) → 0 ≤ k → k ≤ bl → (b = 0 ∨ b = 1) → (b = 1 ↔ σ.1 73 p = bl ∧ ∀ q, 0 ≤ q → q < k → σ.1 72 (16 * p + q) = f_fold (e_st (σ.1 69) h q)) → j_at G mX12_keyFrom 70 [(0, .ref 68), (1, j_i h), (2, j_i (e_sl (σ.1 69) h)), (3, j_i bl), (4, j_i p), (5, j_i b), (6, j_i k)] [] (k_h X n σ) 0 0 (k_Q X Q) := by
  have hg := hK.2.2.2
  have hg3 := (KR_rg hK.1 hK.2.1).1.2.1
  have hl := e_sl_in hK h0 h1
  have hm := hP.1
  intro z
  induction z with
  | zero => intro k b hz h2 h3; exact absurd hz (by omega)
  | succ z ih =>
    intro k b hz k0 k1 hb01 hI
    refine a_iload (pc := 70) (i := 6) (by decide +kernel) rfl ?_
    refine a_iload_n (pc := 72) (i := 3) (by decide +kernel) rfl ?_
    refine a_icmp_ge (pc := 73) (off := 47) (tgt := 120) (by decide +kernel) (by decide) (by omega) (by omega) (fun c73 => ?_) (fun c73 => ?_)
    · first | (have : k = bl := by omega); subst this; exact kk _ _ hb01 hI | exact kk _ _ hb01 ⟨fun e => absurd e (by omega), fun e => absurd (hI.mpr ⟨e.1, fun q q0 q1 => e.2 q q0 (by omega)⟩) (by omega)⟩
    · refine a_iload (pc := 76) (i := 5) (by decide +kernel) rfl ?_
      refine a_if_eq (pc := 78) (off := 42) (tgt := 120) (by decide +kernel) (by decide) (by omega) (fun c78 => ?_) (fun c78 => ?_)
      · first | (have : k = bl := by omega); subst this; exact kk _ _ hb01 hI | exact kk _ _ hb01 ⟨fun e => absurd e (by omega), fun e => absurd (hI.mpr ⟨e.1, fun q q0 q1 => e.2 q q0 (by omega)⟩) (by omega)⟩
      · have x1 := (hP.2.2.2.2 p p0 p1).1
        have x3 := hP.2.2.2.1 p p0 (by omega)
        have x2 := ((hP.2.2.2.2 p p0 p1).2.2 k k0 (by have := hI.mp (by omega); omega))
        have x4 := f_fold_in (s := σ.1 35 (p * 16 + k)) (by omega)
        rw [x2.1] at x4
        refine a_aload_n (pc := 81) (i := 0) (by decide +kernel) rfl ?_
        refine b_getR (pc := 82) (b := 72) fl_X12_20 (by decide +kernel) (sh_68 hn) rfl ?_
        refine a_bipush (pc := 85) (n := 16) (by decide +kernel) rfl ?_
        refine a_iload (pc := 87) (i := 4) (by decide +kernel) rfl ?_
        refine a_imul (pc := 89) (by decide +kernel) ?_
        refine a_iload (pc := 90) (i := 6) (by decide +kernel) rfl ?_
        refine a_iadd (pc := 92) (by decide +kernel) ?_
        refine b_iaload (pc := 93) (by decide +kernel) (sh_72 hn) (by omega) (by omega) (by omega) ?_
        refine a_aload_n (pc := 94) (i := 0) (by decide +kernel) rfl ?_
        refine a_iload_n (pc := 95) (i := 1) (by decide +kernel) rfl ?_
        refine a_iload (pc := 96) (i := 6) (by decide +kernel) rfl ?_
        refine b_pureV (pc := 98) [j_i h, j_i k] [j_i (σ.1 72 ((16 * p) + k))] ml_X12_224 (by decide +kernel) rfl rfl (sh_68 hn) rfl rfl (Nat.le_of_ble_eq_true rfl) (j_fitI rfl rfl) (s_dsortedSign hn hg (by omega) (by omega)) ?_
        have q1 := e_st_in hK h0 h1 (i := k) (by omega) (by omega)
        show j_at _ _ _ [(0, .ref 68), (1, j_i h), (2, j_i (e_sl (σ.1 69) h)), (3, j_i bl), (4, j_i p), (5, j_i b), (6, j_i k)] [j_i (e_st (σ.1 69) h k), j_i (σ.1 72 ((16 * p) + k))] _ _ _ _
        refine b_pureS (pc := 101) [j_i (e_st (σ.1 69) h k)] [j_i (σ.1 72 ((16 * p) + k))] ml_X12_218 (by decide +kernel) rfl rfl (Nat.le_of_ble_eq_true rfl) (j_fitI rfl rfl) (s_dsmall (by omega)) ?_
        have qf2 := f_fold_in (s := e_st (σ.1 69) h k) (by omega)
        show j_at _ _ _ [(0, .ref 68), (1, j_i h), (2, j_i (e_sl (σ.1 69) h)), (3, j_i bl), (4, j_i p), (5, j_i b), (6, j_i k)] [j_i (f_fold (e_st (σ.1 69) h k)), j_i (σ.1 72 ((16 * p) + k))] _ _ _ _
        refine a_icmp_ne (pc := 104) (off := 7) (tgt := 111) (by decide +kernel) (by decide) (by omega) (by omega) (fun c104 => ?_) (fun c104 => ?_)
        · refine a_iconst (pc := 111) (n := 0) (by decide +kernel) ?_
          refine a_istore (pc := 112) (i := 5) (lv' := [(0, .ref 68), (1, j_i h), (2, j_i (e_sl (σ.1 69) h)), (3, j_i bl), (4, j_i p), (5, j_i 0), (6, j_i k)]) (by decide +kernel) (Nat.le_of_ble_eq_true rfl) rfl ?_
          refine a_iinc (pc := 114) (i := 6) (n := 1) (x := k) (lv' := [(0, .ref 68), (1, j_i h), (2, j_i (e_sl (σ.1 69) h)), (3, j_i bl), (4, j_i p), (5, j_i 0), (6, j_i (k + 1))]) (by decide +kernel) rfl (Nat.le_of_ble_eq_true rfl) rfl ?_
          refine a_goto (pc := 117) (off := -47) (tgt := 70) (by decide +kernel) (by decide) ?_
          exact ih (k + 1) 0 (by omega) (by omega) (by omega) (Or.inl rfl) ⟨fun e => absurd e (by omega), fun e => absurd (e.2 k k0 (by omega)) (by omega)⟩
        · refine a_iconst (pc := 107) (n := 1) (by decide +kernel) ?_
          refine a_goto (pc := 108) (off := 4) (tgt := 112) (by decide +kernel) (by decide) ?_
          refine a_istore (pc := 112) (i := 5) (lv' := [(0, .ref 68), (1, j_i h), (2, j_i (e_sl (σ.1 69) h)), (3, j_i bl), (4, j_i p), (5, j_i 1), (6, j_i k)]) (by decide +kernel) (Nat.le_of_ble_eq_true rfl) rfl ?_
          refine a_iinc (pc := 114) (i := 6) (n := 1) (x := k) (lv' := [(0, .ref 68), (1, j_i h), (2, j_i (e_sl (σ.1 69) h)), (3, j_i bl), (4, j_i p), (5, j_i 1), (6, j_i (k + 1))]) (by decide +kernel) rfl (Nat.le_of_ble_eq_true rfl) rfl ?_
          refine a_goto (pc := 117) (off := -47) (tgt := 70) (by decide +kernel) (by decide) ?_
          exact ih (k + 1) 1 (by omega) (by omega) (by omega) (Or.inr rfl) ⟨fun _ => ⟨(hI.mp (by omega)).1, fun q q0 q1 => by by_cases e : q = k; rw [e]; exact c104; exact (hI.mp (by omega)).2 q q0 (by omega)⟩, fun _ => rfl⟩
set_option maxHeartbeats 4000000 in
theorem l_key40 {G : j_G} {X : k_X} {n : Nat} {σ : k_St} (hn : 101 ≤ n) (hK : RKept σ) (hP : RPass σ) {h : Int} (h0 : 0 ≤ h) (h1 : h < σ.1 69 301) {bl : Int} (b0 : 0 ≤ bl) (b1 : bl < e_sl (σ.1 69) h) (hbl : r_blank σ (h_rows σ h 1) 30 h bl)  : ∀ (z : Nat) (p : Int), 4 - p < (z : Int) → 0 ≤ p → p ≤ σ.2.1 68 10 → (∀ q, 0 ≤ q → q < p → ¬ ks_m σ h bl q) → j_at G mX12_keyFrom 40 [(0, .ref 68), (1, j_i h), (2, j_i (e_sl (σ.1 69) h)), (3, j_i bl), (4, j_i p)] [] (k_h X n σ) 0 0 (k_Q X (k_ex n σ (y_ks σ (h_rows σ h 1) 30 h))) := by
  have hg := hK.2.2.2
  have hg3 := (KR_rg hK.1 hK.2.1).1.2.1
  have hl := e_sl_in hK h0 h1
  have hm := hP.1
  intro z
  induction z with
  | zero => intro p hz h2 h3; exact absurd hz (by omega)
  | succ z ih =>
    intro p hz p0 pN hI
    refine a_iload (pc := 40) (i := 4) (by decide +kernel) rfl ?_
    refine a_aload_n (pc := 42) (i := 0) (by decide +kernel) rfl ?_
    refine b_getI (pc := 43) fl_X12_215 (by decide +kernel) (sh_68 hn) rfl ?_
    refine a_icmp_ge (pc := 46) (off := 89) (tgt := 135) (by decide +kernel) (by decide) (by omega) (by omega) (fun c46 => ?_) (fun c46 => ?_)
    · refine a_iconst (pc := 135) (n := 0) (by decide +kernel) ?_
      refine a_ireturn (pc := 136) (by decide +kernel) rfl ?_
      refine k_ret ?_
      exact ⟨_, rfl, rfl, rfl, bl, hbl, Or.inr ⟨rfl, fun q q0 q1 w => by have e9 := hP.2.1; exact hI q q0 (by omega) ((ks_iff hK hP h0 h1 (by omega) q0 (by omega)).mpr w)⟩⟩
    · have x1 := (hP.2.2.2.2 p p0 (by omega)).1
      have x3 := hP.2.2.2.1 p p0 (by omega)
      have x5 : 0 ≤ σ.1 73 p ∧ σ.1 73 p ≤ 16 := by rw [← x1]; exact x3
      refine a_aload_n (pc := 49) (i := 0) (by decide +kernel) rfl ?_
      refine b_getR (pc := 50) (b := 73) fl_X12_23 (by decide +kernel) (sh_68 hn) rfl ?_
      refine a_iload (pc := 53) (i := 4) (by decide +kernel) rfl ?_
      refine b_iaload (pc := 55) (by decide +kernel) (sh_73 hn) (by omega) (by omega) (by omega) ?_
      refine a_iload_n (pc := 56) (i := 3) (by decide +kernel) rfl ?_
      refine a_icmp_ne (pc := 57) (off := 7) (tgt := 64) (by decide +kernel) (by decide) (by omega) (by omega) (fun c57 => ?_) (fun c57 => ?_)
      · refine a_iconst (pc := 64) (n := 0) (by decide +kernel) ?_
        refine a_istore (pc := 65) (i := 5) (lv' := [(0, .ref 68), (1, j_i h), (2, j_i (e_sl (σ.1 69) h)), (3, j_i bl), (4, j_i p), (5, j_i 0)]) (by decide +kernel) (Nat.le_of_ble_eq_true rfl) rfl ?_
        refine a_iconst (pc := 67) (n := 0) (by decide +kernel) ?_
        refine a_istore (pc := 68) (i := 6) (lv' := [(0, .ref 68), (1, j_i h), (2, j_i (e_sl (σ.1 69) h)), (3, j_i bl), (4, j_i p), (5, j_i 0), (6, j_i 0)]) (by decide +kernel) (Nat.le_of_ble_eq_true rfl) rfl ?_
        refine l_key70 hn hK hP h0 h1 b0 b1 p0 (by omega) (fun b k hb01 hbk => ?_) (bl.toNat + 2) 0 0 (by omega) (by omega) (by omega) (by omega) ⟨fun e => absurd e (by omega), fun e => absurd e.1 c57⟩
        refine a_iload (pc := 120) (i := 5) (by decide +kernel) rfl ?_
        refine a_if_eq (pc := 122) (off := 7) (tgt := 129) (by decide +kernel) (by decide) (by omega) (fun c122 => ?_) (fun c122 => ?_)
        · refine a_iinc (pc := 129) (i := 4) (n := 1) (x := p) (lv' := [(0, .ref 68), (1, j_i h), (2, j_i (e_sl (σ.1 69) h)), (3, j_i bl), (4, j_i (p + 1)), (5, j_i b), (6, j_i k)]) (by decide +kernel) rfl (Nat.le_of_ble_eq_true rfl) rfl ?_
          refine a_goto (pc := 132) (off := -92) (tgt := 40) (by decide +kernel) (by decide) ?_
          exact a_sub (lv' := [(0, .ref 68), (1, j_i h), (2, j_i (e_sl (σ.1 69) h)), (3, j_i bl), (4, j_i (p + 1))]) (fun q hq => by simp only [List.mem_cons, List.not_mem_nil, or_false] at hq ⊢; rcases hq with rfl | rfl | rfl | rfl | rfl <;> simp) (ih (p + 1) (by omega) (by omega) (by omega) (fun q q0 q1 => by by_cases e : q = p; rw [e]; intro w; exact absurd (hbk.mpr w) (by omega); exact hI q q0 (by omega)))
        · refine a_iload_n (pc := 125) (i := 3) (by decide +kernel) rfl ?_
          refine a_iconst (pc := 126) (n := 1) (by decide +kernel) ?_
          refine a_iadd (pc := 127) (by decide +kernel) ?_
          refine a_ireturn (pc := 128) (by decide +kernel) rfl ?_
          refine k_ret ?_
          exact ⟨_, rfl, rfl, rfl, bl, hbl, Or.inl ⟨rfl, p, p0, by have := hP.2.1; omega, (ks_iff hK hP h0 h1 (by omega) p0 (by omega)).mp (hbk.mp (by omega))⟩⟩
      · refine a_iconst (pc := 60) (n := 1) (by decide +kernel) ?_
        refine a_goto (pc := 61) (off := 4) (tgt := 65) (by decide +kernel) (by decide) ?_
        refine a_istore (pc := 65) (i := 5) (lv' := [(0, .ref 68), (1, j_i h), (2, j_i (e_sl (σ.1 69) h)), (3, j_i bl), (4, j_i p), (5, j_i 1)]) (by decide +kernel) (Nat.le_of_ble_eq_true rfl) rfl ?_
        refine a_iconst (pc := 67) (n := 0) (by decide +kernel) ?_
        refine a_istore (pc := 68) (i := 6) (lv' := [(0, .ref 68), (1, j_i h), (2, j_i (e_sl (σ.1 69) h)), (3, j_i bl), (4, j_i p), (5, j_i 1), (6, j_i 0)]) (by decide +kernel) (Nat.le_of_ble_eq_true rfl) rfl ?_
        refine l_key70 hn hK hP h0 h1 b0 b1 p0 (by omega) (fun b k hb01 hbk => ?_) (bl.toNat + 2) 0 1 (by omega) (by omega) (by omega) (by omega) ⟨fun _ => ⟨c57, fun q q0 q1 => absurd q1 (by omega)⟩, fun _ => rfl⟩
        refine a_iload (pc := 120) (i := 5) (by decide +kernel) rfl ?_
        refine a_if_eq (pc := 122) (off := 7) (tgt := 129) (by decide +kernel) (by decide) (by omega) (fun c122 => ?_) (fun c122 => ?_)
        · refine a_iinc (pc := 129) (i := 4) (n := 1) (x := p) (lv' := [(0, .ref 68), (1, j_i h), (2, j_i (e_sl (σ.1 69) h)), (3, j_i bl), (4, j_i (p + 1)), (5, j_i b), (6, j_i k)]) (by decide +kernel) rfl (Nat.le_of_ble_eq_true rfl) rfl ?_
          refine a_goto (pc := 132) (off := -92) (tgt := 40) (by decide +kernel) (by decide) ?_
          exact a_sub (lv' := [(0, .ref 68), (1, j_i h), (2, j_i (e_sl (σ.1 69) h)), (3, j_i bl), (4, j_i (p + 1))]) (fun q hq => by simp only [List.mem_cons, List.not_mem_nil, or_false] at hq ⊢; rcases hq with rfl | rfl | rfl | rfl | rfl <;> simp) (ih (p + 1) (by omega) (by omega) (by omega) (fun q q0 q1 => by by_cases e : q = p; rw [e]; intro w; exact absurd (hbk.mpr w) (by omega); exact hI q q0 (by omega)))
        · refine a_iload_n (pc := 125) (i := 3) (by decide +kernel) rfl ?_
          refine a_iconst (pc := 126) (n := 1) (by decide +kernel) ?_
          refine a_iadd (pc := 127) (by decide +kernel) ?_
          refine a_ireturn (pc := 128) (by decide +kernel) rfl ?_
          refine k_ret ?_
          exact ⟨_, rfl, rfl, rfl, bl, hbl, Or.inl ⟨rfl, p, p0, by have := hP.2.1; omega, (ks_iff hK hP h0 h1 (by omega) p0 (by omega)).mp (hbk.mp (by omega))⟩⟩
set_option maxHeartbeats 4000000 in
theorem l_key8 {G : j_G} {X : k_X} {n : Nat} {σ : k_St} (hn : 101 ≤ n) (hK : RKept σ) (hP : RPass σ) {h : Int} (h0 : 0 ≤ h) (h1 : h < σ.1 69 301)  : ∀ (z : Nat) (bl : Int), 16 - bl < (z : Int) → 0 ≤ bl → bl ≤ e_sl (σ.1 69) h → (∀ q, 0 ≤ q → q < bl → e_st (σ.1 69) h q ≠ 32) → j_at G mX12_keyFrom 8 [(0, .ref 68), (1, j_i h), (2, j_i (e_sl (σ.1 69) h)), (3, j_i bl)] [] (k_h X n σ) 0 0 (k_Q X (k_ex n σ (y_ks σ (h_rows σ h 1) 30 h))) := by
  have hg := hK.2.2.2
  have hg3 := (KR_rg hK.1 hK.2.1).1.2.1
  have hl := e_sl_in hK h0 h1
  have hm := hP.1
  intro z
  induction z with
  | zero => intro bl hz h2 h3; exact absurd hz (by omega)
  | succ z ih =>
    intro bl hz b0 bN hI
    refine a_iload_n (pc := 8) (i := 3) (by decide +kernel) rfl ?_
    refine a_iload_n (pc := 9) (i := 2) (by decide +kernel) rfl ?_
    refine a_icmp_ge (pc := 10) (off := 20) (tgt := 30) (by decide +kernel) (by decide) (by omega) (by omega) (fun c10 => ?_) (fun c10 => ?_)
    · refine a_iload_n (pc := 30) (i := 3) (by decide +kernel) rfl ?_
      refine a_iload_n (pc := 31) (i := 2) (by decide +kernel) rfl ?_
      refine a_icmp_ne (pc := 32) (off := 5) (tgt := 37) (by decide +kernel) (by decide) (by omega) (by omega) (fun c32 => ?_) (fun c32 => ?_)
      · refine a_iconst (pc := 37) (n := 0) (by decide +kernel) ?_
        refine a_istore (pc := 38) (i := 4) (lv' := [(0, .ref 68), (1, j_i h), (2, j_i (e_sl (σ.1 69) h)), (3, j_i bl), (4, j_i 0)]) (by decide +kernel) (Nat.le_of_ble_eq_true rfl) rfl ?_
        exact l_key40 hn hK hP h0 h1 b0 (by omega) (ks_bl hK h0 h1 b0 (by omega) (by omega) hI) 6 0 (by omega) (by omega) (by omega) (fun q q0 q1 => absurd q0 (by omega))
      · refine a_iconst (pc := 35) (n := 0) (by decide +kernel) ?_
        refine a_ireturn (pc := 36) (by decide +kernel) rfl ?_
        refine k_ret ?_
        exact ⟨_, rfl, rfl, rfl, ks_no hK hP h0 h1 (fun q q0 q1 => hI q q0 (by omega))⟩
    · refine a_aload_n (pc := 13) (i := 0) (by decide +kernel) rfl ?_
      refine a_iload_n (pc := 14) (i := 1) (by decide +kernel) rfl ?_
      refine a_iload_n (pc := 15) (i := 3) (by decide +kernel) rfl ?_
      refine b_pureV (pc := 16) [j_i h, j_i bl] [] ml_X12_224 (by decide +kernel) rfl rfl (sh_68 hn) rfl rfl (Nat.le_of_ble_eq_true rfl) (j_fitI rfl rfl) (s_dsortedSign hn hg (by omega) (by omega)) ?_
      have q1 := e_st_in hK h0 h1 (i := bl) (by omega) (by omega)
      show j_at _ _ _ [(0, .ref 68), (1, j_i h), (2, j_i (e_sl (σ.1 69) h)), (3, j_i bl)] [j_i (e_st (σ.1 69) h bl)] _ _ _ _
      refine a_bipush (pc := 19) (n := 32) (by decide +kernel) rfl ?_
      refine a_icmp_eq (pc := 21) (off := 9) (tgt := 30) (by decide +kernel) (by decide) (by omega) (by omega) (fun c21 => ?_) (fun c21 => ?_)
      · refine a_iload_n (pc := 30) (i := 3) (by decide +kernel) rfl ?_
        refine a_iload_n (pc := 31) (i := 2) (by decide +kernel) rfl ?_
        refine a_icmp_ne (pc := 32) (off := 5) (tgt := 37) (by decide +kernel) (by decide) (by omega) (by omega) (fun c32 => ?_) (fun c32 => ?_)
        · refine a_iconst (pc := 37) (n := 0) (by decide +kernel) ?_
          refine a_istore (pc := 38) (i := 4) (lv' := [(0, .ref 68), (1, j_i h), (2, j_i (e_sl (σ.1 69) h)), (3, j_i bl), (4, j_i 0)]) (by decide +kernel) (Nat.le_of_ble_eq_true rfl) rfl ?_
          exact l_key40 hn hK hP h0 h1 b0 (by omega) (ks_bl hK h0 h1 b0 (by omega) (by omega) hI) 6 0 (by omega) (by omega) (by omega) (fun q q0 q1 => absurd q0 (by omega))
        · refine a_iconst (pc := 35) (n := 0) (by decide +kernel) ?_
          refine a_ireturn (pc := 36) (by decide +kernel) rfl ?_
          refine k_ret ?_
          exact ⟨_, rfl, rfl, rfl, ks_no hK hP h0 h1 (fun q q0 q1 => hI q q0 (by omega))⟩
      · refine a_iinc (pc := 24) (i := 3) (n := 1) (x := bl) (lv' := [(0, .ref 68), (1, j_i h), (2, j_i (e_sl (σ.1 69) h)), (3, j_i (bl + 1))]) (by decide +kernel) rfl (Nat.le_of_ble_eq_true rfl) rfl ?_
        refine a_goto (pc := 27) (off := -19) (tgt := 8) (by decide +kernel) (by decide) ?_
        exact ih (bl + 1) (by omega) (by omega) (by omega) (fun q q0 q1 => by by_cases e : q = bl; rw [e]; omega; exact hI q q0 (by omega))
set_option maxHeartbeats 4000000 in
theorem e_keyFrom {G : j_G} {X : k_X} {n : Nat} {σ : k_St} (hn : 101 ≤ n) (hK : RKept σ) (hP : RPass σ) {h : Int} (h0 : 0 ≤ h) (h1 : h < σ.1 69 301)  : k_run G X mX12_keyFrom [.ref 68, j_i h] n σ 0 0 (k_ex n σ (y_ks σ (h_rows σ h 1) 30 h)) := by
  have hg := hK.2.2.2
  have hg3 := (KR_rg hK.1 hK.2.1).1.2.1
  have hl := e_sl_in hK h0 h1
  have hm := hP.1
  refine k_enter (by decide +kernel) (Nat.le_of_ble_eq_true rfl) ?_
  show j_at _ _ _ [(0, .ref 68), (1, j_i h)] [] _ _ _ _
  refine a_aload_n (pc := 0) (i := 0) (by decide +kernel) rfl ?_
  refine a_iload_n (pc := 1) (i := 1) (by decide +kernel) rfl ?_
  refine b_pureV (pc := 2) [j_i h] [] ml_X12_221 (by decide +kernel) rfl rfl (sh_68 hn) rfl rfl (Nat.le_of_ble_eq_true rfl) (j_fitI rfl rfl) (s_dsortedLong hn hg (by omega)) ?_
  show j_at _ _ _ [(0, .ref 68), (1, j_i h)] [j_i (e_sl (σ.1 69) h)] _ _ _ _
  refine a_istore_n (pc := 5) (i := 2) (lv' := [(0, .ref 68), (1, j_i h), (2, j_i (e_sl (σ.1 69) h))]) (by decide +kernel) (Nat.le_of_ble_eq_true rfl) rfl ?_
  refine a_iconst (pc := 6) (n := 0) (by decide +kernel) ?_
  refine a_istore_n (pc := 7) (i := 3) (lv' := [(0, .ref 68), (1, j_i h), (2, j_i (e_sl (σ.1 69) h)), (3, j_i 0)]) (by decide +kernel) (Nat.le_of_ble_eq_true rfl) rfl ?_
  exact l_key8 hn hK hP h0 h1 18 0 (by omega) (by omega) (by omega) (fun q q0 q1 => absurd q0 (by omega))
