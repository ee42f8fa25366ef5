def rp (σ : k_St) (k : Int) : Int × Int := (σ.1 98 k, σ.1 99 k)
def ijg {α : Type} (f : Int → α) (n : Int) : Prop := ∀ i j, 0 ≤ i → i < n → 0 ≤ j → j < n → f i = f j → i = j
def rfr (σ τ : k_St) : Prop := (∀ c, c ≠ 98 → c ≠ 99 → τ.1 c = σ.1 c) ∧ (∀ c j, ¬ (c = 68 ∧ j = 48) → τ.2.1 c j = σ.2.1 c j) ∧ τ.2.2 = σ.2.2
theorem rfr_r {σ : k_St} : rfr σ σ := ⟨fun _ _ _ => rfl, fun _ _ _ => rfl, rfl⟩
theorem rfr_t {σ τ ρ : k_St} (h : rfr σ τ) (g : rfr τ ρ) : rfr σ ρ := ⟨fun c q r => (g.1 c q r).trans (h.1 c q r), fun c j q => (g.2.1 c j q).trans (h.2.1 c j q), g.2.2.trans h.2.2⟩
theorem rfr_m {σ τ : k_St} (h : rfr σ τ) : mfr σ τ := ⟨fun c q => h.1 c (by omega) (by omega), fun c j q => h.2.1 c j (by omega), h.2.2⟩
def RN0 (σ : k_St) (A : Int × Int → Prop) : Prop := (0 ≤ σ.2.1 68 48 ∧ σ.2.1 68 48 ≤ 50) ∧ (∀ k, 0 ≤ k → k < σ.2.1 68 48 → 0 ≤ σ.1 98 k ∧ σ.1 98 k ≤ σ.1 99 k ∧ σ.1 99 k ≤ 299) ∧ ijg (rp σ) (σ.2.1 68 48) ∧ ∀ x, im (rp σ) (σ.2.1 68 48) x ↔ A x
def RNw (n : Int) (B : Int → Prop) : Prop := ∃ w : Int → Int, ij w n ∧ ∀ k, 0 ≤ k → k < n → (0 ≤ w k ∧ w k < 50) ∧ B (w k)
def RN (σ : k_St) (A : Int × Int → Prop) (B : Int → Prop) : Prop := RN0 σ A ∧ RNw (σ.2.1 68 48) B
theorem ij_up {f : Int → Int} {n x : Int} (h : ij f n) (hx : ∀ k, 0 ≤ k → k < n → f k ≠ x) : ij (j_up f n x) (n + 1) := fun i j i0 i1 j0 j1 w => by
  by_cases q : i = n
  · by_cases q2 : j = n
    · omega
    · rw [q, j_upS, j_upN q2] at w; exact absurd w.symm (hx j j0 (by omega))
  · by_cases q2 : j = n
    · rw [q2, j_upS, j_upN q] at w; exact absurd w (hx i i0 (by omega))
    · rw [j_upN q, j_upN q2] at w; exact h i j i0 (by omega) j0 (by omega) w
theorem RNw_s {n : Int} {B : Int → Prop} {m : Int} (h : RNw n B) (hm : 0 ≤ m ∧ m < 50) (hb : ¬ B m) : n + 1 ≤ 50 ∧ RNw (n + 1) (fun q => B q ∨ q = m) := by
  obtain ⟨w, w1, w2⟩ := h
  have h1 : ij (j_up w n m) (n + 1) := ij_up w1 (fun k k0 k1 e => hb (by rw [← e]; exact (w2 k k0 k1).2))
  have h2 : ∀ k, 0 ≤ k → k < n + 1 → (0 ≤ j_up w n m k ∧ j_up w n m k < 50) ∧ (B (j_up w n m k) ∨ j_up w n m k = m) := fun k k0 k1 => by
    by_cases e : k = n
    · rw [e, j_upS]; exact ⟨hm, Or.inr rfl⟩
    · rw [j_upN e]; exact ⟨(w2 k k0 (by omega)).1, Or.inl (w2 k k0 (by omega)).2⟩
  exact ⟨pg_le 50 (n + 1) _ (fun i i0 i1 => (h2 i i0 i1).1) h1, _, h1, h2⟩
theorem RNw_w {n : Int} {B B' : Int → Prop} (h : RNw n B) (hb : ∀ m, B m → B' m) : RNw n B' := by
  obtain ⟨w, w1, w2⟩ := h; exact ⟨w, w1, fun k k0 k1 => ⟨(w2 k k0 k1).1, hb _ (w2 k k0 k1).2⟩⟩
theorem RN0_w {σ : k_St} {A A' : Int × Int → Prop} (h : RN0 σ A) (ha : ∀ x, A x ↔ A' x) : RN0 σ A' := ⟨h.1, h.2.1, h.2.2.1, fun x => (h.2.2.2 x).trans (ha x)⟩
theorem RN_w {σ : k_St} {A A' : Int × Int → Prop} {B B' : Int → Prop} (h : RN σ A B) (ha : ∀ x, A x ↔ A' x) (hb : ∀ m, B m → B' m) : RN σ A' B' := ⟨RN0_w h.1 ha, RNw_w h.2 hb⟩
theorem RN_cg {σ τ : k_St} {A : Int × Int → Prop} {B : Int → Prop} (h1 : τ.1 98 = σ.1 98) (h2 : τ.1 99 = σ.1 99) (h3 : τ.2.1 68 48 = σ.2.1 68 48) (h : RN σ A B) : RN τ A B := by
  unfold RN RN0 at *; unfold rp at *; rw [h1, h2, h3]; exact h
theorem RN_add {σ s1 s2 s3 : k_St} {A : Int × Int → Prop} {B : Int → Prop} {a b m : Int} (h : RN σ A B) (hr : 0 ≤ a ∧ a ≤ b ∧ b ≤ 299) (hm : 0 ≤ m ∧ m < 50) (hb : ¬ B m) (hnew : ¬ im (rp σ) (σ.2.1 68 48) (a, b)) (e1 : s1 = k_sA σ 98 (j_up (σ.1 98) (σ.2.1 68 48) a)) (e2 : s2 = k_sA s1 99 (j_up (s1.1 99) (σ.2.1 68 48) b)) (e3 : s3 = k_sI s2 68 48 (σ.2.1 68 48 + 1)) : rfr σ s3 ∧ RN s3 (fun x => A x ∨ x = (a, b)) (fun q => B q ∨ q = m) := by
  obtain ⟨⟨r1, r2, r3, r4⟩, r5⟩ := h
  obtain ⟨n5, r6⟩ := RNw_s r5 hm hb
  have en : s3.2.1 68 48 = σ.2.1 68 48 + 1 := by rw [e3, k_II]
  have f8 : s3.1 98 = j_up (σ.1 98) (σ.2.1 68 48) a := by rw [e3, k_I1, e2, k_AN (by omega), e1, k_AA]
  have f9 : s3.1 99 = j_up (σ.1 99) (σ.2.1 68 48) b := by rw [e3, k_I1, e2, k_AA, e1, k_AN (by omega)]
  have o1 : ∀ k, k ≠ σ.2.1 68 48 → rp s3 k = rp σ k := fun k hk => by unfold rp; rw [f8, f9, j_upN hk, j_upN hk]
  have o2 : rp s3 (σ.2.1 68 48) = (a, b) := by unfold rp; rw [f8, f9, j_upS, j_upS]
  refine ⟨⟨fun c h1 h2 => by rw [e3, k_I1, e2, k_AN h2, e1, k_AN h1], fun c j hc => by rw [e3, k_IN hc, e2]; show s1.2.1 c j = _; rw [e1]; rfl, by rw [e3, e2, e1]; rfl⟩, ⟨by rw [en]; omega, fun k k0 k1 => ?_, fun i j i0 i1 j0 j1 w => ?_, fun x => ?_⟩, by rw [en]; exact r6⟩
  · rw [en] at k1; rw [f8, f9]
    by_cases e : k = σ.2.1 68 48
    · rw [e, j_upS, j_upS]; exact hr
    · rw [j_upN e, j_upN e]; exact r2 k k0 (by omega)
  · rw [en] at i1 j1
    by_cases q : i = σ.2.1 68 48
    · by_cases q2 : j = σ.2.1 68 48
      · omega
      · rw [q, o2, o1 j q2] at w; exact absurd ⟨j, j0, by omega, w.symm⟩ hnew
    · by_cases q2 : j = σ.2.1 68 48
      · rw [q2, o2, o1 i q] at w; exact absurd ⟨i, i0, by omega, w⟩ hnew
      · rw [o1 i q, o1 j q2] at w; exact r3 i j i0 (by omega) j0 (by omega) w
  · rw [en, im_s r1.1, o2, im_cg (g := rp s3) (f := rp σ) (fun i i0 i1 => o1 i (by omega)), r4]
set_option maxHeartbeats 4000000 in
theorem l_addRun {G : j_G} {X : k_X} {n : Nat} {σ : k_St} (hn : 101 ≤ n) {A : Int × Int → Prop} {B : Int → Prop} {a b m : Int} (hN : RN σ A B) (hr : 0 ≤ a ∧ a ≤ b ∧ b ≤ 299) (hm : 0 ≤ m ∧ m < 50) (hb : ¬ B m)  : ∀ (z : Nat) (k c : Int), 51 - k < (z : Int) → 0 ≤ k → k ≤ σ.2.1 68 48 → (c = 0 ∨ c = 1) → (c = 1 ↔ ∃ q, q < k ∧ (0 ≤ q ∧ rp σ q = (a, b))) → j_at G mX12_addRun 5 [(0, .ref 68), (1, j_i a), (2, j_i b), (3, j_i c), (4, j_i k)] [] (k_h X n σ) 0 0 (k_Q X (fun v n' τ => v = none ∧ n' = n ∧ rfr σ τ ∧ RN τ (fun x => A x ∨ x = (a, b)) (fun q => B q ∨ q = m))) := by
  have hR := hN.1.1
  intro z
  induction z with
  | zero => intro k c h1 h2 h3; exact absurd h1 (by omega)
  | succ z ih =>
    intro k c hz k0 kN hb01 hI
    have h49 := (RNw_s hN.2 hm hb).1
    refine a_iload (pc := 5) (i := 4) (by decide +kernel) rfl ?_
    refine a_aload_n (pc := 7) (i := 0) (by decide +kernel) rfl ?_
    refine b_getI (pc := 8) fl_X12_294 (by decide +kernel) (sh_68 hn) rfl ?_
    refine a_icmp_ge (pc := 11) (off := 39) (tgt := 50) (by decide +kernel) (by decide) (by omega) (by omega) (fun c11 => ?_) (fun c11 => ?_)
    · refine a_iload_n (pc := 50) (i := 3) (by decide +kernel) rfl ?_
      refine a_if_ne (pc := 51) (off := 33) (tgt := 84) (by decide +kernel) (by decide) (by omega) (fun c51 => ?_) (fun c51 => ?_)
      · refine a_return (pc := 84) (by decide +kernel) rfl ?_
        refine k_ret ?_
        have hin : im (rp σ) (σ.2.1 68 48) (a, b) := by
          obtain ⟨q, q1, q2, q3⟩ := hI.mp (by omega)
          exact ⟨q, q2, by omega, q3⟩
        refine ⟨rfl, rfl, rfr_r, RN_w hN (fun x => ⟨Or.inl, fun w => ?_⟩) (fun q => Or.inl)⟩
        rcases w with w | w
        · exact w
        · rw [w]; exact (hN.1.2.2.2 _).mp hin
      · refine a_aload_n (pc := 54) (i := 0) (by decide +kernel) rfl ?_
        refine b_getR (pc := 55) (b := 98) fl_X12_102 (by decide +kernel) (sh_68 hn) rfl ?_
        refine a_aload_n (pc := 58) (i := 0) (by decide +kernel) rfl ?_
        refine b_getI (pc := 59) fl_X12_294 (by decide +kernel) (sh_68 hn) rfl ?_
        refine a_iload_n (pc := 62) (i := 1) (by decide +kernel) rfl ?_
        refine b_iastore (pc := 63) (by decide +kernel) (sh_98 hn) (by omega) (by omega) (by omega) ?_
        obtain ⟨σ1, hσ1⟩ : ∃ z, z = k_sA σ 98 (j_up (σ.1 98) (σ.2.1 68 48) a) := ⟨_, rfl⟩
        rw [← hσ1]
        refine a_aload_n (pc := 64) (i := 0) (by decide +kernel) rfl ?_
        refine b_getR (pc := 65) (b := 99) fl_X12_105 (by decide +kernel) (sh_68 hn) rfl ?_
        refine a_aload_n (pc := 68) (i := 0) (by decide +kernel) rfl ?_
        refine b_getI (pc := 69) fl_X12_294 (by decide +kernel) (sh_68 hn) rfl ?_
        rw [show σ1.2.1 68 48 = σ.2.1 68 48 by rw [hσ1]; rfl]
        refine a_iload_n (pc := 72) (i := 2) (by decide +kernel) rfl ?_
        refine b_iastore (pc := 73) (by decide +kernel) (sh_99 hn) (by omega) (by omega) (by omega) ?_
        obtain ⟨σ2, hσ2⟩ : ∃ z, z = k_sA σ1 99 (j_up (σ1.1 99) (σ.2.1 68 48) b) := ⟨_, rfl⟩
        rw [← hσ2]
        refine a_aload_n (pc := 74) (i := 0) (by decide +kernel) rfl ?_
        refine a_dup (pc := 75) (by decide +kernel) rfl ?_
        refine b_getI (pc := 76) fl_X12_294 (by decide +kernel) (sh_68 hn) rfl ?_
        rw [show σ2.2.1 68 48 = σ1.2.1 68 48 by rw [hσ2]; rfl]
        rw [show σ1.2.1 68 48 = σ.2.1 68 48 by rw [hσ1]; rfl]
        refine a_iconst (pc := 79) (n := 1) (by decide +kernel) ?_
        refine a_iadd (pc := 80) (by decide +kernel) ?_
        refine b_putI (pc := 81) fl_X12_294 (by decide +kernel) (sh_68 hn) rfl rfl rfl ?_
        obtain ⟨σ3, hσ3⟩ : ∃ z, z = k_sI σ2 68 48 ((σ.2.1 68 48) + 1) := ⟨_, rfl⟩
        rw [← hσ3]
        refine a_return (pc := 84) (by decide +kernel) rfl ?_
        refine k_ret ?_
        have hnew : ¬ im (rp σ) (σ.2.1 68 48) (a, b) := fun ⟨q, q1, q2, q3⟩ => by
          have := hI.mpr ⟨q, by omega, q1, q3⟩; omega
        have y := RN_add hN hr hm hb hnew hσ1 hσ2 hσ3
        exact ⟨rfl, rfl, y.1, y.2⟩
    · have x1 := hN.1.2.1 k k0 (by omega)
      refine a_iload_n (pc := 14) (i := 3) (by decide +kernel) rfl ?_
      refine a_aload_n (pc := 15) (i := 0) (by decide +kernel) rfl ?_
      refine b_getR (pc := 16) (b := 98) fl_X12_102 (by decide +kernel) (sh_68 hn) rfl ?_
      refine a_iload (pc := 19) (i := 4) (by decide +kernel) rfl ?_
      refine b_iaload (pc := 21) (by decide +kernel) (sh_98 hn) (by omega) (by omega) (by omega) ?_
      refine a_iload_n (pc := 22) (i := 1) (by decide +kernel) rfl ?_
      refine a_icmp_ne (pc := 23) (off := 18) (tgt := 41) (by decide +kernel) (by decide) (by omega) (by omega) (fun c23 => ?_) (fun c23 => ?_)
      · refine a_iconst (pc := 41) (n := 0) (by decide +kernel) ?_
        refine a_ior (pc := 42) (by decide +kernel) ?_
        rw [or_b0 hb01]
        refine a_istore_n (pc := 43) (i := 3) (lv' := [(0, .ref 68), (1, j_i a), (2, j_i b), (3, j_i c), (4, j_i k)]) (by decide +kernel) (Nat.le_of_ble_eq_true rfl) rfl ?_
        refine a_iinc (pc := 44) (i := 4) (n := 1) (x := k) (lv' := [(0, .ref 68), (1, j_i a), (2, j_i b), (3, j_i c), (4, j_i (k + 1))]) (by decide +kernel) rfl (Nat.le_of_ble_eq_true rfl) rfl ?_
        refine a_goto (pc := 47) (off := -42) (tgt := 5) (by decide +kernel) (by decide) ?_
        exact ih (k + 1) c (by omega) (by omega) (by omega) hb01 (hm_no hI (fun w => by have v := w.2; unfold rp at v; have v1 := congrArg Prod.fst v; have v2 := congrArg Prod.snd v; first | exact c23 v1 | exact c34 v2))
      · refine a_aload_n (pc := 26) (i := 0) (by decide +kernel) rfl ?_
        refine b_getR (pc := 27) (b := 99) fl_X12_105 (by decide +kernel) (sh_68 hn) rfl ?_
        refine a_iload (pc := 30) (i := 4) (by decide +kernel) rfl ?_
        refine b_iaload (pc := 32) (by decide +kernel) (sh_99 hn) (by omega) (by omega) (by omega) ?_
        refine a_iload_n (pc := 33) (i := 2) (by decide +kernel) rfl ?_
        refine a_icmp_ne (pc := 34) (off := 7) (tgt := 41) (by decide +kernel) (by decide) (by omega) (by omega) (fun c34 => ?_) (fun c34 => ?_)
        · refine a_iconst (pc := 41) (n := 0) (by decide +kernel) ?_
          refine a_ior (pc := 42) (by decide +kernel) ?_
          rw [or_b0 hb01]
          refine a_istore_n (pc := 43) (i := 3) (lv' := [(0, .ref 68), (1, j_i a), (2, j_i b), (3, j_i c), (4, j_i k)]) (by decide +kernel) (Nat.le_of_ble_eq_true rfl) rfl ?_
          refine a_iinc (pc := 44) (i := 4) (n := 1) (x := k) (lv' := [(0, .ref 68), (1, j_i a), (2, j_i b), (3, j_i c), (4, j_i (k + 1))]) (by decide +kernel) rfl (Nat.le_of_ble_eq_true rfl) rfl ?_
          refine a_goto (pc := 47) (off := -42) (tgt := 5) (by decide +kernel) (by decide) ?_
          exact ih (k + 1) c (by omega) (by omega) (by omega) hb01 (hm_no hI (fun w => by have v := w.2; unfold rp at v; have v1 := congrArg Prod.fst v; have v2 := congrArg Prod.snd v; first | exact c23 v1 | exact c34 v2))
        · refine a_iconst (pc := 37) (n := 1) (by decide +kernel) ?_
          refine a_goto (pc := 38) (off := 4) (tgt := 42) (by decide +kernel) (by decide) ?_
          refine a_ior (pc := 42) (by decide +kernel) ?_
          rw [or_b1 hb01]
          refine a_istore_n (pc := 43) (i := 3) (lv' := [(0, .ref 68), (1, j_i a), (2, j_i b), (3, j_i 1), (4, j_i k)]) (by decide +kernel) (Nat.le_of_ble_eq_true rfl) rfl ?_
          refine a_iinc (pc := 44) (i := 4) (n := 1) (x := k) (lv' := [(0, .ref 68), (1, j_i a), (2, j_i b), (3, j_i 1), (4, j_i (k + 1))]) (by decide +kernel) rfl (Nat.le_of_ble_eq_true rfl) rfl ?_
          refine a_goto (pc := 47) (off := -42) (tgt := 5) (by decide +kernel) (by decide) ?_
          exact ih (k + 1) 1 (by omega) (by omega) (by omega) (Or.inr rfl) ⟨fun _ => ⟨k, by omega, k0, by unfold rp; rw [c23, c34]⟩, fun _ => rfl⟩
set_option maxHeartbeats 4000000 in
theorem e_addRun {G : j_G} {X : k_X} {n : Nat} {σ : k_St} (hn : 101 ≤ n) {A : Int × Int → Prop} {B : Int → Prop} {a b m : Int} (hN : RN σ A B) (hr : 0 ≤ a ∧ a ≤ b ∧ b ≤ 299) (hm : 0 ≤ m ∧ m < 50) (hb : ¬ B m)  : k_run G X mX12_addRun [.ref 68, j_i a, j_i b] n σ 0 0 (fun v n' τ => v = none ∧ n' = n ∧ rfr σ τ ∧ RN τ (fun x => A x ∨ x = (a, b)) (fun q => B q ∨ q = m)) := by
  refine k_enter (by decide +kernel) (Nat.le_of_ble_eq_true rfl) ?_
  show j_at _ _ _ [(0, .ref 68), (1, j_i a), (2, j_i b)] [] _ _ _ _
  refine a_iconst (pc := 0) (n := 0) (by decide +kernel) ?_
  refine a_istore_n (pc := 1) (i := 3) (lv' := [(0, .ref 68), (1, j_i a), (2, j_i b), (3, j_i 0)]) (by decide +kernel) (Nat.le_of_ble_eq_true rfl) rfl ?_
  refine a_iconst (pc := 2) (n := 0) (by decide +kernel) ?_
  refine a_istore (pc := 3) (i := 4) (lv' := [(0, .ref 68), (1, j_i a), (2, j_i b), (3, j_i 0), (4, j_i 0)]) (by decide +kernel) (Nat.le_of_ble_eq_true rfl) rfl ?_
  exact l_addRun hn hN hr hm hb 53 0 0 (by omega) (by omega) hN.1.1.1 (Or.inl rfl) ⟨fun w => absurd w (by omega), fun ⟨q, q1, q2, _⟩ => by omega⟩
def UN (σ : k_St) (U : Int → Prop) : Prop := (0 ≤ σ.2.1 68 43 ∧ σ.2.1 68 43 ≤ 50) ∧ ij (σ.1 95) (σ.2.1 68 43) ∧ (∀ k, 0 ≤ k → k < σ.2.1 68 43 → 0 ≤ σ.1 95 k ∧ σ.1 95 k < 50) ∧ ∀ x, im (σ.1 95) (σ.2.1 68 43) x ↔ U x
theorem UN_cg {σ τ : k_St} {U : Int → Prop} (h1 : τ.1 95 = σ.1 95) (h2 : τ.2.1 68 43 = σ.2.1 68 43) (h : UN σ U) : UN τ U := by unfold UN at *; rw [h1, h2]; exact h
theorem UN_w {σ : k_St} {U U' : Int → Prop} (h : UN σ U) (hu : ∀ x, U x ↔ U' x) : UN σ U' := ⟨h.1, h.2.1, h.2.2.1, fun x => (h.2.2.2 x).trans (hu x)⟩
theorem UN_lt {σ : k_St} {U : Int → Prop} {m : Int} (h : UN σ U) (hm : 0 ≤ m ∧ m < 50) (hu : ¬ U m) : σ.2.1 68 43 < 50 := by
  obtain ⟨h1, h2, h3, h4⟩ := h
  have := pg_le 50 (σ.2.1 68 43 + 1) (j_up (σ.1 95) (σ.2.1 68 43) m) (fun i i0 i1 => by
    by_cases e : i = σ.2.1 68 43
    · rw [e, j_upS]; exact hm
    · rw [j_upN e]; exact h3 i i0 (by omega)) (ij_up h2 (fun k k0 k1 e => hu ((h4 m).mp ⟨k, k0, k1, e⟩)))
  omega
theorem UN_add {σ s1 s2 : k_St} {U : Int → Prop} {m : Int} (h : UN σ U) (hm : 0 ≤ m ∧ m < 50) (hu : ¬ U m) (e1 : s1 = k_sA σ 95 (j_up (σ.1 95) (σ.2.1 68 43) m)) (e2 : s2 = k_sI s1 68 43 (σ.2.1 68 43 + 1)) : UN s2 (fun x => U x ∨ x = m) := by
  have hl := UN_lt h hm hu
  obtain ⟨h1, h2, h3, h4⟩ := h
  have en : s2.2.1 68 43 = σ.2.1 68 43 + 1 := by rw [e2, k_II]
  have ea : s2.1 95 = j_up (σ.1 95) (σ.2.1 68 43) m := by rw [e2, k_I1, e1, k_AA]
  unfold UN
  rw [en, ea]
  refine ⟨by omega, ij_up h2 (fun k k0 k1 e => hu ((h4 m).mp ⟨k, k0, k1, e⟩)), fun k k0 k1 => ?_, fun x => ?_⟩
  · by_cases e : k = σ.2.1 68 43
    · rw [e, j_upS]; exact hm
    · rw [j_upN e]; exact h3 k k0 (by omega)
  · rw [im_s h1.1, j_upS, im_cg (g := j_up (σ.1 95) (σ.2.1 68 43) m) (f := σ.1 95) (fun i i0 i1 => j_upN (by omega)), h4]
def ufr (σ τ : k_St) : Prop := (∀ c, c ≠ 95 → c ≠ 98 → c ≠ 99 → τ.1 c = σ.1 c) ∧ (∀ c j, ¬ (c = 68 ∧ (j = 43 ∨ j = 48)) → τ.2.1 c j = σ.2.1 c j) ∧ τ.2.2 = σ.2.2
theorem ufr_r {σ : k_St} : ufr σ σ := ⟨fun _ _ _ _ => rfl, fun _ _ _ => rfl, rfl⟩
theorem ufr_t {σ τ ρ : k_St} (h : ufr σ τ) (g : ufr τ ρ) : ufr σ ρ := ⟨fun c q r s => (g.1 c q r s).trans (h.1 c q r s), fun c j q => (g.2.1 c j q).trans (h.2.1 c j q), g.2.2.trans h.2.2⟩
theorem ufr_u {σ τ : k_St} (h : rfr σ τ) : ufr σ τ := ⟨fun c _ q r => h.1 c q r, fun c j q => h.2.1 c j (by omega), h.2.2⟩
theorem ufr_m {σ τ : k_St} (h : ufr σ τ) : mfr σ τ := ⟨fun c q => h.1 c (by omega) (by omega) (by omega), fun c j q => h.2.1 c j (by omega), h.2.2⟩
def pgM (σ : k_St) (m : Int) : Int := f_page (σ.1 18 m) (σ.2.1 68 11)
set_option maxHeartbeats 4000000 in
theorem e_unmatch {G : j_G} {X : k_X} {n : Nat} {σ : k_St} (hn : 101 ≤ n) {pe : Int → Int} (hB : MB σ pe) {A : Int × Int → Prop} {B U : Int → Prop} {m : Int} (hN : RN σ A B) (hU : UN σ U) (hm : 0 ≤ m ∧ m < σ.1 69 1382) (hb : ¬ B m) (hu : ¬ U m) : k_run G X mX12_unmatch [.ref 68, j_i m] n σ 0 0 (fun v n' τ => v = none ∧ n' = n ∧ ufr σ τ ∧ UN τ (fun x => U x ∨ x = m) ∧ RN τ (fun x => A x ∨ x = (pgM σ m, pgM σ m)) (fun q => B q ∨ q = m)) := by
  obtain ⟨hK, hP, hfl, hE, hok⟩ := id hB
  have hM := (KR_rg hK.1 hK.2.1).1.2.2
  have hE1 := hE.1
  have hm5 : 0 ≤ m ∧ m < 50 := by omega
  refine k_enter (by decide +kernel) (Nat.le_of_ble_eq_true rfl) ?_
  show j_at _ _ _ [(0, .ref 68), (1, j_i m)] [] _ _ _ _
  have um := UN_lt hU hm5 hu
  have um0 := hU.1
  refine a_aload_n (pc := 0) (i := 0) (by decide +kernel) rfl ?_
  refine b_getR (pc := 1) (b := 95) fl_X12_93 (by decide +kernel) (sh_68 hn) rfl ?_
  refine a_aload_n (pc := 4) (i := 0) (by decide +kernel) rfl ?_
  refine b_getI (pc := 5) fl_X12_297 (by decide +kernel) (sh_68 hn) rfl ?_
  refine a_iload_n (pc := 8) (i := 1) (by decide +kernel) rfl ?_
  refine b_iastore (pc := 9) (by decide +kernel) (sh_95 hn) (by omega) (by omega) (by omega) ?_
  obtain ⟨σ1, hσ1⟩ : ∃ z, z = k_sA σ 95 (j_up (σ.1 95) (σ.2.1 68 43) m) := ⟨_, rfl⟩
  rw [← hσ1]
  refine a_aload_n (pc := 10) (i := 0) (by decide +kernel) rfl ?_
  refine a_dup (pc := 11) (by decide +kernel) rfl ?_
  refine b_getI (pc := 12) fl_X12_297 (by decide +kernel) (sh_68 hn) rfl ?_
  rw [show σ1.2.1 68 43 = σ.2.1 68 43 by rw [hσ1]; rfl]
  refine a_iconst (pc := 15) (n := 1) (by decide +kernel) ?_
  refine a_iadd (pc := 16) (by decide +kernel) ?_
  refine b_putI (pc := 17) fl_X12_297 (by decide +kernel) (sh_68 hn) rfl rfl rfl ?_
  obtain ⟨σ2, hσ2⟩ : ∃ z, z = k_sI σ1 68 43 ((σ.2.1 68 43) + 1) := ⟨_, rfl⟩
  rw [← hσ2]
  refine a_aload_n (pc := 20) (i := 0) (by decide +kernel) rfl ?_
  refine a_aload_n (pc := 21) (i := 0) (by decide +kernel) rfl ?_
  refine a_aload_n (pc := 22) (i := 0) (by decide +kernel) rfl ?_
  refine a_iload_n (pc := 23) (i := 1) (by decide +kernel) rfl ?_
  refine b_pureV (pc := 24) [j_i m] [.ref 68, .ref 68] ml_X12_266 (by decide +kernel) rfl rfl (sh_68 hn) rfl rfl (Nat.le_of_ble_eq_true rfl) (j_fitI rfl rfl) (b_gap hn (MB_m (mfr_I (by omega) (mfr_A (by omega) mfr_r hσ1) hσ2) hB).1 (by omega) (by rw [(mfr_I (by omega) (mfr_A (by omega) mfr_r hσ1) hσ2).1 69 (by omega)]; omega)) ?_
  rw [show σ2.1 18 = σ.1 18 from (mfr_I (by omega) (mfr_A (by omega) mfr_r hσ1) hσ2).1 18 (by omega)]
  have q3 := b_rg hB.1 (m := m) (by omega) (by omega)
  show j_at _ _ _ [(0, .ref 68), (1, j_i m)] [j_i (σ.1 18 m), .ref 68, .ref 68] _ _ _ _
  refine b_pureV (pc := 27) [j_i (σ.1 18 m)] [.ref 68] ml_X12_272 (by decide +kernel) rfl rfl (sh_68 hn) rfl rfl (Nat.le_of_ble_eq_true rfl) (j_fitI rfl rfl) (b_page hn (MB_m (mfr_I (by omega) (mfr_A (by omega) mfr_r hσ1) hσ2) hB) (by omega)) ?_
  rw [show σ2.2.1 68 11 = σ.2.1 68 11 from (mfr_I (by omega) (mfr_A (by omega) mfr_r hσ1) hσ2).2.1 68 11 (by omega)]
  have qp4 := f_page_in (g := σ.1 18 m) (f := σ.2.1 68 11) (by omega)
  show j_at _ _ _ [(0, .ref 68), (1, j_i m)] [j_i (f_page (σ.1 18 m) (σ.2.1 68 11)), .ref 68] _ _ _ _
  refine a_aload_n (pc := 30) (i := 0) (by decide +kernel) rfl ?_
  refine a_aload_n (pc := 31) (i := 0) (by decide +kernel) rfl ?_
  refine a_iload_n (pc := 32) (i := 1) (by decide +kernel) rfl ?_
  refine b_pureV (pc := 33) [j_i m] [.ref 68, j_i (f_page (σ.1 18 m) (σ.2.1 68 11)), .ref 68] ml_X12_266 (by decide +kernel) rfl rfl (sh_68 hn) rfl rfl (Nat.le_of_ble_eq_true rfl) (j_fitI rfl rfl) (b_gap hn (MB_m (mfr_I (by omega) (mfr_A (by omega) mfr_r hσ1) hσ2) hB).1 (by omega) (by rw [(mfr_I (by omega) (mfr_A (by omega) mfr_r hσ1) hσ2).1 69 (by omega)]; omega)) ?_
  rw [show σ2.1 18 = σ.1 18 from (mfr_I (by omega) (mfr_A (by omega) mfr_r hσ1) hσ2).1 18 (by omega)]
  have q5 := b_rg hB.1 (m := m) (by omega) (by omega)
  show j_at _ _ _ [(0, .ref 68), (1, j_i m)] [j_i (σ.1 18 m), .ref 68, j_i (f_page (σ.1 18 m) (σ.2.1 68 11)), .ref 68] _ _ _ _
  refine b_pureV (pc := 36) [j_i (σ.1 18 m)] [j_i (f_page (σ.1 18 m) (σ.2.1 68 11)), .ref 68] ml_X12_272 (by decide +kernel) rfl rfl (sh_68 hn) rfl rfl (Nat.le_of_ble_eq_true rfl) (j_fitI rfl rfl) (b_page hn (MB_m (mfr_I (by omega) (mfr_A (by omega) mfr_r hσ1) hσ2) hB) (by omega)) ?_
  rw [show σ2.2.1 68 11 = σ.2.1 68 11 from (mfr_I (by omega) (mfr_A (by omega) mfr_r hσ1) hσ2).2.1 68 11 (by omega)]
  have qp6 := f_page_in (g := σ.1 18 m) (f := σ.2.1 68 11) (by omega)
  show j_at _ _ _ [(0, .ref 68), (1, j_i m)] [j_i (f_page (σ.1 18 m) (σ.2.1 68 11)), j_i (f_page (σ.1 18 m) (σ.2.1 68 11)), .ref 68] _ _ _ _
  refine b_callV (pc := 39) (c' := 0) (sl' := 0) [j_i (f_page (σ.1 18 m) (σ.2.1 68 11)), j_i (f_page (σ.1 18 m) (σ.2.1 68 11))] [] ml_X12_300 (by decide +kernel) rfl rfl (sh_68 hn) rfl rfl (Nat.le_of_ble_eq_true rfl) (j_fitI rfl rfl) (e_addRun (m := m) hn (RN_cg (σ := σ) (by rw [hσ2, k_I1, hσ1, k_AN (by omega)]) (by rw [hσ2, k_I1, hσ1, k_AN (by omega)]) (by rw [hσ2, k_IN (by omega), hσ1]; rfl) hN) (by omega) hm5 hb) (fun v n' σ' hq => ?_)
  obtain ⟨rfl, rfl, w1, w2⟩ := hq
  obtain ⟨σ7, hσ7⟩ : ∃ z, z = σ' := ⟨_, rfl⟩
  rw [← hσ7] at w1 w2 ⊢
  clear hσ7
  show j_at _ _ _ [(0, .ref 68), (1, j_i m)] [] _ _ _ _
  refine a_return (pc := 42) (by decide +kernel) rfl ?_
  refine k_ret ?_
  have y := UN_add hU hm5 hu hσ1 hσ2
  exact ⟨rfl, rfl, ⟨fun c q1 q2 q3 => by rw [w1.1 c q2 q3, hσ2, k_I1, hσ1, k_AN q1], fun c j q => by rw [w1.2.1 c j (by omega), hσ2, k_IN (by omega), hσ1]; rfl, by rw [w1.2.2, hσ2, hσ1]; rfl⟩, UN_cg (w1.1 95 (by omega) (by omega)) (w1.2.1 68 43 (by omega)) y, w2⟩
def oR (σ τ : k_St) (a : Int) : Prop := rfr σ τ ∧ τ.2.1 68 48 = σ.2.1 68 48 - 1 ∧ ∀ k, 0 ≤ k → k < σ.2.1 68 48 - 1 → rp τ k = rp σ (if k < a then k else k + 1)
def oI (σ τ : k_St) (a k : Int) : Prop := rfr σ τ ∧ τ.2.1 68 48 = σ.2.1 68 48 - 1 ∧ τ.1 98 = j_cpy (σ.1 98) (σ.1 98) (a + 1) a (k - a) ∧ τ.1 99 = j_cpy (σ.1 99) (σ.1 99) (a + 1) a (k - a)
theorem oI_s {σ τ s1 s2 : k_St} {a k : Int} (h : oI σ τ a k) (hk : a ≤ k) (e1 : s1 = k_sA τ 98 (j_up (τ.1 98) k (τ.1 98 (k + 1)))) (e2 : s2 = k_sA s1 99 (j_up (s1.1 99) k (τ.1 99 (k + 1)))) : oI σ s2 a (k + 1) := by
  obtain ⟨h1, h2, h3, h4⟩ := h
  have c : ∀ f : Int → Int, j_up (j_cpy f f (a + 1) a (k - a)) k (j_cpy f f (a + 1) a (k - a) (k + 1)) = j_cpy f f (a + 1) a (k + 1 - a) := fun f => by
    have e : j_cpy f f (a + 1) a (k - a) (k + 1) = f (a + 1 + (k - a)) := by unfold j_cpy; rw [if_neg (by omega), show a + 1 + (k - a) = k + 1 by omega]
    rw [e]
    have := j_cpy_s (f := f) (g := f) (sp := a + 1) (dp := a) (k := k - a) (by omega)
    rw [show a + (k - a) = k by omega, show k - a + 1 = k + 1 - a by omega] at this
    exact this
  refine ⟨⟨fun c q r => by rw [e2, k_AN r, e1, k_AN q]; exact h1.1 c q r, fun c j q => by rw [e2]; show s1.2.1 c j = _; rw [e1]; exact h1.2.1 c j q, by rw [e2, e1]; exact h1.2.2⟩, by rw [e2]; show s1.2.1 68 48 = _; rw [e1]; exact h2, ?_, ?_⟩
  · rw [e2, k_AN (by omega), e1, k_AA, h3]; exact c _
  · rw [e2, k_AA, e1, k_AN (by omega), h4]; exact c _
set_option maxHeartbeats 4000000 in
theorem l_outRun {G : j_G} {X : k_X} {n : Nat} {σ : k_St} (hn : 101 ≤ n) {a : Int} (h5 : σ.2.1 68 48 ≤ 50) (a0 : 0 ≤ a ∧ a < σ.2.1 68 48)  : ∀ (z : Nat) (k : Int) (τ : k_St), 51 - k < (z : Int) → a ≤ k → k ≤ σ.2.1 68 48 - 1 → oI σ τ a k → j_at G mX12_outRun 12 [(0, .ref 68), (1, j_i a), (2, j_i k)] [] (k_h X n τ) 0 0 (k_Q X (fun v n' τ => v = none ∧ n' = n ∧ oR σ τ a)) := by
  intro z
  induction z with
  | zero => intro k τ h1 h2 h3; exact absurd h1 (by omega)
  | succ z ih =>
    intro k τ hz k0 kN hO
    refine a_iload_n (pc := 12) (i := 2) (by decide +kernel) rfl ?_
    refine a_aload_n (pc := 13) (i := 0) (by decide +kernel) rfl ?_
    refine b_getI (pc := 14) fl_X12_294 (by decide +kernel) (sh_68 hn) rfl ?_
    rw [show τ.2.1 68 48 = σ.2.1 68 48 - 1 from hO.2.1]
    refine a_icmp_ge (pc := 17) (off := 37) (tgt := 54) (by decide +kernel) (by decide) (by omega) (by omega) (fun c17 => ?_) (fun c17 => ?_)
    · refine a_return (pc := 54) (by decide +kernel) rfl ?_
      refine k_ret ?_
      refine ⟨rfl, rfl, hO.1, hO.2.1, fun q q0 q1 => ?_⟩
      unfold rp
      rw [hO.2.2.1, hO.2.2.2]
      unfold j_cpy
      split
      · rw [if_neg (by omega), show a + 1 + (q - a) = q + 1 by omega]
      · rw [if_pos (by omega)]
    · refine a_aload_n (pc := 20) (i := 0) (by decide +kernel) rfl ?_
      refine b_getR (pc := 21) (b := 98) fl_X12_102 (by decide +kernel) (sh_68 hn) rfl ?_
      refine a_iload_n (pc := 24) (i := 2) (by decide +kernel) rfl ?_
      refine a_aload_n (pc := 25) (i := 0) (by decide +kernel) rfl ?_
      refine b_getR (pc := 26) (b := 98) fl_X12_102 (by decide +kernel) (sh_68 hn) rfl ?_
      refine a_iload_n (pc := 29) (i := 2) (by decide +kernel) rfl ?_
      refine a_iconst (pc := 30) (n := 1) (by decide +kernel) ?_
      refine a_iadd (pc := 31) (by decide +kernel) ?_
      refine b_iaload (pc := 32) (by decide +kernel) (sh_98 hn) (by omega) (by omega) (by omega) ?_
      refine b_iastore (pc := 33) (by decide +kernel) (sh_98 hn) (by omega) (by omega) (by omega) ?_
      obtain ⟨σ1, hσ1⟩ : ∃ z, z = k_sA τ 98 (j_up (τ.1 98) k (τ.1 98 (k + 1))) := ⟨_, rfl⟩
      rw [← hσ1]
      refine a_aload_n (pc := 34) (i := 0) (by decide +kernel) rfl ?_
      refine b_getR (pc := 35) (b := 99) fl_X12_105 (by decide +kernel) (sh_68 hn) rfl ?_
      refine a_iload_n (pc := 38) (i := 2) (by decide +kernel) rfl ?_
      refine a_aload_n (pc := 39) (i := 0) (by decide +kernel) rfl ?_
      refine b_getR (pc := 40) (b := 99) fl_X12_105 (by decide +kernel) (sh_68 hn) rfl ?_
      refine a_iload_n (pc := 43) (i := 2) (by decide +kernel) rfl ?_
      refine a_iconst (pc := 44) (n := 1) (by decide +kernel) ?_
      refine a_iadd (pc := 45) (by decide +kernel) ?_
      refine b_iaload (pc := 46) (by decide +kernel) (sh_99 hn) (by omega) (by omega) (by omega) ?_
      rw [show σ1.1 99 = τ.1 99 by rw [hσ1]; exact k_AN (by omega)]
      refine b_iastore (pc := 47) (by decide +kernel) (sh_99 hn) (by omega) (by omega) (by omega) ?_
      obtain ⟨σ2, hσ2⟩ : ∃ z, z = k_sA σ1 99 (j_up (σ1.1 99) k (τ.1 99 (k + 1))) := ⟨_, rfl⟩
      rw [← hσ2]
      refine a_iinc (pc := 48) (i := 2) (n := 1) (x := k) (lv' := [(0, .ref 68), (1, j_i a), (2, j_i (k + 1))]) (by decide +kernel) rfl (Nat.le_of_ble_eq_true rfl) rfl ?_
      refine a_goto (pc := 51) (off := -39) (tgt := 12) (by decide +kernel) (by decide) ?_
      exact ih (k + 1) σ2 (by omega) (by omega) (by omega) (oI_s hO (by omega) hσ1 hσ2)
set_option maxHeartbeats 4000000 in
theorem e_outRun {G : j_G} {X : k_X} {n : Nat} {σ : k_St} (hn : 101 ≤ n) {a : Int} (h5 : σ.2.1 68 48 ≤ 50) (a0 : 0 ≤ a ∧ a < σ.2.1 68 48)  : k_run G X mX12_outRun [.ref 68, j_i a] n σ 0 0 (fun v n' τ => v = none ∧ n' = n ∧ oR σ τ a) := by
  refine k_enter (by decide +kernel) (Nat.le_of_ble_eq_true rfl) ?_
  show j_at _ _ _ [(0, .ref 68), (1, j_i a)] [] _ _ _ _
  refine a_aload_n (pc := 0) (i := 0) (by decide +kernel) rfl ?_
  refine a_dup (pc := 1) (by decide +kernel) rfl ?_
  refine b_getI (pc := 2) fl_X12_294 (by decide +kernel) (sh_68 hn) rfl ?_
  refine a_iconst (pc := 5) (n := 1) (by decide +kernel) ?_
  refine a_isub (pc := 6) (by decide +kernel) ?_
  refine b_putI (pc := 7) fl_X12_294 (by decide +kernel) (sh_68 hn) rfl rfl rfl ?_
  obtain ⟨σ1, hσ1⟩ : ∃ z, z = k_sI σ 68 48 ((σ.2.1 68 48) - 1) := ⟨_, rfl⟩
  rw [← hσ1]
  refine a_iload_n (pc := 10) (i := 1) (by decide +kernel) rfl ?_
  refine a_istore_n (pc := 11) (i := 2) (lv' := [(0, .ref 68), (1, j_i a), (2, j_i a)]) (by decide +kernel) (Nat.le_of_ble_eq_true rfl) rfl ?_
  exact l_outRun hn h5 a0 53 a σ1 (by omega) (by omega) (by omega) ⟨⟨fun c _ _ => by rw [hσ1]; rfl, fun c j q => by rw [hσ1, k_IN q], by rw [hσ1]; rfl⟩, by rw [hσ1, k_II], by rw [hσ1, show a - a = 0 by omega, j_cpy_0]; rfl, by rw [hσ1, show a - a = 0 by omega, j_cpy_0]; rfl⟩
