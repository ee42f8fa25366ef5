theorem b_isMark' {G : j_G} {X : k_X} {n : Nat} {σ : k_St} (hn : 101 ≤ n) (hK : RKept σ) {m : Int} (hm : -2147483648 ≤ m ∧ m ≤ 2147483647) : k_run G X mX12_isMark [.ref 68, j_i m] n σ 0 0 (k_b n σ (m_is σ m)) := by
  rw [← show d_ms σ m ↔ m_is σ m from RK_m' hK m]; exact s_disMark hn hK.2.2.2 hm (KR_rg hK.1 hK.2.1).1.2.2
theorem fr81_K {σ τ : k_St} (h : fr81 σ τ) (hK : RKept σ) : RKept τ := RKept_cg (fun c _ _ => h.1 c (by omega)) (fun c j _ _ => h.2.1 c j (by omega)) (h.1 69 (by omega)) hK
theorem fr81_ms {σ τ : k_St} (h : fr81 σ τ) {m : Int} : m_is τ m ↔ m_is σ m := by unfold m_is; rw [h.1 21 (by omega), h.2.1 16 5 (by omega)]
/-- the paths around one -/
theorem pre_sets {lv : Int → Prop} {q p : Int} (hq : okp lv q) (h0 : f_head q 0 ≠ -9) (h12 : f_head q 1 = -9 → f_head q 2 = -9) : pre_p q p ↔ p = f_path (f_head q 0) (-9) (-9) ∨ (f_head q 1 ≠ -9 ∧ p = f_path (f_head q 0) (f_head q 1) (-9)) ∨ (f_head q 1 ≠ -9 ∧ f_head q 2 ≠ -9 ∧ p = f_path (f_head q 0) (f_head q 1) (f_head q 2)) := by
  obtain ⟨a, b, c, ⟨ha, _⟩, ⟨hb, _⟩, ⟨hc, _⟩, rfl⟩ := hq
  have z0 : (0 : Int) ≤ 0 ∧ (0 : Int) ≤ 30 := by omega
  have e := hd3 ha hb hc
  have e1 := hd3 ha hb z0
  have e2 := hd3 ha z0 z0
  have f0 := path_heads (p := 961 * a + 31 * b + c) (by omega)
  have f1 := path_heads (p := 961 * a + 31 * b + 0) (by omega)
  have f2 := path_heads (p := 961 * a + 31 * 0 + 0) (by omega)
  have r1 := aro3 ha hb hc
  have r2 := aro3 ha hb z0
  have r3 := aro3 ha z0 z0
  have a0 : a ≠ 0 := fun w => h0 (by rw [e.1, if_pos w])
  rw [e1.1, e1.2.1, e1.2.2, if_pos rfl, ← e.1, ← e.2.1] at f1
  rw [e2.1, e2.2.1, e2.2.2, if_pos rfl, ← e.1] at f2
  rw [f2, f1, f0]
  unfold pre_p
  rw [if_neg (fun w => w rfl), if_neg (fun w => w rfl)] at r3
  rw [if_neg (fun w => w rfl)] at r2
  by_cases cb : b = 0
  · have w1 : f_head (961 * a + 31 * b + c) 1 = -9 := by rw [e.2.1, if_pos cb]
    have w2 := h12 w1
    have cc : c = 0 := by
      by_cases v : c = 0
      · exact v
      · rw [e.2.2, if_neg v] at w2; omega
    subst cb; subst cc
    rw [if_neg (fun w => w rfl), if_neg (fun w => w rfl)] at r1
    have r0 : f_aro 0 = 0 := by decide
    rw [r1, r0, w1]
    constructor
    · rintro ⟨w, v | v | v⟩
      · exact Or.inl v
      · omega
      · omega
    · rintro (v | ⟨v, _⟩ | ⟨v, _⟩)
      · exact ⟨by omega, Or.inl v⟩
      · exact absurd rfl v
      · exact absurd rfl v
  · have w1 : f_head (961 * a + 31 * b + c) 1 ≠ -9 := by rw [e.2.1, if_neg cb]; omega
    rw [if_pos cb] at r2
    by_cases cc : c = 0
    · subst cc
      have w2 : f_head (961 * a + 31 * b + 0) 2 = -9 := by rw [e.2.2, if_pos rfl]
      rw [r2, r3, w2]
      constructor
      · rintro ⟨w, v | v | v⟩
        · exact Or.inr (Or.inl ⟨w1, v⟩)
        · exact Or.inl v
        · omega
      · rintro (v | ⟨_, v⟩ | ⟨_, v, _⟩)
        · exact ⟨by omega, Or.inr (Or.inl v)⟩
        · exact ⟨by omega, Or.inl v⟩
        · exact absurd rfl v
    · have w2 : f_head (961 * a + 31 * b + c) 2 ≠ -9 := by rw [e.2.2, if_neg cc]; omega
      rw [if_pos cc] at r1
      rw [r1, r2]
      constructor
      · rintro ⟨w, v | v | v⟩
        · exact Or.inr (Or.inr ⟨w1, w2, v⟩)
        · exact Or.inr (Or.inl ⟨w1, v⟩)
        · exact Or.inl v
      · rintro (v | ⟨_, v⟩ | ⟨_, _, v⟩)
        · exact ⟨by omega, Or.inr (Or.inr v)⟩
        · exact ⟨by omega, Or.inr (Or.inl v)⟩
        · exact ⟨by omega, Or.inl v⟩
def AS (σ : k_St) (k x : Int) : Prop := ∃ m, m < k ∧ m_is σ m ∧ pre_p (m_epath σ m) x
theorem mk_ok {σ : k_St} (hK : RKept σ) {m : Int} (h : m_is σ m) : okp (h_is σ) (σ.1 19 m) ∧ f_head (σ.1 19 m) 0 ≠ -9 ∧ (f_head (σ.1 19 m) 1 = -9 → f_head (σ.1 19 m) 2 = -9) := by
  obtain ⟨z1, z2, z3, z4⟩ := hK.2.2.1.2.1 m h
  exact ⟨z1, z2, z3⟩
theorem h_is_29 {σ : k_St} (hK : RKept σ) {h : Int} (w : h_is σ h) : 0 ≤ h ∧ h ≤ 29 := by
  have hE : σ.2.1 8 3 = σ.1 69 301 := hK.2.1.2.1.1
  have := (KR_rg hK.1 hK.2.1).1.2.1
  have := w.1; have := w.2.1; omega
theorem mk_pre {σ : k_St} (hK : RKept σ) {m p : Int} (h : m_is σ m) : pre_p (m_epath σ m) p ↔ p = f_path (f_head (σ.1 19 m) 0) (-9) (-9) ∨ (σ.1 17 m ≤ 5 ∧ f_head (σ.1 19 m) 1 ≠ -9 ∧ p = f_path (f_head (σ.1 19 m) 0) (f_head (σ.1 19 m) 1) (-9)) ∨ (σ.1 17 m ≤ 5 ∧ f_head (σ.1 19 m) 1 ≠ -9 ∧ f_head (σ.1 19 m) 2 ≠ -9 ∧ p = f_path (f_head (σ.1 19 m) 0) (f_head (σ.1 19 m) 1) (f_head (σ.1 19 m) 2)) := by
  obtain ⟨z1, z2, z3⟩ := mk_ok hK h
  have z4 : h_is σ (f_head (σ.1 19 m) 0) := by rcases (okp_hd z1).1 with w | w; exact absurd w z2; exact w
  have z5 := h_is_29 hK z4
  unfold m_epath
  rw [if_pos (show 0 ≤ m ∧ m < σ.2.1 16 5 ∧ σ.1 21 m = 0 from h)]
  by_cases c : 5 < σ.1 17 m
  · rw [if_pos c]
    have y := okp_path (lv := h_is σ) (fun x hx => h_is_29 hK hx) z4 (b := -9) (c := -9) (Or.inl rfl) (Or.inl rfl)
    have yh := f_path_heads (a := f_head (σ.1 19 m) 0) (b := -9) (c := -9) (Or.inr z5) (Or.inl rfl) (Or.inl rfl)
    rw [pre_sets y (by rw [yh.1]; exact z2) (fun _ => yh.2.2), yh.1, yh.2.1]
    constructor
    · rintro (w | ⟨w, _⟩ | ⟨w, _⟩)
      · exact Or.inl w
      · exact absurd rfl w
      · exact absurd rfl w
    · rintro (w | ⟨w, _⟩ | ⟨w, _⟩)
      · exact Or.inl w
      · omega
      · omega
  · rw [if_neg c, pre_sets z1 z2 z3]
    constructor
    · rintro (w | w | w)
      · exact Or.inl w
      · exact Or.inr (Or.inl ⟨by omega, w⟩)
      · exact Or.inr (Or.inr ⟨by omega, w⟩)
    · rintro (w | ⟨_, w⟩ | ⟨_, w⟩)
      · exact Or.inl w
      · exact Or.inr (Or.inl w)
      · exact Or.inr (Or.inr w)
theorem AS_ok {σ : k_St} (hK : RKept σ) {k x : Int} (h : AS σ k x) : okp (h_is σ) x := by
  obtain ⟨m, _, m1, m2⟩ := h
  obtain ⟨z1, z2, z3⟩ := mk_ok hK m1
  have z4 : h_is σ (f_head (σ.1 19 m) 0) := by rcases (okp_hd z1).1 with w | w; exact absurd w z2; exact w
  have hl : ∀ h, h_is σ h → 0 ≤ h ∧ h ≤ 29 := fun x hx => h_is_29 hK hx
  rcases (mk_pre hK m1).mp m2 with w | ⟨_, _, w⟩ | ⟨_, _, _, w⟩
  · rw [w]; exact okp_path hl z4 (Or.inl rfl) (Or.inl rfl)
  · rw [w]; exact okp_path hl z4 (okp_hd z1).2.1 (Or.inl rfl)
  · rw [w]; exact okp_path hl z4 (okp_hd z1).2.1 (okp_hd z1).2.2
theorem pS_w {σ : k_St} {pe : Int → Int} {A A' : Int → Prop} (h : pS σ pe A) (ha : ∀ x, A x ↔ A' x) : pS σ pe A' := ⟨h.1, h.2.1, h.2.2.1, fun x => (h.2.2.2 x).trans (ha x)⟩
theorem AS_n {σ : k_St} {k x : Int} (h : ¬ m_is σ k) : AS σ k x ↔ AS σ (k + 1) x := by
  constructor
  · rintro ⟨m, a, b⟩; exact ⟨m, by omega, b⟩
  · rintro ⟨m, a, b, c⟩
    by_cases e : m = k
    · rw [e] at b; exact absurd b h
    · exact ⟨m, by omega, b, c⟩
theorem AS_s {σ : k_St} {k x : Int} (h : m_is σ k) : AS σ k x ∨ pre_p (m_epath σ k) x ↔ AS σ (k + 1) x := by
  constructor
  · rintro (⟨m, a, b⟩ | w)
    · exact ⟨m, by omega, b⟩
    · exact ⟨k, by omega, h, w⟩
  · rintro ⟨m, a, b, c⟩
    by_cases e : m = k
    · rw [e] at c; exact Or.inr c
    · exact Or.inl ⟨m, by omega, b, c⟩
set_option maxHeartbeats 4000000 in
theorem l_bd58 {G : j_G} {X : k_X} {n : Nat} {σ : k_St} (hn : 101 ≤ n) (hK : RKept σ) {od d c : Int} {Q : k_P} (kk : ∀ (τ : k_St) (pe : Int → Int) (k : Int), fr81 σ τ → pS τ pe (AS σ (σ.1 69 1382)) → j_at G mX12_build 180 [(0, .ref 68), (1, j_i od), (2, j_i d), (3, j_i c), (4, j_i k)] [] (k_h X n τ) 0 0 (k_Q X Q))  : ∀ (z : Nat) (k : Int) (τ : k_St) (pe : Int → Int), 50 - k < (z : Int) → 0 ≤ k → k ≤ σ.1 69 1382 → fr81 σ τ → τ.2.1 68 25 ≤ 3 * k → pS τ pe (AS σ k) → j_at G mX12_build 58 [(0, .ref 68), (1, j_i od), (2, j_i d), (3, j_i c), (4, j_i k)] [] (k_h X n τ) 0 0 (k_Q X Q) := by
  have hM := (KR_rg hK.1 hK.2.1).1.2.2
  intro z
  induction z with
  | zero => intro k τ pe h1 h2 h3; exact absurd h1 (by omega)
  | succ z ih =>
    intro k τ pe hz k0 kN hf hb hS
    refine a_iload (pc := 58) (i := 4) (by decide +kernel) rfl ?_
    refine a_aload_n (pc := 60) (i := 0) (by decide +kernel) rfl ?_
    refine b_pureV (pc := 61) [] [j_i k] ml_X12_135 (by decide +kernel) rfl rfl (sh_68 hn) rfl rfl (Nat.le_of_ble_eq_true rfl) (j_fitI rfl rfl) (s_dmarksEver hn) ?_
    rw [hf.1 69 (by omega)]
    show j_at _ _ _ [(0, .ref 68), (1, j_i od), (2, j_i d), (3, j_i c), (4, j_i k)] [j_i (σ.1 69 1382), j_i k] _ _ _ _
    refine a_icmp_ge (pc := 64) (off := 116) (tgt := 180) (by decide +kernel) (by decide) (by omega) (by omega) (fun c64 => ?_) (fun c64 => ?_)
    · rw [show k = σ.1 69 1382 by omega] at hS
      exact kk τ pe k hf hS
    · refine a_aload_n (pc := 67) (i := 0) (by decide +kernel) rfl ?_
      refine a_iload (pc := 68) (i := 4) (by decide +kernel) rfl ?_
      refine b_callV (pc := 70) (c' := 0) (sl' := 0) [j_i k] [] ml_X12_254 (by decide +kernel) rfl rfl (sh_68 hn) rfl rfl (Nat.le_of_ble_eq_true rfl) (j_fitI rfl rfl) (b_isMark' hn (fr81_K hf hK) (by omega)) (fun v n' σ' hq => ?_)
      obtain ⟨x, rfl, e1, e2, hx⟩ := hq
      rw [e1, e2]; clear e1 e2
      rcases hx with ⟨rfl, p70⟩ | ⟨rfl, p70⟩
      · show j_at _ _ _ [(0, .ref 68), (1, j_i od), (2, j_i d), (3, j_i c), (4, j_i k)] [j_i 1] _ _ _ _
        rw [fr81_ms hf] at p70
        refine a_if_ne (pc := 73) (off := 6) (tgt := 79) (by decide +kernel) (by decide) (by omega) (fun c73 => ?_) (fun c73 => ?_)
        · have mr := b_rg hK (m := k) (by omega) (by omega)
          have mo := mk_ok hK p70
          have hd := okp_hd mo.1
          have g0 : h_is σ (f_head (σ.1 19 k) 0) := by rcases hd.1 with w | w; exact absurd w mo.2.1; exact w
          have g9 := h_is_29 hK g0
          have hh0 := (⟨f_path_heads (a := f_head (σ.1 19 k) 0) (b := -9) (c := -9) (Or.inr g9) (Or.inl rfl) (Or.inl rfl), f_path_in (Or.inr g9) (Or.inl rfl) (Or.inl rfl)⟩ : _ ∧ _)
          refine a_aload_n (pc := 79) (i := 0) (by decide +kernel) rfl ?_
          refine a_aload_n (pc := 80) (i := 0) (by decide +kernel) rfl ?_
          refine a_iload (pc := 81) (i := 4) (by decide +kernel) rfl ?_
          refine a_iconst (pc := 83) (n := 0) (by decide +kernel) ?_
          refine b_pureV (pc := 84) [j_i k, j_i 0] [.ref 68] ml_X12_260 (by decide +kernel) rfl rfl (sh_68 hn) rfl rfl (Nat.le_of_ble_eq_true rfl) (j_fitI rfl rfl) (b_head hn (fr81_K hf hK) (by omega) (by rw [hf.1 69 (by omega)]; omega) (by omega)) ?_
          rw [hf.1 19 (by omega)]
          have q1 := f_head_in (σ.1 19 k) 0
          show j_at _ _ _ [(0, .ref 68), (1, j_i od), (2, j_i d), (3, j_i c), (4, j_i k)] [j_i (f_head (σ.1 19 k) 0), .ref 68] _ _ _ _
          refine a_bipush (pc := 87) (n := (-9)) (by decide +kernel) rfl ?_
          refine a_bipush (pc := 89) (n := (-9)) (by decide +kernel) rfl ?_
          refine b_callV (pc := 91) (c' := 0) (sl' := 0) [j_i (f_head (σ.1 19 k) 0), j_i (-9), j_i (-9)] [] ml_X12_368 (by decide +kernel) rfl rfl (sh_68 hn) rfl rfl (Nat.le_of_ble_eq_true rfl) (j_fitI rfl rfl) (e_addPath hn hS hh0.2 (hh0.1).1 (hh0.1).2.1 (hh0.1).2.2 (by omega)) (fun v n' σ' hq => ?_)
          obtain ⟨rfl, rfl, w1, w2, w3, w4⟩ := hq
          obtain ⟨σ2, hσ2⟩ : ∃ z, z = σ' := ⟨_, rfl⟩
          rw [← hσ2] at w1 w2 w3 w4 ⊢
          clear hσ2
          obtain ⟨peσ2, sσ2⟩ := w4
          have fσ2 := w1
          have aσ2 := w2
          have bσ2 := w3
          clear w1 w2 w3
          show j_at _ _ _ [(0, .ref 68), (1, j_i od), (2, j_i d), (3, j_i c), (4, j_i k)] [] _ _ _ _
          refine a_aload_n (pc := 94) (i := 0) (by decide +kernel) rfl ?_
          refine a_iload (pc := 95) (i := 4) (by decide +kernel) rfl ?_
          refine b_pureV (pc := 97) [j_i k] [] ml_X12_257 (by decide +kernel) rfl rfl (sh_68 hn) rfl rfl (Nat.le_of_ble_eq_true rfl) (j_fitI rfl rfl) (b_kind hn (fr81_K (fr81_t hf fσ2) hK) (by omega) (by rw [(fr81_t hf fσ2).1 69 (by omega)]; omega)) ?_
          rw [(fr81_t hf fσ2).1 17 (by omega)]
          have q3 := b_rg hK (m := k) (by omega) (by omega)
          show j_at _ _ _ [(0, .ref 68), (1, j_i od), (2, j_i d), (3, j_i c), (4, j_i k)] [j_i (σ.1 17 k)] _ _ _ _
          refine a_bipush (pc := 100) (n := 6) (by decide +kernel) rfl ?_
          refine a_icmp_ge (pc := 102) (off := 72) (tgt := 174) (by decide +kernel) (by decide) (by omega) (by omega) (fun c102 => ?_) (fun c102 => ?_)
          · refine a_iinc (pc := 174) (i := 4) (n := 1) (x := k) (lv' := [(0, .ref 68), (1, j_i od), (2, j_i d), (3, j_i c), (4, j_i (k + 1))]) (by decide +kernel) rfl (Nat.le_of_ble_eq_true rfl) rfl ?_
            refine a_goto (pc := 177) (off := -119) (tgt := 58) (by decide +kernel) (by decide) ?_
            refine ih (k + 1) σ2 peσ2 (by omega) (by omega) (by omega) (fr81_t hf fσ2) (by omega) (pS_w sσ2 (fun x => ?_))
            rw [← AS_s p70, mk_pre hK p70]
            constructor
            · rintro (w | w)
              · exact Or.inl w
              · exact Or.inr (Or.inl w)
            · rintro (w | w | ⟨w1, w2, _⟩ | ⟨w1, w2, _⟩)
              · exact Or.inl w
              · exact Or.inr w
              · exfalso; omega
              · exfalso; omega
          · refine a_aload_n (pc := 105) (i := 0) (by decide +kernel) rfl ?_
            refine a_iload (pc := 106) (i := 4) (by decide +kernel) rfl ?_
            refine a_iconst (pc := 108) (n := 1) (by decide +kernel) ?_
            refine b_pureV (pc := 109) [j_i k, j_i 1] [] ml_X12_260 (by decide +kernel) rfl rfl (sh_68 hn) rfl rfl (Nat.le_of_ble_eq_true rfl) (j_fitI rfl rfl) (b_head hn (fr81_K (fr81_t hf fσ2) hK) (by omega) (by rw [(fr81_t hf fσ2).1 69 (by omega)]; omega) (by omega)) ?_
            rw [(fr81_t hf fσ2).1 19 (by omega)]
            have q4 := f_head_in (σ.1 19 k) 1
            show j_at _ _ _ [(0, .ref 68), (1, j_i od), (2, j_i d), (3, j_i c), (4, j_i k)] [j_i (f_head (σ.1 19 k) 1)] _ _ _ _
            refine a_bipush (pc := 112) (n := (-9)) (by decide +kernel) rfl ?_
            refine a_icmp_eq (pc := 114) (off := 60) (tgt := 174) (by decide +kernel) (by decide) (by omega) (by omega) (fun c114 => ?_) (fun c114 => ?_)
            · refine a_iinc (pc := 174) (i := 4) (n := 1) (x := k) (lv' := [(0, .ref 68), (1, j_i od), (2, j_i d), (3, j_i c), (4, j_i (k + 1))]) (by decide +kernel) rfl (Nat.le_of_ble_eq_true rfl) rfl ?_
              refine a_goto (pc := 177) (off := -119) (tgt := 58) (by decide +kernel) (by decide) ?_
              refine ih (k + 1) σ2 peσ2 (by omega) (by omega) (by omega) (fr81_t hf fσ2) (by omega) (pS_w sσ2 (fun x => ?_))
              rw [← AS_s p70, mk_pre hK p70]
              constructor
              · rintro (w | w)
                · exact Or.inl w
                · exact Or.inr (Or.inl w)
              · rintro (w | w | ⟨w1, w2, _⟩ | ⟨w1, w2, _⟩)
                · exact Or.inl w
                · exact Or.inr w
                · exfalso; omega
                · exfalso; omega
            · have g1 : h_is σ (f_head (σ.1 19 k) 1) := by rcases hd.2.1 with w | w; exact absurd w c114; exact w
              have g8 := h_is_29 hK g1
              have hh1 := (⟨f_path_heads (a := f_head (σ.1 19 k) 0) (b := f_head (σ.1 19 k) 1) (c := -9) (Or.inr g9) (Or.inr g8) (Or.inl rfl), f_path_in (Or.inr g9) (Or.inr g8) (Or.inl rfl)⟩ : _ ∧ _)
              refine a_aload_n (pc := 117) (i := 0) (by decide +kernel) rfl ?_
              refine a_aload_n (pc := 118) (i := 0) (by decide +kernel) rfl ?_
              refine a_iload (pc := 119) (i := 4) (by decide +kernel) rfl ?_
              refine a_iconst (pc := 121) (n := 0) (by decide +kernel) ?_
              refine b_pureV (pc := 122) [j_i k, j_i 0] [.ref 68] ml_X12_260 (by decide +kernel) rfl rfl (sh_68 hn) rfl rfl (Nat.le_of_ble_eq_true rfl) (j_fitI rfl rfl) (b_head hn (fr81_K (fr81_t hf fσ2) hK) (by omega) (by rw [(fr81_t hf fσ2).1 69 (by omega)]; omega) (by omega)) ?_
              rw [(fr81_t hf fσ2).1 19 (by omega)]
              have q5 := f_head_in (σ.1 19 k) 0
              show j_at _ _ _ [(0, .ref 68), (1, j_i od), (2, j_i d), (3, j_i c), (4, j_i k)] [j_i (f_head (σ.1 19 k) 0), .ref 68] _ _ _ _
              refine a_aload_n (pc := 125) (i := 0) (by decide +kernel) rfl ?_
              refine a_iload (pc := 126) (i := 4) (by decide +kernel) rfl ?_
              refine a_iconst (pc := 128) (n := 1) (by decide +kernel) ?_
              refine b_pureV (pc := 129) [j_i k, j_i 1] [j_i (f_head (σ.1 19 k) 0), .ref 68] ml_X12_260 (by decide +kernel) rfl rfl (sh_68 hn) rfl rfl (Nat.le_of_ble_eq_true rfl) (j_fitI rfl rfl) (b_head hn (fr81_K (fr81_t hf fσ2) hK) (by omega) (by rw [(fr81_t hf fσ2).1 69 (by omega)]; omega) (by omega)) ?_
              rw [(fr81_t hf fσ2).1 19 (by omega)]
              have q6 := f_head_in (σ.1 19 k) 1
              show j_at _ _ _ [(0, .ref 68), (1, j_i od), (2, j_i d), (3, j_i c), (4, j_i k)] [j_i (f_head (σ.1 19 k) 1), j_i (f_head (σ.1 19 k) 0), .ref 68] _ _ _ _
              refine a_bipush (pc := 132) (n := (-9)) (by decide +kernel) rfl ?_
              refine b_callV (pc := 134) (c' := 0) (sl' := 0) [j_i (f_head (σ.1 19 k) 0), j_i (f_head (σ.1 19 k) 1), j_i (-9)] [] ml_X12_368 (by decide +kernel) rfl rfl (sh_68 hn) rfl rfl (Nat.le_of_ble_eq_true rfl) (j_fitI rfl rfl) (e_addPath hn sσ2 hh1.2 (hh1.1).1 (hh1.1).2.1 (hh1.1).2.2 (by omega)) (fun v n' σ' hq => ?_)
              obtain ⟨rfl, rfl, w1, w2, w3, w4⟩ := hq
              obtain ⟨σ7, hσ7⟩ : ∃ z, z = σ' := ⟨_, rfl⟩
              rw [← hσ7] at w1 w2 w3 w4 ⊢
              clear hσ7
              obtain ⟨peσ7, sσ7⟩ := w4
              have fσ7 := w1
              have aσ7 := w2
              have bσ7 := w3
              clear w1 w2 w3
              show j_at _ _ _ [(0, .ref 68), (1, j_i od), (2, j_i d), (3, j_i c), (4, j_i k)] [] _ _ _ _
              refine a_aload_n (pc := 137) (i := 0) (by decide +kernel) rfl ?_
              refine a_iload (pc := 138) (i := 4) (by decide +kernel) rfl ?_
              refine a_iconst (pc := 140) (n := 2) (by decide +kernel) ?_
              refine b_pureV (pc := 141) [j_i k, j_i 2] [] ml_X12_260 (by decide +kernel) rfl rfl (sh_68 hn) rfl rfl (Nat.le_of_ble_eq_true rfl) (j_fitI rfl rfl) (b_head hn (fr81_K (fr81_t (fr81_t hf fσ2) fσ7) hK) (by omega) (by rw [(fr81_t (fr81_t hf fσ2) fσ7).1 69 (by omega)]; omega) (by omega)) ?_
              rw [(fr81_t (fr81_t hf fσ2) fσ7).1 19 (by omega)]
              have q8 := f_head_in (σ.1 19 k) 2
              show j_at _ _ _ [(0, .ref 68), (1, j_i od), (2, j_i d), (3, j_i c), (4, j_i k)] [j_i (f_head (σ.1 19 k) 2)] _ _ _ _
              refine a_bipush (pc := 144) (n := (-9)) (by decide +kernel) rfl ?_
              refine a_icmp_eq (pc := 146) (off := 28) (tgt := 174) (by decide +kernel) (by decide) (by omega) (by omega) (fun c146 => ?_) (fun c146 => ?_)
              · refine a_iinc (pc := 174) (i := 4) (n := 1) (x := k) (lv' := [(0, .ref 68), (1, j_i od), (2, j_i d), (3, j_i c), (4, j_i (k + 1))]) (by decide +kernel) rfl (Nat.le_of_ble_eq_true rfl) rfl ?_
                refine a_goto (pc := 177) (off := -119) (tgt := 58) (by decide +kernel) (by decide) ?_
                refine ih (k + 1) σ7 peσ7 (by omega) (by omega) (by omega) (fr81_t (fr81_t hf fσ2) fσ7) (by omega) (pS_w sσ7 (fun x => ?_))
                rw [← AS_s p70, mk_pre hK p70]
                constructor
                · rintro ((w | w) | w)
                  · exact Or.inl w
                  · exact Or.inr (Or.inl w)
                  · exact Or.inr (Or.inr (Or.inl ⟨by omega, c114, w⟩))
                · rintro (w | w | ⟨_, _, w⟩ | ⟨_, _, w, _⟩)
                  · exact Or.inl (Or.inl w)
                  · exact Or.inl (Or.inr w)
                  · exact Or.inr w
                  · exact absurd c146 w
              · have g2 : h_is σ (f_head (σ.1 19 k) 2) := by rcases hd.2.2 with w | w; exact absurd w c146; exact w
                have g7 := h_is_29 hK g2
                have hh2 := (⟨f_path_heads (a := f_head (σ.1 19 k) 0) (b := f_head (σ.1 19 k) 1) (c := f_head (σ.1 19 k) 2) (Or.inr g9) (Or.inr g8) (Or.inr g7), f_path_in (Or.inr g9) (Or.inr g8) (Or.inr g7)⟩ : _ ∧ _)
                refine a_aload_n (pc := 149) (i := 0) (by decide +kernel) rfl ?_
                refine a_aload_n (pc := 150) (i := 0) (by decide +kernel) rfl ?_
                refine a_iload (pc := 151) (i := 4) (by decide +kernel) rfl ?_
                refine a_iconst (pc := 153) (n := 0) (by decide +kernel) ?_
                refine b_pureV (pc := 154) [j_i k, j_i 0] [.ref 68] ml_X12_260 (by decide +kernel) rfl rfl (sh_68 hn) rfl rfl (Nat.le_of_ble_eq_true rfl) (j_fitI rfl rfl) (b_head hn (fr81_K (fr81_t (fr81_t hf fσ2) fσ7) hK) (by omega) (by rw [(fr81_t (fr81_t hf fσ2) fσ7).1 69 (by omega)]; omega) (by omega)) ?_
                rw [(fr81_t (fr81_t hf fσ2) fσ7).1 19 (by omega)]
                have q9 := f_head_in (σ.1 19 k) 0
                show j_at _ _ _ [(0, .ref 68), (1, j_i od), (2, j_i d), (3, j_i c), (4, j_i k)] [j_i (f_head (σ.1 19 k) 0), .ref 68] _ _ _ _
                refine a_aload_n (pc := 157) (i := 0) (by decide +kernel) rfl ?_
                refine a_iload (pc := 158) (i := 4) (by decide +kernel) rfl ?_
                refine a_iconst (pc := 160) (n := 1) (by decide +kernel) ?_
                refine b_pureV (pc := 161) [j_i k, j_i 1] [j_i (f_head (σ.1 19 k) 0), .ref 68] ml_X12_260 (by decide +kernel) rfl rfl (sh_68 hn) rfl rfl (Nat.le_of_ble_eq_true rfl) (j_fitI rfl rfl) (b_head hn (fr81_K (fr81_t (fr81_t hf fσ2) fσ7) hK) (by omega) (by rw [(fr81_t (fr81_t hf fσ2) fσ7).1 69 (by omega)]; omega) (by omega)) ?_
                rw [(fr81_t (fr81_t hf fσ2) fσ7).1 19 (by omega)]
                have q10 := f_head_in (σ.1 19 k) 1
                show j_at _ _ _ [(0, .ref 68), (1, j_i od), (2, j_i d), (3, j_i c), (4, j_i k)] [j_i (f_head (σ.1 19 k) 1), j_i (f_head (σ.1 19 k) 0), .ref 68] _ _ _ _
                refine a_aload_n (pc := 164) (i := 0) (by decide +kernel) rfl ?_
                refine a_iload (pc := 165) (i := 4) (by decide +kernel) rfl ?_
                refine a_iconst (pc := 167) (n := 2) (by decide +kernel) ?_
                refine b_pureV (pc := 168) [j_i k, j_i 2] [j_i (f_head (σ.1 19 k) 1), j_i (f_head (σ.1 19 k) 0), .ref 68] ml_X12_260 (by decide +kernel) rfl rfl (sh_68 hn) rfl rfl (Nat.le_of_ble_eq_true rfl) (j_fitI rfl rfl) (b_head hn (fr81_K (fr81_t (fr81_t hf fσ2) fσ7) hK) (by omega) (by rw [(fr81_t (fr81_t hf fσ2) fσ7).1 69 (by omega)]; omega) (by omega)) ?_
                rw [(fr81_t (fr81_t hf fσ2) fσ7).1 19 (by omega)]
                have q11 := f_head_in (σ.1 19 k) 2
                show j_at _ _ _ [(0, .ref 68), (1, j_i od), (2, j_i d), (3, j_i c), (4, j_i k)] [j_i (f_head (σ.1 19 k) 2), j_i (f_head (σ.1 19 k) 1), j_i (f_head (σ.1 19 k) 0), .ref 68] _ _ _ _
                refine b_callV (pc := 171) (c' := 0) (sl' := 0) [j_i (f_head (σ.1 19 k) 0), j_i (f_head (σ.1 19 k) 1), j_i (f_head (σ.1 19 k) 2)] [] ml_X12_368 (by decide +kernel) rfl rfl (sh_68 hn) rfl rfl (Nat.le_of_ble_eq_true rfl) (j_fitI rfl rfl) (e_addPath hn sσ7 hh2.2 (hh2.1).1 (hh2.1).2.1 (hh2.1).2.2 (by omega)) (fun v n' σ' hq => ?_)
                obtain ⟨rfl, rfl, w1, w2, w3, w4⟩ := hq
                obtain ⟨σ12, hσ12⟩ : ∃ z, z = σ' := ⟨_, rfl⟩
                rw [← hσ12] at w1 w2 w3 w4 ⊢
                clear hσ12
                obtain ⟨peσ12, sσ12⟩ := w4
                have fσ12 := w1
                have aσ12 := w2
                have bσ12 := w3
                clear w1 w2 w3
                show j_at _ _ _ [(0, .ref 68), (1, j_i od), (2, j_i d), (3, j_i c), (4, j_i k)] [] _ _ _ _
                refine a_iinc (pc := 174) (i := 4) (n := 1) (x := k) (lv' := [(0, .ref 68), (1, j_i od), (2, j_i d), (3, j_i c), (4, j_i (k + 1))]) (by decide +kernel) rfl (Nat.le_of_ble_eq_true rfl) rfl ?_
                refine a_goto (pc := 177) (off := -119) (tgt := 58) (by decide +kernel) (by decide) ?_
                refine ih (k + 1) σ12 peσ12 (by omega) (by omega) (by omega) (fr81_t (fr81_t (fr81_t hf fσ2) fσ7) fσ12) (by omega) (pS_w sσ12 (fun x => ?_))
                rw [← AS_s p70, mk_pre hK p70]
                constructor
                · rintro (((w | w) | w) | w)
                  · exact Or.inl w
                  · exact Or.inr (Or.inl w)
                  · exact Or.inr (Or.inr (Or.inl ⟨by omega, c114, w⟩))
                  · exact Or.inr (Or.inr (Or.inr ⟨by omega, c114, c146, w⟩))
                · rintro (w | w | ⟨_, _, w⟩ | ⟨_, _, _, w⟩)
                  · exact Or.inl (Or.inl (Or.inl w))
                  · exact Or.inl (Or.inl (Or.inr w))
                  · exact Or.inl (Or.inr w)
                  · exact Or.inr w
        · exact absurd c73 (by decide)
      · show j_at _ _ _ [(0, .ref 68), (1, j_i od), (2, j_i d), (3, j_i c), (4, j_i k)] [j_i 0] _ _ _ _
        rw [fr81_ms hf] at p70
        refine a_if_ne (pc := 73) (off := 6) (tgt := 79) (by decide +kernel) (by decide) (by omega) (fun c73 => ?_) (fun c73 => ?_)
        · exact absurd c73 (by decide)
        · refine a_goto (pc := 76) (off := 98) (tgt := 174) (by decide +kernel) (by decide) ?_
          refine a_iinc (pc := 174) (i := 4) (n := 1) (x := k) (lv' := [(0, .ref 68), (1, j_i od), (2, j_i d), (3, j_i c), (4, j_i (k + 1))]) (by decide +kernel) rfl (Nat.le_of_ble_eq_true rfl) rfl ?_
          refine a_goto (pc := 177) (off := -119) (tgt := 58) (by decide +kernel) (by decide) ?_
          exact ih (k + 1) τ pe (by omega) (by omega) (by omega) hf (by omega) (pS_w hS (fun x => AS_n p70))
