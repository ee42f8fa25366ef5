theorem hd_inj {p q : Int} (hp : 0 ≤ p ∧ p ≤ 29790) (hq : 0 ≤ q ∧ q ≤ 29790) (h0 : f_head p 0 = f_head q 0) (h1 : f_head p 1 = f_head q 1) (h2 : f_head p 2 = f_head q 2) : p = q := by
  have e : ∀ (x : Int) (k : Int) (d : Int), d = (if k = 0 then 961 else if k = 1 then 31 else 1) → f_head x k = if x / d % 31 = 0 then -9 else x / d % 31 - 1 := fun x k d hd => by rw [hd]; rfl
  rw [e p 0 961 rfl, e q 0 961 rfl] at h0
  rw [e p 1 31 rfl, e q 1 31 rfl] at h1
  rw [e p 2 1 rfl, e q 2 1 rfl] at h2
  have a0 : p / 961 % 31 = q / 961 % 31 := by (repeat' split at h0) <;> omega
  have a1 : p / 31 % 31 = q / 31 % 31 := by (repeat' split at h1) <;> omega
  have a2 : p / 1 % 31 = q / 1 % 31 := by (repeat' split at h2) <;> omega
  omega
/-- the Model's paths are pe -/
def pE (σ : k_St) (pe : Int → Int) : Prop := (0 ≤ σ.2.1 68 25 ∧ σ.2.1 68 25 ≤ 150) ∧ ∀ e k, 0 ≤ e → e < σ.2.1 68 25 → 0 ≤ k → k < 3 → σ.1 81 (3 * e + k) = f_head (pe e) k
theorem pE_r {σ : k_St} {pe : Int → Int} (h : pE σ pe) : ∀ i k, 0 ≤ i → i < σ.2.1 68 25 → 0 ≤ k → k < 3 → -9 ≤ σ.1 81 (3 * i + k) ∧ σ.1 81 (3 * i + k) ≤ 29 := fun i k i0 i1 k0 k1 => by rw [h.2 i k i0 i1 k0 k1]; exact f_head_in _ _
def ij (f : Int → Int) (n : Int) : Prop := ∀ i j, 0 ≤ i → i < n → 0 ≤ j → j < n → f i = f j → i = j
def pS (σ : k_St) (pe : Int → Int) (A : Int → Prop) : Prop := pE σ pe ∧ (∀ e, 0 ≤ e → e < σ.2.1 68 25 → 0 ≤ pe e ∧ pe e ≤ 29790) ∧ ij pe (σ.2.1 68 25) ∧ ∀ x, im pe (σ.2.1 68 25) x ↔ A x
def fr81 (σ τ : k_St) : Prop := (∀ c, c ≠ 81 → τ.1 c = σ.1 c) ∧ (∀ c j, ¬ (c = 68 ∧ j = 25) → τ.2.1 c j = σ.2.1 c j) ∧ τ.2.2 = σ.2.2
theorem fr81_r {σ : k_St} : fr81 σ σ := ⟨fun _ _ => rfl, fun _ _ _ => rfl, rfl⟩
theorem fr81_t {σ τ ρ : k_St} (h : fr81 σ τ) (g : fr81 τ ρ) : fr81 σ ρ := ⟨fun c q => (g.1 c q).trans (h.1 c q), fun c j q => (g.2.1 c j q).trans (h.2.1 c j q), g.2.2.trans h.2.2⟩
def aP_post (n : Nat) (σ : k_St) (A : Int → Prop) (p : Int) : k_P := fun v n' τ => v = none ∧ n' = n ∧ fr81 σ τ ∧ σ.2.1 68 25 ≤ τ.2.1 68 25 ∧ τ.2.1 68 25 ≤ σ.2.1 68 25 + 1 ∧ ∃ pe', pS τ pe' (fun x => A x ∨ x = p)
theorem pS_eq {σ : k_St} {pe : Int → Int} {A : Int → Prop} (h : pS σ pe A) {p e a b c : Int} (hp : 0 ≤ p ∧ p ≤ 29790) (ha : f_head p 0 = a) (hb : f_head p 1 = b) (hc : f_head p 2 = c) (e0 : 0 ≤ e) (e1 : e < σ.2.1 68 25) : d_ip (σ.1 81) e a b c ↔ pe e = p := by
  obtain ⟨⟨_, h2⟩, h3, _⟩ := h
  unfold d_ip
  have z0 := h2 e 0 e0 e1 (by omega) (by omega)
  rw [show 3 * e + 0 = 3 * e by omega] at z0
  rw [z0, h2 e 1 e0 e1 (by omega) (by omega), h2 e 2 e0 e1 (by omega) (by omega), ← ha, ← hb, ← hc]
  constructor
  · rintro ⟨q0, q1, q2⟩; exact hd_inj (h3 e e0 e1) hp q0 q1 q2
  · intro q; rw [q]; exact ⟨rfl, rfl, rfl⟩
theorem pS_add {σ s1 s2 s3 s4 : k_St} {pe : Int → Int} {A : Int → Prop} (h : pS σ pe A) {p a b c : Int} (hp : 0 ≤ p ∧ p ≤ 29790) (ha : f_head p 0 = a) (hb : f_head p 1 = b) (hc : f_head p 2 = c) (hl : σ.2.1 68 25 < 150) (hnew : ∀ e, 0 ≤ e → e < σ.2.1 68 25 → pe e ≠ p) (e1 : s1 = k_sA σ 81 (j_up (σ.1 81) (3 * σ.2.1 68 25) a)) (e2 : s2 = k_sA s1 81 (j_up (s1.1 81) (3 * σ.2.1 68 25 + 1) b)) (e3 : s3 = k_sA s2 81 (j_up (s2.1 81) (3 * σ.2.1 68 25 + 2) c)) (e4 : s4 = k_sI s3 68 25 (σ.2.1 68 25 + 1)) : fr81 σ s4 ∧ s4.2.1 68 25 = σ.2.1 68 25 + 1 ∧ pS s4 (j_up pe (σ.2.1 68 25) p) (fun x => A x ∨ x = p) := by
  obtain ⟨⟨h1, h2⟩, h3, h4, h5⟩ := h
  have en : s4.2.1 68 25 = σ.2.1 68 25 + 1 := by rw [e4, k_II]
  have ea : s4.1 81 = j_up (j_up (j_up (σ.1 81) (3 * σ.2.1 68 25) a) (3 * σ.2.1 68 25 + 1) b) (3 * σ.2.1 68 25 + 2) c := by rw [e4, k_I1, e3, k_AA, e2, k_AA, e1, k_AA]
  refine ⟨⟨fun c hc => by rw [e4, k_I1, e3, k_AN hc, e2, k_AN hc, e1, k_AN hc], fun c j hc => by rw [e4, k_IN hc, e3]; show s2.2.1 c j = _; rw [e2]; show s1.2.1 c j = _; rw [e1]; rfl, by rw [e4, e3, e2, e1]; rfl⟩, en, ⟨by rw [en]; omega, fun e k x0 x1 k0 k1 => ?_⟩, fun e x0 x1 => ?_, fun i j i0 i1 j0 j1 w => ?_, fun x => ?_⟩
  · rw [en] at x1; rw [ea]
    by_cases q : e = σ.2.1 68 25
    · rw [q, j_upS]
      rcases (show k = 0 ∨ k = 1 ∨ k = 2 by omega) with r | r | r
      · rw [r, j_upN (by omega), j_upN (by omega), show 3 * σ.2.1 68 25 + 0 = 3 * σ.2.1 68 25 by omega, j_upS]; exact ha.symm
      · rw [r, j_upN (by omega), j_upS]; exact hb.symm
      · rw [r, j_upS]; exact hc.symm
    · rw [j_upN (by omega), j_upN (by omega), j_upN (by omega), j_upN q]; exact h2 e k x0 (by omega) k0 k1
  · rw [en] at x1
    by_cases q : e = σ.2.1 68 25
    · rw [q, j_upS]; exact hp
    · rw [j_upN q]; exact h3 e x0 (by omega)
  · rw [en] at i1 j1
    by_cases q : i = σ.2.1 68 25
    · by_cases q2 : j = σ.2.1 68 25
      · omega
      · rw [q, j_upS, j_upN q2] at w; exact absurd w.symm (hnew j j0 (by omega))
    · by_cases q2 : j = σ.2.1 68 25
      · rw [q2, j_upS, j_upN q] at w; exact absurd w (hnew i i0 (by omega))
      · rw [j_upN q, j_upN q2] at w; exact h4 i j i0 (by omega) j0 (by omega) w
  · rw [en, im_s h1.1, j_upS, im_cg (g := j_up pe (σ.2.1 68 25) p) (f := pe) (fun i i0 i1 => j_upN (by omega)), h5]
set_option maxHeartbeats 4000000 in
theorem e_addPath {G : j_G} {X : k_X} {n : Nat} {σ : k_St} (hn : 101 ≤ n) {pe : Int → Int} {A : Int → Prop} (hS : pS σ pe A) {p a b c : Int} (hp : 0 ≤ p ∧ p ≤ 29790) (ha : f_head p 0 = a) (hb : f_head p 1 = b) (hc : f_head p 2 = c) (hl : σ.2.1 68 25 < 150) : k_run G X mX12_addPath [.ref 68, j_i a, j_i b, j_i c] n σ 0 0 (aP_post n σ A p) := by
  have hE1 := hS.1.1
  have hE2 : 0 ≤ σ.2.1 68 25 ∧ σ.2.1 68 25 ≤ 200 := by omega
  have ra := f_head_in p 0
  have rb := f_head_in p 1
  have rc := f_head_in p 2
  refine k_enter (by decide +kernel) (Nat.le_of_ble_eq_true rfl) ?_
  show j_at _ _ _ [(0, .ref 68), (1, j_i a), (2, j_i b), (3, j_i c)] [] _ _ _ _
  refine a_aload_n (pc := 0) (i := 0) (by decide +kernel) rfl ?_
  refine a_iload_n (pc := 1) (i := 1) (by decide +kernel) rfl ?_
  refine a_iload_n (pc := 2) (i := 2) (by decide +kernel) rfl ?_
  refine a_iload_n (pc := 3) (i := 3) (by decide +kernel) rfl ?_
  refine b_callV (pc := 4) (c' := 0) (sl' := 0) [j_i a, j_i b, j_i c] [] ml_X12_288 (by decide +kernel) rfl rfl (sh_68 hn) rfl rfl (Nat.le_of_ble_eq_true rfl) (j_fitI rfl rfl) (s_dentryOf hn hE2 (pE_r hS.1) (by omega) (by omega) (by omega)) (fun v n' σ' hq => ?_)
  obtain ⟨e1, rfl, e1, e2, he1⟩ := hq
  rw [e1, e2]; clear e1 e2
  have re1 : e1 = -9 ∨ (0 ≤ e1 ∧ e1 < σ.2.1 68 25) := by rcases he1 with w | w; exact Or.inl w.1; exact Or.inr ⟨w.1, w.2.1⟩
  show j_at _ _ _ [(0, .ref 68), (1, j_i a), (2, j_i b), (3, j_i c)] [j_i e1] _ _ _ _
  refine a_bipush (pc := 7) (n := (-9)) (by decide +kernel) rfl ?_
  refine a_icmp_eq (pc := 9) (off := 4) (tgt := 13) (by decide +kernel) (by decide) (by omega) (by omega) (fun c9 => ?_) (fun c9 => ?_)
  · refine a_aload_n (pc := 13) (i := 0) (by decide +kernel) rfl ?_
    refine b_getR (pc := 14) (b := 81) fl_X12_51 (by decide +kernel) (sh_68 hn) rfl ?_
    refine a_iconst (pc := 17) (n := 3) (by decide +kernel) ?_
    refine a_aload_n (pc := 18) (i := 0) (by decide +kernel) rfl ?_
    refine b_getI (pc := 19) fl_X12_281 (by decide +kernel) (sh_68 hn) rfl ?_
    refine a_imul (pc := 22) (by decide +kernel) ?_
    refine a_iload_n (pc := 23) (i := 1) (by decide +kernel) rfl ?_
    refine b_iastore (pc := 24) (by decide +kernel) (sh_81 hn) (by omega) (by omega) (by omega) ?_
    obtain ⟨σ2, hσ2⟩ : ∃ z, z = k_sA σ 81 (j_up (σ.1 81) (3 * (σ.2.1 68 25)) a) := ⟨_, rfl⟩
    rw [← hσ2]
    refine a_aload_n (pc := 25) (i := 0) (by decide +kernel) rfl ?_
    refine b_getR (pc := 26) (b := 81) fl_X12_51 (by decide +kernel) (sh_68 hn) rfl ?_
    refine a_iconst (pc := 29) (n := 3) (by decide +kernel) ?_
    refine a_aload_n (pc := 30) (i := 0) (by decide +kernel) rfl ?_
    refine b_getI (pc := 31) fl_X12_281 (by decide +kernel) (sh_68 hn) rfl ?_
    rw [show σ2.2.1 68 25 = σ.2.1 68 25 by rw [hσ2]; rfl]
    refine a_imul (pc := 34) (by decide +kernel) ?_
    refine a_iconst (pc := 35) (n := 1) (by decide +kernel) ?_
    refine a_iadd (pc := 36) (by decide +kernel) ?_
    refine a_iload_n (pc := 37) (i := 2) (by decide +kernel) rfl ?_
    refine b_iastore (pc := 38) (by decide +kernel) (sh_81 hn) (by omega) (by omega) (by omega) ?_
    obtain ⟨σ3, hσ3⟩ : ∃ z, z = k_sA σ2 81 (j_up (σ2.1 81) ((3 * (σ.2.1 68 25)) + 1) b) := ⟨_, rfl⟩
    rw [← hσ3]
    refine a_aload_n (pc := 39) (i := 0) (by decide +kernel) rfl ?_
    refine b_getR (pc := 40) (b := 81) fl_X12_51 (by decide +kernel) (sh_68 hn) rfl ?_
    refine a_iconst (pc := 43) (n := 3) (by decide +kernel) ?_
    refine a_aload_n (pc := 44) (i := 0) (by decide +kernel) rfl ?_
    refine b_getI (pc := 45) fl_X12_281 (by decide +kernel) (sh_68 hn) rfl ?_
    rw [show σ3.2.1 68 25 = σ2.2.1 68 25 by rw [hσ3]; rfl]
    rw [show σ2.2.1 68 25 = σ.2.1 68 25 by rw [hσ2]; rfl]
    refine a_imul (pc := 48) (by decide +kernel) ?_
    refine a_iconst (pc := 49) (n := 2) (by decide +kernel) ?_
    refine a_iadd (pc := 50) (by decide +kernel) ?_
    refine a_iload_n (pc := 51) (i := 3) (by decide +kernel) rfl ?_
    refine b_iastore (pc := 52) (by decide +kernel) (sh_81 hn) (by omega) (by omega) (by omega) ?_
    obtain ⟨σ4, hσ4⟩ : ∃ z, z = k_sA σ3 81 (j_up (σ3.1 81) ((3 * (σ.2.1 68 25)) + 2) c) := ⟨_, rfl⟩
    rw [← hσ4]
    refine a_aload_n (pc := 53) (i := 0) (by decide +kernel) rfl ?_
    refine a_dup (pc := 54) (by decide +kernel) rfl ?_
    refine b_getI (pc := 55) fl_X12_281 (by decide +kernel) (sh_68 hn) rfl ?_
    rw [show σ4.2.1 68 25 = σ3.2.1 68 25 by rw [hσ4]; rfl]
    rw [show σ3.2.1 68 25 = σ2.2.1 68 25 by rw [hσ3]; rfl]
    rw [show σ2.2.1 68 25 = σ.2.1 68 25 by rw [hσ2]; rfl]
    refine a_iconst (pc := 58) (n := 1) (by decide +kernel) ?_
    refine a_iadd (pc := 59) (by decide +kernel) ?_
    refine b_putI (pc := 60) fl_X12_281 (by decide +kernel) (sh_68 hn) rfl rfl rfl ?_
    obtain ⟨σ5, hσ5⟩ : ∃ z, z = k_sI σ4 68 25 ((σ.2.1 68 25) + 1) := ⟨_, rfl⟩
    rw [← hσ5]
    refine a_return (pc := 63) (by decide +kernel) rfl ?_
    refine k_ret ?_
    have w : ∀ e, 0 ≤ e → e < σ.2.1 68 25 → pe e ≠ p := fun e e0 e9 q => by
      rcases he1 with ⟨_, w⟩ | ⟨w1, _⟩
      · exact w e e0 e9 ((pS_eq hS hp ha hb hc e0 e9).mpr q)
      · omega
    obtain ⟨y1, y2, y3⟩ := pS_add hS hp ha hb hc hl w hσ2 hσ3 hσ4 hσ5
    exact ⟨rfl, rfl, y1, by omega, by omega, _, y3⟩
  · refine a_return (pc := 12) (by decide +kernel) rfl ?_
    refine k_ret ?_
    rcases he1 with ⟨w, _⟩ | ⟨w1, w2, w3, _⟩
    · exact absurd w (by omega)
    · have w4 := (pS_eq hS hp ha hb hc w1 w2).mp w3
      refine ⟨rfl, rfl, fr81_r, by omega, by omega, pe, hS.1, hS.2.1, hS.2.2.1, fun x => ?_⟩
      rw [hS.2.2.2 x]
      constructor
      · exact Or.inl
      · rintro (q | q)
        · exact q
        · rw [q]; exact (hS.2.2.2 p).mp ⟨e1, w1, w2, w4⟩
