theorem aro_lt {lv : Int → Prop} {lt : Int → Int → Prop} (hir : ∀ x, ¬ lt x x) {p q : Int} (hq : okp lv q) (h : f_aro q = p) (hp : 0 < p) : pt_lt lt p q := by
  obtain ⟨a, b, c, ⟨ha, _⟩, ⟨hb, _⟩, ⟨hc, _⟩, rfl⟩ := hq
  have z0 : (0 : Int) ≤ 0 ∧ (0 : Int) ≤ 30 := by omega
  have e := hd3 ha hb hc
  rw [aro3 ha hb hc] at h
  by_cases c1 : c = 0
  · rw [if_neg (fun w => w c1)] at h
    by_cases b1 : b = 0
    · rw [if_neg (fun w => w b1)] at h; omega
    · rw [if_pos b1] at h
      have f := hd3 ha z0 z0
      rw [h] at f
      rw [if_pos (rfl : (0 : Int) = 0)] at f
      rw [pt_1 hir (by rw [f.1, e.1]) (by rw [f.2.1, e.2.1, if_neg b1]; omega), f.2.1]
      exact hl_l (by rw [e.2.1, if_neg b1]; omega)
  · rw [if_pos c1] at h
    have f := hd3 ha hb z0
    rw [h] at f
    rw [if_pos (rfl : (0 : Int) = 0)] at f
    rw [pt_2 hir (by rw [f.1, e.1]) (by rw [f.2.1, e.2.1]), f.2.2]
    exact hl_l (by rw [e.2.2, if_neg c1]; omega)
def IRh (σ : k_St) (a : Nat) (pe : Int → Int) : Prop := (σ.2.1 68 25 = σ.2.1 a 0 ∧ σ.1 (a + 1) = pe ∧ pE σ pe) ∧ (σ.2.1 68 32 = σ.2.1 a 5 ∧ (∀ e, 0 ≤ e → e < σ.2.1 68 25 → σ.1 83 e = pst (σ.1 (a + 2)) e ∧ σ.1 82 e = σ.1 (a + 2) e - pst (σ.1 (a + 2)) e) ∧ ∀ j, 0 ≤ j → j < 4 * σ.2.1 a 5 → σ.1 86 j = σ.1 (a + 4) j) ∧ (σ.2.1 68 34 = σ.2.1 a 7 ∧ (∀ e, 0 ≤ e → e < σ.2.1 68 25 → σ.1 85 e = pst (σ.1 (a + 3)) e ∧ σ.1 84 e = σ.1 (a + 3) e - pst (σ.1 (a + 3)) e) ∧ ∀ j, 0 ≤ j → j < σ.2.1 a 7 → σ.1 87 (3 * j) = σ.1 (a + 5) (3 * j) ∧ σ.1 87 (3 * j + 1) = σ.1 (a + 5) (3 * j + 1) ∧ σ.1 87 (3 * j + 2) = σ.1 (a + 5) (3 * j + 2)) ∧ (σ.2.1 68 43 = σ.2.1 a 9 ∧ ∀ i, 0 ≤ i → i < σ.2.1 a 9 → σ.1 95 i = σ.1 (a + 6) i) ∧ ∀ h, h_is σ h → σ.1 96 h = e_sl (σ.1 69) h ∧ ∀ i, 0 ≤ i → i < e_sl (σ.1 69) h → σ.1 97 (16 * h + i) = f_fold (e_st (σ.1 69) h i)
theorem FX_mono {σ : k_St} {a : Nat} {lm lr : List Int} {od c d : Int} (hF : FX σ a lm lr od c d) {e : Int} (e0 : 0 ≤ e) (e1 : e < σ.2.1 a 0) : (pst (σ.1 (a + 2)) e ≤ σ.1 (a + 2) e ∧ σ.1 (a + 2) e ≤ σ.2.1 a 5) ∧ pst (σ.1 (a + 3)) e ≤ σ.1 (a + 3) e ∧ σ.1 (a + 3) e ≤ σ.2.1 a 7 := by
  obtain ⟨ha, _, _, _, _, f8, f9, _⟩ := hF
  have p2 : ∀ e, 0 ≤ e → e < ((σ.2.1 a 0).toNat : Int) → pst (σ.1 (a + 2)) e ≤ σ.1 (a + 2) e := fun e e0 e1 => by
    obtain ⟨Y, _, y2, _⟩ := f8.2 e e0 (by omega); omega
  have p3 : ∀ e, 0 ≤ e → e < ((σ.2.1 a 0).toNat : Int) → pst (σ.1 (a + 3)) e ≤ σ.1 (a + 3) e := fun e e0 e1 => by
    obtain ⟨L, _, y2, _⟩ := f9.2 e e0 (by omega); omega
  have q2 := pst_up2 p2 e e0 (by omega)
  have q3 := pst_up2 p3 e e0 (by omega)
  rw [show (((σ.2.1 a 0).toNat : Nat) : Int) = σ.2.1 a 0 by omega] at q2 q3
  exact ⟨⟨p2 e e0 (by omega), by rw [f8.1]; exact q2⟩, p3 e e0 (by omega), by rw [f9.1]; exact q3⟩
theorem IR_mk {σ : k_St} {a : Nat} {lm lr : List Int} {od c d : Int} {pe : Int → Int} (hF : FX σ a lm lr od c d) (hI : IRh σ a pe) : IR σ a := by
  have mono := fun e (e0 : 0 ≤ e) (e1 : e < σ.2.1 a 0) => FX_mono hF e0 e1
  obtain ⟨⟨n1, n2, n3⟩, ⟨p1, p2, p3⟩, ⟨s1, s2, s3⟩, ⟨u1, u2⟩, w⟩ := hI
  have hB := FX_MB hF n3 n1 n2
  obtain ⟨ha, ⟨f1, f2, f3, f4⟩, f5, f6, f7, f8, f9, f10, f11, f12⟩ := hF
  have hE1 := n3.1
  have hir : ∀ x, ¬ o_rel σ x x od (-1) := fun x => o_irr
  have htr : ∀ x y z, o_rel σ x y od (-1) → o_rel σ y z od (-1) → o_rel σ x z od (-1) := fun x y z => o_rel_tr
  have as : ∀ e, 0 ≤ e → e < σ.2.1 a 0 → AS σ (σ.1 69 1382) (σ.1 (a + 1) e) := fun e e0 e1 => (f7.2 _).mp ⟨e, e0, e1, rfl⟩
  have pos : ∀ e, 0 ≤ e → e < σ.2.1 a 0 → 0 < σ.1 (a + 1) e := fun e e0 e1 => by obtain ⟨m, _, _, m2⟩ := as e e0 e1; exact m2.1
  refine ⟨n1, fun e e0 e1 => ⟨fun k k0 k1 => ?_, ?_, ?_, ⟨pos e e0 e1, (AS_hd f1 (as e e0 e1)).1, (AS_hd f1 (as e e0 e1)).2.1⟩, ?_⟩, fun e k e0 e1 k0 k1 => ⟨fun q => so_ij (fun x => pt_irr hir) f7.1 e k e0 e1 k0 k1 q, fun q => ?_⟩, p1, fun j j0 j1 => ?_, s1, fun j j0 j1 => ?_, u1, u2⟩
  · rw [n3.2 e k e0 (by omega) k0 k1, ← n2]
  · have z := p2 e e0 (by omega)
    have m := (mono e e0 e1).1
    have ep := (i_ps_pst (σ := σ) (a := a) (e := e) (by omega)).1
    have en : i_pn σ a e = σ.1 (a + 2) e - pst (σ.1 (a + 2)) e := by unfold i_pn; rw [if_pos ⟨e0, e1⟩, ep]
    rw [ep, en]; omega
  · have z := s2 e e0 (by omega)
    have m := (mono e e0 e1).2
    have ep := (i_ps_pst (σ := σ) (a := a) (e := e) (by omega)).2
    have en : i_sn σ a e = σ.1 (a + 3) e - pst (σ.1 (a + 3)) e := by unfold i_sn; rw [if_pos ⟨e0, e1⟩, ep]
    rw [ep, en]; omega
  · have hd := AS_ok f1 (as e e0 e1)
    have h0 : h_is σ (f_head (σ.1 (a + 1) e) 0) := by rcases (okp_hd hd).1 with v | v; exact absurd v (AS_hd f1 (as e e0 e1)).1; exact v
    have hE9 : σ.2.1 8 3 = σ.1 69 301 := f1.2.1.2.1.1
    have hr := f12 _ h0.1 h0.2.1
    have hw := w _ h0
    obtain ⟨k1, k2, k3, k4⟩ := KR_h f1 h0.1 (by have := h0.2.1; omega)
    have hl := e_sl_in f1 h0.1 (by have := h0.2.1; omega)
    unfold row_eq at hr
    by_cases c9 : 0 < σ.1 14 (f_head (σ.1 (a + 1) e) 0)
    · rw [if_pos c9] at hr
      have e1' : e_sl (σ.1 69) (f_head (σ.1 (a + 1) e) 0) = σ.1 14 (f_head (σ.1 (a + 1) e) 0) := by unfold e_sl; rw [if_neg (by omega), k2]
      have r1 : σ.1 (a + 9) (f_head (σ.1 (a + 1) e) 0) = σ.1 14 (f_head (σ.1 (a + 1) e) 0) := hr.1
      refine ⟨by rw [hw.1, e1', r1], fun i i0 i1 => ?_⟩
      rw [r1] at i1
      have r2 : σ.1 (a + 8) (f_head (σ.1 (a + 1) e) 0 * 16 + i) = σ.1 13 (f_head (σ.1 (a + 1) e) 0 * 16 + i) := hr.2 i i0 (by omega) i1
      rw [hw.2 i i0 (by omega), r2, k4 i i0 (by omega)]
      unfold e_st; rw [if_neg (by omega)]
    · rw [if_neg c9] at hr
      have hw14 := f1.1.2.1.2.2.1.1 _ h0.1 (by have := (KR_rg f1.1 f1.2.1).1.2.1; have := h0.2.1; omega)
      have hw14' : 0 ≤ σ.1 14 (f_head (σ.1 (a + 1) e) 0) := hw14.1
      have e1' : e_sl (σ.1 69) (f_head (σ.1 (a + 1) e) 0) = σ.1 11 (f_head (σ.1 (a + 1) e) 0) := by unfold e_sl; rw [if_pos (by omega), k1]
      have r1 : σ.1 (a + 9) (f_head (σ.1 (a + 1) e) 0) = σ.1 11 (f_head (σ.1 (a + 1) e) 0) := hr.1
      refine ⟨by rw [hw.1, e1', r1], fun i i0 i1 => ?_⟩
      rw [r1] at i1
      have r2 : σ.1 (a + 8) (f_head (σ.1 (a + 1) e) 0 * 16 + i) = σ.1 10 (f_head (σ.1 (a + 1) e) 0 * 16 + i) := hr.2 i i0 (by omega) i1
      rw [hw.2 i i0 (by omega), r2, k3 i i0 (by omega)]
      unfold e_st; rw [if_pos (by omega)]
  · have l := aro_lt (lt := fun x y => o_rel σ x y od (-1)) hir (AS_ok f1 (as k k0 k1)) q (pos e e0 e1)
    rcases Int.lt_trichotomy e k with v | v | v
    · exact v
    · rw [v] at l; exact absurd l (pt_irr hir)
    · exact absurd (pt_tr htr l (f7.1 k e k0 v e1)) (pt_irr hir)
  · exact p3 j j0 j1
  · have z := s3 (j / 3) (by omega) (by omega)
    rcases (show j = 3 * (j / 3) ∨ j = 3 * (j / 3) + 1 ∨ j = 3 * (j / 3) + 2 by omega) with v | v | v
    · rw [v]; exact z.1
    · rw [v]; exact z.2.1
    · rw [v]; exact z.2.2
theorem IR_45 {σ τ : k_St} {a : Nat} (ha : a = 48 ∨ a = 58) (h1 : τ.1 = σ.1) (h2 : ∀ c j, ¬ (c = 68 ∧ j = 45) → τ.2.1 c j = σ.2.1 c j) (h : IR σ a) : IR τ a := by
  have e0 := h2 a 0 (by omega)
  have x1 : i_pn τ a = i_pn σ a := by funext e; unfold i_pn i_ps; rw [h1, e0]
  have x2 : i_ps τ a = i_ps σ a := by funext e; unfold i_ps; rw [h1]
  have x3 : i_sn τ a = i_sn σ a := by funext e; unfold i_sn i_ls; rw [h1, e0]
  have x4 : i_ls τ a = i_ls σ a := by funext e; unfold i_ls; rw [h1]
  unfold IR
  rw [x1, x2, x3, x4, h1, e0, h2 a 5 (by omega), h2 a 7 (by omega), h2 a 9 (by omega), h2 68 25 (by omega), h2 68 32 (by omega), h2 68 34 (by omega), h2 68 43 (by omega)]
  exact h
/-- the old arrays are the class's index b -/
def OLD (σ : k_St) (b : Nat) : Prop := (b = 48 ∨ b = 58) ∧ i_wf σ b ∧ σ.2.1 68 35 = σ.2.1 b 0 ∧ (∀ q k, 0 ≤ q → q < σ.2.1 b 0 → 0 ≤ k → k < 3 → σ.1 88 (3 * q + k) = f_head (σ.1 (b + 1) q) k) ∧ ij (σ.1 (b + 1)) (σ.2.1 b 0) ∧ (∀ q, 0 ≤ q → q < σ.2.1 b 0 → (σ.1 89 q = i_pn σ b q ∧ σ.1 90 q = i_ps σ b q ∧ 0 ≤ i_pn σ b q ∧ i_ps σ b q + i_pn σ b q ≤ σ.2.1 b 5) ∧ (σ.1 91 q = i_sn σ b q ∧ σ.1 92 q = i_ls σ b q ∧ 0 ≤ i_sn σ b q ∧ i_ls σ b q + i_sn σ b q ≤ σ.2.1 b 7)) ∧ (∀ j, 0 ≤ j → j < 4 * σ.2.1 b 5 → σ.1 93 j = σ.1 (b + 4) j) ∧ ∀ j, 0 ≤ j → j < 3 * σ.2.1 b 7 → σ.1 94 j = σ.1 (b + 5) j
theorem OLD_cg {σ τ : k_St} {b : Nat} (h : cfr σ τ) (h8 : ∀ c, 88 ≤ c → c ≤ 94 → τ.1 c = σ.1 c) (h35 : τ.2.1 68 35 = σ.2.1 68 35) (hO : OLD σ b) : OLD τ b := by
  have hb := hO.1
  have A : ∀ c, c < 81 → τ.1 c = σ.1 c := fun c hc => h.1 c (Or.inl hc)
  have B : ∀ c j, c ≠ 68 → τ.2.1 c j = σ.2.1 c j := fun c j hc => h.2.1 c j (Or.inl hc)
  have e0 := B b 0 (by omega)
  have x1 : i_pn τ b = i_pn σ b := by funext e; unfold i_pn i_ps; rw [A (b + 2) (by omega), e0]
  have x2 : i_ps τ b = i_ps σ b := by funext e; unfold i_ps; rw [A (b + 2) (by omega)]
  have x3 : i_sn τ b = i_sn σ b := by funext e; unfold i_sn i_ls; rw [A (b + 3) (by omega), e0]
  have x4 : i_ls τ b = i_ls σ b := by funext e; unfold i_ls; rw [A (b + 3) (by omega)]
  obtain ⟨o1, o2, o3⟩ := hO
  refine ⟨o1, i_wf_cg (fun c _ _ => A c (by omega)) (fun j => B b j (by omega)) o2, ?_⟩
  rw [x1, x2, x3, x4, h35, e0, B b 5 (by omega), B b 7 (by omega), A (b + 1) (by omega), A (b + 4) (by omega), A (b + 5) (by omega), h8 88 (by omega) (by omega), h8 89 (by omega) (by omega), h8 90 (by omega) (by omega), h8 91 (by omega) (by omega), h8 92 (by omega) (by omega), h8 93 (by omega) (by omega), h8 94 (by omega) (by omega)]
  exact o3
theorem IR_wf2 {σ : k_St} {a : Nat} (hw : i_wf σ a) : (0 ≤ σ.2.1 a 0 ∧ σ.2.1 a 0 ≤ 150) ∧ (0 ≤ σ.2.1 a 5 ∧ σ.2.1 a 5 ≤ 50) ∧ (0 ≤ σ.2.1 a 7 ∧ σ.2.1 a 7 ≤ 50) := ⟨hw.1, hw.2.1, hw.2.2.1⟩
theorem CH_mk {σ : k_St} {a b : Nat} (ha : a = 48 ∨ a = 58) (hw : i_wf σ a) (hI : IR σ a) (hO : OLD σ b) : CHh σ (σ.1 (b + 1)) ∧ ∀ e q, 0 ≤ e → e < σ.2.1 a 0 → 0 ≤ q → q < σ.2.1 b 0 → (mlk σ e q ↔ i_like σ a e b q) := by
  obtain ⟨o1, o2, o3, o4, o5, o6, o7, o8⟩ := hO
  obtain ⟨r0, r1, r2, r3, r4, r5, r6, _⟩ := hI
  have wa := IR_wf2 hw
  have wb := IR_wf2 o2
  refine ⟨⟨by rw [o3]; omega, by rw [o3]; exact o4, fun q _ _ => (o2.2.2.2.2 q).1, by rw [o3]; exact o5, fun e e0 e1 => ?_, fun q q0 q1 => ?_⟩, fun e q e0 e1 q0 q1 => ?_⟩
  · obtain ⟨_, ⟨x1, x2, x3, x4⟩, ⟨y1, y2, y3, y4⟩, _⟩ := r1 e e0 (by omega)
    have g1 := i_ps_in hw e
    have g2 := i_ls_in hw e
    refine ⟨by omega, by omega, fun k k0 k1 => ?_, fun k k0 k1 => ?_⟩
    · rw [r4 _ (by omega) (by omega)]; have := (hw.2.2.2.2 (4 * σ.1 83 e + k)).2.2.2.1; omega
    · rw [r6 _ (by omega) (by omega), r6 _ (by omega) (by omega)]
      have z1 := (hw.2.2.2.2 (3 * (σ.1 85 e + k))).2.2.2.2.1
      have z2 := (hw.2.2.2.2 (3 * (σ.1 85 e + k) + 1)).2.2.2.2.1
      omega
  · rw [o3] at q1
    obtain ⟨⟨x1, x2, x3, x4⟩, y1, y2, y3, y4⟩ := o6 q q0 q1
    have g1 := i_ps_in o2 q
    have g2 := i_ls_in o2 q
    refine ⟨by omega, by omega, fun k k0 k1 => ?_, fun k k0 k1 => ?_⟩
    · rw [o7 _ (by omega) (by omega)]; have := (o2.2.2.2.2 (4 * σ.1 90 q + k)).2.2.2.1; omega
    · rw [o8 _ (by omega) (by omega), o8 _ (by omega) (by omega)]
      have z1 := (o2.2.2.2.2 (3 * (σ.1 92 q + k))).2.2.2.2.1
      have z2 := (o2.2.2.2.2 (3 * (σ.1 92 q + k) + 1)).2.2.2.2.1
      omega
  · obtain ⟨_, ⟨x1, x2, x3, x4⟩, ⟨y1, y2, y3, y4⟩, _⟩ := r1 e e0 e1
    obtain ⟨⟨v1, v2, v3, v4⟩, w1, w2, w3, w4⟩ := o6 q q0 q1
    have g1 := i_ps_in hw e
    have g2 := i_ls_in hw e
    have g3 := i_ps_in o2 q
    have g4 := i_ls_in o2 q
    unfold mlk i_like i_likeL i_lkL
    rw [x1, x2, y1, y2, v1, v2, w1, w2]
    constructor
    · rintro ⟨⟨c1, c2⟩, c3, c4⟩
      refine ⟨c1, c2, fun k k0 k1 => ?_, fun k k0 k1 => ?_⟩
      · have := c3 k k0 (by omega)
        rw [r4 _ (by omega) (by omega), o7 _ (by omega) (by omega)] at this
        rw [show i_ps σ a e * 4 + k = 4 * i_ps σ a e + k by omega, show i_ps σ b q * 4 + k = 4 * i_ps σ b q + k by omega]; exact this
      · have := c4 k k0 k1
        rw [r6 _ (by omega) (by omega), o8 _ (by omega) (by omega), r6 _ (by omega) (by omega), o8 _ (by omega) (by omega)] at this
        rw [show (i_ls σ a e + k) * 3 = 3 * (i_ls σ a e + k) by omega, show (i_ls σ b q + k) * 3 = 3 * (i_ls σ b q + k) by omega]; exact this
    · rintro ⟨c1, c2, c3, c4⟩
      refine ⟨⟨c1, c2⟩, fun k k0 k1 => ?_, fun k k0 k1 => ?_⟩
      · have := c3 k k0 (by omega)
        rw [r4 _ (by omega) (by omega), o7 _ (by omega) (by omega)]
        rw [show i_ps σ a e * 4 + k = 4 * i_ps σ a e + k by omega, show i_ps σ b q * 4 + k = 4 * i_ps σ b q + k by omega] at this; exact this
      · have := c4 k k0 k1
        rw [r6 _ (by omega) (by omega), o8 _ (by omega) (by omega), r6 _ (by omega) (by omega), o8 _ (by omega) (by omega)]
        rw [show (i_ls σ a e + k) * 3 = 3 * (i_ls σ a e + k) by omega, show (i_ls σ b q + k) * 3 = 3 * (i_ls σ b q + k) by omega] at this; exact this
theorem chg_mk {σ : k_St} {a b : Nat} {pe : Int → Int} (ha : a = 48 ∨ a = 58) (hw : i_wf σ a) (hI : IR σ a) (hO : OLD σ b) (hpe : σ.1 (a + 1) = pe) (hij : ij pe (σ.2.1 a 0)) {x y : Int} (hx : n_cnt (chP σ pe (σ.1 (b + 1))) (σ.2.1 68 25).toNat x) (hy : n_cnt (inP σ pe (σ.1 (b + 1))) (σ.2.1 68 25).toNat y) : i_chg σ a b (x + σ.2.1 68 35 - y) := by
  obtain ⟨_, hlk⟩ := CH_mk ha hw hI hO
  obtain ⟨o1, o2, o3, o4, o5, _⟩ := hO
  have r0 := hI.1
  have wa := IR_wf2 hw
  have wb := IR_wf2 o2
  rw [r0] at hx hy
  refine ⟨x, σ.2.1 b 0 - y, n_cnt_cg (fun e e0 e1 => ?_) hx, ?_, by omega⟩
  · have e1 : e < σ.2.1 a 0 := by omega
    unfold chP inP i_chP
    rw [o3, hpe]
    constructor
    · rintro (w | ⟨q, q0, q1, q2, q3⟩)
      · exact ⟨-9, Or.inl ⟨rfl, fun q q0 q1 v => w ⟨q, q0, q1, v⟩⟩, Or.inl rfl⟩
      · refine ⟨q, Or.inr ⟨q0, q1, q2, fun k k0 k1 v => ?_⟩, Or.inr (fun v => q3 ((hlk e q e0 e1 q0 q1).mpr v))⟩
        have := o5 k q k0 (by omega) q0 q1 (v.trans q2.symm); omega
    · rintro ⟨r, h1, h2⟩
      rcases h1 with ⟨h3, h4⟩ | ⟨h3, h4, h5, h6⟩
      · exact Or.inl (fun ⟨q, q0, q1, q2⟩ => h4 q q0 q1 q2)
      · rcases h2 with h2 | h2
        · omega
        · exact Or.inr ⟨r, h3, h4, h5, fun v => h2 ((hlk e r e0 e1 h3 h4).mp v)⟩
  · have hy' : n_cnt (fun e => im (σ.1 (b + 1)) ((σ.2.1 b 0).toNat : Int) (pe e)) (σ.2.1 a 0).toNat y := n_cnt_cg (fun e e0 e1 => by unfold inP; rw [o3, show (((σ.2.1 b 0).toNat : Nat) : Int) = σ.2.1 b 0 by omega]) hy
    have z := n_cnt_bij (m := (σ.2.1 b 0).toNat) (by rw [show (((σ.2.1 b 0).toNat : Nat) : Int) = σ.2.1 b 0 by omega]; exact o5) (n := (σ.2.1 a 0).toNat) (by rw [show (((σ.2.1 a 0).toNat : Nat) : Int) = σ.2.1 a 0 by omega]; exact hij) hy'
    have z2 := n_cnt_not z
    rw [show (((σ.2.1 b 0).toNat : Nat) : Int) = σ.2.1 b 0 by omega] at z2
    refine n_cnt_cg (fun q q0 q1 => ?_) z2
    unfold i_goP i_of
    rw [show (((σ.2.1 a 0).toNat : Nat) : Int) = σ.2.1 a 0 by omega]
    constructor
    · intro w
      exact Or.inl ⟨rfl, fun e e0 e1 v => w ⟨e, e0, e1, by rw [← hpe]; exact v⟩⟩
    · rintro (⟨_, w⟩ | ⟨w, _⟩)
      · rintro ⟨e, e0, e1, e2⟩; exact w e e0 e1 (by rw [hpe]; exact e2)
      · omega
