theorem f_count_pos {g : Int → Bool} : ∀ {k : Nat}, 0 < f_count g k ↔ ∃ i : Int, 0 ≤ i ∧ i < k ∧ g i = true
  | 0 => by
    constructor
    · intro h; exact absurd h (by show ¬ (0 : Int) < 0; omega)
    · rintro ⟨i, a, b, _⟩; omega
  | k + 1 => by
    have e : f_count g (k + 1) = f_count g k + if g (k : Int) then 1 else 0 := rfl
    have r := f_count_in g k
    rw [e]
    constructor
    · intro h
      by_cases c : g (k : Int) = true
      · exact ⟨k, by omega, by omega, c⟩
      · rw [if_neg c] at h
        obtain ⟨i, a, b, d⟩ := f_count_pos.mp (show 0 < f_count g k by omega)
        exact ⟨i, a, by omega, d⟩
    · rintro ⟨i, a, b, d⟩
      by_cases c : i = k
      · rw [c] at d; rw [if_pos d]; omega
      · have hf : 0 < f_count g k := f_count_pos.mpr ⟨i, a, by omega, d⟩
        split <;> omega
theorem AS_hd {σ : k_St} (hK : RKept σ) {k x : Int} (h : AS σ k x) : f_head x 0 ≠ -9 ∧ (f_head x 1 = -9 → f_head x 2 = -9) ∧ AS σ k (f_path (f_head x 0) (-9) (-9)) ∧ (f_head x 1 ≠ -9 → AS σ k (f_path (f_head x 0) (f_head x 1) (-9))) := by
  obtain ⟨m, m0, m1, m2⟩ := h
  obtain ⟨z1, z2, z3⟩ := mk_ok hK m1
  have q0 : h_is σ (f_head (σ.1 19 m) 0) := by rcases (okp_hd z1).1 with w | w; exact absurd w z2; exact w
  have g0 := h_is_29 hK q0
  have i1 : f_hd (f_head (σ.1 19 m) 1) := by rcases (okp_hd z1).2.1 with w | w; exact Or.inl w; exact Or.inr (h_is_29 hK w)
  have i2 : f_hd (f_head (σ.1 19 m) 2) := by rcases (okp_hd z1).2.2 with w | w; exact Or.inl w; exact Or.inr (h_is_29 hK w)
  have mem : ∀ y, pre_p (m_epath σ m) y → AS σ k y := fun y hy => ⟨m, m0, m1, hy⟩
  rcases (mk_pre hK m1).mp m2 with w | ⟨w0, w1, w⟩ | ⟨w0, w1, w2, w⟩
  · have e := f_path_heads (a := f_head (σ.1 19 m) 0) (b := -9) (c := -9) (Or.inr g0) (Or.inl rfl) (Or.inl rfl)
    rw [w, e.1, e.2.1, e.2.2]
    exact ⟨z2, fun _ => rfl, mem _ ((mk_pre hK m1).mpr (Or.inl rfl)), fun q => absurd rfl q⟩
  · have e := f_path_heads (a := f_head (σ.1 19 m) 0) (b := f_head (σ.1 19 m) 1) (c := -9) (Or.inr g0) i1 (Or.inl rfl)
    rw [w, e.1, e.2.1, e.2.2]
    exact ⟨z2, fun _ => rfl, mem _ ((mk_pre hK m1).mpr (Or.inl rfl)), fun _ => mem _ ((mk_pre hK m1).mpr (Or.inr (Or.inl ⟨w0, w1, rfl⟩)))⟩
  · have e := f_path_heads (a := f_head (σ.1 19 m) 0) (b := f_head (σ.1 19 m) 1) (c := f_head (σ.1 19 m) 2) (Or.inr g0) i1 i2
    rw [w, e.1, e.2.1, e.2.2]
    exact ⟨z2, fun q => absurd q w1, mem _ ((mk_pre hK m1).mpr (Or.inl rfl)), fun _ => mem _ ((mk_pre hK m1).mpr (Or.inr (Or.inl ⟨w0, w1, rfl⟩)))⟩
/-- around a path of one head -/
theorem aro_1 {lv : Int → Prop} {p q : Int} (hp : okp lv p) (hq : okp lv q) (p0 : f_head p 0 ≠ -9) (q0 : f_head q 0 ≠ -9) (p1 : f_head p 1 = -9) (p2 : f_head p 2 = -9) (q12 : f_head q 1 = -9 → f_head q 2 = -9) : f_aro q = p ↔ f_head q 1 ≠ -9 ∧ f_head q 2 = -9 ∧ f_head q 0 = f_head p 0 := by
  obtain ⟨a, b, c, ⟨ha, _⟩, ⟨hb, _⟩, ⟨hc, _⟩, rfl⟩ := hp
  obtain ⟨a', b', c', ⟨ha', _⟩, ⟨hb', _⟩, ⟨hc', _⟩, rfl⟩ := hq
  have e := hd3 ha hb hc
  have e' := hd3 ha' hb' hc'
  rw [e.1] at p0; rw [e.2.1] at p1; rw [e.2.2] at p2
  rw [e'.1] at q0
  rw [aro3 ha' hb' hc', e'.1, e'.2.1, e'.2.2, e.1]
  rw [e'.2.1, e'.2.2] at q12
  have b0 : b = 0 := by
    by_cases w : b = 0
    · exact w
    · rw [if_neg w] at p1; omega
  have c0 : c = 0 := by
    by_cases w : c = 0
    · exact w
    · rw [if_neg w] at p2; omega
  have a0 : a ≠ 0 := fun w => p0 (by rw [if_pos w])
  have a0' : a' ≠ 0 := fun w => q0 (by rw [if_pos w])
  subst b0; subst c0
  rw [if_neg a0, if_neg a0']
  by_cases c1 : c' = 0
  · subst c1
    rw [if_neg (fun w => w rfl), if_pos (rfl : (0 : Int) = 0)]
    by_cases b1 : b' = 0
    · subst b1
      rw [if_neg (fun w => w rfl), if_pos (rfl : (0 : Int) = 0)]
      constructor
      · intro w; omega
      · rintro ⟨w, _⟩; exact absurd rfl w
    · rw [if_pos b1, if_neg b1]
      constructor
      · intro w; exact ⟨by omega, rfl, by omega⟩
      · rintro ⟨_, _, w⟩; omega
  · rw [if_pos c1, if_neg c1]
    have b1 : b' ≠ 0 := fun w => by
      have := q12 (by rw [if_pos w])
      rw [if_neg c1] at this; omega
    rw [if_neg b1]
    constructor
    · intro w; omega
    · rintro ⟨_, w, _⟩; omega
def ES (σ : k_St) (od : Int) (pe : Int → Int) : Prop := so (pt_lt (fun x y => o_rel σ x y od (-1))) pe (σ.2.1 68 25) ∧ ∀ x, im pe (σ.2.1 68 25) x ↔ AS σ (σ.1 69 1382) x
theorem d_dp_1 {σ : k_St} {pe : Int → Int} (hE : pE σ pe) {e : Int} (e0 : 0 ≤ e ∧ e < σ.2.1 68 25) : d_dp (σ.1 81) e = if f_head (pe e) 1 = -9 then 1 else if f_head (pe e) 2 = -9 then 2 else 3 := by
  unfold d_dp; rw [hE.2 e 1 e0.1 e0.2 (by omega) (by omega), hE.2 e 2 e0.1 e0.2 (by omega) (by omega)]
theorem ch_1 {σ : k_St} {pe : Int → Int} (hE : pE σ pe) {e f : Int} (e0 : 0 ≤ e ∧ e < σ.2.1 68 25) (f0 : 0 ≤ f ∧ f < σ.2.1 68 25) (h1 : f_head (pe e) 1 = -9) : d_ch (σ.1 81) e f ↔ f_head (pe f) 1 ≠ -9 ∧ f_head (pe f) 2 = -9 ∧ f_head (pe f) 0 = f_head (pe e) 0 := by
  unfold d_ch
  rw [d_dp_1 hE e0, d_dp_1 hE f0, if_pos h1]
  have z : (∀ i, 0 ≤ i → i < 1 → σ.1 81 (3 * e + i) = σ.1 81 (3 * f + i)) ↔ f_head (pe f) 0 = f_head (pe e) 0 := by
    have a := hE.2 e 0 e0.1 e0.2 (by omega) (by omega)
    have b := hE.2 f 0 f0.1 f0.2 (by omega) (by omega)
    constructor
    · intro w; have := w 0 (by omega) (by omega); rw [a, b] at this; exact this.symm
    · intro w i i0 i1
      rw [show i = 0 by omega, a, b]; exact w.symm
  rw [z]
  constructor
  · rintro ⟨w1, w2⟩
    by_cases c : f_head (pe f) 1 = -9
    · rw [if_pos c] at w1; omega
    · rw [if_neg c] at w1
      by_cases c2 : f_head (pe f) 2 = -9
      · exact ⟨c, c2, w2⟩
      · rw [if_neg c2] at w1; omega
  · rintro ⟨w1, w2, w3⟩
    rw [if_neg w1, if_pos w2]; exact ⟨rfl, w3⟩
theorem body_1 {σ : k_St} {a : Nat} {od : Int} {pe : Int → Int} (hB : MB σ pe) (hS : ES σ od pe) (hx1 : σ.2.1 a 0 = σ.2.1 68 25) (hx2 : ∀ e, 0 ≤ e → e < σ.2.1 68 25 → σ.1 (a + 1) e = pe e) {e : Int} (e0 : 0 ≤ e ∧ e < σ.2.1 68 25) (h82 : σ.1 82 e = i_pn σ a e) (h1 : f_head (pe e) 1 = -9) : hmr σ e ↔ i_body σ a e := by
  obtain ⟨hK, hP, hfl, hE, hok⟩ := hB
  obtain ⟨s1, s2⟩ := hS
  have hir : ∀ x, ¬ o_rel σ x x od (-1) := fun x => o_irr
  have htr : ∀ x y z, o_rel σ x y od (-1) → o_rel σ y z od (-1) → o_rel σ x z od (-1) := fun x y z => o_rel_tr
  have as : ∀ q, 0 ≤ q → q < σ.2.1 68 25 → AS σ (σ.1 69 1382) (pe q) := fun q q0 q1 => (s2 _).mp ⟨q, q0, q1, rfl⟩
  have he := AS_hd hK (as e e0.1 e0.2)
  have key : (∃ f, 0 ≤ f ∧ f < σ.2.1 68 25 ∧ d_ch (σ.1 81) e f) ↔ (e + 1 < σ.2.1 68 25 ∧ f_aro (pe (e + 1)) = pe e) := by
    constructor
    · rintro ⟨f, f0, f1, f2⟩
      obtain ⟨c1, c2, c3⟩ := (ch_1 hE e0 ⟨f0, f1⟩ h1).mp f2
      have hef : pt_lt (fun x y => o_rel σ x y od (-1)) (pe e) (pe f) := by rw [pt_1 hir c3.symm (by rw [h1]; exact fun w => c1 w.symm), h1]; exact hl_l c1
      have lef : e < f := by
        rcases Int.lt_trichotomy e f with w | w | w
        · exact w
        · rw [w] at hef; exact absurd hef (pt_irr hir)
        · exact absurd (pt_tr htr hef (s1 f e f0 w e0.2)) (pt_irr hir)
      have n1 : e + 1 < σ.2.1 68 25 := by omega
      refine ⟨n1, ?_⟩
      have hn := AS_hd hK (as (e + 1) (by omega) n1)
      have l1 := s1 e (e + 1) e0.1 (by omega) n1
      have x0 : f_head (pe (e + 1)) 0 = f_head (pe e) 0 := by
        by_cases w : f_head (pe (e + 1)) 0 = f_head (pe e) 0
        · exact w
        · have a1 := (pt_0 (fun v => w v.symm)).mp l1
          have a2 : hl_lt (fun x y => o_rel σ x y od (-1)) (f_head (pe (e + 1)) 0) (f_head (pe e) 0) := by
            by_cases v : f = e + 1
            · rw [← v] at w; exact absurd c3 w
            · have l2 := s1 (e + 1) f (by omega) (by omega) f1
              rw [pt_0 (by rw [c3]; exact w), c3] at l2; exact l2
          exact absurd (hl_tr htr a1 a2) (hl_irr hir)
      have x1 : f_head (pe (e + 1)) 1 ≠ -9 := fun w => by
        have w2 := hn.2.1 w
        have a1 := (pt_2 hir x0.symm (by rw [h1, w])).mp l1
        rw [w2] at a1; exact hl_9 a1
      have x2 : f_head (pe (e + 1)) 2 = -9 := by
        by_cases w : f_head (pe (e + 1)) 2 = -9
        · exact w
        · have w3 := hn.2.2.2 x1
          obtain ⟨g, g0, g1, g2⟩ := (s2 _).mpr w3
          have i0 : f_hd (f_head (pe (e + 1)) 0) := by rcases (okp_hd (hok (e + 1) (by omega) n1)).1 with v | v; exact Or.inl v; exact Or.inr (h_is_29 hK v)
          have i1 : f_hd (f_head (pe (e + 1)) 1) := by rcases (okp_hd (hok (e + 1) (by omega) n1)).2.1 with v | v; exact Or.inl v; exact Or.inr (h_is_29 hK v)
          have hh := f_path_heads i0 i1 (c := -9) (Or.inl rfl)
          rw [← g2] at hh
          have b1 : pt_lt (fun x y => o_rel σ x y od (-1)) (pe e) (pe g) := by rw [pt_1 hir (by rw [hh.1, x0]) (by rw [h1, hh.2.1]; exact fun v => x1 v.symm), h1, hh.2.1]; exact hl_l x1
          have b2 : pt_lt (fun x y => o_rel σ x y od (-1)) (pe g) (pe (e + 1)) := by rw [pt_2 hir hh.1 hh.2.1, hh.2.2]; exact hl_l w
          have l3 : e < g := by
            rcases Int.lt_trichotomy e g with v | v | v
            · exact v
            · rw [v] at b1; exact absurd b1 (pt_irr hir)
            · exact absurd (pt_tr htr b1 (s1 g e g0 v e0.2)) (pt_irr hir)
          have l4 : g < e + 1 := by
            rcases Int.lt_trichotomy g (e + 1) with v | v | v
            · exact v
            · rw [v] at b2; exact absurd b2 (pt_irr hir)
            · exact absurd (pt_tr htr b2 (s1 (e + 1) g (by omega) v g1)) (pt_irr hir)
          omega
      exact (aro_1 (hok e e0.1 e0.2) (hok (e + 1) (by omega) n1) he.1 hn.1 h1 (he.2.1 h1) hn.2.1).mpr ⟨x1, x2, x0⟩
    · rintro ⟨n1, w⟩
      have hn := AS_hd hK (as (e + 1) (by omega) n1)
      have := (aro_1 (hok e e0.1 e0.2) (hok (e + 1) (by omega) n1) he.1 hn.1 h1 (he.2.1 h1) hn.2.1).mp w
      exact ⟨e + 1, by omega, n1, (ch_1 hE e0 ⟨by omega, n1⟩ h1).mpr this⟩
  have hn0 := hE.1
  have fc : 0 < f_count (d_cB (σ.1 81) e) (σ.2.1 68 25).toNat ↔ ∃ f, 0 ≤ f ∧ f < σ.2.1 68 25 ∧ d_ch (σ.1 81) e f := by
    rw [f_count_pos]
    constructor
    · rintro ⟨i, i0, i1, i2⟩
      refine ⟨i, i0, by omega, ?_⟩
      by_cases c : d_ch (σ.1 81) e i
      · exact c
      · rw [d_cB_n c] at i2; exact absurd i2 (by simp)
    · rintro ⟨i, i0, i1, i2⟩
      exact ⟨i, i0, by omega, d_cB_y i2⟩
  unfold hmr i_body
  rw [h82, fc, key, hx1]
  constructor
  · rintro (w | ⟨w1, w2⟩)
    · exact Or.inl w
    · exact Or.inr ⟨e0.1, w1, by rw [hx2 (e + 1) (by omega) w1, hx2 e e0.1 e0.2]; exact w2⟩
  · rintro (w | ⟨_, w1, w2⟩)
    · exact Or.inl w
    · rw [hx2 (e + 1) (by omega) w1, hx2 e e0.1 e0.2] at w2
      exact Or.inr ⟨w1, w2⟩
