def cv (y x : Int × Int) : Prop := y.1 ≤ x.1 ∧ x.2 ≤ y.2
def mxm (RS : Int × Int → Prop) (x : Int × Int) : Prop := ∀ y, RS y → y.1 ≤ x.1 → x.2 ≤ y.2 → y = x
def smn (MA : Int → Prop) (x : Int × Int) : Prop := x.1 = x.2 ∧ MA x.1
def T1 (τ : k_St) (RS : Int × Int → Prop) (MA : Int → Prop) (k : Int) : Prop := ∃ C, RN0 τ C ∧ (∀ x, C x → RS x) ∧ (∀ y, RS y → (∃ z, C z ∧ cv z y) ∨ smn MA y) ∧ (∀ x, RS x → mxm RS x → ¬ smn MA x → C x) ∧ (∀ i, 0 ≤ i → i < k → ¬ smn MA (rp τ i) ∧ ∀ z, C z → cv z (rp τ i) → z = rp τ i) ∧ 0 ≤ k ∧ k ≤ τ.2.1 68 48
theorem RN0_out {τ τ' : k_St} {C : Int × Int → Prop} {a : Int} (h : RN0 τ C) (ho : oR τ τ' a) (a0 : 0 ≤ a ∧ a < τ.2.1 68 48) : RN0 τ' (fun x => C x ∧ x ≠ rp τ a) := by
  obtain ⟨h1, h2, h3, h4⟩ := h
  obtain ⟨o1, o2, o3⟩ := ho
  have r : ∀ k, 0 ≤ k → k < τ.2.1 68 48 - 1 → ∃ q, 0 ≤ q ∧ q < τ.2.1 68 48 ∧ q ≠ a ∧ rp τ' k = rp τ q ∧ q = (if k < a then k else k + 1) := fun k k0 k1 => ⟨if k < a then k else k + 1, by split <;> omega, by split <;> omega, by split <;> omega, o3 k k0 k1, rfl⟩
  refine ⟨by rw [o2]; omega, fun k k0 k1 => ?_, fun i j i0 i1 j0 j1 w => ?_, fun x => ?_⟩
  · rw [o2] at k1
    obtain ⟨q, q0, q1, q2, q3, _⟩ := r k k0 k1
    have := h2 q q0 q1
    have e1 : τ'.1 98 k = τ.1 98 q := congrArg Prod.fst q3
    have e2 : τ'.1 99 k = τ.1 99 q := congrArg Prod.snd q3
    rw [e1, e2]; exact this
  · rw [o2] at i1 j1
    obtain ⟨q, q0, q1, q2, q3, q4⟩ := r i i0 i1
    obtain ⟨p, p0, p1, p2, p3, p4⟩ := r j j0 j1
    rw [q3, p3] at w
    have := h3 q p q0 q1 p0 p1 w
    by_cases c : i < a
    · rw [if_pos c] at q4
      by_cases d : j < a
      · rw [if_pos d] at p4; omega
      · rw [if_neg d] at p4; omega
    · rw [if_neg c] at q4
      by_cases d : j < a
      · rw [if_pos d] at p4; omega
      · rw [if_neg d] at p4; omega
  · rw [o2]
    constructor
    · rintro ⟨k, k0, k1, k2⟩
      obtain ⟨q, q0, q1, q2, q3, _⟩ := r k k0 k1
      rw [q3] at k2
      exact ⟨(h4 x).mp ⟨q, q0, q1, k2⟩, fun w => q2 (h3 q a q0 q1 a0.1 a0.2 (by rw [k2]; exact w))⟩
    · rintro ⟨w1, w2⟩
      obtain ⟨q, q0, q1, q2⟩ := (h4 x).mpr w1
      have hq : q ≠ a := fun e => w2 (by rw [← q2, e])
      by_cases c : q < a
      · exact ⟨q, q0, by omega, by rw [o3 q q0 (by omega), if_pos c]; exact q2⟩
      · exact ⟨q - 1, by omega, by omega, by rw [o3 (q - 1) (by omega) (by omega), if_neg (by omega), show q - 1 + 1 = q by omega]; exact q2⟩
theorem T1_out {τ τ' : k_St} {RS : Int × Int → Prop} {MA : Int → Prop} {k : Int} (hr : ∀ x, RS x → x.1 ≤ x.2) (h : T1 τ RS MA k) (ho : oR τ τ' k) (k1 : k < τ.2.1 68 48) (hg : smn MA (rp τ k) ∨ ∃ x, 0 ≤ x ∧ x < τ.2.1 68 48 ∧ x ≠ k ∧ cv (rp τ x) (rp τ k)) : T1 τ' RS MA k := by
  obtain ⟨C, c1, c2, c3, c4, c5, c6, c7⟩ := h
  have hk : C (rp τ k) := (c1.2.2.2 _).mp ⟨k, c6, k1, rfl⟩
  refine ⟨fun x => C x ∧ x ≠ rp τ k, RN0_out c1 ho ⟨c6, k1⟩, fun x w => c2 x w.1, fun y hy => ?_, fun x x1 x2 x3 => ⟨c4 x x1 x2 x3, fun e => ?_⟩, fun i i0 i1 => ?_, c6, by rw [ho.2.1]; omega⟩
  · rcases c3 y hy with ⟨z, z1, z2⟩ | w
    · by_cases e : z = rp τ k
      · rw [e] at z2
        rcases hg with g | ⟨x, x0, x1, x2, x3⟩
        · right
          have a1 := hr y hy
          have a2 := g.1
          have a3 := z2.1
          have a4 := z2.2
          have e1 : y.1 = (rp τ k).1 := by omega
          exact ⟨by omega, by rw [e1]; exact g.2⟩
        · left
          refine ⟨rp τ x, ⟨(c1.2.2.2 _).mp ⟨x, x0, x1, rfl⟩, fun w => x2 (c1.2.2.1 x k x0 x1 c6 k1 w)⟩, ?_⟩
          unfold cv at *; omega
      · exact Or.inl ⟨z, ⟨z1, e⟩, z2⟩
    · exact Or.inr w
  · rcases hg with g | ⟨q, q0, q1, q2, q3⟩
    · rw [e] at x3; exact x3 g
    · have := x2 (rp τ q) (c2 _ ((c1.2.2.2 _).mp ⟨q, q0, q1, rfl⟩)) (by rw [e]; exact q3.1) (by rw [e]; exact q3.2)
      exact q2 (c1.2.2.1 q k q0 q1 c6 k1 (this.trans e))
  · have e : rp τ' i = rp τ i := by rw [ho.2.2 i i0 (by omega), if_pos i1]
    rw [e]
    exact ⟨(c5 i i0 i1).1, fun z z1 z2 => (c5 i i0 i1).2 z z1.1 z2⟩
theorem T1_keep {τ : k_St} {RS : Int × Int → Prop} {MA : Int → Prop} {k : Int} (h : T1 τ RS MA k) (k1 : k < τ.2.1 68 48) (h1 : ¬ smn MA (rp τ k)) (h2 : ∀ x, 0 ≤ x → x < τ.2.1 68 48 → x ≠ k → ¬ cv (rp τ x) (rp τ k)) : T1 τ RS MA (k + 1) := by
  obtain ⟨C, c1, c2, c3, c4, c5, c6, c7⟩ := h
  refine ⟨C, c1, c2, c3, c4, fun i i0 i1 => ?_, by omega, by omega⟩
  by_cases e : i = k
  · rw [e]
    refine ⟨h1, fun z z1 z2 => ?_⟩
    obtain ⟨x, x0, x1, x2⟩ := (c1.2.2.2 z).mpr z1
    by_cases w : x = k
    · rw [← x2, w]
    · rw [← x2] at z2; exact absurd z2 (h2 x x0 x1 w)
  · exact c5 i i0 (by omega)
theorem T1_end {τ : k_St} {RS : Int × Int → Prop} {MA : Int → Prop} {k : Int} (hr : ∀ x, RS x → x.1 ≤ x.2) (h : T1 τ RS MA k) (k1 : τ.2.1 68 48 ≤ k) : RN0 τ (fun x => (RS x ∧ mxm RS x) ∧ ¬ smn MA x) := by
  obtain ⟨C, c1, c2, c3, c4, c5, c6, c7⟩ := h
  refine RN0_w c1 (fun x => ⟨fun w => ?_, fun w => c4 x w.1.1 w.1.2 w.2⟩)
  obtain ⟨i, i0, i1, i2⟩ := (c1.2.2.2 x).mpr w
  obtain ⟨d1, d2⟩ := c5 i i0 (by omega)
  rw [i2] at d1 d2
  refine ⟨⟨c2 x w, fun y hy y1 y2 => ?_⟩, d1⟩
  have a1 := hr x (c2 x w)
  rcases c3 y hy with ⟨z, z1, z2⟩ | v
  · have := d2 z z1 ⟨by have := z2.1; omega, by have := z2.2; omega⟩
    rw [this] at z2
    exact Prod.ext (by have := z2.1; omega) (by have := z2.2; omega)
  · have := v.1
    exact Prod.ext (by omega) (by omega)
theorem th_no {P : Prop} {Q : Int → Prop} {b k : Int} (h : b = 1 ↔ P ∨ ∃ m, m < k ∧ Q m) (hk : ¬ Q k) : b = 1 ↔ P ∨ ∃ m, m < k + 1 ∧ Q m := by
  rw [h]
  constructor
  · rintro (w | ⟨m, a, c⟩)
    · exact Or.inl w
    · exact Or.inr ⟨m, by omega, c⟩
  · rintro (w | ⟨m, a, c⟩)
    · exact Or.inl w
    · by_cases e : m = k
      · rw [e] at c; exact absurd c hk
      · exact Or.inr ⟨m, by omega, c⟩
set_option maxHeartbeats 4000000 in
theorem l_th49 {G : j_G} {X : k_X} {n : Nat} {σ : k_St} (hn : 101 ≤ n) {e d k : Int} {P : Prop} (h5 : 0 ≤ σ.2.1 68 48 ∧ σ.2.1 68 48 ≤ 50) (hRg : ∀ k, 0 ≤ k → k < σ.2.1 68 48 → 0 ≤ σ.1 98 k ∧ σ.1 98 k ≤ σ.1 99 k ∧ σ.1 99 k ≤ 299) (k0 : 0 ≤ k) (k1 : k < σ.2.1 68 48) {Q : k_P} (kk : ∀ b x, (b = 0 ∨ b = 1) → (b = 1 ↔ P ∨ ∃ m, m < σ.2.1 68 48 ∧ (0 ≤ m ∧ m ≠ k ∧ cv (rp σ m) (rp σ k))) → j_at G mX12_thinRuns 112 [(0, .ref 68), (1, j_i e), (2, j_i d), (3, j_i k), (4, j_i b), (5, j_i x)] [] (k_h X n σ) 0 0 (k_Q X Q))  : ∀ (z : Nat) (x b : Int), 51 - x < (z : Int) → 0 ≤ x → x ≤ σ.2.1 68 48 → (b = 0 ∨ b = 1) → (b = 1 ↔ P ∨ ∃ m, m < x ∧ (0 ≤ m ∧ m ≠ k ∧ cv (rp σ m) (rp σ k))) → j_at G mX12_thinRuns 49 [(0, .ref 68), (1, j_i e), (2, j_i d), (3, j_i k), (4, j_i b), (5, j_i x)] [] (k_h X n σ) 0 0 (k_Q X Q) := by
  intro z
  induction z with
  | zero => intro x b h1 h2 h3; exact absurd h1 (by omega)
  | succ z ih =>
    intro x b hz x0 xN hb01 hI
    refine a_iload (pc := 49) (i := 5) (by decide +kernel) rfl ?_
    refine a_aload_n (pc := 51) (i := 0) (by decide +kernel) rfl ?_
    refine b_getI (pc := 52) fl_X12_294 (by decide +kernel) (sh_68 hn) rfl ?_
    refine a_icmp_ge (pc := 55) (off := 57) (tgt := 112) (by decide +kernel) (by decide) (by omega) (by omega) (fun c55 => ?_) (fun c55 => ?_)
    · rw [show x = σ.2.1 68 48 by omega] at hI
      exact kk b _ hb01 hI
    · have q1 := hRg x x0 (by omega)
      have q2 := hRg k k0 (by omega)
      refine a_iload (pc := 58) (i := 4) (by decide +kernel) rfl ?_
      refine a_iload (pc := 60) (i := 5) (by decide +kernel) rfl ?_
      refine a_iload_n (pc := 62) (i := 3) (by decide +kernel) rfl ?_
      refine a_icmp_eq (pc := 63) (off := 39) (tgt := 102) (by decide +kernel) (by decide) (by omega) (by omega) (fun c63 => ?_) (fun c63 => ?_)
      · refine a_iconst (pc := 102) (n := 0) (by decide +kernel) ?_
        refine a_ior (pc := 103) (by decide +kernel) ?_
        rw [or_b0 hb01]
        refine a_istore (pc := 104) (i := 4) (lv' := [(0, .ref 68), (1, j_i e), (2, j_i d), (3, j_i k), (4, j_i b), (5, j_i x)]) (by decide +kernel) (Nat.le_of_ble_eq_true rfl) rfl ?_
        refine a_iinc (pc := 106) (i := 5) (n := 1) (x := x) (lv' := [(0, .ref 68), (1, j_i e), (2, j_i d), (3, j_i k), (4, j_i b), (5, j_i (x + 1))]) (by decide +kernel) rfl (Nat.le_of_ble_eq_true rfl) rfl ?_
        refine a_goto (pc := 109) (off := -60) (tgt := 49) (by decide +kernel) (by decide) ?_
        exact ih (x + 1) b (by omega) (by omega) (by omega) hb01 (th_no hI (fun w => by have w1 := w.2.1; have w2 : σ.1 98 x ≤ σ.1 98 k := w.2.2.1; have w3 : σ.1 99 k ≤ σ.1 99 x := w.2.2.2; omega))
      · refine a_aload_n (pc := 66) (i := 0) (by decide +kernel) rfl ?_
        refine b_getR (pc := 67) (b := 98) fl_X12_102 (by decide +kernel) (sh_68 hn) rfl ?_
        refine a_iload (pc := 70) (i := 5) (by decide +kernel) rfl ?_
        refine b_iaload (pc := 72) (by decide +kernel) (sh_98 hn) (by omega) (by omega) (by omega) ?_
        refine a_aload_n (pc := 73) (i := 0) (by decide +kernel) rfl ?_
        refine b_getR (pc := 74) (b := 98) fl_X12_102 (by decide +kernel) (sh_68 hn) rfl ?_
        refine a_iload_n (pc := 77) (i := 3) (by decide +kernel) rfl ?_
        refine b_iaload (pc := 78) (by decide +kernel) (sh_98 hn) (by omega) (by omega) (by omega) ?_
        refine a_icmp_gt (pc := 79) (off := 23) (tgt := 102) (by decide +kernel) (by decide) (by omega) (by omega) (fun c79 => ?_) (fun c79 => ?_)
        · refine a_iconst (pc := 102) (n := 0) (by decide +kernel) ?_
          refine a_ior (pc := 103) (by decide +kernel) ?_
          rw [or_b0 hb01]
          refine a_istore (pc := 104) (i := 4) (lv' := [(0, .ref 68), (1, j_i e), (2, j_i d), (3, j_i k), (4, j_i b), (5, j_i x)]) (by decide +kernel) (Nat.le_of_ble_eq_true rfl) rfl ?_
          refine a_iinc (pc := 106) (i := 5) (n := 1) (x := x) (lv' := [(0, .ref 68), (1, j_i e), (2, j_i d), (3, j_i k), (4, j_i b), (5, j_i (x + 1))]) (by decide +kernel) rfl (Nat.le_of_ble_eq_true rfl) rfl ?_
          refine a_goto (pc := 109) (off := -60) (tgt := 49) (by decide +kernel) (by decide) ?_
          exact ih (x + 1) b (by omega) (by omega) (by omega) hb01 (th_no hI (fun w => by have w1 := w.2.1; have w2 : σ.1 98 x ≤ σ.1 98 k := w.2.2.1; have w3 : σ.1 99 k ≤ σ.1 99 x := w.2.2.2; omega))
        · refine a_aload_n (pc := 82) (i := 0) (by decide +kernel) rfl ?_
          refine b_getR (pc := 83) (b := 99) fl_X12_105 (by decide +kernel) (sh_68 hn) rfl ?_
          refine a_iload (pc := 86) (i := 5) (by decide +kernel) rfl ?_
          refine b_iaload (pc := 88) (by decide +kernel) (sh_99 hn) (by omega) (by omega) (by omega) ?_
          refine a_aload_n (pc := 89) (i := 0) (by decide +kernel) rfl ?_
          refine b_getR (pc := 90) (b := 99) fl_X12_105 (by decide +kernel) (sh_68 hn) rfl ?_
          refine a_iload_n (pc := 93) (i := 3) (by decide +kernel) rfl ?_
          refine b_iaload (pc := 94) (by decide +kernel) (sh_99 hn) (by omega) (by omega) (by omega) ?_
          refine a_icmp_lt (pc := 95) (off := 7) (tgt := 102) (by decide +kernel) (by decide) (by omega) (by omega) (fun c95 => ?_) (fun c95 => ?_)
          · refine a_iconst (pc := 102) (n := 0) (by decide +kernel) ?_
            refine a_ior (pc := 103) (by decide +kernel) ?_
            rw [or_b0 hb01]
            refine a_istore (pc := 104) (i := 4) (lv' := [(0, .ref 68), (1, j_i e), (2, j_i d), (3, j_i k), (4, j_i b), (5, j_i x)]) (by decide +kernel) (Nat.le_of_ble_eq_true rfl) rfl ?_
            refine a_iinc (pc := 106) (i := 5) (n := 1) (x := x) (lv' := [(0, .ref 68), (1, j_i e), (2, j_i d), (3, j_i k), (4, j_i b), (5, j_i (x + 1))]) (by decide +kernel) rfl (Nat.le_of_ble_eq_true rfl) rfl ?_
            refine a_goto (pc := 109) (off := -60) (tgt := 49) (by decide +kernel) (by decide) ?_
            exact ih (x + 1) b (by omega) (by omega) (by omega) hb01 (th_no hI (fun w => by have w1 := w.2.1; have w2 : σ.1 98 x ≤ σ.1 98 k := w.2.2.1; have w3 : σ.1 99 k ≤ σ.1 99 x := w.2.2.2; omega))
          · refine a_iconst (pc := 98) (n := 1) (by decide +kernel) ?_
            refine a_goto (pc := 99) (off := 4) (tgt := 103) (by decide +kernel) (by decide) ?_
            refine a_ior (pc := 103) (by decide +kernel) ?_
            rw [or_b1 hb01]
            refine a_istore (pc := 104) (i := 4) (lv' := [(0, .ref 68), (1, j_i e), (2, j_i d), (3, j_i k), (4, j_i 1), (5, j_i x)]) (by decide +kernel) (Nat.le_of_ble_eq_true rfl) rfl ?_
            refine a_iinc (pc := 106) (i := 5) (n := 1) (x := x) (lv' := [(0, .ref 68), (1, j_i e), (2, j_i d), (3, j_i k), (4, j_i 1), (5, j_i (x + 1))]) (by decide +kernel) rfl (Nat.le_of_ble_eq_true rfl) rfl ?_
            refine a_goto (pc := 109) (off := -60) (tgt := 49) (by decide +kernel) (by decide) ?_
            exact ih (x + 1) 1 (by omega) (by omega) (by omega) (Or.inr rfl) ⟨fun _ => Or.inr ⟨x, by omega, x0, c63, by unfold cv rp; exact ⟨by show σ.1 98 x ≤ σ.1 98 k; omega, by show σ.1 99 k ≤ σ.1 99 x; omega⟩⟩, fun _ => rfl⟩
