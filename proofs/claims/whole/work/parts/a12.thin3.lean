/-- the runs that stay -/
def TW (σ : k_St) (p : Int) (RS : Int × Int → Prop) (x : Int × Int) : Prop := (RS x ∧ mxm RS x) ∧ ¬ smn (MAm σ p) x
theorem TW_d {σ : k_St} {p : Int} {RS : Int × Int → Prop} {x y : Int × Int} (hx : TW σ p RS x) (hy : TW σ p RS y) (h : x.1 = y.1) : x = y := by
  rcases Int.le_total x.2 y.2 with c | c
  · exact (hx.1.2 y hy.1.1 (by omega) c).symm
  · exact hy.1.2 x hx.1.1 (by omega) c
theorem RN0_sw {τ τ' : k_St} {W : Int × Int → Prop} {i : Int} (h : RN0 τ W) (e : ∀ j, rp τ' j = sw (rp τ) i j) (en : τ'.2.1 68 48 = τ.2.1 68 48) (i0 : 0 < i) (i1 : i < τ.2.1 68 48) : RN0 τ' W := by
  obtain ⟨h1, h2, h3, h4⟩ := h
  refine ⟨by rw [en]; exact h1, fun k k0 k1 => ?_, fun p q p0 p1 q0 q1 w => ?_, fun x => ?_⟩
  · rw [en] at k1
    have z := e k
    have key : ∃ q, 0 ≤ q ∧ q < τ.2.1 68 48 ∧ rp τ' k = rp τ q := by
      by_cases c : k = i
      · rw [c] at z ⊢; rw [sw_i] at z; exact ⟨i - 1, by omega, by omega, z⟩
      · by_cases c2 : k = i - 1
        · rw [c2] at z ⊢; rw [sw_p] at z; exact ⟨i, by omega, by omega, z⟩
        · rw [sw_n c c2] at z; exact ⟨k, k0, k1, z⟩
    obtain ⟨q, q0, q1, q2⟩ := key
    have e1 : τ'.1 98 k = τ.1 98 q := congrArg Prod.fst q2
    have e2 : τ'.1 99 k = τ.1 99 q := congrArg Prod.snd q2
    rw [e1, e2]; exact h2 q q0 q1
  · rw [en] at p1 q1
    rw [e, e] at w
    have f : ∀ k, 0 ≤ k → k < τ.2.1 68 48 → ∃ a, 0 ≤ a ∧ a < τ.2.1 68 48 ∧ sw (rp τ) i k = rp τ a ∧ a = (if k = i then i - 1 else if k = i - 1 then i else k) := fun k k0 k1 => by
      by_cases c : k = i
      · exact ⟨i - 1, by omega, by omega, by rw [c, sw_i], by rw [if_pos c]⟩
      · by_cases c2 : k = i - 1
        · exact ⟨i, by omega, by omega, by rw [c2, sw_p], by rw [if_neg c, if_pos c2]⟩
        · exact ⟨k, k0, k1, sw_n c c2, by rw [if_neg c, if_neg c2]⟩
    obtain ⟨a, a0, a1, a2, a3⟩ := f p p0 p1
    obtain ⟨b, b0, b1, b2, b3⟩ := f q q0 q1
    rw [a2, b2] at w
    have := h3 a b a0 a1 b0 b1 w
    by_cases c : p = i
    · rw [if_pos c] at a3
      by_cases d : q = i
      · omega
      · rw [if_neg d] at b3
        by_cases d2 : q = i - 1
        · rw [if_pos d2] at b3; omega
        · rw [if_neg d2] at b3; omega
    · rw [if_neg c] at a3
      by_cases c2 : p = i - 1
      · rw [if_pos c2] at a3
        by_cases d : q = i
        · rw [if_pos d] at b3; omega
        · rw [if_neg d] at b3
          by_cases d2 : q = i - 1
          · omega
          · rw [if_neg d2] at b3; omega
      · rw [if_neg c2] at a3
        by_cases d : q = i
        · rw [if_pos d] at b3; omega
        · rw [if_neg d] at b3
          by_cases d2 : q = i - 1
          · rw [if_pos d2] at b3; omega
          · rw [if_neg d2] at b3; omega
  · rw [en, im_cg (g := rp τ') (f := sw (rp τ) i) (fun j _ _ => e j), sw_im i0 i1, h4]
theorem rp_sw {τ s1 s2 s3 s4 : k_St} {i a b : Int} (ha : a = τ.1 98 i) (hb : b = τ.1 99 i) (e1 : s1 = k_sA τ 98 (j_up (τ.1 98) i (τ.1 98 (i - 1)))) (e2 : s2 = k_sA s1 99 (j_up (s1.1 99) i (τ.1 99 (i - 1)))) (e3 : s3 = k_sA s2 98 (j_up (s2.1 98) (i - 1) a)) (e4 : s4 = k_sA s3 99 (j_up (s3.1 99) (i - 1) b)) : (∀ j, rp s4 j = sw (rp τ) i j) ∧ rfr τ s4 ∧ s4.2.1 68 48 = τ.2.1 68 48 := by
  have f8 : s4.1 98 = j_up (j_up (τ.1 98) i (τ.1 98 (i - 1))) (i - 1) a := by rw [e4, k_AN (by omega), e3, k_AA, e2, k_AN (by omega), e1, k_AA]
  have f9 : s4.1 99 = j_up (j_up (τ.1 99) i (τ.1 99 (i - 1))) (i - 1) b := by rw [e4, k_AA, e3, k_AN (by omega), e2, k_AA, e1, k_AN (by omega)]
  refine ⟨fun j => ?_, ⟨fun c q r => by rw [e4, k_AN r, e3, k_AN q, e2, k_AN r, e1, k_AN q], fun c j _ => by rw [e4, e3, e2, e1]; rfl, by rw [e4, e3, e2, e1]; rfl⟩, by rw [e4, e3, e2, e1]; rfl⟩
  unfold rp
  rw [f8, f9]
  by_cases c : j = i
  · rw [c, sw_i, j_upN (by omega), j_upS, j_upN (by omega), j_upS]
  · by_cases c2 : j = i - 1
    · rw [c2, sw_p, j_upS, j_upS, ha, hb]
    · rw [sw_n c c2, j_upN c2, j_upN c, j_upN c2, j_upN c]
set_option maxHeartbeats 4000000 in
theorem l_th147 {G : j_G} {X : k_X} {n : Nat} {σ : k_St} (hn : 101 ≤ n) {pe : Int → Int} (hB : MB σ pe) {e d : Int} (e0 : 0 ≤ e ∧ e < σ.2.1 68 25) (d0 : 0 ≤ d ∧ d ≤ 20) {RS : Int × Int → Prop} {k i : Int} (i0 : 1 ≤ i) {Q : k_P} (kk : ∀ a τ, rfr σ τ → RN0 τ (TW σ (pe e) RS) → so (fun x y : Int × Int => x.1 < y.1) (rp τ) (i + 1) → j_at G mX12_thinRuns 249 [(0, .ref 68), (1, j_i e), (2, j_i d), (3, j_i k), (4, j_i i), (5, j_i a)] [] (k_h X n τ) 0 0 (k_Q X Q))  : ∀ (z : Nat) (a : Int) (τ : k_St), a < (z : Int) → 0 ≤ a → a ≤ i → rfr σ τ → RN0 τ (TW σ (pe e) RS) → i < τ.2.1 68 48 → sS (fun x y : Int × Int => x.1 < y.1) (rp τ) i a → j_at G mX12_thinRuns 147 [(0, .ref 68), (1, j_i e), (2, j_i d), (3, j_i k), (4, j_i i), (5, j_i a)] [] (k_h X n τ) 0 0 (k_Q X Q) := by
  intro z
  induction z with
  | zero => intro a τ h1 h2; exact absurd h1 (by omega)
  | succ z ih =>
    intro a τ hz h0 hNN hf hN i1 hI
    have h50 := hN.1
    refine a_iload (pc := 147) (i := 5) (by decide +kernel) rfl ?_
    refine a_if_le (pc := 149) (off := 100) (tgt := 249) (by decide +kernel) (by decide) (by omega) (fun c149 => ?_) (fun c149 => ?_)
    · refine kk a τ hf hN (sS_e (fun x y z (h1 : x.1 < y.1) (h2 : y.1 < z.1) => Int.lt_trans h1 h2) hI (by omega) ?_)
      by_cases c : a = 0
      · exact Or.inl c
      · refine Or.inr ?_
        have w1 := (hN.2.2.2 _).mp ⟨a - 1, by omega, by omega, rfl⟩
        have w2 := (hN.2.2.2 _).mp ⟨a, by omega, by omega, rfl⟩
        have w3 : (rp τ (a - 1)).1 ≠ (rp τ a).1 := fun w => by
          have := hN.2.2.1 (a - 1) a (by omega) (by omega) (by omega) (by omega) (TW_d w1 w2 w)
          omega
        have w4 : τ.1 98 (a - 1) ≤ τ.1 98 a := by omega
        have w5 : (rp τ (a - 1)).1 ≤ (rp τ a).1 := w4
        show (rp τ (a - 1)).1 < (rp τ a).1
        omega
    · have y1 := hN.2.1 a (by omega) (by omega)
      have y2 := hN.2.1 (a - 1) (by omega) (by omega)
      refine a_aload_n (pc := 152) (i := 0) (by decide +kernel) rfl ?_
      refine b_getR (pc := 153) (b := 98) fl_X12_102 (by decide +kernel) (sh_68 hn) rfl ?_
      refine a_iload (pc := 156) (i := 5) (by decide +kernel) rfl ?_
      refine a_iconst (pc := 158) (n := 1) (by decide +kernel) ?_
      refine a_isub (pc := 159) (by decide +kernel) ?_
      refine b_iaload (pc := 160) (by decide +kernel) (sh_98 hn) (by omega) (by omega) (by omega) ?_
      refine a_aload_n (pc := 161) (i := 0) (by decide +kernel) rfl ?_
      refine b_getR (pc := 162) (b := 98) fl_X12_102 (by decide +kernel) (sh_68 hn) rfl ?_
      refine a_iload (pc := 165) (i := 5) (by decide +kernel) rfl ?_
      refine b_iaload (pc := 167) (by decide +kernel) (sh_98 hn) (by omega) (by omega) (by omega) ?_
      refine a_icmp_le (pc := 168) (off := 81) (tgt := 249) (by decide +kernel) (by decide) (by omega) (by omega) (fun c168 => ?_) (fun c168 => ?_)
      · refine kk a τ hf hN (sS_e (fun x y z (h1 : x.1 < y.1) (h2 : y.1 < z.1) => Int.lt_trans h1 h2) hI (by omega) ?_)
        by_cases c : a = 0
        · exact Or.inl c
        · refine Or.inr ?_
          have w1 := (hN.2.2.2 _).mp ⟨a - 1, by omega, by omega, rfl⟩
          have w2 := (hN.2.2.2 _).mp ⟨a, by omega, by omega, rfl⟩
          have w3 : (rp τ (a - 1)).1 ≠ (rp τ a).1 := fun w => by
            have := hN.2.2.1 (a - 1) a (by omega) (by omega) (by omega) (by omega) (TW_d w1 w2 w)
            omega
          have w4 : τ.1 98 (a - 1) ≤ τ.1 98 a := by omega
          have w5 : (rp τ (a - 1)).1 ≤ (rp τ a).1 := w4
          show (rp τ (a - 1)).1 < (rp τ a).1
          omega
      · refine a_aload_n (pc := 171) (i := 0) (by decide +kernel) rfl ?_
        refine b_getR (pc := 172) (b := 98) fl_X12_102 (by decide +kernel) (sh_68 hn) rfl ?_
        refine a_iload (pc := 175) (i := 5) (by decide +kernel) rfl ?_
        refine b_iaload (pc := 177) (by decide +kernel) (sh_98 hn) (by omega) (by omega) (by omega) ?_
        refine a_istore (pc := 178) (i := 6) (lv' := [(0, .ref 68), (1, j_i e), (2, j_i d), (3, j_i k), (4, j_i i), (5, j_i a), (6, j_i (τ.1 98 a))]) (by decide +kernel) (Nat.le_of_ble_eq_true rfl) rfl ?_
        refine a_aload_n (pc := 180) (i := 0) (by decide +kernel) rfl ?_
        refine b_getR (pc := 181) (b := 99) fl_X12_105 (by decide +kernel) (sh_68 hn) rfl ?_
        refine a_iload (pc := 184) (i := 5) (by decide +kernel) rfl ?_
        refine b_iaload (pc := 186) (by decide +kernel) (sh_99 hn) (by omega) (by omega) (by omega) ?_
        refine a_istore (pc := 187) (i := 7) (lv' := [(0, .ref 68), (1, j_i e), (2, j_i d), (3, j_i k), (4, j_i i), (5, j_i a), (6, j_i (τ.1 98 a)), (7, j_i (τ.1 99 a))]) (by decide +kernel) (Nat.le_of_ble_eq_true rfl) rfl ?_
        refine a_aload_n (pc := 189) (i := 0) (by decide +kernel) rfl ?_
        refine b_getR (pc := 190) (b := 98) fl_X12_102 (by decide +kernel) (sh_68 hn) rfl ?_
        refine a_iload (pc := 193) (i := 5) (by decide +kernel) rfl ?_
        refine a_aload_n (pc := 195) (i := 0) (by decide +kernel) rfl ?_
        refine b_getR (pc := 196) (b := 98) fl_X12_102 (by decide +kernel) (sh_68 hn) rfl ?_
        refine a_iload (pc := 199) (i := 5) (by decide +kernel) rfl ?_
        refine a_iconst (pc := 201) (n := 1) (by decide +kernel) ?_
        refine a_isub (pc := 202) (by decide +kernel) ?_
        refine b_iaload (pc := 203) (by decide +kernel) (sh_98 hn) (by omega) (by omega) (by omega) ?_
        refine b_iastore (pc := 204) (by decide +kernel) (sh_98 hn) (by omega) (by omega) (by omega) ?_
        obtain ⟨σ1, hσ1⟩ : ∃ z, z = k_sA τ 98 (j_up (τ.1 98) a (τ.1 98 (a - 1))) := ⟨_, rfl⟩
        rw [← hσ1]
        refine a_aload_n (pc := 205) (i := 0) (by decide +kernel) rfl ?_
        refine b_getR (pc := 206) (b := 99) fl_X12_105 (by decide +kernel) (sh_68 hn) rfl ?_
        refine a_iload (pc := 209) (i := 5) (by decide +kernel) rfl ?_
        refine a_aload_n (pc := 211) (i := 0) (by decide +kernel) rfl ?_
        refine b_getR (pc := 212) (b := 99) fl_X12_105 (by decide +kernel) (sh_68 hn) rfl ?_
        refine a_iload (pc := 215) (i := 5) (by decide +kernel) rfl ?_
        refine a_iconst (pc := 217) (n := 1) (by decide +kernel) ?_
        refine a_isub (pc := 218) (by decide +kernel) ?_
        refine b_iaload (pc := 219) (by decide +kernel) (sh_99 hn) (by omega) (by omega) (by omega) ?_
        rw [show σ1.1 99 = τ.1 99 by rw [hσ1]; exact k_AN (by omega)]
        refine b_iastore (pc := 220) (by decide +kernel) (sh_99 hn) (by omega) (by omega) (by omega) ?_
        obtain ⟨σ2, hσ2⟩ : ∃ z, z = k_sA σ1 99 (j_up (σ1.1 99) a (τ.1 99 (a - 1))) := ⟨_, rfl⟩
        rw [← hσ2]
        refine a_aload_n (pc := 221) (i := 0) (by decide +kernel) rfl ?_
        refine b_getR (pc := 222) (b := 98) fl_X12_102 (by decide +kernel) (sh_68 hn) rfl ?_
        refine a_iload (pc := 225) (i := 5) (by decide +kernel) rfl ?_
        refine a_iconst (pc := 227) (n := 1) (by decide +kernel) ?_
        refine a_isub (pc := 228) (by decide +kernel) ?_
        refine a_iload (pc := 229) (i := 6) (by decide +kernel) rfl ?_
        refine b_iastore (pc := 231) (by decide +kernel) (sh_98 hn) (by omega) (by omega) (by omega) ?_
        obtain ⟨σ3, hσ3⟩ : ∃ z, z = k_sA σ2 98 (j_up (σ2.1 98) (a - 1) (τ.1 98 a)) := ⟨_, rfl⟩
        rw [← hσ3]
        refine a_aload_n (pc := 232) (i := 0) (by decide +kernel) rfl ?_
        refine b_getR (pc := 233) (b := 99) fl_X12_105 (by decide +kernel) (sh_68 hn) rfl ?_
        refine a_iload (pc := 236) (i := 5) (by decide +kernel) rfl ?_
        refine a_iconst (pc := 238) (n := 1) (by decide +kernel) ?_
        refine a_isub (pc := 239) (by decide +kernel) ?_
        refine a_iload (pc := 240) (i := 7) (by decide +kernel) rfl ?_
        refine b_iastore (pc := 242) (by decide +kernel) (sh_99 hn) (by omega) (by omega) (by omega) ?_
        obtain ⟨σ4, hσ4⟩ : ∃ z, z = k_sA σ3 99 (j_up (σ3.1 99) (a - 1) (τ.1 99 a)) := ⟨_, rfl⟩
        rw [← hσ4]
        refine a_iinc (pc := 243) (i := 5) (n := -1) (x := a) (lv' := [(0, .ref 68), (1, j_i e), (2, j_i d), (3, j_i k), (4, j_i i), (5, j_i (a + (-1))), (6, j_i (τ.1 98 a)), (7, j_i (τ.1 99 a))]) (by decide +kernel) rfl (Nat.le_of_ble_eq_true rfl) rfl ?_
        refine a_goto (pc := 246) (off := -99) (tgt := 147) (by decide +kernel) (by decide) ?_
        have y := rp_sw rfl rfl hσ1 hσ2 hσ3 hσ4
        exact a_sub (lv' := [(0, .ref 68), (1, j_i e), (2, j_i d), (3, j_i k), (4, j_i i), (5, j_i (a + -1))]) (fun q hq => by simp only [List.mem_cons, List.not_mem_nil, or_false] at hq ⊢; rcases hq with rfl | rfl | rfl | rfl | rfl | rfl <;> simp) (ih (a + -1) σ4 (by omega) (by omega) (by omega) (rfr_t hf y.2.1) (RN0_sw hN y.1 y.2.2 (by omega) (by omega)) (by rw [y.2.2]; exact i1) (by rw [show a + -1 = a - 1 by omega, show rp σ4 = sw (rp τ) a from funext y.1]; exact sS_s hI (by omega) (by omega) (by show (rp τ a).1 < (rp τ (a - 1)).1; show τ.1 98 a < τ.1 98 (a - 1); omega)))
set_option maxHeartbeats 4000000 in
theorem l_th134 {G : j_G} {X : k_X} {n : Nat} {σ : k_St} (hn : 101 ≤ n) {pe : Int → Int} (hB : MB σ pe) {e d : Int} (e0 : 0 ≤ e ∧ e < σ.2.1 68 25) (d0 : 0 ≤ d ∧ d ≤ 20) {RS : Int × Int → Prop} {k : Int}  : ∀ (z : Nat) (i : Int) (τ : k_St), 52 - i < (z : Int) → 1 ≤ i → i ≤ 51 → rfr σ τ → RN0 τ (TW σ (pe e) RS) → so (fun x y : Int × Int => x.1 < y.1) (rp τ) i → j_at G mX12_thinRuns 134 [(0, .ref 68), (1, j_i e), (2, j_i d), (3, j_i k), (4, j_i i)] [] (k_h X n τ) 0 0 (k_Q X (th_post n σ RS (MAm σ (pe e)) d)) := by
  intro z
  induction z with
  | zero => intro i τ h1 h2 h3; exact absurd h1 (by omega)
  | succ z ih =>
    intro i τ hz h0 hNN hf hN hI
    have h50 := hN.1
    refine a_iload (pc := 134) (i := 4) (by decide +kernel) rfl ?_
    refine a_aload_n (pc := 136) (i := 0) (by decide +kernel) rfl ?_
    refine b_getI (pc := 137) fl_X12_294 (by decide +kernel) (sh_68 hn) rfl ?_
    refine a_icmp_ge (pc := 140) (off := 115) (tgt := 255) (by decide +kernel) (by decide) (by omega) (by omega) (fun c140 => ?_) (fun c140 => ?_)
    · refine a_iconst (pc := 255) (n := 0) (by decide +kernel) ?_
      refine a_istore_n (pc := 256) (i := 3) (lv' := [(0, .ref 68), (1, j_i e), (2, j_i d), (3, j_i 0), (4, j_i i)]) (by decide +kernel) (Nat.le_of_ble_eq_true rfl) rfl ?_
      obtain ⟨W, w1, w2, w3, w4⟩ := gs_list (lt := (fun x y : Int × Int => x.1 < y.1)) hN.1.1 (fun a b a0 a1 b1 => hI a b a0 a1 (by omega))
      have hW2 : ∀ x, x ∈ W ↔ (RS x ∧ mxm RS x) ∧ ¬ smn (MAm σ (pe e)) x := fun x => by rw [w4, hN.2.2.2]; rfl
      cases W with
      | nil =>
        simp at w2
        refine a_sub (lv' := [(0, .ref 68), (1, j_i e), (2, j_i d), (3, j_i 0)]) (fun q hq => by simp only [List.mem_cons, List.not_mem_nil, or_false] at hq ⊢; rcases hq with rfl | rfl | rfl | rfl <;> simp) ?_
        refine a_iload_n (pc := 257) (i := 2) (by decide +kernel) rfl ?_
        refine a_if_le (pc := 258) (off := 88) (tgt := 346) (by decide +kernel) (by decide) (by omega) (fun c258 => ?_) (fun c258 => ?_)
        · refine a_return (pc := 346) (by decide +kernel) rfl ?_
          refine k_ret ?_
          exact ⟨rfl, rfl, hf, ⟨hN.1, hN.2.1⟩, [], List.Pairwise.nil, hW2, trivial, by rw [← w2]; rfl⟩
        · refine a_iload_n (pc := 261) (i := 3) (by decide +kernel) rfl ?_
          refine a_iconst (pc := 262) (n := 1) (by decide +kernel) ?_
          refine a_iadd (pc := 263) (by decide +kernel) ?_
          refine a_aload_n (pc := 264) (i := 0) (by decide +kernel) rfl ?_
          refine b_getI (pc := 265) fl_X12_294 (by decide +kernel) (sh_68 hn) rfl ?_
          refine a_icmp_ge (pc := 268) (off := 78) (tgt := 346) (by decide +kernel) (by decide) (by omega) (by omega) (fun c268 => ?_) (fun c268 => ?_)
          · refine a_return (pc := 346) (by decide +kernel) rfl ?_
            refine k_ret ?_
            exact ⟨rfl, rfl, hf, ⟨hN.1, hN.2.1⟩, [], List.Pairwise.nil, hW2, trivial, by rw [← w2]; rfl⟩
          · exact absurd c268 (by omega)
      | cons r t =>
        exact a_sub (lv' := [(0, .ref 68), (1, j_i e), (2, j_i d), (3, j_i 0)]) (fun q hq => by simp only [List.mem_cons, List.not_mem_nil, or_false] at hq ⊢; rcases hq with rfl | rfl | rfl | rfl <;> simp) (l_th257 hn d0 w3 hW2 (t.length + 1) 0 [] t r τ (by omega) ⟨hf, ⟨hN.1, hN.2.1⟩, trivial, w1.1, w1.2, rfl, by rw [← w2]; simp; omega, rfl⟩)
    · refine a_iload (pc := 143) (i := 4) (by decide +kernel) rfl ?_
      refine a_istore (pc := 145) (i := 5) (lv' := [(0, .ref 68), (1, j_i e), (2, j_i d), (3, j_i k), (4, j_i i), (5, j_i i)]) (by decide +kernel) (Nat.le_of_ble_eq_true rfl) rfl ?_
      refine l_th147 hn hB e0 d0 h0 (fun a' τ' hf' hN' hso' => ?_) (i.toNat + 1) i τ (by omega) (by omega) (by omega) hf hN (by omega) (sS_0 hI)
      refine a_iinc (pc := 249) (i := 4) (n := 1) (x := i) (lv' := [(0, .ref 68), (1, j_i e), (2, j_i d), (3, j_i k), (4, j_i (i + 1)), (5, j_i a')]) (by decide +kernel) rfl (Nat.le_of_ble_eq_true rfl) rfl ?_
      refine a_goto (pc := 252) (off := -118) (tgt := 134) (by decide +kernel) (by decide) ?_
      exact a_sub (lv' := [(0, .ref 68), (1, j_i e), (2, j_i d), (3, j_i k), (4, j_i (i + 1))]) (fun q hq => by simp only [List.mem_cons, List.not_mem_nil, or_false] at hq ⊢; rcases hq with rfl | rfl | rfl | rfl | rfl <;> simp) (ih (i + 1) τ' (by omega) (by omega) (by omega) hf' hN' hso')
set_option maxHeartbeats 4000000 in
theorem l_th2 {G : j_G} {X : k_X} {n : Nat} {σ : k_St} (hn : 101 ≤ n) {pe : Int → Int} (hB : MB σ pe) {e d : Int} (e0 : 0 ≤ e ∧ e < σ.2.1 68 25) (d0 : 0 ≤ d ∧ d ≤ 20) {RS : Int × Int → Prop} (hr : ∀ x, RS x → x.1 ≤ x.2)  : ∀ (z : Nat) (k : Int) (τ : k_St), τ.2.1 68 48 - k < (z : Int) → 0 ≤ k → rfr σ τ → T1 τ RS (MAm σ (pe e)) k → j_at G mX12_thinRuns 2 [(0, .ref 68), (1, j_i e), (2, j_i d), (3, j_i k)] [] (k_h X n τ) 0 0 (k_Q X (th_post n σ RS (MAm σ (pe e)) d)) := by
  obtain ⟨hK, hP, hfl, hE, hok⟩ := id hB
  have hM := (KR_rg hK.1 hK.2.1).1.2.2
  have hE1 := hE.1
  intro z
  induction z with
  | zero =>
    intro k τ h1 h2 hf hT
    obtain ⟨CC, hC1, _, _, _, _, _, hC2⟩ := id hT
    exact absurd h1 (by omega)
  | succ z ih =>
    intro k τ hz k0 hf hT
    have k1 : k ≤ τ.2.1 68 48 := by obtain ⟨_, _, _, _, _, _, _, w⟩ := id hT; exact w
    obtain ⟨CC, hC1, hC2⟩ := id hT
    have h50 := hC1.1
    refine a_iload_n (pc := 2) (i := 3) (by decide +kernel) rfl ?_
    refine a_aload_n (pc := 3) (i := 0) (by decide +kernel) rfl ?_
    refine b_getI (pc := 4) fl_X12_294 (by decide +kernel) (sh_68 hn) rfl ?_
    refine a_icmp_ge (pc := 7) (off := 124) (tgt := 131) (by decide +kernel) (by decide) (by omega) (by omega) (fun c7 => ?_) (fun c7 => ?_)
    · refine a_iconst (pc := 131) (n := 1) (by decide +kernel) ?_
      refine a_istore (pc := 132) (i := 4) (lv' := [(0, .ref 68), (1, j_i e), (2, j_i d), (3, j_i k), (4, j_i 1)]) (by decide +kernel) (Nat.le_of_ble_eq_true rfl) rfl ?_
      have z9 := T1_end hr hT (by omega)
      exact l_th134 hn hB e0 d0 53 1 τ (by omega) (by omega) (by omega) hf z9 so_1
    · have y1 := hC1.2.1 k (by omega) (by omega)
      refine a_aload_n (pc := 10) (i := 0) (by decide +kernel) rfl ?_
      refine b_getR (pc := 11) (b := 98) fl_X12_102 (by decide +kernel) (sh_68 hn) rfl ?_
      refine a_iload_n (pc := 14) (i := 3) (by decide +kernel) rfl ?_
      refine b_iaload (pc := 15) (by decide +kernel) (sh_98 hn) (by omega) (by omega) (by omega) ?_
      refine a_aload_n (pc := 16) (i := 0) (by decide +kernel) rfl ?_
      refine b_getR (pc := 17) (b := 99) fl_X12_105 (by decide +kernel) (sh_68 hn) rfl ?_
      refine a_iload_n (pc := 20) (i := 3) (by decide +kernel) rfl ?_
      refine b_iaload (pc := 21) (by decide +kernel) (sh_99 hn) (by omega) (by omega) (by omega) ?_
      refine a_icmp_ne (pc := 22) (off := 21) (tgt := 43) (by decide +kernel) (by decide) (by omega) (by omega) (fun c22 => ?_) (fun c22 => ?_)
      · refine a_iconst (pc := 43) (n := 0) (by decide +kernel) ?_
        refine a_istore (pc := 44) (i := 4) (lv' := [(0, .ref 68), (1, j_i e), (2, j_i d), (3, j_i k), (4, j_i 0)]) (by decide +kernel) (Nat.le_of_ble_eq_true rfl) rfl ?_
        refine a_iconst (pc := 46) (n := 0) (by decide +kernel) ?_
        refine a_istore (pc := 47) (i := 5) (lv' := [(0, .ref 68), (1, j_i e), (2, j_i d), (3, j_i k), (4, j_i 0), (5, j_i 0)]) (by decide +kernel) (Nat.le_of_ble_eq_true rfl) rfl ?_
        refine l_th49 (P := smn (MAm σ (pe e)) (rp τ k)) hn h50 hC1.2.1 (by omega) (by omega) (fun b' x' hb1 hb2 => ?_) 53 0 0 (by omega) (by omega) (by omega) (by omega) ⟨fun w => absurd w (by omega), fun w => by rcases w with w | ⟨x, x1, x0, _⟩; exact absurd w (fun v => by first | exact c22 v.1 | exact p33 (ip33.mp v.2)); omega⟩
        refine a_iload (pc := 112) (i := 4) (by decide +kernel) rfl ?_
        refine a_if_eq (pc := 114) (off := 11) (tgt := 125) (by decide +kernel) (by decide) (by omega) (fun c114 => ?_) (fun c114 => ?_)
        · refine a_iinc (pc := 125) (i := 3) (n := 1) (x := k) (lv' := [(0, .ref 68), (1, j_i e), (2, j_i d), (3, j_i (k + 1)), (4, j_i b'), (5, j_i x')]) (by decide +kernel) rfl (Nat.le_of_ble_eq_true rfl) rfl ?_
          refine a_goto (pc := 128) (off := -126) (tgt := 2) (by decide +kernel) (by decide) ?_
          exact a_sub (lv' := [(0, .ref 68), (1, j_i e), (2, j_i d), (3, j_i (k + 1))]) (fun q hq => by simp only [List.mem_cons, List.not_mem_nil, or_false] at hq ⊢; rcases hq with rfl | rfl | rfl | rfl <;> simp) (ih (k + 1) τ (by omega) (by omega) hf (T1_keep hT (by omega) (fun w => absurd (hb2.mpr (Or.inl w)) (by omega)) (fun x x0 x1 x2 w => absurd (hb2.mpr (Or.inr ⟨x, x1, x0, x2, w⟩)) (by omega))))
        · refine a_aload_n (pc := 117) (i := 0) (by decide +kernel) rfl ?_
          refine a_iload_n (pc := 118) (i := 3) (by decide +kernel) rfl ?_
          refine b_callV (pc := 119) (c' := 0) (sl' := 0) [j_i k] [] ml_X12_320 (by decide +kernel) rfl rfl (sh_68 hn) rfl rfl (Nat.le_of_ble_eq_true rfl) (j_fitI rfl rfl) (e_outRun hn (by omega) (by omega)) (fun v n' σ' hq => ?_)
          obtain ⟨rfl, rfl, g1⟩ := hq
          obtain ⟨σ11, hσ11⟩ : ∃ z, z = σ' := ⟨_, rfl⟩
          rw [← hσ11] at g1 ⊢
          clear hσ11
          show j_at _ _ _ [(0, .ref 68), (1, j_i e), (2, j_i d), (3, j_i k), (4, j_i b'), (5, j_i x')] [] _ _ _ _
          refine a_goto (pc := 122) (off := 6) (tgt := 128) (by decide +kernel) (by decide) ?_
          refine a_goto (pc := 128) (off := -126) (tgt := 2) (by decide +kernel) (by decide) ?_
          exact a_sub (lv' := [(0, .ref 68), (1, j_i e), (2, j_i d), (3, j_i k)]) (fun q hq => by simp only [List.mem_cons, List.not_mem_nil, or_false] at hq ⊢; rcases hq with rfl | rfl | rfl | rfl <;> simp) (ih k σ11 (by rw [g1.2.1]; omega) (by omega) (rfr_t hf g1.1) (T1_out hr hT g1 (by omega) (by rcases hb2.mp (by omega) with w | ⟨x, x1, x0, x2, x3⟩; exact Or.inl w; exact Or.inr ⟨x, x0, x1, x2, x3⟩)))
      · refine a_aload_n (pc := 25) (i := 0) (by decide +kernel) rfl ?_
        refine a_iload_n (pc := 26) (i := 1) (by decide +kernel) rfl ?_
        refine a_aload_n (pc := 27) (i := 0) (by decide +kernel) rfl ?_
        refine b_getR (pc := 28) (b := 98) fl_X12_102 (by decide +kernel) (sh_68 hn) rfl ?_
        refine a_iload_n (pc := 31) (i := 3) (by decide +kernel) rfl ?_
        refine b_iaload (pc := 32) (by decide +kernel) (sh_98 hn) (by omega) (by omega) (by omega) ?_
        refine b_callV (pc := 33) (c' := 0) (sl' := 0) [j_i e, j_i (τ.1 98 k)] [] ml_X12_317 (by decide +kernel) rfl rfl (sh_68 hn) rfl rfl (Nat.le_of_ble_eq_true rfl) (j_fitI rfl rfl) (e_hasMain hn (MB_m (rfr_m hf) hB) (by rw [(rfr_m hf).2.1 68 25 (by omega)]; omega) (by omega)) (fun v n' σ' hq => ?_)
        obtain ⟨x, rfl, e1, e2, hx⟩ := hq
        rw [e1, e2]; clear e1 e2
        rcases hx with ⟨rfl, p33⟩ | ⟨rfl, p33⟩
        · show j_at _ _ _ [(0, .ref 68), (1, j_i e), (2, j_i d), (3, j_i k)] [j_i 1] _ _ _ _
          have ip33 : MAm σ (pe e) (τ.1 98 k) ↔ ∃ m, hmP τ (pe e) (τ.1 98 k) m := by unfold MAm; simp only [mfr_hm (rfr_m hf)]
          refine a_if_eq (pc := 36) (off := 7) (tgt := 43) (by decide +kernel) (by decide) (by omega) (fun c36 => ?_) (fun c36 => ?_)
          · exact absurd c36 (by decide)
          · refine a_iconst (pc := 39) (n := 1) (by decide +kernel) ?_
            refine a_goto (pc := 40) (off := 4) (tgt := 44) (by decide +kernel) (by decide) ?_
            refine a_istore (pc := 44) (i := 4) (lv' := [(0, .ref 68), (1, j_i e), (2, j_i d), (3, j_i k), (4, j_i 1)]) (by decide +kernel) (Nat.le_of_ble_eq_true rfl) rfl ?_
            refine a_iconst (pc := 46) (n := 0) (by decide +kernel) ?_
            refine a_istore (pc := 47) (i := 5) (lv' := [(0, .ref 68), (1, j_i e), (2, j_i d), (3, j_i k), (4, j_i 1), (5, j_i 0)]) (by decide +kernel) (Nat.le_of_ble_eq_true rfl) rfl ?_
            refine l_th49 (P := smn (MAm σ (pe e)) (rp τ k)) hn h50 hC1.2.1 (by omega) (by omega) (fun b' x' hb1 hb2 => ?_) 53 0 1 (by omega) (by omega) (by omega) (by omega) ⟨fun _ => Or.inl ⟨c22, ip33.mpr p33⟩, fun _ => rfl⟩
            refine a_iload (pc := 112) (i := 4) (by decide +kernel) rfl ?_
            refine a_if_eq (pc := 114) (off := 11) (tgt := 125) (by decide +kernel) (by decide) (by omega) (fun c114 => ?_) (fun c114 => ?_)
            · refine a_iinc (pc := 125) (i := 3) (n := 1) (x := k) (lv' := [(0, .ref 68), (1, j_i e), (2, j_i d), (3, j_i (k + 1)), (4, j_i b'), (5, j_i x')]) (by decide +kernel) rfl (Nat.le_of_ble_eq_true rfl) rfl ?_
              refine a_goto (pc := 128) (off := -126) (tgt := 2) (by decide +kernel) (by decide) ?_
              exact a_sub (lv' := [(0, .ref 68), (1, j_i e), (2, j_i d), (3, j_i (k + 1))]) (fun q hq => by simp only [List.mem_cons, List.not_mem_nil, or_false] at hq ⊢; rcases hq with rfl | rfl | rfl | rfl <;> simp) (ih (k + 1) τ (by omega) (by omega) hf (T1_keep hT (by omega) (fun w => absurd (hb2.mpr (Or.inl w)) (by omega)) (fun x x0 x1 x2 w => absurd (hb2.mpr (Or.inr ⟨x, x1, x0, x2, w⟩)) (by omega))))
            · refine a_aload_n (pc := 117) (i := 0) (by decide +kernel) rfl ?_
              refine a_iload_n (pc := 118) (i := 3) (by decide +kernel) rfl ?_
              refine b_callV (pc := 119) (c' := 0) (sl' := 0) [j_i k] [] ml_X12_320 (by decide +kernel) rfl rfl (sh_68 hn) rfl rfl (Nat.le_of_ble_eq_true rfl) (j_fitI rfl rfl) (e_outRun hn (by omega) (by omega)) (fun v n' σ' hq => ?_)
              obtain ⟨rfl, rfl, g1⟩ := hq
              obtain ⟨σ11, hσ11⟩ : ∃ z, z = σ' := ⟨_, rfl⟩
              rw [← hσ11] at g1 ⊢
              clear hσ11
              show j_at _ _ _ [(0, .ref 68), (1, j_i e), (2, j_i d), (3, j_i k), (4, j_i b'), (5, j_i x')] [] _ _ _ _
              refine a_goto (pc := 122) (off := 6) (tgt := 128) (by decide +kernel) (by decide) ?_
              refine a_goto (pc := 128) (off := -126) (tgt := 2) (by decide +kernel) (by decide) ?_
              exact a_sub (lv' := [(0, .ref 68), (1, j_i e), (2, j_i d), (3, j_i k)]) (fun q hq => by simp only [List.mem_cons, List.not_mem_nil, or_false] at hq ⊢; rcases hq with rfl | rfl | rfl | rfl <;> simp) (ih k σ11 (by rw [g1.2.1]; omega) (by omega) (rfr_t hf g1.1) (T1_out hr hT g1 (by omega) (by rcases hb2.mp (by omega) with w | ⟨x, x1, x0, x2, x3⟩; exact Or.inl w; exact Or.inr ⟨x, x0, x1, x2, x3⟩)))
        · show j_at _ _ _ [(0, .ref 68), (1, j_i e), (2, j_i d), (3, j_i k)] [j_i 0] _ _ _ _
          have ip33 : MAm σ (pe e) (τ.1 98 k) ↔ ∃ m, hmP τ (pe e) (τ.1 98 k) m := by unfold MAm; simp only [mfr_hm (rfr_m hf)]
          refine a_if_eq (pc := 36) (off := 7) (tgt := 43) (by decide +kernel) (by decide) (by omega) (fun c36 => ?_) (fun c36 => ?_)
          · refine a_iconst (pc := 43) (n := 0) (by decide +kernel) ?_
            refine a_istore (pc := 44) (i := 4) (lv' := [(0, .ref 68), (1, j_i e), (2, j_i d), (3, j_i k), (4, j_i 0)]) (by decide +kernel) (Nat.le_of_ble_eq_true rfl) rfl ?_
            refine a_iconst (pc := 46) (n := 0) (by decide +kernel) ?_
            refine a_istore (pc := 47) (i := 5) (lv' := [(0, .ref 68), (1, j_i e), (2, j_i d), (3, j_i k), (4, j_i 0), (5, j_i 0)]) (by decide +kernel) (Nat.le_of_ble_eq_true rfl) rfl ?_
            refine l_th49 (P := smn (MAm σ (pe e)) (rp τ k)) hn h50 hC1.2.1 (by omega) (by omega) (fun b' x' hb1 hb2 => ?_) 53 0 0 (by omega) (by omega) (by omega) (by omega) ⟨fun w => absurd w (by omega), fun w => by rcases w with w | ⟨x, x1, x0, _⟩; exact absurd w (fun v => by first | exact c22 v.1 | exact p33 (ip33.mp v.2)); omega⟩
            refine a_iload (pc := 112) (i := 4) (by decide +kernel) rfl ?_
            refine a_if_eq (pc := 114) (off := 11) (tgt := 125) (by decide +kernel) (by decide) (by omega) (fun c114 => ?_) (fun c114 => ?_)
            · refine a_iinc (pc := 125) (i := 3) (n := 1) (x := k) (lv' := [(0, .ref 68), (1, j_i e), (2, j_i d), (3, j_i (k + 1)), (4, j_i b'), (5, j_i x')]) (by decide +kernel) rfl (Nat.le_of_ble_eq_true rfl) rfl ?_
              refine a_goto (pc := 128) (off := -126) (tgt := 2) (by decide +kernel) (by decide) ?_
              exact a_sub (lv' := [(0, .ref 68), (1, j_i e), (2, j_i d), (3, j_i (k + 1))]) (fun q hq => by simp only [List.mem_cons, List.not_mem_nil, or_false] at hq ⊢; rcases hq with rfl | rfl | rfl | rfl <;> simp) (ih (k + 1) τ (by omega) (by omega) hf (T1_keep hT (by omega) (fun w => absurd (hb2.mpr (Or.inl w)) (by omega)) (fun x x0 x1 x2 w => absurd (hb2.mpr (Or.inr ⟨x, x1, x0, x2, w⟩)) (by omega))))
            · refine a_aload_n (pc := 117) (i := 0) (by decide +kernel) rfl ?_
              refine a_iload_n (pc := 118) (i := 3) (by decide +kernel) rfl ?_
              refine b_callV (pc := 119) (c' := 0) (sl' := 0) [j_i k] [] ml_X12_320 (by decide +kernel) rfl rfl (sh_68 hn) rfl rfl (Nat.le_of_ble_eq_true rfl) (j_fitI rfl rfl) (e_outRun hn (by omega) (by omega)) (fun v n' σ' hq => ?_)
              obtain ⟨rfl, rfl, g1⟩ := hq
              obtain ⟨σ11, hσ11⟩ : ∃ z, z = σ' := ⟨_, rfl⟩
              rw [← hσ11] at g1 ⊢
              clear hσ11
              show j_at _ _ _ [(0, .ref 68), (1, j_i e), (2, j_i d), (3, j_i k), (4, j_i b'), (5, j_i x')] [] _ _ _ _
              refine a_goto (pc := 122) (off := 6) (tgt := 128) (by decide +kernel) (by decide) ?_
              refine a_goto (pc := 128) (off := -126) (tgt := 2) (by decide +kernel) (by decide) ?_
              exact a_sub (lv' := [(0, .ref 68), (1, j_i e), (2, j_i d), (3, j_i k)]) (fun q hq => by simp only [List.mem_cons, List.not_mem_nil, or_false] at hq ⊢; rcases hq with rfl | rfl | rfl | rfl <;> simp) (ih k σ11 (by rw [g1.2.1]; omega) (by omega) (rfr_t hf g1.1) (T1_out hr hT g1 (by omega) (by rcases hb2.mp (by omega) with w | ⟨x, x1, x0, x2, x3⟩; exact Or.inl w; exact Or.inr ⟨x, x0, x1, x2, x3⟩)))
          · exact absurd c36 (by decide)
set_option maxHeartbeats 4000000 in
theorem e_thinRuns {G : j_G} {X : k_X} {n : Nat} {σ : k_St} (hn : 101 ≤ n) {pe : Int → Int} (hB : MB σ pe) {e d : Int} (e0 : 0 ≤ e ∧ e < σ.2.1 68 25) (d0 : 0 ≤ d ∧ d ≤ 20) {RS : Int × Int → Prop} (hN : RN0 σ RS) : k_run G X mX12_thinRuns [.ref 68, j_i e, j_i d] n σ 0 0 (th_post n σ RS (MAm σ (pe e)) d) := by
  have hr : ∀ x, RS x → x.1 ≤ x.2 := fun x hx => by
    obtain ⟨i, i0, i1, i2⟩ := (hN.2.2.2 x).mpr hx
    have := hN.2.1 i i0 i1
    rw [← i2]; exact this.2.1
  refine k_enter (by decide +kernel) (Nat.le_of_ble_eq_true rfl) ?_
  show j_at _ _ _ [(0, .ref 68), (1, j_i e), (2, j_i d)] [] _ _ _ _
  refine a_iconst (pc := 0) (n := 0) (by decide +kernel) ?_
  refine a_istore_n (pc := 1) (i := 3) (lv' := [(0, .ref 68), (1, j_i e), (2, j_i d), (3, j_i 0)]) (by decide +kernel) (Nat.le_of_ble_eq_true rfl) rfl ?_
  exact l_th2 hn hB e0 d0 hr 52 0 σ (by have := hN.1; omega) (by omega) rfr_r ⟨RS, hN, fun x w => w, fun y w => Or.inl ⟨y, w, ⟨Int.le_refl _, Int.le_refl _⟩⟩, fun x w _ _ => w, fun i i0 i1 => absurd i1 (by omega), by omega, hN.1.1⟩
