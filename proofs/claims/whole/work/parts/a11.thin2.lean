theorem mfr_hm {σ τ : k_St} (h : mfr σ τ) {p g m : Int} : hmP τ p g m ↔ hmP σ p g m := by unfold hmP; rw [mfr_of h, h.1 17 (by omega), h.1 18 (by omega), h.2.1 68 11 (by omega)]
def MAm (σ : k_St) (p g : Int) : Prop := ∃ m, hmP σ p g m
/-- a list from i on -/
def gs {α : Type} (f : Int → α) : Int → List α → Prop
  | _, [] => True
  | i, x :: t => f i = x ∧ gs f (i + 1) t
theorem gs_cg {α : Type} {f g : Int → α} : ∀ {L : List α} {i : Int}, (∀ j, i ≤ j → j < i + L.length → g j = f j) → gs f i L → gs g i L
  | [], _, _, _ => trivial
  | x :: t, i, h, ⟨a, b⟩ => ⟨(h i (by omega) (by simp; omega)).trans a, gs_cg (fun j j0 j1 => h j (by omega) (by simp; omega)) b⟩
theorem gs_sh {α : Type} {f g : Int → α} : ∀ {L : List α} {i : Int}, (∀ j, i ≤ j → j < i + L.length → g j = f (j + 1)) → gs f (i + 1) L → gs g i L
  | [], _, _, _ => trivial
  | x :: t, i, h, ⟨a, b⟩ => ⟨(h i (by omega) (by simp; omega)).trans a, gs_sh (fun j j0 j1 => h j (by omega) (by simp; omega)) b⟩
theorem gs_app {α : Type} {f : Int → α} : ∀ {A B : List α} {i : Int}, gs f i (A ++ B) ↔ gs f i A ∧ gs f (i + A.length) B
  | [], B, i => by simp [gs]
  | x :: t, B, i => by
    rw [List.cons_append]
    show (f i = x ∧ gs f (i + 1) (t ++ B)) ↔ (f i = x ∧ gs f (i + 1) t) ∧ gs f (i + ((x :: t).length : Int)) B
    rw [gs_app, List.length_cons, show i + ((t.length + 1 : Nat) : Int) = i + 1 + (t.length : Int) by omega, and_assoc]
theorem gs_get {α : Type} {f : Int → α} : ∀ {L : List α} {i : Int}, gs f i L → ∀ (k : Nat) (h : k < L.length), f (i + k) = L[k]
  | [], _, _, k, h => absurd h (by simp)
  | x :: t, i, ⟨a, b⟩, 0, h => by simpa using a
  | x :: t, i, ⟨a, b⟩, k + 1, h => by
    have := gs_get b k (by simpa using h)
    rw [show i + 1 + (k : Int) = i + ((k + 1 : Nat) : Int) by omega] at this
    simpa using this
theorem gs_ex {α : Type} (f : Int → α) : ∀ (n : Nat) (i : Int), ∃ L : List α, gs f i L ∧ L.length = n
  | 0, _ => ⟨[], trivial, rfl⟩
  | n + 1, i => by
    obtain ⟨L, h1, h2⟩ := gs_ex f n (i + 1)
    exact ⟨f i :: L, ⟨rfl, h1⟩, by simp [h2]⟩
theorem gs_list {α : Type} {lt : α → α → Prop} {f : Int → α} {n : Int} (h0 : 0 ≤ n) (h : so lt f n) : ∃ L : List α, gs f 0 L ∧ (L.length : Int) = n ∧ L.Pairwise lt ∧ ∀ x, x ∈ L ↔ im f n x := by
  obtain ⟨L, h1, h2⟩ := gs_ex f n.toNat 0
  have g : ∀ (i : Nat) (hi : i < L.length), f (i : Int) = L[i] := fun i hi => by
    have := gs_get h1 i hi
    rw [show (0 : Int) + (i : Int) = (i : Int) by omega] at this; exact this
  refine ⟨L, h1, by omega, ?_, fun x => ?_⟩
  · rw [List.pairwise_iff_getElem]
    intro i j hi hj hij
    rw [← g i hi, ← g j hj]
    exact h i j (by omega) (by omega) (by omega)
  · rw [← li_im g, show (L.length : Int) = n by omega]
def Rg (τ : k_St) : Prop := (0 ≤ τ.2.1 68 48 ∧ τ.2.1 68 48 ≤ 50) ∧ ∀ k, 0 ≤ k → k < τ.2.1 68 48 → 0 ≤ τ.1 98 k ∧ τ.1 98 k ≤ τ.1 99 k ∧ τ.1 99 k ≤ 299
def th_post (n : Nat) (σ : k_St) (RS : Int × Int → Prop) (MA : Int → Prop) (d : Int) : k_P := fun v n' τ => v = none ∧ n' = n ∧ rfr σ τ ∧ Rg τ ∧ ∃ W : List (Int × Int), W.Pairwise (fun x y => x.1 < y.1) ∧ (∀ x, x ∈ W ↔ (RS x ∧ mxm RS x) ∧ ¬ smn MA x) ∧ gs (rp τ) 0 (u_melt d [] W) ∧ τ.2.1 68 48 = ((u_melt d [] W).length : Int)
theorem u_melt_0 {d : Int} (hd : ¬ 0 < d) : ∀ {t R : List (Int × Int)} {r : Int × Int}, u_melt d (r :: R) t = R.reverse ++ r :: t
  | [], R, r => by show (r :: R).reverse = _; simp
  | x :: t, R, r => by
    show (if 0 < d ∧ x.1 - r.2 ≤ d then _ else _) = _
    rw [if_neg (fun w => hd w.1), u_melt_0 hd]; simp
/-- while runs are melted -/
def ML (σ τ : k_St) (d : Int) (W R : List (Int × Int)) (r : Int × Int) (t : List (Int × Int)) (k : Int) : Prop := rfr σ τ ∧ Rg τ ∧ gs (rp τ) 0 R.reverse ∧ rp τ k = r ∧ gs (rp τ) (k + 1) t ∧ k = (R.length : Int) ∧ τ.2.1 68 48 = k + 1 + (t.length : Int) ∧ u_melt d (r :: R) t = u_melt d [] W
theorem ML_e {σ τ : k_St} {d k : Int} {W R t : List (Int × Int)} {r : Int × Int} (h : ML σ τ d W R r t k) (hx : ¬ 0 < d ∨ t = []) : gs (rp τ) 0 (u_melt d [] W) ∧ τ.2.1 68 48 = ((u_melt d [] W).length : Int) := by
  obtain ⟨h1, h2, h3, h4, h5, h6, h7, h8⟩ := h
  have e : u_melt d [] W = R.reverse ++ r :: t := by
    rw [← h8]
    rcases hx with w | w
    · exact u_melt_0 w
    · rw [w]; show (r :: R).reverse = _; simp
  rw [e]
  refine ⟨gs_app.mpr ⟨h3, ?_⟩, by simp; omega⟩
  rw [show (0 : Int) + (R.reverse.length : Int) = k by simp; omega]
  exact ⟨h4, h5⟩
theorem ML_n {σ τ : k_St} {d k : Int} {W R t : List (Int × Int)} {r x : Int × Int} (h : ML σ τ d W R r (x :: t) k) (hx : ¬ (0 < d ∧ x.1 - r.2 ≤ d)) : ML σ τ d W (r :: R) x t (k + 1) := by
  obtain ⟨h1, h2, h3, h4, h5, h6, h7, h8⟩ := h
  refine ⟨h1, h2, ?_, h5.1, h5.2, by simp; omega, by rw [h7]; simp; omega, ?_⟩
  · rw [List.reverse_cons]
    refine gs_app.mpr ⟨h3, ?_⟩
    rw [show (0 : Int) + (R.reverse.length : Int) = k by simp; omega]
    exact ⟨h4, trivial⟩
  · rw [← h8]; symm; show (if 0 < d ∧ x.1 - r.2 ≤ d then _ else _) = _; rw [if_neg hx]
theorem ML_y {σ τ τ1 τ2 : k_St} {d k : Int} {W R t : List (Int × Int)} {r x : Int × Int} (h : ML σ τ d W R r (x :: t) k) (hx : 0 < d ∧ x.1 - r.2 ≤ d) (e1 : τ1 = k_sA τ 99 (j_up (τ.1 99) k (max r.2 x.2))) (ho : oR τ1 τ2 (k + 1)) : ML σ τ2 d W R (r.1, max r.2 x.2) t k := by
  obtain ⟨h1, h2, h3, h4, h5, h6, h7, h8⟩ := h
  have n1 : τ1.2.1 68 48 = τ.2.1 68 48 := by rw [e1]; rfl
  have a8 : τ1.1 98 = τ.1 98 := by rw [e1, k_AN (by omega)]
  have a9 : τ1.1 99 = j_up (τ.1 99) k (max r.2 x.2) := by rw [e1, k_AA]
  have g1 : ∀ j, j ≠ k → rp τ1 j = rp τ j := fun j hj => by unfold rp; rw [a8, a9, j_upN hj]
  have g2 : rp τ1 k = (r.1, max r.2 x.2) := by unfold rp; rw [a8, a9, j_upS, ← h4]; rfl
  obtain ⟨o1, o2, o3⟩ := ho
  rw [n1] at o2 o3
  have hl : τ.2.1 68 48 = k + 2 + (t.length : Int) := by rw [h7]; simp; omega
  have k0 : 0 ≤ k := by omega
  have h50 := h2.1
  have rk : 0 ≤ τ.1 98 k ∧ τ.1 98 k ≤ τ.1 99 k ∧ τ.1 99 k ≤ 299 := h2.2 k k0 (by omega)
  have rx : 0 ≤ τ.1 98 (k + 1) ∧ τ.1 98 (k + 1) ≤ τ.1 99 (k + 1) ∧ τ.1 99 (k + 1) ≤ 299 := h2.2 (k + 1) (by omega) (by omega)
  have er2 : τ.1 99 k = r.2 := by rw [← h4]; rfl
  have ex2 : τ.1 99 (k + 1) = x.2 := by rw [← h5.1]; rfl
  have er1 : τ.1 98 k = r.1 := by rw [← h4]; rfl
  refine ⟨rfr_t h1 (rfr_t ⟨fun c _ q => by rw [e1, k_AN q], fun c j _ => by rw [e1]; rfl, by rw [e1]; rfl⟩ o1), ⟨by rw [o2]; omega, fun q q0 q1 => ?_⟩, gs_cg (fun j j0 j1 => ?_) h3, ?_, gs_sh (fun j j0 j1 => ?_) h5.2, h6, by rw [o2]; omega, ?_⟩
  · rw [o2] at q1
    have z := o3 q q0 q1
    by_cases c : q = k
    · rw [c, if_pos (by omega), g2] at z
      have z1 : τ2.1 98 k = r.1 := congrArg Prod.fst z
      have z2 : τ2.1 99 k = max r.2 x.2 := congrArg Prod.snd z
      rw [c, z1, z2]; omega
    · by_cases c2 : q < k + 1
      · rw [if_pos c2, g1 q c] at z
        have z1 : τ2.1 98 q = τ.1 98 q := congrArg Prod.fst z
        have z2 : τ2.1 99 q = τ.1 99 q := congrArg Prod.snd z
        rw [z1, z2]; exact h2.2 q q0 (by omega)
      · rw [if_neg c2, g1 (q + 1) (by omega)] at z
        have z1 : τ2.1 98 q = τ.1 98 (q + 1) := congrArg Prod.fst z
        have z2 : τ2.1 99 q = τ.1 99 (q + 1) := congrArg Prod.snd z
        rw [z1, z2]; exact h2.2 (q + 1) (by omega) (by omega)
  · rw [List.length_reverse] at j1
    rw [o3 j (by omega) (by omega), if_pos (by omega), g1 j (by omega)]
  · rw [o3 k k0 (by omega), if_pos (by omega), g2]
  · rw [o3 j (by omega) (by omega), if_neg (by omega), g1 (j + 1) (by omega)]
  · rw [← h8]; symm; show (if 0 < d ∧ x.1 - r.2 ≤ d then _ else _) = _; rw [if_pos hx]
set_option maxHeartbeats 4000000 in
theorem l_th257 {G : j_G} {X : k_X} {n : Nat} {σ : k_St} (hn : 101 ≤ n) {e d : Int} (d0 : 0 ≤ d ∧ d ≤ 20) {RS : Int × Int → Prop} {MA : Int → Prop} {W : List (Int × Int)} (hW1 : W.Pairwise (fun x y => x.1 < y.1)) (hW2 : ∀ x, x ∈ W ↔ (RS x ∧ mxm RS x) ∧ ¬ smn MA x)  : ∀ (z : Nat) (k : Int) (R t : List (Int × Int)) (r : Int × Int) (τ : k_St), t.length < z → ML σ τ d W R r t k → j_at G mX12_thinRuns 257 [(0, .ref 68), (1, j_i e), (2, j_i d), (3, j_i k)] [] (k_h X n τ) 0 0 (k_Q X (th_post n σ RS MA d)) := by
  intro z
  induction z with
  | zero => intro k R t r τ h1; exact absurd h1 (by omega)
  | succ z ih =>
    intro k R t r τ hz hM
    have hk9 : k = (R.length : Int) := hM.2.2.2.2.2.1
    have hn9 := hM.2.2.2.2.2.2.1
    have hg9 := hM.2.1
    have hg8 := hM.2.1.1
    refine a_iload_n (pc := 257) (i := 2) (by decide +kernel) rfl ?_
    refine a_if_le (pc := 258) (off := 88) (tgt := 346) (by decide +kernel) (by decide) (by omega) (fun c258 => ?_) (fun c258 => ?_)
    · refine a_return (pc := 346) (by decide +kernel) rfl ?_
      refine k_ret ?_
      have y := ML_e hM (by first | exact Or.inl (by omega) | exact Or.inr (by cases t with | nil => rfl | cons a b => simp at hn9; omega))
      exact ⟨rfl, rfl, hM.1, hM.2.1, W, hW1, hW2, y.1, y.2⟩
    · refine a_iload_n (pc := 261) (i := 3) (by decide +kernel) rfl ?_
      refine a_iconst (pc := 262) (n := 1) (by decide +kernel) ?_
      refine a_iadd (pc := 263) (by decide +kernel) ?_
      refine a_aload_n (pc := 264) (i := 0) (by decide +kernel) rfl ?_
      refine b_getI (pc := 265) fl_X12_294 (by decide +kernel) (sh_68 hn) rfl ?_
      refine a_icmp_ge (pc := 268) (off := 78) (tgt := 346) (by decide +kernel) (by decide) (by omega) (by omega) (fun c268 => ?_) (fun c268 => ?_)
      · refine a_return (pc := 346) (by decide +kernel) rfl ?_
        refine k_ret ?_
        have y := ML_e hM (by first | exact Or.inl (by omega) | exact Or.inr (by cases t with | nil => rfl | cons a b => simp at hn9; omega))
        exact ⟨rfl, rfl, hM.1, hM.2.1, W, hW1, hW2, y.1, y.2⟩
      · obtain ⟨x, t2, et⟩ : ∃ x t2, t = x :: t2 := by
          cases t with
          | nil => simp at hn9; omega
          | cons x t2 => exact ⟨x, t2, rfl⟩
        subst et
        have y1 := hg9.2 k (by omega) (by omega)
        have y2 := hg9.2 (k + 1) (by omega) (by omega)
        have x1 : τ.1 98 (k + 1) = x.1 := by rw [← hM.2.2.2.2.1.1]; rfl
        have x2 : τ.1 99 (k + 1) = x.2 := by rw [← hM.2.2.2.2.1.1]; rfl
        have x3 : τ.1 99 k = r.2 := by rw [← hM.2.2.2.1]; rfl
        have hlt : (t2.length : Int) + 1 = ((x :: t2).length : Int) := by simp
        refine a_aload_n (pc := 271) (i := 0) (by decide +kernel) rfl ?_
        refine b_getR (pc := 272) (b := 98) fl_X12_102 (by decide +kernel) (sh_68 hn) rfl ?_
        refine a_iload_n (pc := 275) (i := 3) (by decide +kernel) rfl ?_
        refine a_iconst (pc := 276) (n := 1) (by decide +kernel) ?_
        refine a_iadd (pc := 277) (by decide +kernel) ?_
        refine b_iaload (pc := 278) (by decide +kernel) (sh_98 hn) (by omega) (by omega) (by omega) ?_
        refine a_aload_n (pc := 279) (i := 0) (by decide +kernel) rfl ?_
        refine b_getR (pc := 280) (b := 99) fl_X12_105 (by decide +kernel) (sh_68 hn) rfl ?_
        refine a_iload_n (pc := 283) (i := 3) (by decide +kernel) rfl ?_
        refine b_iaload (pc := 284) (by decide +kernel) (sh_99 hn) (by omega) (by omega) (by omega) ?_
        refine a_isub (pc := 285) (by decide +kernel) ?_
        refine a_iload_n (pc := 286) (i := 2) (by decide +kernel) rfl ?_
        refine a_icmp_gt (pc := 287) (off := 53) (tgt := 340) (by decide +kernel) (by decide) (by omega) (by omega) (fun c287 => ?_) (fun c287 => ?_)
        · refine a_iinc (pc := 340) (i := 3) (n := 1) (x := k) (lv' := [(0, .ref 68), (1, j_i e), (2, j_i d), (3, j_i (k + 1))]) (by decide +kernel) rfl (Nat.le_of_ble_eq_true rfl) rfl ?_
          refine a_goto (pc := 343) (off := -86) (tgt := 257) (by decide +kernel) (by decide) ?_
          exact ih (k + 1) (r :: R) t2 x τ (by simp at hz; omega) (ML_n hM (by omega))
        · refine a_aload_n (pc := 290) (i := 0) (by decide +kernel) rfl ?_
          refine b_getR (pc := 291) (b := 99) fl_X12_105 (by decide +kernel) (sh_68 hn) rfl ?_
          refine a_iload_n (pc := 294) (i := 3) (by decide +kernel) rfl ?_
          refine a_aload_n (pc := 295) (i := 0) (by decide +kernel) rfl ?_
          refine b_getR (pc := 296) (b := 99) fl_X12_105 (by decide +kernel) (sh_68 hn) rfl ?_
          refine a_iload_n (pc := 299) (i := 3) (by decide +kernel) rfl ?_
          refine a_iconst (pc := 300) (n := 1) (by decide +kernel) ?_
          refine a_iadd (pc := 301) (by decide +kernel) ?_
          refine b_iaload (pc := 302) (by decide +kernel) (sh_99 hn) (by omega) (by omega) (by omega) ?_
          refine a_aload_n (pc := 303) (i := 0) (by decide +kernel) rfl ?_
          refine b_getR (pc := 304) (b := 99) fl_X12_105 (by decide +kernel) (sh_68 hn) rfl ?_
          refine a_iload_n (pc := 307) (i := 3) (by decide +kernel) rfl ?_
          refine b_iaload (pc := 308) (by decide +kernel) (sh_99 hn) (by omega) (by omega) (by omega) ?_
          refine a_icmp_le (pc := 309) (off := 14) (tgt := 323) (by decide +kernel) (by decide) (by omega) (by omega) (fun c309 => ?_) (fun c309 => ?_)
          · refine a_aload_n (pc := 323) (i := 0) (by decide +kernel) rfl ?_
            refine b_getR (pc := 324) (b := 99) fl_X12_105 (by decide +kernel) (sh_68 hn) rfl ?_
            refine a_iload_n (pc := 327) (i := 3) (by decide +kernel) rfl ?_
            refine b_iaload (pc := 328) (by decide +kernel) (sh_99 hn) (by omega) (by omega) (by omega) ?_
            refine b_iastore (pc := 329) (by decide +kernel) (sh_99 hn) (by omega) (by omega) (by omega) ?_
            obtain ⟨σ1, hσ1⟩ : ∃ z, z = k_sA τ 99 (j_up (τ.1 99) k (τ.1 99 k)) := ⟨_, rfl⟩
            rw [← hσ1]
            refine a_aload_n (pc := 330) (i := 0) (by decide +kernel) rfl ?_
            refine a_iload_n (pc := 331) (i := 3) (by decide +kernel) rfl ?_
            refine a_iconst (pc := 332) (n := 1) (by decide +kernel) ?_
            refine a_iadd (pc := 333) (by decide +kernel) ?_
            refine b_callV (pc := 334) (c' := 0) (sl' := 0) [j_i (k + 1)] [] ml_X12_320 (by decide +kernel) rfl rfl (sh_68 hn) rfl rfl (Nat.le_of_ble_eq_true rfl) (j_fitI rfl rfl) (e_outRun hn (by rw [hσ1]; show τ.2.1 68 48 ≤ 50; omega) (by rw [hσ1]; show 0 ≤ k + 1 ∧ k + 1 < τ.2.1 68 48; omega)) (fun v n' σ' hq => ?_)
            obtain ⟨rfl, rfl, g1⟩ := hq
            obtain ⟨σ2, hσ2⟩ : ∃ z, z = σ' := ⟨_, rfl⟩
            rw [← hσ2] at g1 ⊢
            clear hσ2
            show j_at _ _ _ [(0, .ref 68), (1, j_i e), (2, j_i d), (3, j_i k)] [] _ _ _ _
            refine a_goto (pc := 337) (off := -80) (tgt := 257) (by decide +kernel) (by decide) ?_
            exact ih k R t2 (r.1, max r.2 x.2) σ2 (by simp at hz; omega) (ML_y hM ⟨by omega, by omega⟩ (by rw [hσ1]; congr 2; omega) g1)
          · refine a_aload_n (pc := 312) (i := 0) (by decide +kernel) rfl ?_
            refine b_getR (pc := 313) (b := 99) fl_X12_105 (by decide +kernel) (sh_68 hn) rfl ?_
            refine a_iload_n (pc := 316) (i := 3) (by decide +kernel) rfl ?_
            refine a_iconst (pc := 317) (n := 1) (by decide +kernel) ?_
            refine a_iadd (pc := 318) (by decide +kernel) ?_
            refine b_iaload (pc := 319) (by decide +kernel) (sh_99 hn) (by omega) (by omega) (by omega) ?_
            refine a_goto (pc := 320) (off := 9) (tgt := 329) (by decide +kernel) (by decide) ?_
            refine b_iastore (pc := 329) (by decide +kernel) (sh_99 hn) (by omega) (by omega) (by omega) ?_
            obtain ⟨σ3, hσ3⟩ : ∃ z, z = k_sA τ 99 (j_up (τ.1 99) k (τ.1 99 (k + 1))) := ⟨_, rfl⟩
            rw [← hσ3]
            refine a_aload_n (pc := 330) (i := 0) (by decide +kernel) rfl ?_
            refine a_iload_n (pc := 331) (i := 3) (by decide +kernel) rfl ?_
            refine a_iconst (pc := 332) (n := 1) (by decide +kernel) ?_
            refine a_iadd (pc := 333) (by decide +kernel) ?_
            refine b_callV (pc := 334) (c' := 0) (sl' := 0) [j_i (k + 1)] [] ml_X12_320 (by decide +kernel) rfl rfl (sh_68 hn) rfl rfl (Nat.le_of_ble_eq_true rfl) (j_fitI rfl rfl) (e_outRun hn (by rw [hσ3]; show τ.2.1 68 48 ≤ 50; omega) (by rw [hσ3]; show 0 ≤ k + 1 ∧ k + 1 < τ.2.1 68 48; omega)) (fun v n' σ' hq => ?_)
            obtain ⟨rfl, rfl, g1⟩ := hq
            obtain ⟨σ4, hσ4⟩ : ∃ z, z = σ' := ⟨_, rfl⟩
            rw [← hσ4] at g1 ⊢
            clear hσ4
            show j_at _ _ _ [(0, .ref 68), (1, j_i e), (2, j_i d), (3, j_i k)] [] _ _ _ _
            refine a_goto (pc := 337) (off := -80) (tgt := 257) (by decide +kernel) (by decide) ?_
            exact ih k R t2 (r.1, max r.2 x.2) σ4 (by simp at hz; omega) (ML_y hM ⟨by omega, by omega⟩ (by rw [hσ3]; congr 2; omega) g1)
