/-- the arrays hold a list from o on -/
def u_seg (F G : Int → Int) : Int → List (Int × Int) → Prop
  | _, [] => True
  | i, x :: t => F i = x.1 ∧ G i = x.2 ∧ u_seg F G (i + 1) t
theorem u_seg_congr {F G F' G' : Int → Int} : ∀ {l : List (Int × Int)} {i : Int}, (∀ j, i ≤ j → j < i + l.length → F' j = F j ∧ G' j = G j) → u_seg F G i l → u_seg F' G' i l
  | [], _, _, _ => trivial
  | x :: t, i, h, ⟨a, b, c⟩ => by
    have h0 := h i (by omega) (by rw [List.length_cons]; omega)
    exact ⟨h0.1.trans a, h0.2.trans b, u_seg_congr (fun j j0 j1 => h j (by omega) (by rw [List.length_cons]; omega)) c⟩
theorem u_seg_app {F G : Int → Int} : ∀ {l m : List (Int × Int)} {i : Int}, u_seg F G i (l ++ m) ↔ u_seg F G i l ∧ u_seg F G (i + l.length) m
  | [], m, i => by simp [u_seg]
  | x :: t, m, i => by
    show F i = x.1 ∧ G i = x.2 ∧ u_seg F G (i + 1) (t ++ m) ↔ (F i = x.1 ∧ G i = x.2 ∧ u_seg F G (i + 1) t) ∧ u_seg F G (i + (x :: t).length) m
    rw [u_seg_app, List.length_cons, show i + ((t.length + 1 : Nat) : Int) = i + 1 + (t.length : Int) by omega]
    constructor
    · rintro ⟨a, b, c, d⟩; exact ⟨⟨a, b, c⟩, d⟩
    · rintro ⟨⟨a, b, c⟩, d⟩; exact ⟨a, b, c, d⟩
def u_ok (l : List (Int × Int)) : Prop := ∀ x ∈ l, (0 ≤ x.1 ∧ x.1 ≤ 299) ∧ (0 ≤ x.2 ∧ x.2 ≤ 299)
def u_fr (σ τ : k_St) : Prop := (∀ c, c ≠ 46 → c ≠ 47 → τ.1 c = σ.1 c) ∧ (∀ c j, ¬ (c = 45 ∧ j = 2) → τ.2.1 c j = σ.2.1 c j) ∧ τ.2.2 = σ.2.2
theorem u_fr_r {σ : k_St} : u_fr σ σ := ⟨fun _ _ _ => rfl, fun _ _ _ => rfl, rfl⟩
theorem u_fr_A {σ τ : k_St} {a : Nat} {f : Int → Int} (h : u_fr σ τ) (ha : a = 46 ∨ a = 47) : u_fr σ (k_sA τ a f) := ⟨fun c h1 h2 => by rw [k_AN (by omega)]; exact h.1 c h1 h2, h.2.1, h.2.2⟩
theorem u_fr_I {σ τ : k_St} {x : Int} (h : u_fr σ τ) : u_fr σ (k_sI τ 45 2 x) := ⟨h.1, fun c j h1 => by rw [k_IN h1]; exact h.2.1 c j h1, h.2.2⟩
def u_is (σ : k_St) (l : List (Int × Int)) : Prop := σ.2.1 45 2 = l.length ∧ u_seg (σ.1 46) (σ.1 47) 0 l ∧ u_ok l ∧ l.length ≤ 50
def u_post (n : Nat) (σ : k_St) (P : List (Int × Int) → Prop) : k_P := fun v n' τ => v = none ∧ n' = n ∧ u_fr σ τ ∧ ∃ l, u_is τ l ∧ P l
def u_inner : Int → List (Int × Int) → List (Int × Int)
  | _, [] => []
  | m, x :: t => if m < x.2 then x :: u_inner x.2 t else u_inner m t
def u_page (p : Int) : List (Int × Int) → List (Int × Int)
  | [] => []
  | x :: t => if x.1 = p ∧ x.2 = p then u_page p t else x :: u_page p t
/-- melts, R: what is made so far, the latest first -/
def u_melt (d : Int) : List (Int × Int) → List (Int × Int) → List (Int × Int)
  | R, [] => R.reverse
  | [], x :: t => u_melt d [x] t
  | r :: R, x :: t => if 0 < d ∧ x.1 - r.2 ≤ d then u_melt d ((r.1, max r.2 x.2) :: R) t else u_melt d (x :: r :: R) t
def u_ahead (f l : Int) (x : Int × Int) : Prop := f < x.1 ∨ f = x.1 ∧ x.2 < l
set_option maxHeartbeats 4000000 in
theorem s_rkeep {G : j_G} {X : k_X} {n : Nat} {σ : k_St} (hn : 101 ≤ n) {k t : Int} (hk : 0 ≤ k ∧ k < 50) (ht : 0 ≤ t ∧ t < 50) : k_run G X mX10_keep [.ref 45, j_i k, j_i t] n σ 0 0 (k_is n (k_sA (k_sA σ 46 (j_up (σ.1 46) t (σ.1 46 k))) 47 (j_up (σ.1 47) t (σ.1 47 k))) none) := by
  refine k_enter (by decide +kernel) (Nat.le_of_ble_eq_true rfl) ?_
  show j_at _ _ _ [(0, .ref 45), (1, j_i k), (2, j_i t)] [] _ _ _ _
  refine a_aload_n (pc := 0) (i := 0) (by decide +kernel) rfl ?_
  refine b_getR (pc := 1) (b := 46) fl_X10_9 (by decide +kernel) (sh_45 hn) rfl ?_
  refine a_iload_n (pc := 4) (i := 2) (by decide +kernel) rfl ?_
  refine a_aload_n (pc := 5) (i := 0) (by decide +kernel) rfl ?_
  refine b_getR (pc := 6) (b := 46) fl_X10_9 (by decide +kernel) (sh_45 hn) rfl ?_
  refine a_iload_n (pc := 9) (i := 1) (by decide +kernel) rfl ?_
  refine b_iaload (pc := 10) (by decide +kernel) (sh_46 hn) (by omega) (by omega) (by omega) ?_
  refine b_iastore (pc := 11) (by decide +kernel) (sh_46 hn) (by omega) (by omega) (by omega) ?_
  obtain ⟨σ1, hσ1⟩ : ∃ z, z = k_sA σ 46 (j_up (σ.1 46) t (σ.1 46 k)) := ⟨_, rfl⟩
  rw [← hσ1]
  refine a_aload_n (pc := 12) (i := 0) (by decide +kernel) rfl ?_
  refine b_getR (pc := 13) (b := 47) fl_X10_15 (by decide +kernel) (sh_45 hn) rfl ?_
  refine a_iload_n (pc := 16) (i := 2) (by decide +kernel) rfl ?_
  refine a_aload_n (pc := 17) (i := 0) (by decide +kernel) rfl ?_
  refine b_getR (pc := 18) (b := 47) fl_X10_15 (by decide +kernel) (sh_45 hn) rfl ?_
  refine a_iload_n (pc := 21) (i := 1) (by decide +kernel) rfl ?_
  refine b_iaload (pc := 22) (by decide +kernel) (sh_47 hn) (by omega) (by omega) (by omega) ?_
  rw [show σ1.1 47 = σ.1 47 by rw [hσ1]; exact k_AN (by omega)]
  refine b_iastore (pc := 23) (by decide +kernel) (sh_47 hn) (by omega) (by omega) (by omega) ?_
  obtain ⟨σ2, hσ2⟩ : ∃ z, z = k_sA σ1 47 (j_up (σ1.1 47) t (σ.1 47 k)) := ⟨_, rfl⟩
  rw [← hσ2]
  refine a_return (pc := 24) (by decide +kernel) rfl ?_
  refine k_ret ?_
  subst hσ2; subst hσ1; exact ⟨rfl, rfl, rfl⟩
theorem u_keep {τ τ' : k_St} {R t : List (Int × Int)} {x : Int × Int} {k m : Int} (h : τ' = k_sA (k_sA τ 46 (j_up (τ.1 46) m (τ.1 46 k))) 47 (j_up (τ.1 47) m (τ.1 47 k))) (hm : m = R.length) (hk : m ≤ k) (hR : u_seg (τ.1 46) (τ.1 47) 0 R) (ht : u_seg (τ.1 46) (τ.1 47) k (x :: t)) : u_seg (τ'.1 46) (τ'.1 47) 0 (R ++ [x]) ∧ u_seg (τ'.1 46) (τ'.1 47) (k + 1) t := by
  have e1 : τ'.1 46 = j_up (τ.1 46) m (τ.1 46 k) := by rw [h, k_AN (by omega), k_AA]
  have e2 : τ'.1 47 = j_up (τ.1 47) m (τ.1 47 k) := by rw [h, k_AA]
  rw [e1, e2]
  refine ⟨u_seg_app.mpr ⟨u_seg_congr (fun j j0 j1 => ⟨j_upN (by omega), j_upN (by omega)⟩) hR, ?_⟩, u_seg_congr (fun j j0 j1 => ⟨j_upN (by omega), j_upN (by omega)⟩) ht.2.2⟩
  rw [show (0 : Int) + R.length = m by omega]
  exact ⟨by rw [j_upS]; exact ht.1, by rw [j_upS]; exact ht.2.1, trivial⟩
set_option maxHeartbeats 4000000 in
theorem l_inner {G : j_G} {X : k_X} {n : Nat} {σ : k_St} (hn : 101 ≤ n)  : ∀ (t : List (Int × Int)) (k m q : Int) (R : List (Int × Int)) (τ : k_St), u_fr σ τ → τ.2.1 45 2 = k + t.length → 0 ≤ m → m ≤ k → m = R.length → u_seg (τ.1 46) (τ.1 47) 0 R → u_seg (τ.1 46) (τ.1 47) k t → u_ok t → u_ok R → k + t.length ≤ 50 → (-1 ≤ q ∧ q ≤ 299) → j_at G mX10_leaveOutInner 6 [(0, .ref 45), (1, j_i m), (2, j_i q), (3, j_i k)] [] (k_h X n τ) 0 0 (k_Q X (u_post n σ (fun l => l = R ++ u_inner q t))) := by
  intro t
  induction t with
  | nil =>
    intro k m q R τ hf hc hm hmk hmR hR hs hok hro hk h8
    rw [List.length_nil] at hc
    refine a_iload_n (pc := 6) (i := 3) (by decide +kernel) rfl ?_
    refine a_aload_n (pc := 7) (i := 0) (by decide +kernel) rfl ?_
    refine b_getI (pc := 8) fl_X10_18 (by decide +kernel) (sh_45 hn) rfl ?_
    refine a_icmp_ge (pc := 11) (off := 35) (tgt := 46) (by decide +kernel) (by decide) (by omega) (by omega) (fun c11 => ?_) (fun c11 => ?_)
    · refine a_aload_n (pc := 46) (i := 0) (by decide +kernel) rfl ?_
      refine a_iload_n (pc := 47) (i := 1) (by decide +kernel) rfl ?_
      refine b_putI (pc := 48) fl_X10_18 (by decide +kernel) (sh_45 hn) rfl rfl rfl ?_
      obtain ⟨σ1, hσ1⟩ : ∃ z, z = k_sI τ 45 2 m := ⟨_, rfl⟩
      rw [← hσ1]
      refine a_return (pc := 51) (by decide +kernel) rfl ?_
      refine k_ret ?_
      refine ⟨rfl, rfl, by rw [hσ1]; exact u_fr_I hf, _, ⟨?_, by rw [hσ1]; exact hR, hro, by omega⟩, by simp [u_inner]⟩
      rw [hσ1, k_II]; exact hmR
    · exfalso; omega
  | cons x t ih =>
    intro k m q R τ hf hc hm hmk hmR hR hs hok hro hk h8
    have hcn : τ.2.1 45 2 = k + (x :: t).length := hc
    rw [List.length_cons] at hc hk
    have s1 := hs.1
    have s2 := hs.2.1
    have xo := hok x List.mem_cons_self
    have hok2 : u_ok t := fun y hy => hok y (List.mem_cons_of_mem _ hy)
    refine a_iload_n (pc := 6) (i := 3) (by decide +kernel) rfl ?_
    refine a_aload_n (pc := 7) (i := 0) (by decide +kernel) rfl ?_
    refine b_getI (pc := 8) fl_X10_18 (by decide +kernel) (sh_45 hn) rfl ?_
    refine a_icmp_ge (pc := 11) (off := 35) (tgt := 46) (by decide +kernel) (by decide) (by omega) (by omega) (fun c11 => ?_) (fun c11 => ?_)
    · exfalso; omega
    · refine a_aload_n (pc := 14) (i := 0) (by decide +kernel) rfl ?_
      refine b_getR (pc := 15) (b := 47) fl_X10_15 (by decide +kernel) (sh_45 hn) rfl ?_
      refine a_iload_n (pc := 18) (i := 3) (by decide +kernel) rfl ?_
      refine b_iaload (pc := 19) (by decide +kernel) (sh_47 hn) (by omega) (by omega) (by omega) ?_
      try rw [s2]
      refine a_iload_n (pc := 20) (i := 2) (by decide +kernel) rfl ?_
      refine a_icmp_le (pc := 21) (off := 19) (tgt := 40) (by decide +kernel) (by decide) (by omega) (by omega) (fun c21 => ?_) (fun c21 => ?_)
      · refine a_iinc (pc := 40) (i := 3) (n := 1) (x := k) (lv' := [(0, .ref 45), (1, j_i m), (2, j_i q), (3, j_i (k + 1))]) (by decide +kernel) rfl (Nat.le_of_ble_eq_true rfl) rfl ?_
        refine a_goto (pc := 43) (off := -37) (tgt := 6) (by decide +kernel) (by decide) ?_
        rw [show u_inner q (x :: t) = u_inner q t from if_neg (by omega)]
        exact ih (k + 1) m q R τ hf (by omega) hm (by omega) hmR hR hs.2.2 hok2 hro (by omega) h8
      · refine a_aload_n (pc := 24) (i := 0) (by decide +kernel) rfl ?_
        refine b_getR (pc := 25) (b := 47) fl_X10_15 (by decide +kernel) (sh_45 hn) rfl ?_
        refine a_iload_n (pc := 28) (i := 3) (by decide +kernel) rfl ?_
        refine b_iaload (pc := 29) (by decide +kernel) (sh_47 hn) (by omega) (by omega) (by omega) ?_
        try rw [s2]
        refine a_istore_n (pc := 30) (i := 2) (lv' := [(0, .ref 45), (1, j_i m), (2, j_i (x.2)), (3, j_i k)]) (by decide +kernel) (Nat.le_of_ble_eq_true rfl) rfl ?_
        refine a_aload_n (pc := 31) (i := 0) (by decide +kernel) rfl ?_
        refine a_iload_n (pc := 32) (i := 3) (by decide +kernel) rfl ?_
        refine a_iload_n (pc := 33) (i := 1) (by decide +kernel) rfl ?_
        refine b_callV (pc := 34) (c' := 0) (sl' := 0) [j_i k, j_i m] [] ml_X10_26 (by decide +kernel) rfl rfl (sh_45 hn) rfl rfl (Nat.le_of_ble_eq_true rfl) (j_fitI rfl rfl) (s_rkeep hn (by omega) (by omega)) (fun v n' σ' hq => ?_)
        obtain ⟨rfl, e1, e2⟩ := hq
        rw [e1, e2]; clear e1 e2
        obtain ⟨σ1, hσ1⟩ : ∃ z, z = k_sA (k_sA τ 46 (j_up (τ.1 46) m (τ.1 46 k))) 47 (j_up (τ.1 47) m (τ.1 47 k)) := ⟨_, rfl⟩
        rw [← hσ1]
        show j_at _ _ _ [(0, .ref 45), (1, j_i m), (2, j_i (x.2)), (3, j_i k)] [] _ _ _ _
        refine a_iinc (pc := 37) (i := 1) (n := 1) (x := m) (lv' := [(0, .ref 45), (1, j_i (m + 1)), (2, j_i (x.2)), (3, j_i k)]) (by decide +kernel) rfl (Nat.le_of_ble_eq_true rfl) rfl ?_
        refine a_iinc (pc := 40) (i := 3) (n := 1) (x := k) (lv' := [(0, .ref 45), (1, j_i (m + 1)), (2, j_i (x.2)), (3, j_i (k + 1))]) (by decide +kernel) rfl (Nat.le_of_ble_eq_true rfl) rfl ?_
        refine a_goto (pc := 43) (off := -37) (tgt := 6) (by decide +kernel) (by decide) ?_
        rw [show u_inner q (x :: t) = x :: u_inner x.2 t from if_pos (by omega), show R ++ x :: u_inner x.2 t = (R ++ [x]) ++ u_inner x.2 t by simp]
        obtain ⟨r1, r2⟩ := u_keep hσ1 hmR hmk hR hs
        exact ih (k + 1) (m + 1) x.2 (R ++ [x]) σ1 (by rw [hσ1]; exact u_fr_A (u_fr_A hf (Or.inl rfl)) (Or.inr rfl)) (by rw [hσ1]; show τ.2.1 45 2 = _; omega) (by omega) (by omega) (by rw [List.length_append]; simp; omega) r1 r2 hok2 (fun y hy => (List.mem_append.mp hy).elim (hro y) (fun hz => by rw [List.mem_singleton.mp hz]; exact xo)) (by omega) (by omega)
set_option maxHeartbeats 4000000 in
theorem l_page {G : j_G} {X : k_X} {n : Nat} {σ : k_St} (hn : 101 ≤ n) {p : Int} (hp : -2147483648 ≤ p ∧ p ≤ 2147483647)  : ∀ (t : List (Int × Int)) (k m : Int) (R : List (Int × Int)) (τ : k_St), u_fr σ τ → τ.2.1 45 2 = k + t.length → 0 ≤ m → m ≤ k → m = R.length → u_seg (τ.1 46) (τ.1 47) 0 R → u_seg (τ.1 46) (τ.1 47) k t → u_ok t → u_ok R → k + t.length ≤ 50 → j_at G mX10_leaveOutPage 4 [(0, .ref 45), (1, j_i p), (2, j_i m), (3, j_i k)] [] (k_h X n τ) 0 0 (k_Q X (u_post n σ (fun l => l = R ++ u_page p t))) := by
  intro t
  induction t with
  | nil =>
    intro k m  R τ hf hc hm hmk hmR hR hs hok hro hk 
    rw [List.length_nil] at hc
    refine a_iload_n (pc := 4) (i := 3) (by decide +kernel) rfl ?_
    refine a_aload_n (pc := 5) (i := 0) (by decide +kernel) rfl ?_
    refine b_getI (pc := 6) fl_X10_18 (by decide +kernel) (sh_45 hn) rfl ?_
    refine a_icmp_ge (pc := 9) (off := 38) (tgt := 47) (by decide +kernel) (by decide) (by omega) (by omega) (fun c9 => ?_) (fun c9 => ?_)
    · refine a_aload_n (pc := 47) (i := 0) (by decide +kernel) rfl ?_
      refine a_iload_n (pc := 48) (i := 2) (by decide +kernel) rfl ?_
      refine b_putI (pc := 49) fl_X10_18 (by decide +kernel) (sh_45 hn) rfl rfl rfl ?_
      obtain ⟨σ1, hσ1⟩ : ∃ z, z = k_sI τ 45 2 m := ⟨_, rfl⟩
      rw [← hσ1]
      refine a_return (pc := 52) (by decide +kernel) rfl ?_
      refine k_ret ?_
      refine ⟨rfl, rfl, by rw [hσ1]; exact u_fr_I hf, _, ⟨?_, by rw [hσ1]; exact hR, hro, by omega⟩, by simp [u_page]⟩
      rw [hσ1, k_II]; exact hmR
    · exfalso; omega
  | cons x t ih =>
    intro k m  R τ hf hc hm hmk hmR hR hs hok hro hk 
    have hcn : τ.2.1 45 2 = k + (x :: t).length := hc
    rw [List.length_cons] at hc hk
    have s1 := hs.1
    have s2 := hs.2.1
    have xo := hok x List.mem_cons_self
    have hok2 : u_ok t := fun y hy => hok y (List.mem_cons_of_mem _ hy)
    refine a_iload_n (pc := 4) (i := 3) (by decide +kernel) rfl ?_
    refine a_aload_n (pc := 5) (i := 0) (by decide +kernel) rfl ?_
    refine b_getI (pc := 6) fl_X10_18 (by decide +kernel) (sh_45 hn) rfl ?_
    refine a_icmp_ge (pc := 9) (off := 38) (tgt := 47) (by decide +kernel) (by decide) (by omega) (by omega) (fun c9 => ?_) (fun c9 => ?_)
    · exfalso; omega
    · refine a_aload_n (pc := 12) (i := 0) (by decide +kernel) rfl ?_
      refine b_getR (pc := 13) (b := 46) fl_X10_9 (by decide +kernel) (sh_45 hn) rfl ?_
      refine a_iload_n (pc := 16) (i := 3) (by decide +kernel) rfl ?_
      refine b_iaload (pc := 17) (by decide +kernel) (sh_46 hn) (by omega) (by omega) (by omega) ?_
      try rw [s1]
      refine a_iload_n (pc := 18) (i := 1) (by decide +kernel) rfl ?_
      refine a_icmp_ne (pc := 19) (off := 13) (tgt := 32) (by decide +kernel) (by decide) (by omega) (by omega) (fun c19 => ?_) (fun c19 => ?_)
      · refine a_aload_n (pc := 32) (i := 0) (by decide +kernel) rfl ?_
        refine a_iload_n (pc := 33) (i := 3) (by decide +kernel) rfl ?_
        refine a_iload_n (pc := 34) (i := 2) (by decide +kernel) rfl ?_
        refine b_callV (pc := 35) (c' := 0) (sl' := 0) [j_i k, j_i m] [] ml_X10_26 (by decide +kernel) rfl rfl (sh_45 hn) rfl rfl (Nat.le_of_ble_eq_true rfl) (j_fitI rfl rfl) (s_rkeep hn (by omega) (by omega)) (fun v n' σ' hq => ?_)
        obtain ⟨rfl, e1, e2⟩ := hq
        rw [e1, e2]; clear e1 e2
        obtain ⟨σ1, hσ1⟩ : ∃ z, z = k_sA (k_sA τ 46 (j_up (τ.1 46) m (τ.1 46 k))) 47 (j_up (τ.1 47) m (τ.1 47 k)) := ⟨_, rfl⟩
        rw [← hσ1]
        show j_at _ _ _ [(0, .ref 45), (1, j_i p), (2, j_i m), (3, j_i k)] [] _ _ _ _
        refine a_iinc (pc := 38) (i := 2) (n := 1) (x := m) (lv' := [(0, .ref 45), (1, j_i p), (2, j_i (m + 1)), (3, j_i k)]) (by decide +kernel) rfl (Nat.le_of_ble_eq_true rfl) rfl ?_
        refine a_iinc (pc := 41) (i := 3) (n := 1) (x := k) (lv' := [(0, .ref 45), (1, j_i p), (2, j_i (m + 1)), (3, j_i (k + 1))]) (by decide +kernel) rfl (Nat.le_of_ble_eq_true rfl) rfl ?_
        refine a_goto (pc := 44) (off := -40) (tgt := 4) (by decide +kernel) (by decide) ?_
        rw [show u_page p (x :: t) = x :: u_page p t from if_neg (by omega), show R ++ x :: u_page p t = (R ++ [x]) ++ u_page p t by simp]
        obtain ⟨r1, r2⟩ := u_keep hσ1 hmR hmk hR hs
        exact ih (k + 1) (m + 1) (R ++ [x]) σ1 (by rw [hσ1]; exact u_fr_A (u_fr_A hf (Or.inl rfl)) (Or.inr rfl)) (by rw [hσ1]; show τ.2.1 45 2 = _; omega) (by omega) (by omega) (by rw [List.length_append]; simp; omega) r1 r2 hok2 (fun y hy => (List.mem_append.mp hy).elim (hro y) (fun hz => by rw [List.mem_singleton.mp hz]; exact xo)) (by omega)
      · refine a_aload_n (pc := 22) (i := 0) (by decide +kernel) rfl ?_
        refine b_getR (pc := 23) (b := 47) fl_X10_15 (by decide +kernel) (sh_45 hn) rfl ?_
        refine a_iload_n (pc := 26) (i := 3) (by decide +kernel) rfl ?_
        refine b_iaload (pc := 27) (by decide +kernel) (sh_47 hn) (by omega) (by omega) (by omega) ?_
        try rw [s2]
        refine a_iload_n (pc := 28) (i := 1) (by decide +kernel) rfl ?_
        refine a_icmp_eq (pc := 29) (off := 12) (tgt := 41) (by decide +kernel) (by decide) (by omega) (by omega) (fun c29 => ?_) (fun c29 => ?_)
        · refine a_iinc (pc := 41) (i := 3) (n := 1) (x := k) (lv' := [(0, .ref 45), (1, j_i p), (2, j_i m), (3, j_i (k + 1))]) (by decide +kernel) rfl (Nat.le_of_ble_eq_true rfl) rfl ?_
          refine a_goto (pc := 44) (off := -40) (tgt := 4) (by decide +kernel) (by decide) ?_
          rw [show u_page p (x :: t) = u_page p t from if_pos (by omega)]
          exact ih (k + 1) m R τ hf (by omega) hm (by omega) hmR hR hs.2.2 hok2 hro (by omega)
        · refine a_aload_n (pc := 32) (i := 0) (by decide +kernel) rfl ?_
          refine a_iload_n (pc := 33) (i := 3) (by decide +kernel) rfl ?_
          refine a_iload_n (pc := 34) (i := 2) (by decide +kernel) rfl ?_
          refine b_callV (pc := 35) (c' := 0) (sl' := 0) [j_i k, j_i m] [] ml_X10_26 (by decide +kernel) rfl rfl (sh_45 hn) rfl rfl (Nat.le_of_ble_eq_true rfl) (j_fitI rfl rfl) (s_rkeep hn (by omega) (by omega)) (fun v n' σ' hq => ?_)
          obtain ⟨rfl, e1, e2⟩ := hq
          rw [e1, e2]; clear e1 e2
          obtain ⟨σ2, hσ2⟩ : ∃ z, z = k_sA (k_sA τ 46 (j_up (τ.1 46) m (τ.1 46 k))) 47 (j_up (τ.1 47) m (τ.1 47 k)) := ⟨_, rfl⟩
          rw [← hσ2]
          show j_at _ _ _ [(0, .ref 45), (1, j_i p), (2, j_i m), (3, j_i k)] [] _ _ _ _
          refine a_iinc (pc := 38) (i := 2) (n := 1) (x := m) (lv' := [(0, .ref 45), (1, j_i p), (2, j_i (m + 1)), (3, j_i k)]) (by decide +kernel) rfl (Nat.le_of_ble_eq_true rfl) rfl ?_
          refine a_iinc (pc := 41) (i := 3) (n := 1) (x := k) (lv' := [(0, .ref 45), (1, j_i p), (2, j_i (m + 1)), (3, j_i (k + 1))]) (by decide +kernel) rfl (Nat.le_of_ble_eq_true rfl) rfl ?_
          refine a_goto (pc := 44) (off := -40) (tgt := 4) (by decide +kernel) (by decide) ?_
          rw [show u_page p (x :: t) = x :: u_page p t from if_neg (by omega), show R ++ x :: u_page p t = (R ++ [x]) ++ u_page p t by simp]
          obtain ⟨r1, r2⟩ := u_keep hσ2 hmR hmk hR hs
          exact ih (k + 1) (m + 1) (R ++ [x]) σ2 (by rw [hσ2]; exact u_fr_A (u_fr_A hf (Or.inl rfl)) (Or.inr rfl)) (by rw [hσ2]; show τ.2.1 45 2 = _; omega) (by omega) (by omega) (by rw [List.length_append]; simp; omega) r1 r2 hok2 (fun y hy => (List.mem_append.mp hy).elim (hro y) (fun hz => by rw [List.mem_singleton.mp hz]; exact xo)) (by omega)
set_option maxHeartbeats 4000000 in
theorem s_inner {G : j_G} {X : k_X} {n : Nat} {σ : k_St} (hn : 101 ≤ n) {l : List (Int × Int)} (hu : u_is σ l) : k_run G X mX10_leaveOutInner [.ref 45] n σ 0 0 (u_post n σ (fun z => z = u_inner (-1) l)) := by
  obtain ⟨h1, h2, h3, h4⟩ := hu
  refine k_enter (by decide +kernel) (Nat.le_of_ble_eq_true rfl) ?_
  show j_at _ _ _ [(0, .ref 45)] [] _ _ _ _
  refine a_iconst (pc := 0) (n := 0) (by decide +kernel) ?_
  refine a_istore_n (pc := 1) (i := 1) (lv' := [(0, .ref 45), (1, j_i 0)]) (by decide +kernel) (Nat.le_of_ble_eq_true rfl) rfl ?_
  refine a_iconst (pc := 2) (n := (-1)) (by decide +kernel) ?_
  refine a_istore_n (pc := 3) (i := 2) (lv' := [(0, .ref 45), (1, j_i 0), (2, j_i (-1))]) (by decide +kernel) (Nat.le_of_ble_eq_true rfl) rfl ?_
  refine a_iconst (pc := 4) (n := 0) (by decide +kernel) ?_
  refine a_istore_n (pc := 5) (i := 3) (lv' := [(0, .ref 45), (1, j_i 0), (2, j_i (-1)), (3, j_i 0)]) (by decide +kernel) (Nat.le_of_ble_eq_true rfl) rfl ?_
  have e := l_inner (G := G) (X := X) (σ := σ) hn l 0 0 (-1) [] σ u_fr_r (by rw [h1]; omega) (by omega) (by omega) rfl trivial h2 h3 (fun _ h => by cases h) (by omega) (by omega)
  exact e
set_option maxHeartbeats 4000000 in
theorem s_lpage {G : j_G} {X : k_X} {n : Nat} {σ : k_St} (hn : 101 ≤ n) {l : List (Int × Int)} (hu : u_is σ l) {p : Int} (hp : -2147483648 ≤ p ∧ p ≤ 2147483647) : k_run G X mX10_leaveOutPage [.ref 45, j_i p] n σ 0 0 (u_post n σ (fun z => z = u_page p l)) := by
  obtain ⟨h1, h2, h3, h4⟩ := hu
  refine k_enter (by decide +kernel) (Nat.le_of_ble_eq_true rfl) ?_
  show j_at _ _ _ [(0, .ref 45), (1, j_i p)] [] _ _ _ _
  refine a_iconst (pc := 0) (n := 0) (by decide +kernel) ?_
  refine a_istore_n (pc := 1) (i := 2) (lv' := [(0, .ref 45), (1, j_i p), (2, j_i 0)]) (by decide +kernel) (Nat.le_of_ble_eq_true rfl) rfl ?_
  refine a_iconst (pc := 2) (n := 0) (by decide +kernel) ?_
  refine a_istore_n (pc := 3) (i := 3) (lv' := [(0, .ref 45), (1, j_i p), (2, j_i 0), (3, j_i 0)]) (by decide +kernel) (Nat.le_of_ble_eq_true rfl) rfl ?_
  have e := l_page (G := G) (X := X) (σ := σ) hn hp l 0 0 [] σ u_fr_r (by rw [h1]; omega) (by omega) (by omega) rfl trivial h2 h3 (fun _ h => by cases h) (by omega)
  exact e
