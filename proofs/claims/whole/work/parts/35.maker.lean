/-- an array holds a list from o on -/
def v_seg (F : Int → Int) : Int → List Int → Prop
  | _, [] => True
  | i, x :: t => F i = x ∧ v_seg F (i + 1) t
theorem v_seg_congr {F F' : Int → Int} : ∀ {l : List Int} {i : Int}, (∀ j, i ≤ j → j < i + l.length → F' j = F j) → v_seg F i l → v_seg F' i l
  | [], _, _, _ => trivial
  | x :: t, i, h, ⟨a, c⟩ => ⟨(h i (by omega) (by rw [List.length_cons]; omega)).trans a, v_seg_congr (fun j j0 j1 => h j (by omega) (by rw [List.length_cons]; omega)) c⟩
theorem v_seg_app {F : Int → Int} : ∀ {l m : List Int} {i : Int}, v_seg F i (l ++ m) ↔ v_seg F i l ∧ v_seg F (i + l.length) m
  | [], m, i => by simp [v_seg]
  | x :: t, m, i => by
    show F i = x ∧ v_seg F (i + 1) (t ++ m) ↔ (F i = x ∧ v_seg F (i + 1) t) ∧ v_seg F (i + (x :: t).length) m
    rw [v_seg_app, List.length_cons, show i + ((t.length + 1 : Nat) : Int) = i + 1 + (t.length : Int) by omega]
    exact ⟨fun ⟨a, c, d⟩ => ⟨⟨a, c⟩, d⟩, fun ⟨⟨a, c⟩, d⟩ => ⟨a, c, d⟩⟩
theorem v_seg_get {F : Int → Int} : ∀ {l : List Int} {i : Int} {k : Nat} (h : k < l.length), v_seg F i l → F (i + k) = l[k]
  | x :: t, i, 0, h, ⟨a, _⟩ => by simpa using a
  | x :: t, i, k + 1, h, ⟨_, c⟩ => by
    have := v_seg_get (k := k) (by simpa using h) c
    rw [List.getElem_cons_succ, ← this]; congr 1; omega
theorem v_seg_mem {F : Int → Int} {l : List Int} {x : Int} (h : v_seg F 0 l) : x ∈ l ↔ ∃ k : Int, 0 ≤ k ∧ k < l.length ∧ F k = x := by
  constructor
  · intro hx
    obtain ⟨k, hk, e⟩ := List.getElem_of_mem hx
    exact ⟨k, by omega, by omega, by rw [← e, ← v_seg_get hk h]; congr 1; omega⟩
  · rintro ⟨k, h0, h1, e⟩
    have hk : k.toNat < l.length := by omega
    have := v_seg_get hk h
    rw [show (0 : Int) + k.toNat = k by omega, e] at this
    rw [this]; exact List.getElem_mem _
def z43 (F : Int → Int) (m : Int) : Prop := (∀ i, 0 ≤ i → i < m → F i = 0) ∧ ∀ i, F i = 0 ∨ F i = 1
def f_ti (T : Int → Int) (h : Int) : Int := if h < 0 then -9 else T h
/-- a path, each head by the table -/
def f_tr (T : Int → Int) (p : Int) : Int := f_path (f_ti T (f_head p 0)) (f_ti T (f_head p 1)) (f_ti T (f_head p 2))
set_option maxHeartbeats 4000000 in
theorem l_trans {G : j_G} {X : k_X} {n : Nat} {σ : k_St} (hn : 101 ≤ n) {tb : Nat} (htb : tb = 40 ∨ tb = 41) (hT : ∀ i : Int, 0 ≤ i → i < 30 → -2147483648 ≤ σ.1 tb i ∧ σ.1 tb i ≤ 2147483647) {p q k : Int} (hp : 0 ≤ p ∧ p ≤ 2147483647) (hk : 0 ≤ k ∧ k < 3) {Q : k_P} (kk : j_at G mX6_translated 4 [(0, j_i p), (1, .ref tb), (2, j_i (f_lon q (f_ti (σ.1 tb) (f_head p k)))), (3, j_i (k + 1))] [] (k_h X n σ) 0 0 (k_Q X Q)) : j_at G mX6_translated 4 [(0, j_i p), (1, .ref tb), (2, j_i q), (3, j_i k)] [] (k_h X n σ) 0 0 (k_Q X Q) := by
  have hsh : k_has X n tb (.inl (0, 30)) := by rcases htb with rfl | rfl; exact sh_40 hn; exact sh_41 hn
  refine a_iload_n (pc := 4) (i := 3) (by decide +kernel) rfl ?_
  refine a_iconst (pc := 5) (n := 3) (by decide +kernel) ?_
  refine a_icmp_ge (pc := 6) (off := 42) (tgt := 48) (by decide +kernel) (by decide) (by omega) (by omega) (fun c6 => ?_) (fun c6 => ?_)
  · exfalso; omega
  · refine a_iload_n (pc := 9) (i := 0) (by decide +kernel) rfl ?_
    refine a_iload_n (pc := 10) (i := 3) (by decide +kernel) rfl ?_
    refine b_pureS (pc := 11) [j_i p, j_i k] [] ml_X6_168 (by decide +kernel) rfl rfl (Nat.le_of_ble_eq_true rfl) (j_fitI rfl rfl) (s_headOf (by omega) (by omega)) ?_
    have qh := f_head_in p k
    show j_at _ _ _ [(0, j_i p), (1, .ref tb), (2, j_i q), (3, j_i k)] [j_i (f_head p k)] _ _ _ _
    refine a_istore (pc := 14) (i := 4) (lv' := [(0, j_i p), (1, .ref tb), (2, j_i q), (3, j_i k), (4, j_i (f_head p k))]) (by decide +kernel) (Nat.le_of_ble_eq_true rfl) rfl ?_
    refine a_iload_n (pc := 16) (i := 2) (by decide +kernel) rfl ?_
    refine a_iload (pc := 17) (i := 4) (by decide +kernel) rfl ?_
    refine a_if_lt (pc := 19) (off := 10) (tgt := 29) (by decide +kernel) (by decide) (by omega) (fun c19 => ?_) (fun c19 => ?_)
    · refine a_bipush (pc := 29) (n := (-9)) (by decide +kernel) rfl ?_
      refine a_goto (pc := 31) (off := 7) (tgt := 38) (by decide +kernel) (by decide) ?_
      refine b_pureS (pc := 38) [j_i q, j_i (-9)] [] ml_X6_172 (by decide +kernel) rfl rfl (Nat.le_of_ble_eq_true rfl) (j_fitI rfl rfl) (s_longer (by omega)) ?_
      rw [show (-9 : Int) = f_ti (σ.1 tb) (f_head p k) from (if_pos (by omega)).symm]
      show j_at _ _ _ [(0, j_i p), (1, .ref tb), (2, j_i q), (3, j_i k), (4, j_i (f_head p k))] [j_i (f_lon q (f_ti (σ.1 tb) (f_head p k)))] _ _ _ _
      refine a_istore_n (pc := 41) (i := 2) (lv' := [(0, j_i p), (1, .ref tb), (2, j_i (f_lon q (f_ti (σ.1 tb) (f_head p k)))), (3, j_i k), (4, j_i (f_head p k))]) (by decide +kernel) (Nat.le_of_ble_eq_true rfl) rfl ?_
      refine a_iinc (pc := 42) (i := 3) (n := 1) (x := k) (lv' := [(0, j_i p), (1, .ref tb), (2, j_i (f_lon q (f_ti (σ.1 tb) (f_head p k)))), (3, j_i (k + 1)), (4, j_i (f_head p k))]) (by decide +kernel) rfl (Nat.le_of_ble_eq_true rfl) rfl ?_
      refine a_goto (pc := 45) (off := -41) (tgt := 4) (by decide +kernel) (by decide) ?_
      exact a_sub (fun q hq => by simp only [List.mem_cons, List.not_mem_nil, or_false] at hq ⊢; rcases hq with rfl | rfl | rfl | rfl <;> simp) kk
    · refine a_iload (pc := 22) (i := 4) (by decide +kernel) rfl ?_
      refine a_aload_n (pc := 24) (i := 1) (by decide +kernel) rfl ?_
      refine b_len (pc := 25) (by decide +kernel) hsh (by decide) ?_
      refine a_icmp_lt (pc := 26) (off := 8) (tgt := 34) (by decide +kernel) (by decide) (by omega) (by omega) (fun c26 => ?_) (fun c26 => ?_)
      · refine a_aload_n (pc := 34) (i := 1) (by decide +kernel) rfl ?_
        refine a_iload (pc := 35) (i := 4) (by decide +kernel) rfl ?_
        refine b_iaload (pc := 37) (by decide +kernel) hsh (by omega) (by omega) (by omega) ?_
        refine b_pureS (pc := 38) [j_i q, j_i (σ.1 tb (f_head p k))] [] ml_X6_172 (by decide +kernel) rfl rfl (Nat.le_of_ble_eq_true rfl) (j_fitI rfl rfl) (s_longer (hT _ (by omega) (by omega))) ?_
        rw [show σ.1 tb (f_head p k) = f_ti (σ.1 tb) (f_head p k) from (if_neg (by omega)).symm]
        show j_at _ _ _ [(0, j_i p), (1, .ref tb), (2, j_i q), (3, j_i k), (4, j_i (f_head p k))] [j_i (f_lon q (f_ti (σ.1 tb) (f_head p k)))] _ _ _ _
        refine a_istore_n (pc := 41) (i := 2) (lv' := [(0, j_i p), (1, .ref tb), (2, j_i (f_lon q (f_ti (σ.1 tb) (f_head p k)))), (3, j_i k), (4, j_i (f_head p k))]) (by decide +kernel) (Nat.le_of_ble_eq_true rfl) rfl ?_
        refine a_iinc (pc := 42) (i := 3) (n := 1) (x := k) (lv' := [(0, j_i p), (1, .ref tb), (2, j_i (f_lon q (f_ti (σ.1 tb) (f_head p k)))), (3, j_i (k + 1)), (4, j_i (f_head p k))]) (by decide +kernel) rfl (Nat.le_of_ble_eq_true rfl) rfl ?_
        refine a_goto (pc := 45) (off := -41) (tgt := 4) (by decide +kernel) (by decide) ?_
        exact a_sub (fun q hq => by simp only [List.mem_cons, List.not_mem_nil, or_false] at hq ⊢; rcases hq with rfl | rfl | rfl | rfl <;> simp) kk
      · exfalso; have : ((30 : Nat) : Int) = 30 := rfl; omega
set_option maxHeartbeats 4000000 in
theorem s_trans {G : j_G} {X : k_X} {n : Nat} {σ : k_St} (hn : 101 ≤ n) {tb : Nat} (htb : tb = 40 ∨ tb = 41) (hT : ∀ i : Int, 0 ≤ i → i < 30 → -2147483648 ≤ σ.1 tb i ∧ σ.1 tb i ≤ 2147483647) {p : Int} (hp : 0 ≤ p ∧ p ≤ 2147483647) : k_run G X mX6_translated [j_i p, .ref tb] n σ 0 0 (k_is n σ (some (j_i (f_tr (σ.1 tb) p)))) := by
  have hsh : k_has X n tb (.inl (0, 30)) := by rcases htb with rfl | rfl; exact sh_40 hn; exact sh_41 hn
  refine k_enter (by decide +kernel) (Nat.le_of_ble_eq_true rfl) ?_
  show j_at _ _ _ [(0, j_i p), (1, .ref tb)] [] _ _ _ _
  refine a_iconst (pc := 0) (n := 0) (by decide +kernel) ?_
  refine a_istore_n (pc := 1) (i := 2) (lv' := [(0, j_i p), (1, .ref tb), (2, j_i 0)]) (by decide +kernel) (Nat.le_of_ble_eq_true rfl) rfl ?_
  refine a_iconst (pc := 2) (n := 0) (by decide +kernel) ?_
  refine a_istore_n (pc := 3) (i := 3) (lv' := [(0, j_i p), (1, .ref tb), (2, j_i 0), (3, j_i 0)]) (by decide +kernel) (Nat.le_of_ble_eq_true rfl) rfl ?_
  refine l_trans hn htb hT hp (by omega) ?_
  rw [show (0 : Int) + 1 = 1 by rfl]
  refine l_trans hn htb hT hp (by omega) ?_
  rw [show (1 : Int) + 1 = 2 by rfl]
  refine l_trans hn htb hT hp (by omega) ?_
  rw [show (2 : Int) + 1 = 3 by rfl]
  refine a_iload_n (pc := 4) (i := 3) (by decide +kernel) rfl ?_
  refine a_iconst (pc := 5) (n := 3) (by decide +kernel) ?_
  refine a_icmp_ge (pc := 6) (off := 42) (tgt := 48) (by decide +kernel) (by decide) (by omega) (by omega) (fun c6 => ?_) (fun c6 => ?_)
  · refine a_iload_n (pc := 48) (i := 2) (by decide +kernel) rfl ?_
    refine a_ireturn (pc := 49) (by decide +kernel) rfl ?_
    refine k_ret ?_
    exact ⟨rfl, rfl, rfl⟩
  · exact absurd c6 (by decide)
set_option maxHeartbeats 4000000 in
theorem s_pageOf {G : j_G} {X : k_X} {n : Nat} {σ : k_St} (hn : 101 ≤ n) {m : Int} (hm : 0 ≤ m ∧ m < 50) (hg : -2147483648 ≤ σ.1 18 m ∧ σ.1 18 m ≤ 2147483647) (hfl : -2147483648 ≤ σ.2.1 39 13 ∧ σ.2.1 39 13 ≤ 2147483647) : k_run G X mX6_pageOf [.ref 39, j_i m] n σ 0 0 (k_is n σ (some (j_i (f_page (σ.1 18 m) (σ.2.1 39 13))))) := by
  refine k_enter (by decide +kernel) (Nat.le_of_ble_eq_true rfl) ?_
  show j_at _ _ _ [(0, .ref 39), (1, j_i m)] [] _ _ _ _
  refine a_aload_n (pc := 0) (i := 0) (by decide +kernel) rfl ?_
  refine b_getR (pc := 1) (b := 6) fl_X6_54 (by decide +kernel) (sh_39 hn) rfl ?_
  refine b_getR (pc := 4) (b := 16) fl_X6_131 (by decide +kernel) (sh_6 hn) rfl ?_
  refine b_getR (pc := 7) (b := 18) fl_X6_138 (by decide +kernel) (sh_16 hn) rfl ?_
  refine a_iload_n (pc := 10) (i := 1) (by decide +kernel) rfl ?_
  refine b_iaload (pc := 11) (by decide +kernel) (sh_18 hn) (by omega) (by omega) (by omega) ?_
  refine a_aload_n (pc := 12) (i := 0) (by decide +kernel) rfl ?_
  refine b_getI (pc := 13) fl_X6_51 (by decide +kernel) (sh_39 hn) rfl ?_
  refine b_pureS (pc := 16) [j_i (σ.1 18 m), j_i (σ.2.1 39 13)] [] ml_X6_231 (by decide +kernel) rfl rfl (Nat.le_of_ble_eq_true rfl) (j_fitI rfl rfl) (s_pageOfGap (by omega) (by omega)) ?_
  show j_at _ _ _ [(0, .ref 39), (1, j_i m)] [j_i (f_page (σ.1 18 m) (σ.2.1 39 13))] _ _ _ _
  refine a_ireturn (pc := 19) (by decide +kernel) rfl ?_
  refine k_ret ?_
  exact ⟨rfl, rfl, rfl⟩
def lm_fr (σ τ : k_St) : Prop := (∀ c, c ≠ 42 → c ≠ 43 → τ.1 c = σ.1 c) ∧ (∀ c j, ¬ (c = 39 ∧ j = 6) → τ.2.1 c j = σ.2.1 c j) ∧ τ.2.2 = σ.2.2
theorem lm_fr_r {σ : k_St} : lm_fr σ σ := ⟨fun _ _ _ => rfl, fun _ _ _ => rfl, rfl⟩
theorem lm_fr_A {σ τ : k_St} {a : Nat} {f : Int → Int} (h : lm_fr σ τ) (ha : a = 42 ∨ a = 43) : lm_fr σ (k_sA τ a f) := ⟨fun c h1 h2 => by rw [k_AN (by omega)]; exact h.1 c h1 h2, h.2.1, h.2.2⟩
theorem lm_fr_I {σ τ : k_St} {x : Int} (h : lm_fr σ τ) : lm_fr σ (k_sI τ 39 6 x) := ⟨h.1, fun c j h1 => by rw [k_IN h1]; exact h.2.1 c j h1, h.2.2⟩
/-- m stands ahead of x: by gaps, then numbers -/
def m_lt (σ : k_St) (x y : Int) : Prop := σ.1 18 x < σ.1 18 y ∨ σ.1 18 x = σ.1 18 y ∧ x < y
def lm_ins (σ : k_St) (m : Int) (l z : List Int) : Prop := ∃ P S, l = P ++ S ∧ z = P ++ m :: S ∧ (∀ s ∈ S, σ.1 18 m < σ.1 18 s) ∧ (P = [] ∨ ∃ P' r, P = P' ++ [r] ∧ σ.1 18 r ≤ σ.1 18 m)
def lm_ok (σ : k_St) (m : Int) (l : List Int) : Prop := (∀ x, x ∈ l ↔ m_is σ x ∧ x < m) ∧ l.Pairwise (m_lt σ) ∧ (l.length : Int) ≤ m
theorem lm_ok_ins {σ : k_St} {m : Int} {l z : List Int} (hm : m_is σ m) (h : lm_ok σ m l) (hi : lm_ins σ m l z) : lm_ok σ (m + 1) z := by
  obtain ⟨h1, h2, h3⟩ := h
  obtain ⟨P, S, e1, e2, e3, e4⟩ := hi
  have hl := h2
  rw [e1, List.pairwise_append] at hl
  obtain ⟨p1, p2, p3⟩ := hl
  refine ⟨fun x => ?_, ?_, ?_⟩
  · rw [e2, List.mem_append, List.mem_cons]
    have h1x := h1 x
    rw [e1, List.mem_append] at h1x
    constructor
    · rintro (h | h | h)
      · have := h1x.mp (Or.inl h); exact ⟨this.1, by omega⟩
      · rw [h]; exact ⟨hm, by omega⟩
      · have := h1x.mp (Or.inr h); exact ⟨this.1, by omega⟩
    · rintro ⟨h, h'⟩
      by_cases hx : x = m
      · exact Or.inr (Or.inl hx)
      · rcases h1x.mpr ⟨h, by omega⟩ with h | h
        · exact Or.inl h
        · exact Or.inr (Or.inr h)
  · rw [e2, List.pairwise_append]
    refine ⟨p1, List.pairwise_cons.mpr ⟨fun s hs => Or.inl (e3 s hs), p2⟩, fun a ha b hb => ?_⟩
    have ham : m_lt σ a m := by
      have hlt : a < m := ((h1 a).mp (by rw [e1]; exact List.mem_append_left _ ha)).2
      rcases e4 with e4 | ⟨P', r, e4, e5⟩
      · rw [e4] at ha; cases ha
      · rw [e4] at ha p1
        rcases List.mem_append.mp ha with h | h
        · have := (List.pairwise_append.mp p1).2.2 a h r (by simp)
          unfold m_lt at this ⊢; omega
        · rw [List.mem_singleton.mp h] at hlt ⊢; unfold m_lt; omega
    rcases List.mem_cons.mp hb with h | h
    · rw [h]; exact ham
    · exact p3 a ha b h
  · rw [e2, List.length_append, List.length_cons]; rw [e1, List.length_append] at h3; omega
theorem lm_ok_skip {σ : k_St} {m : Int} {l : List Int} (hm : ¬ m_is σ m) (h : lm_ok σ m l) : lm_ok σ (m + 1) l := by
  refine ⟨fun x => (h.1 x).trans ⟨fun q => ⟨q.1, by omega⟩, fun q => ⟨q.1, ?_⟩⟩, h.2.1, by have := h.2.2; omega⟩
  rcases (show x = m ∨ x < m by omega) with e | e
  · rw [e] at q; exact absurd q.1 hm
  · exact e
set_option maxHeartbeats 4000000 in
theorem l_lm42 {G : j_G} {X : k_X} {n : Nat} {σ : k_St} (hn : 101 ≤ n) (hw : m_wf σ 16) {m : Int} (hm : m_is σ m) {l : List Int} (hlm : ∀ x ∈ l, m_is σ x) (hl5 : l.length < 50) {Q : k_P} (kk : ∀ (τ : k_St) (z : List Int) (q : Int), lm_fr σ τ → τ.2.1 39 6 = (z.length : Int) → v_seg (τ.1 42) 0 z → lm_ins σ m l z → z43 (τ.1 43) (m + 1) → j_at G mX6_listMarks 7 [(0, .ref 39), (1, j_i (m + 1)), (2, j_i q)] [] (k_h X n τ) 0 0 (k_Q X Q))  : ∀ (Pr S : List Int) (p : Int) (τ : k_St), lm_fr σ τ → τ.2.1 39 6 = (l.length : Int) → l = Pr.reverse ++ S → p = Pr.length → v_seg (τ.1 42) 0 Pr.reverse → v_seg (τ.1 42) (p + 1) S → z43 (τ.1 43) (m + 1) → (∀ s ∈ S, σ.1 18 m < σ.1 18 s) → j_at G mX6_listMarks 42 [(0, .ref 39), (1, j_i m), (2, j_i p)] [] (k_h X n τ) 0 0 (k_Q X Q) := by
  intro Pr
  induction Pr with
  | nil =>
    intro S p τ hf hc hL hp hP hS hz hS2
    obtain ⟨hev, hgo, hmv⟩ := id hw
    have hm5 : 0 ≤ m ∧ m < 50 := ⟨hm.1, by have := hm.2.1; omega⟩
    have hgm : 0 ≤ σ.1 18 m ∧ σ.1 18 m ≤ 300 := (hmv m hm.1 hm.2.1).2.1
    have hp0 : p = 0 := hp
    have hlen : (l.length : Int) = S.length := by rw [hL]; simp
    refine a_iload_n (pc := 42) (i := 2) (by decide +kernel) rfl ?_
    refine a_if_le (pc := 43) (off := 57) (tgt := 100) (by decide +kernel) (by decide) (by omega) (fun c43 => ?_) (fun c43 => ?_)
    · refine a_aload_n (pc := 100) (i := 0) (by decide +kernel) rfl ?_
      refine b_getR (pc := 101) (b := 42) fl_X6_22 (by decide +kernel) (sh_39 hn) rfl ?_
      refine a_iload_n (pc := 104) (i := 2) (by decide +kernel) rfl ?_
      refine a_iload_n (pc := 105) (i := 1) (by decide +kernel) rfl ?_
      refine b_iastore (pc := 106) (by decide +kernel) (sh_42 hn) (by omega) (by omega) (by omega) ?_
      obtain ⟨σ1, hσ1⟩ : ∃ z, z = k_sA τ 42 (j_up (τ.1 42) p m) := ⟨_, rfl⟩
      rw [← hσ1]
      refine a_aload_n (pc := 107) (i := 0) (by decide +kernel) rfl ?_
      refine a_dup (pc := 108) (by decide +kernel) rfl ?_
      refine b_getI (pc := 109) fl_X6_25 (by decide +kernel) (sh_39 hn) rfl ?_
      rw [show σ1.2.1 39 6 = τ.2.1 39 6 by rw [hσ1]; rfl]
      rw [show τ.2.1 39 6 = (l.length : Int) from hc]
      refine a_iconst (pc := 112) (n := 1) (by decide +kernel) ?_
      refine a_iadd (pc := 113) (by decide +kernel) ?_
      refine b_putI (pc := 114) fl_X6_25 (by decide +kernel) (sh_39 hn) rfl rfl rfl ?_
      obtain ⟨σ2, hσ2⟩ : ∃ z, z = k_sI σ1 39 6 ((l.length : Int) + 1) := ⟨_, rfl⟩
      rw [← hσ2]
      refine a_iinc (pc := 117) (i := 1) (n := 1) (x := m) (lv' := [(0, .ref 39), (1, j_i (m + 1)), (2, j_i p)]) (by decide +kernel) rfl (Nat.le_of_ble_eq_true rfl) rfl ?_
      refine a_goto (pc := 120) (off := -113) (tgt := 7) (by decide +kernel) (by decide) ?_
      refine kk σ2 ([] ++ m :: S) p (by rw [hσ2, hσ1]; exact lm_fr_I (lm_fr_A hf (Or.inl rfl))) (by rw [hσ2, k_II, hL]; simp <;> omega) ?_ ⟨[], S, hL, rfl, hS2, Or.inl rfl⟩ (by rw [hσ2, k_I1, hσ1, k_AN (by omega)]; exact hz)
      rw [hσ2, k_I1, hσ1, k_AA]
      refine v_seg_app.mpr ⟨v_seg_congr (fun j j0 j1 => j_upN (by simp at j1; omega)) hP, ?_⟩
      rw [show (0 : Int) + ([].length : Int) = p by simp; omega]
      exact ⟨j_upS, v_seg_congr (fun j j0 j1 => j_upN (by omega)) hS⟩
    · exfalso; omega
  | cons r Pr ih =>
    intro S p τ hf hc hL hp hP hS hz hS2
    obtain ⟨hev, hgo, hmv⟩ := id hw
    have hm5 : 0 ≤ m ∧ m < 50 := ⟨hm.1, by have := hm.2.1; omega⟩
    have hgm : 0 ≤ σ.1 18 m ∧ σ.1 18 m ≤ 300 := (hmv m hm.1 hm.2.1).2.1
    have hlen : (l.length : Int) = (Pr.length : Int) + 1 + S.length := by rw [hL]; simp; omega
    rw [List.length_cons] at hp
    have hPr := v_seg_app.mp (by rw [List.reverse_cons] at hP; exact hP)
    have t1 : τ.1 42 (p - 1) = r := by have := hPr.2.1; rw [show (0 : Int) + Pr.reverse.length = p - 1 by simp; omega] at this; exact this
    have hmr := hlm r (by rw [hL]; simp)
    have hr5 : 0 ≤ r ∧ r < 50 := ⟨hmr.1, by have := hmr.2.1; omega⟩
    have hgr : 0 ≤ σ.1 18 r ∧ σ.1 18 r ≤ 300 := (hmv r hmr.1 hmr.2.1).2.1
    refine a_iload_n (pc := 42) (i := 2) (by decide +kernel) rfl ?_
    refine a_if_le (pc := 43) (off := 57) (tgt := 100) (by decide +kernel) (by decide) (by omega) (fun c43 => ?_) (fun c43 => ?_)
    · exfalso; omega
    · refine a_aload_n (pc := 46) (i := 0) (by decide +kernel) rfl ?_
      refine b_getR (pc := 47) (b := 6) fl_X6_54 (by decide +kernel) (sh_39 hn) rfl ?_
      refine b_getR (pc := 50) (b := 16) fl_X6_131 (by decide +kernel) (sh_6 hn) rfl ?_
      refine b_getR (pc := 53) (b := 18) fl_X6_138 (by decide +kernel) (sh_16 hn) rfl ?_
      refine a_aload_n (pc := 56) (i := 0) (by decide +kernel) rfl ?_
      refine b_getR (pc := 57) (b := 42) fl_X6_22 (by decide +kernel) (sh_39 hn) rfl ?_
      refine a_iload_n (pc := 60) (i := 2) (by decide +kernel) rfl ?_
      refine a_iconst (pc := 61) (n := 1) (by decide +kernel) ?_
      refine a_isub (pc := 62) (by decide +kernel) ?_
      refine b_iaload (pc := 63) (by decide +kernel) (sh_42 hn) (by omega) (by omega) (by omega) ?_
      rw [t1]
      refine b_iaload (pc := 64) (by decide +kernel) (sh_18 hn) (by omega) (by omega) (by omega) ?_
      rw [show τ.1 18 = σ.1 18 from hf.1 18 (by omega) (by omega)]
      refine a_aload_n (pc := 65) (i := 0) (by decide +kernel) rfl ?_
      refine b_getR (pc := 66) (b := 6) fl_X6_54 (by decide +kernel) (sh_39 hn) rfl ?_
      refine b_getR (pc := 69) (b := 16) fl_X6_131 (by decide +kernel) (sh_6 hn) rfl ?_
      refine b_getR (pc := 72) (b := 18) fl_X6_138 (by decide +kernel) (sh_16 hn) rfl ?_
      refine a_iload_n (pc := 75) (i := 1) (by decide +kernel) rfl ?_
      refine b_iaload (pc := 76) (by decide +kernel) (sh_18 hn) (by omega) (by omega) (by omega) ?_
      rw [show τ.1 18 = σ.1 18 from hf.1 18 (by omega) (by omega)]
      refine a_icmp_le (pc := 77) (off := 23) (tgt := 100) (by decide +kernel) (by decide) (by omega) (by omega) (fun c77 => ?_) (fun c77 => ?_)
      · refine a_aload_n (pc := 100) (i := 0) (by decide +kernel) rfl ?_
        refine b_getR (pc := 101) (b := 42) fl_X6_22 (by decide +kernel) (sh_39 hn) rfl ?_
        refine a_iload_n (pc := 104) (i := 2) (by decide +kernel) rfl ?_
        refine a_iload_n (pc := 105) (i := 1) (by decide +kernel) rfl ?_
        refine b_iastore (pc := 106) (by decide +kernel) (sh_42 hn) (by omega) (by omega) (by omega) ?_
        obtain ⟨σ1, hσ1⟩ : ∃ z, z = k_sA τ 42 (j_up (τ.1 42) p m) := ⟨_, rfl⟩
        rw [← hσ1]
        refine a_aload_n (pc := 107) (i := 0) (by decide +kernel) rfl ?_
        refine a_dup (pc := 108) (by decide +kernel) rfl ?_
        refine b_getI (pc := 109) fl_X6_25 (by decide +kernel) (sh_39 hn) rfl ?_
        rw [show σ1.2.1 39 6 = τ.2.1 39 6 by rw [hσ1]; rfl]
        rw [show τ.2.1 39 6 = (l.length : Int) from hc]
        refine a_iconst (pc := 112) (n := 1) (by decide +kernel) ?_
        refine a_iadd (pc := 113) (by decide +kernel) ?_
        refine b_putI (pc := 114) fl_X6_25 (by decide +kernel) (sh_39 hn) rfl rfl rfl ?_
        obtain ⟨σ2, hσ2⟩ : ∃ z, z = k_sI σ1 39 6 ((l.length : Int) + 1) := ⟨_, rfl⟩
        rw [← hσ2]
        refine a_iinc (pc := 117) (i := 1) (n := 1) (x := m) (lv' := [(0, .ref 39), (1, j_i (m + 1)), (2, j_i p)]) (by decide +kernel) rfl (Nat.le_of_ble_eq_true rfl) rfl ?_
        refine a_goto (pc := 120) (off := -113) (tgt := 7) (by decide +kernel) (by decide) ?_
        refine kk σ2 ((r :: Pr).reverse ++ m :: S) p (by rw [hσ2, hσ1]; exact lm_fr_I (lm_fr_A hf (Or.inl rfl))) (by rw [hσ2, k_II, hL]; simp <;> omega) ?_ ⟨(r :: Pr).reverse, S, hL, rfl, hS2, Or.inr ⟨Pr.reverse, r, List.reverse_cons, c77⟩⟩ (by rw [hσ2, k_I1, hσ1, k_AN (by omega)]; exact hz)
        rw [hσ2, k_I1, hσ1, k_AA]
        refine v_seg_app.mpr ⟨v_seg_congr (fun j j0 j1 => j_upN (by simp at j1; omega)) hP, ?_⟩
        rw [show (0 : Int) + ((r :: Pr).reverse.length : Int) = p by simp; omega]
        exact ⟨j_upS, v_seg_congr (fun j j0 j1 => j_upN (by omega)) hS⟩
      · refine a_aload_n (pc := 80) (i := 0) (by decide +kernel) rfl ?_
        refine b_getR (pc := 81) (b := 42) fl_X6_22 (by decide +kernel) (sh_39 hn) rfl ?_
        refine a_iload_n (pc := 84) (i := 2) (by decide +kernel) rfl ?_
        refine a_aload_n (pc := 85) (i := 0) (by decide +kernel) rfl ?_
        refine b_getR (pc := 86) (b := 42) fl_X6_22 (by decide +kernel) (sh_39 hn) rfl ?_
        refine a_iload_n (pc := 89) (i := 2) (by decide +kernel) rfl ?_
        refine a_iconst (pc := 90) (n := 1) (by decide +kernel) ?_
        refine a_isub (pc := 91) (by decide +kernel) ?_
        refine b_iaload (pc := 92) (by decide +kernel) (sh_42 hn) (by omega) (by omega) (by omega) ?_
        rw [t1]
        refine b_iastore (pc := 93) (by decide +kernel) (sh_42 hn) (by omega) (by omega) (by omega) ?_
        obtain ⟨σ3, hσ3⟩ : ∃ z, z = k_sA τ 42 (j_up (τ.1 42) p r) := ⟨_, rfl⟩
        rw [← hσ3]
        refine a_iinc (pc := 94) (i := 2) (n := -1) (x := p) (lv' := [(0, .ref 39), (1, j_i m), (2, j_i (p + (-1)))]) (by decide +kernel) rfl (Nat.le_of_ble_eq_true rfl) rfl ?_
        refine a_goto (pc := 97) (off := -55) (tgt := 42) (by decide +kernel) (by decide) ?_
        have e42 : σ3.1 42 = j_up (τ.1 42) p r := by rw [hσ3, k_AA]
        exact ih (r :: S) (p + -1) σ3 (by rw [hσ3]; exact lm_fr_A hf (Or.inl rfl)) (by rw [hσ3]; exact hc) (by rw [hL]; simp) (by omega) (by rw [e42]; exact v_seg_congr (fun j j0 j1 => j_upN (by simp at j1; omega)) hPr.1) (by rw [e42]; exact ⟨by rw [show p + -1 + 1 = p by omega, j_upS], v_seg_congr (fun j j0 j1 => j_upN (by omega)) (by rw [show p + -1 + 1 + 1 = p + 1 by omega]; exact hS)⟩) (by rw [hσ3, k_AN (by omega)]; exact hz) (fun s hs => (List.mem_cons.mp hs).elim (fun h => by rw [h]; omega) (hS2 s))
def lm_post (n : Nat) (σ : k_St) : k_P := fun v n' τ => v = none ∧ n' = n ∧ lm_fr σ τ ∧ ∃ l : List Int, τ.2.1 39 6 = (l.length : Int) ∧ v_seg (τ.1 42) 0 l ∧ (∀ x, x ∈ l ↔ m_is σ x) ∧ l.Pairwise (m_lt σ) ∧ l.length ≤ 50 ∧ z43 (τ.1 43) 50
theorem m_is_50 {σ : k_St} (hw : m_wf σ 16) {x : Int} (h : m_is σ x) : x < 50 := by have := hw.1; have := h.2.1; omega
set_option maxHeartbeats 4000000 in
theorem l_lm7 {G : j_G} {X : k_X} {n : Nat} {σ : k_St} (hn : 101 ≤ n) (hw : m_wf σ 16)  : ∀ (k : Nat) (m : Int) (l : List Int) (τ : k_St), 50 - m < (k : Int) → 0 ≤ m → m ≤ 50 → lm_fr σ τ → τ.2.1 39 6 = (l.length : Int) → v_seg (τ.1 42) 0 l → lm_ok σ m l → z43 (τ.1 43) m → j_at G mX6_listMarks 7 [(0, .ref 39), (1, j_i m)] [] (k_h X n τ) 0 0 (k_Q X (lm_post n σ)) := by
  intro k
  induction k with
  | zero => intro m l τ h1 h2 h3; exact absurd h1 (by omega)
  | succ k ih =>
    intro m l τ hk h0 hN hf hc hs hok hz
    obtain ⟨hev, hgo, hmv⟩ := id hw
    refine a_iload_n (pc := 7) (i := 1) (by decide +kernel) rfl ?_
    refine a_bipush (pc := 8) (n := 50) (by decide +kernel) rfl ?_
    refine a_icmp_ge (pc := 10) (off := 113) (tgt := 123) (by decide +kernel) (by decide) (by omega) (by omega) (fun c10 => ?_) (fun c10 => ?_)
    · refine a_return (pc := 123) (by decide +kernel) rfl ?_
      refine k_ret ?_
      refine ⟨rfl, rfl, hf, l, hc, hs, fun x => (hok.1 x).trans ⟨fun q => q.1, fun q => ⟨q, by have := m_is_50 hw q; omega⟩⟩, hok.2.1, by have := hok.2.2; omega, ⟨fun i i0 i1 => hz.1 i i0 (by omega), hz.2⟩⟩
    · refine a_aload_n (pc := 13) (i := 0) (by decide +kernel) rfl ?_
      refine b_getR (pc := 14) (b := 43) fl_X6_28 (by decide +kernel) (sh_39 hn) rfl ?_
      refine a_iload_n (pc := 17) (i := 1) (by decide +kernel) rfl ?_
      refine a_iconst (pc := 18) (n := 0) (by decide +kernel) ?_
      refine b_zastore (pc := 19) (by decide +kernel) (sh_43 hn) (by omega) (by omega) (by omega) (Or.inl rfl) ?_
      obtain ⟨σ1, hσ1⟩ : ∃ z, z = k_sA τ 43 (j_up (τ.1 43) m 0) := ⟨_, rfl⟩
      rw [← hσ1]
      have frσ1 : lm_fr σ σ1 := by rw [hσ1]; exact lm_fr_A hf (Or.inr rfl)
      have e17σ1 : σ1.1 17 = σ.1 17 := frσ1.1 17 (by omega) (by omega)
      have e18σ1 : σ1.1 18 = σ.1 18 := frσ1.1 18 (by omega) (by omega)
      have e19σ1 : σ1.1 19 = σ.1 19 := frσ1.1 19 (by omega) (by omega)
      have e20σ1 : σ1.1 20 = σ.1 20 := frσ1.1 20 (by omega) (by omega)
      have e21σ1 : σ1.1 21 = σ.1 21 := frσ1.1 21 (by omega) (by omega)
      have evσ1 : σ1.2.1 16 5 = σ.2.1 16 5 := frσ1.2.1 16 5 (by omega)
      have hzσ1 : z43 (σ1.1 43) (m + 1) := by rw [hσ1, k_AA]; exact ⟨fun i i0 i1 => by by_cases hi : i = m; rw [hi, j_upS]; rw [j_upN hi]; exact hz.1 i i0 (by omega), fun i => by unfold j_up; split; exact Or.inl rfl; exact hz.2 i⟩
      have hcσ1 : σ1.2.1 39 6 = (l.length : Int) := by rw [hσ1]; exact hc
      have hsσ1 : v_seg (σ1.1 42) 0 l := by rw [hσ1, k_AN (by omega)]; exact hs
      refine a_aload_n (pc := 20) (i := 0) (by decide +kernel) rfl ?_
      refine b_getR (pc := 21) (b := 6) fl_X6_54 (by decide +kernel) (sh_39 hn) rfl ?_
      refine b_getR (pc := 24) (b := 16) fl_X6_131 (by decide +kernel) (sh_6 hn) rfl ?_
      refine a_iload_n (pc := 27) (i := 1) (by decide +kernel) rfl ?_
      refine b_callV (pc := 28) (c' := 0) (sl' := 0) [j_i m] [] ml_X6_135 (by decide +kernel) rfl rfl (sh_16 hn) rfl rfl (Nat.le_of_ble_eq_true rfl) (j_fitI rfl rfl) (s_mhas hn (m_wf_congr (by rw [e17σ1]) (by rw [e18σ1]) (by rw [e19σ1]) (by rw [e20σ1]) (by rw [e21σ1]) (by rw [evσ1]) hw) (by omega)) (fun v n' σ' hq => ?_)
      obtain ⟨x, rfl, e1, e2, hx⟩ := hq
      rw [e1, e2]; clear e1 e2
      rcases hx with ⟨rfl, p28⟩ | ⟨rfl, p28⟩
      · show j_at _ _ _ [(0, .ref 39), (1, j_i m)] [j_i 1] _ _ _ _
        refine a_if_ne (pc := 31) (off := 6) (tgt := 37) (by decide +kernel) (by decide) (by omega) (fun c31 => ?_) (fun c31 => ?_)
        · refine a_aload_n (pc := 37) (i := 0) (by decide +kernel) rfl ?_
          refine b_getI (pc := 38) fl_X6_25 (by decide +kernel) (sh_39 hn) rfl ?_
          rw [show σ1.2.1 39 6 = τ.2.1 39 6 by rw [hσ1]; rfl]
          rw [show τ.2.1 39 6 = (l.length : Int) from hc]
          refine a_istore_n (pc := 41) (i := 2) (lv' := [(0, .ref 39), (1, j_i m), (2, j_i (l.length : Int))]) (by decide +kernel) (Nat.le_of_ble_eq_true rfl) rfl ?_
          have hmi : m_is σ m := by unfold m_is at p28; rw [e21σ1, evσ1] at p28; exact p28
          have hl5 : l.length < 50 := by have := m_is_50 hw hmi; have := hok.2.2; omega
          exact l_lm42 hn hw hmi (fun x hx => ((hok.1 x).mp hx).1) hl5 (fun τ' z q f1 f2 f3 f4 f5 => a_sub (fun q hq => by simp only [List.mem_cons, List.not_mem_nil, or_false] at hq ⊢; rcases hq with rfl | rfl <;> simp) (ih (m + 1) z τ' (by omega) (by omega) (by omega) f1 f2 f3 (lm_ok_ins hmi hok f4) f5)) l.reverse [] (l.length : Int) σ1 frσ1 hcσ1 (by simp) (by simp) (by rw [List.reverse_reverse]; exact hsσ1) trivial hzσ1 (fun _ h => by cases h)
        · exact absurd c31 (by decide)
      · show j_at _ _ _ [(0, .ref 39), (1, j_i m)] [j_i 0] _ _ _ _
        refine a_if_ne (pc := 31) (off := 6) (tgt := 37) (by decide +kernel) (by decide) (by omega) (fun c31 => ?_) (fun c31 => ?_)
        · exact absurd c31 (by decide)
        · refine a_goto (pc := 34) (off := 83) (tgt := 117) (by decide +kernel) (by decide) ?_
          refine a_iinc (pc := 117) (i := 1) (n := 1) (x := m) (lv' := [(0, .ref 39), (1, j_i (m + 1))]) (by decide +kernel) rfl (Nat.le_of_ble_eq_true rfl) rfl ?_
          refine a_goto (pc := 120) (off := -113) (tgt := 7) (by decide +kernel) (by decide) ?_
          have hni : ¬ m_is σ m := fun h => p28 (by unfold m_is; rw [e21σ1, evσ1]; exact h)
          exact ih (m + 1) l σ1 (by omega) (by omega) (by omega) frσ1 hcσ1 hsσ1 (lm_ok_skip hni hok) hzσ1
set_option maxHeartbeats 4000000 in
theorem s_listMarks {G : j_G} {X : k_X} {n : Nat} {σ : k_St} (hn : 101 ≤ n) (hw : m_wf σ 16) (h01 : ∀ i, σ.1 43 i = 0 ∨ σ.1 43 i = 1)  : k_run G X mX6_listMarks [.ref 39] n σ 0 0 (lm_post n σ) := by
  refine k_enter (by decide +kernel) (Nat.le_of_ble_eq_true rfl) ?_
  show j_at _ _ _ [(0, .ref 39)] [] _ _ _ _
  refine a_aload_n (pc := 0) (i := 0) (by decide +kernel) rfl ?_
  refine a_iconst (pc := 1) (n := 0) (by decide +kernel) ?_
  refine b_putI (pc := 2) fl_X6_25 (by decide +kernel) (sh_39 hn) rfl rfl rfl ?_
  obtain ⟨σ1, hσ1⟩ : ∃ z, z = k_sI σ 39 6 0 := ⟨_, rfl⟩
  rw [← hσ1]
  refine a_iconst (pc := 5) (n := 0) (by decide +kernel) ?_
  refine a_istore_n (pc := 6) (i := 1) (lv' := [(0, .ref 39), (1, j_i 0)]) (by decide +kernel) (Nat.le_of_ble_eq_true rfl) rfl ?_
  exact l_lm7 hn hw 51 0 [] σ1 (by omega) (by omega) (by omega) (by rw [hσ1]; exact lm_fr_I lm_fr_r) (by rw [hσ1, k_II]; rfl) trivial ⟨fun x => ⟨fun h => absurd h (by simp), fun h => absurd h.2 (by have := h.1.1; omega)⟩, List.Pairwise.nil, by simp⟩ ⟨fun i i0 i1 => absurd i0 (by omega), by rw [hσ1]; exact h01⟩
