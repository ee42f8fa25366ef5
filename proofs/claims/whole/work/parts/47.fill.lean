def cp_fr (a : Nat) (σ τ : k_St) : Prop := (∀ c, c ≠ a + 8 → c ≠ a + 9 → τ.1 c = σ.1 c) ∧ τ.2 = σ.2
/-- row h of x in τ is row h of y in σ -/
def row_eq (τ : k_St) (x : Nat) (σ : k_St) (y : Nat) (h : Int) : Prop := τ.1 (x + 2) h = σ.1 (y + 2) h ∧ ∀ i, 0 ≤ i → i < 16 → i < σ.1 (y + 2) h → τ.1 (x + 1) (h * 16 + i) = σ.1 (y + 1) (h * 16 + i)
def cps_post (n : Nat) (σ : k_St) (a : Nat) : k_P := fun v n' τ => v = none ∧ n' = n ∧ cp_fr a σ τ ∧ r_wf τ (a + 7) 30 ∧ ∀ h, 0 ≤ h → h < σ.2.1 8 3 → row_eq τ (a + 7) σ (if 0 < σ.1 14 h then 12 else a + 7) h
set_option maxHeartbeats 4000000 in
theorem l_cps {G : j_G} {X : k_X} {n : Nat} {σ : k_St} (hn : 101 ≤ n) (hwh : h_wf σ 8) {a : Nat} (ha : a = 48 ∨ a = 58) (hA : i_at X n a) (hwr : r_wf σ (a + 7) 30)  : ∀ (m : Nat) (k : Int) (τ : k_St), 30 - k < (m : Int) → 0 ≤ k → k ≤ σ.2.1 8 3 → cp_fr a σ τ → r_wf τ (a + 7) 30 → (∀ h, 0 ≤ h → h < k → row_eq τ (a + 7) σ (if 0 < σ.1 14 h then 12 else a + 7) h) → (∀ h, k ≤ h → h < 30 → row_eq τ (a + 7) σ (a + 7) h) → j_at G mX6_copySorted 2 [(0, .ref 39), (1, .ref (a + 7)), (2, j_i k)] [] (k_h X n τ) 0 0 (k_Q X (cps_post n σ a)) := by
  intro m
  induction m with
  | zero => intro k τ h1 h2 h3; have := hwh.1; exact absurd h1 (by omega)
  | succ m ih =>
    intro k τ hm h0 hN hf hwt hd hr
    obtain ⟨h5, hs0, hs1, hs2, hs3, hs4, hs5, hs6, hs7⟩ := id hA
    have hev := hwh.1
    have hw12 : r_wf τ 12 30 := r_wf_congr (hf.1 13 (by omega) (by omega)) (hf.1 14 (by omega) (by omega)) hwh.2.2.1
    have hc14 : k < 30 → 0 ≤ σ.1 14 k ∧ σ.1 14 k ≤ 16 := fun h => hwh.2.2.1.1 k h0 h
    refine a_iload_n (pc := 2) (i := 2) (by decide +kernel) rfl ?_
    refine a_aload_n (pc := 3) (i := 0) (by decide +kernel) rfl ?_
    refine b_getR (pc := 4) (b := 6) fl_X6_54 (by decide +kernel) (sh_39 hn) rfl ?_
    refine b_getR (pc := 7) (b := 8) fl_X6_78 (by decide +kernel) (sh_6 hn) rfl ?_
    refine b_getI (pc := 10) fl_X6_118 (by decide +kernel) (sh_8 hn) rfl ?_
    rw [show τ.2.1 8 3 = σ.2.1 8 3 from (by rw [hf.2])]
    refine a_icmp_ge (pc := 13) (off := 42) (tgt := 55) (by decide +kernel) (by decide) (by omega) (by omega) (fun c13 => ?_) (fun c13 => ?_)
    · refine a_return (pc := 55) (by decide +kernel) rfl ?_
      refine k_ret ?_
      exact ⟨rfl, rfl, hf, hwt, fun h h0 h1 => hd h h0 (by omega)⟩
    · refine a_aload_n (pc := 16) (i := 0) (by decide +kernel) rfl ?_
      refine b_getR (pc := 17) (b := 6) fl_X6_54 (by decide +kernel) (sh_39 hn) rfl ?_
      refine b_getR (pc := 20) (b := 8) fl_X6_78 (by decide +kernel) (sh_6 hn) rfl ?_
      refine b_getR (pc := 23) (b := 12) fl_X6_141 (by decide +kernel) (sh_8 hn) rfl ?_
      refine a_iload_n (pc := 26) (i := 2) (by decide +kernel) rfl ?_
      refine b_pureV (pc := 27) [j_i k] [] ml_X6_144 (by decide +kernel) rfl rfl (sh_12 hn) rfl rfl (Nat.le_of_ble_eq_true rfl) (j_fitI rfl rfl) (s_countOf (rA_12 hn) hw12 (by omega)) ?_
      rw [show r_cnt τ 12 30 k = σ.1 14 k by unfold r_cnt; rw [if_pos (by omega), hf.1 14 (by omega) (by omega)]]
      show j_at _ _ _ [(0, .ref 39), (1, .ref (a + 7)), (2, j_i k)] [j_i (σ.1 14 k)] _ _ _ _
      refine a_if_le (pc := 30) (off := 19) (tgt := 49) (by decide +kernel) (by decide) (by omega) (fun c30 => ?_) (fun c30 => ?_)
      · refine a_iinc (pc := 49) (i := 2) (n := 1) (x := k) (lv' := [(0, .ref 39), (1, .ref (a + 7)), (2, j_i (k + 1))]) (by decide +kernel) rfl (Nat.le_of_ble_eq_true rfl) rfl ?_
        refine a_goto (pc := 52) (off := -50) (tgt := 2) (by decide +kernel) (by decide) ?_
        refine ih (k + 1) τ (by omega) (by omega) (by omega) hf hwt (fun h h0 h1 => ?_) (fun h h0 h1 => hr h (by omega) h1)
        by_cases q : h = k
        · rw [q, if_neg (by omega)]; exact hr k (by omega) (by omega)
        · exact hd h h0 (by omega)
      · refine a_aload_n (pc := 33) (i := 1) (by decide +kernel) rfl ?_
        refine a_iload_n (pc := 34) (i := 2) (by decide +kernel) rfl ?_
        refine a_aload_n (pc := 35) (i := 0) (by decide +kernel) rfl ?_
        refine b_getR (pc := 36) (b := 6) fl_X6_54 (by decide +kernel) (sh_39 hn) rfl ?_
        refine b_getR (pc := 39) (b := 8) fl_X6_78 (by decide +kernel) (sh_6 hn) rfl ?_
        refine b_getR (pc := 42) (b := 12) fl_X6_141 (by decide +kernel) (sh_8 hn) rfl ?_
        refine a_iload_n (pc := 45) (i := 2) (by decide +kernel) rfl ?_
        refine b_callV (pc := 46) (c' := 0) (sl' := 0) [j_i k, .ref 12, j_i k] [] ml_X6_148 (by decide +kernel) rfl rfl hs7.2.2.1 rfl rfl (Nat.le_of_ble_eq_true rfl) (j_fitI rfl rfl) (s_copyRow hs7 hwt (rA_12 hn) hw12 (by omega) (by omega) (by omega) (by omega) (by omega)) (fun v n' σ' hq => ?_)
        obtain ⟨rfl, e1, e2⟩ := hq
        rw [e1, e2]; clear e1 e2
        obtain ⟨σ1, hσ1⟩ : ∃ z, z = r_cpS τ (a + 7) 12 k k (τ.1 14 k) := ⟨_, rfl⟩
        rw [← hσ1]
        show j_at _ _ _ [(0, .ref 39), (1, .ref (a + 7)), (2, j_i k)] [] _ _ _ _
        refine a_iinc (pc := 49) (i := 2) (n := 1) (x := k) (lv' := [(0, .ref 39), (1, .ref (a + 7)), (2, j_i (k + 1))]) (by decide +kernel) rfl (Nat.le_of_ble_eq_true rfl) rfl ?_
        refine a_goto (pc := 52) (off := -50) (tgt := 2) (by decide +kernel) (by decide) ?_
        have g1 : σ1.1 (a + 7 + 1) = j_cpy (τ.1 13) (τ.1 (a + 7 + 1)) (k * 16) (k * 16) (τ.1 14 k) := by rw [hσ1]; exact r_cpS_1
        have g2 : σ1.1 (a + 7 + 2) = j_up (τ.1 (a + 7 + 2)) k (τ.1 14 k) := by rw [hσ1]; exact r_cpS_2
        have e13 : τ.1 13 = σ.1 13 := hf.1 13 (by omega) (by omega)
        have e14 : τ.1 14 = σ.1 14 := hf.1 14 (by omega) (by omega)
        have hkeep : ∀ (ρ : k_St) (y : Nat) (h : Int), h ≠ k → row_eq τ (a + 7) ρ y h → row_eq σ1 (a + 7) ρ y h := fun ρ y h hne hq => by
          refine ⟨by rw [g2, j_upN hne]; exact hq.1, fun i i0 i1 i2 => ?_⟩
          rw [g1]; unfold j_cpy; rw [if_neg (by rw [e14]; omega)]; exact hq.2 i i0 i1 i2
        refine ih (k + 1) σ1 (by omega) (by omega) (by omega) ⟨fun c q1 q2 => by rw [hσ1, r_cpS_o (by omega) (by omega)]; exact hf.1 c q1 q2, by rw [hσ1]; exact hf.2⟩ (by rw [hσ1]; exact r_cpS_wf hwt hw12 (by rw [e14]; omega) (by rw [e14]; omega)) (fun h h0 h1 => ?_) (fun h h0 h1 => hkeep _ _ h (by omega) (hr h (by omega) h1))
        by_cases q : h = k
        · rw [q, if_pos (by omega)]
          refine ⟨by rw [g2, j_upS, e14], fun i i0 i1 i2 => ?_⟩
          rw [g1]; unfold j_cpy; rw [if_pos (by rw [e14]; have : i < σ.1 14 k := i2; omega), e13, show k * 16 + (k * 16 + i - k * 16) = k * 16 + i by omega]
        · exact hkeep _ _ h q (hd h h0 (by omega))
set_option maxHeartbeats 4000000 in
theorem s_copySorted {G : j_G} {X : k_X} {n : Nat} {σ : k_St} (hn : 101 ≤ n) (hwh : h_wf σ 8) {a : Nat} (ha : a = 48 ∨ a = 58) (hA : i_at X n a) (hwr : r_wf σ (a + 7) 30)  : k_run G X mX6_copySorted [.ref 39, .ref (a + 7)] n σ 0 0 (cps_post n σ a) := by
  refine k_enter (by decide +kernel) (Nat.le_of_ble_eq_true rfl) ?_
  show j_at _ _ _ [(0, .ref 39), (1, .ref (a + 7))] [] _ _ _ _
  refine a_iconst (pc := 0) (n := 0) (by decide +kernel) ?_
  refine a_istore_n (pc := 1) (i := 2) (lv' := [(0, .ref 39), (1, .ref (a + 7)), (2, j_i 0)]) (by decide +kernel) (Nat.le_of_ble_eq_true rfl) rfl ?_
  exact l_cps hn hwh ha hA hwr 31 0 σ (by omega) (by omega) (by have := hwh.1; omega) ⟨fun _ _ _ => rfl, rfl⟩ hwr (fun h h0 h1 => absurd h0 (by omega)) (fun h _ _ => ⟨rfl, fun _ _ _ _ => rfl⟩)
def pst (F : Int → Int) (e : Int) : Int := if 0 < e then F (e - 1) else 0
theorem pst_s {F : Int → Int} {e : Int} (h : 0 ≤ e) : pst F (e + 1) = F e := by unfold pst; rw [if_pos (by omega), show e + 1 - 1 = e by omega]
theorem pst_up {F : Int → Int} {e x k : Int} (h : k ≤ e) : pst (j_up F e x) k = pst F k := by unfold pst; split; rw [j_upN (by omega)]; rfl
def bs_n (K P : Int → Int) (lm : List Int) : List Int → Int
  | [] => 0
  | p :: t => b_n K P p lm + bs_n K P lm t
def bs_l (K P : Int → Int) (lm : List Int) : List Int → Int
  | [] => 0
  | p :: t => (if f_hin p = 1 then b_l K P (f_head p 0) lm else 0) + bs_l K P lm t
theorem bs_n_c {K P : Int → Int} {m : Int} {t : List Int} : ∀ {E : List Int}, E.Nodup → bs_n K P (m :: t) E ≤ bs_n K P t E + (if P m ∈ E then 1 else 0)
  | [], _ => by simp [bs_n]
  | p :: E, h => by
    rw [List.nodup_cons] at h
    have i := bs_n_c (K := K) (P := P) (m := m) (t := t) h.2
    show ((if K m ≤ 5 ∧ P m = p then 1 else 0) + b_n K P p t) + bs_n K P (m :: t) E ≤ b_n K P p t + bs_n K P t E + _
    by_cases q : P m = p
    · have hm : P m ∉ E := by rw [q]; exact h.1
      rw [if_neg hm] at i
      rw [if_pos (show P m ∈ p :: E by rw [q]; exact List.mem_cons_self)]
      split <;> omega
    · rw [if_neg (fun g => q g.2)]
      by_cases r : P m ∈ E
      · rw [if_pos r] at i; rw [if_pos (List.mem_cons_of_mem _ r)]; omega
      · rw [if_neg r] at i; rw [if_neg (fun g => by rcases List.mem_cons.mp g with g | g; exact q g; exact r g)]; omega
theorem bs_n_le {K P : Int → Int} {E : List Int} (h : E.Nodup) : ∀ lm : List Int, bs_n K P lm E ≤ lm.length
  | [] => by
    have : ∀ E : List Int, bs_n K P [] E = 0 := fun E => by induction E with
      | nil => rfl
      | cons p E ih => unfold bs_n; rw [ih]; rfl
    rw [this]; simp
  | m :: t => by
    have i := bs_n_le (K := K) (P := P) h t
    have j := bs_n_c (K := K) (P := P) (m := m) (t := t) h
    rw [List.length_cons]; split at j <;> omega
theorem bs_l_c {K P : Int → Int} {m : Int} {t : List Int} : ∀ {E : List Int}, E.Nodup → (∀ p ∈ E, ∀ q ∈ E, f_hin p = 1 → f_hin q = 1 → f_head p 0 = f_head q 0 → p = q) → bs_l K P (m :: t) E ≤ bs_l K P t E + 1 ∧ ((∀ p ∈ E, ¬ (f_hin p = 1 ∧ f_head (P m) 0 = f_head p 0)) → bs_l K P (m :: t) E = bs_l K P t E)
  | [], _, _ => by simp [bs_l]
  | p :: E, h, hi => by
    rw [List.nodup_cons] at h
    obtain ⟨i, j⟩ := bs_l_c (K := K) (P := P) (m := m) (t := t) h.2 (fun x hx y hy => hi x (List.mem_cons_of_mem _ hx) y (List.mem_cons_of_mem _ hy))
    show (if f_hin p = 1 then (if 5 < K m ∧ f_head (P m) 0 = f_head p 0 then 1 else 0) + b_l K P (f_head p 0) t else 0) + bs_l K P (m :: t) E ≤ (if f_hin p = 1 then b_l K P (f_head p 0) t else 0) + bs_l K P t E + 1 ∧ (_ → (if f_hin p = 1 then (if 5 < K m ∧ f_head (P m) 0 = f_head p 0 then 1 else 0) + b_l K P (f_head p 0) t else 0) + bs_l K P (m :: t) E = (if f_hin p = 1 then b_l K P (f_head p 0) t else 0) + bs_l K P t E)
    by_cases q : f_hin p = 1
    · rw [if_pos q, if_pos q]
      by_cases r : f_head (P m) 0 = f_head p 0
      · have j' := j (fun x hx g => h.1 (by rw [hi p List.mem_cons_self x (List.mem_cons_of_mem _ hx) q g.1 (r.symm.trans g.2)]; exact hx))
        refine ⟨by split <;> omega, fun g => absurd ⟨q, r⟩ (g p List.mem_cons_self)⟩
      · rw [if_neg (fun g => r g.2)]
        exact ⟨by omega, fun g => by rw [j (fun x hx => g x (List.mem_cons_of_mem _ hx))]; omega⟩
    · rw [if_neg q, if_neg q]
      exact ⟨by omega, fun g => by rw [j (fun x hx => g x (List.mem_cons_of_mem _ hx))]⟩
theorem bs_l_le {K P : Int → Int} {E : List Int} (h : E.Nodup) (hi : ∀ p ∈ E, ∀ q ∈ E, f_hin p = 1 → f_hin q = 1 → f_head p 0 = f_head q 0 → p = q) : ∀ lm : List Int, bs_l K P lm E ≤ lm.length
  | [] => by
    have : ∀ E : List Int, bs_l K P [] E = 0 := fun E => by induction E with
      | nil => rfl
      | cons p E ih => unfold bs_l; rw [ih]; simp [b_l]
    rw [this]; simp
  | m :: t => by
    have i := bs_l_le (K := K) (P := P) h hi t
    have j := (bs_l_c (K := K) (P := P) (m := m) (t := t) h hi).1
    rw [List.length_cons]; omega
theorem bs_n_0 {K P : Int → Int} {lm : List Int} : ∀ E : List Int, 0 ≤ bs_n K P lm E
  | [] => by simp [bs_n]
  | p :: E => by have := bs_n_0 (K := K) (P := P) (lm := lm) E; have := (b_n_0 K P p lm).1; unfold bs_n; omega
theorem bs_l_0 {K P : Int → Int} {lm : List Int} : ∀ E : List Int, 0 ≤ bs_l K P lm E
  | [] => by simp [bs_l]
  | p :: E => by have := bs_l_0 (K := K) (P := P) (lm := lm) E; have := (b_l_0 K P (f_head p 0) lm).1; unfold bs_l; split <;> omega
/-- the places of entry e, whose path is p -/
def PL (σ : k_St) (lm : List Int) (c d : Int) (F2 F4 : Int → Int) (e p : Int) : Prop := ∃ Y : List q_T, q_seg F4 (pst F2 e) Y ∧ F2 e = pst F2 e + Y.length ∧ Y.Pairwise (fun x y => q_w c x < q_w c y) ∧ pl_spec (fun x => x ∈ b_ru (σ.1 17) (σ.1 19) (m_pg σ) p lm (-9)) (b_ms (σ.1 17) (σ.1 19) (m_pg σ) (σ.1 20) p lm) d Y
def PI (σ : k_St) (a : Nat) (lm : List Int) (c d : Int) (dn : List Int) (τ : k_St) : Prop := pf_fr a σ τ ∧ i_wf τ a ∧ (∀ k, 0 ≤ k → k < τ.2.1 a 5 → τ.1 (a + 4) (k * 4) ≤ 5) ∧ (∀ i, τ.1 43 i = 0 ∨ τ.1 43 i = 1) ∧ (∀ i, τ.1 43 i = 1 ↔ σ.1 43 i = 1 ∨ ∃ p ∈ dn, i ∈ b_lo (σ.1 17) (σ.1 19) p lm (-9)) ∧ τ.2.1 a 5 = pst (τ.1 (a + 2)) dn.length ∧ ∀ (e : Nat) (h : e < dn.length), PL σ lm c d (τ.1 (a + 2)) (τ.1 (a + 4)) e dn[e] ∧ τ.1 (a + 2) e ≤ τ.2.1 a 5
theorem pf_mwf {σ τ : k_St} {a : Nat} (ha : a = 48 ∨ a = 58) (h : pf_fr a σ τ) (hw : m_wf σ 16) : m_wf τ 16 := m_wf_congr (h.1 _ (by omega) (by omega) (by omega) (by omega) (by omega)) (h.1 _ (by omega) (by omega) (by omega) (by omega) (by omega)) (h.1 _ (by omega) (by omega) (by omega) (by omega) (by omega)) (h.1 _ (by omega) (by omega) (by omega) (by omega) (by omega)) (h.1 _ (by omega) (by omega) (by omega) (by omega) (by omega)) (h.2.1 _ _ (by omega) (by omega) (by omega)) hw
theorem pf_mkw {σ τ : k_St} {a : Nat} (ha : a = 48 ∨ a = 58) (h : pf_fr a σ τ) (hk : mk_wf σ) : mk_wf τ := by
  unfold mk_wf; rw [h.2.1 39 13 (by omega) (by omega) (by omega), h.2.1 39 11 (by omega) (by omega) (by omega), h.2.1 39 12 (by omega) (by omega) (by omega)]; exact hk
theorem pf_mis {σ τ : k_St} {a : Nat} (ha : a = 48 ∨ a = 58) (h : pf_fr a σ τ) (m : Int) : m_is τ m ↔ m_is σ m := by
  unfold m_is; rw [h.1 21 (by omega) (by omega) (by omega) (by omega) (by omega), h.2.1 16 5 (by omega) (by omega) (by omega)]
theorem pf_mpg {σ τ : k_St} {a : Nat} (ha : a = 48 ∨ a = 58) (h : pf_fr a σ τ) : m_pg τ = m_pg σ := by
  funext m; unfold m_pg; rw [h.1 18 (by omega) (by omega) (by omega) (by omega) (by omega), h.2.1 39 13 (by omega) (by omega) (by omega)]
theorem PI_step {σ τ τ' : k_St} {a : Nat} (ha : a = 48 ∨ a = 58) {lm : List Int} {c d p : Int} {dn : List Int} {n n' : Nat} {v : Option Value} (h : PI σ a lm c d dn τ) (hq : pp_post n τ a dn.length (τ.2.1 a 5) c d (b_n (σ.1 17) (σ.1 19) p lm) (fun x => x ∈ b_ru (σ.1 17) (σ.1 19) (m_pg σ) p lm (-9)) (fun i => τ.1 43 i = 1 ∨ i ∈ b_lo (σ.1 17) (σ.1 19) p lm (-9)) (b_ms (σ.1 17) (σ.1 19) (m_pg σ) (σ.1 20) p lm) v n' τ') : PI σ a lm c d (dn ++ [p]) τ' ∧ τ'.2.1 a 5 ≤ τ.2.1 a 5 + b_n (σ.1 17) (σ.1 19) p lm := by
  obtain ⟨h1, h2, h3, h4, h5, h6, h7⟩ := h
  obtain ⟨_, _, q1, q2, q3, q4, q5, Y, q6, q7, q8⟩ := hq
  obtain ⟨y1, y2, y3, y4, y5⟩ := q6
  refine ⟨⟨pf_fr_t h1 q1, y1, y5, q3, fun i => ?_, ?_, fun e he => ?_⟩, by omega⟩
  · rw [q2 i]
    show (τ.1 43 i = 1 ∨ _) ↔ _
    rw [h5 i, or_assoc]
    refine or_congr Iff.rfl ⟨?_, ?_⟩
    · rintro (⟨x, x1, x2⟩ | g)
      · exact ⟨x, List.mem_append_left _ x1, x2⟩
      · exact ⟨p, by simp, g⟩
    · rintro ⟨x, x1, x2⟩
      rcases List.mem_append.mp x1 with g | g
      · exact Or.inl ⟨x, g, x2⟩
      · rw [List.mem_singleton.mp g] at x2; exact Or.inr x2
  · rw [List.length_append, List.length_singleton, show (((dn.length + 1 : Nat)) : Int) = (dn.length : Int) + 1 by omega, pst_s (by omega), q5, j_upS]
  · rw [List.length_append, List.length_singleton] at he
    by_cases g : e < dn.length
    · obtain ⟨⟨Z, z1, z2, z3, z4⟩, z5⟩ := h7 e g
      rw [List.getElem_append_left g, q5, j_upN (by omega)]
      refine ⟨⟨Z, ?_, ?_, z3, z4⟩, by omega⟩
      · rw [pst_up (by omega)]
        refine q_seg_congr (fun j _ j1 => q4 j ?_) z1
        omega
      · rw [pst_up (by omega), j_upN (by omega)]; exact z2
    · have hge : e = dn.length := by omega
      subst hge
      rw [List.getElem_append_right (by omega), q5, j_upS]
      simp only [Nat.sub_self, List.getElem_cons_zero]
      exact ⟨⟨Y, by rw [pst_up (by omega), ← h6]; exact y3, by rw [pst_up (by omega), ← h6, j_upS]; exact y2, y4, q8⟩, by omega⟩
set_option maxHeartbeats 4000000 in
theorem l_fi63 {G : j_G} {X : k_X} {n : Nat} {σ : k_St} (hn : 101 ≤ n) (hw : m_wf σ 16) (hk : mk_wf σ) {a : Nat} (ha : a = 48 ∨ a = 58) (hA : i_at X n a) {c d od x3 x4 x5 : Int} (hcc : σ.2.1 39 12 = c) (hdd : σ.2.1 39 11 = d) {lm E : List Int} (hsl : v_seg (σ.1 42) 0 lm) (hlm : ∀ x ∈ lm, m_is σ x) (hlm5 : lm.length ≤ 50) (hli : σ.2.1 39 6 = (lm.length : Int)) (hE : v_seg (σ.1 (a + 1)) 0 E) (hEc : σ.2.1 a 0 = (E.length : Int)) (hE5 : E.length ≤ 150) (hEp : ∀ p ∈ E, 0 ≤ p ∧ p ≤ 29790) {Q : k_P} (kk : ∀ τ, PI σ a lm c d E τ → j_at G mX6_fill 85 [(0, .ref 39), (1, .ref a), (2, j_i od), (3, j_i x3), (4, j_i x4), (5, j_i x5), (6, j_i (E.length : Int))] [] (k_h X n τ) 0 0 (k_Q X Q))  : ∀ (t dn : List Int) (k : Int) (τ : k_St), E = dn ++ t → k = dn.length → PI σ a lm c d dn τ → τ.2.1 a 5 + bs_n (σ.1 17) (σ.1 19) lm t ≤ 50 → j_at G mX6_fill 63 [(0, .ref 39), (1, .ref a), (2, j_i od), (3, j_i x3), (4, j_i x4), (5, j_i x5), (6, j_i k)] [] (k_h X n τ) 0 0 (k_Q X Q) := by
  intro t
  induction t with
  | nil =>
    intro dn k τ hdn hkd hI hb
    obtain ⟨h5, hs0, hs1, hs2, hs3, hs4, hs5, hs6, hs7⟩ := id hA
    rw [List.append_nil] at hdn
    have hlen : (E.length : Int) = dn.length := by rw [hdn]
    refine a_iload (pc := 63) (i := 6) (by decide +kernel) rfl ?_
    refine a_aload_n (pc := 65) (i := 1) (by decide +kernel) rfl ?_
    refine b_getI (pc := 66) fl_X6_102 (by decide +kernel) hs0 rfl ?_
    rw [show τ.2.1 a 0 = (E.length : Int) from ((hI.1.2.1 a 0 (by omega) (by omega) (by omega)).trans hEc)]
    refine a_icmp_ge (pc := 69) (off := 16) (tgt := 85) (by decide +kernel) (by decide) (by omega) (by omega) (fun c69 => ?_) (fun c69 => ?_)
    · rw [show k = (E.length : Int) by omega]
      exact kk τ (by rw [hdn]; exact hI)
    · exfalso; omega
  | cons p t ih =>
    intro dn k τ hdn hkd hI hb
    obtain ⟨h5, hs0, hs1, hs2, hs3, hs4, hs5, hs6, hs7⟩ := id hA
    have hlen : (E.length : Int) = (dn.length : Int) + 1 + t.length := by rw [hdn]; simp; omega
    have hp : τ.1 (a + 1) k = p := by
      rw [hI.1.1 (a + 1) (by omega) (by omega) (by omega) (by omega) (by omega)]
      rw [hdn] at hE
      have := (v_seg_app.mp hE).2.1
      rw [show (0 : Int) + (dn.length : Int) = k by omega] at this; exact this
    have hpp := hEp p (by rw [hdn]; simp)
    have e17 : τ.1 17 = σ.1 17 := hI.1.1 17 (by omega) (by omega) (by omega) (by omega) (by omega)
    have e19 : τ.1 19 = σ.1 19 := hI.1.1 19 (by omega) (by omega) (by omega) (by omega) (by omega)
    have e20 : τ.1 20 = σ.1 20 := hI.1.1 20 (by omega) (by omega) (by omega) (by omega) (by omega)
    have hb0 := bs_n_0 (K := σ.1 17) (P := σ.1 19) (lm := lm) t
    have hpn : τ.2.1 a 5 + b_n (τ.1 17) (τ.1 19) p lm ≤ 50 := by rw [e17, e19]; unfold bs_n at hb; omega
    refine a_iload (pc := 63) (i := 6) (by decide +kernel) rfl ?_
    refine a_aload_n (pc := 65) (i := 1) (by decide +kernel) rfl ?_
    refine b_getI (pc := 66) fl_X6_102 (by decide +kernel) hs0 rfl ?_
    rw [show τ.2.1 a 0 = (E.length : Int) from ((hI.1.2.1 a 0 (by omega) (by omega) (by omega)).trans hEc)]
    refine a_icmp_ge (pc := 69) (off := 16) (tgt := 85) (by decide +kernel) (by decide) (by omega) (by omega) (fun c69 => ?_) (fun c69 => ?_)
    · exfalso; omega
    · refine a_aload_n (pc := 72) (i := 0) (by decide +kernel) rfl ?_
      refine a_aload_n (pc := 73) (i := 1) (by decide +kernel) rfl ?_
      refine a_iload (pc := 74) (i := 6) (by decide +kernel) rfl ?_
      refine b_callV (pc := 76) (c' := 0) (sl' := 0) [.ref a, j_i k] [] ml_X6_105 (by decide +kernel) rfl rfl (sh_39 hn) rfl rfl (Nat.le_of_ble_eq_true rfl) (j_fitI rfl rfl) (s_addPlaces hn (pf_mwf ha hI.1 hw) (pf_mkw ha hI.1 hk) ha hA (by omega) hI.2.1.2.1.1 hpn ((hI.1.2.1 39 12 (by omega) (by omega) (by omega)).trans hcc) ((hI.1.2.1 39 11 (by omega) (by omega) (by omega)).trans hdd) hp hpp (by rw [hI.1.1 42 (by omega) (by omega) (by omega) (by omega) (by omega)]; exact hsl) (fun x hx => (pf_mis ha hI.1 x).mpr (hlm x hx)) hlm5 ((hI.1.2.1 39 6 (by omega) (by omega) (by omega)).trans hli) hI.2.1 rfl hI.2.2.1 hI.2.2.2.1 rfl) (fun v n' σ' hq => ?_)
      obtain ⟨σ1, hσ1⟩ : ∃ z, z = σ' := ⟨_, rfl⟩
      rw [← hσ1] at hq ⊢
      have e1 := hq.2.1
      have e0 := hq.1
      subst e0
      rw [e17, e19, e20, pf_mpg ha hI.1, hkd] at hq
      obtain ⟨Jσ1, bσ1⟩ := PI_step ha hI hq
      rw [e1]; clear e1
      show j_at _ _ _ [(0, .ref 39), (1, .ref a), (2, j_i od), (3, j_i x3), (4, j_i x4), (5, j_i x5), (6, j_i k)] [] _ _ _ _
      refine a_iinc (pc := 79) (i := 6) (n := 1) (x := k) (lv' := [(0, .ref 39), (1, .ref a), (2, j_i od), (3, j_i x3), (4, j_i x4), (5, j_i x5), (6, j_i (k + 1))]) (by decide +kernel) rfl (Nat.le_of_ble_eq_true rfl) rfl ?_
      refine a_goto (pc := 82) (off := -19) (tgt := 63) (by decide +kernel) (by decide) ?_
      exact ih (dn ++ [p]) (k + 1) σ1 (by rw [hdn]; simp) (by simp; omega) Jσ1 (by unfold bs_n at hb; omega)
