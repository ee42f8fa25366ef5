/-- what of the class the Model's build leaves -/
def cfr (σ τ : k_St) : Prop := (∀ c, c < 81 ∨ 101 ≤ c → τ.1 c = σ.1 c) ∧ (∀ c j, c ≠ 68 ∨ j < 22 ∨ 52 ≤ j → τ.2.1 c j = σ.2.1 c j) ∧ τ.2.2 = σ.2.2
theorem cfr_r {σ : k_St} : cfr σ σ := ⟨fun _ _ => rfl, fun _ _ _ => rfl, rfl⟩
theorem cfr_t {σ τ ρ : k_St} (h : cfr σ τ) (g : cfr τ ρ) : cfr σ ρ := ⟨fun c q => (g.1 c q).trans (h.1 c q), fun c j q => (g.2.1 c j q).trans (h.2.1 c j q), g.2.2.trans h.2.2⟩
theorem cfr_m {σ τ : k_St} (h : mfr σ τ) : cfr σ τ := ⟨fun c q => h.1 c (by omega), fun c j q => h.2.1 c j (by omega), h.2.2⟩
def FX (σ : k_St) (a : Nat) (lm lr : List Int) (od c d : Int) : Prop := (a = 48 ∨ a = 58) ∧ (RKept σ ∧ RPass σ ∧ (1 ≤ σ.2.1 68 11 ∧ σ.2.1 68 11 ≤ 50) ∧ i_wf σ a) ∧ ((∀ x, x ∈ lm ↔ m_is σ x) ∧ lm.Pairwise (m_lt σ)) ∧ ((∀ x, x ∈ lr ↔ h_is σ x) ∧ lr.Pairwise (fun x y => o_rel σ x y od (-1))) ∧ (so (pt_lt (fun x y => o_rel σ x y od (-1))) (σ.1 (a + 1)) (σ.2.1 a 0) ∧ ∀ x, im (σ.1 (a + 1)) (σ.2.1 a 0) x ↔ AS σ (σ.1 69 1382) x) ∧ (σ.2.1 a 5 = pst (σ.1 (a + 2)) (σ.2.1 a 0) ∧ ∀ e, 0 ≤ e → e < σ.2.1 a 0 → PLx (σ.1 17) (σ.1 19) (σ.1 20) (pgM σ) lm c d (σ.1 (a + 2)) (σ.1 (a + 4)) e (σ.1 (a + 1) e)) ∧ (σ.2.1 a 7 = pst (σ.1 (a + 3)) (σ.2.1 a 0) ∧ ∀ e, 0 ≤ e → e < σ.2.1 a 0 → LDx (σ.1 17) (σ.1 19) lm lr (i_body σ a e) (σ.1 (a + 3)) (σ.1 (a + 5)) e (σ.1 (a + 1) e)) ∧ (∀ j, 0 ≤ j → j < σ.2.1 a 7 → i_led σ a (σ.2.1 a 0 + 1).toNat (σ.1 (a + 5) (j * 3)) (σ.1 (a + 5) (j * 3 + 2))) ∧ (so (fun x y : Int => x < y) (σ.1 (a + 6)) (σ.2.1 a 9) ∧ ∀ i, im (σ.1 (a + 6)) (σ.2.1 a 9) i ↔ ∃ e, 0 ≤ e ∧ e < σ.2.1 a 0 ∧ i ∈ b_lo (σ.1 17) (σ.1 19) (σ.1 (a + 1) e) lm (-9)) ∧ ∀ h, 0 ≤ h → h < σ.2.1 8 3 → row_eq σ (a + 7) σ (if 0 < σ.1 14 h then 12 else 9) h
theorem FX_cg {σ τ : k_St} {a : Nat} {lm lr : List Int} {od c d : Int} (h : cfr σ τ) (hF : FX σ a lm lr od c d) : FX τ a lm lr od c d := by
  obtain ⟨ha, ⟨f1, f2, f3, f4⟩, f5, f6, f7, f8, f9, f10, f11, f12⟩ := hF
  have A : ∀ c, c < 81 → τ.1 c = σ.1 c := fun c hc => h.1 c (Or.inl hc)
  have B : ∀ c j, c ≠ 68 → τ.2.1 c j = σ.2.1 c j := fun c j hc => h.2.1 c j (Or.inl hc)
  have em : m_is τ = m_is σ := by funext x; unfold m_is; rw [A 21 (by omega), B 16 5 (by omega)]
  have eh : h_is τ = h_is σ := by funext x; unfold h_is; rw [A 15 (by omega), B 8 3 (by omega)]
  have el : m_lt τ = m_lt σ := by funext x y; unfold m_lt; rw [A 18 (by omega)]
  have eo : (fun x y => o_rel τ x y od (-1)) = (fun x y => o_rel σ x y od (-1)) := by funext x y; exact propext (o_rel_congr (fun c hc => A c (by omega)) (B 33 1 (by omega)))
  have ep : pgM τ = pgM σ := by unfold pgM; rw [A 18 (by omega), h.2.1 68 11 (by omega)]
  have ee : ∀ m, m_epath τ m = m_epath σ m := fun m => by unfold m_epath; rw [A 21 (by omega), A 17 (by omega), A 19 (by omega), B 16 5 (by omega)]
  have ea : AS τ = AS σ := by funext k x; unfold AS; rw [em]; simp only [ee]
  have eb : ∀ e, (i_body τ a e) = i_body σ a e := fun e => propext (i_body_cg (fun c hc => A c hc) ha (B a 0 (by omega)) e).1
  have ei : ∀ m h r, i_led τ a m h r ↔ i_led σ a m h r := fun m h r => i_led_cg (A _ (by omega)) (A _ (by omega)) (A _ (by omega)) (B a 0 (by omega)) (fun k => by rw [A _ (by omega)])
  have er : ∀ h y, (y = 9 ∨ y = 12) → (row_eq τ (a + 7) τ y h ↔ row_eq σ (a + 7) σ y h) := fun h y hy => by
    unfold row_eq
    rw [A (a + 7 + 2) (by omega), A (a + 7 + 1) (by omega), A (y + 2) (by omega), A (y + 1) (by omega)]
  unfold FX
  rw [em, eh, el, eo, ep, ea, A (a + 1) (by omega), A (a + 2) (by omega), A (a + 3) (by omega), A (a + 4) (by omega), A (a + 5) (by omega), A (a + 6) (by omega), A 17 (by omega), A 19 (by omega), A 20 (by omega), A 69 (by omega), A 14 (by omega), B a 0 (by omega), B a 5 (by omega), B a 7 (by omega), B a 9 (by omega), B 8 3 (by omega), h.2.1 68 11 (by omega)]
  refine ⟨ha, ⟨RKept_cg (fun c _ _ => A c (by omega)) (fun c j _ _ => B c j (by omega)) (A 69 (by omega)) f1, RPass_cg (A _ (by omega)) (A _ (by omega)) (A _ (by omega)) (A _ (by omega)) (B _ _ (by omega)) (h.2.1 _ _ (by omega)) f2, f3, i_wf_cg (fun c _ _ => A c (by omega)) (fun j => B a j (by omega)) f4⟩, f5, f6, f7, f8, ⟨f9.1, fun e e0 e1 => by rw [eb e]; exact f9.2 e e0 e1⟩, fun j j0 j1 => by rw [ei]; exact f10 j j0 j1, f11, fun h h0 h1 => by rw [er h _ (by split <;> simp)]; exact f12 h h0 h1⟩
theorem FX_MB {σ : k_St} {a : Nat} {lm lr : List Int} {od c d : Int} {pe : Int → Int} (hF : FX σ a lm lr od c d) (hE : pE σ pe) (hn : σ.2.1 68 25 = σ.2.1 a 0) (hpe : σ.1 (a + 1) = pe) : MB σ pe := by
  obtain ⟨ha, ⟨f1, f2, f3, f4⟩, f5, f6, f7, _⟩ := hF
  refine ⟨f1, f2, f3, hE, fun e e0 e1 => AS_ok f1 ((f7.2 _).mp ⟨e, e0, by omega, by rw [hpe]⟩)⟩
theorem so_ij {lt : Int → Int → Prop} (hir : ∀ x, ¬ lt x x) {f : Int → Int} {n : Int} (h : so lt f n) : ij f n := fun i j i0 i1 j0 j1 w => by
  rcases Int.lt_trichotomy i j with c | c | c
  · have := h i j i0 c j1; rw [w] at this; exact absurd this (hir _)
  · exact c
  · have := h j i j0 c i1; rw [w] at this; exact absurd this (hir _)
theorem FX_BH {σ : k_St} {a : Nat} {lm lr : List Int} {od c d : Int} {pe : Int → Int} (hF : FX σ a lm lr od c d) (hE : pE σ pe) (hn : σ.2.1 68 25 = σ.2.1 a 0) (hpe : σ.1 (a + 1) = pe) : BH σ a pe lm c d := by
  have hB := FX_MB hF hE hn hpe
  obtain ⟨ha, ⟨f1, f2, f3, f4⟩, f5, f6, f7, f8, _⟩ := hF
  refine ⟨ha, hB, f4, ⟨hn.symm, fun e _ _ => by rw [hpe], ?_⟩, f5, by rw [hn]; exact f8.1, fun e e0 e1 => ?_⟩
  · rw [hn, ← hpe]; exact so_ij (fun x => pt_irr (fun x => o_irr)) f7.1
  · rw [← hpe]; exact f8.2 e e0 (by omega)
theorem i_ps_pst {σ : k_St} {a : Nat} {e : Int} (h : e < 150) : i_ps σ a e = pst (σ.1 (a + 2)) e ∧ i_ls σ a e = pst (σ.1 (a + 3)) e := by
  unfold i_ps i_ls pst
  by_cases c : 0 < e
  · refine ⟨?_, ?_⟩
    · rw [if_pos (show 0 < e ∧ e < 150 from ⟨c, h⟩), if_pos c]
    · rw [if_pos (show 0 < e ∧ e < 150 from ⟨c, h⟩), if_pos c]
  · refine ⟨?_, ?_⟩
    · rw [if_neg (show ¬ (0 < e ∧ e < 150) from fun w => c w.1), if_neg c]
    · rw [if_neg (show ¬ (0 < e ∧ e < 150) from fun w => c w.1), if_neg c]
theorem pst_up2 {F : Int → Int} : ∀ {n : Nat}, (∀ e : Int, 0 ≤ e → e < n → pst F e ≤ F e) → ∀ e : Int, 0 ≤ e → e < n → F e ≤ pst F n
  | 0, _, e, e0, e1 => by omega
  | n + 1, h, e, e0, e1 => by
    have s : pst F ((n + 1 : Nat) : Int) = F n := by rw [show ((n + 1 : Nat) : Int) = (n : Int) + 1 by omega, pst_s (by omega)]
    rw [s]
    by_cases c : e = n
    · rw [c]; exact Int.le_refl _
    · have := pst_up2 (fun e e0 e1 => h e e0 (by omega)) e e0 (show e < (n : Int) by omega)
      have := h n (by omega) (by omega)
      omega
theorem FX_DH {σ τ : k_St} {a : Nat} {lm lr : List Int} {od c d : Int} {pe : Int → Int} (hF : FX τ a lm lr od c d) (hE : pE τ pe) (hn : τ.2.1 68 25 = τ.2.1 a 0) (hpe : τ.1 (a + 1) = pe) (h82 : ∀ e, 0 ≤ e → e < τ.2.1 68 25 → τ.1 82 e = τ.1 (a + 2) e - pst (τ.1 (a + 2)) e) : DH τ a pe lm lr od := by
  have hB := FX_MB hF hE hn hpe
  have hH := FX_BH hF hE hn hpe
  obtain ⟨ha, ⟨f1, f2, f3, f4⟩, f5, f6, f7, f8, f9, _⟩ := hF
  have hE1 := hE.1
  refine ⟨ha, hB, f4, hH.2.2.2.1, f5.1, ⟨by rw [hn, ← hpe]; exact f7.1, by rw [hn, ← hpe]; exact f7.2⟩, f6, fun e e0 e1 => ?_, by rw [hn]; exact f9.1, fun e e0 e1 => by rw [← hpe]; exact f9.2 e e0 (by omega)⟩
  obtain ⟨Y, _, y2, _⟩ := f8.2 e e0 (by omega)
  have z := h82 e e0 e1
  refine ⟨?_, by omega⟩
  unfold i_pn
  rw [if_pos ⟨e0, by omega⟩, (i_ps_pst (by omega)).1]; exact z
theorem list_max {α : Type} (f : α → Int) : ∀ {l : List α}, l ≠ [] → ∃ x ∈ l, ∀ y ∈ l, f y ≤ f x
  | [], h => absurd rfl h
  | [x], _ => ⟨x, by simp, fun y hy => by simp at hy; rw [hy]; exact Int.le_refl _⟩
  | x :: y :: t, _ => by
    obtain ⟨z, z1, z2⟩ := list_max f (l := y :: t) (by simp)
    by_cases c : f z ≤ f x
    · refine ⟨x, by simp, fun w hw => ?_⟩
      rcases List.mem_cons.mp hw with e | e
      · rw [e]; exact Int.le_refl _
      · have := z2 w e; omega
    · refine ⟨z, List.mem_cons_of_mem _ z1, fun w hw => ?_⟩
      rcases List.mem_cons.mp hw with e | e
      · rw [e]; omega
      · exact z2 w e
theorem b_ru_ne {K P pg : Int → Int} {p : Int} : ∀ {t : List Int} {o : Int}, (∀ x ∈ t, x ≠ -9) → ((∃ m ∈ t, (K m ≤ 5 ∧ P m = p) ∧ (K m = 0 ∨ K m = 1 ∨ K m = 2)) ∨ o ≠ -9) → b_ru K P pg p t o ≠ []
  | [], o, _, h => by
    rcases h with ⟨m, hm, _⟩ | h
    · exact absurd hm (by simp)
    · unfold b_ru; rw [if_neg h]; simp
  | x :: t, o, hx, h => by
    by_cases c : K x ≤ 5 ∧ P x = p
    · rw [b_ru_y c]
      intro w
      obtain ⟨w1, w2⟩ := List.append_eq_nil_iff.mp w
      by_cases k0 : K x = 0
      · unfold c_r at w1; rw [if_pos k0] at w1; simp at w1
      · by_cases k1 : K x = 1
        · exact b_ru_ne (fun y hy => hx y (List.mem_cons_of_mem _ hy)) (Or.inr (by unfold c_o; rw [if_pos k1]; exact hx x (by simp))) w2
        · by_cases k2 : K x = 2
          · unfold c_r at w1; rw [if_neg k0, if_neg k1, if_pos k2] at w1; split at w1 <;> simp at w1
          · refine b_ru_ne (fun y hy => hx y (List.mem_cons_of_mem _ hy)) ?_ w2
            rcases h with ⟨m, hm, hm2, hm3⟩ | h
            · rcases List.mem_cons.mp hm with e | e
              · rw [e] at hm3; omega
              · exact Or.inl ⟨m, e, hm2, hm3⟩
            · right; unfold c_o; rw [if_neg k1, if_neg k2]; exact h
    · rw [b_ru_n c]
      refine b_ru_ne (fun y hy => hx y (List.mem_cons_of_mem _ hy)) ?_
      rcases h with ⟨m, hm, hm2, hm3⟩ | h
      · rcases List.mem_cons.mp hm with e | e
        · rw [e] at hm2; exact absurd hm2 c
        · exact Or.inl ⟨m, e, hm2, hm3⟩
      · exact Or.inr h
theorem u_melt_ne {d : Int} : ∀ {t R : List (Int × Int)} {r : Int × Int}, u_melt d (r :: R) t ≠ []
  | [], R, r => by show (r :: R).reverse ≠ []; simp
  | x :: t, R, r => by
    show (if 0 < d ∧ x.1 - r.2 ≤ d then _ else _) ≠ _
    split
    · exact u_melt_ne
    · exact u_melt_ne
theorem pl_ne {K P T pg : Int → Int} {p d : Int} {lm : List Int} {Y : List q_T} (h9 : ∀ x ∈ lm, x ≠ -9) (hk : ∀ x ∈ lm, 0 ≤ K x) (h : pl_spec (fun x => x ∈ b_ru K P pg p lm (-9)) (b_ms K P pg T p lm) d Y) (hm : ∃ m ∈ lm, K m ≤ 5 ∧ P m = p) : Y ≠ [] := by
  obtain ⟨W, w1, w2, w3⟩ := h
  intro e
  subst e
  have nms : ∀ y, ¬ b_ms K P pg T p lm y := fun y hy => absurd ((w3 y).mpr (Or.inl hy)) (by simp)
  have nW : W = [] := by
    cases W with
    | nil => rfl
    | cons r t =>
      have : u_melt d [] (r :: t) ≠ [] := u_melt_ne
      obtain ⟨x, hx⟩ := List.exists_mem_of_ne_nil _ this
      exact absurd ((w3 _).mpr (Or.inr ⟨x, hx, rfl⟩)) (by simp)
  obtain ⟨m, m1, m2⟩ := hm
  by_cases c : 3 ≤ K m
  · exact nms _ ⟨m, m1, m2, c, rfl⟩
  · have hne : b_ru K P pg p lm (-9) ≠ [] := b_ru_ne h9 (Or.inl ⟨m, m1, m2, by have := hk m m1; omega⟩)
    obtain ⟨x, x1, x2⟩ := list_max (fun z : Int × Int => z.2 - z.1) hne
    have : x ∈ W := (w2 x).mpr ⟨⟨x1, fun y hy y1 y2 => by
      have z := x2 y hy
      have z : y.2 - y.1 ≤ x.2 - x.1 := z
      exact Prod.ext (by omega) (by omega)⟩, fun ⟨_, t, ht⟩ => nms _ ht⟩
    rw [nW] at this; exact absurd this (by simp)
theorem FX_see {τ : k_St} {a : Nat} {lm lr : List Int} {od c d : Int} {pe : Int → Int} (hF : FX τ a lm lr od c d) (hE : pE τ pe) (hn : τ.2.1 68 25 = τ.2.1 a 0) (hpe : τ.1 (a + 1) = pe) (hD : DH τ a pe lm lr od) {e : Int} (e0 : 0 ≤ e) (e1 : e < τ.2.1 68 25) (h1 : f_head (pe e) 1 = -9) (hb : ¬ i_body τ a e) : pst (τ.1 (a + 3)) e < τ.1 (a + 3) e := by
  have hB := FX_MB hF hE hn hpe
  obtain ⟨ha, ⟨f1, f2, f3, f4⟩, f5, f6, f7, f8, f9, _⟩ := hF
  obtain ⟨_, _, _, ⟨hx1, hx2, hx3⟩, _, hS, _, h82, _, _⟩ := hD
  have hbm := body_1 hB hS hx1 hx2 ⟨e0, e1⟩ (h82 e e0 e1).1 h1
  obtain ⟨L, l1, l2, l3⟩ := f9.2 e e0 (by omega)
  have has := (hS.2 _).mp ⟨e, e0, e1, rfl⟩
  have hh := AS_hd f1 has
  obtain ⟨m, m0, m1, m2⟩ := has
  have mo := mk_ok f1 m1
  have q0 : h_is τ (f_head (τ.1 19 m) 0) := by rcases (okp_hd mo.1).1 with w | w; exact absurd w mo.2.1; exact w
  have g0 := h_is_29 f1 q0
  have i1 : f_hd (f_head (τ.1 19 m) 1) := by rcases (okp_hd mo.1).2.1 with w | w; exact Or.inl w; exact Or.inr (h_is_29 f1 w)
  have i2 : f_hd (f_head (τ.1 19 m) 2) := by rcases (okp_hd mo.1).2.2 with w | w; exact Or.inl w; exact Or.inr (h_is_29 f1 w)
  have ep : pe e = f_path (f_head (τ.1 19 m) 0) (-9) (-9) := by
    rcases (mk_pre f1 m1).mp m2 with w | ⟨w0, w1, w⟩ | ⟨w0, w1, w2, w⟩
    · exact w
    · rw [w, (f_path_heads (Or.inr g0) i1 (Or.inl rfl)).2.1] at h1; exact absurd h1 w1
    · rw [w, (f_path_heads (Or.inr g0) i1 i2).2.1] at h1; exact absurd h1 w1
  have eh := f_path_heads (a := f_head (τ.1 19 m) 0) (b := -9) (c := -9) (Or.inr g0) (Or.inl rfl) (Or.inl rfl)
  rw [← ep] at eh
  have rg := b_rg f1 (m_is_e f1 m1).1 (m_is_e f1 m1).2
  by_cases c5 : 5 < τ.1 17 m
  · have hl := see_live f1 m1 c5
    have hlr := (f6.1 _).mpr hl
    have key : L ≠ [] := by
      rcases l3 with ⟨w, _⟩ | ⟨_, F, hF, al, _, hL⟩
      · rw [hpe] at w; exact absurd ((hin_1 hh.2.1).mpr h1) w
      · rw [hpe, eh.1] at hF
        have hm := hF _ hlr
        rw [hL]
        intro w
        obtain ⟨w1, w2⟩ := List.append_eq_nil_iff.mp w
        rcases hm with ⟨v, _⟩ | ⟨v, _⟩ | ⟨v, v1, v2⟩
        · have : f_head (τ.1 19 m) 1 ∈ lr.filter (fun h => decide (F h = 6)) := List.mem_filter.mpr ⟨hlr, by simpa using v⟩
          rw [List.map_eq_nil_iff] at w1
          rw [w1] at this; exact absurd this (by simp)
        · have : f_head (τ.1 19 m) 1 ∈ lr.filter (fun h => decide (F h = 7)) := List.mem_filter.mpr ⟨hlr, by simpa using v⟩
          rw [List.map_eq_nil_iff] at w2
          rw [w2] at this; exact absurd this (by simp)
        · rcases (show τ.1 17 m = 6 ∨ τ.1 17 m = 7 by omega) with u | u
          · exact v1 ⟨m, (f5.1 m).mpr m1, u, rfl, rfl⟩
          · exact v2 ⟨m, (f5.1 m).mpr m1, u, rfl, rfl⟩
    have : 0 < L.length := List.length_pos_iff.mpr key
    omega
  · exfalso
    by_cases c1 : f_head (τ.1 19 m) 1 = -9
    · have hP : τ.1 19 m = pe e := by
        have := path_heads rg.2.2.1
        rw [c1, mo.2.2 c1] at this
        rw [ep]; exact this.symm
      obtain ⟨Y, _, y2, _, y4⟩ := f8.2 e e0 (by omega)
      have hY : Y ≠ [] := pl_ne (fun x hx w => by have := ((f5.1 x).mp hx).1; omega) (fun x hx => (b_rg f1 (m_is_e f1 ((f5.1 x).mp hx)).1 (m_is_e f1 ((f5.1 x).mp hx)).2).1.1) y4 ⟨m, (f5.1 m).mpr m1, by omega, by rw [hpe]; exact hP⟩
      have : 0 < Y.length := List.length_pos_iff.mpr hY
      refine hb (Or.inl ?_)
      unfold i_pn
      rw [if_pos ⟨e0, by omega⟩, (i_ps_pst (by have := hE.1; omega)).1]; omega
    · have hc : AS τ (τ.1 69 1382) (f_path (f_head (τ.1 19 m) 0) (f_head (τ.1 19 m) 1) (-9)) := ⟨m, m0, m1, (mk_pre f1 m1).mpr (Or.inr (Or.inl ⟨by omega, c1, rfl⟩))⟩
      obtain ⟨g, g0', g1, g2⟩ := (hS.2 _).mpr hc
      have eg := f_path_heads (Or.inr g0) i1 (c := -9) (Or.inl rfl)
      rw [← g2] at eg
      refine hb (hbm.mp (Or.inr (f_count_pos.mpr ⟨g, g0', by have := hE.1; omega, d_cB_y ((ch_1 hE ⟨e0, e1⟩ ⟨g0', g1⟩ h1).mpr ⟨by rw [eg.2.1]; exact c1, eg.2.2, by rw [eg.1, eh.1]⟩)⟩)))
