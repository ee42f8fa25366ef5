def fl_fr (σ τ : k_St) : Prop := (∀ c, c ≠ 44 → τ.1 c = σ.1 c) ∧ τ.2 = σ.2
theorem fl_fr_A {σ τ : k_St} {f : Int → Int} (h : fl_fr σ τ) : fl_fr σ (k_sA τ 44 f) := ⟨fun c h1 => by rw [k_AN h1]; exact h.1 c h1, h.2⟩
def ld_k (K P : Int → Int) (lm : List Int) (f kd h : Int) : Prop := ∃ m ∈ lm, K m = kd ∧ f_head (P m) 0 = f ∧ f_head (P m) 1 = h
/-- by what a head is led to: 6 a see, 7 else an also, -9 none -/
def ld_by (K P : Int → Int) (lm : List Int) (f h v : Int) : Prop := (v = 6 ∧ ld_k K P lm f 6 h) ∨ (v = 7 ∧ ld_k K P lm f 7 h ∧ ¬ ld_k K P lm f 6 h) ∨ (v = -9 ∧ ¬ ld_k K P lm f 6 h ∧ ¬ ld_k K P lm f 7 h)
theorem ld_k_app {K P : Int → Int} {dn : List Int} {x f kd h : Int} : ld_k K P (dn ++ [x]) f kd h ↔ ld_k K P dn f kd h ∨ (K x = kd ∧ f_head (P x) 0 = f ∧ f_head (P x) 1 = h) := by
  unfold ld_k
  constructor
  · rintro ⟨m, m1, m2⟩
    rcases List.mem_append.mp m1 with h | h
    · exact Or.inl ⟨m, h, m2⟩
    · rw [List.mem_singleton.mp h] at m2; exact Or.inr m2
  · rintro (⟨m, m1, m2⟩ | m2)
    · exact ⟨m, List.mem_append_left _ m1, m2⟩
    · exact ⟨x, by simp, m2⟩
theorem ld_step {K P : Int → Int} {dn : List Int} {x f h v v' : Int} (hK : K x ≤ 7) (hv : ld_by K P dn f h v) (hy : 5 < K x ∧ f_head (P x) 0 = f ∧ f_head (P x) 1 = h → (v = 6 ∧ v' = 6) ∨ (v ≠ 6 ∧ v' = K x)) (hno : ¬ (5 < K x ∧ f_head (P x) 0 = f ∧ f_head (P x) 1 = h) → v' = v) : ld_by K P (dn ++ [x]) f h v' := by
  unfold ld_by at hv ⊢
  rw [ld_k_app, ld_k_app]
  by_cases hc : 5 < K x ∧ f_head (P x) 0 = f ∧ f_head (P x) 1 = h
  · have h2 := hc.2
    rcases hy hc with ⟨h3, h4⟩ | ⟨h3, h4⟩
    · rcases hv with hv | hv | hv
      · exact Or.inl ⟨h4, Or.inl hv.2⟩
      · exact absurd (h3.symm.trans hv.1) (by decide)
      · exact absurd (h3.symm.trans hv.1) (by decide)
    · rcases (show K x = 6 ∨ K x = 7 by omega) with h5 | h5
      · exact Or.inl ⟨h4.trans h5, Or.inr ⟨h5, h2⟩⟩
      · have h6 : ¬ ld_k K P dn f 6 h := by rcases hv with hv | hv | hv; exact absurd hv.1 h3; exact hv.2.2; exact hv.2.1
        exact Or.inr (Or.inl ⟨h4.trans h5, Or.inr ⟨h5, h2⟩, fun q => q.elim h6 (fun q => by have := q.1; omega)⟩)
  · rw [hno hc]
    have g6 : ¬ (K x = 6 ∧ f_head (P x) 0 = f ∧ f_head (P x) 1 = h) := fun q => hc ⟨by omega, q.2⟩
    have g7 : ¬ (K x = 7 ∧ f_head (P x) 0 = f ∧ f_head (P x) 1 = h) := fun q => hc ⟨by omega, q.2⟩
    rcases hv with hv | hv | hv
    · exact Or.inl ⟨hv.1, Or.inl hv.2⟩
    · exact Or.inr (Or.inl ⟨hv.1, Or.inl hv.2.1, fun q => q.elim hv.2.2 g6⟩)
    · exact Or.inr (Or.inr ⟨hv.1, fun q => q.elim hv.2.1 g6, fun q => q.elim hv.2.2 g7⟩)
def fl_post (n : Nat) (σ : k_St) (lm : List Int) (f : Int) : k_P := fun v n' τ => v = none ∧ n' = n ∧ fl_fr σ τ ∧ (∀ i, 0 ≤ i → i < 30 → -9 ≤ τ.1 44 i ∧ τ.1 44 i ≤ 7) ∧ ∀ h, h_is σ h → ld_by (σ.1 17) (σ.1 19) lm f h (τ.1 44 h)
theorem fl_his {σ τ : k_St} (hf : fl_fr σ τ) (h : Int) : h_is τ h ↔ h_is σ h := by unfold h_is; rw [hf.1 15 (by omega), hf.2]
theorem fl_mis {σ τ : k_St} (hf : fl_fr σ τ) (h : Int) : m_is τ h ↔ m_is σ h := by unfold m_is; rw [hf.1 21 (by omega), hf.2]
theorem fl_mwf {σ τ : k_St} (hf : fl_fr σ τ) (hw : m_wf σ 16) : m_wf τ 16 := m_wf_congr (hf.1 _ (by omega)) (hf.1 _ (by omega)) (hf.1 _ (by omega)) (hf.1 _ (by omega)) (hf.1 _ (by omega)) (by rw [hf.2]) hw
theorem fl_hwf {σ τ : k_St} (hf : fl_fr σ τ) (hw : h_wf σ 8) : h_wf τ 8 := h_wf_congr (hf.1 _ (by omega)) (hf.1 _ (by omega)) (hf.1 _ (by omega)) (hf.1 _ (by omega)) (hf.1 _ (by omega)) (by rw [hf.2]) hw
set_option maxHeartbeats 4000000 in
theorem l_fl24 {G : j_G} {X : k_X} {n : Nat} {σ : k_St} (hn : 101 ≤ n) (hw : m_wf σ 16) (hwh : h_wf σ 8) {f : Int} (hfr : -9 ≤ f ∧ f ≤ 29) {lm : List Int} (hsl : v_seg (σ.1 42) 0 lm) (hlm : ∀ x ∈ lm, m_is σ x) (hlm5 : lm.length ≤ 50) (hli : σ.2.1 39 6 = (lm.length : Int))  : ∀ (t dn : List Int) (k : Int) (τ : k_St), lm = dn ++ t → k = dn.length → fl_fr σ τ → (∀ i, 0 ≤ i → i < 30 → -9 ≤ τ.1 44 i ∧ τ.1 44 i ≤ 7) → (∀ h, h_is σ h → ld_by (σ.1 17) (σ.1 19) dn f h (τ.1 44 h)) → j_at G mX6_findLeads 24 [(0, .ref 39), (1, j_i f), (2, j_i k)] [] (k_h X n τ) 0 0 (k_Q X (fl_post n σ lm f)) := by
  intro t
  induction t with
  | nil =>
    intro dn k τ hdn hkd hf hr hd
    rw [List.append_nil] at hdn
    have hlen : (lm.length : Int) = dn.length := by rw [hdn]
    refine a_iload_n (pc := 24) (i := 2) (by decide +kernel) rfl ?_
    refine a_aload_n (pc := 25) (i := 0) (by decide +kernel) rfl ?_
    refine b_getI (pc := 26) fl_X6_25 (by decide +kernel) (sh_39 hn) rfl ?_
    rw [show τ.2.1 39 6 = (lm.length : Int) from (by rw [hf.2]; exact hli)]
    refine a_icmp_ge (pc := 29) (off := 106) (tgt := 135) (by decide +kernel) (by decide) (by omega) (by omega) (fun c29 => ?_) (fun c29 => ?_)
    · refine a_return (pc := 135) (by decide +kernel) rfl ?_
      refine k_ret ?_
      exact ⟨rfl, rfl, hf, hr, by rw [hdn]; exact hd⟩
    · exfalso; omega
  | cons x t ih =>
    intro dn k τ hdn hkd hf hr hd
    have hlen : (lm.length : Int) = (dn.length : Int) + 1 + t.length := by rw [hdn]; simp; omega
    have hx := hlm x (by rw [hdn]; simp)
    have hx5 := m_is_50 hw hx
    have hx0 := hx.1
    have hmt := (fl_mis hf x).mpr hx
    have hwt := fl_mwf hf hw
    have hwht := fl_hwf hf hwh
    have hs42 : σ.1 42 k = x := by
      rw [hdn] at hsl
      have := (v_seg_app.mp hsl).2.1
      rw [show (0 : Int) + (dn.length : Int) = k by omega] at this; exact this
    have hK : σ.1 17 x ≤ 7 := (hw.2.2 x hx.1 hx.2.1).1.2
    have hK0 : 0 ≤ σ.1 17 x := (hw.2.2 x hx.1 hx.2.1).1.1
    refine a_iload_n (pc := 24) (i := 2) (by decide +kernel) rfl ?_
    refine a_aload_n (pc := 25) (i := 0) (by decide +kernel) rfl ?_
    refine b_getI (pc := 26) fl_X6_25 (by decide +kernel) (sh_39 hn) rfl ?_
    rw [show τ.2.1 39 6 = (lm.length : Int) from (by rw [hf.2]; exact hli)]
    refine a_icmp_ge (pc := 29) (off := 106) (tgt := 135) (by decide +kernel) (by decide) (by omega) (by omega) (fun c29 => ?_) (fun c29 => ?_)
    · exfalso; omega
    · refine a_aload_n (pc := 32) (i := 0) (by decide +kernel) rfl ?_
      refine b_getR (pc := 33) (b := 42) fl_X6_22 (by decide +kernel) (sh_39 hn) rfl ?_
      refine a_iload_n (pc := 36) (i := 2) (by decide +kernel) rfl ?_
      refine b_iaload (pc := 37) (by decide +kernel) (sh_42 hn) (by omega) (by omega) (by omega) ?_
      rw [show τ.1 42 = σ.1 42 from hf.1 42 (by omega)]
      rw [hs42]
      refine a_istore_n (pc := 38) (i := 3) (lv' := [(0, .ref 39), (1, j_i f), (2, j_i k), (3, j_i x)]) (by decide +kernel) (Nat.le_of_ble_eq_true rfl) rfl ?_
      refine a_aload_n (pc := 39) (i := 0) (by decide +kernel) rfl ?_
      refine b_getR (pc := 40) (b := 6) fl_X6_54 (by decide +kernel) (sh_39 hn) rfl ?_
      refine b_getR (pc := 43) (b := 16) fl_X6_131 (by decide +kernel) (sh_6 hn) rfl ?_
      refine a_iload_n (pc := 46) (i := 3) (by decide +kernel) rfl ?_
      refine a_iconst (pc := 47) (n := 1) (by decide +kernel) ?_
      refine b_pureV (pc := 48) [j_i x, j_i 1] [] ml_X6_253 (by decide +kernel) rfl rfl (sh_16 hn) rfl rfl (Nat.le_of_ble_eq_true rfl) (j_fitI rfl rfl) (s_mheadAt hn hwt (by omega) (by omega)) ?_
      rw [m_head_is hmt, hf.1 19 (by omega)]
      have qh1 := f_head_in (σ.1 19 x) 1
      show j_at _ _ _ [(0, .ref 39), (1, j_i f), (2, j_i k), (3, j_i x)] [j_i (f_head (σ.1 19 x) 1)] _ _ _ _
      refine a_istore (pc := 51) (i := 4) (lv' := [(0, .ref 39), (1, j_i f), (2, j_i k), (3, j_i x), (4, j_i (f_head (σ.1 19 x) 1))]) (by decide +kernel) (Nat.le_of_ble_eq_true rfl) rfl ?_
      refine a_aload_n (pc := 53) (i := 0) (by decide +kernel) rfl ?_
      refine b_getR (pc := 54) (b := 6) fl_X6_54 (by decide +kernel) (sh_39 hn) rfl ?_
      refine b_getR (pc := 57) (b := 16) fl_X6_131 (by decide +kernel) (sh_6 hn) rfl ?_
      refine a_iload_n (pc := 60) (i := 3) (by decide +kernel) rfl ?_
      refine b_callV (pc := 61) (c' := 0) (sl' := 0) [j_i x] [] ml_X6_179 (by decide +kernel) rfl rfl (sh_16 hn) rfl rfl (Nat.le_of_ble_eq_true rfl) (j_fitI rfl rfl) (s_isLead hn hwt (by omega)) (fun v n' σ' hq => ?_)
      obtain ⟨x, rfl, e1, e2, hx⟩ := hq
      rw [e1, e2]; clear e1 e2
      rcases hx with ⟨rfl, p61⟩ | ⟨rfl, p61⟩
      · show j_at _ _ _ [(0, .ref 39), (1, j_i f), (2, j_i k), (3, j_i x), (4, j_i (f_head (σ.1 19 x) 1))] [j_i 1] _ _ _ _
        have hld : 5 < σ.1 17 x := by have := p61.2; rw [hf.1 17 (by omega)] at this; exact this
        refine a_if_eq (pc := 64) (off := 65) (tgt := 129) (by decide +kernel) (by decide) (by omega) (fun c64 => ?_) (fun c64 => ?_)
        · exact absurd c64 (by decide)
        · refine a_aload_n (pc := 67) (i := 0) (by decide +kernel) rfl ?_
          refine b_getR (pc := 68) (b := 6) fl_X6_54 (by decide +kernel) (sh_39 hn) rfl ?_
          refine b_getR (pc := 71) (b := 16) fl_X6_131 (by decide +kernel) (sh_6 hn) rfl ?_
          refine a_iload_n (pc := 74) (i := 3) (by decide +kernel) rfl ?_
          refine a_iconst (pc := 75) (n := 0) (by decide +kernel) ?_
          refine b_pureV (pc := 76) [j_i x, j_i 0] [] ml_X6_253 (by decide +kernel) rfl rfl (sh_16 hn) rfl rfl (Nat.le_of_ble_eq_true rfl) (j_fitI rfl rfl) (s_mheadAt hn hwt (by omega) (by omega)) ?_
          rw [m_head_is hmt, hf.1 19 (by omega)]
          have qh0 := f_head_in (σ.1 19 x) 0
          show j_at _ _ _ [(0, .ref 39), (1, j_i f), (2, j_i k), (3, j_i x), (4, j_i (f_head (σ.1 19 x) 1))] [j_i (f_head (σ.1 19 x) 0)] _ _ _ _
          refine a_iload_n (pc := 79) (i := 1) (by decide +kernel) rfl ?_
          refine a_icmp_ne (pc := 80) (off := 49) (tgt := 129) (by decide +kernel) (by decide) (by omega) (by omega) (fun c80 => ?_) (fun c80 => ?_)
          · refine a_iinc (pc := 129) (i := 2) (n := 1) (x := k) (lv' := [(0, .ref 39), (1, j_i f), (2, j_i (k + 1)), (3, j_i x), (4, j_i (f_head (σ.1 19 x) 1))]) (by decide +kernel) rfl (Nat.le_of_ble_eq_true rfl) rfl ?_
            refine a_goto (pc := 132) (off := -108) (tgt := 24) (by decide +kernel) (by decide) ?_
            refine a_sub (pc := 24) (lv' := [(0, .ref 39), (1, j_i f), (2, j_i (k + 1))]) (fun q hq => by simp only [List.mem_cons, List.not_mem_nil, or_false] at hq ⊢; rcases hq with rfl | rfl | rfl <;> simp) (ih (dn ++ [x]) (k + 1) τ (by rw [hdn]; simp) (by simp; omega) hf (hr) (fun h hh => ld_step hK (hd h hh) ?_ ?_))
            · intro q
              first | exact absurd q.1 hld | exact absurd q.2.1 c80 | exact absurd ((fl_his hf _).mpr (by rw [q.2.2]; exact hh)) p92 | exact Or.inl ⟨by rw [← q.2.2]; exact c107, by rw [← q.2.2]; exact c107⟩
            · intro _; rfl
          · refine a_aload_n (pc := 83) (i := 0) (by decide +kernel) rfl ?_
            refine b_getR (pc := 84) (b := 6) fl_X6_54 (by decide +kernel) (sh_39 hn) rfl ?_
            refine b_getR (pc := 87) (b := 8) fl_X6_78 (by decide +kernel) (sh_6 hn) rfl ?_
            refine a_iload (pc := 90) (i := 4) (by decide +kernel) rfl ?_
            refine b_callV (pc := 92) (c' := 0) (sl' := 0) [j_i (f_head (σ.1 19 x) 1)] [] ml_X6_121 (by decide +kernel) rfl rfl (sh_8 hn) rfl rfl (Nat.le_of_ble_eq_true rfl) (j_fitI rfl rfl) (s_hhas hn hwht (by omega)) (fun v n' σ' hq => ?_)
            obtain ⟨x, rfl, e1, e2, hx⟩ := hq
            rw [e1, e2]; clear e1 e2
            rcases hx with ⟨rfl, p92⟩ | ⟨rfl, p92⟩
            · show j_at _ _ _ [(0, .ref 39), (1, j_i f), (2, j_i k), (3, j_i x), (4, j_i (f_head (σ.1 19 x) 1))] [j_i 1] _ _ _ _
              have ht5 : 0 ≤ f_head (σ.1 19 x) 1 ∧ f_head (σ.1 19 x) 1 < 30 := ⟨p92.1, by have := p92.2.1; have := hwht.1; omega⟩
              have hr4 := hr _ ht5.1 ht5.2
              refine a_if_eq (pc := 95) (off := 34) (tgt := 129) (by decide +kernel) (by decide) (by omega) (fun c95 => ?_) (fun c95 => ?_)
              · exact absurd c95 (by decide)
              · refine a_aload_n (pc := 98) (i := 0) (by decide +kernel) rfl ?_
                refine b_getR (pc := 99) (b := 44) fl_X6_32 (by decide +kernel) (sh_39 hn) rfl ?_
                refine a_iload (pc := 102) (i := 4) (by decide +kernel) rfl ?_
                refine b_iaload (pc := 104) (by decide +kernel) (sh_44 hn) (by omega) (by omega) (by omega) ?_
                refine a_bipush (pc := 105) (n := 6) (by decide +kernel) rfl ?_
                refine a_icmp_eq (pc := 107) (off := 22) (tgt := 129) (by decide +kernel) (by decide) (by omega) (by omega) (fun c107 => ?_) (fun c107 => ?_)
                · refine a_iinc (pc := 129) (i := 2) (n := 1) (x := k) (lv' := [(0, .ref 39), (1, j_i f), (2, j_i (k + 1)), (3, j_i x), (4, j_i (f_head (σ.1 19 x) 1))]) (by decide +kernel) rfl (Nat.le_of_ble_eq_true rfl) rfl ?_
                  refine a_goto (pc := 132) (off := -108) (tgt := 24) (by decide +kernel) (by decide) ?_
                  refine a_sub (pc := 24) (lv' := [(0, .ref 39), (1, j_i f), (2, j_i (k + 1))]) (fun q hq => by simp only [List.mem_cons, List.not_mem_nil, or_false] at hq ⊢; rcases hq with rfl | rfl | rfl <;> simp) (ih (dn ++ [x]) (k + 1) τ (by rw [hdn]; simp) (by simp; omega) hf (hr) (fun h hh => ld_step hK (hd h hh) ?_ ?_))
                  · intro q
                    first | exact absurd q.1 hld | exact absurd q.2.1 c80 | exact absurd ((fl_his hf _).mpr (by rw [q.2.2]; exact hh)) p92 | exact Or.inl ⟨by rw [← q.2.2]; exact c107, by rw [← q.2.2]; exact c107⟩
                  · intro _; rfl
                · refine a_aload_n (pc := 110) (i := 0) (by decide +kernel) rfl ?_
                  refine b_getR (pc := 111) (b := 44) fl_X6_32 (by decide +kernel) (sh_39 hn) rfl ?_
                  refine a_iload (pc := 114) (i := 4) (by decide +kernel) rfl ?_
                  refine a_aload_n (pc := 116) (i := 0) (by decide +kernel) rfl ?_
                  refine b_getR (pc := 117) (b := 6) fl_X6_54 (by decide +kernel) (sh_39 hn) rfl ?_
                  refine b_getR (pc := 120) (b := 16) fl_X6_131 (by decide +kernel) (sh_6 hn) rfl ?_
                  refine b_getR (pc := 123) (b := 17) fl_X6_218 (by decide +kernel) (sh_16 hn) rfl ?_
                  refine a_iload_n (pc := 126) (i := 3) (by decide +kernel) rfl ?_
                  refine b_iaload (pc := 127) (by decide +kernel) (sh_17 hn) (by omega) (by omega) (by omega) ?_
                  rw [show τ.1 17 = σ.1 17 from hf.1 17 (by omega)]
                  refine b_iastore (pc := 128) (by decide +kernel) (sh_44 hn) (by omega) (by omega) (by omega) ?_
                  obtain ⟨σ1, hσ1⟩ : ∃ z, z = k_sA τ 44 (j_up (τ.1 44) (f_head (σ.1 19 x) 1) (σ.1 17 x)) := ⟨_, rfl⟩
                  rw [← hσ1]
                  refine a_iinc (pc := 129) (i := 2) (n := 1) (x := k) (lv' := [(0, .ref 39), (1, j_i f), (2, j_i (k + 1)), (3, j_i x), (4, j_i (f_head (σ.1 19 x) 1))]) (by decide +kernel) rfl (Nat.le_of_ble_eq_true rfl) rfl ?_
                  refine a_goto (pc := 132) (off := -108) (tgt := 24) (by decide +kernel) (by decide) ?_
                  refine a_sub (pc := 24) (lv' := [(0, .ref 39), (1, j_i f), (2, j_i (k + 1))]) (fun q hq => by simp only [List.mem_cons, List.not_mem_nil, or_false] at hq ⊢; rcases hq with rfl | rfl | rfl <;> simp) (ih (dn ++ [x]) (k + 1) σ1 (by rw [hdn]; simp) (by simp; omega) (by rw [hσ1]; exact fl_fr_A hf) (fun i i0 i1 => by rw [hσ1, k_AA]; unfold j_up; split; omega; exact hr i i0 i1) (fun h hh => ld_step hK (hd h hh) ?_ ?_))
                  · intro q
                    refine Or.inr ⟨by rw [← q.2.2]; exact c107, ?_⟩
                    rw [hσ1, k_AA, q.2.2, j_upS]
                  · intro q
                    rw [hσ1, k_AA, j_upN (fun g => q ⟨hld, c80, g.symm⟩)]
            · show j_at _ _ _ [(0, .ref 39), (1, j_i f), (2, j_i k), (3, j_i x), (4, j_i (f_head (σ.1 19 x) 1))] [j_i 0] _ _ _ _
              refine a_if_eq (pc := 95) (off := 34) (tgt := 129) (by decide +kernel) (by decide) (by omega) (fun c95 => ?_) (fun c95 => ?_)
              · refine a_iinc (pc := 129) (i := 2) (n := 1) (x := k) (lv' := [(0, .ref 39), (1, j_i f), (2, j_i (k + 1)), (3, j_i x), (4, j_i (f_head (σ.1 19 x) 1))]) (by decide +kernel) rfl (Nat.le_of_ble_eq_true rfl) rfl ?_
                refine a_goto (pc := 132) (off := -108) (tgt := 24) (by decide +kernel) (by decide) ?_
                refine a_sub (pc := 24) (lv' := [(0, .ref 39), (1, j_i f), (2, j_i (k + 1))]) (fun q hq => by simp only [List.mem_cons, List.not_mem_nil, or_false] at hq ⊢; rcases hq with rfl | rfl | rfl <;> simp) (ih (dn ++ [x]) (k + 1) τ (by rw [hdn]; simp) (by simp; omega) hf (hr) (fun h hh => ld_step hK (hd h hh) ?_ ?_))
                · intro q
                  first | exact absurd q.1 hld | exact absurd q.2.1 c80 | exact absurd ((fl_his hf _).mpr (by rw [q.2.2]; exact hh)) p92 | exact Or.inl ⟨by rw [← q.2.2]; exact c107, by rw [← q.2.2]; exact c107⟩
                · intro _; rfl
              · exact absurd c95 (by decide)
      · show j_at _ _ _ [(0, .ref 39), (1, j_i f), (2, j_i k), (3, j_i x), (4, j_i (f_head (σ.1 19 x) 1))] [j_i 0] _ _ _ _
        have hld : ¬ 5 < σ.1 17 x := fun h => p61 ⟨hmt, by rw [hf.1 17 (by omega)]; exact h⟩
        refine a_if_eq (pc := 64) (off := 65) (tgt := 129) (by decide +kernel) (by decide) (by omega) (fun c64 => ?_) (fun c64 => ?_)
        · refine a_iinc (pc := 129) (i := 2) (n := 1) (x := k) (lv' := [(0, .ref 39), (1, j_i f), (2, j_i (k + 1)), (3, j_i x), (4, j_i (f_head (σ.1 19 x) 1))]) (by decide +kernel) rfl (Nat.le_of_ble_eq_true rfl) rfl ?_
          refine a_goto (pc := 132) (off := -108) (tgt := 24) (by decide +kernel) (by decide) ?_
          refine a_sub (pc := 24) (lv' := [(0, .ref 39), (1, j_i f), (2, j_i (k + 1))]) (fun q hq => by simp only [List.mem_cons, List.not_mem_nil, or_false] at hq ⊢; rcases hq with rfl | rfl | rfl <;> simp) (ih (dn ++ [x]) (k + 1) τ (by rw [hdn]; simp) (by simp; omega) hf (hr) (fun h hh => ld_step hK (hd h hh) ?_ ?_))
          · intro q
            first | exact absurd q.1 hld | exact absurd q.2.1 c80 | exact absurd ((fl_his hf _).mpr (by rw [q.2.2]; exact hh)) p92 | exact Or.inl ⟨by rw [← q.2.2]; exact c107, by rw [← q.2.2]; exact c107⟩
          · intro _; rfl
        · exact absurd c64 (by decide)
set_option maxHeartbeats 4000000 in
theorem l_fl2 {G : j_G} {X : k_X} {n : Nat} {σ : k_St} (hn : 101 ≤ n) (hw : m_wf σ 16) (hwh : h_wf σ 8) {f : Int} (hfr : -9 ≤ f ∧ f ≤ 29) {lm : List Int} (hsl : v_seg (σ.1 42) 0 lm) (hlm : ∀ x ∈ lm, m_is σ x) (hlm5 : lm.length ≤ 50) (hli : σ.2.1 39 6 = (lm.length : Int))  : ∀ (m : Nat) (k : Int) (τ : k_St), 30 - k < (m : Int) → 0 ≤ k → k ≤ 30 → fl_fr σ τ → (∀ i, 0 ≤ i → i < k → τ.1 44 i = -9) → j_at G mX6_findLeads 2 [(0, .ref 39), (1, j_i f), (2, j_i k)] [] (k_h X n τ) 0 0 (k_Q X (fl_post n σ lm f)) := by
  intro m
  induction m with
  | zero => intro k τ h1 h2 h3; exact absurd h1 (by omega)
  | succ m ih =>
    intro k τ hm h0 h3 hf hz
    refine a_iload_n (pc := 2) (i := 2) (by decide +kernel) rfl ?_
    refine a_bipush (pc := 3) (n := 30) (by decide +kernel) rfl ?_
    refine a_icmp_ge (pc := 5) (off := 17) (tgt := 22) (by decide +kernel) (by decide) (by omega) (by omega) (fun c5 => ?_) (fun c5 => ?_)
    · refine a_iconst (pc := 22) (n := 0) (by decide +kernel) ?_
      refine a_istore_n (pc := 23) (i := 2) (lv' := [(0, .ref 39), (1, j_i f), (2, j_i 0)]) (by decide +kernel) (Nat.le_of_ble_eq_true rfl) rfl ?_
      exact l_fl24 hn hw hwh hfr hsl hlm hlm5 hli lm [] 0 τ rfl rfl hf (fun i i0 i1 => by rw [hz i i0 (by omega)]; omega) (fun h hh => Or.inr (Or.inr ⟨hz h hh.1 (by have := hwh.1; have := hh.2.1; omega), fun ⟨_, q, _⟩ => (by cases q), fun ⟨_, q, _⟩ => (by cases q)⟩))
    · refine a_aload_n (pc := 8) (i := 0) (by decide +kernel) rfl ?_
      refine b_getR (pc := 9) (b := 44) fl_X6_32 (by decide +kernel) (sh_39 hn) rfl ?_
      refine a_iload_n (pc := 12) (i := 2) (by decide +kernel) rfl ?_
      refine a_bipush (pc := 13) (n := (-9)) (by decide +kernel) rfl ?_
      refine b_iastore (pc := 15) (by decide +kernel) (sh_44 hn) (by omega) (by omega) (by omega) ?_
      obtain ⟨σ1, hσ1⟩ : ∃ z, z = k_sA τ 44 (j_up (τ.1 44) k (-9)) := ⟨_, rfl⟩
      rw [← hσ1]
      refine a_iinc (pc := 16) (i := 2) (n := 1) (x := k) (lv' := [(0, .ref 39), (1, j_i f), (2, j_i (k + 1))]) (by decide +kernel) rfl (Nat.le_of_ble_eq_true rfl) rfl ?_
      refine a_goto (pc := 19) (off := -17) (tgt := 2) (by decide +kernel) (by decide) ?_
      exact ih (k + 1) σ1 (by omega) (by omega) (by omega) (by rw [hσ1]; exact fl_fr_A hf) (fun i i0 i1 => by rw [hσ1, k_AA]; by_cases hi : i = k; rw [hi, j_upS]; rw [j_upN hi]; exact hz i i0 (by omega))
set_option maxHeartbeats 4000000 in
theorem s_findLeads {G : j_G} {X : k_X} {n : Nat} {σ : k_St} (hn : 101 ≤ n) (hw : m_wf σ 16) (hwh : h_wf σ 8) {f : Int} (hfr : -9 ≤ f ∧ f ≤ 29) {lm : List Int} (hsl : v_seg (σ.1 42) 0 lm) (hlm : ∀ x ∈ lm, m_is σ x) (hlm5 : lm.length ≤ 50) (hli : σ.2.1 39 6 = (lm.length : Int))  : k_run G X mX6_findLeads [.ref 39, j_i f] n σ 0 0 (fl_post n σ lm f) := by
  refine k_enter (by decide +kernel) (Nat.le_of_ble_eq_true rfl) ?_
  show j_at _ _ _ [(0, .ref 39), (1, j_i f)] [] _ _ _ _
  refine a_iconst (pc := 0) (n := 0) (by decide +kernel) ?_
  refine a_istore_n (pc := 1) (i := 2) (lv' := [(0, .ref 39), (1, j_i f), (2, j_i 0)]) (by decide +kernel) (Nat.le_of_ble_eq_true rfl) rfl ?_
  exact l_fl2 hn hw hwh hfr hsl hlm hlm5 hli 31 0 σ (by omega) (by omega) (by omega) ⟨fun _ _ => rfl, rfl⟩ (fun i i0 i1 => absurd i0 (by omega))
/-- leads of three, the third left open, from i on -/
def g_seg (F : Int → Int) : Int → List (Int × Int) → Prop
  | _, [] => True
  | i, x :: t => F (i * 3) = x.1 ∧ F (i * 3 + 1) = x.2 ∧ g_seg F (i + 1) t
theorem g_seg_congr {F F' : Int → Int} : ∀ {l : List (Int × Int)} {i : Int}, (∀ j, i * 3 ≤ j → j < (i + l.length) * 3 → F' j = F j) → g_seg F i l → g_seg F' i l
  | [], _, _, _ => trivial
  | x :: t, i, h, ⟨a, b, c⟩ => by
    rw [List.length_cons] at h
    exact ⟨(h _ (by omega) (by omega)).trans a, (h _ (by omega) (by omega)).trans b, g_seg_congr (fun j j0 j1 => h j (by omega) (by omega)) c⟩
theorem g_seg_app {F : Int → Int} : ∀ {l m : List (Int × Int)} {i : Int}, g_seg F i (l ++ m) ↔ g_seg F i l ∧ g_seg F (i + l.length) m
  | [], m, i => by simp [g_seg]
  | x :: t, m, i => by
    show F (i * 3) = x.1 ∧ F (i * 3 + 1) = x.2 ∧ g_seg F (i + 1) (t ++ m) ↔ (F (i * 3) = x.1 ∧ F (i * 3 + 1) = x.2 ∧ g_seg F (i + 1) t) ∧ g_seg F (i + (x :: t).length) m
    rw [g_seg_app, List.length_cons, show i + ((t.length + 1 : Nat) : Int) = i + 1 + (t.length : Int) by omega]
    exact ⟨fun ⟨a, b, c, d⟩ => ⟨⟨a, b, c⟩, d⟩, fun ⟨⟨a, b, c⟩, d⟩ => ⟨a, b, c, d⟩⟩
def ab_fr (a : Nat) (σ τ : k_St) : Prop := (∀ c, c ≠ a + 5 → τ.1 c = σ.1 c) ∧ (∀ c j, ¬ (c = a ∧ j = 7) → τ.2.1 c j = σ.2.1 c j) ∧ τ.2.2 = σ.2.2
def ab_post (n : Nat) (σ : k_St) (a : Nat) (L : List (Int × Int)) : k_P := fun v n' τ => v = none ∧ n' = n ∧ ab_fr a σ τ ∧ i_wf τ a ∧ τ.2.1 a 7 = σ.2.1 a 7 + L.length ∧ g_seg (τ.1 (a + 5)) (σ.2.1 a 7) L ∧ ∀ j, j < σ.2.1 a 7 * 3 → τ.1 (a + 5) j = σ.1 (a + 5) j
theorem i_wf_aL {σ : k_St} {a : Nat} {t k : Int} (hw : i_wf σ a) (ht : 0 ≤ t ∧ t ≤ 29) (hk : 0 ≤ k ∧ k ≤ 1) (h5 : σ.2.1 a 7 < 50) : i_wf (i_aL σ a t k) a := by
  obtain ⟨h1, h2, h3, h4, hv⟩ := hw
  unfold i_aL
  refine ⟨by rw [k_IN (by omega)]; exact h1, by rw [k_IN (by omega)]; exact h2, by rw [k_II]; omega, by rw [k_IN (by omega)]; exact h4, fun e => ?_⟩
  rw [k_I1, k_AA, k_AN (by omega), k_AN (by omega), k_AN (by omega), k_AN (by omega), k_AN (by omega), k_AN (by omega), k_AN (by omega), k_AN (by omega), k_AN (by omega), k_AN (by omega)]
  obtain ⟨v1, v2, v3, v4, v5, v6⟩ := hv e
  refine ⟨v1, v2, v3, v4, ?_, v6⟩
  unfold j_up
  split
  · omega
  · split
    · omega
    · exact v5
theorem i_aL_fr {σ τ : k_St} {a : Nat} {t k : Int} (h : ab_fr a σ τ) : ab_fr a σ (i_aL τ a t k) := by
  unfold i_aL
  exact ⟨fun c hc => by rw [k_I1, k_AN hc, k_AN hc]; exact h.1 c hc, fun c j hc => by rw [k_IN hc]; exact h.2.1 c j hc, h.2.2⟩
theorem i_aL_5 {σ : k_St} {a : Nat} {t k : Int} : (i_aL σ a t k).1 (a + 5) = j_up (j_up (σ.1 (a + 5)) (σ.2.1 a 7 * 3) t) (σ.2.1 a 7 * 3 + 1) k := by unfold i_aL; rw [k_I1, k_AA]
theorem i_aL_7 {σ : k_St} {a : Nat} {t k : Int} : (i_aL σ a t k).2.1 a 7 = σ.2.1 a 7 + 1 := by unfold i_aL; rw [k_II]
set_option maxHeartbeats 4000000 in
theorem l_ab3 {G : j_G} {X : k_X} {n : Nat} {σ : k_St} (hn : 101 ≤ n) {a : Nat} (ha : a = 48 ∨ a = 58) (hA : i_at X n a) {kd al : Int} (hkd : -9 ≤ kd ∧ kd ≤ 7) (hal : 0 ≤ al ∧ al ≤ 1) {lr : List Int} (hsr : v_seg (σ.1 41) 0 lr) (hlr : ∀ x ∈ lr, 0 ≤ x ∧ x < 30) (hlr3 : lr.length ≤ 30) (hrk : σ.2.1 39 4 = (lr.length : Int)) (hr : ∀ i, 0 ≤ i → i < 30 → -9 ≤ σ.1 44 i ∧ σ.1 44 i ≤ 7) (hwi : i_wf σ a) (h50 : σ.2.1 a 7 + (lr.filter (fun h => decide (σ.1 44 h = kd))).length ≤ 50)  : ∀ (t dn : List Int) (k : Int) (τ : k_St), lr = dn ++ t → k = dn.length → ab_fr a σ τ → i_wf τ a → τ.2.1 a 7 = σ.2.1 a 7 + ((dn.filter (fun h => decide (σ.1 44 h = kd))).length : Int) → g_seg (τ.1 (a + 5)) (σ.2.1 a 7) ((dn.filter (fun h => decide (σ.1 44 h = kd))).map (fun h => (h, al))) → (∀ j, j < σ.2.1 a 7 * 3 → τ.1 (a + 5) j = σ.1 (a + 5) j) → j_at G mX6_addLeadsBy 3 [(0, .ref 39), (1, j_i kd), (2, .ref a), (3, j_i al), (4, j_i k)] [] (k_h X n τ) 0 0 (k_Q X (ab_post n σ a ((lr.filter (fun h => decide (σ.1 44 h = kd))).map (fun h => (h, al))))) := by
  intro t
  induction t with
  | nil =>
    intro dn k τ hdn hkdn hf hwt hc hs hlow
    rw [List.append_nil] at hdn
    have hlen : (lr.length : Int) = dn.length := by rw [hdn]
    refine a_iload (pc := 3) (i := 4) (by decide +kernel) rfl ?_
    refine a_aload_n (pc := 5) (i := 0) (by decide +kernel) rfl ?_
    refine b_getI (pc := 6) fl_X6_18 (by decide +kernel) (sh_39 hn) rfl ?_
    rw [show τ.2.1 39 4 = (lr.length : Int) from ((hf.2.1 39 4 (by omega)).trans hrk)]
    refine a_icmp_ge (pc := 9) (off := 37) (tgt := 46) (by decide +kernel) (by decide) (by omega) (by omega) (fun c9 => ?_) (fun c9 => ?_)
    · refine a_return (pc := 46) (by decide +kernel) rfl ?_
      refine k_ret ?_
      exact ⟨rfl, rfl, hf, hwt, by rw [List.length_map, hdn]; exact hc, by rw [hdn]; exact hs, hlow⟩
    · exfalso; omega
  | cons x t ih =>
    intro dn k τ hdn hkdn hf hwt hc hs hlow
    obtain ⟨h5, hs0, hs1, hs2, hs3, hs4, hs5, hs6, hs7⟩ := id hA
    have hlen : (lr.length : Int) = (dn.length : Int) + 1 + t.length := by rw [hdn]; simp; omega
    have hx := hlr x (by rw [hdn]; simp)
    have hrx := hr x hx.1 hx.2
    have hl7 := hwi.2.2.1
    have hs41 : σ.1 41 k = x := by
      rw [hdn] at hsr
      have := (v_seg_app.mp hsr).2.1
      rw [show (0 : Int) + (dn.length : Int) = k by omega] at this; exact this
    refine a_iload (pc := 3) (i := 4) (by decide +kernel) rfl ?_
    refine a_aload_n (pc := 5) (i := 0) (by decide +kernel) rfl ?_
    refine b_getI (pc := 6) fl_X6_18 (by decide +kernel) (sh_39 hn) rfl ?_
    rw [show τ.2.1 39 4 = (lr.length : Int) from ((hf.2.1 39 4 (by omega)).trans hrk)]
    refine a_icmp_ge (pc := 9) (off := 37) (tgt := 46) (by decide +kernel) (by decide) (by omega) (by omega) (fun c9 => ?_) (fun c9 => ?_)
    · exfalso; omega
    · refine a_aload_n (pc := 12) (i := 0) (by decide +kernel) rfl ?_
      refine b_getR (pc := 13) (b := 44) fl_X6_32 (by decide +kernel) (sh_39 hn) rfl ?_
      refine a_aload_n (pc := 16) (i := 0) (by decide +kernel) rfl ?_
      refine b_getR (pc := 17) (b := 41) fl_X6_15 (by decide +kernel) (sh_39 hn) rfl ?_
      refine a_iload (pc := 20) (i := 4) (by decide +kernel) rfl ?_
      refine b_iaload (pc := 22) (by decide +kernel) (sh_41 hn) (by omega) (by omega) (by omega) ?_
      rw [show τ.1 41 = σ.1 41 from hf.1 41 (by omega)]
      rw [hs41]
      refine b_iaload (pc := 23) (by decide +kernel) (sh_44 hn) (by omega) (by omega) (by omega) ?_
      rw [show τ.1 44 = σ.1 44 from hf.1 44 (by omega)]
      refine a_iload_n (pc := 24) (i := 1) (by decide +kernel) rfl ?_
      refine a_icmp_ne (pc := 25) (off := 15) (tgt := 40) (by decide +kernel) (by decide) (by omega) (by omega) (fun c25 => ?_) (fun c25 => ?_)
      · refine a_iinc (pc := 40) (i := 4) (n := 1) (x := k) (lv' := [(0, .ref 39), (1, j_i kd), (2, .ref a), (3, j_i al), (4, j_i (k + 1))]) (by decide +kernel) rfl (Nat.le_of_ble_eq_true rfl) rfl ?_
        refine a_goto (pc := 43) (off := -40) (tgt := 3) (by decide +kernel) (by decide) ?_
        have hfx : (dn ++ [x]).filter (fun h => decide (σ.1 44 h = kd)) = dn.filter (fun h => decide (σ.1 44 h = kd)) := by rw [List.filter_append]; simp [c25]
        exact ih (dn ++ [x]) (k + 1) τ (by rw [hdn]; simp) (by simp; omega) hf hwt (by rw [hfx]; exact hc) (by rw [hfx]; exact hs) hlow
      · have hfx : (dn ++ [x]).filter (fun h => decide (σ.1 44 h = kd)) = dn.filter (fun h => decide (σ.1 44 h = kd)) ++ [x] := by rw [List.filter_append]; simp [c25]
        have hl50 : ((dn.filter (fun h => decide (σ.1 44 h = kd))).length : Int) + 1 + (t.filter (fun h => decide (σ.1 44 h = kd))).length = ((lr.filter (fun h => decide (σ.1 44 h = kd))).length : Int) := by rw [hdn, List.filter_append, List.filter_cons]; simp [c25]; omega
        refine a_aload_n (pc := 28) (i := 2) (by decide +kernel) rfl ?_
        refine a_aload_n (pc := 29) (i := 0) (by decide +kernel) rfl ?_
        refine b_getR (pc := 30) (b := 41) fl_X6_15 (by decide +kernel) (sh_39 hn) rfl ?_
        refine a_iload (pc := 33) (i := 4) (by decide +kernel) rfl ?_
        refine b_iaload (pc := 35) (by decide +kernel) (sh_41 hn) (by omega) (by omega) (by omega) ?_
        rw [show τ.1 41 = σ.1 41 from hf.1 41 (by omega)]
        rw [hs41]
        refine a_iload_n (pc := 36) (i := 3) (by decide +kernel) rfl ?_
        refine b_callV (pc := 37) (c' := 0) (sl' := 0) [j_i x, j_i al] [] ml_X6_256 (by decide +kernel) rfl rfl hs0 rfl rfl (Nat.le_of_ble_eq_true rfl) (j_fitI rfl rfl) (s_addLead hA (by omega)) (fun v n' σ' hq => ?_)
        obtain ⟨rfl, e1, e2⟩ := hq
        rw [e1, e2]; clear e1 e2
        obtain ⟨σ1, hσ1⟩ : ∃ z, z = i_aL τ a x al := ⟨_, rfl⟩
        rw [← hσ1]
        show j_at _ _ _ [(0, .ref 39), (1, j_i kd), (2, .ref a), (3, j_i al), (4, j_i k)] [] _ _ _ _
        refine a_iinc (pc := 40) (i := 4) (n := 1) (x := k) (lv' := [(0, .ref 39), (1, j_i kd), (2, .ref a), (3, j_i al), (4, j_i (k + 1))]) (by decide +kernel) rfl (Nat.le_of_ble_eq_true rfl) rfl ?_
        refine a_goto (pc := 43) (off := -40) (tgt := 3) (by decide +kernel) (by decide) ?_
        exact ih (dn ++ [x]) (k + 1) σ1 (by rw [hdn]; simp) (by simp; omega) (by rw [hσ1]; exact i_aL_fr hf) (by rw [hσ1]; exact i_wf_aL hwt (by omega) hal (by omega)) (by rw [hσ1, i_aL_7, hc, hfx, List.length_append]; simp; omega) (by
          rw [hσ1, i_aL_5, hfx, List.map_append]
          refine g_seg_app.mpr ⟨g_seg_congr (fun j j0 j1 => ?_) hs, ?_⟩
          · rw [List.length_map] at j1; rw [j_upN (by omega), j_upN (by omega)]
          · rw [List.length_map, ← hc]; exact ⟨by rw [j_upN (by omega), j_upS], by rw [j_upS], trivial⟩) (fun j hj => by rw [hσ1, i_aL_5, j_upN (by omega), j_upN (by omega)]; exact hlow j hj)
set_option maxHeartbeats 4000000 in
theorem s_addLeadsBy {G : j_G} {X : k_X} {n : Nat} {σ : k_St} (hn : 101 ≤ n) {a : Nat} (ha : a = 48 ∨ a = 58) (hA : i_at X n a) {kd al : Int} (hkd : -9 ≤ kd ∧ kd ≤ 7) (hal : 0 ≤ al ∧ al ≤ 1) {lr : List Int} (hsr : v_seg (σ.1 41) 0 lr) (hlr : ∀ x ∈ lr, 0 ≤ x ∧ x < 30) (hlr3 : lr.length ≤ 30) (hrk : σ.2.1 39 4 = (lr.length : Int)) (hr : ∀ i, 0 ≤ i → i < 30 → -9 ≤ σ.1 44 i ∧ σ.1 44 i ≤ 7) (hwi : i_wf σ a) (h50 : σ.2.1 a 7 + (lr.filter (fun h => decide (σ.1 44 h = kd))).length ≤ 50)  : k_run G X mX6_addLeadsBy [.ref 39, j_i kd, .ref a, j_i al] n σ 0 0 (ab_post n σ a ((lr.filter (fun h => decide (σ.1 44 h = kd))).map (fun h => (h, al)))) := by
  refine k_enter (by decide +kernel) (Nat.le_of_ble_eq_true rfl) ?_
  show j_at _ _ _ [(0, .ref 39), (1, j_i kd), (2, .ref a), (3, j_i al)] [] _ _ _ _
  refine a_iconst (pc := 0) (n := 0) (by decide +kernel) ?_
  refine a_istore (pc := 1) (i := 4) (lv' := [(0, .ref 39), (1, j_i kd), (2, .ref a), (3, j_i al), (4, j_i 0)]) (by decide +kernel) (Nat.le_of_ble_eq_true rfl) rfl ?_
  exact l_ab3 hn ha hA hkd hal hsr hlr hlr3 hrk hr hwi h50 lr [] 0 σ rfl rfl ⟨fun _ _ => rfl, fun _ _ _ => rfl, rfl⟩ hwi (by simp) trivial (fun _ _ => rfl)
