def b_l (K P : Int → Int) (f : Int) : List Int → Int
  | [] => 0
  | m :: t => (if 5 < K m ∧ f_head (P m) 0 = f then 1 else 0) + b_l K P f t
theorem b_l_0 (K P : Int → Int) (f : Int) : ∀ l : List Int, 0 ≤ b_l K P f l ∧ b_l K P f l ≤ l.length
  | [] => by simp [b_l]
  | m :: t => by have := b_l_0 K P f t; unfold b_l; rw [List.length_cons]; split <;> omega
theorem b_l_ge {K P : Int → Int} {f : Int} : ∀ {lm A : List Int}, A.Nodup → (∀ h ∈ A, ∃ m ∈ lm, (5 < K m ∧ f_head (P m) 0 = f) ∧ f_head (P m) 1 = h) → (A.length : Int) ≤ b_l K P f lm
  | [], A, _, h => by
    cases A with
    | nil => simp [b_l]
    | cons x t => obtain ⟨m, hm, _⟩ := h x List.mem_cons_self; cases hm
  | m :: t, A, hn, h => by
    unfold b_l
    by_cases q : 5 < K m ∧ f_head (P m) 0 = f
    · rw [if_pos q]
      have i := b_l_ge (K := K) (P := P) (f := f) (lm := t) (A := A.erase (f_head (P m) 1)) (hn.erase _) (fun h' hh => by
        have h2 := (hn.mem_erase_iff).mp hh
        obtain ⟨y, y1, y2, y3⟩ := h h' h2.2
        rcases List.mem_cons.mp y1 with g | g
        · rw [g] at y3; exact absurd y3.symm h2.1
        · exact ⟨y, g, y2, y3⟩)
      rw [List.length_erase] at i
      split at i <;> omega
    · rw [if_neg q]
      have i := b_l_ge (K := K) (P := P) (f := f) (lm := t) hn (fun h' hh => by
        obtain ⟨y, y1, y2, y3⟩ := h h' hh
        rcases List.mem_cons.mp y1 with g | g
        · rw [g] at y2; exact absurd y2 q
        · exact ⟨y, g, y2, y3⟩)
      omega
theorem ld_len {K P F : Int → Int} {lm lr : List Int} {f : Int} (hn : lr.Nodup) (hF : ∀ h ∈ lr, ld_by K P lm f h (F h)) : (((lr.filter (fun h => decide (F h = 6))).length : Int) + (lr.filter (fun h => decide (F h = 7))).length) ≤ b_l K P f lm := by
  have := b_l_ge (K := K) (P := P) (f := f) (lm := lm) (A := lr.filter (fun h => decide (F h = 6)) ++ lr.filter (fun h => decide (F h = 7))) (by
    unfold List.Nodup
    rw [List.pairwise_append]
    refine ⟨hn.sublist List.filter_sublist, hn.sublist List.filter_sublist, fun x hx y hy e => ?_⟩
    have h1 := (List.mem_filter.mp hx).2
    have h2 := (List.mem_filter.mp hy).2
    simp only [decide_eq_true_eq] at h1 h2
    rw [e, h2] at h1; exact absurd h1 (by decide)) (fun h hh => by
    rcases List.mem_append.mp hh with hh | hh
    · have h1 := (List.mem_filter.mp hh).2
      simp only [decide_eq_true_eq] at h1
      rcases hF h (List.mem_filter.mp hh).1 with q | q | q
      · obtain ⟨m, m1, m2, m3, m4⟩ := q.2; exact ⟨m, m1, ⟨by omega, m3⟩, m4⟩
      · exact absurd (h1.symm.trans q.1) (by decide)
      · exact absurd (h1.symm.trans q.1) (by decide)
    · have h1 := (List.mem_filter.mp hh).2
      simp only [decide_eq_true_eq] at h1
      rcases hF h (List.mem_filter.mp hh).1 with q | q | q
      · exact absurd (h1.symm.trans q.1) (by decide)
      · obtain ⟨m, m1, m2, m3, m4⟩ := q.2.1; exact ⟨m, m1, ⟨by omega, m3⟩, m4⟩
      · exact absurd (h1.symm.trans q.1) (by decide))
  rw [List.length_append] at this; omega
def ld_spec (σ : k_St) (lm lr : List Int) (p : Int) (bd : Prop) (L : List (Int × Int)) : Prop := (f_hin p ≠ 1 ∧ L = []) ∨ (f_hin p = 1 ∧ ∃ F : Int → Int, (∀ h ∈ lr, ld_by (σ.1 17) (σ.1 19) lm (f_head p 0) h (F h)) ∧ ∃ al : Int, ((al = 1 ∧ bd) ∨ (al = 0 ∧ ¬ bd)) ∧ L = (lr.filter (fun h => decide (F h = 6))).map (fun h => (h, al)) ++ (lr.filter (fun h => decide (F h = 7))).map (fun h => (h, 1)))
def ad_fr (a : Nat) (σ τ : k_St) : Prop := (∀ c, c ≠ 44 → c ≠ a + 5 → c ≠ a + 3 → τ.1 c = σ.1 c) ∧ (∀ c j, ¬ (c = a ∧ j = 7) → τ.2.1 c j = σ.2.1 c j) ∧ τ.2.2 = σ.2.2
theorem ad_fr_r {a : Nat} {σ : k_St} : ad_fr a σ σ := ⟨fun _ _ _ _ => rfl, fun _ _ _ => rfl, rfl⟩
theorem ad_fr_t {a : Nat} {σ τ ρ : k_St} (h : ad_fr a σ τ) (g : ad_fr a τ ρ) : ad_fr a σ ρ := ⟨fun c q1 q2 q3 => (g.1 c q1 q2 q3).trans (h.1 c q1 q2 q3), fun c j q => (g.2.1 c j q).trans (h.2.1 c j q), g.2.2.trans h.2.2⟩
theorem ad_of_fl {a : Nat} {σ τ : k_St} (h : fl_fr σ τ) : ad_fr a σ τ := ⟨fun c q _ _ => h.1 c q, fun c j _ => by rw [h.2], by rw [h.2]⟩
theorem ad_of_ab {a : Nat} {σ τ : k_St} (h : ab_fr a σ τ) : ad_fr a σ τ := ⟨fun c _ q _ => h.1 c q, h.2.1, h.2.2⟩
theorem i_body_ad {a : Nat} (ha : a = 48 ∨ a = 58) {σ τ : k_St} (h : ad_fr a σ τ) {e : Int} : i_body τ a e ↔ i_body σ a e := by
  unfold i_body i_pn i_ps; rw [h.1 (a + 1) (by omega) (by omega) (by omega), h.1 (a + 2) (by omega) (by omega) (by omega), h.2.1 a 0 (by omega)]
theorem i_wf_fl {a : Nat} (ha : a = 48 ∨ a = 58) {σ τ : k_St} (h : fl_fr σ τ) (hw : i_wf σ a) : i_wf τ a := by
  unfold i_wf at hw ⊢
  rw [h.1 (a + 1) (by omega), h.1 (a + 2) (by omega), h.1 (a + 3) (by omega), h.1 (a + 4) (by omega), h.1 (a + 5) (by omega), h.1 (a + 6) (by omega), h.2]; exact hw
theorem i_wf_e3 {σ : k_St} {a : Nat} {e : Int} (h : i_wf σ a) : i_wf (k_sA σ (a + 3) (j_up (σ.1 (a + 3)) e (σ.2.1 a 7))) a := by
  obtain ⟨h1, h2, h3, h4, h5⟩ := h
  refine ⟨h1, h2, h3, h4, fun i => ?_⟩
  rw [k_AN (by omega), k_AN (by omega), k_AA, k_AN (by omega), k_AN (by omega), k_AN (by omega)]
  refine ⟨(h5 i).1, (h5 i).2.1, ?_, (h5 i).2.2.2⟩
  unfold j_up; split
  · exact h3
  · exact (h5 i).2.2.1
def ad_post (n : Nat) (σ : k_St) (a : Nat) (e p : Int) (lm lr : List Int) : k_P := fun v n' τ => v = none ∧ n' = n ∧ ad_fr a σ τ ∧ i_wf τ a ∧ (∀ j, j < σ.2.1 a 7 * 3 → τ.1 (a + 5) j = σ.1 (a + 5) j) ∧ τ.1 (a + 3) = j_up (σ.1 (a + 3)) e (τ.2.1 a 7) ∧ ∃ L, τ.2.1 a 7 = σ.2.1 a 7 + L.length ∧ g_seg (τ.1 (a + 5)) (σ.2.1 a 7) L ∧ ld_spec σ lm lr p (i_body σ a e) L
set_option maxHeartbeats 4000000 in
theorem s_addLeads {G : j_G} {X : k_X} {n : Nat} {σ : k_St} (hn : 101 ≤ n) (hw : m_wf σ 16) (hwh : h_wf σ 8) {a : Nat} (ha : a = 48 ∨ a = 58) (hA : i_at X n a) {e p : Int} (he : 0 ≤ e ∧ e < 150) (hp : σ.1 (a + 1) e = p) (hpr : 0 ≤ p ∧ p ≤ 29790) {lm lr : List Int} (hsl : v_seg (σ.1 42) 0 lm) (hlm : ∀ x ∈ lm, m_is σ x) (hlm5 : lm.length ≤ 50) (hli : σ.2.1 39 6 = (lm.length : Int)) (hsr : v_seg (σ.1 41) 0 lr) (hlr : ∀ x ∈ lr, h_is σ x) (hlr3 : lr.length ≤ 30) (hrk : σ.2.1 39 4 = (lr.length : Int)) (hnd : lr.Nodup) (hwi : i_wf σ a) (hb : f_hin p = 1 → σ.2.1 a 7 + b_l (σ.1 17) (σ.1 19) (f_head p 0) lm ≤ 50)  : k_run G X mX6_addLeads [.ref 39, .ref a, j_i e] n σ 0 0 (ad_post n σ a e p lm lr) := by
  obtain ⟨h5, hs0, hs1, hs2, hs3, hs4, hs5, hs6, hs7⟩ := id hA
  have hlr30 : ∀ x ∈ lr, 0 ≤ x ∧ x < 30 := fun x hx => ⟨(hlr x hx).1, by have := (hlr x hx).2.1; have := hwh.1; omega⟩
  refine k_enter (by decide +kernel) (Nat.le_of_ble_eq_true rfl) ?_
  show j_at _ _ _ [(0, .ref 39), (1, .ref a), (2, j_i e)] [] _ _ _ _
  refine a_aload_n (pc := 0) (i := 1) (by decide +kernel) rfl ?_
  refine b_getR (pc := 1) (b := a + 1) fl_X6_165 (by decide +kernel) hs0 rfl ?_
  refine a_iload_n (pc := 4) (i := 2) (by decide +kernel) rfl ?_
  refine b_iaload (pc := 5) (by decide +kernel) hs1 (by omega) (by omega) (by omega) ?_
  rw [hp]
  refine b_pureS (pc := 6) [j_i p] [] ml_X6_234 (by decide +kernel) rfl rfl (Nat.le_of_ble_eq_true rfl) (j_fitI rfl rfl) (s_headsIn (by omega)) ?_
  have qi := f_hin_in p
  show j_at _ _ _ [(0, .ref 39), (1, .ref a), (2, j_i e)] [j_i (f_hin p)] _ _ _ _
  refine a_iconst (pc := 9) (n := 1) (by decide +kernel) ?_
  refine a_icmp_ne (pc := 10) (off := 45) (tgt := 55) (by decide +kernel) (by decide) (by omega) (by omega) (fun c10 => ?_) (fun c10 => ?_)
  · refine a_aload_n (pc := 55) (i := 1) (by decide +kernel) rfl ?_
    refine b_getR (pc := 56) (b := a + 3) fl_X6_247 (by decide +kernel) hs0 rfl ?_
    refine a_iload_n (pc := 59) (i := 2) (by decide +kernel) rfl ?_
    refine a_aload_n (pc := 60) (i := 1) (by decide +kernel) rfl ?_
    refine b_getI (pc := 61) fl_X6_250 (by decide +kernel) hs0 rfl ?_
    refine b_iastore (pc := 64) (by decide +kernel) hs3 (by omega) (by omega) (by omega) ?_
    obtain ⟨σ1, hσ1⟩ : ∃ z, z = k_sA σ (a + 3) (j_up (σ.1 (a + 3)) e (σ.2.1 a 7)) := ⟨_, rfl⟩
    rw [← hσ1]
    refine a_return (pc := 65) (by decide +kernel) rfl ?_
    refine k_ret ?_
    refine ⟨rfl, rfl, ⟨fun c q1 q2 q3 => by rw [hσ1, k_AN q3], fun c j q => by rw [hσ1]; rfl, by rw [hσ1]; rfl⟩, by rw [hσ1]; exact i_wf_e3 hwi, fun j _ => by rw [hσ1, k_AN (by omega)], by rw [hσ1, k_AA]; rfl, [], by rw [hσ1]; simp [k_sA], trivial, Or.inl ⟨c10, rfl⟩⟩
  · refine a_aload_n (pc := 13) (i := 0) (by decide +kernel) rfl ?_
    refine a_aload_n (pc := 14) (i := 1) (by decide +kernel) rfl ?_
    refine b_getR (pc := 15) (b := a + 1) fl_X6_165 (by decide +kernel) hs0 rfl ?_
    refine a_iload_n (pc := 18) (i := 2) (by decide +kernel) rfl ?_
    refine b_iaload (pc := 19) (by decide +kernel) hs1 (by omega) (by omega) (by omega) ?_
    rw [hp]
    refine a_iconst (pc := 20) (n := 0) (by decide +kernel) ?_
    refine b_pureS (pc := 21) [j_i p, j_i 0] [.ref 39] ml_X6_168 (by decide +kernel) rfl rfl (Nat.le_of_ble_eq_true rfl) (j_fitI rfl rfl) (s_headOf (by omega) (by omega)) ?_
    have qh2 := f_head_in p 0
    show j_at _ _ _ [(0, .ref 39), (1, .ref a), (2, j_i e)] [j_i (f_head p 0), .ref 39] _ _ _ _
    refine b_callV (pc := 24) (c' := 0) (sl' := 0) [j_i (f_head p 0)] [] ml_X6_237 (by decide +kernel) rfl rfl (sh_39 hn) rfl rfl (Nat.le_of_ble_eq_true rfl) (j_fitI rfl rfl) (s_findLeads hn hw hwh (by omega) hsl hlm hlm5 hli) (fun v n' σ' hq => ?_)
    obtain ⟨σ3, hσ3⟩ : ∃ z, z = σ' := ⟨_, rfl⟩
    rw [← hσ3] at hq ⊢
    obtain ⟨rfl, e1, Fσ3, rσ3, dσ3⟩ := hq
    rw [e1]; clear e1
    have hsrσ3 : v_seg (σ3.1 41) 0 lr := by rw [Fσ3.1 41 (by omega)]; exact hsr
    have hrkσ3 : σ3.2.1 39 4 = (lr.length : Int) := by rw [Fσ3.2]; exact hrk
    have hwiσ3 : i_wf σ3 a := i_wf_fl ha Fσ3 hwi
    have hbσ3 := ld_len hnd (F := σ3.1 44) (fun h hh => dσ3 h (hlr h hh))
    have h7σ3 : σ3.2.1 a 7 = σ.2.1 a 7 := by rw [Fσ3.2]
    have hbb := hb c10
    have h77 := hwi.2.2.1
    show j_at _ _ _ [(0, .ref 39), (1, .ref a), (2, j_i e)] [] _ _ _ _
    refine a_aload_n (pc := 27) (i := 0) (by decide +kernel) rfl ?_
    refine a_bipush (pc := 28) (n := 6) (by decide +kernel) rfl ?_
    refine a_aload_n (pc := 30) (i := 1) (by decide +kernel) rfl ?_
    refine a_aload_n (pc := 31) (i := 1) (by decide +kernel) rfl ?_
    refine a_iload_n (pc := 32) (i := 2) (by decide +kernel) rfl ?_
    refine b_callV (pc := 33) (c' := 0) (sl' := 0) [j_i e] [.ref a, j_i 6, .ref 39] ml_X6_240 (by decide +kernel) rfl rfl hs0 rfl rfl (Nat.le_of_ble_eq_true rfl) (j_fitI rfl rfl) (s_hasBody hA hwiσ3 (by omega)) (fun v n' σ' hq => ?_)
    obtain ⟨x, rfl, e1, e2, hx⟩ := hq
    rw [e1, e2]; clear e1 e2
    rcases hx with ⟨rfl, p33⟩ | ⟨rfl, p33⟩
    · show j_at _ _ _ [(0, .ref 39), (1, .ref a), (2, j_i e)] [j_i 1, .ref a, j_i 6, .ref 39] _ _ _ _
      refine a_if_eq (pc := 36) (off := 7) (tgt := 43) (by decide +kernel) (by decide) (by omega) (fun c36 => ?_) (fun c36 => ?_)
      · exact absurd c36 (by decide)
      · refine a_iconst (pc := 39) (n := 1) (by decide +kernel) ?_
        refine a_goto (pc := 40) (off := 4) (tgt := 44) (by decide +kernel) (by decide) ?_
        refine b_callV (pc := 44) (c' := 0) (sl' := 0) [j_i 6, .ref a, j_i 1] [] ml_X6_243 (by decide +kernel) rfl rfl (sh_39 hn) rfl rfl (Nat.le_of_ble_eq_true rfl) (j_fitI rfl rfl) (s_addLeadsBy hn ha hA (by omega) (by omega) hsrσ3 hlr30 hlr3 hrkσ3 rσ3 hwiσ3 (by omega)) (fun v n' σ' hq => ?_)
        obtain ⟨σ4, hσ4⟩ : ∃ z, z = σ' := ⟨_, rfl⟩
        rw [← hσ4] at hq ⊢
        obtain ⟨rfl, e1, Aσ4, wσ4, cσ4, sσ4, lσ4⟩ := hq
        rw [e1]; clear e1
        rw [List.length_map] at cσ4
        have e44σ4 : σ4.1 44 = σ3.1 44 := Aσ4.1 44 (by omega)
        have hsrσ4 : v_seg (σ4.1 41) 0 lr := by rw [Aσ4.1 41 (by omega)]; exact hsrσ3
        have hrkσ4 : σ4.2.1 39 4 = (lr.length : Int) := by rw [Aσ4.2.1 39 4 (by omega)]; exact hrkσ3
        show j_at _ _ _ [(0, .ref 39), (1, .ref a), (2, j_i e)] [] _ _ _ _
        refine a_aload_n (pc := 47) (i := 0) (by decide +kernel) rfl ?_
        refine a_bipush (pc := 48) (n := 7) (by decide +kernel) rfl ?_
        refine a_aload_n (pc := 50) (i := 1) (by decide +kernel) rfl ?_
        refine a_iconst (pc := 51) (n := 1) (by decide +kernel) ?_
        refine b_callV (pc := 52) (c' := 0) (sl' := 0) [j_i 7, .ref a, j_i 1] [] ml_X6_243 (by decide +kernel) rfl rfl (sh_39 hn) rfl rfl (Nat.le_of_ble_eq_true rfl) (j_fitI rfl rfl) (s_addLeadsBy hn ha hA (by omega) (by omega) hsrσ4 hlr30 hlr3 hrkσ4 (by rw [e44σ4]; exact rσ3) wσ4 (by rw [e44σ4]; omega)) (fun v n' σ' hq => ?_)
        obtain ⟨σ5, hσ5⟩ : ∃ z, z = σ' := ⟨_, rfl⟩
        rw [← hσ5] at hq ⊢
        obtain ⟨rfl, e1, Aσ5, wσ5, cσ5, sσ5, lσ5⟩ := hq
        rw [e1]; clear e1
        rw [e44σ4] at sσ5 cσ5
        rw [List.length_map] at cσ5
        show j_at _ _ _ [(0, .ref 39), (1, .ref a), (2, j_i e)] [] _ _ _ _
        refine a_aload_n (pc := 55) (i := 1) (by decide +kernel) rfl ?_
        refine b_getR (pc := 56) (b := a + 3) fl_X6_247 (by decide +kernel) hs0 rfl ?_
        refine a_iload_n (pc := 59) (i := 2) (by decide +kernel) rfl ?_
        refine a_aload_n (pc := 60) (i := 1) (by decide +kernel) rfl ?_
        refine b_getI (pc := 61) fl_X6_250 (by decide +kernel) hs0 rfl ?_
        refine b_iastore (pc := 64) (by decide +kernel) hs3 (by omega) (by omega) (by omega) ?_
        obtain ⟨σ6, hσ6⟩ : ∃ z, z = k_sA σ5 (a + 3) (j_up (σ5.1 (a + 3)) e (σ5.2.1 a 7)) := ⟨_, rfl⟩
        rw [← hσ6]
        refine a_return (pc := 65) (by decide +kernel) rfl ?_
        refine k_ret ?_
        have FF : ad_fr a σ σ5 := ad_fr_t (ad_of_fl Fσ3) (ad_fr_t (ad_of_ab Aσ4) (ad_of_ab Aσ5))
        refine ⟨rfl, rfl, ⟨fun c q1 q2 q3 => by rw [hσ6, k_AN q3]; exact FF.1 c q1 q2 q3, fun c j q => by rw [hσ6]; exact FF.2.1 c j q, by rw [hσ6]; exact FF.2.2⟩, by rw [hσ6]; exact i_wf_e3 wσ5, fun j hj => ?_, by rw [hσ6, k_AA, Aσ5.1 (a + 3) (by omega), Aσ4.1 (a + 3) (by omega), Fσ3.1 (a + 3) (by omega)]; rfl, _, ?_, ?_, Or.inr ⟨c10, σ3.1 44, fun h hh => dσ3 h (hlr h hh), 1, ?_, rfl⟩⟩
        · rw [hσ6, k_AN (by omega), lσ5 j (by omega), lσ4 j (by omega), Fσ3.1 (a + 5) (by omega)]
        · rw [List.length_append, List.length_map, List.length_map, hσ6]; show σ5.2.1 a 7 = _; rw [cσ5, cσ4, h7σ3]; simp; omega
        · rw [hσ6, k_AN (by omega)]
          refine g_seg_app.mpr ⟨?_, ?_⟩
          · rw [← h7σ3]
            refine g_seg_congr (fun j j0 j1 => lσ5 j ?_) sσ4
            rw [List.length_map] at j1; rw [cσ4]; exact j1
          · rw [List.length_map, ← h7σ3, ← cσ4]; exact sσ5
        · first | exact Or.inl ⟨rfl, (i_body_ad ha (ad_of_fl Fσ3)).mp p33⟩ | exact Or.inr ⟨rfl, fun q => p33 ((i_body_ad ha (ad_of_fl Fσ3)).mpr q)⟩
    · show j_at _ _ _ [(0, .ref 39), (1, .ref a), (2, j_i e)] [j_i 0, .ref a, j_i 6, .ref 39] _ _ _ _
      refine a_if_eq (pc := 36) (off := 7) (tgt := 43) (by decide +kernel) (by decide) (by omega) (fun c36 => ?_) (fun c36 => ?_)
      · refine a_iconst (pc := 43) (n := 0) (by decide +kernel) ?_
        refine b_callV (pc := 44) (c' := 0) (sl' := 0) [j_i 6, .ref a, j_i 0] [] ml_X6_243 (by decide +kernel) rfl rfl (sh_39 hn) rfl rfl (Nat.le_of_ble_eq_true rfl) (j_fitI rfl rfl) (s_addLeadsBy hn ha hA (by omega) (by omega) hsrσ3 hlr30 hlr3 hrkσ3 rσ3 hwiσ3 (by omega)) (fun v n' σ' hq => ?_)
        obtain ⟨σ7, hσ7⟩ : ∃ z, z = σ' := ⟨_, rfl⟩
        rw [← hσ7] at hq ⊢
        obtain ⟨rfl, e1, Aσ7, wσ7, cσ7, sσ7, lσ7⟩ := hq
        rw [e1]; clear e1
        rw [List.length_map] at cσ7
        have e44σ7 : σ7.1 44 = σ3.1 44 := Aσ7.1 44 (by omega)
        have hsrσ7 : v_seg (σ7.1 41) 0 lr := by rw [Aσ7.1 41 (by omega)]; exact hsrσ3
        have hrkσ7 : σ7.2.1 39 4 = (lr.length : Int) := by rw [Aσ7.2.1 39 4 (by omega)]; exact hrkσ3
        show j_at _ _ _ [(0, .ref 39), (1, .ref a), (2, j_i e)] [] _ _ _ _
        refine a_aload_n (pc := 47) (i := 0) (by decide +kernel) rfl ?_
        refine a_bipush (pc := 48) (n := 7) (by decide +kernel) rfl ?_
        refine a_aload_n (pc := 50) (i := 1) (by decide +kernel) rfl ?_
        refine a_iconst (pc := 51) (n := 1) (by decide +kernel) ?_
        refine b_callV (pc := 52) (c' := 0) (sl' := 0) [j_i 7, .ref a, j_i 1] [] ml_X6_243 (by decide +kernel) rfl rfl (sh_39 hn) rfl rfl (Nat.le_of_ble_eq_true rfl) (j_fitI rfl rfl) (s_addLeadsBy hn ha hA (by omega) (by omega) hsrσ7 hlr30 hlr3 hrkσ7 (by rw [e44σ7]; exact rσ3) wσ7 (by rw [e44σ7]; omega)) (fun v n' σ' hq => ?_)
        obtain ⟨σ8, hσ8⟩ : ∃ z, z = σ' := ⟨_, rfl⟩
        rw [← hσ8] at hq ⊢
        obtain ⟨rfl, e1, Aσ8, wσ8, cσ8, sσ8, lσ8⟩ := hq
        rw [e1]; clear e1
        rw [e44σ7] at sσ8 cσ8
        rw [List.length_map] at cσ8
        show j_at _ _ _ [(0, .ref 39), (1, .ref a), (2, j_i e)] [] _ _ _ _
        refine a_aload_n (pc := 55) (i := 1) (by decide +kernel) rfl ?_
        refine b_getR (pc := 56) (b := a + 3) fl_X6_247 (by decide +kernel) hs0 rfl ?_
        refine a_iload_n (pc := 59) (i := 2) (by decide +kernel) rfl ?_
        refine a_aload_n (pc := 60) (i := 1) (by decide +kernel) rfl ?_
        refine b_getI (pc := 61) fl_X6_250 (by decide +kernel) hs0 rfl ?_
        refine b_iastore (pc := 64) (by decide +kernel) hs3 (by omega) (by omega) (by omega) ?_
        obtain ⟨σ9, hσ9⟩ : ∃ z, z = k_sA σ8 (a + 3) (j_up (σ8.1 (a + 3)) e (σ8.2.1 a 7)) := ⟨_, rfl⟩
        rw [← hσ9]
        refine a_return (pc := 65) (by decide +kernel) rfl ?_
        refine k_ret ?_
        have FF : ad_fr a σ σ8 := ad_fr_t (ad_of_fl Fσ3) (ad_fr_t (ad_of_ab Aσ7) (ad_of_ab Aσ8))
        refine ⟨rfl, rfl, ⟨fun c q1 q2 q3 => by rw [hσ9, k_AN q3]; exact FF.1 c q1 q2 q3, fun c j q => by rw [hσ9]; exact FF.2.1 c j q, by rw [hσ9]; exact FF.2.2⟩, by rw [hσ9]; exact i_wf_e3 wσ8, fun j hj => ?_, by rw [hσ9, k_AA, Aσ8.1 (a + 3) (by omega), Aσ7.1 (a + 3) (by omega), Fσ3.1 (a + 3) (by omega)]; rfl, _, ?_, ?_, Or.inr ⟨c10, σ3.1 44, fun h hh => dσ3 h (hlr h hh), 0, ?_, rfl⟩⟩
        · rw [hσ9, k_AN (by omega), lσ8 j (by omega), lσ7 j (by omega), Fσ3.1 (a + 5) (by omega)]
        · rw [List.length_append, List.length_map, List.length_map, hσ9]; show σ8.2.1 a 7 = _; rw [cσ8, cσ7, h7σ3]; simp; omega
        · rw [hσ9, k_AN (by omega)]
          refine g_seg_app.mpr ⟨?_, ?_⟩
          · rw [← h7σ3]
            refine g_seg_congr (fun j j0 j1 => lσ8 j ?_) sσ7
            rw [List.length_map] at j1; rw [cσ7]; exact j1
          · rw [List.length_map, ← h7σ3, ← cσ7]; exact sσ8
        · first | exact Or.inl ⟨rfl, (i_body_ad ha (ad_of_fl Fσ3)).mp p33⟩ | exact Or.inr ⟨rfl, fun q => p33 ((i_body_ad ha (ad_of_fl Fσ3)).mpr q)⟩
      · exact absurd c36 (by decide)
