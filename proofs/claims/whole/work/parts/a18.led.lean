def LH (σ : k_St) (a : Nat) (pe : Int → Int) : Prop := σ.2.1 a 0 = σ.2.1 68 25 ∧ (∀ e, 0 ≤ e → e < σ.2.1 68 25 → σ.1 (a + 1) e = pe e) ∧ ij pe (σ.2.1 68 25) ∧ (∀ e, 0 ≤ e → e < σ.2.1 68 25 → f_head (pe e) 1 = -9 → (hmr σ e ↔ i_body σ a e)) ∧ (∀ e, 0 ≤ e → e < σ.2.1 68 25 → f_head (pe e) 1 = -9 → ¬ i_body σ a e → 0 < i_sn σ a e ∧ σ.1 87 (3 * σ.1 85 e) = σ.1 (a + 5) (i_ls σ a e * 3) ∧ (0 ≤ σ.1 87 (3 * σ.1 85 e) ∧ σ.1 87 (3 * σ.1 85 e) ≤ 29) ∧ 0 ≤ σ.1 85 e ∧ σ.1 85 e ≤ 100) ∧ ∀ e, 0 ≤ e → e < σ.2.1 68 25 → 0 ≤ σ.1 82 e ∧ σ.1 82 e ≤ 1000
def f100 (σ τ : k_St) : Prop := (∀ c, c ≠ 100 → τ.1 c = σ.1 c) ∧ τ.2 = σ.2
theorem f100_s {σ τ τ' : k_St} {f : Int → Int} (h : f100 σ τ) (e : τ' = k_sA τ 100 f) : f100 σ τ' := by subst e; exact ⟨fun c hc => by rw [k_AN hc]; exact h.1 c hc, h.2⟩
theorem f100_m {σ τ : k_St} (h : f100 σ τ) : mfr σ τ := ⟨fun c q => h.1 c (by omega), fun c j _ => by rw [h.2], by rw [h.2]⟩
/-- where a head's own entry is -/
theorem led_of {σ : k_St} {a : Nat} {pe : Int → Int} (hB : MB σ pe) (hL : LH σ a pe) {h e : Int} (hh : 0 ≤ h ∧ h ≤ 29) (hq : d_eo (σ.1 81) (σ.2.1 68 25) h (-9) (-9) e) : i_of σ a (f_path h (-9) (-9)) e ∧ (e ≠ -9 → (0 ≤ e ∧ e < σ.2.1 68 25) ∧ f_head (pe e) 1 = -9) := by
  obtain ⟨l1, l2, l3, _⟩ := hL
  have hd : f_hd h := Or.inr hh
  have hp := f_path_heads hd (Or.inl rfl) (Or.inl rfl)
  have hr := f_path_in hd (b := -9) (c := -9) (Or.inl rfl) (Or.inl rfl)
  have key : ∀ q, 0 ≤ q → q < σ.2.1 68 25 → (d_ip (σ.1 81) q h (-9) (-9) ↔ pe q = f_path h (-9) (-9)) := fun q q0 q1 => by
    have := is_eq hB.2.2.2.1 (e := q) (q := f_path h (-9) (-9)) (okp_in (hB.2.2.2.2 q q0 q1)) hr ⟨q0, q1⟩
    rw [hp.1, hp.2.1, hp.2.2] at this
    rw [this]; exact eq_comm
  rcases hq with ⟨q1, q2⟩ | ⟨q1, q2, q3, q4⟩
  · exact ⟨Or.inl ⟨q1, fun x x0 x1 w => by rw [l1] at x1; rw [l2 x x0 x1] at w; exact q2 x x0 x1 ((key x x0 x1).mpr w)⟩, fun w => absurd q1 w⟩
  · have z := (key e q1 q2).mp q3
    refine ⟨Or.inr ⟨q1, by rw [l1]; exact q2, by rw [l2 e q1 q2]; exact z, fun x x0 x1 w => ?_⟩, fun _ => ⟨⟨q1, q2⟩, by rw [z]; exact hp.2.1⟩⟩
    rw [l2 x x0 (by omega)] at w
    have := l3 x e x0 (by omega) q1 q2 (by rw [w, z]); omega
def ldn (σ : k_St) (a : Nat) (e : Int) : Int := σ.1 (a + 5) (i_ls σ a e * 3)
/-- round and round -/
theorem led_2 {σ : k_St} {a : Nat} {V : Int → Prop} (hV : ∀ v, V v → v ≠ -9 ∧ ¬ i_body σ a v ∧ 0 < i_sn σ a v ∧ ∃ v', i_of σ a (f_path (ldn σ a v) (-9) (-9)) v' ∧ V v') : ∀ (m : Nat) (h : Int), (∃ v, i_of σ a (f_path h (-9) (-9)) v ∧ V v) → i_led σ a m h 2
  | 0, h, _ => rfl
  | m + 1, h, ⟨v, v1, v2⟩ => by
    obtain ⟨a1, a2, a3, a4⟩ := hV v v2
    exact ⟨v, v1, Or.inr (Or.inr ⟨a1, a2, by rw [if_pos a3]; exact led_2 hV m _ a4⟩)⟩
/-- on the way -/
def LW (σ τ : k_St) (a : Nat) (pe : Int → Int) (head h s : Int) (w : Int → Int) : Prop := f100 σ τ ∧ (0 ≤ h ∧ h ≤ 29) ∧ 0 ≤ s ∧ ij w s ∧ (∀ i, 0 ≤ i → i < s → 0 ≤ w i ∧ w i < σ.2.1 68 25) ∧ (∀ e, 0 ≤ e → e < σ.2.1 68 25 → (τ.1 100 e = 0 ∨ τ.1 100 e = 1) ∧ (τ.1 100 e = 1 ↔ im w s e)) ∧ (∀ i, 0 ≤ i → i < s → ¬ i_body σ a (w i) ∧ 0 < i_sn σ a (w i) ∧ (ldn σ a (w i) = h ∨ ∃ v, i_of σ a (f_path (ldn σ a (w i)) (-9) (-9)) v ∧ im w s v)) ∧ ∀ r, i_led σ a (σ.2.1 68 25 + 1 - s).toNat h r → i_led σ a (σ.2.1 68 25 + 1).toNat head r
theorem LW_n {σ τ : k_St} {a : Nat} {pe : Int → Int} {head h s : Int} {w : Int → Int} (h1 : LW σ τ a pe head h s w) (hn : 0 ≤ σ.2.1 68 25) : s ≤ σ.2.1 68 25 := by
  obtain ⟨_, _, c1, c2, c3, _⟩ := h1
  have := pg_le (σ.2.1 68 25).toNat s w (fun i i0 i1 => by have := c3 i i0 i1; omega) c2
  omega
theorem LW_s {σ τ τ' : k_St} {a : Nat} {pe : Int → Int} {head h s e : Int} {w : Int → Int} (hL : LW σ τ a pe head h s w) (hn : 0 ≤ σ.2.1 68 25) (e0 : 0 ≤ e ∧ e < σ.2.1 68 25) (he : i_of σ a (f_path h (-9) (-9)) e) (hb : ¬ i_body σ a e) (hs : 0 < i_sn σ a e) (hr : 0 ≤ ldn σ a e ∧ ldn σ a e ≤ 29) (hc : τ.1 100 e ≠ 1) (et : τ' = k_sA τ 100 (j_up (τ.1 100) e 1)) : LW σ τ' a pe head (ldn σ a e) (s + 1) (j_up w s e) := by
  have hsn := LW_n hL hn
  obtain ⟨c0, cr, c1, c2, c3, c4, c5, c6⟩ := hL
  have hnew : ¬ im w s e := fun q => hc ((c4 e e0.1 e0.2).2.mpr q)
  have hw : ij (j_up w s e) (s + 1) := ij_up c2 (fun k k0 k1 q => hnew ⟨k, k0, k1, q⟩)
  have hin : ∀ x, im (j_up w s e) (s + 1) x ↔ im w s x ∨ x = e := fun x => by rw [im_s c1, j_upS, im_cg (g := j_up w s e) (f := w) (fun i i0 i1 => j_upN (by omega))]
  have h3 : ∀ i, 0 ≤ i → i < s + 1 → 0 ≤ j_up w s e i ∧ j_up w s e i < σ.2.1 68 25 := fun i i0 i1 => by
    by_cases q : i = s
    · rw [q, j_upS]; exact e0
    · rw [j_upN q]; exact c3 i i0 (by omega)
  have hs1 : s + 1 ≤ σ.2.1 68 25 := by
    have := pg_le (σ.2.1 68 25).toNat (s + 1) _ (fun i i0 i1 => by have := h3 i i0 i1; omega) hw
    omega
  refine ⟨f100_s c0 et, hr, by omega, hw, h3, fun x x0 x1 => ?_, fun i i0 i1 => ?_, fun r q => c6 r ?_⟩
  · rw [et, k_AA, hin]
    by_cases q : x = e
    · rw [q, j_upS]; exact ⟨Or.inr rfl, fun _ => Or.inr rfl, fun _ => rfl⟩
    · rw [j_upN q]
      refine ⟨(c4 x x0 x1).1, fun v => Or.inl ((c4 x x0 x1).2.mp v), fun v => ?_⟩
      rcases v with v | v
      · exact (c4 x x0 x1).2.mpr v
      · exact absurd v q
  · by_cases q : i = s
    · rw [q, j_upS]; exact ⟨hb, hs, Or.inl rfl⟩
    · rw [j_upN q]
      obtain ⟨d1, d2, d3⟩ := c5 i i0 (by omega)
      refine ⟨d1, d2, Or.inr ?_⟩
      rcases d3 with d3 | ⟨v, v1, v2⟩
      · rw [d3]; exact ⟨e, he, (hin e).mpr (Or.inr rfl)⟩
      · exact ⟨v, v1, (hin v).mpr (Or.inl v2)⟩
  · rw [show (σ.2.1 68 25 + 1 - s).toNat = (σ.2.1 68 25 + 1 - (s + 1)).toNat + 1 by omega]
    exact ⟨e, he, Or.inr (Or.inr ⟨by omega, hb, by rw [if_pos hs]; exact q⟩)⟩
def lt_post (n : Nat) (σ : k_St) (a : Nat) (head : Int) : k_P := fun v n' τ => n' = n ∧ f100 σ τ ∧ ∃ r : Int, v = some (j_i r) ∧ i_led σ a (σ.2.1 68 25 + 1).toNat head r
set_option maxHeartbeats 4000000 in
theorem l_led25 {G : j_G} {X : k_X} {n : Nat} {σ : k_St} (hn : 101 ≤ n) {pe : Int → Int} (hB : MB σ pe) {a : Nat} (hL : LH σ a pe) {head : Int}  : ∀ (z : Nat) (h s : Int) (w : Int → Int) (τ : k_St), σ.2.1 68 25 - s < (z : Int) → LW σ τ a pe head h s w → j_at G mX12_ledTo 25 [(0, .ref 68), (1, j_i head), (2, j_i h)] [] (k_h X n τ) 0 0 (k_Q X (lt_post n σ a head)) := by
  obtain ⟨hK, hP, hfl, hE, hok⟩ := id hB
  have hM := (KR_rg hK.1 hK.2.1).1.2.2
  have hE1 := hE.1
  intro z
  induction z with
  | zero => intro h s w τ h1 hW; exact absurd h1 (by have := LW_n hW hE1.1; omega)
  | succ z ih =>
    intro h s w τ hz hW
    have hs9 := LW_n hW hE1.1
    have hs8 := hW.2.2.1
    obtain ⟨c0, cr, c1, c2, c3, c4, c5, c6⟩ := id hW
    refine a_aload_n (pc := 25) (i := 0) (by decide +kernel) rfl ?_
    refine a_iload_n (pc := 26) (i := 2) (by decide +kernel) rfl ?_
    refine a_bipush (pc := 27) (n := (-9)) (by decide +kernel) rfl ?_
    refine a_bipush (pc := 29) (n := (-9)) (by decide +kernel) rfl ?_
    refine b_callV (pc := 31) (c' := 0) (sl' := 0) [j_i h, j_i (-9), j_i (-9)] [] ml_X12_288 (by decide +kernel) rfl rfl (sh_68 hn) rfl rfl (Nat.le_of_ble_eq_true rfl) (j_fitI rfl rfl) (s_dentryOf hn (by rw [hW.1.2]; omega) (pE_r (MB_m (f100_m hW.1) hB).2.2.2.1) (by have := hW.2.1; omega) (by omega) (by omega)) (fun v n' σ' hq => ?_)
    obtain ⟨e1, rfl, e1, e2, he1⟩ := hq
    rw [e1, e2]; clear e1 e2
    rw [hW.1.1 81 (by omega), hW.1.2] at he1
    obtain ⟨o1, o2⟩ := led_of hB hL hW.2.1 he1
    have re1 : e1 = -9 ∨ (0 ≤ e1 ∧ e1 < σ.2.1 68 25) := by by_cases w : e1 = -9; exact Or.inl w; exact Or.inr (o2 w).1
    show j_at _ _ _ [(0, .ref 68), (1, j_i head), (2, j_i h)] [j_i e1] _ _ _ _
    refine a_istore_n (pc := 34) (i := 3) (lv' := [(0, .ref 68), (1, j_i head), (2, j_i h), (3, j_i e1)]) (by decide +kernel) (Nat.le_of_ble_eq_true rfl) rfl ?_
    refine a_iload_n (pc := 35) (i := 3) (by decide +kernel) rfl ?_
    refine a_bipush (pc := 36) (n := (-9)) (by decide +kernel) rfl ?_
    refine a_icmp_ne (pc := 38) (off := 5) (tgt := 43) (by decide +kernel) (by decide) (by omega) (by omega) (fun c38 => ?_) (fun c38 => ?_)
    · have b0 : 0 ≤ e1 ∧ e1 < σ.2.1 68 25 := by omega
      have b4 := c4 e1 b0.1 b0.2
      refine a_aload_n (pc := 43) (i := 0) (by decide +kernel) rfl ?_
      refine a_iload_n (pc := 44) (i := 3) (by decide +kernel) rfl ?_
      refine b_callV (pc := 45) (c' := 0) (sl' := 0) [j_i e1] [] ml_X12_356 (by decide +kernel) rfl rfl (sh_68 hn) rfl rfl (Nat.le_of_ble_eq_true rfl) (j_fitI rfl rfl) (e_hasMore (MB_m (f100_m hW.1) hB).2.2.2.1 (pe := pe) (hn := hn) (by rw [hW.1.2]; omega) (by rw [hW.1.1 82 (by omega)]; exact hL.2.2.2.2.2 _ (by omega) (by omega))) (fun v n' σ' hq => ?_)
      obtain ⟨x, rfl, e1, e2, hx⟩ := hq
      rw [e1, e2]; clear e1 e2
      rcases hx with ⟨rfl, p45⟩ | ⟨rfl, p45⟩
      · show j_at _ _ _ [(0, .ref 68), (1, j_i head), (2, j_i h), (3, j_i e1)] [j_i 1] _ _ _ _
        rw [show hmr τ e1 = hmr σ e1 by unfold hmr; rw [hW.1.1 82 (by omega), hW.1.1 81 (by omega), hW.1.2], hL.2.2.2.1 e1 (by omega) (by omega) (o2 c38).2] at p45
        refine a_if_eq (pc := 48) (off := 5) (tgt := 53) (by decide +kernel) (by decide) (by omega) (fun c48 => ?_) (fun c48 => ?_)
        · exact absurd c48 (by decide)
        · refine a_iconst (pc := 51) (n := 0) (by decide +kernel) ?_
          refine a_ireturn (pc := 52) (by decide +kernel) rfl ?_
          refine k_ret ?_
          refine ⟨rfl, hW.1, 0, rfl, c6 0 ?_⟩
          rw [show (σ.2.1 68 25 + 1 - s).toNat = (σ.2.1 68 25 - s).toNat + 1 by omega]
          exact ⟨e1, o1, Or.inr (Or.inl ⟨c38, p45, rfl⟩)⟩
      · show j_at _ _ _ [(0, .ref 68), (1, j_i head), (2, j_i h), (3, j_i e1)] [j_i 0] _ _ _ _
        rw [show hmr τ e1 = hmr σ e1 by unfold hmr; rw [hW.1.1 82 (by omega), hW.1.1 81 (by omega), hW.1.2], hL.2.2.2.1 e1 (by omega) (by omega) (o2 c38).2] at p45
        refine a_if_eq (pc := 48) (off := 5) (tgt := 53) (by decide +kernel) (by decide) (by omega) (fun c48 => ?_) (fun c48 => ?_)
        · refine a_aload_n (pc := 53) (i := 0) (by decide +kernel) rfl ?_
          refine b_getR (pc := 54) (b := 100) fl_X12_108 (by decide +kernel) (sh_68 hn) rfl ?_
          refine a_iload_n (pc := 57) (i := 3) (by decide +kernel) rfl ?_
          refine b_zaload (pc := 58) (by decide +kernel) (sh_100 hn) (by omega) (by omega) (by omega) ?_
          refine a_if_eq (pc := 59) (off := 5) (tgt := 64) (by decide +kernel) (by decide) (by omega) (fun c59 => ?_) (fun c59 => ?_)
          · have g0 := hL.2.2.2.2.1 e1 b0.1 b0.2 (o2 c38).2 p45
            refine a_aload_n (pc := 64) (i := 0) (by decide +kernel) rfl ?_
            refine b_getR (pc := 65) (b := 100) fl_X12_108 (by decide +kernel) (sh_68 hn) rfl ?_
            refine a_iload_n (pc := 68) (i := 3) (by decide +kernel) rfl ?_
            refine a_iconst (pc := 69) (n := 1) (by decide +kernel) ?_
            refine b_zastore (pc := 70) (by decide +kernel) (sh_100 hn) (by omega) (by omega) (by omega) (by omega) ?_
            obtain ⟨σ2, hσ2⟩ : ∃ z, z = k_sA τ 100 (j_up (τ.1 100) e1 1) := ⟨_, rfl⟩
            rw [← hσ2]
            refine a_aload_n (pc := 71) (i := 0) (by decide +kernel) rfl ?_
            refine b_getR (pc := 72) (b := 87) fl_X12_69 (by decide +kernel) (sh_68 hn) rfl ?_
            refine a_iconst (pc := 75) (n := 3) (by decide +kernel) ?_
            refine a_aload_n (pc := 76) (i := 0) (by decide +kernel) rfl ?_
            refine b_getR (pc := 77) (b := 85) fl_X12_63 (by decide +kernel) (sh_68 hn) rfl ?_
            refine a_iload_n (pc := 80) (i := 3) (by decide +kernel) rfl ?_
            refine b_iaload (pc := 81) (by decide +kernel) (sh_85 hn) (by omega) (by omega) (by omega) ?_
            rw [show σ2.1 85 = τ.1 85 by rw [hσ2]; exact k_AN (by omega)]
            rw [show τ.1 85 = σ.1 85 from hW.1.1 85 (by omega)]
            refine a_imul (pc := 82) (by decide +kernel) ?_
            refine b_iaload (pc := 83) (by decide +kernel) (sh_87 hn) (by omega) (by omega) (by omega) ?_
            rw [show σ2.1 87 = τ.1 87 by rw [hσ2]; exact k_AN (by omega)]
            rw [show τ.1 87 = σ.1 87 from hW.1.1 87 (by omega)]
            refine a_istore_n (pc := 84) (i := 2) (lv' := [(0, .ref 68), (1, j_i head), (2, j_i (σ.1 87 (3 * (σ.1 85 e1)))), (3, j_i e1)]) (by decide +kernel) (Nat.le_of_ble_eq_true rfl) rfl ?_
            refine a_goto (pc := 85) (off := -60) (tgt := 25) (by decide +kernel) (by decide) ?_
            have hn1 : τ.1 100 e1 ≠ 1 := by omega
            have y := LW_s hW hE1.1 b0 o1 p45 g0.1 (by show 0 ≤ σ.1 (a + 5) _ ∧ σ.1 (a + 5) _ ≤ 29; rw [← g0.2.1]; exact g0.2.2.1) hn1 hσ2
            rw [show ldn σ a e1 = σ.1 87 (3 * σ.1 85 e1) from g0.2.1.symm] at y
            exact a_sub (lv' := [(0, .ref 68), (1, j_i head), (2, j_i (σ.1 87 (3 * (σ.1 85 e1))))]) (fun q hq => by simp only [List.mem_cons, List.not_mem_nil, or_false] at hq ⊢; rcases hq with rfl | rfl | rfl <;> simp) (ih _ (s + 1) (j_up w s e1) σ2 (by omega) y)
          · refine a_iconst (pc := 62) (n := 2) (by decide +kernel) ?_
            refine a_ireturn (pc := 63) (by decide +kernel) rfl ?_
            refine k_ret ?_
            refine ⟨rfl, hW.1, 2, rfl, c6 2 ?_⟩
            have hin : im w s e1 := b4.2.mp (by omega)
            refine led_2 (V := im w s) (fun v hv => ?_) _ h ⟨e1, o1, hin⟩
            obtain ⟨i, i0, i1, i2⟩ := hv
            obtain ⟨d1, d2, d3⟩ := c5 i i0 i1
            have d0 := c3 i i0 i1
            rw [i2] at d0 d1 d2 d3
            refine ⟨by omega, d1, d2, ?_⟩
            rcases d3 with d3 | d3
            · rw [d3]; exact ⟨e1, o1, hin⟩
            · exact d3
        · exact absurd c48 (by decide)
    · refine a_iconst (pc := 41) (n := 1) (by decide +kernel) ?_
      refine a_ireturn (pc := 42) (by decide +kernel) rfl ?_
      refine k_ret ?_
      refine ⟨rfl, hW.1, 1, rfl, c6 1 ?_⟩
      rw [show (σ.2.1 68 25 + 1 - s).toNat = (σ.2.1 68 25 - s).toNat + 1 by omega]
      exact ⟨e1, o1, Or.inl ⟨by omega, rfl⟩⟩
set_option maxHeartbeats 4000000 in
theorem l_led2 {G : j_G} {X : k_X} {n : Nat} {σ : k_St} (hn : 101 ≤ n) {pe : Int → Int} (hB : MB σ pe) {a : Nat} (hL : LH σ a pe) {head : Int} (hh : 0 ≤ head ∧ head ≤ 29)  : ∀ (z : Nat) (k : Int) (τ : k_St), σ.2.1 68 25 - k < (z : Int) → 0 ≤ k → k ≤ σ.2.1 68 25 → f100 σ τ → (∀ q, 0 ≤ q → q < k → τ.1 100 q = 0) → j_at G mX12_ledTo 2 [(0, .ref 68), (1, j_i head), (2, j_i k)] [] (k_h X n τ) 0 0 (k_Q X (lt_post n σ a head)) := by
  obtain ⟨hK, hP, hfl, hE, hok⟩ := id hB
  have hM := (KR_rg hK.1 hK.2.1).1.2.2
  have hE1 := hE.1
  intro z
  induction z with
  | zero => intro k τ h1 h2 h3; exact absurd h1 (by omega)
  | succ z ih =>
    intro k τ hz k0 kN hf hz0
    refine a_iload_n (pc := 2) (i := 2) (by decide +kernel) rfl ?_
    refine a_aload_n (pc := 3) (i := 0) (by decide +kernel) rfl ?_
    refine b_getI (pc := 4) fl_X12_281 (by decide +kernel) (sh_68 hn) rfl ?_
    rw [show τ.2.1 68 25 = σ.2.1 68 25 from (by rw [hf.2])]
    refine a_icmp_ge (pc := 7) (off := 16) (tgt := 23) (by decide +kernel) (by decide) (by omega) (by omega) (fun c7 => ?_) (fun c7 => ?_)
    · refine a_iload_n (pc := 23) (i := 1) (by decide +kernel) rfl ?_
      refine a_istore_n (pc := 24) (i := 2) (lv' := [(0, .ref 68), (1, j_i head), (2, j_i head)]) (by decide +kernel) (Nat.le_of_ble_eq_true rfl) rfl ?_
      exact l_led25 hn hB hL (σ.2.1 68 25).toNat.succ head 0 (fun i => i) τ (by omega) ⟨hf, hh, by omega, fun i j i0 i1 => absurd i1 (by omega), fun i i0 i1 => absurd i1 (by omega), fun x x0 x1 => by rw [hz0 x x0 (by omega)]; exact ⟨Or.inl rfl, fun v => absurd v (by omega), fun v => absurd v im_0⟩, fun i i0 i1 => absurd i1 (by omega), fun r q => by rw [show σ.2.1 68 25 + 1 - 0 = σ.2.1 68 25 + 1 by omega] at q; exact q⟩
    · refine a_aload_n (pc := 10) (i := 0) (by decide +kernel) rfl ?_
      refine b_getR (pc := 11) (b := 100) fl_X12_108 (by decide +kernel) (sh_68 hn) rfl ?_
      refine a_iload_n (pc := 14) (i := 2) (by decide +kernel) rfl ?_
      refine a_iconst (pc := 15) (n := 0) (by decide +kernel) ?_
      refine b_zastore (pc := 16) (by decide +kernel) (sh_100 hn) (by omega) (by omega) (by omega) (by omega) ?_
      obtain ⟨σ1, hσ1⟩ : ∃ z, z = k_sA τ 100 (j_up (τ.1 100) k 0) := ⟨_, rfl⟩
      rw [← hσ1]
      refine a_iinc (pc := 17) (i := 2) (n := 1) (x := k) (lv' := [(0, .ref 68), (1, j_i head), (2, j_i (k + 1))]) (by decide +kernel) rfl (Nat.le_of_ble_eq_true rfl) rfl ?_
      refine a_goto (pc := 20) (off := -18) (tgt := 2) (by decide +kernel) (by decide) ?_
      exact ih (k + 1) σ1 (by omega) (by omega) (by omega) (f100_s hf hσ1) (fun q q0 q1 => by rw [hσ1, k_AA]; by_cases c : q = k; rw [c, j_upS]; rw [j_upN c]; exact hz0 q q0 (by omega))
set_option maxHeartbeats 4000000 in
theorem e_ledTo {G : j_G} {X : k_X} {n : Nat} {σ : k_St} (hn : 101 ≤ n) {pe : Int → Int} (hB : MB σ pe) {a : Nat} (hL : LH σ a pe) {head : Int} (hh : 0 ≤ head ∧ head ≤ 29)  : k_run G X mX12_ledTo [.ref 68, j_i head] n σ 0 0 (lt_post n σ a head) := by
  obtain ⟨hK, hP, hfl, hE, hok⟩ := id hB
  have hM := (KR_rg hK.1 hK.2.1).1.2.2
  have hE1 := hE.1
  refine k_enter (by decide +kernel) (Nat.le_of_ble_eq_true rfl) ?_
  show j_at _ _ _ [(0, .ref 68), (1, j_i head)] [] _ _ _ _
  refine a_iconst (pc := 0) (n := 0) (by decide +kernel) ?_
  refine a_istore_n (pc := 1) (i := 2) (lv' := [(0, .ref 68), (1, j_i head), (2, j_i 0)]) (by decide +kernel) (Nat.le_of_ble_eq_true rfl) rfl ?_
  exact l_led2 hn hB hL hh (σ.2.1 68 25).toNat.succ 0 σ (by omega) (by omega) (by omega) ⟨fun _ _ => rfl, rfl⟩ (fun q q0 q1 => absurd q1 (by omega))
