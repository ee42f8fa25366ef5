theorem dig3 {p : Int} (h : 0 ≤ p ∧ p ≤ 29790) : ∃ a b c : Int, (0 ≤ a ∧ a ≤ 30) ∧ (0 ≤ b ∧ b ≤ 30) ∧ (0 ≤ c ∧ c ≤ 30) ∧ p = 961 * a + 31 * b + c := ⟨p / 961, p / 31 % 31, p % 31, by omega, by omega, by omega, by omega⟩
theorem path_heads {p : Int} (h : 0 ≤ p ∧ p ≤ 29790) : f_path (f_head p 0) (f_head p 1) (f_head p 2) = p := by
  obtain ⟨a, b, c, ha, hb, hc, rfl⟩ := dig3 h
  obtain ⟨e0, e1, e2⟩ := hd3 ha hb hc
  rw [e0, e1, e2]
  have key : ∀ x : Int, 0 ≤ x → (if (if x = 0 then (-9 : Int) else x - 1) = -9 then (0 : Int) else (if x = 0 then -9 else x - 1) + 1) = x := fun x x0 => by
    by_cases q : x = 0
    · rw [if_pos q, if_pos rfl, q]
    · rw [if_neg q, if_neg (by omega)]; omega
  unfold f_path f_lon
  rw [key a ha.1, key b hb.1, key c hc.1]
  omega
theorem path_inj {p q : Int} (hp : 0 ≤ p ∧ p ≤ 29790) (hq : 0 ≤ q ∧ q ≤ 29790) (h0 : f_head p 0 = f_head q 0) (h1 : f_head p 1 = f_head q 1) (h2 : f_head p 2 = f_head q 2) : p = q := by rw [← path_heads hp, ← path_heads hq, h0, h1, h2]
/-- the Model's row e of paths is the path p -/
def row_p (F : Int → Int) (e p : Int) : Prop := ∀ k, 0 ≤ k → k < 3 → F (3 * e + k) = f_head p k
theorem row_3 {F : Int → Int} {e p : Int} (h : row_p F e p) : F (3 * e) = f_head p 0 ∧ F (3 * e + 1) = f_head p 1 ∧ F (3 * e + 2) = f_head p 2 := by
  have h0 := h 0 (by omega) (by omega)
  rw [show 3 * e + 0 = 3 * e by omega] at h0
  exact ⟨h0, h 1 (by omega) (by omega), h 2 (by omega) (by omega)⟩
theorem row_dp {F : Int → Int} {e p : Int} (h : row_p F e p) (hs : f_head p 1 = -9 → f_head p 2 = -9) : d_dp F e = f_hin p := by
  obtain ⟨_, h1, h2⟩ := row_3 h
  unfold d_dp f_hin
  rw [h1, h2]
  by_cases q : f_head p 1 = -9
  · rw [if_pos q, if_neg (by rw [hs q]; simp), if_neg (by simp [q])]
  · rw [if_neg q]
    by_cases r : f_head p 2 = -9
    · rw [if_pos r, if_neg (by simp [r]), if_pos q]
    · rw [if_neg r, if_pos r]
theorem row_ip {F : Int → Int} {e p a b c : Int} (h : row_p F e p) (hp : 0 ≤ p ∧ p ≤ 29790) (ha : f_hd a) (hb : f_hd b) (hc : f_hd c) : d_ip F e a b c ↔ p = f_path a b c := by
  obtain ⟨h0, h1, h2⟩ := row_3 h
  unfold d_ip
  rw [h0, h1, h2]
  constructor
  · rintro ⟨r0, r1, r2⟩; rw [← r0, ← r1, ← r2, path_heads hp]
  · intro g; rw [g]; exact f_path_heads ha hb hc
theorem ch_aro {F : Int → Int} {e f p q : Int} (he : row_p F e p) (hf : row_p F f q) (hp : 0 ≤ p ∧ p ≤ 29790) (hq : 0 ≤ q ∧ q ≤ 29790) (sp : f_head p 0 ≠ -9 ∧ (f_head p 1 = -9 → f_head p 2 = -9)) (sq : f_head q 0 ≠ -9 ∧ (f_head q 1 = -9 → f_head q 2 = -9)) : d_ch F e f ↔ f_aro q = p := by
  have e1 := row_dp he sp.2
  have e2 := row_dp hf sq.2
  unfold d_ch
  rw [e1, e2]
  obtain ⟨a, b, c, ha, hb, hc, rfl⟩ := dig3 hp
  obtain ⟨a', b', c', ha', hb', hc', rfl⟩ := dig3 hq
  obtain ⟨x0, x1, x2⟩ := hd3 ha hb hc
  obtain ⟨y0, y1, y2⟩ := hd3 ha' hb' hc'
  rw [x0, x1, x2] at sp
  rw [y0, y1, y2] at sq
  have a1 : a ≠ 0 := fun g => sp.1 (if_pos g)
  have a1' : a' ≠ 0 := fun g => sq.1 (if_pos g)
  have b1 : b = 0 → c = 0 := fun g => by have := sp.2 (if_pos g); by_cases r : c = 0; exact r; rw [if_neg r] at this; omega
  have b1' : b' = 0 → c' = 0 := fun g => by have := sq.2 (if_pos g); by_cases r : c' = 0; exact r; rw [if_neg r] at this; omega
  have hh : (∀ i, 0 ≤ i → i < f_hin (961 * a + 31 * b + c) → F (3 * e + i) = F (3 * f + i)) ↔ (0 < f_hin (961 * a + 31 * b + c) → a = a') ∧ (1 < f_hin (961 * a + 31 * b + c) → b = b') ∧ (2 < f_hin (961 * a + 31 * b + c) → c = c') := by
    have inj : ∀ x y : Int, 0 ≤ x → 0 ≤ y → ((if x = 0 then (-9 : Int) else x - 1) = (if y = 0 then -9 else y - 1) ↔ x = y) := fun x y x0 y0 => by
      by_cases u : x = 0
      · rw [if_pos u]
        by_cases v : y = 0
        · rw [if_pos v]; omega
        · rw [if_neg v]; omega
      · rw [if_neg u]
        by_cases v : y = 0
        · rw [if_pos v]; omega
        · rw [if_neg v]; omega
    have k0 : F (3 * e + 0) = F (3 * f + 0) ↔ a = a' := by rw [he 0 (by omega) (by omega), hf 0 (by omega) (by omega), x0, y0]; exact inj _ _ ha.1 ha'.1
    have k1 : F (3 * e + 1) = F (3 * f + 1) ↔ b = b' := by rw [he 1 (by omega) (by omega), hf 1 (by omega) (by omega), x1, y1]; exact inj _ _ hb.1 hb'.1
    have k2 : F (3 * e + 2) = F (3 * f + 2) ↔ c = c' := by rw [he 2 (by omega) (by omega), hf 2 (by omega) (by omega), x2, y2]; exact inj _ _ hc.1 hc'.1
    constructor
    · intro h; exact ⟨fun g => k0.mp (h 0 (by omega) g), fun g => k1.mp (h 1 (by omega) g), fun g => k2.mp (h 2 (by omega) g)⟩
    · rintro ⟨g0, g1, g2⟩ i i0 i1
      have := f_hin_in (961 * a + 31 * b + c)
      rcases (show i = 0 ∨ i = 1 ∨ i = 2 by omega) with r | r | r
      · subst r; exact k0.mpr (g0 i1)
      · subst r; exact k1.mpr (g1 i1)
      · subst r; exact k2.mpr (g2 i1)
  rw [hh]
  have H1 : (c ≠ 0 ∧ b ≠ 0 ∧ f_hin (961 * a + 31 * b + c) = 3) ∨ (c = 0 ∧ b ≠ 0 ∧ f_hin (961 * a + 31 * b + c) = 2) ∨ (c = 0 ∧ b = 0 ∧ f_hin (961 * a + 31 * b + c) = 1) := by
    rw [hin3 ha hb hc]
    by_cases u : c = 0
    · by_cases v : b = 0
      · exact Or.inr (Or.inr ⟨u, v, by rw [if_neg (show ¬ (c ≠ 0) from fun g => g u), if_neg (show ¬ (b ≠ 0) from fun g => g v)]⟩)
      · exact Or.inr (Or.inl ⟨u, v, by rw [if_neg (show ¬ (c ≠ 0) from fun g => g u), if_pos v]⟩)
    · exact Or.inl ⟨u, fun g => u (b1 g), by rw [if_pos u]⟩
  have H2 : (c' ≠ 0 ∧ b' ≠ 0 ∧ f_hin (961 * a' + 31 * b' + c') = 3 ∧ f_aro (961 * a' + 31 * b' + c') = 961 * a' + 31 * b' + 0) ∨ (c' = 0 ∧ b' ≠ 0 ∧ f_hin (961 * a' + 31 * b' + c') = 2 ∧ f_aro (961 * a' + 31 * b' + c') = 961 * a' + 31 * 0 + 0) ∨ (c' = 0 ∧ b' = 0 ∧ f_hin (961 * a' + 31 * b' + c') = 1 ∧ f_aro (961 * a' + 31 * b' + c') = 0) := by
    rw [hin3 ha' hb' hc', aro3 ha' hb' hc']
    by_cases u : c' = 0
    · by_cases v : b' = 0
      · exact Or.inr (Or.inr ⟨u, v, by rw [if_neg (show ¬ (c' ≠ 0) from fun g => g u), if_neg (show ¬ (b' ≠ 0) from fun g => g v)], by rw [if_neg (show ¬ (c' ≠ 0) from fun g => g u), if_neg (show ¬ (b' ≠ 0) from fun g => g v)]⟩)
      · exact Or.inr (Or.inl ⟨u, v, by rw [if_neg (show ¬ (c' ≠ 0) from fun g => g u), if_pos v], by rw [if_neg (show ¬ (c' ≠ 0) from fun g => g u), if_pos v]⟩)
    · exact Or.inl ⟨u, fun g => u (b1' g), by rw [if_pos u], by rw [if_pos u]⟩
  clear hh x0 x1 x2 y0 y1 y2 sp sq e1 e2 he hf b1 b1' hp hq
  rcases H1 with ⟨u1, u2, u3⟩ | ⟨u1, u2, u3⟩ | ⟨u1, u2, u3⟩ <;> rcases H2 with ⟨v1, v2, v3, v4⟩ | ⟨v1, v2, v3, v4⟩ | ⟨v1, v2, v3, v4⟩ <;> rw [u3, v3, v4] <;> exact ⟨fun ⟨g1, g2, g3, g4⟩ => by first | omega | (have := g2 (by omega); first | omega | (have := g3 (by omega); first | omega | (have := g4 (by omega); omega))), fun g => ⟨by omega, fun _ => by omega, fun _ => by omega, fun _ => by omega⟩⟩
theorem f_count_z {g : Int → Bool} : ∀ {k : Nat}, (∀ i : Int, 0 ≤ i → i < k → g i = false) → f_count g k = 0
  | 0, _ => rfl
  | k + 1, h => by unfold f_count; rw [f_count_z (fun i i0 i1 => h i i0 (by omega)), h k (by omega) (by omega)]; rfl
/-- what lies within an entry, counted either way -/
theorem IR_win {σ : k_St} {a : Nat} (hw : i_wf σ a) (h : IR σ a) {e : Int} (he : 0 ≤ e ∧ e < σ.2.1 a 0) : i_win σ a e = f_count (d_cB (σ.1 81) e) (σ.2.1 a 0).toNat := by
  obtain ⟨_, h1, h2, _⟩ := h
  have z : f_count (i_wB σ a e) (e + 1).toNat = 0 := f_count_z (fun i i0 i1 => by
    unfold i_wB
    refine decide_eq_false (fun g => ?_)
    have := (h2 e i he.1 he.2 i0 (by omega)).2 g; omega)
  unfold i_win
  rw [if_pos he, z]
  have : f_count (i_wB σ a e) (σ.2.1 a 0).toNat = f_count (d_cB (σ.1 81) e) (σ.2.1 a 0).toNat := f_count_congr (fun i i0 i1 => by
    have hi : i < σ.2.1 a 0 := by have := hw.1; omega
    obtain ⟨x1, _, _, x4, _⟩ := h1 e he.1 he.2
    obtain ⟨y1, _, _, y4, _⟩ := h1 i i0 hi
    have := ch_aro (F := σ.1 81) (e := e) (f := i) x1 y1 (hw.2.2.2.2 e).1 (hw.2.2.2.2 i).1 x4.2 y4.2
    unfold i_wB
    by_cases g : f_aro (σ.1 (a + 1) i) = σ.1 (a + 1) e
    · rw [d_cB_y (this.mpr g)]; exact decide_eq_true g
    · rw [d_cB_n (fun q => g (this.mp q))]; exact decide_eq_false g)
  omega
theorem IR_eo {σ : k_St} {a : Nat} (hw : i_wf σ a) (h : IR σ a) {x y z r q : Int} (hx : f_hd x) (hy : f_hd y) (hz : f_hd z) (h1 : i_of σ a (f_path x y z) r) (h2 : d_eo (σ.1 81) (σ.2.1 68 25) x y z q) : q = r := by
  obtain ⟨g0, g1, g2, _⟩ := h
  rw [g0] at h2
  have key : ∀ e, 0 ≤ e → e < σ.2.1 a 0 → (d_ip (σ.1 81) e x y z ↔ σ.1 (a + 1) e = f_path x y z) := fun e e0 e1 => row_ip (g1 e e0 e1).1 (hw.2.2.2.2 e).1 hx hy hz
  rcases h1 with ⟨r1, r2⟩ | ⟨r1, r2, r3, r4⟩
  · rcases h2 with ⟨q1, q2⟩ | ⟨q1, q2, q3, q4⟩
    · omega
    · exact absurd ((key q q1 q2).mp q3) (r2 q q1 q2)
  · rcases h2 with ⟨q1, q2⟩ | ⟨q1, q2, q3, q4⟩
    · exact absurd ((key r r1 r2).mpr r3) (q2 r r1 r2)
    · exact (g2 q r q1 q2 r1 r2).1 (((key q q1 q2).mp q3).trans r3.symm)
def en_P (σ : k_St) (e w r : Int) : Prop := (¬ (0 ≤ e ∧ e < σ.2.1 (ix σ) 0) ∧ r = -1) ∨ ((0 ≤ e ∧ e < σ.2.1 (ix σ) 0) ∧ w = 0 ∧ r = f_head (σ.1 (ix σ + 1) e) 0) ∨ ((0 ≤ e ∧ e < σ.2.1 (ix σ) 0) ∧ w = 1 ∧ r = f_head (σ.1 (ix σ + 1) e) 1) ∨ ((0 ≤ e ∧ e < σ.2.1 (ix σ) 0) ∧ w = 2 ∧ r = f_head (σ.1 (ix σ + 1) e) 2) ∨ ((0 ≤ e ∧ e < σ.2.1 (ix σ) 0) ∧ w = 3 ∧ r = i_pn σ (ix σ) e) ∨ ((0 ≤ e ∧ e < σ.2.1 (ix σ) 0) ∧ w = 4 ∧ r = i_win σ (ix σ) e) ∨ ((0 ≤ e ∧ e < σ.2.1 (ix σ) 0) ∧ w = 5 ∧ r = i_sn σ (ix σ) e) ∨ ((0 ≤ e ∧ e < σ.2.1 (ix σ) 0) ∧ w = 6 ∧ r = f_hin (σ.1 (ix σ + 1) e)) ∨ ((0 ≤ e ∧ e < σ.2.1 (ix σ) 0) ∧ w < 0 ∧ r = -2) ∨ ((0 ≤ e ∧ e < σ.2.1 (ix σ) 0) ∧ 6 < w ∧ r = -2)
set_option maxHeartbeats 4000000 in
theorem c_entry {G : j_G} {X : k_X} {n : Nat} {σ : k_St} (hR : RR n σ) {e : Int} (he : -2147483648 ≤ e ∧ e ≤ 2147483647) {w : Int} (hw : -2147483648 ≤ w ∧ w ≤ 2147483647)  : k_run G X mX11_entry [.ref 5, j_i e, j_i w] n σ 0 0 (fun v n' σ' => ∃ r : Int, v = some (j_i r) ∧ n' = n ∧ σ' = σ ∧ en_P σ e w r) := by
  obtain ⟨hK, hAc, hNm, hPs, hPt, hSm, hIx⟩ := id hR
  have hn := RR_n hR
  have hk := hK.1
  have hwh : h_wf σ 8 := hk.2.1
  have hwm : m_wf σ 16 := hk.2.2
  have hW : 0 ≤ σ.2.1 6 1 ∧ σ.2.1 6 1 ≤ 300 := hk.1
  have hfl := hSm.1
  obtain ⟨ia, ib, hab, hia, hib, wia, wib, ria, rib, hrg, h01, hIR, hchg⟩ := id hIx
  have hA : i_at X n ia := by rcases hab with q | q; rw [q.1]; exact iA_48 hn; rw [q.1]; exact iA_58 hn
  have hix : ix σ = ia := by unfold ix; rw [hia]; rfl
  have hab5 : ia = 48 ∨ ia = 58 := by omega
  obtain ⟨hs99, hs0, hs1, hs2, hs3, hs4, hs5, hs6, hs7⟩ := id hA
  obtain ⟨hc9, hp9, hl9, ho9, hv9⟩ := id wia
  refine k_enter (by decide +kernel) (Nat.le_of_ble_eq_true rfl) ?_
  show j_at _ _ _ [(0, .ref 5), (1, j_i e), (2, j_i w)] [] _ _ _ _
  refine a_aload_n (pc := 0) (i := 0) (by decide +kernel) rfl ?_
  refine b_getM (pc := 1) (b := ia) fl_X11_68 (by decide +kernel) (sh_5 hn) rfl hia ?_
  refine a_iload_n (pc := 4) (i := 1) (by decide +kernel) rfl ?_
  refine b_callV (pc := 5) (c' := 0) (sl' := 0) [j_i e] [] ml_X11_286 (by decide +kernel) rfl rfl hs0 rfl rfl (Nat.le_of_ble_eq_true rfl) (j_fitI rfl rfl) (s_ihas hA wia (by omega)) (fun v n' σ' hq => ?_)
  obtain ⟨x, rfl, e1, e2, hx⟩ := hq
  rw [e1, e2]; clear e1 e2
  rcases hx with ⟨rfl, p5⟩ | ⟨rfl, p5⟩
  · show j_at _ _ _ [(0, .ref 5), (1, j_i e), (2, j_i w)] [j_i 1] _ _ _ _
    have hv1 := (hv9 e).1
    refine a_if_ne (pc := 8) (off := 5) (tgt := 13) (by decide +kernel) (by decide) (by omega) (fun c8 => ?_) (fun c8 => ?_)
    · refine a_iload_n (pc := 13) (i := 2) (by decide +kernel) rfl ?_
      by_cases c14 : w < 0 ∨ 6 < w
      · refine a_tableOut (pc := 14) (tgt := 110) (dflt := 96) (lo := 0) (hi := 6) (offs := #[42, 42, 42, 56, 65, 74, 83]) (len := 42) (by decide +kernel) (by omega) c14 (by decide) ?_
        refine a_bipush (pc := 110) (n := (-2)) (by decide +kernel) rfl ?_
        refine a_ireturn (pc := 112) (by decide +kernel) rfl ?_
        refine k_ret ?_
        rcases c14 with c14 | c14
        · exact ⟨_, rfl, rfl, rfl, by unfold en_P; rw [hix]; exact Or.inr (Or.inr (Or.inr (Or.inr (Or.inr (Or.inr (Or.inr (Or.inr (Or.inl (by omega)))))))))⟩
        · exact ⟨_, rfl, rfl, rfl, by unfold en_P; rw [hix]; exact Or.inr (Or.inr (Or.inr (Or.inr (Or.inr (Or.inr (Or.inr (Or.inr (Or.inr (by omega)))))))))⟩
      rcases (show w = 0 ∨ w = 1 ∨ w = 2 ∨ w = 3 ∨ w = 4 ∨ w = 5 ∨ w = 6 by omega) with c14 | c14 | c14 | c14 | c14 | c14 | c14
      · subst c14
        refine a_tableIn (pc := 14) (tgt := 56) (dflt := 96) (lo := 0) (hi := 6) (off := 42) (offs := #[42, 42, 42, 56, 65, 74, 83]) (len := 42) (by decide +kernel) (by decide) (by decide) (by decide) rfl (by decide) ?_
        refine a_aload_n (pc := 56) (i := 0) (by decide +kernel) rfl ?_
        refine b_getM (pc := 57) (b := ia) fl_X11_68 (by decide +kernel) (sh_5 hn) rfl hia ?_
        refine b_getR (pc := 60) (b := ia + 1) fl_X11_287 (by decide +kernel) hs0 rfl ?_
        refine a_iload_n (pc := 63) (i := 1) (by decide +kernel) rfl ?_
        refine b_iaload (pc := 64) (by decide +kernel) hs1 (by omega) (by omega) (by omega) ?_
        refine a_iload_n (pc := 65) (i := 2) (by decide +kernel) rfl ?_
        refine b_pureS (pc := 66) [j_i (σ.1 (ia + 1) e), j_i 0] [] ml_X11_290 (by decide +kernel) rfl rfl (Nat.le_of_ble_eq_true rfl) (j_fitI rfl rfl) (s_headOf (by omega) (by omega)) ?_
        have qh1 := f_head_in (σ.1 (ia + 1) e) 0
        show j_at _ _ _ [(0, .ref 5), (1, j_i e), (2, j_i 0)] [j_i (f_head (σ.1 (ia + 1) e) 0)] _ _ _ _
        refine a_ireturn (pc := 69) (by decide +kernel) rfl ?_
        refine k_ret ?_
        refine ⟨_, rfl, rfl, rfl, ?_⟩
        unfold en_P
        rw [hix]
        first | exact Or.inl (by omega) | exact Or.inr (Or.inl (by omega)) | exact Or.inr (Or.inr (Or.inl (by omega))) | exact Or.inr (Or.inr (Or.inr (Or.inl (by omega)))) | exact Or.inr (Or.inr (Or.inr (Or.inr (Or.inl (by omega))))) | exact Or.inr (Or.inr (Or.inr (Or.inr (Or.inr (Or.inl (by omega)))))) | exact Or.inr (Or.inr (Or.inr (Or.inr (Or.inr (Or.inr (Or.inl (by omega))))))) | exact Or.inr (Or.inr (Or.inr (Or.inr (Or.inr (Or.inr (Or.inr (Or.inl (by omega)))))))) | exact Or.inr (Or.inr (Or.inr (Or.inr (Or.inr (Or.inr (Or.inr (Or.inr (Or.inl (by omega))))))))) | exact Or.inr (Or.inr (Or.inr (Or.inr (Or.inr (Or.inr (Or.inr (Or.inr (Or.inr (by omega)))))))))
      · subst c14
        refine a_tableIn (pc := 14) (tgt := 56) (dflt := 96) (lo := 0) (hi := 6) (off := 42) (offs := #[42, 42, 42, 56, 65, 74, 83]) (len := 42) (by decide +kernel) (by decide) (by decide) (by decide) rfl (by decide) ?_
        refine a_aload_n (pc := 56) (i := 0) (by decide +kernel) rfl ?_
        refine b_getM (pc := 57) (b := ia) fl_X11_68 (by decide +kernel) (sh_5 hn) rfl hia ?_
        refine b_getR (pc := 60) (b := ia + 1) fl_X11_287 (by decide +kernel) hs0 rfl ?_
        refine a_iload_n (pc := 63) (i := 1) (by decide +kernel) rfl ?_
        refine b_iaload (pc := 64) (by decide +kernel) hs1 (by omega) (by omega) (by omega) ?_
        refine a_iload_n (pc := 65) (i := 2) (by decide +kernel) rfl ?_
        refine b_pureS (pc := 66) [j_i (σ.1 (ia + 1) e), j_i 1] [] ml_X11_290 (by decide +kernel) rfl rfl (Nat.le_of_ble_eq_true rfl) (j_fitI rfl rfl) (s_headOf (by omega) (by omega)) ?_
        have qh2 := f_head_in (σ.1 (ia + 1) e) 1
        show j_at _ _ _ [(0, .ref 5), (1, j_i e), (2, j_i 1)] [j_i (f_head (σ.1 (ia + 1) e) 1)] _ _ _ _
        refine a_ireturn (pc := 69) (by decide +kernel) rfl ?_
        refine k_ret ?_
        refine ⟨_, rfl, rfl, rfl, ?_⟩
        unfold en_P
        rw [hix]
        first | exact Or.inl (by omega) | exact Or.inr (Or.inl (by omega)) | exact Or.inr (Or.inr (Or.inl (by omega))) | exact Or.inr (Or.inr (Or.inr (Or.inl (by omega)))) | exact Or.inr (Or.inr (Or.inr (Or.inr (Or.inl (by omega))))) | exact Or.inr (Or.inr (Or.inr (Or.inr (Or.inr (Or.inl (by omega)))))) | exact Or.inr (Or.inr (Or.inr (Or.inr (Or.inr (Or.inr (Or.inl (by omega))))))) | exact Or.inr (Or.inr (Or.inr (Or.inr (Or.inr (Or.inr (Or.inr (Or.inl (by omega)))))))) | exact Or.inr (Or.inr (Or.inr (Or.inr (Or.inr (Or.inr (Or.inr (Or.inr (Or.inl (by omega))))))))) | exact Or.inr (Or.inr (Or.inr (Or.inr (Or.inr (Or.inr (Or.inr (Or.inr (Or.inr (by omega)))))))))
      · subst c14
        refine a_tableIn (pc := 14) (tgt := 56) (dflt := 96) (lo := 0) (hi := 6) (off := 42) (offs := #[42, 42, 42, 56, 65, 74, 83]) (len := 42) (by decide +kernel) (by decide) (by decide) (by decide) rfl (by decide) ?_
        refine a_aload_n (pc := 56) (i := 0) (by decide +kernel) rfl ?_
        refine b_getM (pc := 57) (b := ia) fl_X11_68 (by decide +kernel) (sh_5 hn) rfl hia ?_
        refine b_getR (pc := 60) (b := ia + 1) fl_X11_287 (by decide +kernel) hs0 rfl ?_
        refine a_iload_n (pc := 63) (i := 1) (by decide +kernel) rfl ?_
        refine b_iaload (pc := 64) (by decide +kernel) hs1 (by omega) (by omega) (by omega) ?_
        refine a_iload_n (pc := 65) (i := 2) (by decide +kernel) rfl ?_
        refine b_pureS (pc := 66) [j_i (σ.1 (ia + 1) e), j_i 2] [] ml_X11_290 (by decide +kernel) rfl rfl (Nat.le_of_ble_eq_true rfl) (j_fitI rfl rfl) (s_headOf (by omega) (by omega)) ?_
        have qh3 := f_head_in (σ.1 (ia + 1) e) 2
        show j_at _ _ _ [(0, .ref 5), (1, j_i e), (2, j_i 2)] [j_i (f_head (σ.1 (ia + 1) e) 2)] _ _ _ _
        refine a_ireturn (pc := 69) (by decide +kernel) rfl ?_
        refine k_ret ?_
        refine ⟨_, rfl, rfl, rfl, ?_⟩
        unfold en_P
        rw [hix]
        first | exact Or.inl (by omega) | exact Or.inr (Or.inl (by omega)) | exact Or.inr (Or.inr (Or.inl (by omega))) | exact Or.inr (Or.inr (Or.inr (Or.inl (by omega)))) | exact Or.inr (Or.inr (Or.inr (Or.inr (Or.inl (by omega))))) | exact Or.inr (Or.inr (Or.inr (Or.inr (Or.inr (Or.inl (by omega)))))) | exact Or.inr (Or.inr (Or.inr (Or.inr (Or.inr (Or.inr (Or.inl (by omega))))))) | exact Or.inr (Or.inr (Or.inr (Or.inr (Or.inr (Or.inr (Or.inr (Or.inl (by omega)))))))) | exact Or.inr (Or.inr (Or.inr (Or.inr (Or.inr (Or.inr (Or.inr (Or.inr (Or.inl (by omega))))))))) | exact Or.inr (Or.inr (Or.inr (Or.inr (Or.inr (Or.inr (Or.inr (Or.inr (Or.inr (by omega)))))))))
      · subst c14
        refine a_tableIn (pc := 14) (tgt := 70) (dflt := 96) (lo := 0) (hi := 6) (off := 56) (offs := #[42, 42, 42, 56, 65, 74, 83]) (len := 42) (by decide +kernel) (by decide) (by decide) (by decide) rfl (by decide) ?_
        refine a_aload_n (pc := 70) (i := 0) (by decide +kernel) rfl ?_
        refine b_getM (pc := 71) (b := ia) fl_X11_68 (by decide +kernel) (sh_5 hn) rfl hia ?_
        refine a_iload_n (pc := 74) (i := 1) (by decide +kernel) rfl ?_
        refine b_pureV (pc := 75) [j_i e] [] ml_X11_293 (by decide +kernel) rfl rfl hs0 rfl rfl (Nat.le_of_ble_eq_true rfl) (j_fitI rfl rfl) (s_placesOf hA wia (by omega)) ?_
        have q4 := i_pn_in wia e
        show j_at _ _ _ [(0, .ref 5), (1, j_i e), (2, j_i 3)] [j_i (i_pn σ ia e)] _ _ _ _
        refine a_ireturn (pc := 78) (by decide +kernel) rfl ?_
        refine k_ret ?_
        refine ⟨_, rfl, rfl, rfl, ?_⟩
        unfold en_P
        rw [hix]
        first | exact Or.inl (by omega) | exact Or.inr (Or.inl (by omega)) | exact Or.inr (Or.inr (Or.inl (by omega))) | exact Or.inr (Or.inr (Or.inr (Or.inl (by omega)))) | exact Or.inr (Or.inr (Or.inr (Or.inr (Or.inl (by omega))))) | exact Or.inr (Or.inr (Or.inr (Or.inr (Or.inr (Or.inl (by omega)))))) | exact Or.inr (Or.inr (Or.inr (Or.inr (Or.inr (Or.inr (Or.inl (by omega))))))) | exact Or.inr (Or.inr (Or.inr (Or.inr (Or.inr (Or.inr (Or.inr (Or.inl (by omega)))))))) | exact Or.inr (Or.inr (Or.inr (Or.inr (Or.inr (Or.inr (Or.inr (Or.inr (Or.inl (by omega))))))))) | exact Or.inr (Or.inr (Or.inr (Or.inr (Or.inr (Or.inr (Or.inr (Or.inr (Or.inr (by omega)))))))))
      · subst c14
        refine a_tableIn (pc := 14) (tgt := 79) (dflt := 96) (lo := 0) (hi := 6) (off := 65) (offs := #[42, 42, 42, 56, 65, 74, 83]) (len := 42) (by decide +kernel) (by decide) (by decide) (by decide) rfl (by decide) ?_
        refine a_aload_n (pc := 79) (i := 0) (by decide +kernel) rfl ?_
        refine b_getM (pc := 80) (b := ia) fl_X11_68 (by decide +kernel) (sh_5 hn) rfl hia ?_
        refine a_iload_n (pc := 83) (i := 1) (by decide +kernel) rfl ?_
        refine b_pureV (pc := 84) [j_i e] [] ml_X11_296 (by decide +kernel) rfl rfl hs0 rfl rfl (Nat.le_of_ble_eq_true rfl) (j_fitI rfl rfl) (s_withinOf hA wia (by omega)) ?_
        show j_at _ _ _ [(0, .ref 5), (1, j_i e), (2, j_i 4)] [j_i (i_win σ ia e)] _ _ _ _
        refine a_ireturn (pc := 87) (by decide +kernel) rfl ?_
        refine k_ret ?_
        refine ⟨_, rfl, rfl, rfl, ?_⟩
        unfold en_P
        rw [hix]
        first | exact Or.inl (by omega) | exact Or.inr (Or.inl (by omega)) | exact Or.inr (Or.inr (Or.inl (by omega))) | exact Or.inr (Or.inr (Or.inr (Or.inl (by omega)))) | exact Or.inr (Or.inr (Or.inr (Or.inr (Or.inl (by omega))))) | exact Or.inr (Or.inr (Or.inr (Or.inr (Or.inr (Or.inl (by omega)))))) | exact Or.inr (Or.inr (Or.inr (Or.inr (Or.inr (Or.inr (Or.inl (by omega))))))) | exact Or.inr (Or.inr (Or.inr (Or.inr (Or.inr (Or.inr (Or.inr (Or.inl (by omega)))))))) | exact Or.inr (Or.inr (Or.inr (Or.inr (Or.inr (Or.inr (Or.inr (Or.inr (Or.inl (by omega))))))))) | exact Or.inr (Or.inr (Or.inr (Or.inr (Or.inr (Or.inr (Or.inr (Or.inr (Or.inr (by omega)))))))))
      · subst c14
        refine a_tableIn (pc := 14) (tgt := 88) (dflt := 96) (lo := 0) (hi := 6) (off := 74) (offs := #[42, 42, 42, 56, 65, 74, 83]) (len := 42) (by decide +kernel) (by decide) (by decide) (by decide) rfl (by decide) ?_
        refine a_aload_n (pc := 88) (i := 0) (by decide +kernel) rfl ?_
        refine b_getM (pc := 89) (b := ia) fl_X11_68 (by decide +kernel) (sh_5 hn) rfl hia ?_
        refine a_iload_n (pc := 92) (i := 1) (by decide +kernel) rfl ?_
        refine b_pureV (pc := 93) [j_i e] [] ml_X11_299 (by decide +kernel) rfl rfl hs0 rfl rfl (Nat.le_of_ble_eq_true rfl) (j_fitI rfl rfl) (s_seesOf hA wia (by omega)) ?_
        have q6 := i_sn_in wia e
        show j_at _ _ _ [(0, .ref 5), (1, j_i e), (2, j_i 5)] [j_i (i_sn σ ia e)] _ _ _ _
        refine a_ireturn (pc := 96) (by decide +kernel) rfl ?_
        refine k_ret ?_
        refine ⟨_, rfl, rfl, rfl, ?_⟩
        unfold en_P
        rw [hix]
        first | exact Or.inl (by omega) | exact Or.inr (Or.inl (by omega)) | exact Or.inr (Or.inr (Or.inl (by omega))) | exact Or.inr (Or.inr (Or.inr (Or.inl (by omega)))) | exact Or.inr (Or.inr (Or.inr (Or.inr (Or.inl (by omega))))) | exact Or.inr (Or.inr (Or.inr (Or.inr (Or.inr (Or.inl (by omega)))))) | exact Or.inr (Or.inr (Or.inr (Or.inr (Or.inr (Or.inr (Or.inl (by omega))))))) | exact Or.inr (Or.inr (Or.inr (Or.inr (Or.inr (Or.inr (Or.inr (Or.inl (by omega)))))))) | exact Or.inr (Or.inr (Or.inr (Or.inr (Or.inr (Or.inr (Or.inr (Or.inr (Or.inl (by omega))))))))) | exact Or.inr (Or.inr (Or.inr (Or.inr (Or.inr (Or.inr (Or.inr (Or.inr (Or.inr (by omega)))))))))
      · subst c14
        refine a_tableIn (pc := 14) (tgt := 97) (dflt := 96) (lo := 0) (hi := 6) (off := 83) (offs := #[42, 42, 42, 56, 65, 74, 83]) (len := 42) (by decide +kernel) (by decide) (by decide) (by decide) rfl (by decide) ?_
        refine a_aload_n (pc := 97) (i := 0) (by decide +kernel) rfl ?_
        refine b_getM (pc := 98) (b := ia) fl_X11_68 (by decide +kernel) (sh_5 hn) rfl hia ?_
        refine b_getR (pc := 101) (b := ia + 1) fl_X11_287 (by decide +kernel) hs0 rfl ?_
        refine a_iload_n (pc := 104) (i := 1) (by decide +kernel) rfl ?_
        refine b_iaload (pc := 105) (by decide +kernel) hs1 (by omega) (by omega) (by omega) ?_
        refine b_pureS (pc := 106) [j_i (σ.1 (ia + 1) e)] [] ml_X11_302 (by decide +kernel) rfl rfl (Nat.le_of_ble_eq_true rfl) (j_fitI rfl rfl) (s_headsIn (by omega)) ?_
        have qi := f_hin_in (σ.1 (ia + 1) e)
        show j_at _ _ _ [(0, .ref 5), (1, j_i e), (2, j_i 6)] [j_i (f_hin (σ.1 (ia + 1) e))] _ _ _ _
        refine a_ireturn (pc := 109) (by decide +kernel) rfl ?_
        refine k_ret ?_
        refine ⟨_, rfl, rfl, rfl, ?_⟩
        unfold en_P
        rw [hix]
        first | exact Or.inl (by omega) | exact Or.inr (Or.inl (by omega)) | exact Or.inr (Or.inr (Or.inl (by omega))) | exact Or.inr (Or.inr (Or.inr (Or.inl (by omega)))) | exact Or.inr (Or.inr (Or.inr (Or.inr (Or.inl (by omega))))) | exact Or.inr (Or.inr (Or.inr (Or.inr (Or.inr (Or.inl (by omega)))))) | exact Or.inr (Or.inr (Or.inr (Or.inr (Or.inr (Or.inr (Or.inl (by omega))))))) | exact Or.inr (Or.inr (Or.inr (Or.inr (Or.inr (Or.inr (Or.inr (Or.inl (by omega)))))))) | exact Or.inr (Or.inr (Or.inr (Or.inr (Or.inr (Or.inr (Or.inr (Or.inr (Or.inl (by omega))))))))) | exact Or.inr (Or.inr (Or.inr (Or.inr (Or.inr (Or.inr (Or.inr (Or.inr (Or.inr (by omega)))))))))
    · exact absurd c8 (by decide)
  · show j_at _ _ _ [(0, .ref 5), (1, j_i e), (2, j_i w)] [j_i 0] _ _ _ _
    refine a_if_ne (pc := 8) (off := 5) (tgt := 13) (by decide +kernel) (by decide) (by omega) (fun c8 => ?_) (fun c8 => ?_)
    · exact absurd c8 (by decide)
    · refine a_iconst (pc := 11) (n := (-1)) (by decide +kernel) ?_
      refine a_ireturn (pc := 12) (by decide +kernel) rfl ?_
      refine k_ret ?_
      refine ⟨_, rfl, rfl, rfl, ?_⟩
      unfold en_P
      rw [hix]
      first | exact Or.inl (by omega) | exact Or.inr (Or.inl (by omega)) | exact Or.inr (Or.inr (Or.inl (by omega))) | exact Or.inr (Or.inr (Or.inr (Or.inl (by omega)))) | exact Or.inr (Or.inr (Or.inr (Or.inr (Or.inl (by omega))))) | exact Or.inr (Or.inr (Or.inr (Or.inr (Or.inr (Or.inl (by omega)))))) | exact Or.inr (Or.inr (Or.inr (Or.inr (Or.inr (Or.inr (Or.inl (by omega))))))) | exact Or.inr (Or.inr (Or.inr (Or.inr (Or.inr (Or.inr (Or.inr (Or.inl (by omega)))))))) | exact Or.inr (Or.inr (Or.inr (Or.inr (Or.inr (Or.inr (Or.inr (Or.inr (Or.inl (by omega))))))))) | exact Or.inr (Or.inr (Or.inr (Or.inr (Or.inr (Or.inr (Or.inr (Or.inr (Or.inr (by omega)))))))))
set_option maxHeartbeats 4000000 in
theorem d_entry {G : j_G} {X : k_X} {n : Nat} {σ : k_St} (hR : RR n σ) {e : Int} (he : -2147483648 ≤ e ∧ e ≤ 2147483647) {w : Int} (hw : -2147483648 ≤ w ∧ w ≤ 2147483647) {r : Int} (hP : en_P σ e w r)  : k_run G X mX12_entry [.ref 68, j_i e, j_i w] n σ 0 0 (fun v2 n2 σ2 => v2 = some (j_i r) ∧ RR n2 σ2) := by
  obtain ⟨hK, hAc, hNm, hPs, hPt, hSm, hIx⟩ := id hR
  have hn := RR_n hR
  have hk := hK.1
  have hwh : h_wf σ 8 := hk.2.1
  have hwm : m_wf σ 16 := hk.2.2
  have hW : 0 ≤ σ.2.1 6 1 ∧ σ.2.1 6 1 ≤ 300 := hk.1
  have hfl := hSm.1
  have hg := hK.2.2.2
  obtain ⟨⟨hgW, hgE, hgM⟩, hgh, hgm⟩ := KR_rg hk hK.2.1
  have hW0 : σ.2.1 6 1 = σ.1 69 0 := hK.2.1.1.1
  have hE0 : σ.2.1 8 3 = σ.1 69 301 := hK.2.1.2.1.1
  have hM0 : σ.2.1 16 5 = σ.1 69 1382 := hK.2.1.2.2.1
  have hfl8 : σ.2.1 68 11 = σ.2.1 5 10 := hSm.2.1
  obtain ⟨ia, ib, hab, hia, hib, wia, wib, ria, rib, hrg, h01, hIR, hchg⟩ := id hIx
  have hA : i_at X n ia := by rcases hab with q | q; rw [q.1]; exact iA_48 hn; rw [q.1]; exact iA_58 hn
  have hix : ix σ = ia := by unfold ix; rw [hia]; rfl
  have hab5 : ia = 48 ∨ ia = 58 := by omega
  obtain ⟨hs99, hs0, hs1, hs2, hs3, hs4, hs5, hs6, hs7⟩ := id hA
  obtain ⟨hc9, hp9, hl9, ho9, hv9⟩ := id wia
  obtain ⟨hI0, hI1, hI2, hI3, hI4, hI5, hI6, hI7, hI8⟩ := id hIR
  have hE : 0 ≤ σ.2.1 68 25 ∧ σ.2.1 68 25 ≤ 200 := by omega
  have hpr : ∀ i k, 0 ≤ i → i < σ.2.1 68 25 → 0 ≤ k → k < 3 → -9 ≤ σ.1 81 (3 * i + k) ∧ σ.1 81 (3 * i + k) ≤ 29 := fun i k i0 i1 k0 k1 => by rw [(hI1 i i0 (by omega)).1 k k0 k1]; exact f_head_in _ _
  refine k_enter (by decide +kernel) (Nat.le_of_ble_eq_true rfl) ?_
  show j_at _ _ _ [(0, .ref 68), (1, j_i e), (2, j_i w)] [] _ _ _ _
  refine a_aload_n (pc := 0) (i := 0) (by decide +kernel) rfl ?_
  refine a_iload_n (pc := 1) (i := 1) (by decide +kernel) rfl ?_
  refine b_callV (pc := 2) (c' := 0) (sl' := 0) [j_i e] [] ml_X12_389 (by decide +kernel) rfl rfl (sh_68 hn) rfl rfl (Nat.le_of_ble_eq_true rfl) (j_fitI rfl rfl) (s_disEntry hn hE (by omega)) (fun v n' σ' hq => ?_)
  obtain ⟨x, rfl, e1, e2, hx⟩ := hq
  rw [e1, e2]; clear e1 e2
  rcases hx with ⟨rfl, p2⟩ | ⟨rfl, p2⟩
  · show j_at _ _ _ [(0, .ref 68), (1, j_i e), (2, j_i w)] [j_i 1] _ _ _ _
    obtain ⟨x1, ⟨x2, _⟩, ⟨x3, _⟩, x4, _⟩ := hI1 e (by omega) (by omega)
    have x5 := x1 0 (by omega) (by omega)
    have x6 := x1 1 (by omega) (by omega)
    have x7 := x1 2 (by omega) (by omega)
    refine a_if_ne (pc := 5) (off := 5) (tgt := 10) (by decide +kernel) (by decide) (by omega) (fun c5 => ?_) (fun c5 => ?_)
    · refine a_iload_n (pc := 10) (i := 2) (by decide +kernel) rfl ?_
      by_cases c11 : w < 0 ∨ 6 < w
      · refine a_tableOut (pc := 11) (tgt := 89) (dflt := 78) (lo := 0) (hi := 6) (offs := #[41, 41, 41, 52, 59, 65, 72]) (len := 41) (by decide +kernel) (by omega) c11 (by decide) ?_
        refine a_bipush (pc := 89) (n := (-2)) (by decide +kernel) rfl ?_
        refine a_ireturn (pc := 91) (by decide +kernel) rfl ?_
        refine k_ret ?_
        have hr : ((-2) : Int) = r := by
          unfold en_P at hP
          rw [hix] at hP
          rcases hP with hP | hP | hP | hP | hP | hP | hP | hP | hP | hP <;> omega
        exact ⟨by rw [hr], hR⟩
      rcases (show w = 0 ∨ w = 1 ∨ w = 2 ∨ w = 3 ∨ w = 4 ∨ w = 5 ∨ w = 6 by omega) with c11 | c11 | c11 | c11 | c11 | c11 | c11
      · subst c11
        refine a_tableIn (pc := 11) (tgt := 52) (dflt := 78) (lo := 0) (hi := 6) (off := 41) (offs := #[41, 41, 41, 52, 59, 65, 72]) (len := 41) (by decide +kernel) (by decide) (by decide) (by decide) rfl (by decide) ?_
        refine a_aload_n (pc := 52) (i := 0) (by decide +kernel) rfl ?_
        refine b_getR (pc := 53) (b := 81) fl_X12_51 (by decide +kernel) (sh_68 hn) rfl ?_
        refine a_iconst (pc := 56) (n := 3) (by decide +kernel) ?_
        refine a_iload_n (pc := 57) (i := 1) (by decide +kernel) rfl ?_
        refine a_imul (pc := 58) (by decide +kernel) ?_
        refine a_iload_n (pc := 59) (i := 2) (by decide +kernel) rfl ?_
        refine a_iadd (pc := 60) (by decide +kernel) ?_
        refine b_iaload (pc := 61) (by decide +kernel) (sh_81 hn) (by omega) (by omega) (by omega) ?_
        refine a_ireturn (pc := 62) (by decide +kernel) rfl ?_
        refine k_ret ?_
        have hr : (σ.1 81 ((3 * e) + 0) : Int) = r := by
          unfold en_P at hP
          rw [hix] at hP
          rcases hP with hP | hP | hP | hP | hP | hP | hP | hP | hP | hP <;> omega
        exact ⟨by rw [hr], hR⟩
      · subst c11
        refine a_tableIn (pc := 11) (tgt := 52) (dflt := 78) (lo := 0) (hi := 6) (off := 41) (offs := #[41, 41, 41, 52, 59, 65, 72]) (len := 41) (by decide +kernel) (by decide) (by decide) (by decide) rfl (by decide) ?_
        refine a_aload_n (pc := 52) (i := 0) (by decide +kernel) rfl ?_
        refine b_getR (pc := 53) (b := 81) fl_X12_51 (by decide +kernel) (sh_68 hn) rfl ?_
        refine a_iconst (pc := 56) (n := 3) (by decide +kernel) ?_
        refine a_iload_n (pc := 57) (i := 1) (by decide +kernel) rfl ?_
        refine a_imul (pc := 58) (by decide +kernel) ?_
        refine a_iload_n (pc := 59) (i := 2) (by decide +kernel) rfl ?_
        refine a_iadd (pc := 60) (by decide +kernel) ?_
        refine b_iaload (pc := 61) (by decide +kernel) (sh_81 hn) (by omega) (by omega) (by omega) ?_
        refine a_ireturn (pc := 62) (by decide +kernel) rfl ?_
        refine k_ret ?_
        have hr : (σ.1 81 ((3 * e) + 1) : Int) = r := by
          unfold en_P at hP
          rw [hix] at hP
          rcases hP with hP | hP | hP | hP | hP | hP | hP | hP | hP | hP <;> omega
        exact ⟨by rw [hr], hR⟩
      · subst c11
        refine a_tableIn (pc := 11) (tgt := 52) (dflt := 78) (lo := 0) (hi := 6) (off := 41) (offs := #[41, 41, 41, 52, 59, 65, 72]) (len := 41) (by decide +kernel) (by decide) (by decide) (by decide) rfl (by decide) ?_
        refine a_aload_n (pc := 52) (i := 0) (by decide +kernel) rfl ?_
        refine b_getR (pc := 53) (b := 81) fl_X12_51 (by decide +kernel) (sh_68 hn) rfl ?_
        refine a_iconst (pc := 56) (n := 3) (by decide +kernel) ?_
        refine a_iload_n (pc := 57) (i := 1) (by decide +kernel) rfl ?_
        refine a_imul (pc := 58) (by decide +kernel) ?_
        refine a_iload_n (pc := 59) (i := 2) (by decide +kernel) rfl ?_
        refine a_iadd (pc := 60) (by decide +kernel) ?_
        refine b_iaload (pc := 61) (by decide +kernel) (sh_81 hn) (by omega) (by omega) (by omega) ?_
        refine a_ireturn (pc := 62) (by decide +kernel) rfl ?_
        refine k_ret ?_
        have hr : (σ.1 81 ((3 * e) + 2) : Int) = r := by
          unfold en_P at hP
          rw [hix] at hP
          rcases hP with hP | hP | hP | hP | hP | hP | hP | hP | hP | hP <;> omega
        exact ⟨by rw [hr], hR⟩
      · subst c11
        refine a_tableIn (pc := 11) (tgt := 63) (dflt := 78) (lo := 0) (hi := 6) (off := 52) (offs := #[41, 41, 41, 52, 59, 65, 72]) (len := 41) (by decide +kernel) (by decide) (by decide) (by decide) rfl (by decide) ?_
        refine a_aload_n (pc := 63) (i := 0) (by decide +kernel) rfl ?_
        refine b_getR (pc := 64) (b := 82) fl_X12_54 (by decide +kernel) (sh_68 hn) rfl ?_
        refine a_iload_n (pc := 67) (i := 1) (by decide +kernel) rfl ?_
        refine b_iaload (pc := 68) (by decide +kernel) (sh_82 hn) (by omega) (by omega) (by omega) ?_
        refine a_ireturn (pc := 69) (by decide +kernel) rfl ?_
        refine k_ret ?_
        have hr : (σ.1 82 e : Int) = r := by
          unfold en_P at hP
          rw [hix] at hP
          rcases hP with hP | hP | hP | hP | hP | hP | hP | hP | hP | hP <;> omega
        exact ⟨by rw [hr], hR⟩
      · subst c11
        refine a_tableIn (pc := 11) (tgt := 70) (dflt := 78) (lo := 0) (hi := 6) (off := 59) (offs := #[41, 41, 41, 52, 59, 65, 72]) (len := 41) (by decide +kernel) (by decide) (by decide) (by decide) rfl (by decide) ?_
        refine a_aload_n (pc := 70) (i := 0) (by decide +kernel) rfl ?_
        refine a_iload_n (pc := 71) (i := 1) (by decide +kernel) rfl ?_
        refine b_pureV (pc := 72) [j_i e] [] ml_X12_349 (by decide +kernel) rfl rfl (sh_68 hn) rfl rfl (Nat.le_of_ble_eq_true rfl) (j_fitI rfl rfl) (s_dchildrenOf hn hE hpr (by omega)) ?_
        rw [hI0, ← IR_win wia hIR (by omega)]
        show j_at _ _ _ [(0, .ref 68), (1, j_i e), (2, j_i 4)] [j_i (i_win σ ia e)] _ _ _ _
        refine a_ireturn (pc := 75) (by decide +kernel) rfl ?_
        refine k_ret ?_
        have hr : (i_win σ ia e : Int) = r := by
          unfold en_P at hP
          rw [hix] at hP
          rcases hP with hP | hP | hP | hP | hP | hP | hP | hP | hP | hP <;> omega
        exact ⟨by rw [hr], hR⟩
      · subst c11
        refine a_tableIn (pc := 11) (tgt := 76) (dflt := 78) (lo := 0) (hi := 6) (off := 65) (offs := #[41, 41, 41, 52, 59, 65, 72]) (len := 41) (by decide +kernel) (by decide) (by decide) (by decide) rfl (by decide) ?_
        refine a_aload_n (pc := 76) (i := 0) (by decide +kernel) rfl ?_
        refine b_getR (pc := 77) (b := 84) fl_X12_60 (by decide +kernel) (sh_68 hn) rfl ?_
        refine a_iload_n (pc := 80) (i := 1) (by decide +kernel) rfl ?_
        refine b_iaload (pc := 81) (by decide +kernel) (sh_84 hn) (by omega) (by omega) (by omega) ?_
        refine a_ireturn (pc := 82) (by decide +kernel) rfl ?_
        refine k_ret ?_
        have hr : (σ.1 84 e : Int) = r := by
          unfold en_P at hP
          rw [hix] at hP
          rcases hP with hP | hP | hP | hP | hP | hP | hP | hP | hP | hP <;> omega
        exact ⟨by rw [hr], hR⟩
      · subst c11
        refine a_tableIn (pc := 11) (tgt := 83) (dflt := 78) (lo := 0) (hi := 6) (off := 72) (offs := #[41, 41, 41, 52, 59, 65, 72]) (len := 41) (by decide +kernel) (by decide) (by decide) (by decide) rfl (by decide) ?_
        refine a_aload_n (pc := 83) (i := 0) (by decide +kernel) rfl ?_
        refine a_iload_n (pc := 84) (i := 1) (by decide +kernel) rfl ?_
        refine b_pureV (pc := 85) [j_i e] [] ml_X12_346 (by decide +kernel) rfl rfl (sh_68 hn) rfl rfl (Nat.le_of_ble_eq_true rfl) (j_fitI rfl rfl) (s_ddeepOf hn hE hpr (by omega)) ?_
        rw [row_dp (F := σ.1 81) x1 x4.2.2]
        show j_at _ _ _ [(0, .ref 68), (1, j_i e), (2, j_i 6)] [j_i (f_hin (σ.1 (ia + 1) e))] _ _ _ _
        refine a_ireturn (pc := 88) (by decide +kernel) rfl ?_
        refine k_ret ?_
        have hr : (f_hin (σ.1 (ia + 1) e) : Int) = r := by
          unfold en_P at hP
          rw [hix] at hP
          rcases hP with hP | hP | hP | hP | hP | hP | hP | hP | hP | hP <;> omega
        exact ⟨by rw [hr], hR⟩
    · exact absurd c5 (by decide)
  · show j_at _ _ _ [(0, .ref 68), (1, j_i e), (2, j_i w)] [j_i 0] _ _ _ _
    refine a_if_ne (pc := 5) (off := 5) (tgt := 10) (by decide +kernel) (by decide) (by omega) (fun c5 => ?_) (fun c5 => ?_)
    · exact absurd c5 (by decide)
    · refine a_iconst (pc := 8) (n := (-1)) (by decide +kernel) ?_
      refine a_ireturn (pc := 9) (by decide +kernel) rfl ?_
      refine k_ret ?_
      have hr : ((-1) : Int) = r := by
        unfold en_P at hP
        rw [hix] at hP
        rcases hP with hP | hP | hP | hP | hP | hP | hP | hP | hP | hP <;> omega
      exact ⟨by rw [hr], hR⟩
set_option maxHeartbeats 4000000 in
theorem p_entry {G : j_G} {X : k_X} {n : Nat} {σ : k_St} (hR : RR n σ) {e : Int} (he : -2147483648 ≤ e ∧ e ≤ 2147483647) {w : Int} (hw : -2147483648 ≤ w ∧ w ≤ 2147483647)  : pr_ok G X mX11_entry mX12_entry [j_i e, j_i w] n σ 0 0 := by
  refine ⟨_, c_entry hR he hw , fun v n' σ' hq => ?_⟩
  obtain ⟨r, hv, rfl, rfl, hP⟩ := hq
  exact ⟨RR_n hR, r, hv, d_entry hR he hw  hP⟩
def fi_P (σ : k_St) (x y z r : Int) : Prop := (bi (h_is σ x ∧ (y = -9 ∨ h_is σ y) ∧ (z = -9 ∨ h_is σ z)) = 0 ∧ r = -1) ∨ (bi (h_is σ x ∧ (y = -9 ∨ h_is σ y) ∧ (z = -9 ∨ h_is σ z)) = 1 ∧ y = -9 ∧ z ≠ -9 ∧ r = -3) ∨ (bi (h_is σ x ∧ (y = -9 ∨ h_is σ y) ∧ (z = -9 ∨ h_is σ z)) = 1 ∧ ¬ (y = -9 ∧ z ≠ -9) ∧ i_of σ (ix σ) (f_path x y z) r)
set_option maxHeartbeats 4000000 in
theorem c_find {G : j_G} {X : k_X} {n : Nat} {σ : k_St} (hR : RR n σ) {x : Int} (hx : -2147483648 ≤ x ∧ x ≤ 2147483647) {y : Int} (hy : -2147483648 ≤ y ∧ y ≤ 2147483647) {z : Int} (hz : -2147483648 ≤ z ∧ z ≤ 2147483647)  : k_run G X mX11_find [.ref 5, j_i x, j_i y, j_i z] n σ 0 0 (fun v n' σ' => ∃ r : Int, v = some (j_i r) ∧ n' = n ∧ σ' = σ ∧ fi_P σ x y z r) := by
  obtain ⟨hK, hAc, hNm, hPs, hPt, hSm, hIx⟩ := id hR
  have hn := RR_n hR
  have hk := hK.1
  have hwh : h_wf σ 8 := hk.2.1
  have hwm : m_wf σ 16 := hk.2.2
  have hW : 0 ≤ σ.2.1 6 1 ∧ σ.2.1 6 1 ≤ 300 := hk.1
  have hfl := hSm.1
  obtain ⟨ia, ib, hab, hia, hib, wia, wib, ria, rib, hrg, h01, hIR, hchg⟩ := id hIx
  have hA : i_at X n ia := by rcases hab with q | q; rw [q.1]; exact iA_48 hn; rw [q.1]; exact iA_58 hn
  have hix : ix σ = ia := by unfold ix; rw [hia]; rfl
  have hab5 : ia = 48 ∨ ia = 58 := by omega
  obtain ⟨hs99, hs0, hs1, hs2, hs3, hs4, hs5, hs6, hs7⟩ := id hA
  obtain ⟨hc9, hp9, hl9, ho9, hv9⟩ := id wia
  refine k_enter (by decide +kernel) (Nat.le_of_ble_eq_true rfl) ?_
  show j_at _ _ _ [(0, .ref 5), (1, j_i x), (2, j_i y), (3, j_i z)] [] _ _ _ _
  refine a_aload_n (pc := 0) (i := 0) (by decide +kernel) rfl ?_
  refine a_iload_n (pc := 1) (i := 1) (by decide +kernel) rfl ?_
  refine a_iload_n (pc := 2) (i := 2) (by decide +kernel) rfl ?_
  refine a_iload_n (pc := 3) (i := 3) (by decide +kernel) rfl ?_
  refine b_callV (pc := 4) (c' := 0) (sl' := 0) [j_i x, j_i y, j_i z] [] ml_X11_233 (by decide +kernel) rfl rfl (sh_5 hn) rfl rfl (Nat.le_of_ble_eq_true rfl) (j_fitI rfl rfl) (c_hasHeads hR (by omega) (by omega) (by omega)) (fun v n' σ' hq => ?_)
  obtain ⟨x, rfl, e1, e2, hx⟩ := hq
  rw [e1, e2]; clear e1 e2
  rcases hx with ⟨rfl, p4⟩ | ⟨rfl, p4⟩
  · show j_at _ _ _ [(0, .ref 5), (1, j_i x), (2, j_i y), (3, j_i z)] [j_i 1] _ _ _ _
    have i4 := bi_y p4
    have h30 := hwh.1
    have hfx : f_hd x := Or.inr ⟨p4.1.1, by have := p4.1.2.1; omega⟩
    have hfy : f_hd y := by rcases p4.2.1 with q | q; exact Or.inl q; exact Or.inr ⟨q.1, by have := q.2.1; omega⟩
    have hfz : f_hd z := by rcases p4.2.2 with q | q; exact Or.inl q; exact Or.inr ⟨q.1, by have := q.2.1; omega⟩
    refine a_if_ne (pc := 7) (off := 5) (tgt := 12) (by decide +kernel) (by decide) (by omega) (fun c7 => ?_) (fun c7 => ?_)
    · refine a_iload_n (pc := 12) (i := 2) (by decide +kernel) rfl ?_
      refine a_bipush (pc := 13) (n := (-9)) (by decide +kernel) rfl ?_
      refine a_icmp_ne (pc := 15) (off := 12) (tgt := 27) (by decide +kernel) (by decide) (by omega) (by omega) (fun c15 => ?_) (fun c15 => ?_)
      · refine a_aload_n (pc := 27) (i := 0) (by decide +kernel) rfl ?_
        refine b_getM (pc := 28) (b := ia) fl_X11_68 (by decide +kernel) (sh_5 hn) rfl hia ?_
        refine a_iload_n (pc := 31) (i := 1) (by decide +kernel) rfl ?_
        refine a_iload_n (pc := 32) (i := 2) (by decide +kernel) rfl ?_
        refine a_iload_n (pc := 33) (i := 3) (by decide +kernel) rfl ?_
        refine b_pureS (pc := 34) [j_i x, j_i y, j_i z] [.ref ia] ml_X11_317 (by decide +kernel) rfl rfl (Nat.le_of_ble_eq_true rfl) (j_fitI rfl rfl) (s_pathOf (by omega) (by omega) (by omega)) ?_
        have hpx := f_path_in hfx hfy hfz
        show j_at _ _ _ [(0, .ref 5), (1, j_i x), (2, j_i y), (3, j_i z)] [j_i (f_path x y z), .ref ia] _ _ _ _
        refine b_callV (pc := 37) (c' := 0) (sl' := 0) [j_i (f_path x y z)] [] ml_X11_321 (by decide +kernel) rfl rfl hs0 rfl rfl (Nat.le_of_ble_eq_true rfl) (j_fitI rfl rfl) (s_entryOf hA wia (by omega)) (fun v n' σ' hq => ?_)
        obtain ⟨x1, rfl, e1, e2, hx1⟩ := hq
        rw [e1, e2]; clear e1 e2
        show j_at _ _ _ [(0, .ref 5), (1, j_i x), (2, j_i y), (3, j_i z)] [j_i x1] _ _ _ _
        refine a_ireturn (pc := 40) (by decide +kernel) rfl ?_
        refine k_ret ?_
        refine ⟨_, rfl, rfl, rfl, ?_⟩
        unfold fi_P
        rw [hix]
        first | exact Or.inl (by omega) | exact Or.inr (Or.inl (by omega)) | exact Or.inr (Or.inr ⟨by omega, by omega, hx1⟩)
      · refine a_iload_n (pc := 18) (i := 3) (by decide +kernel) rfl ?_
        refine a_bipush (pc := 19) (n := (-9)) (by decide +kernel) rfl ?_
        refine a_icmp_eq (pc := 21) (off := 6) (tgt := 27) (by decide +kernel) (by decide) (by omega) (by omega) (fun c21 => ?_) (fun c21 => ?_)
        · refine a_aload_n (pc := 27) (i := 0) (by decide +kernel) rfl ?_
          refine b_getM (pc := 28) (b := ia) fl_X11_68 (by decide +kernel) (sh_5 hn) rfl hia ?_
          refine a_iload_n (pc := 31) (i := 1) (by decide +kernel) rfl ?_
          refine a_iload_n (pc := 32) (i := 2) (by decide +kernel) rfl ?_
          refine a_iload_n (pc := 33) (i := 3) (by decide +kernel) rfl ?_
          refine b_pureS (pc := 34) [j_i x, j_i y, j_i z] [.ref ia] ml_X11_317 (by decide +kernel) rfl rfl (Nat.le_of_ble_eq_true rfl) (j_fitI rfl rfl) (s_pathOf (by omega) (by omega) (by omega)) ?_
          have hpx := f_path_in hfx hfy hfz
          show j_at _ _ _ [(0, .ref 5), (1, j_i x), (2, j_i y), (3, j_i z)] [j_i (f_path x y z), .ref ia] _ _ _ _
          refine b_callV (pc := 37) (c' := 0) (sl' := 0) [j_i (f_path x y z)] [] ml_X11_321 (by decide +kernel) rfl rfl hs0 rfl rfl (Nat.le_of_ble_eq_true rfl) (j_fitI rfl rfl) (s_entryOf hA wia (by omega)) (fun v n' σ' hq => ?_)
          obtain ⟨x2, rfl, e1, e2, hx2⟩ := hq
          rw [e1, e2]; clear e1 e2
          show j_at _ _ _ [(0, .ref 5), (1, j_i x), (2, j_i y), (3, j_i z)] [j_i x2] _ _ _ _
          refine a_ireturn (pc := 40) (by decide +kernel) rfl ?_
          refine k_ret ?_
          refine ⟨_, rfl, rfl, rfl, ?_⟩
          unfold fi_P
          rw [hix]
          first | exact Or.inl (by omega) | exact Or.inr (Or.inl (by omega)) | exact Or.inr (Or.inr ⟨by omega, by omega, hx2⟩)
        · refine a_bipush (pc := 24) (n := (-3)) (by decide +kernel) rfl ?_
          refine a_ireturn (pc := 26) (by decide +kernel) rfl ?_
          refine k_ret ?_
          refine ⟨_, rfl, rfl, rfl, ?_⟩
          unfold fi_P
          rw [hix]
          first | exact Or.inl (by omega) | exact Or.inr (Or.inl (by omega)) | exact Or.inr (Or.inr ⟨by omega, by omega, h3⟩)
    · exact absurd c7 (by decide)
  · show j_at _ _ _ [(0, .ref 5), (1, j_i x), (2, j_i y), (3, j_i z)] [j_i 0] _ _ _ _
    have i4 := bi_n p4
    refine a_if_ne (pc := 7) (off := 5) (tgt := 12) (by decide +kernel) (by decide) (by omega) (fun c7 => ?_) (fun c7 => ?_)
    · exact absurd c7 (by decide)
    · refine a_iconst (pc := 10) (n := (-1)) (by decide +kernel) ?_
      refine a_ireturn (pc := 11) (by decide +kernel) rfl ?_
      refine k_ret ?_
      refine ⟨_, rfl, rfl, rfl, ?_⟩
      unfold fi_P
      rw [hix]
      first | exact Or.inl (by omega) | exact Or.inr (Or.inl (by omega)) | exact Or.inr (Or.inr ⟨by omega, by omega, h1⟩)
set_option maxHeartbeats 4000000 in
theorem d_find {G : j_G} {X : k_X} {n : Nat} {σ : k_St} (hR : RR n σ) {x : Int} (hx : -2147483648 ≤ x ∧ x ≤ 2147483647) {y : Int} (hy : -2147483648 ≤ y ∧ y ≤ 2147483647) {z : Int} (hz : -2147483648 ≤ z ∧ z ≤ 2147483647) {r : Int} (hP : fi_P σ x y z r)  : k_run G X mX12_find [.ref 68, j_i x, j_i y, j_i z] n σ 0 0 (fun v2 n2 σ2 => v2 = some (j_i r) ∧ RR n2 σ2) := by
  obtain ⟨hK, hAc, hNm, hPs, hPt, hSm, hIx⟩ := id hR
  have hn := RR_n hR
  have hk := hK.1
  have hwh : h_wf σ 8 := hk.2.1
  have hwm : m_wf σ 16 := hk.2.2
  have hW : 0 ≤ σ.2.1 6 1 ∧ σ.2.1 6 1 ≤ 300 := hk.1
  have hfl := hSm.1
  have hg := hK.2.2.2
  obtain ⟨⟨hgW, hgE, hgM⟩, hgh, hgm⟩ := KR_rg hk hK.2.1
  have hW0 : σ.2.1 6 1 = σ.1 69 0 := hK.2.1.1.1
  have hE0 : σ.2.1 8 3 = σ.1 69 301 := hK.2.1.2.1.1
  have hM0 : σ.2.1 16 5 = σ.1 69 1382 := hK.2.1.2.2.1
  have hfl8 : σ.2.1 68 11 = σ.2.1 5 10 := hSm.2.1
  obtain ⟨ia, ib, hab, hia, hib, wia, wib, ria, rib, hrg, h01, hIR, hchg⟩ := id hIx
  have hA : i_at X n ia := by rcases hab with q | q; rw [q.1]; exact iA_48 hn; rw [q.1]; exact iA_58 hn
  have hix : ix σ = ia := by unfold ix; rw [hia]; rfl
  have hab5 : ia = 48 ∨ ia = 58 := by omega
  obtain ⟨hs99, hs0, hs1, hs2, hs3, hs4, hs5, hs6, hs7⟩ := id hA
  obtain ⟨hc9, hp9, hl9, ho9, hv9⟩ := id wia
  obtain ⟨hI0, hI1, hI2, hI3, hI4, hI5, hI6, hI7, hI8⟩ := id hIR
  have hE : 0 ≤ σ.2.1 68 25 ∧ σ.2.1 68 25 ≤ 200 := by omega
  have hpr : ∀ i k, 0 ≤ i → i < σ.2.1 68 25 → 0 ≤ k → k < 3 → -9 ≤ σ.1 81 (3 * i + k) ∧ σ.1 81 (3 * i + k) ≤ 29 := fun i k i0 i1 k0 k1 => by rw [(hI1 i i0 (by omega)).1 k k0 k1]; exact f_head_in _ _
  refine k_enter (by decide +kernel) (Nat.le_of_ble_eq_true rfl) ?_
  show j_at _ _ _ [(0, .ref 68), (1, j_i x), (2, j_i y), (3, j_i z)] [] _ _ _ _
  refine a_aload_n (pc := 0) (i := 0) (by decide +kernel) rfl ?_
  refine a_iload_n (pc := 1) (i := 1) (by decide +kernel) rfl ?_
  refine b_callV (pc := 2) (c' := 0) (sl' := 0) [j_i x] [] ml_X12_202 (by decide +kernel) rfl rfl (sh_68 hn) rfl rfl (Nat.le_of_ble_eq_true rfl) (j_fitI rfl rfl) (s_disHead hn hg (by omega) (by omega)) (fun v n' σ' hq => ?_)
  obtain ⟨x, rfl, e1, e2, hx⟩ := hq
  rw [e1, e2]; clear e1 e2
  rcases hx with ⟨rfl, p2⟩ | ⟨rfl, p2⟩
  · show j_at _ _ _ [(0, .ref 68), (1, j_i x), (2, j_i y), (3, j_i z)] [j_i 1] _ _ _ _
    have i2 := bi_y p2
    have u2 := p2.1
    have w2 := p2.2.1
    refine a_if_eq (pc := 5) (off := 31) (tgt := 36) (by decide +kernel) (by decide) (by omega) (fun c5 => ?_) (fun c5 => ?_)
    · exact absurd c5 (by decide)
    · refine a_iload_n (pc := 8) (i := 2) (by decide +kernel) rfl ?_
      refine a_bipush (pc := 9) (n := (-9)) (by decide +kernel) rfl ?_
      refine a_icmp_eq (pc := 11) (off := 11) (tgt := 22) (by decide +kernel) (by decide) (by omega) (by omega) (fun c11 => ?_) (fun c11 => ?_)
      · refine a_iload_n (pc := 22) (i := 3) (by decide +kernel) rfl ?_
        refine a_bipush (pc := 23) (n := (-9)) (by decide +kernel) rfl ?_
        refine a_icmp_eq (pc := 25) (off := 13) (tgt := 38) (by decide +kernel) (by decide) (by omega) (by omega) (fun c25 => ?_) (fun c25 => ?_)
        · refine a_iload_n (pc := 38) (i := 2) (by decide +kernel) rfl ?_
          refine a_bipush (pc := 39) (n := (-9)) (by decide +kernel) rfl ?_
          refine a_icmp_ne (pc := 41) (off := 12) (tgt := 53) (by decide +kernel) (by decide) (by omega) (by omega) (fun c41 => ?_) (fun c41 => ?_)
          · refine a_aload_n (pc := 53) (i := 0) (by decide +kernel) rfl ?_
            refine a_iload_n (pc := 54) (i := 1) (by decide +kernel) rfl ?_
            refine a_iload_n (pc := 55) (i := 2) (by decide +kernel) rfl ?_
            refine a_iload_n (pc := 56) (i := 3) (by decide +kernel) rfl ?_
            refine b_callV (pc := 57) (c' := 0) (sl' := 0) [j_i x, j_i y, j_i z] [] ml_X12_288 (by decide +kernel) rfl rfl (sh_68 hn) rfl rfl (Nat.le_of_ble_eq_true rfl) (j_fitI rfl rfl) (s_dentryOf hn hE hpr (by omega) (by omega) (by omega)) (fun v n' σ' hq => ?_)
            obtain ⟨y1, rfl, e1, e2, hy1⟩ := hq
            rw [e1, e2]; clear e1 e2
            show j_at _ _ _ [(0, .ref 68), (1, j_i x), (2, j_i y), (3, j_i z)] [j_i y1] _ _ _ _
            refine a_ireturn (pc := 60) (by decide +kernel) rfl ?_
            refine k_ret ?_
            have hr : (y1 : Int) = r := by
              unfold fi_P at hP
              rw [hix] at hP
              have hbe : bi (h_is σ x ∧ (y = -9 ∨ h_is σ y) ∧ (z = -9 ∨ h_is σ z)) = bi (d_is σ x ∧ (y = -9 ∨ d_is σ y) ∧ (z = -9 ∨ d_is σ z)) := bi_c (by rw [RK_h hR, RK_h hR, RK_h hR])
              rw [hbe] at hP
              have hz : d_is σ x ∧ (y = -9 ∨ d_is σ y) ∧ (z = -9 ∨ d_is σ z) := ⟨by assumption, by first | exact Or.inl (by assumption) | exact Or.inr (by assumption), by first | exact Or.inl (by assumption) | exact Or.inr (by assumption)⟩
              have hz1 := bi_y hz
              have h30 := hgE
              have hfx : f_hd x := Or.inr ⟨hz.1.1, by have := hz.1.2.1; omega⟩
              have hfy : f_hd y := by rcases hz.2.1 with q | q; exact Or.inl q; exact Or.inr ⟨q.1, by have := q.2.1; omega⟩
              have hfz : f_hd z := by rcases hz.2.2 with q | q; exact Or.inl q; exact Or.inr ⟨q.1, by have := q.2.1; omega⟩
              rcases hP with hP | hP | hP
              · omega
              · omega
              · exact IR_eo wia hIR hfx hfy hfz hP.2.2 hy1
            exact ⟨by rw [hr], hR⟩
          · refine a_iload_n (pc := 44) (i := 3) (by decide +kernel) rfl ?_
            refine a_bipush (pc := 45) (n := (-9)) (by decide +kernel) rfl ?_
            refine a_icmp_eq (pc := 47) (off := 6) (tgt := 53) (by decide +kernel) (by decide) (by omega) (by omega) (fun c47 => ?_) (fun c47 => ?_)
            · refine a_aload_n (pc := 53) (i := 0) (by decide +kernel) rfl ?_
              refine a_iload_n (pc := 54) (i := 1) (by decide +kernel) rfl ?_
              refine a_iload_n (pc := 55) (i := 2) (by decide +kernel) rfl ?_
              refine a_iload_n (pc := 56) (i := 3) (by decide +kernel) rfl ?_
              refine b_callV (pc := 57) (c' := 0) (sl' := 0) [j_i x, j_i y, j_i z] [] ml_X12_288 (by decide +kernel) rfl rfl (sh_68 hn) rfl rfl (Nat.le_of_ble_eq_true rfl) (j_fitI rfl rfl) (s_dentryOf hn hE hpr (by omega) (by omega) (by omega)) (fun v n' σ' hq => ?_)
              obtain ⟨y2, rfl, e1, e2, hy2⟩ := hq
              rw [e1, e2]; clear e1 e2
              show j_at _ _ _ [(0, .ref 68), (1, j_i x), (2, j_i y), (3, j_i z)] [j_i y2] _ _ _ _
              refine a_ireturn (pc := 60) (by decide +kernel) rfl ?_
              refine k_ret ?_
              have hr : (y2 : Int) = r := by
                unfold fi_P at hP
                rw [hix] at hP
                have hbe : bi (h_is σ x ∧ (y = -9 ∨ h_is σ y) ∧ (z = -9 ∨ h_is σ z)) = bi (d_is σ x ∧ (y = -9 ∨ d_is σ y) ∧ (z = -9 ∨ d_is σ z)) := bi_c (by rw [RK_h hR, RK_h hR, RK_h hR])
                rw [hbe] at hP
                have hz : d_is σ x ∧ (y = -9 ∨ d_is σ y) ∧ (z = -9 ∨ d_is σ z) := ⟨by assumption, by first | exact Or.inl (by assumption) | exact Or.inr (by assumption), by first | exact Or.inl (by assumption) | exact Or.inr (by assumption)⟩
                have hz1 := bi_y hz
                have h30 := hgE
                have hfx : f_hd x := Or.inr ⟨hz.1.1, by have := hz.1.2.1; omega⟩
                have hfy : f_hd y := by rcases hz.2.1 with q | q; exact Or.inl q; exact Or.inr ⟨q.1, by have := q.2.1; omega⟩
                have hfz : f_hd z := by rcases hz.2.2 with q | q; exact Or.inl q; exact Or.inr ⟨q.1, by have := q.2.1; omega⟩
                rcases hP with hP | hP | hP
                · omega
                · omega
                · exact IR_eo wia hIR hfx hfy hfz hP.2.2 hy2
              exact ⟨by rw [hr], hR⟩
            · refine a_bipush (pc := 50) (n := (-3)) (by decide +kernel) rfl ?_
              refine a_ireturn (pc := 52) (by decide +kernel) rfl ?_
              refine k_ret ?_
              have hr : ((-3) : Int) = r := by
                unfold fi_P at hP
                rw [hix] at hP
                have hbe : bi (h_is σ x ∧ (y = -9 ∨ h_is σ y) ∧ (z = -9 ∨ h_is σ z)) = bi (d_is σ x ∧ (y = -9 ∨ d_is σ y) ∧ (z = -9 ∨ d_is σ z)) := bi_c (by rw [RK_h hR, RK_h hR, RK_h hR])
                rw [hbe] at hP
                have hz : d_is σ x ∧ (y = -9 ∨ d_is σ y) ∧ (z = -9 ∨ d_is σ z) := ⟨by assumption, by first | exact Or.inl (by assumption) | exact Or.inr (by assumption), by first | exact Or.inl (by assumption) | exact Or.inr (by assumption)⟩
                have hz1 := bi_y hz
                rcases hP with hP | hP | hP <;> omega
              exact ⟨by rw [hr], hR⟩
        · refine a_aload_n (pc := 28) (i := 0) (by decide +kernel) rfl ?_
          refine a_iload_n (pc := 29) (i := 3) (by decide +kernel) rfl ?_
          refine b_callV (pc := 30) (c' := 0) (sl' := 0) [j_i z] [] ml_X12_202 (by decide +kernel) rfl rfl (sh_68 hn) rfl rfl (Nat.le_of_ble_eq_true rfl) (j_fitI rfl rfl) (s_disHead hn hg (by omega) (by omega)) (fun v n' σ' hq => ?_)
          obtain ⟨x, rfl, e1, e2, hx⟩ := hq
          rw [e1, e2]; clear e1 e2
          rcases hx with ⟨rfl, p30⟩ | ⟨rfl, p30⟩
          · show j_at _ _ _ [(0, .ref 68), (1, j_i x), (2, j_i y), (3, j_i z)] [j_i 1] _ _ _ _
            have i30 := bi_y p30
            have u30 := p30.1
            have w30 := p30.2.1
            refine a_if_ne (pc := 33) (off := 5) (tgt := 38) (by decide +kernel) (by decide) (by omega) (fun c33 => ?_) (fun c33 => ?_)
            · refine a_iload_n (pc := 38) (i := 2) (by decide +kernel) rfl ?_
              refine a_bipush (pc := 39) (n := (-9)) (by decide +kernel) rfl ?_
              refine a_icmp_ne (pc := 41) (off := 12) (tgt := 53) (by decide +kernel) (by decide) (by omega) (by omega) (fun c41 => ?_) (fun c41 => ?_)
              · refine a_aload_n (pc := 53) (i := 0) (by decide +kernel) rfl ?_
                refine a_iload_n (pc := 54) (i := 1) (by decide +kernel) rfl ?_
                refine a_iload_n (pc := 55) (i := 2) (by decide +kernel) rfl ?_
                refine a_iload_n (pc := 56) (i := 3) (by decide +kernel) rfl ?_
                refine b_callV (pc := 57) (c' := 0) (sl' := 0) [j_i x, j_i y, j_i z] [] ml_X12_288 (by decide +kernel) rfl rfl (sh_68 hn) rfl rfl (Nat.le_of_ble_eq_true rfl) (j_fitI rfl rfl) (s_dentryOf hn hE hpr (by omega) (by omega) (by omega)) (fun v n' σ' hq => ?_)
                obtain ⟨y3, rfl, e1, e2, hy3⟩ := hq
                rw [e1, e2]; clear e1 e2
                show j_at _ _ _ [(0, .ref 68), (1, j_i x), (2, j_i y), (3, j_i z)] [j_i y3] _ _ _ _
                refine a_ireturn (pc := 60) (by decide +kernel) rfl ?_
                refine k_ret ?_
                have hr : (y3 : Int) = r := by
                  unfold fi_P at hP
                  rw [hix] at hP
                  have hbe : bi (h_is σ x ∧ (y = -9 ∨ h_is σ y) ∧ (z = -9 ∨ h_is σ z)) = bi (d_is σ x ∧ (y = -9 ∨ d_is σ y) ∧ (z = -9 ∨ d_is σ z)) := bi_c (by rw [RK_h hR, RK_h hR, RK_h hR])
                  rw [hbe] at hP
                  have hz : d_is σ x ∧ (y = -9 ∨ d_is σ y) ∧ (z = -9 ∨ d_is σ z) := ⟨by assumption, by first | exact Or.inl (by assumption) | exact Or.inr (by assumption), by first | exact Or.inl (by assumption) | exact Or.inr (by assumption)⟩
                  have hz1 := bi_y hz
                  have h30 := hgE
                  have hfx : f_hd x := Or.inr ⟨hz.1.1, by have := hz.1.2.1; omega⟩
                  have hfy : f_hd y := by rcases hz.2.1 with q | q; exact Or.inl q; exact Or.inr ⟨q.1, by have := q.2.1; omega⟩
                  have hfz : f_hd z := by rcases hz.2.2 with q | q; exact Or.inl q; exact Or.inr ⟨q.1, by have := q.2.1; omega⟩
                  rcases hP with hP | hP | hP
                  · omega
                  · omega
                  · exact IR_eo wia hIR hfx hfy hfz hP.2.2 hy3
                exact ⟨by rw [hr], hR⟩
              · refine a_iload_n (pc := 44) (i := 3) (by decide +kernel) rfl ?_
                refine a_bipush (pc := 45) (n := (-9)) (by decide +kernel) rfl ?_
                refine a_icmp_eq (pc := 47) (off := 6) (tgt := 53) (by decide +kernel) (by decide) (by omega) (by omega) (fun c47 => ?_) (fun c47 => ?_)
                · refine a_aload_n (pc := 53) (i := 0) (by decide +kernel) rfl ?_
                  refine a_iload_n (pc := 54) (i := 1) (by decide +kernel) rfl ?_
                  refine a_iload_n (pc := 55) (i := 2) (by decide +kernel) rfl ?_
                  refine a_iload_n (pc := 56) (i := 3) (by decide +kernel) rfl ?_
                  refine b_callV (pc := 57) (c' := 0) (sl' := 0) [j_i x, j_i y, j_i z] [] ml_X12_288 (by decide +kernel) rfl rfl (sh_68 hn) rfl rfl (Nat.le_of_ble_eq_true rfl) (j_fitI rfl rfl) (s_dentryOf hn hE hpr (by omega) (by omega) (by omega)) (fun v n' σ' hq => ?_)
                  obtain ⟨y4, rfl, e1, e2, hy4⟩ := hq
                  rw [e1, e2]; clear e1 e2
                  show j_at _ _ _ [(0, .ref 68), (1, j_i x), (2, j_i y), (3, j_i z)] [j_i y4] _ _ _ _
                  refine a_ireturn (pc := 60) (by decide +kernel) rfl ?_
                  refine k_ret ?_
                  have hr : (y4 : Int) = r := by
                    unfold fi_P at hP
                    rw [hix] at hP
                    have hbe : bi (h_is σ x ∧ (y = -9 ∨ h_is σ y) ∧ (z = -9 ∨ h_is σ z)) = bi (d_is σ x ∧ (y = -9 ∨ d_is σ y) ∧ (z = -9 ∨ d_is σ z)) := bi_c (by rw [RK_h hR, RK_h hR, RK_h hR])
                    rw [hbe] at hP
                    have hz : d_is σ x ∧ (y = -9 ∨ d_is σ y) ∧ (z = -9 ∨ d_is σ z) := ⟨by assumption, by first | exact Or.inl (by assumption) | exact Or.inr (by assumption), by first | exact Or.inl (by assumption) | exact Or.inr (by assumption)⟩
                    have hz1 := bi_y hz
                    have h30 := hgE
                    have hfx : f_hd x := Or.inr ⟨hz.1.1, by have := hz.1.2.1; omega⟩
                    have hfy : f_hd y := by rcases hz.2.1 with q | q; exact Or.inl q; exact Or.inr ⟨q.1, by have := q.2.1; omega⟩
                    have hfz : f_hd z := by rcases hz.2.2 with q | q; exact Or.inl q; exact Or.inr ⟨q.1, by have := q.2.1; omega⟩
                    rcases hP with hP | hP | hP
                    · omega
                    · omega
                    · exact IR_eo wia hIR hfx hfy hfz hP.2.2 hy4
                  exact ⟨by rw [hr], hR⟩
                · refine a_bipush (pc := 50) (n := (-3)) (by decide +kernel) rfl ?_
                  refine a_ireturn (pc := 52) (by decide +kernel) rfl ?_
                  refine k_ret ?_
                  have hr : ((-3) : Int) = r := by
                    unfold fi_P at hP
                    rw [hix] at hP
                    have hbe : bi (h_is σ x ∧ (y = -9 ∨ h_is σ y) ∧ (z = -9 ∨ h_is σ z)) = bi (d_is σ x ∧ (y = -9 ∨ d_is σ y) ∧ (z = -9 ∨ d_is σ z)) := bi_c (by rw [RK_h hR, RK_h hR, RK_h hR])
                    rw [hbe] at hP
                    have hz : d_is σ x ∧ (y = -9 ∨ d_is σ y) ∧ (z = -9 ∨ d_is σ z) := ⟨by assumption, by first | exact Or.inl (by assumption) | exact Or.inr (by assumption), by first | exact Or.inl (by assumption) | exact Or.inr (by assumption)⟩
                    have hz1 := bi_y hz
                    rcases hP with hP | hP | hP <;> omega
                  exact ⟨by rw [hr], hR⟩
            · exact absurd c33 (by decide)
          · show j_at _ _ _ [(0, .ref 68), (1, j_i x), (2, j_i y), (3, j_i z)] [j_i 0] _ _ _ _
            have i30 := bi_n p30
            refine a_if_ne (pc := 33) (off := 5) (tgt := 38) (by decide +kernel) (by decide) (by omega) (fun c33 => ?_) (fun c33 => ?_)
            · exact absurd c33 (by decide)
            · refine a_iconst (pc := 36) (n := (-1)) (by decide +kernel) ?_
              refine a_ireturn (pc := 37) (by decide +kernel) rfl ?_
              refine k_ret ?_
              have hr : ((-1) : Int) = r := by
                unfold fi_P at hP
                rw [hix] at hP
                have hbe : bi (h_is σ x ∧ (y = -9 ∨ h_is σ y) ∧ (z = -9 ∨ h_is σ z)) = bi (d_is σ x ∧ (y = -9 ∨ d_is σ y) ∧ (z = -9 ∨ d_is σ z)) := bi_c (by rw [RK_h hR, RK_h hR, RK_h hR])
                rw [hbe] at hP
                have hz : bi (d_is σ x ∧ (y = -9 ∨ d_is σ y) ∧ (z = -9 ∨ d_is σ z)) = 0 := bi_n (by
                  rintro ⟨g1, g2, g3⟩
                  first | exact absurd g1 (by assumption) | (rcases g2 with g | g; exact absurd g (by assumption); exact absurd g (by assumption)) | (rcases g3 with g | g; exact absurd g (by assumption); exact absurd g (by assumption)))
                rcases hP with hP | hP | hP <;> omega
              exact ⟨by rw [hr], hR⟩
      · refine a_aload_n (pc := 14) (i := 0) (by decide +kernel) rfl ?_
        refine a_iload_n (pc := 15) (i := 2) (by decide +kernel) rfl ?_
        refine b_callV (pc := 16) (c' := 0) (sl' := 0) [j_i y] [] ml_X12_202 (by decide +kernel) rfl rfl (sh_68 hn) rfl rfl (Nat.le_of_ble_eq_true rfl) (j_fitI rfl rfl) (s_disHead hn hg (by omega) (by omega)) (fun v n' σ' hq => ?_)
        obtain ⟨x, rfl, e1, e2, hx⟩ := hq
        rw [e1, e2]; clear e1 e2
        rcases hx with ⟨rfl, p16⟩ | ⟨rfl, p16⟩
        · show j_at _ _ _ [(0, .ref 68), (1, j_i x), (2, j_i y), (3, j_i z)] [j_i 1] _ _ _ _
          have i16 := bi_y p16
          have u16 := p16.1
          have w16 := p16.2.1
          refine a_if_eq (pc := 19) (off := 17) (tgt := 36) (by decide +kernel) (by decide) (by omega) (fun c19 => ?_) (fun c19 => ?_)
          · exact absurd c19 (by decide)
          · refine a_iload_n (pc := 22) (i := 3) (by decide +kernel) rfl ?_
            refine a_bipush (pc := 23) (n := (-9)) (by decide +kernel) rfl ?_
            refine a_icmp_eq (pc := 25) (off := 13) (tgt := 38) (by decide +kernel) (by decide) (by omega) (by omega) (fun c25 => ?_) (fun c25 => ?_)
            · refine a_iload_n (pc := 38) (i := 2) (by decide +kernel) rfl ?_
              refine a_bipush (pc := 39) (n := (-9)) (by decide +kernel) rfl ?_
              refine a_icmp_ne (pc := 41) (off := 12) (tgt := 53) (by decide +kernel) (by decide) (by omega) (by omega) (fun c41 => ?_) (fun c41 => ?_)
              · refine a_aload_n (pc := 53) (i := 0) (by decide +kernel) rfl ?_
                refine a_iload_n (pc := 54) (i := 1) (by decide +kernel) rfl ?_
                refine a_iload_n (pc := 55) (i := 2) (by decide +kernel) rfl ?_
                refine a_iload_n (pc := 56) (i := 3) (by decide +kernel) rfl ?_
                refine b_callV (pc := 57) (c' := 0) (sl' := 0) [j_i x, j_i y, j_i z] [] ml_X12_288 (by decide +kernel) rfl rfl (sh_68 hn) rfl rfl (Nat.le_of_ble_eq_true rfl) (j_fitI rfl rfl) (s_dentryOf hn hE hpr (by omega) (by omega) (by omega)) (fun v n' σ' hq => ?_)
                obtain ⟨y5, rfl, e1, e2, hy5⟩ := hq
                rw [e1, e2]; clear e1 e2
                show j_at _ _ _ [(0, .ref 68), (1, j_i x), (2, j_i y), (3, j_i z)] [j_i y5] _ _ _ _
                refine a_ireturn (pc := 60) (by decide +kernel) rfl ?_
                refine k_ret ?_
                have hr : (y5 : Int) = r := by
                  unfold fi_P at hP
                  rw [hix] at hP
                  have hbe : bi (h_is σ x ∧ (y = -9 ∨ h_is σ y) ∧ (z = -9 ∨ h_is σ z)) = bi (d_is σ x ∧ (y = -9 ∨ d_is σ y) ∧ (z = -9 ∨ d_is σ z)) := bi_c (by rw [RK_h hR, RK_h hR, RK_h hR])
                  rw [hbe] at hP
                  have hz : d_is σ x ∧ (y = -9 ∨ d_is σ y) ∧ (z = -9 ∨ d_is σ z) := ⟨by assumption, by first | exact Or.inl (by assumption) | exact Or.inr (by assumption), by first | exact Or.inl (by assumption) | exact Or.inr (by assumption)⟩
                  have hz1 := bi_y hz
                  have h30 := hgE
                  have hfx : f_hd x := Or.inr ⟨hz.1.1, by have := hz.1.2.1; omega⟩
                  have hfy : f_hd y := by rcases hz.2.1 with q | q; exact Or.inl q; exact Or.inr ⟨q.1, by have := q.2.1; omega⟩
                  have hfz : f_hd z := by rcases hz.2.2 with q | q; exact Or.inl q; exact Or.inr ⟨q.1, by have := q.2.1; omega⟩
                  rcases hP with hP | hP | hP
                  · omega
                  · omega
                  · exact IR_eo wia hIR hfx hfy hfz hP.2.2 hy5
                exact ⟨by rw [hr], hR⟩
              · refine a_iload_n (pc := 44) (i := 3) (by decide +kernel) rfl ?_
                refine a_bipush (pc := 45) (n := (-9)) (by decide +kernel) rfl ?_
                refine a_icmp_eq (pc := 47) (off := 6) (tgt := 53) (by decide +kernel) (by decide) (by omega) (by omega) (fun c47 => ?_) (fun c47 => ?_)
                · refine a_aload_n (pc := 53) (i := 0) (by decide +kernel) rfl ?_
                  refine a_iload_n (pc := 54) (i := 1) (by decide +kernel) rfl ?_
                  refine a_iload_n (pc := 55) (i := 2) (by decide +kernel) rfl ?_
                  refine a_iload_n (pc := 56) (i := 3) (by decide +kernel) rfl ?_
                  refine b_callV (pc := 57) (c' := 0) (sl' := 0) [j_i x, j_i y, j_i z] [] ml_X12_288 (by decide +kernel) rfl rfl (sh_68 hn) rfl rfl (Nat.le_of_ble_eq_true rfl) (j_fitI rfl rfl) (s_dentryOf hn hE hpr (by omega) (by omega) (by omega)) (fun v n' σ' hq => ?_)
                  obtain ⟨y6, rfl, e1, e2, hy6⟩ := hq
                  rw [e1, e2]; clear e1 e2
                  show j_at _ _ _ [(0, .ref 68), (1, j_i x), (2, j_i y), (3, j_i z)] [j_i y6] _ _ _ _
                  refine a_ireturn (pc := 60) (by decide +kernel) rfl ?_
                  refine k_ret ?_
                  have hr : (y6 : Int) = r := by
                    unfold fi_P at hP
                    rw [hix] at hP
                    have hbe : bi (h_is σ x ∧ (y = -9 ∨ h_is σ y) ∧ (z = -9 ∨ h_is σ z)) = bi (d_is σ x ∧ (y = -9 ∨ d_is σ y) ∧ (z = -9 ∨ d_is σ z)) := bi_c (by rw [RK_h hR, RK_h hR, RK_h hR])
                    rw [hbe] at hP
                    have hz : d_is σ x ∧ (y = -9 ∨ d_is σ y) ∧ (z = -9 ∨ d_is σ z) := ⟨by assumption, by first | exact Or.inl (by assumption) | exact Or.inr (by assumption), by first | exact Or.inl (by assumption) | exact Or.inr (by assumption)⟩
                    have hz1 := bi_y hz
                    have h30 := hgE
                    have hfx : f_hd x := Or.inr ⟨hz.1.1, by have := hz.1.2.1; omega⟩
                    have hfy : f_hd y := by rcases hz.2.1 with q | q; exact Or.inl q; exact Or.inr ⟨q.1, by have := q.2.1; omega⟩
                    have hfz : f_hd z := by rcases hz.2.2 with q | q; exact Or.inl q; exact Or.inr ⟨q.1, by have := q.2.1; omega⟩
                    rcases hP with hP | hP | hP
                    · omega
                    · omega
                    · exact IR_eo wia hIR hfx hfy hfz hP.2.2 hy6
                  exact ⟨by rw [hr], hR⟩
                · refine a_bipush (pc := 50) (n := (-3)) (by decide +kernel) rfl ?_
                  refine a_ireturn (pc := 52) (by decide +kernel) rfl ?_
                  refine k_ret ?_
                  have hr : ((-3) : Int) = r := by
                    unfold fi_P at hP
                    rw [hix] at hP
                    have hbe : bi (h_is σ x ∧ (y = -9 ∨ h_is σ y) ∧ (z = -9 ∨ h_is σ z)) = bi (d_is σ x ∧ (y = -9 ∨ d_is σ y) ∧ (z = -9 ∨ d_is σ z)) := bi_c (by rw [RK_h hR, RK_h hR, RK_h hR])
                    rw [hbe] at hP
                    have hz : d_is σ x ∧ (y = -9 ∨ d_is σ y) ∧ (z = -9 ∨ d_is σ z) := ⟨by assumption, by first | exact Or.inl (by assumption) | exact Or.inr (by assumption), by first | exact Or.inl (by assumption) | exact Or.inr (by assumption)⟩
                    have hz1 := bi_y hz
                    rcases hP with hP | hP | hP <;> omega
                  exact ⟨by rw [hr], hR⟩
            · refine a_aload_n (pc := 28) (i := 0) (by decide +kernel) rfl ?_
              refine a_iload_n (pc := 29) (i := 3) (by decide +kernel) rfl ?_
              refine b_callV (pc := 30) (c' := 0) (sl' := 0) [j_i z] [] ml_X12_202 (by decide +kernel) rfl rfl (sh_68 hn) rfl rfl (Nat.le_of_ble_eq_true rfl) (j_fitI rfl rfl) (s_disHead hn hg (by omega) (by omega)) (fun v n' σ' hq => ?_)
              obtain ⟨x, rfl, e1, e2, hx⟩ := hq
              rw [e1, e2]; clear e1 e2
              rcases hx with ⟨rfl, p30⟩ | ⟨rfl, p30⟩
              · show j_at _ _ _ [(0, .ref 68), (1, j_i x), (2, j_i y), (3, j_i z)] [j_i 1] _ _ _ _
                have i30 := bi_y p30
                have u30 := p30.1
                have w30 := p30.2.1
                refine a_if_ne (pc := 33) (off := 5) (tgt := 38) (by decide +kernel) (by decide) (by omega) (fun c33 => ?_) (fun c33 => ?_)
                · refine a_iload_n (pc := 38) (i := 2) (by decide +kernel) rfl ?_
                  refine a_bipush (pc := 39) (n := (-9)) (by decide +kernel) rfl ?_
                  refine a_icmp_ne (pc := 41) (off := 12) (tgt := 53) (by decide +kernel) (by decide) (by omega) (by omega) (fun c41 => ?_) (fun c41 => ?_)
                  · refine a_aload_n (pc := 53) (i := 0) (by decide +kernel) rfl ?_
                    refine a_iload_n (pc := 54) (i := 1) (by decide +kernel) rfl ?_
                    refine a_iload_n (pc := 55) (i := 2) (by decide +kernel) rfl ?_
                    refine a_iload_n (pc := 56) (i := 3) (by decide +kernel) rfl ?_
                    refine b_callV (pc := 57) (c' := 0) (sl' := 0) [j_i x, j_i y, j_i z] [] ml_X12_288 (by decide +kernel) rfl rfl (sh_68 hn) rfl rfl (Nat.le_of_ble_eq_true rfl) (j_fitI rfl rfl) (s_dentryOf hn hE hpr (by omega) (by omega) (by omega)) (fun v n' σ' hq => ?_)
                    obtain ⟨y7, rfl, e1, e2, hy7⟩ := hq
                    rw [e1, e2]; clear e1 e2
                    show j_at _ _ _ [(0, .ref 68), (1, j_i x), (2, j_i y), (3, j_i z)] [j_i y7] _ _ _ _
                    refine a_ireturn (pc := 60) (by decide +kernel) rfl ?_
                    refine k_ret ?_
                    have hr : (y7 : Int) = r := by
                      unfold fi_P at hP
                      rw [hix] at hP
                      have hbe : bi (h_is σ x ∧ (y = -9 ∨ h_is σ y) ∧ (z = -9 ∨ h_is σ z)) = bi (d_is σ x ∧ (y = -9 ∨ d_is σ y) ∧ (z = -9 ∨ d_is σ z)) := bi_c (by rw [RK_h hR, RK_h hR, RK_h hR])
                      rw [hbe] at hP
                      have hz : d_is σ x ∧ (y = -9 ∨ d_is σ y) ∧ (z = -9 ∨ d_is σ z) := ⟨by assumption, by first | exact Or.inl (by assumption) | exact Or.inr (by assumption), by first | exact Or.inl (by assumption) | exact Or.inr (by assumption)⟩
                      have hz1 := bi_y hz
                      have h30 := hgE
                      have hfx : f_hd x := Or.inr ⟨hz.1.1, by have := hz.1.2.1; omega⟩
                      have hfy : f_hd y := by rcases hz.2.1 with q | q; exact Or.inl q; exact Or.inr ⟨q.1, by have := q.2.1; omega⟩
                      have hfz : f_hd z := by rcases hz.2.2 with q | q; exact Or.inl q; exact Or.inr ⟨q.1, by have := q.2.1; omega⟩
                      rcases hP with hP | hP | hP
                      · omega
                      · omega
                      · exact IR_eo wia hIR hfx hfy hfz hP.2.2 hy7
                    exact ⟨by rw [hr], hR⟩
                  · refine a_iload_n (pc := 44) (i := 3) (by decide +kernel) rfl ?_
                    refine a_bipush (pc := 45) (n := (-9)) (by decide +kernel) rfl ?_
                    refine a_icmp_eq (pc := 47) (off := 6) (tgt := 53) (by decide +kernel) (by decide) (by omega) (by omega) (fun c47 => ?_) (fun c47 => ?_)
                    · refine a_aload_n (pc := 53) (i := 0) (by decide +kernel) rfl ?_
                      refine a_iload_n (pc := 54) (i := 1) (by decide +kernel) rfl ?_
                      refine a_iload_n (pc := 55) (i := 2) (by decide +kernel) rfl ?_
                      refine a_iload_n (pc := 56) (i := 3) (by decide +kernel) rfl ?_
                      refine b_callV (pc := 57) (c' := 0) (sl' := 0) [j_i x, j_i y, j_i z] [] ml_X12_288 (by decide +kernel) rfl rfl (sh_68 hn) rfl rfl (Nat.le_of_ble_eq_true rfl) (j_fitI rfl rfl) (s_dentryOf hn hE hpr (by omega) (by omega) (by omega)) (fun v n' σ' hq => ?_)
                      obtain ⟨y8, rfl, e1, e2, hy8⟩ := hq
                      rw [e1, e2]; clear e1 e2
                      show j_at _ _ _ [(0, .ref 68), (1, j_i x), (2, j_i y), (3, j_i z)] [j_i y8] _ _ _ _
                      refine a_ireturn (pc := 60) (by decide +kernel) rfl ?_
                      refine k_ret ?_
                      have hr : (y8 : Int) = r := by
                        unfold fi_P at hP
                        rw [hix] at hP
                        have hbe : bi (h_is σ x ∧ (y = -9 ∨ h_is σ y) ∧ (z = -9 ∨ h_is σ z)) = bi (d_is σ x ∧ (y = -9 ∨ d_is σ y) ∧ (z = -9 ∨ d_is σ z)) := bi_c (by rw [RK_h hR, RK_h hR, RK_h hR])
                        rw [hbe] at hP
                        have hz : d_is σ x ∧ (y = -9 ∨ d_is σ y) ∧ (z = -9 ∨ d_is σ z) := ⟨by assumption, by first | exact Or.inl (by assumption) | exact Or.inr (by assumption), by first | exact Or.inl (by assumption) | exact Or.inr (by assumption)⟩
                        have hz1 := bi_y hz
                        have h30 := hgE
                        have hfx : f_hd x := Or.inr ⟨hz.1.1, by have := hz.1.2.1; omega⟩
                        have hfy : f_hd y := by rcases hz.2.1 with q | q; exact Or.inl q; exact Or.inr ⟨q.1, by have := q.2.1; omega⟩
                        have hfz : f_hd z := by rcases hz.2.2 with q | q; exact Or.inl q; exact Or.inr ⟨q.1, by have := q.2.1; omega⟩
                        rcases hP with hP | hP | hP
                        · omega
                        · omega
                        · exact IR_eo wia hIR hfx hfy hfz hP.2.2 hy8
                      exact ⟨by rw [hr], hR⟩
                    · refine a_bipush (pc := 50) (n := (-3)) (by decide +kernel) rfl ?_
                      refine a_ireturn (pc := 52) (by decide +kernel) rfl ?_
                      refine k_ret ?_
                      have hr : ((-3) : Int) = r := by
                        unfold fi_P at hP
                        rw [hix] at hP
                        have hbe : bi (h_is σ x ∧ (y = -9 ∨ h_is σ y) ∧ (z = -9 ∨ h_is σ z)) = bi (d_is σ x ∧ (y = -9 ∨ d_is σ y) ∧ (z = -9 ∨ d_is σ z)) := bi_c (by rw [RK_h hR, RK_h hR, RK_h hR])
                        rw [hbe] at hP
                        have hz : d_is σ x ∧ (y = -9 ∨ d_is σ y) ∧ (z = -9 ∨ d_is σ z) := ⟨by assumption, by first | exact Or.inl (by assumption) | exact Or.inr (by assumption), by first | exact Or.inl (by assumption) | exact Or.inr (by assumption)⟩
                        have hz1 := bi_y hz
                        rcases hP with hP | hP | hP <;> omega
                      exact ⟨by rw [hr], hR⟩
                · exact absurd c33 (by decide)
              · show j_at _ _ _ [(0, .ref 68), (1, j_i x), (2, j_i y), (3, j_i z)] [j_i 0] _ _ _ _
                have i30 := bi_n p30
                refine a_if_ne (pc := 33) (off := 5) (tgt := 38) (by decide +kernel) (by decide) (by omega) (fun c33 => ?_) (fun c33 => ?_)
                · exact absurd c33 (by decide)
                · refine a_iconst (pc := 36) (n := (-1)) (by decide +kernel) ?_
                  refine a_ireturn (pc := 37) (by decide +kernel) rfl ?_
                  refine k_ret ?_
                  have hr : ((-1) : Int) = r := by
                    unfold fi_P at hP
                    rw [hix] at hP
                    have hbe : bi (h_is σ x ∧ (y = -9 ∨ h_is σ y) ∧ (z = -9 ∨ h_is σ z)) = bi (d_is σ x ∧ (y = -9 ∨ d_is σ y) ∧ (z = -9 ∨ d_is σ z)) := bi_c (by rw [RK_h hR, RK_h hR, RK_h hR])
                    rw [hbe] at hP
                    have hz : bi (d_is σ x ∧ (y = -9 ∨ d_is σ y) ∧ (z = -9 ∨ d_is σ z)) = 0 := bi_n (by
                      rintro ⟨g1, g2, g3⟩
                      first | exact absurd g1 (by assumption) | (rcases g2 with g | g; exact absurd g (by assumption); exact absurd g (by assumption)) | (rcases g3 with g | g; exact absurd g (by assumption); exact absurd g (by assumption)))
                    rcases hP with hP | hP | hP <;> omega
                  exact ⟨by rw [hr], hR⟩
        · show j_at _ _ _ [(0, .ref 68), (1, j_i x), (2, j_i y), (3, j_i z)] [j_i 0] _ _ _ _
          have i16 := bi_n p16
          refine a_if_eq (pc := 19) (off := 17) (tgt := 36) (by decide +kernel) (by decide) (by omega) (fun c19 => ?_) (fun c19 => ?_)
          · refine a_iconst (pc := 36) (n := (-1)) (by decide +kernel) ?_
            refine a_ireturn (pc := 37) (by decide +kernel) rfl ?_
            refine k_ret ?_
            have hr : ((-1) : Int) = r := by
              unfold fi_P at hP
              rw [hix] at hP
              have hbe : bi (h_is σ x ∧ (y = -9 ∨ h_is σ y) ∧ (z = -9 ∨ h_is σ z)) = bi (d_is σ x ∧ (y = -9 ∨ d_is σ y) ∧ (z = -9 ∨ d_is σ z)) := bi_c (by rw [RK_h hR, RK_h hR, RK_h hR])
              rw [hbe] at hP
              have hz : bi (d_is σ x ∧ (y = -9 ∨ d_is σ y) ∧ (z = -9 ∨ d_is σ z)) = 0 := bi_n (by
                rintro ⟨g1, g2, g3⟩
                first | exact absurd g1 (by assumption) | (rcases g2 with g | g; exact absurd g (by assumption); exact absurd g (by assumption)) | (rcases g3 with g | g; exact absurd g (by assumption); exact absurd g (by assumption)))
              rcases hP with hP | hP | hP <;> omega
            exact ⟨by rw [hr], hR⟩
          · exact absurd c19 (by decide)
  · show j_at _ _ _ [(0, .ref 68), (1, j_i x), (2, j_i y), (3, j_i z)] [j_i 0] _ _ _ _
    have i2 := bi_n p2
    refine a_if_eq (pc := 5) (off := 31) (tgt := 36) (by decide +kernel) (by decide) (by omega) (fun c5 => ?_) (fun c5 => ?_)
    · refine a_iconst (pc := 36) (n := (-1)) (by decide +kernel) ?_
      refine a_ireturn (pc := 37) (by decide +kernel) rfl ?_
      refine k_ret ?_
      have hr : ((-1) : Int) = r := by
        unfold fi_P at hP
        rw [hix] at hP
        have hbe : bi (h_is σ x ∧ (y = -9 ∨ h_is σ y) ∧ (z = -9 ∨ h_is σ z)) = bi (d_is σ x ∧ (y = -9 ∨ d_is σ y) ∧ (z = -9 ∨ d_is σ z)) := bi_c (by rw [RK_h hR, RK_h hR, RK_h hR])
        rw [hbe] at hP
        have hz : bi (d_is σ x ∧ (y = -9 ∨ d_is σ y) ∧ (z = -9 ∨ d_is σ z)) = 0 := bi_n (by
          rintro ⟨g1, g2, g3⟩
          first | exact absurd g1 (by assumption) | (rcases g2 with g | g; exact absurd g (by assumption); exact absurd g (by assumption)) | (rcases g3 with g | g; exact absurd g (by assumption); exact absurd g (by assumption)))
        rcases hP with hP | hP | hP <;> omega
      exact ⟨by rw [hr], hR⟩
    · exact absurd c5 (by decide)
set_option maxHeartbeats 4000000 in
theorem p_find {G : j_G} {X : k_X} {n : Nat} {σ : k_St} (hR : RR n σ) {x : Int} (hx : -2147483648 ≤ x ∧ x ≤ 2147483647) {y : Int} (hy : -2147483648 ≤ y ∧ y ≤ 2147483647) {z : Int} (hz : -2147483648 ≤ z ∧ z ≤ 2147483647)  : pr_ok G X mX11_find mX12_find [j_i x, j_i y, j_i z] n σ 0 0 := by
  refine ⟨_, c_find hR hx hy hz , fun v n' σ' hq => ?_⟩
  obtain ⟨r, hv, rfl, rfl, hP⟩ := hq
  exact ⟨RR_n hR, r, hv, d_find hR hx hy hz  hP⟩
