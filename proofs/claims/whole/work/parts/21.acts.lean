theorem c_nil {X : k_X} {n : Nat} {σ : k_St} : c_ext (k_h X n σ) [] = k_h X n σ := by
  unfold c_ext k_h
  refine Prod.ext rfl ?_
  funext b
  show (if b < n then (if b < n then (k_SH X.1 b).map (k_cell X σ b) else none) else _) = if b < n then _ else none
  by_cases h : b < n
  · rw [if_pos h, if_pos h]
  · rw [if_neg h, if_neg h]; rfl
theorem k_setR {X : k_X} {n a l : Nat} {σ : k_St} {i : Int} {x : Option Nat} (hs : k_has X n a (.inr (.inl l))) : j_set (k_h X n σ) a (.inr (.inl (l, j_upr (σ.2.2 a) i x))) = k_h X n (k_sR σ a i x) := by
  unfold j_set k_h
  congr 1
  funext b
  by_cases hb : b = a
  · subst hb
    simp only [if_true, if_pos hs.1, hs.2, Option.map_some, k_cell]
    congr 5
    funext k
    simp [j_upr, k_sR]
  · simp only [if_neg hb]
    by_cases hl : b < n
    · simp only [if_pos hl]
      cases he : k_SH X.1 b with
      | none => rfl
      | some s =>
        simp only [Option.map_some]
        congr 1
        rcases s with q | q | q
        · rfl
        · simp only [k_cell]
          congr 3
          funext k
          simp [k_sR, hb]
        · simp only [k_cell]
          congr 3
          exact (k_fs_ne (fun i q _ => by rcases q with _ | _ | _ | q <;> simp [k_f, k_sR, hb])).symm
    · simp only [if_neg hl]
/-- sixteen new cells from n on -/
def z_new (σ : k_St) (n : Nat) : k_St := (fun c => if n ≤ c ∧ c < n + 16 then fun _ => 0 else σ.1 c, fun c j => if n ≤ c ∧ c < n + 16 then 0 else σ.2.1 c j, σ.2.2)

theorem k_born {X : k_X} {s : Nat} {σ : k_St} (hs : s < 40) : c_ext (k_h X (101 + 16 * s) σ) ([.inr (.inr (4, [.ref ((101 + 16 * s) + 1), j_i 0, .ref ((101 + 16 * s) + 2), .ref ((101 + 16 * s) + 10)])), .inl (0, 300, fun _ => 0), .inr (.inr (2, [.ref ((101 + 16 * s) + 3), .ref ((101 + 16 * s) + 6), .ref ((101 + 16 * s) + 9), j_i 0])), .inr (.inr (9, [.ref ((101 + 16 * s) + 4), .ref ((101 + 16 * s) + 5)])), .inl (1, 480, fun _ => 0), .inl (0, 30, fun _ => 0), .inr (.inr (9, [.ref ((101 + 16 * s) + 7), .ref ((101 + 16 * s) + 8)])), .inl (1, 480, fun _ => 0), .inl (0, 30, fun _ => 0), .inl (2, 30, fun _ => 0), .inr (.inr (7, [.ref ((101 + 16 * s) + 11), .ref ((101 + 16 * s) + 12), .ref ((101 + 16 * s) + 13), .ref ((101 + 16 * s) + 14), .ref ((101 + 16 * s) + 15), j_i 0])), .inl (0, 50, fun _ => 0), .inl (0, 50, fun _ => 0), .inl (0, 50, fun _ => 0), .inl (0, 50, fun _ => 0), .inl (2, 50, fun _ => 0)] : List j_C) = k_h X (101 + 16 * s + 16) (z_new σ (101 + 16 * s)) := by
  unfold c_ext k_h
  refine Prod.ext rfl ?_
  funext b
  by_cases h : b < 101 + 16 * s
  · show (if b < 101 + 16 * s then (if b < 101 + 16 * s then _ else _) else _) = if b < 101 + 16 * s + 16 then _ else _
    rw [if_pos h, if_pos h, if_pos (by omega)]
    cases he : k_SH X.1 b with
    | none => rfl
    | some q =>
      simp only [Option.map_some]
      congr 1
      rcases q with q | q | q
      · simp only [k_cell, z_new]; rw [if_neg (show ¬ (101 + 16 * s ≤ b ∧ b < 101 + 16 * s + 16) by omega)]
      · rfl
      · simp only [k_cell]
        congr 3
        refine (k_fs_ne (fun i q _ => ?_)).symm
        rcases q with _ | _ | _ | q
        · simp only [k_f, z_new]; rw [if_neg (show ¬ (101 + 16 * s ≤ b ∧ b < 101 + 16 * s + 16) by omega)]
        · simp only [k_f, z_new]; rw [if_neg (show ¬ (101 + 16 * s ≤ b ∧ b < 101 + 16 * s + 16) by omega)]
        · rfl
        · rfl
  · by_cases h2 : b < 101 + 16 * s + 16
    · obtain ⟨d, rfl⟩ : ∃ d, b = 101 + 16 * s + d := ⟨b - (101 + 16 * s), by omega⟩
      have hd : d < 16 := by omega
      show (if 101 + 16 * s + d < 101 + 16 * s then _ else _) = if 101 + 16 * s + d < 101 + 16 * s + 16 then _ else _
      rw [if_neg h, if_pos h2, k_ring hs hd]
      have hz : ∀ e, e < 16 → ∀ q : k_Sh, (k_kp (101 + 16 * s))[e]? = some q → some (k_cell X (z_new σ (101 + 16 * s)) (101 + 16 * s + e) q) = ([.inr (.inr (4, [.ref ((101 + 16 * s) + 1), j_i 0, .ref ((101 + 16 * s) + 2), .ref ((101 + 16 * s) + 10)])), .inl (0, 300, fun _ => 0), .inr (.inr (2, [.ref ((101 + 16 * s) + 3), .ref ((101 + 16 * s) + 6), .ref ((101 + 16 * s) + 9), j_i 0])), .inr (.inr (9, [.ref ((101 + 16 * s) + 4), .ref ((101 + 16 * s) + 5)])), .inl (1, 480, fun _ => 0), .inl (0, 30, fun _ => 0), .inr (.inr (9, [.ref ((101 + 16 * s) + 7), .ref ((101 + 16 * s) + 8)])), .inl (1, 480, fun _ => 0), .inl (0, 30, fun _ => 0), .inl (2, 30, fun _ => 0), .inr (.inr (7, [.ref ((101 + 16 * s) + 11), .ref ((101 + 16 * s) + 12), .ref ((101 + 16 * s) + 13), .ref ((101 + 16 * s) + 14), .ref ((101 + 16 * s) + 15), j_i 0])), .inl (0, 50, fun _ => 0), .inl (0, 50, fun _ => 0), .inl (0, 50, fun _ => 0), .inl (0, 50, fun _ => 0), .inl (2, 50, fun _ => 0)] : List j_C)[e]? := by
        intro e he q hq
        have h5 : ∀ k, ¬ (101 + 16 * s + k < 5) := fun k => by omega
        have hin : 101 + 16 * s ≤ 101 + 16 * s + e ∧ 101 + 16 * s + e < 101 + 16 * s + 16 := by omega
        rcases (show e = 0 ∨ e = 1 ∨ e = 2 ∨ e = 3 ∨ e = 4 ∨ e = 5 ∨ e = 6 ∨ e = 7 ∨ e = 8 ∨ e = 9 ∨ e = 10 ∨ e = 11 ∨ e = 12 ∨ e = 13 ∨ e = 14 ∨ e = 15 by omega) with rfl | rfl | rfl | rfl | rfl | rfl | rfl | rfl | rfl | rfl | rfl | rfl | rfl | rfl | rfl | rfl <;> cases hq <;> simp only [k_cell, z_new, k_fs, k_f, if_pos hin, if_neg (h5 _)] <;> rfl
      show ([.inr (.inr (4, [.ref ((101 + 16 * s) + 1), j_i 0, .ref ((101 + 16 * s) + 2), .ref ((101 + 16 * s) + 10)])), .inl (0, 300, fun _ => 0), .inr (.inr (2, [.ref ((101 + 16 * s) + 3), .ref ((101 + 16 * s) + 6), .ref ((101 + 16 * s) + 9), j_i 0])), .inr (.inr (9, [.ref ((101 + 16 * s) + 4), .ref ((101 + 16 * s) + 5)])), .inl (1, 480, fun _ => 0), .inl (0, 30, fun _ => 0), .inr (.inr (9, [.ref ((101 + 16 * s) + 7), .ref ((101 + 16 * s) + 8)])), .inl (1, 480, fun _ => 0), .inl (0, 30, fun _ => 0), .inl (2, 30, fun _ => 0), .inr (.inr (7, [.ref ((101 + 16 * s) + 11), .ref ((101 + 16 * s) + 12), .ref ((101 + 16 * s) + 13), .ref ((101 + 16 * s) + 14), .ref ((101 + 16 * s) + 15), j_i 0])), .inl (0, 50, fun _ => 0), .inl (0, 50, fun _ => 0), .inl (0, 50, fun _ => 0), .inl (0, 50, fun _ => 0), .inl (2, 50, fun _ => 0)] : List j_C)[101 + 16 * s + d - (101 + 16 * s)]? = _
      rw [show 101 + 16 * s + d - (101 + 16 * s) = d by omega]
      cases hq : (k_kp (101 + 16 * s))[d]? with
      | none => exact absurd hq (by rcases (show d = 0 ∨ d = 1 ∨ d = 2 ∨ d = 3 ∨ d = 4 ∨ d = 5 ∨ d = 6 ∨ d = 7 ∨ d = 8 ∨ d = 9 ∨ d = 10 ∨ d = 11 ∨ d = 12 ∨ d = 13 ∨ d = 14 ∨ d = 15 by omega) with rfl | rfl | rfl | rfl | rfl | rfl | rfl | rfl | rfl | rfl | rfl | rfl | rfl | rfl | rfl | rfl <;> simp [k_kp])
      | some q => exact (hz d hd q hq).symm
    · show (if b < 101 + 16 * s then _ else _) = if b < 101 + 16 * s + 16 then _ else _
      rw [if_neg h, if_neg h2, List.getElem?_eq_none]
      show 16 ≤ b - (101 + 16 * s); omega
theorem b_aastore {G : j_G} {M : j_M} {pc : Nat} {lv : List (Nat × Value)} {st : List Value} {X : k_X} {n : Nat} {σ : k_St} {c sl : Nat} {Q : j_P} {a l b : Nat} {i : Int} {ks : List Nat} (hd : decode M.2.1 pc = .ok (.aastore, 1)) (hs : k_has X n a (.inr (.inl l))) (ha : 5 ≤ a) (hi : 0 ≤ i ∧ i < l) (hl : l ≤ 1000000) (hb : k_has X n b (.inr (.inr (4, ks)))) (hb5 : 5 ≤ b) (kk : j_at G M (pc + 1) lv st (k_h X n (k_sR σ a i (some b))) c sl Q) : j_at G M pc lv (.ref b :: j_i i :: .ref a :: st) (k_h X n σ) c sl Q := by
  refine a_aastore hd (k_cellof hs) ha hi hl (k_cellof hb) hb5 ?_
  have e := k_setR (σ := σ) (i := i) (x := some b) hs
  show j_at G M (pc + 1) lv st (j_set (k_h X n σ) a (.inr (.inl (l, j_upr (σ.2.2 a) i (some b))))) c sl Q
  rw [e]
  exact kk
/-- the state behind an act that is kept: σ1 is the state with its ring place made -/
def a_sv (σ : k_St) (s : Nat) (k : Int) : k_St := k_sI (k_sI (kp_cp σ (101 + 16 * s) 6) 22 1 (((s : Int) + 1) % 40)) 22 2 (min (k + 1) 40)
set_option maxHeartbeats 4000000 in
theorem s_save1 {G : j_G} {X : k_X} {n : Nat} {σ : k_St} (hn : 101 ≤ n) (hk : kp_wf σ 6) {s : Nat} (hs : s < 40) (hx : σ.2.1 22 1 = (s : Int)) (hc : 0 ≤ σ.2.1 22 2 ∧ σ.2.1 22 2 ≤ 40) (hn2 : 101 + 16 * s + 16 ≤ n) (hr : σ.2.2 23 (s : Int) = some (101 + 16 * s)) : k_run G X mX0_save [.ref 22, .ref 6] n σ 16 1618 (k_is n (a_sv σ s (σ.2.1 22 2)) none) := by
  refine k_enter (by decide +kernel) (Nat.le_of_ble_eq_true rfl) ?_
  show j_at _ _ _ [(0, .ref 22), (1, .ref 6)] [] _ _ _ _
  refine a_aload_n (pc := 0) (i := 0) (by decide +kernel) rfl ?_
  refine b_getR (pc := 1) (b := 23) fl_X0_11 (by decide +kernel) (sh_22 hn) rfl ?_
  refine a_aload_n (pc := 4) (i := 0) (by decide +kernel) rfl ?_
  refine b_getI (pc := 5) fl_X0_17 (by decide +kernel) (sh_22 hn) rfl ?_
  rw [hx]
  refine b_aaload (pc := 8) (b := 101 + 16 * s) (by decide +kernel) (sh_23 hn) (by omega) (by omega) (by omega) hr ?_
  refine a_astore_n (pc := 9) (i := 2) (lv' := [(0, .ref 22), (1, .ref 6), (2, .ref (101 + 16 * s))]) (by decide +kernel) (Nat.le_of_ble_eq_true rfl) rfl ?_
  refine a_aload_n (pc := 10) (i := 2) (by decide +kernel) rfl ?_
  refine a_ifnonnull (pc := 11) (off := 21) (tgt := 32) (by decide +kernel) (by decide) ?_
  refine a_aload_n (pc := 32) (i := 2) (by decide +kernel) rfl ?_
  refine a_aload_n (pc := 33) (i := 1) (by decide +kernel) rfl ?_
  refine b_callV (pc := 34) (c' := 0) (sl' := 0) [.ref 6] [] ml_X0_25 (by decide +kernel) rfl rfl (kA_r hs hn2).2.1 rfl rfl (Nat.le_of_ble_eq_true rfl) (j_fitI rfl rfl) (s_kcopy (kA_r hs hn2) (kA_6 hn) hk (by omega)) (fun v n' σ' hq => ?_)
  obtain ⟨rfl, e1, e2⟩ := hq
  rw [e1, e2]; clear e1 e2
  obtain ⟨σ1, hσ1⟩ : ∃ z, z = kp_cp σ (101 + 16 * s) 6 := ⟨_, rfl⟩
  rw [← hσ1]
  show j_at _ _ _ [(0, .ref 22), (1, .ref 6), (2, .ref (101 + 16 * s))] [] _ _ _ _
  refine a_aload_n (pc := 37) (i := 0) (by decide +kernel) rfl ?_
  refine a_aload_n (pc := 38) (i := 0) (by decide +kernel) rfl ?_
  refine b_getI (pc := 39) fl_X0_17 (by decide +kernel) (sh_22 hn) rfl ?_
  rw [show σ1.2.1 22 1 = (s : Int) by rw [hσ1, kp_cp_f (by omega)]; exact hx]
  refine a_iconst (pc := 42) (n := 1) (by decide +kernel) ?_
  refine a_iadd (pc := 43) (by decide +kernel) ?_
  refine a_bipush (pc := 44) (n := 40) (by decide +kernel) rfl ?_
  refine a_irem (pc := 46) (by decide +kernel) (by omega) (by omega) ?_
  refine b_putI (pc := 47) fl_X0_17 (by decide +kernel) (sh_22 hn) rfl rfl rfl ?_
  obtain ⟨σ2, hσ2⟩ : ∃ z, z = k_sI σ1 22 1 (((s : Int) + 1) % 40) := ⟨_, rfl⟩
  rw [← hσ2]
  refine a_aload_n (pc := 50) (i := 0) (by decide +kernel) rfl ?_
  refine a_aload_n (pc := 51) (i := 0) (by decide +kernel) rfl ?_
  refine b_getI (pc := 52) fl_X0_21 (by decide +kernel) (sh_22 hn) rfl ?_
  rw [show σ2.2.1 22 2 = σ1.2.1 22 2 by rw [hσ2]; exact k_IN (by omega)]
  rw [show σ1.2.1 22 2 = σ.2.1 22 2 by rw [hσ1]; exact kp_cp_f (by omega)]
  refine a_iconst (pc := 55) (n := 1) (by decide +kernel) ?_
  refine a_iadd (pc := 56) (by decide +kernel) ?_
  refine a_bipush (pc := 57) (n := 40) (by decide +kernel) rfl ?_
  refine a_mmin (pc := 59) mm_X0_29 (by decide +kernel) (by omega) (by omega) (Nat.le_of_ble_eq_true rfl) (Nat.le_of_ble_eq_true rfl) ?_
  refine b_putI (pc := 62) fl_X0_21 (by decide +kernel) (sh_22 hn) rfl rfl rfl ?_
  obtain ⟨σ3, hσ3⟩ : ∃ z, z = k_sI σ2 22 2 (min ((σ.2.1 22 2) + 1) 40) := ⟨_, rfl⟩
  rw [← hσ3]
  refine a_return (pc := 65) (by decide +kernel) rfl ?_
  refine k_ret ?_
  subst hσ3; subst hσ2; subst hσ1
  exact ⟨rfl, rfl, rfl⟩
theorem h_c0 {G : j_G} {M : j_M} {h : j_H} {As : List Value} {x : j_C} {c sl : Nat} {ys : List j_C} (w : d_run G M h As x c sl ys) : d_run G M (c_ext h []) As x c sl ys := by
  have e : ∀ zs : List j_C, c_ext (c_ext h []) zs = c_ext h zs := fun zs => by rw [c_app]; rfl
  unfold d_run at w ⊢
  rw [e]
  simp only [e]
  exact w
theorem kp_wf_congr {σ τ : k_St} {a : Nat} (h1 : ∀ c, a ≤ c → c ≤ a + 15 → τ.1 c = σ.1 c) (h2 : ∀ c j, a ≤ c → c ≤ a + 15 → τ.2.1 c j = σ.2.1 c j) (h : kp_wf σ a) : kp_wf τ a := by
  refine ⟨by rw [h2 _ _ (by omega) (by omega)]; exact h.1, h_wf_congr (h1 _ (by omega) (by omega)) (h1 _ (by omega) (by omega)) (h1 _ (by omega) (by omega)) (h1 _ (by omega) (by omega)) (h1 _ (by omega) (by omega)) (h2 _ _ (by omega) (by omega)) h.2.1, m_wf_congr (h1 _ (by omega) (by omega)) (h1 _ (by omega) (by omega)) (h1 _ (by omega) (by omega)) (h1 _ (by omega) (by omega)) (h1 _ (by omega) (by omega)) (h2 _ _ (by omega) (by omega)) h.2.2⟩
set_option maxHeartbeats 4000000 in
theorem s_save2 {G : j_G} {X : k_X} {σ : k_St} (hk : kp_wf σ 6) {s : Nat} (hs : s < 40) (hx : σ.2.1 22 1 = (s : Int)) (hc : 0 ≤ σ.2.1 22 2 ∧ σ.2.1 22 2 ≤ 40) (hr : σ.2.2 23 (s : Int) = none) : k_run G X mX0_save [.ref 22, .ref 6] (101 + 16 * s) σ 16 1618 (k_is (101 + 16 * s + 16) (a_sv (k_sR (z_new σ (101 + 16 * s)) 23 (s : Int) (some (101 + 16 * s))) s (σ.2.1 22 2)) none) := by
  have hn : 101 ≤ 101 + 16 * s := by omega
  refine k_enter (by decide +kernel) (Nat.le_of_ble_eq_true rfl) ?_
  show j_at _ _ _ [(0, .ref 22), (1, .ref 6)] [] _ _ _ _
  refine a_aload_n (pc := 0) (i := 0) (by decide +kernel) rfl ?_
  refine b_getR (pc := 1) (b := 23) fl_X0_11 (by decide +kernel) (sh_22 hn) rfl ?_
  refine a_aload_n (pc := 4) (i := 0) (by decide +kernel) rfl ?_
  refine b_getI (pc := 5) fl_X0_17 (by decide +kernel) (sh_22 hn) rfl ?_
  rw [hx]
  refine b_aaloadN (pc := 8) (by decide +kernel) (sh_23 hn) (by omega) (by omega) (by omega) hr ?_
  refine a_astore_nN (pc := 9) (i := 2) (lv' := [(0, .ref 22), (1, .ref 6), (2, .null)]) (by decide +kernel) (Nat.le_of_ble_eq_true rfl) rfl ?_
  refine a_aload_nN (pc := 10) (i := 2) (by decide +kernel) rfl ?_
  refine a_ifnonnullN (pc := 11) (off := 21) (by decide +kernel) ?_
  rw [← c_nil (X := X) (n := 101 + 16 * s) (σ := σ)]
  refine d_new (pc := 14) (c := 15) (sl := 1614) (fs := [.null, j_i 0, .null, .null]) (cs' := [.inr (.inr (4, [.null, j_i 0, .null, .null]))]) ciX4 kl_X0_9 ki_X4 kn_X4 (by decide +kernel) bl_4 rfl ?_
  refine a_dup (pc := 17) (by decide +kernel) rfl ?_
  refine d_call (pc := 18) (k := 0) (L0 := []) (x := .inr (.inr (4, [.null, j_i 0, .null, .null]))) (cs' := [.inr (.inr (4, [.ref ((k_h X (101 + 16 * s) σ).1 + 1), j_i 0, .ref ((k_h X (101 + 16 * s) σ).1 + 2), .ref ((k_h X (101 + 16 * s) σ).1 + 10)])), .inl (0, 300, fun _ => 0), .inr (.inr (2, [.ref ((k_h X (101 + 16 * s) σ).1 + 3), .ref ((k_h X (101 + 16 * s) σ).1 + 6), .ref ((k_h X (101 + 16 * s) σ).1 + 9), j_i 0])), .inr (.inr (9, [.ref ((k_h X (101 + 16 * s) σ).1 + 4), .ref ((k_h X (101 + 16 * s) σ).1 + 5)])), .inl (1, 480, fun _ => 0), .inl (0, 30, fun _ => 0), .inr (.inr (9, [.ref ((k_h X (101 + 16 * s) σ).1 + 7), .ref ((k_h X (101 + 16 * s) σ).1 + 8)])), .inl (1, 480, fun _ => 0), .inl (0, 30, fun _ => 0), .inl (2, 30, fun _ => 0), .inr (.inr (7, [.ref ((k_h X (101 + 16 * s) σ).1 + 11), .ref ((k_h X (101 + 16 * s) σ).1 + 12), .ref ((k_h X (101 + 16 * s) σ).1 + 13), .ref ((k_h X (101 + 16 * s) σ).1 + 14), .ref ((k_h X (101 + 16 * s) σ).1 + 15), j_i 0])), .inl (0, 50, fun _ => 0), .inl (0, 50, fun _ => 0), .inl (0, 50, fun _ => 0), .inl (0, 50, fun _ => 0), .inl (2, 50, fun _ => 0)]) (c := 0) (sl := 0) (c' := 15) (sl' := 1614) [] [.ref ((k_h X (101 + 16 * s) σ).1 + 0)] ml_X0_24 (by decide +kernel) rfl rfl (Nat.le_of_ble_eq_true rfl) (j_fitI rfl rfl) rfl rfl (h_c0 n_X4_init) rfl ?_
  have e7 := k_born (X := X) (σ := σ) hs
  show j_at _ _ _ [(0, .ref 22), (1, .ref 6), (2, .null)] [.ref (101 + 16 * s)] (c_ext (k_h X (101 + 16 * s) σ) ([.inr (.inr (4, [.ref ((101 + 16 * s) + 1), j_i 0, .ref ((101 + 16 * s) + 2), .ref ((101 + 16 * s) + 10)])), .inl (0, 300, fun _ => 0), .inr (.inr (2, [.ref ((101 + 16 * s) + 3), .ref ((101 + 16 * s) + 6), .ref ((101 + 16 * s) + 9), j_i 0])), .inr (.inr (9, [.ref ((101 + 16 * s) + 4), .ref ((101 + 16 * s) + 5)])), .inl (1, 480, fun _ => 0), .inl (0, 30, fun _ => 0), .inr (.inr (9, [.ref ((101 + 16 * s) + 7), .ref ((101 + 16 * s) + 8)])), .inl (1, 480, fun _ => 0), .inl (0, 30, fun _ => 0), .inl (2, 30, fun _ => 0), .inr (.inr (7, [.ref ((101 + 16 * s) + 11), .ref ((101 + 16 * s) + 12), .ref ((101 + 16 * s) + 13), .ref ((101 + 16 * s) + 14), .ref ((101 + 16 * s) + 15), j_i 0])), .inl (0, 50, fun _ => 0), .inl (0, 50, fun _ => 0), .inl (0, 50, fun _ => 0), .inl (0, 50, fun _ => 0), .inl (2, 50, fun _ => 0)] : List j_C)) _ _ _
  rw [e7]
  obtain ⟨σ0, hσ0⟩ : ∃ z, z = z_new σ (101 + 16 * s) := ⟨_, rfl⟩
  rw [← hσ0]
  have hn : 101 ≤ 101 + 16 * s + 16 := by omega
  have hn2 : 101 + 16 * s + 16 ≤ 101 + 16 * s + 16 := by omega
  refine a_astore_n (pc := 21) (i := 2) (lv' := [(0, .ref 22), (1, .ref 6), (2, .ref (101 + 16 * s))]) (by decide +kernel) (Nat.le_of_ble_eq_true rfl) rfl ?_
  refine a_aload_n (pc := 22) (i := 0) (by decide +kernel) rfl ?_
  refine b_getR (pc := 23) (b := 23) fl_X0_11 (by decide +kernel) (sh_22 hn) rfl ?_
  refine a_aload_n (pc := 26) (i := 0) (by decide +kernel) rfl ?_
  refine b_getI (pc := 27) fl_X0_17 (by decide +kernel) (sh_22 hn) rfl ?_
  rw [show σ0.2.1 22 1 = (s : Int) by rw [hσ0]; show (if _ then _ else _) = _; rw [if_neg (by omega)]; exact hx]
  refine a_aload_n (pc := 30) (i := 2) (by decide +kernel) rfl ?_
  refine b_aastore (pc := 31) (by decide +kernel) (sh_23 hn) (by omega) (by omega) (by omega) (kA_r hs hn2).2.1 (by omega) ?_
  obtain ⟨σ9, hσ9⟩ : ∃ z, z = k_sR σ0 23 (s : Int) (some (101 + 16 * s)) := ⟨_, rfl⟩
  rw [← hσ9]
  have hx9 : σ9.2.1 22 1 = (s : Int) := by rw [hσ9, hσ0]; show (if _ then _ else _) = _; rw [if_neg (by omega)]; exact hx
  have hc9 : σ9.2.1 22 2 = σ.2.1 22 2 := by rw [hσ9, hσ0]; show (if _ then _ else _) = _; rw [if_neg (by omega)]
  have hk9 : kp_wf σ9 6 := by rw [hσ9, hσ0]; exact kp_wf_congr (σ := σ) (fun c h1 h2 => if_neg (by omega)) (fun c j h1 h2 => if_neg (by omega)) hk
  refine a_aload_n (pc := 32) (i := 2) (by decide +kernel) rfl ?_
  refine a_aload_n (pc := 33) (i := 1) (by decide +kernel) rfl ?_
  refine b_callV (pc := 34) (c' := 0) (sl' := 0) [.ref 6] [] ml_X0_25 (by decide +kernel) rfl rfl (kA_r hs hn2).2.1 rfl rfl (Nat.le_of_ble_eq_true rfl) (j_fitI rfl rfl) (s_kcopy (kA_r hs hn2) (kA_6 hn) hk9 (by omega)) (fun v n' σ' hq => ?_)
  obtain ⟨rfl, e1, e2⟩ := hq
  rw [e1, e2]; clear e1 e2
  obtain ⟨σ1, hσ1⟩ : ∃ z, z = kp_cp σ9 (101 + 16 * s) 6 := ⟨_, rfl⟩
  rw [← hσ1]
  show j_at _ _ _ [(0, .ref 22), (1, .ref 6), (2, .ref (101 + 16 * s))] [] _ _ _ _
  refine a_aload_n (pc := 37) (i := 0) (by decide +kernel) rfl ?_
  refine a_aload_n (pc := 38) (i := 0) (by decide +kernel) rfl ?_
  refine b_getI (pc := 39) fl_X0_17 (by decide +kernel) (sh_22 hn) rfl ?_
  rw [show σ1.2.1 22 1 = (s : Int) by rw [hσ1, kp_cp_f (by omega)]; exact hx9]
  refine a_iconst (pc := 42) (n := 1) (by decide +kernel) ?_
  refine a_iadd (pc := 43) (by decide +kernel) ?_
  refine a_bipush (pc := 44) (n := 40) (by decide +kernel) rfl ?_
  refine a_irem (pc := 46) (by decide +kernel) (by omega) (by omega) ?_
  refine b_putI (pc := 47) fl_X0_17 (by decide +kernel) (sh_22 hn) rfl rfl rfl ?_
  obtain ⟨σ2, hσ2⟩ : ∃ z, z = k_sI σ1 22 1 (((s : Int) + 1) % 40) := ⟨_, rfl⟩
  rw [← hσ2]
  refine a_aload_n (pc := 50) (i := 0) (by decide +kernel) rfl ?_
  refine a_aload_n (pc := 51) (i := 0) (by decide +kernel) rfl ?_
  refine b_getI (pc := 52) fl_X0_21 (by decide +kernel) (sh_22 hn) rfl ?_
  rw [show σ2.2.1 22 2 = σ1.2.1 22 2 by rw [hσ2]; exact k_IN (by omega)]
  rw [show σ1.2.1 22 2 = σ.2.1 22 2 by rw [hσ1, kp_cp_f (by omega)]; exact hc9]
  refine a_iconst (pc := 55) (n := 1) (by decide +kernel) ?_
  refine a_iadd (pc := 56) (by decide +kernel) ?_
  refine a_bipush (pc := 57) (n := 40) (by decide +kernel) rfl ?_
  refine a_mmin (pc := 59) mm_X0_29 (by decide +kernel) (by omega) (by omega) (Nat.le_of_ble_eq_true rfl) (Nat.le_of_ble_eq_true rfl) ?_
  refine b_putI (pc := 62) fl_X0_21 (by decide +kernel) (sh_22 hn) rfl rfl rfl ?_
  obtain ⟨σ3, hσ3⟩ : ∃ z, z = k_sI σ2 22 2 (min ((σ.2.1 22 2) + 1) 40) := ⟨_, rfl⟩
  rw [← hσ3]
  refine a_return (pc := 65) (by decide +kernel) rfl ?_
  refine k_ret ?_
  subst hσ3; subst hσ2; subst hσ1; subst hσ9; subst hσ0
  exact ⟨rfl, rfl, rfl⟩
def a_rs (σ : k_St) (s : Nat) (k : Int) : k_St := k_sI (k_sI (kp_cp σ 6 (101 + 16 * s)) 22 1 (s : Int)) 22 2 (k - 1)
set_option maxHeartbeats 4000000 in
theorem s_restore1 {G : j_G} {X : k_X} {n : Nat} {σ : k_St} (hn : 101 ≤ n) {s : Nat} (hs : s < 40) (hq : 0 ≤ σ.2.1 22 1 ∧ σ.2.1 22 1 < 40) (hx : (σ.2.1 22 1 + 40 - 1) % 40 = (s : Int)) (hk : kp_wf σ (101 + 16 * s)) (hc : 0 < σ.2.1 22 2 ∧ σ.2.1 22 2 ≤ 40) (hn2 : 101 + 16 * s + 16 ≤ n) (hr : σ.2.2 23 (s : Int) = some (101 + 16 * s)) : k_run G X mX0_restore [.ref 22, .ref 6] n σ 0 0 (k_is n (a_rs σ s (σ.2.1 22 2)) (some (j_i 1))) := by
  refine k_enter (by decide +kernel) (Nat.le_of_ble_eq_true rfl) ?_
  show j_at _ _ _ [(0, .ref 22), (1, .ref 6)] [] _ _ _ _
  refine a_aload_n (pc := 0) (i := 0) (by decide +kernel) rfl ?_
  refine b_getI (pc := 1) fl_X0_17 (by decide +kernel) (sh_22 hn) rfl ?_
  refine a_bipush (pc := 4) (n := 40) (by decide +kernel) rfl ?_
  refine a_iadd (pc := 6) (by decide +kernel) ?_
  refine a_iconst (pc := 7) (n := 1) (by decide +kernel) ?_
  refine a_isub (pc := 8) (by decide +kernel) ?_
  refine a_bipush (pc := 9) (n := 40) (by decide +kernel) rfl ?_
  refine a_irem (pc := 11) (by decide +kernel) (by omega) (by omega) ?_
  rw [hx]
  refine a_istore_n (pc := 12) (i := 2) (lv' := [(0, .ref 22), (1, .ref 6), (2, j_i ((s : Int)))]) (by decide +kernel) (Nat.le_of_ble_eq_true rfl) rfl ?_
  refine a_aload_n (pc := 13) (i := 0) (by decide +kernel) rfl ?_
  refine b_getR (pc := 14) (b := 23) fl_X0_11 (by decide +kernel) (sh_22 hn) rfl ?_
  refine a_iload_n (pc := 17) (i := 2) (by decide +kernel) rfl ?_
  refine b_aaload (pc := 18) (b := 101 + 16 * s) (by decide +kernel) (sh_23 hn) (by omega) (by omega) (by omega) hr ?_
  refine a_astore_n (pc := 19) (i := 3) (lv' := [(0, .ref 22), (1, .ref 6), (2, j_i ((s : Int))), (3, .ref (101 + 16 * s))]) (by decide +kernel) (Nat.le_of_ble_eq_true rfl) rfl ?_
  refine a_aload_n (pc := 20) (i := 0) (by decide +kernel) rfl ?_
  refine b_getI (pc := 21) fl_X0_21 (by decide +kernel) (sh_22 hn) rfl ?_
  refine a_if_eq (pc := 24) (off := 7) (tgt := 31) (by decide +kernel) (by decide) (by omega) (fun c24 => ?_) (fun c24 => ?_)
  · refine a_iconst (pc := 31) (n := 0) (by decide +kernel) ?_
    refine a_zreturn (pc := 32) (by decide +kernel) rfl (by omega) ?_
    refine k_ret ?_
    exfalso; omega
  · refine a_aload_n (pc := 27) (i := 3) (by decide +kernel) rfl ?_
    refine a_ifnonnull (pc := 28) (off := 5) (tgt := 33) (by decide +kernel) (by decide) ?_
    refine a_aload_n (pc := 33) (i := 1) (by decide +kernel) rfl ?_
    refine a_aload_n (pc := 34) (i := 3) (by decide +kernel) rfl ?_
    refine b_callV (pc := 35) (c' := 0) (sl' := 0) [.ref (101 + 16 * s)] [] ml_X0_25 (by decide +kernel) rfl rfl (sh_6 hn) rfl rfl (Nat.le_of_ble_eq_true rfl) (j_fitI rfl rfl) (s_kcopy (kA_6 hn) (kA_r hs hn2) hk (by omega)) (fun v n' σ' hq => ?_)
    obtain ⟨rfl, e1, e2⟩ := hq
    rw [e1, e2]; clear e1 e2
    obtain ⟨σ1, hσ1⟩ : ∃ z, z = kp_cp σ 6 (101 + 16 * s) := ⟨_, rfl⟩
    rw [← hσ1]
    show j_at _ _ _ [(0, .ref 22), (1, .ref 6), (2, j_i ((s : Int))), (3, .ref (101 + 16 * s))] [] _ _ _ _
    refine a_aload_n (pc := 38) (i := 0) (by decide +kernel) rfl ?_
    refine a_iload_n (pc := 39) (i := 2) (by decide +kernel) rfl ?_
    refine b_putI (pc := 40) fl_X0_17 (by decide +kernel) (sh_22 hn) rfl rfl rfl ?_
    obtain ⟨σ2, hσ2⟩ : ∃ z, z = k_sI σ1 22 1 ((s : Int)) := ⟨_, rfl⟩
    rw [← hσ2]
    refine a_aload_n (pc := 43) (i := 0) (by decide +kernel) rfl ?_
    refine a_dup (pc := 44) (by decide +kernel) rfl ?_
    refine b_getI (pc := 45) fl_X0_21 (by decide +kernel) (sh_22 hn) rfl ?_
    rw [show σ2.2.1 22 2 = σ1.2.1 22 2 by rw [hσ2]; exact k_IN (by omega)]
    rw [show σ1.2.1 22 2 = σ.2.1 22 2 by rw [hσ1]; exact kp_cp_f (by omega)]
    refine a_iconst (pc := 48) (n := 1) (by decide +kernel) ?_
    refine a_isub (pc := 49) (by decide +kernel) ?_
    refine b_putI (pc := 50) fl_X0_21 (by decide +kernel) (sh_22 hn) rfl rfl rfl ?_
    obtain ⟨σ3, hσ3⟩ : ∃ z, z = k_sI σ2 22 2 ((σ.2.1 22 2) - 1) := ⟨_, rfl⟩
    rw [← hσ3]
    refine a_iconst (pc := 53) (n := 1) (by decide +kernel) ?_
    refine a_zreturn (pc := 54) (by decide +kernel) rfl (by omega) ?_
    refine k_ret ?_
    subst hσ3; subst hσ2; subst hσ1
    exact ⟨rfl, rfl, rfl⟩
