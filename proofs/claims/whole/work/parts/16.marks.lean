def f_map (F : Int → Int → Int) (g : Int → Int) (k : Int) : Int → Int := fun i => if 0 ≤ i ∧ i < k then F i (g i) else g i
theorem f_map_0 {F : Int → Int → Int} {g : Int → Int} : f_map F g 0 = g := by funext i; unfold f_map; rw [if_neg (by omega)]
theorem f_map_up {F : Int → Int → Int} {g : Int → Int} {k x : Int} (h : 0 ≤ k) (hx : x = F k (g k)) : j_up (f_map F g k) k x = f_map F g (k + 1) := by
  funext i; unfold j_up f_map
  by_cases h1 : i = k
  · rw [if_pos h1, if_pos (by omega), hx, h1]
  · rw [if_neg h1]
    by_cases h2 : 0 ≤ i ∧ i < k
    · rw [if_pos h2, if_pos (by omega)]
    · rw [if_neg h2, if_neg (by omega)]
theorem f_map_skip {F : Int → Int → Int} {g : Int → Int} {k : Int} (h : 0 ≤ k) (hx : F k (g k) = g k) : f_map F g k = f_map F g (k + 1) := by
  rw [← f_map_up h rfl, hx]
  funext i; unfold j_up
  by_cases h1 : i = k
  · rw [if_pos h1, h1]; unfold f_map; rw [if_neg (by omega)]
  · rw [if_neg h1]
theorem f_map_at {F : Int → Int → Int} {g : Int → Int} {k : Int} : f_map F g k k = g k := by unfold f_map; rw [if_neg (by omega)]
theorem f_map_in {F : Int → Int → Int} {g : Int → Int} {k i : Int} (h0 : 0 ≤ i) (h : i < k) : f_map F g k i = F i (g i) := by unfold f_map; rw [if_pos ⟨h0, h⟩]
/-- counts the yeses -/
def f_count (g : Int → Bool) : Nat → Int
  | 0 => 0
  | k + 1 => f_count g k + if g (k : Int) then 1 else 0
theorem f_count_in (g : Int → Bool) : ∀ k : Nat, 0 ≤ f_count g k ∧ f_count g k ≤ k
  | 0 => by simp [f_count]
  | k + 1 => by have := f_count_in g k; unfold f_count; split <;> omega
theorem f_count_s {g : Int → Bool} {i : Int} (h : 0 ≤ i) : f_count g (i + 1).toNat = f_count g i.toNat + if g i then 1 else 0 := by
  rw [show (i + 1).toNat = i.toNat + 1 by omega]
  show f_count g i.toNat + (if g ((i.toNat : Nat) : Int) then 1 else 0) = _
  rw [show ((i.toNat : Nat) : Int) = i by omega]
theorem f_count_y {g : Int → Bool} {i : Int} (h : 0 ≤ i) (hg : g i = true) : f_count g (i + 1).toNat = f_count g i.toNat + 1 := by rw [f_count_s h, hg]; rfl
theorem f_count_n {g : Int → Bool} {i : Int} (h : 0 ≤ i) (hg : g i = false) : f_count g (i + 1).toNat = f_count g i.toNat := by rw [f_count_s h, hg]; simp
theorem f_count_congr {g g' : Int → Bool} : ∀ {k : Nat}, (∀ i : Int, 0 ≤ i → i < k → g i = g' i) → f_count g k = f_count g' k
  | 0, _ => rfl
  | k + 1, h => by unfold f_count; rw [f_count_congr (fun i h0 h1 => h i h0 (by omega)), h k (by omega) (by omega)]
/-- the marks' cells hold what they may -/
def m_wf (σ : k_St) (a : Nat) : Prop := (0 ≤ σ.2.1 a 5 ∧ σ.2.1 a 5 ≤ 50) ∧ (∀ i : Int, σ.1 (a + 5) i = 0 ∨ σ.1 (a + 5) i = 1) ∧ ∀ m : Int, 0 ≤ m → m < σ.2.1 a 5 → (0 ≤ σ.1 (a + 1) m ∧ σ.1 (a + 1) m ≤ 7) ∧ (0 ≤ σ.1 (a + 2) m ∧ σ.1 (a + 2) m ≤ 300) ∧ (0 ≤ σ.1 (a + 3) m ∧ σ.1 (a + 3) m ≤ 29790) ∧ (0 ≤ σ.1 (a + 4) m ∧ σ.1 (a + 4) m ≤ 99)
def m_is (σ : k_St) (m : Int) : Prop := 0 ≤ m ∧ m < σ.2.1 16 5 ∧ σ.1 21 m = 0
def m_lead (σ : k_St) (m : Int) : Prop := m_is σ m ∧ 5 < σ.1 17 m
def m_head (σ : k_St) (m k : Int) : Int := if 0 ≤ m ∧ m < σ.2.1 16 5 ∧ σ.1 21 m = 0 then f_head (σ.1 19 m) k else -9
theorem m_head_in (σ : k_St) (m k : Int) : -9 ≤ m_head σ m k ∧ m_head σ m k ≤ 29 := by
  unfold m_head; split
  · exact f_head_in _ _
  · omega
theorem m_head_no {σ : k_St} {m k : Int} (h : ¬ m_is σ m) : m_head σ m k = -9 := if_neg h
theorem m_head_is {σ : k_St} {m k : Int} (h : m_is σ m) : m_head σ m k = f_head (σ.1 19 m) k := if_pos h
def m_epath (σ : k_St) (m : Int) : Int := if 0 ≤ m ∧ m < σ.2.1 16 5 ∧ σ.1 21 m = 0 then (if 5 < σ.1 17 m then f_path (f_head (σ.1 19 m) 0) (-9) (-9) else σ.1 19 m) else 0
theorem m_epath_1 {σ : k_St} {m : Int} (h : m_lead σ m) : m_epath σ m = f_path (f_head (σ.1 19 m) 0) (-9) (-9) := (if_pos h.1).trans (if_pos h.2)
theorem m_epath_2 {σ : k_St} {m : Int} (h : m_is σ m) (h2 : ¬ m_lead σ m) : m_epath σ m = σ.1 19 m := (if_pos h).trans (if_neg (fun h9 => h2 ⟨h, h9⟩))
theorem m_epath_3 {σ : k_St} {m : Int} (h : ¬ m_is σ m) : m_epath σ m = 0 := if_neg h
def f_re (h t x : Int) : Int := if x = h then t else x
def f_repl (h t p : Int) : Int := f_lon (f_lon (f_lon 0 (f_re h t (f_head p 0))) (f_re h t (f_head p 1))) (f_re h t (f_head p 2))
set_option maxHeartbeats 4000000 in
theorem s_mhas {G : j_G} {X : k_X} {n : Nat} {σ : k_St} (hn : 101 ≤ n) (hw : m_wf σ 16) {m : Int} (hm : -2147483648 ≤ m ∧ m ≤ 2147483647) : k_run G X mX7_has [.ref 16, j_i m] n σ 0 0 (k_b n σ (m_is σ m)) := by
  obtain ⟨he, hg, hm9⟩ := id hw
  have hg : ∀ i : Int, σ.1 21 i = 0 ∨ σ.1 21 i = 1 := hg
  have hv : ∀ m : Int, 0 ≤ m → m < σ.2.1 16 5 → (0 ≤ σ.1 17 m ∧ σ.1 17 m ≤ 7) ∧ (0 ≤ σ.1 18 m ∧ σ.1 18 m ≤ 300) ∧ (0 ≤ σ.1 19 m ∧ σ.1 19 m ≤ 29790) ∧ (0 ≤ σ.1 20 m ∧ σ.1 20 m ≤ 99) := hm9
  clear hm9
  refine k_enter (by decide +kernel) (Nat.le_of_ble_eq_true rfl) ?_
  show j_at _ _ _ [(0, .ref 16), (1, j_i m)] [] _ _ _ _
  refine a_iload_n (pc := 0) (i := 1) (by decide +kernel) rfl ?_
  refine a_if_lt (pc := 1) (off := 24) (tgt := 25) (by decide +kernel) (by decide) (by omega) (fun c1 => ?_) (fun c1 => ?_)
  · refine a_iconst (pc := 25) (n := 0) (by decide +kernel) ?_
    refine a_zreturn (pc := 26) (by decide +kernel) rfl (by omega) ?_
    refine k_ret ?_
    exact k_bn (by unfold m_is; omega)
  · refine a_iload_n (pc := 4) (i := 1) (by decide +kernel) rfl ?_
    refine a_aload_n (pc := 5) (i := 0) (by decide +kernel) rfl ?_
    refine b_getI (pc := 6) fl_X7_28 (by decide +kernel) (sh_16 hn) rfl ?_
    refine a_icmp_ge (pc := 9) (off := 16) (tgt := 25) (by decide +kernel) (by decide) (by omega) (by omega) (fun c9 => ?_) (fun c9 => ?_)
    · refine a_iconst (pc := 25) (n := 0) (by decide +kernel) ?_
      refine a_zreturn (pc := 26) (by decide +kernel) rfl (by omega) ?_
      refine k_ret ?_
      exact k_bn (by unfold m_is; omega)
    · refine a_aload_n (pc := 12) (i := 0) (by decide +kernel) rfl ?_
      refine b_getR (pc := 13) (b := 21) fl_X7_24 (by decide +kernel) (sh_16 hn) rfl ?_
      refine a_iload_n (pc := 16) (i := 1) (by decide +kernel) rfl ?_
      refine b_zaload (pc := 17) (by decide +kernel) (sh_21 hn) (by omega) (by omega) (by omega) ?_
      have hg9 := hg m
      refine a_if_ne (pc := 18) (off := 7) (tgt := 25) (by decide +kernel) (by decide) (by omega) (fun c18 => ?_) (fun c18 => ?_)
      · refine a_iconst (pc := 25) (n := 0) (by decide +kernel) ?_
        refine a_zreturn (pc := 26) (by decide +kernel) rfl (by omega) ?_
        refine k_ret ?_
        exact k_bn (by unfold m_is; omega)
      · refine a_iconst (pc := 21) (n := 1) (by decide +kernel) ?_
        refine a_goto (pc := 22) (off := 4) (tgt := 26) (by decide +kernel) (by decide) ?_
        refine a_zreturn (pc := 26) (by decide +kernel) rfl (by omega) ?_
        refine k_ret ?_
        exact k_by (by unfold m_is; omega)
set_option maxHeartbeats 4000000 in
theorem l_mcount {G : j_G} {X : k_X} {n : Nat} {σ : k_St} (hn : 101 ≤ n) (hw : m_wf σ 16)  : ∀ (m : Nat) (i : Int), 50 - i < (m : Int) → 0 ≤ i → i ≤ σ.2.1 16 5 → j_at G mX7_countThere 4 [(0, .ref 16), (1, j_i (f_zeros (σ.1 21) i.toNat)), (2, j_i i)] [] (k_h X n σ) 0 0 (k_Q X (k_is n σ (some (j_i (f_zeros (σ.1 21) (σ.2.1 16 5).toNat))))) := by
  intro m
  induction m with
  | zero => intro i h1 h2 h3; exact absurd h3 (by have := hw.1; omega)
  | succ m ih =>
    intro i hm h0 hN
    obtain ⟨he, hg, hm9⟩ := id hw
    have hg : ∀ i : Int, σ.1 21 i = 0 ∨ σ.1 21 i = 1 := hg
    have hv : ∀ m : Int, 0 ≤ m → m < σ.2.1 16 5 → (0 ≤ σ.1 17 m ∧ σ.1 17 m ≤ 7) ∧ (0 ≤ σ.1 18 m ∧ σ.1 18 m ≤ 300) ∧ (0 ≤ σ.1 19 m ∧ σ.1 19 m ≤ 29790) ∧ (0 ≤ σ.1 20 m ∧ σ.1 20 m ≤ 99) := hm9
    clear hm9
    refine a_iload_n (pc := 4) (i := 2) (by decide +kernel) rfl ?_
    refine a_aload_n (pc := 5) (i := 0) (by decide +kernel) rfl ?_
    refine b_getI (pc := 6) fl_X7_28 (by decide +kernel) (sh_16 hn) rfl ?_
    refine a_icmp_ge (pc := 9) (off := 21) (tgt := 30) (by decide +kernel) (by decide) (by omega) (by omega) (fun c9 => ?_) (fun c9 => ?_)
    · refine a_iload_n (pc := 30) (i := 1) (by decide +kernel) rfl ?_
      refine a_ireturn (pc := 31) (by decide +kernel) rfl ?_
      refine k_ret ?_
      rw [show i = σ.2.1 16 5 by omega]; exact ⟨rfl, rfl, rfl⟩
    · refine a_aload_n (pc := 12) (i := 0) (by decide +kernel) rfl ?_
      refine b_getR (pc := 13) (b := 21) fl_X7_24 (by decide +kernel) (sh_16 hn) rfl ?_
      refine a_iload_n (pc := 16) (i := 2) (by decide +kernel) rfl ?_
      refine b_zaload (pc := 17) (by decide +kernel) (sh_21 hn) (by omega) (by omega) (by omega) ?_
      have hg9 := hg i
      refine a_if_ne (pc := 18) (off := 6) (tgt := 24) (by decide +kernel) (by decide) (by omega) (fun c18 => ?_) (fun c18 => ?_)
      · refine a_iinc (pc := 24) (i := 2) (n := 1) (x := i) (lv' := [(0, .ref 16), (1, j_i (f_zeros (σ.1 21) i.toNat)), (2, j_i (i + 1))]) (by decide +kernel) rfl (Nat.le_of_ble_eq_true rfl) rfl ?_
        refine a_goto (pc := 27) (off := -23) (tgt := 4) (by decide +kernel) (by decide) ?_
        have e9 := f_zeros_s (g := σ.1 21) h0
        have e8 := ih (i + 1) (by omega) (by omega) (by omega)
        rw [e9] at e8
        first | (rw [if_pos c18] at e8; exact e8) | (rw [if_neg c18, Int.add_zero] at e8; exact e8)
      · refine a_iinc (pc := 21) (i := 1) (n := 1) (x := f_zeros (σ.1 21) i.toNat) (lv' := [(0, .ref 16), (1, j_i ((f_zeros (σ.1 21) i.toNat) + 1)), (2, j_i i)]) (by decide +kernel) rfl (Nat.le_of_ble_eq_true rfl) rfl ?_
        refine a_iinc (pc := 24) (i := 2) (n := 1) (x := i) (lv' := [(0, .ref 16), (1, j_i ((f_zeros (σ.1 21) i.toNat) + 1)), (2, j_i (i + 1))]) (by decide +kernel) rfl (Nat.le_of_ble_eq_true rfl) rfl ?_
        refine a_goto (pc := 27) (off := -23) (tgt := 4) (by decide +kernel) (by decide) ?_
        have e9 := f_zeros_s (g := σ.1 21) h0
        have e8 := ih (i + 1) (by omega) (by omega) (by omega)
        rw [e9] at e8
        first | (rw [if_pos c18] at e8; exact e8) | (rw [if_neg c18, Int.add_zero] at e8; exact e8)
set_option maxHeartbeats 4000000 in
theorem s_mcount {G : j_G} {X : k_X} {n : Nat} {σ : k_St} (hn : 101 ≤ n) (hw : m_wf σ 16)  : k_run G X mX7_countThere [.ref 16] n σ 0 0 (k_is n σ (some (j_i (f_zeros (σ.1 21) (σ.2.1 16 5).toNat)))) := by
  obtain ⟨he, hg, hm9⟩ := id hw
  have hg : ∀ i : Int, σ.1 21 i = 0 ∨ σ.1 21 i = 1 := hg
  have hv : ∀ m : Int, 0 ≤ m → m < σ.2.1 16 5 → (0 ≤ σ.1 17 m ∧ σ.1 17 m ≤ 7) ∧ (0 ≤ σ.1 18 m ∧ σ.1 18 m ≤ 300) ∧ (0 ≤ σ.1 19 m ∧ σ.1 19 m ≤ 29790) ∧ (0 ≤ σ.1 20 m ∧ σ.1 20 m ≤ 99) := hm9
  clear hm9
  refine k_enter (by decide +kernel) (Nat.le_of_ble_eq_true rfl) ?_
  show j_at _ _ _ [(0, .ref 16)] [] _ _ _ _
  refine a_iconst (pc := 0) (n := 0) (by decide +kernel) ?_
  refine a_istore_n (pc := 1) (i := 1) (lv' := [(0, .ref 16), (1, j_i 0)]) (by decide +kernel) (Nat.le_of_ble_eq_true rfl) rfl ?_
  refine a_iconst (pc := 2) (n := 0) (by decide +kernel) ?_
  refine a_istore_n (pc := 3) (i := 2) (lv' := [(0, .ref 16), (1, j_i 0), (2, j_i 0)]) (by decide +kernel) (Nat.le_of_ble_eq_true rfl) rfl ?_
  exact l_mcount hn hw 51 0 (by omega) (by omega) he.1
set_option maxHeartbeats 4000000 in
theorem s_mheadAt {G : j_G} {X : k_X} {n : Nat} {σ : k_St} (hn : 101 ≤ n) (hw : m_wf σ 16) {m k : Int} (hm : -2147483648 ≤ m ∧ m ≤ 2147483647) (hk : -2147483648 ≤ k ∧ k ≤ 2147483647) : k_run G X mX7_headAt [.ref 16, j_i m, j_i k] n σ 0 0 (k_is n σ (some (j_i (m_head σ m k)))) := by
  obtain ⟨he, hg, hm9⟩ := id hw
  have hg : ∀ i : Int, σ.1 21 i = 0 ∨ σ.1 21 i = 1 := hg
  have hv : ∀ m : Int, 0 ≤ m → m < σ.2.1 16 5 → (0 ≤ σ.1 17 m ∧ σ.1 17 m ≤ 7) ∧ (0 ≤ σ.1 18 m ∧ σ.1 18 m ≤ 300) ∧ (0 ≤ σ.1 19 m ∧ σ.1 19 m ≤ 29790) ∧ (0 ≤ σ.1 20 m ∧ σ.1 20 m ≤ 99) := hm9
  clear hm9
  refine k_enter (by decide +kernel) (Nat.le_of_ble_eq_true rfl) ?_
  show j_at _ _ _ [(0, .ref 16), (1, j_i m), (2, j_i k)] [] _ _ _ _
  refine a_aload_n (pc := 0) (i := 0) (by decide +kernel) rfl ?_
  refine a_iload_n (pc := 1) (i := 1) (by decide +kernel) rfl ?_
  refine b_callV (pc := 2) (c' := 0) (sl' := 0) [j_i m] [] ml_X7_36 (by decide +kernel) rfl rfl (sh_16 hn) rfl rfl (Nat.le_of_ble_eq_true rfl) (j_fitI rfl rfl) (s_mhas hn hw (by omega)) (fun v n' σ' hq => ?_)
  obtain ⟨x, rfl, e1, e2, hx⟩ := hq
  rw [e1, e2]; clear e1 e2
  rcases hx with ⟨rfl, p2⟩ | ⟨rfl, p2⟩
  · show j_at _ _ _ [(0, .ref 16), (1, j_i m), (2, j_i k)] [j_i 1] _ _ _ _
    refine a_if_eq (pc := 5) (off := 16) (tgt := 21) (by decide +kernel) (by decide) (by omega) (fun c5 => ?_) (fun c5 => ?_)
    · exact absurd c5 (by decide)
    · obtain ⟨i0, i1, i2⟩ := id p2
      have hvm := hv m i0 i1
      refine a_aload_n (pc := 8) (i := 0) (by decide +kernel) rfl ?_
      refine b_getR (pc := 9) (b := 19) fl_X7_18 (by decide +kernel) (sh_16 hn) rfl ?_
      refine a_iload_n (pc := 12) (i := 1) (by decide +kernel) rfl ?_
      refine b_iaload (pc := 13) (by decide +kernel) (sh_19 hn) (by omega) (by omega) (by omega) ?_
      refine a_iload_n (pc := 14) (i := 2) (by decide +kernel) rfl ?_
      refine b_pureS (pc := 15) [j_i (σ.1 19 m), j_i k] [] ml_X7_40 (by decide +kernel) rfl rfl (Nat.le_of_ble_eq_true rfl) (j_fitI rfl rfl) (s_headOf (by omega) (by omega)) ?_
      have qh1 := f_head_in (σ.1 19 m) k
      show j_at _ _ _ [(0, .ref 16), (1, j_i m), (2, j_i k)] [j_i (f_head (σ.1 19 m) k)] _ _ _ _
      refine a_goto (pc := 18) (off := 5) (tgt := 23) (by decide +kernel) (by decide) ?_
      refine a_ireturn (pc := 23) (by decide +kernel) rfl ?_
      refine k_ret ?_
      refine ⟨?_, rfl, rfl⟩
      first | rw [m_head_is p2] | rw [m_head_no p2]
  · show j_at _ _ _ [(0, .ref 16), (1, j_i m), (2, j_i k)] [j_i 0] _ _ _ _
    refine a_if_eq (pc := 5) (off := 16) (tgt := 21) (by decide +kernel) (by decide) (by omega) (fun c5 => ?_) (fun c5 => ?_)
    · refine a_bipush (pc := 21) (n := (-9)) (by decide +kernel) rfl ?_
      refine a_ireturn (pc := 23) (by decide +kernel) rfl ?_
      refine k_ret ?_
      refine ⟨?_, rfl, rfl⟩
      first | rw [m_head_is p2] | rw [m_head_no p2]
    · exact absurd c5 (by decide)
set_option maxHeartbeats 4000000 in
theorem s_isLead {G : j_G} {X : k_X} {n : Nat} {σ : k_St} (hn : 101 ≤ n) (hw : m_wf σ 16) {m : Int} (hm : -2147483648 ≤ m ∧ m ≤ 2147483647) : k_run G X mX7_isLead [.ref 16, j_i m] n σ 0 0 (k_b n σ (m_lead σ m)) := by
  obtain ⟨he, hg, hm9⟩ := id hw
  have hg : ∀ i : Int, σ.1 21 i = 0 ∨ σ.1 21 i = 1 := hg
  have hv : ∀ m : Int, 0 ≤ m → m < σ.2.1 16 5 → (0 ≤ σ.1 17 m ∧ σ.1 17 m ≤ 7) ∧ (0 ≤ σ.1 18 m ∧ σ.1 18 m ≤ 300) ∧ (0 ≤ σ.1 19 m ∧ σ.1 19 m ≤ 29790) ∧ (0 ≤ σ.1 20 m ∧ σ.1 20 m ≤ 99) := hm9
  clear hm9
  refine k_enter (by decide +kernel) (Nat.le_of_ble_eq_true rfl) ?_
  show j_at _ _ _ [(0, .ref 16), (1, j_i m)] [] _ _ _ _
  refine a_aload_n (pc := 0) (i := 0) (by decide +kernel) rfl ?_
  refine a_iload_n (pc := 1) (i := 1) (by decide +kernel) rfl ?_
  refine b_callV (pc := 2) (c' := 0) (sl' := 0) [j_i m] [] ml_X7_36 (by decide +kernel) rfl rfl (sh_16 hn) rfl rfl (Nat.le_of_ble_eq_true rfl) (j_fitI rfl rfl) (s_mhas hn hw (by omega)) (fun v n' σ' hq => ?_)
  obtain ⟨x, rfl, e1, e2, hx⟩ := hq
  rw [e1, e2]; clear e1 e2
  rcases hx with ⟨rfl, p2⟩ | ⟨rfl, p2⟩
  · show j_at _ _ _ [(0, .ref 16), (1, j_i m)] [j_i 1] _ _ _ _
    refine a_if_eq (pc := 5) (off := 17) (tgt := 22) (by decide +kernel) (by decide) (by omega) (fun c5 => ?_) (fun c5 => ?_)
    · exact absurd c5 (by decide)
    · obtain ⟨i0, i1, i2⟩ := id p2
      have hvm := hv m i0 i1
      refine a_aload_n (pc := 8) (i := 0) (by decide +kernel) rfl ?_
      refine b_getR (pc := 9) (b := 17) fl_X7_9 (by decide +kernel) (sh_16 hn) rfl ?_
      refine a_iload_n (pc := 12) (i := 1) (by decide +kernel) rfl ?_
      refine b_iaload (pc := 13) (by decide +kernel) (sh_17 hn) (by omega) (by omega) (by omega) ?_
      refine a_iconst (pc := 14) (n := 5) (by decide +kernel) ?_
      refine a_icmp_le (pc := 15) (off := 7) (tgt := 22) (by decide +kernel) (by decide) (by omega) (by omega) (fun c15 => ?_) (fun c15 => ?_)
      · refine a_iconst (pc := 22) (n := 0) (by decide +kernel) ?_
        refine a_zreturn (pc := 23) (by decide +kernel) rfl (by omega) ?_
        refine k_ret ?_
        refine k_bn (fun h9 => ?_)
        first | exact p2 h9.1 | exact absurd h9.2 (by omega)
      · refine a_iconst (pc := 18) (n := 1) (by decide +kernel) ?_
        refine a_goto (pc := 19) (off := 4) (tgt := 23) (by decide +kernel) (by decide) ?_
        refine a_zreturn (pc := 23) (by decide +kernel) rfl (by omega) ?_
        refine k_ret ?_
        exact k_by ⟨p2, by omega⟩
  · show j_at _ _ _ [(0, .ref 16), (1, j_i m)] [j_i 0] _ _ _ _
    refine a_if_eq (pc := 5) (off := 17) (tgt := 22) (by decide +kernel) (by decide) (by omega) (fun c5 => ?_) (fun c5 => ?_)
    · refine a_iconst (pc := 22) (n := 0) (by decide +kernel) ?_
      refine a_zreturn (pc := 23) (by decide +kernel) rfl (by omega) ?_
      refine k_ret ?_
      refine k_bn (fun h9 => ?_)
      first | exact p2 h9.1 | exact absurd h9.2 (by omega)
    · exact absurd c5 (by decide)
set_option maxHeartbeats 4000000 in
theorem s_entryPath {G : j_G} {X : k_X} {n : Nat} {σ : k_St} (hn : 101 ≤ n) (hw : m_wf σ 16) {m : Int} (hm : -2147483648 ≤ m ∧ m ≤ 2147483647) : k_run G X mX7_entryPath [.ref 16, j_i m] n σ 0 0 (k_is n σ (some (j_i (m_epath σ m)))) := by
  obtain ⟨he, hg, hm9⟩ := id hw
  have hg : ∀ i : Int, σ.1 21 i = 0 ∨ σ.1 21 i = 1 := hg
  have hv : ∀ m : Int, 0 ≤ m → m < σ.2.1 16 5 → (0 ≤ σ.1 17 m ∧ σ.1 17 m ≤ 7) ∧ (0 ≤ σ.1 18 m ∧ σ.1 18 m ≤ 300) ∧ (0 ≤ σ.1 19 m ∧ σ.1 19 m ≤ 29790) ∧ (0 ≤ σ.1 20 m ∧ σ.1 20 m ≤ 99) := hm9
  clear hm9
  refine k_enter (by decide +kernel) (Nat.le_of_ble_eq_true rfl) ?_
  show j_at _ _ _ [(0, .ref 16), (1, j_i m)] [] _ _ _ _
  refine a_aload_n (pc := 0) (i := 0) (by decide +kernel) rfl ?_
  refine a_iload_n (pc := 1) (i := 1) (by decide +kernel) rfl ?_
  refine b_callV (pc := 2) (c' := 0) (sl' := 0) [j_i m] [] ml_X7_44 (by decide +kernel) rfl rfl (sh_16 hn) rfl rfl (Nat.le_of_ble_eq_true rfl) (j_fitI rfl rfl) (s_isLead hn hw (by omega)) (fun v n' σ' hq => ?_)
  obtain ⟨x, rfl, e1, e2, hx⟩ := hq
  rw [e1, e2]; clear e1 e2
  rcases hx with ⟨rfl, p2⟩ | ⟨rfl, p2⟩
  · show j_at _ _ _ [(0, .ref 16), (1, j_i m)] [j_i 1] _ _ _ _
    refine a_if_eq (pc := 5) (off := 19) (tgt := 24) (by decide +kernel) (by decide) (by omega) (fun c5 => ?_) (fun c5 => ?_)
    · exact absurd c5 (by decide)
    · refine a_aload_n (pc := 8) (i := 0) (by decide +kernel) rfl ?_
      refine a_iload_n (pc := 9) (i := 1) (by decide +kernel) rfl ?_
      refine a_iconst (pc := 10) (n := 0) (by decide +kernel) ?_
      refine b_pureV (pc := 11) [j_i m, j_i 0] [] ml_X7_47 (by decide +kernel) rfl rfl (sh_16 hn) rfl rfl (Nat.le_of_ble_eq_true rfl) (j_fitI rfl rfl) (s_mheadAt hn hw (by omega) (by omega)) ?_
      have qm1 := m_head_in σ m 0
      show j_at _ _ _ [(0, .ref 16), (1, j_i m)] [j_i (m_head σ m 0)] _ _ _ _
      refine a_bipush (pc := 14) (n := (-9)) (by decide +kernel) rfl ?_
      refine a_bipush (pc := 16) (n := (-9)) (by decide +kernel) rfl ?_
      refine b_pureS (pc := 18) [j_i (m_head σ m 0), j_i (-9), j_i (-9)] [] ml_X7_32 (by decide +kernel) rfl rfl (Nat.le_of_ble_eq_true rfl) (j_fitI rfl rfl) (s_pathOf (by omega) (by omega) (by omega)) ?_
      show j_at _ _ _ [(0, .ref 16), (1, j_i m)] [j_i (f_path (m_head σ m 0) (-9) (-9))] _ _ _ _
      refine a_goto (pc := 21) (off := 21) (tgt := 42) (by decide +kernel) (by decide) ?_
      refine a_ireturn (pc := 42) (by decide +kernel) rfl ?_
      refine k_ret ?_
      refine ⟨?_, rfl, rfl⟩
      first | rw [m_head_is p2.1, m_epath_1 p2] | rw [m_epath_2 p26 p2] | rw [m_epath_3 p26]
  · show j_at _ _ _ [(0, .ref 16), (1, j_i m)] [j_i 0] _ _ _ _
    refine a_if_eq (pc := 5) (off := 19) (tgt := 24) (by decide +kernel) (by decide) (by omega) (fun c5 => ?_) (fun c5 => ?_)
    · refine a_aload_n (pc := 24) (i := 0) (by decide +kernel) rfl ?_
      refine a_iload_n (pc := 25) (i := 1) (by decide +kernel) rfl ?_
      refine b_callV (pc := 26) (c' := 0) (sl' := 0) [j_i m] [] ml_X7_36 (by decide +kernel) rfl rfl (sh_16 hn) rfl rfl (Nat.le_of_ble_eq_true rfl) (j_fitI rfl rfl) (s_mhas hn hw (by omega)) (fun v n' σ' hq => ?_)
      obtain ⟨x, rfl, e1, e2, hx⟩ := hq
      rw [e1, e2]; clear e1 e2
      rcases hx with ⟨rfl, p26⟩ | ⟨rfl, p26⟩
      · show j_at _ _ _ [(0, .ref 16), (1, j_i m)] [j_i 1] _ _ _ _
        refine a_if_eq (pc := 29) (off := 12) (tgt := 41) (by decide +kernel) (by decide) (by omega) (fun c29 => ?_) (fun c29 => ?_)
        · exact absurd c29 (by decide)
        · obtain ⟨i0, i1, i2⟩ := id p26
          refine a_aload_n (pc := 32) (i := 0) (by decide +kernel) rfl ?_
          refine b_getR (pc := 33) (b := 19) fl_X7_18 (by decide +kernel) (sh_16 hn) rfl ?_
          refine a_iload_n (pc := 36) (i := 1) (by decide +kernel) rfl ?_
          refine b_iaload (pc := 37) (by decide +kernel) (sh_19 hn) (by omega) (by omega) (by omega) ?_
          refine a_goto (pc := 38) (off := 4) (tgt := 42) (by decide +kernel) (by decide) ?_
          refine a_ireturn (pc := 42) (by decide +kernel) rfl ?_
          refine k_ret ?_
          refine ⟨?_, rfl, rfl⟩
          first | rw [m_head_is p2.1, m_epath_1 p2] | rw [m_epath_2 p26 p2] | rw [m_epath_3 p26]
      · show j_at _ _ _ [(0, .ref 16), (1, j_i m)] [j_i 0] _ _ _ _
        refine a_if_eq (pc := 29) (off := 12) (tgt := 41) (by decide +kernel) (by decide) (by omega) (fun c29 => ?_) (fun c29 => ?_)
        · refine a_iconst (pc := 41) (n := 0) (by decide +kernel) ?_
          refine a_ireturn (pc := 42) (by decide +kernel) rfl ?_
          refine k_ret ?_
          refine ⟨?_, rfl, rfl⟩
          first | rw [m_head_is p2.1, m_epath_1 p2] | rw [m_epath_2 p26 p2] | rw [m_epath_3 p26]
        · exact absurd c29 (by decide)
    · exact absurd c5 (by decide)
set_option maxHeartbeats 4000000 in
theorem l_leadBetween {G : j_G} {X : k_X} {n : Nat} {σ : k_St} (hn : 101 ≤ n) (hw : m_wf σ 16) {a b : Int} (ha : -2147483648 ≤ a ∧ a ≤ 2147483647) (hb : -2147483648 ≤ b ∧ b ≤ 2147483647) : ∀ (m : Nat) (i : Int), 50 - i < (m : Int) → 0 ≤ i → i ≤ σ.2.1 16 5 → (∀ j, 0 ≤ j → j < i → ¬ (m_lead σ j ∧ (m_head σ j 0 = a ∧ m_head σ j 1 = b ∨ m_head σ j 0 = b ∧ m_head σ j 1 = a))) → j_at G mX7_leadBetween 2 [(0, .ref 16), (1, j_i a), (2, j_i b), (3, j_i i)] [] (k_h X n σ) 0 0 (k_Q X (k_b n σ (∃ m, (m_lead σ m ∧ (m_head σ m 0 = a ∧ m_head σ m 1 = b ∨ m_head σ m 0 = b ∧ m_head σ m 1 = a))))) := by
  intro m
  induction m with
  | zero => intro i h1 h2 h3; exact absurd h3 (by have := hw.1; omega)
  | succ m ih =>
    intro i hm h0 hN hI
    obtain ⟨he, hg, hm9⟩ := id hw
    have hg : ∀ i : Int, σ.1 21 i = 0 ∨ σ.1 21 i = 1 := hg
    have hv : ∀ m : Int, 0 ≤ m → m < σ.2.1 16 5 → (0 ≤ σ.1 17 m ∧ σ.1 17 m ≤ 7) ∧ (0 ≤ σ.1 18 m ∧ σ.1 18 m ≤ 300) ∧ (0 ≤ σ.1 19 m ∧ σ.1 19 m ≤ 29790) ∧ (0 ≤ σ.1 20 m ∧ σ.1 20 m ≤ 99) := hm9
    clear hm9
    refine a_iload_n (pc := 2) (i := 3) (by decide +kernel) rfl ?_
    refine a_aload_n (pc := 3) (i := 0) (by decide +kernel) rfl ?_
    refine b_getI (pc := 4) fl_X7_28 (by decide +kernel) (sh_16 hn) rfl ?_
    refine a_icmp_ge (pc := 7) (off := 59) (tgt := 66) (by decide +kernel) (by decide) (by omega) (by omega) (fun c7 => ?_) (fun c7 => ?_)
    · refine a_iconst (pc := 66) (n := 0) (by decide +kernel) ?_
      refine a_zreturn (pc := 67) (by decide +kernel) rfl (by omega) ?_
      refine k_ret ?_
      exact k_bn (fun ⟨m, h9⟩ => hI m h9.1.1.1 (by have := h9.1.1.2.1; omega) h9)
    · refine a_aload_n (pc := 10) (i := 0) (by decide +kernel) rfl ?_
      refine a_iload_n (pc := 11) (i := 3) (by decide +kernel) rfl ?_
      refine a_iconst (pc := 12) (n := 0) (by decide +kernel) ?_
      refine b_pureV (pc := 13) [j_i i, j_i 0] [] ml_X7_47 (by decide +kernel) rfl rfl (sh_16 hn) rfl rfl (Nat.le_of_ble_eq_true rfl) (j_fitI rfl rfl) (s_mheadAt hn hw (by omega) (by omega)) ?_
      have qm1 := m_head_in σ i 0
      show j_at _ _ _ [(0, .ref 16), (1, j_i a), (2, j_i b), (3, j_i i)] [j_i (m_head σ i 0)] _ _ _ _
      refine a_istore (pc := 16) (i := 4) (lv' := [(0, .ref 16), (1, j_i a), (2, j_i b), (3, j_i i), (4, j_i (m_head σ i 0))]) (by decide +kernel) (Nat.le_of_ble_eq_true rfl) rfl ?_
      refine a_aload_n (pc := 18) (i := 0) (by decide +kernel) rfl ?_
      refine a_iload_n (pc := 19) (i := 3) (by decide +kernel) rfl ?_
      refine a_iconst (pc := 20) (n := 1) (by decide +kernel) ?_
      refine b_pureV (pc := 21) [j_i i, j_i 1] [] ml_X7_47 (by decide +kernel) rfl rfl (sh_16 hn) rfl rfl (Nat.le_of_ble_eq_true rfl) (j_fitI rfl rfl) (s_mheadAt hn hw (by omega) (by omega)) ?_
      have qm2 := m_head_in σ i 1
      show j_at _ _ _ [(0, .ref 16), (1, j_i a), (2, j_i b), (3, j_i i), (4, j_i (m_head σ i 0))] [j_i (m_head σ i 1)] _ _ _ _
      refine a_istore (pc := 24) (i := 5) (lv' := [(0, .ref 16), (1, j_i a), (2, j_i b), (3, j_i i), (4, j_i (m_head σ i 0)), (5, j_i (m_head σ i 1))]) (by decide +kernel) (Nat.le_of_ble_eq_true rfl) rfl ?_
      refine a_aload_n (pc := 26) (i := 0) (by decide +kernel) rfl ?_
      refine a_iload_n (pc := 27) (i := 3) (by decide +kernel) rfl ?_
      refine b_callV (pc := 28) (c' := 0) (sl' := 0) [j_i i] [] ml_X7_44 (by decide +kernel) rfl rfl (sh_16 hn) rfl rfl (Nat.le_of_ble_eq_true rfl) (j_fitI rfl rfl) (s_isLead hn hw (by omega)) (fun v n' σ' hq => ?_)
      obtain ⟨x, rfl, e1, e2, hx⟩ := hq
      rw [e1, e2]; clear e1 e2
      rcases hx with ⟨rfl, p28⟩ | ⟨rfl, p28⟩
      · show j_at _ _ _ [(0, .ref 16), (1, j_i a), (2, j_i b), (3, j_i i), (4, j_i (m_head σ i 0)), (5, j_i (m_head σ i 1))] [j_i 1] _ _ _ _
        refine a_if_eq (pc := 31) (off := 29) (tgt := 60) (by decide +kernel) (by decide) (by omega) (fun c31 => ?_) (fun c31 => ?_)
        · exact absurd c31 (by decide)
        · refine a_iload (pc := 34) (i := 4) (by decide +kernel) rfl ?_
          refine a_iload_n (pc := 36) (i := 1) (by decide +kernel) rfl ?_
          refine a_icmp_ne (pc := 37) (off := 9) (tgt := 46) (by decide +kernel) (by decide) (by omega) (by omega) (fun c37 => ?_) (fun c37 => ?_)
          · refine a_iload (pc := 46) (i := 4) (by decide +kernel) rfl ?_
            refine a_iload_n (pc := 48) (i := 2) (by decide +kernel) rfl ?_
            refine a_icmp_ne (pc := 49) (off := 11) (tgt := 60) (by decide +kernel) (by decide) (by omega) (by omega) (fun c49 => ?_) (fun c49 => ?_)
            · refine a_iinc (pc := 60) (i := 3) (n := 1) (x := i) (lv' := [(0, .ref 16), (1, j_i a), (2, j_i b), (3, j_i (i + 1)), (4, j_i (m_head σ i 0)), (5, j_i (m_head σ i 1))]) (by decide +kernel) rfl (Nat.le_of_ble_eq_true rfl) rfl ?_
              refine a_goto (pc := 63) (off := -61) (tgt := 2) (by decide +kernel) (by decide) ?_
              exact a_sub (fun q hq => by simp only [List.mem_cons, List.not_mem_nil, or_false] at hq ⊢; rcases hq with rfl | rfl | rfl | rfl <;> simp) (ih (i + 1) (by omega) (by omega) (by omega) (lt_succ_cases hI (fun h9 => by first | exact p28 h9.1 | (have := h9.2; omega))))
            · refine a_iload (pc := 52) (i := 5) (by decide +kernel) rfl ?_
              refine a_iload_n (pc := 54) (i := 1) (by decide +kernel) rfl ?_
              refine a_icmp_ne (pc := 55) (off := 5) (tgt := 60) (by decide +kernel) (by decide) (by omega) (by omega) (fun c55 => ?_) (fun c55 => ?_)
              · refine a_iinc (pc := 60) (i := 3) (n := 1) (x := i) (lv' := [(0, .ref 16), (1, j_i a), (2, j_i b), (3, j_i (i + 1)), (4, j_i (m_head σ i 0)), (5, j_i (m_head σ i 1))]) (by decide +kernel) rfl (Nat.le_of_ble_eq_true rfl) rfl ?_
                refine a_goto (pc := 63) (off := -61) (tgt := 2) (by decide +kernel) (by decide) ?_
                exact a_sub (fun q hq => by simp only [List.mem_cons, List.not_mem_nil, or_false] at hq ⊢; rcases hq with rfl | rfl | rfl | rfl <;> simp) (ih (i + 1) (by omega) (by omega) (by omega) (lt_succ_cases hI (fun h9 => by first | exact p28 h9.1 | (have := h9.2; omega))))
              · refine a_iconst (pc := 58) (n := 1) (by decide +kernel) ?_
                refine a_zreturn (pc := 59) (by decide +kernel) rfl (by omega) ?_
                refine k_ret ?_
                exact k_by ⟨i, p28, by omega⟩
          · refine a_iload (pc := 40) (i := 5) (by decide +kernel) rfl ?_
            refine a_iload_n (pc := 42) (i := 2) (by decide +kernel) rfl ?_
            refine a_icmp_eq (pc := 43) (off := 15) (tgt := 58) (by decide +kernel) (by decide) (by omega) (by omega) (fun c43 => ?_) (fun c43 => ?_)
            · refine a_iconst (pc := 58) (n := 1) (by decide +kernel) ?_
              refine a_zreturn (pc := 59) (by decide +kernel) rfl (by omega) ?_
              refine k_ret ?_
              exact k_by ⟨i, p28, by omega⟩
            · refine a_iload (pc := 46) (i := 4) (by decide +kernel) rfl ?_
              refine a_iload_n (pc := 48) (i := 2) (by decide +kernel) rfl ?_
              refine a_icmp_ne (pc := 49) (off := 11) (tgt := 60) (by decide +kernel) (by decide) (by omega) (by omega) (fun c49 => ?_) (fun c49 => ?_)
              · refine a_iinc (pc := 60) (i := 3) (n := 1) (x := i) (lv' := [(0, .ref 16), (1, j_i a), (2, j_i b), (3, j_i (i + 1)), (4, j_i (m_head σ i 0)), (5, j_i (m_head σ i 1))]) (by decide +kernel) rfl (Nat.le_of_ble_eq_true rfl) rfl ?_
                refine a_goto (pc := 63) (off := -61) (tgt := 2) (by decide +kernel) (by decide) ?_
                exact a_sub (fun q hq => by simp only [List.mem_cons, List.not_mem_nil, or_false] at hq ⊢; rcases hq with rfl | rfl | rfl | rfl <;> simp) (ih (i + 1) (by omega) (by omega) (by omega) (lt_succ_cases hI (fun h9 => by first | exact p28 h9.1 | (have := h9.2; omega))))
              · refine a_iload (pc := 52) (i := 5) (by decide +kernel) rfl ?_
                refine a_iload_n (pc := 54) (i := 1) (by decide +kernel) rfl ?_
                refine a_icmp_ne (pc := 55) (off := 5) (tgt := 60) (by decide +kernel) (by decide) (by omega) (by omega) (fun c55 => ?_) (fun c55 => ?_)
                · refine a_iinc (pc := 60) (i := 3) (n := 1) (x := i) (lv' := [(0, .ref 16), (1, j_i a), (2, j_i b), (3, j_i (i + 1)), (4, j_i (m_head σ i 0)), (5, j_i (m_head σ i 1))]) (by decide +kernel) rfl (Nat.le_of_ble_eq_true rfl) rfl ?_
                  refine a_goto (pc := 63) (off := -61) (tgt := 2) (by decide +kernel) (by decide) ?_
                  exact a_sub (fun q hq => by simp only [List.mem_cons, List.not_mem_nil, or_false] at hq ⊢; rcases hq with rfl | rfl | rfl | rfl <;> simp) (ih (i + 1) (by omega) (by omega) (by omega) (lt_succ_cases hI (fun h9 => by first | exact p28 h9.1 | (have := h9.2; omega))))
                · refine a_iconst (pc := 58) (n := 1) (by decide +kernel) ?_
                  refine a_zreturn (pc := 59) (by decide +kernel) rfl (by omega) ?_
                  refine k_ret ?_
                  exact k_by ⟨i, p28, by omega⟩
      · show j_at _ _ _ [(0, .ref 16), (1, j_i a), (2, j_i b), (3, j_i i), (4, j_i (m_head σ i 0)), (5, j_i (m_head σ i 1))] [j_i 0] _ _ _ _
        refine a_if_eq (pc := 31) (off := 29) (tgt := 60) (by decide +kernel) (by decide) (by omega) (fun c31 => ?_) (fun c31 => ?_)
        · refine a_iinc (pc := 60) (i := 3) (n := 1) (x := i) (lv' := [(0, .ref 16), (1, j_i a), (2, j_i b), (3, j_i (i + 1)), (4, j_i (m_head σ i 0)), (5, j_i (m_head σ i 1))]) (by decide +kernel) rfl (Nat.le_of_ble_eq_true rfl) rfl ?_
          refine a_goto (pc := 63) (off := -61) (tgt := 2) (by decide +kernel) (by decide) ?_
          exact a_sub (fun q hq => by simp only [List.mem_cons, List.not_mem_nil, or_false] at hq ⊢; rcases hq with rfl | rfl | rfl | rfl <;> simp) (ih (i + 1) (by omega) (by omega) (by omega) (lt_succ_cases hI (fun h9 => by first | exact p28 h9.1 | (have := h9.2; omega))))
        · exact absurd c31 (by decide)
set_option maxHeartbeats 4000000 in
theorem s_leadBetween {G : j_G} {X : k_X} {n : Nat} {σ : k_St} (hn : 101 ≤ n) (hw : m_wf σ 16) {a b : Int} (ha : -2147483648 ≤ a ∧ a ≤ 2147483647) (hb : -2147483648 ≤ b ∧ b ≤ 2147483647) : k_run G X mX7_leadBetween [.ref 16, j_i a, j_i b] n σ 0 0 (k_b n σ (∃ m, (m_lead σ m ∧ (m_head σ m 0 = a ∧ m_head σ m 1 = b ∨ m_head σ m 0 = b ∧ m_head σ m 1 = a)))) := by
  obtain ⟨he, hg, hm9⟩ := id hw
  have hg : ∀ i : Int, σ.1 21 i = 0 ∨ σ.1 21 i = 1 := hg
  have hv : ∀ m : Int, 0 ≤ m → m < σ.2.1 16 5 → (0 ≤ σ.1 17 m ∧ σ.1 17 m ≤ 7) ∧ (0 ≤ σ.1 18 m ∧ σ.1 18 m ≤ 300) ∧ (0 ≤ σ.1 19 m ∧ σ.1 19 m ≤ 29790) ∧ (0 ≤ σ.1 20 m ∧ σ.1 20 m ≤ 99) := hm9
  clear hm9
  refine k_enter (by decide +kernel) (Nat.le_of_ble_eq_true rfl) ?_
  show j_at _ _ _ [(0, .ref 16), (1, j_i a), (2, j_i b)] [] _ _ _ _
  refine a_iconst (pc := 0) (n := 0) (by decide +kernel) ?_
  refine a_istore_n (pc := 1) (i := 3) (lv' := [(0, .ref 16), (1, j_i a), (2, j_i b), (3, j_i 0)]) (by decide +kernel) (Nat.le_of_ble_eq_true rfl) rfl ?_
  exact l_leadBetween hn hw ha hb 51 0 (by omega) (by omega) he.1 (fun j h0 h1 => absurd h0 (by omega))
def m_add (σ : k_St) (gap kind path note : Int) : k_St := k_sI (k_sA (k_sA (k_sA (k_sA (k_sA σ 18 (j_up (σ.1 18) (σ.2.1 16 5) gap)) 17 (j_up (σ.1 17) (σ.2.1 16 5) kind)) 19 (j_up (σ.1 19) (σ.2.1 16 5) path)) 20 (j_up (σ.1 20) (σ.2.1 16 5) note)) 21 (j_up (σ.1 21) (σ.2.1 16 5) 0)) 16 5 (σ.2.1 16 5 + 1)
set_option maxHeartbeats 4000000 in
theorem s_madd {G : j_G} {X : k_X} {n : Nat} {σ : k_St} (hn : 101 ≤ n) (hw : m_wf σ 16) (h50 : σ.2.1 16 5 < 50) {g k a b c t : Int} (ha : -2147483648 ≤ a ∧ a ≤ 2147483647) (hb : -2147483648 ≤ b ∧ b ≤ 2147483647) (hc : -2147483648 ≤ c ∧ c ≤ 2147483647) : k_run G X mX7_add [.ref 16, j_i g, j_i k, j_i a, j_i b, j_i c, j_i t] n σ 0 0 (k_is n (m_add σ g k (f_path a b c) t) (some (j_i (σ.2.1 16 5)))) := by
  obtain ⟨he, hg, hm9⟩ := id hw
  have hg : ∀ i : Int, σ.1 21 i = 0 ∨ σ.1 21 i = 1 := hg
  have hv : ∀ m : Int, 0 ≤ m → m < σ.2.1 16 5 → (0 ≤ σ.1 17 m ∧ σ.1 17 m ≤ 7) ∧ (0 ≤ σ.1 18 m ∧ σ.1 18 m ≤ 300) ∧ (0 ≤ σ.1 19 m ∧ σ.1 19 m ≤ 29790) ∧ (0 ≤ σ.1 20 m ∧ σ.1 20 m ≤ 99) := hm9
  clear hm9
  refine k_enter (by decide +kernel) (Nat.le_of_ble_eq_true rfl) ?_
  show j_at _ _ _ [(0, .ref 16), (1, j_i g), (2, j_i k), (3, j_i a), (4, j_i b), (5, j_i c), (6, j_i t)] [] _ _ _ _
  refine a_aload_n (pc := 0) (i := 0) (by decide +kernel) rfl ?_
  refine b_getI (pc := 1) fl_X7_28 (by decide +kernel) (sh_16 hn) rfl ?_
  refine a_bipush (pc := 4) (n := 50) (by decide +kernel) rfl ?_
  refine a_icmp_lt (pc := 6) (off := 6) (tgt := 12) (by decide +kernel) (by decide) (by omega) (by omega) (fun c6 => ?_) (fun c6 => ?_)
  · refine a_aload_n (pc := 12) (i := 0) (by decide +kernel) rfl ?_
    refine b_getR (pc := 13) (b := 18) fl_X7_15 (by decide +kernel) (sh_16 hn) rfl ?_
    refine a_aload_n (pc := 16) (i := 0) (by decide +kernel) rfl ?_
    refine b_getI (pc := 17) fl_X7_28 (by decide +kernel) (sh_16 hn) rfl ?_
    refine a_iload_n (pc := 20) (i := 1) (by decide +kernel) rfl ?_
    refine b_iastore (pc := 21) (by decide +kernel) (sh_18 hn) (by omega) (by omega) (by omega) ?_
    obtain ⟨σ1, hσ1⟩ : ∃ z, z = k_sA σ 18 (j_up (σ.1 18) (σ.2.1 16 5) g) := ⟨_, rfl⟩
    rw [← hσ1]
    refine a_aload_n (pc := 22) (i := 0) (by decide +kernel) rfl ?_
    refine b_getR (pc := 23) (b := 17) fl_X7_9 (by decide +kernel) (sh_16 hn) rfl ?_
    refine a_aload_n (pc := 26) (i := 0) (by decide +kernel) rfl ?_
    refine b_getI (pc := 27) fl_X7_28 (by decide +kernel) (sh_16 hn) rfl ?_
    rw [show σ1.2.1 16 5 = σ.2.1 16 5 by rw [hσ1]; rfl]
    refine a_iload_n (pc := 30) (i := 2) (by decide +kernel) rfl ?_
    refine b_iastore (pc := 31) (by decide +kernel) (sh_17 hn) (by omega) (by omega) (by omega) ?_
    obtain ⟨σ2, hσ2⟩ : ∃ z, z = k_sA σ1 17 (j_up (σ1.1 17) (σ.2.1 16 5) k) := ⟨_, rfl⟩
    rw [← hσ2]
    refine a_aload_n (pc := 32) (i := 0) (by decide +kernel) rfl ?_
    refine b_getR (pc := 33) (b := 19) fl_X7_18 (by decide +kernel) (sh_16 hn) rfl ?_
    refine a_aload_n (pc := 36) (i := 0) (by decide +kernel) rfl ?_
    refine b_getI (pc := 37) fl_X7_28 (by decide +kernel) (sh_16 hn) rfl ?_
    rw [show σ2.2.1 16 5 = σ1.2.1 16 5 by rw [hσ2]; rfl]
    rw [show σ1.2.1 16 5 = σ.2.1 16 5 by rw [hσ1]; rfl]
    refine a_iload_n (pc := 40) (i := 3) (by decide +kernel) rfl ?_
    refine a_iload (pc := 41) (i := 4) (by decide +kernel) rfl ?_
    refine a_iload (pc := 43) (i := 5) (by decide +kernel) rfl ?_
    refine b_pureS (pc := 45) [j_i a, j_i b, j_i c] [j_i (σ.2.1 16 5), .ref 19] ml_X7_32 (by decide +kernel) rfl rfl (Nat.le_of_ble_eq_true rfl) (j_fitI rfl rfl) (s_pathOf (by omega) (by omega) (by omega)) ?_
    show j_at _ _ _ [(0, .ref 16), (1, j_i g), (2, j_i k), (3, j_i a), (4, j_i b), (5, j_i c), (6, j_i t)] [j_i (f_path a b c), j_i (σ.2.1 16 5), .ref 19] _ _ _ _
    refine b_iastore (pc := 48) (by decide +kernel) (sh_19 hn) (by omega) (by omega) (by omega) ?_
    obtain ⟨σ3, hσ3⟩ : ∃ z, z = k_sA σ2 19 (j_up (σ2.1 19) (σ.2.1 16 5) (f_path a b c)) := ⟨_, rfl⟩
    rw [← hσ3]
    refine a_aload_n (pc := 49) (i := 0) (by decide +kernel) rfl ?_
    refine b_getR (pc := 50) (b := 20) fl_X7_21 (by decide +kernel) (sh_16 hn) rfl ?_
    refine a_aload_n (pc := 53) (i := 0) (by decide +kernel) rfl ?_
    refine b_getI (pc := 54) fl_X7_28 (by decide +kernel) (sh_16 hn) rfl ?_
    rw [show σ3.2.1 16 5 = σ2.2.1 16 5 by rw [hσ3]; rfl]
    rw [show σ2.2.1 16 5 = σ1.2.1 16 5 by rw [hσ2]; rfl]
    rw [show σ1.2.1 16 5 = σ.2.1 16 5 by rw [hσ1]; rfl]
    refine a_iload (pc := 57) (i := 6) (by decide +kernel) rfl ?_
    refine b_iastore (pc := 59) (by decide +kernel) (sh_20 hn) (by omega) (by omega) (by omega) ?_
    obtain ⟨σ4, hσ4⟩ : ∃ z, z = k_sA σ3 20 (j_up (σ3.1 20) (σ.2.1 16 5) t) := ⟨_, rfl⟩
    rw [← hσ4]
    refine a_aload_n (pc := 60) (i := 0) (by decide +kernel) rfl ?_
    refine b_getR (pc := 61) (b := 21) fl_X7_24 (by decide +kernel) (sh_16 hn) rfl ?_
    refine a_aload_n (pc := 64) (i := 0) (by decide +kernel) rfl ?_
    refine b_getI (pc := 65) fl_X7_28 (by decide +kernel) (sh_16 hn) rfl ?_
    rw [show σ4.2.1 16 5 = σ3.2.1 16 5 by rw [hσ4]; rfl]
    rw [show σ3.2.1 16 5 = σ2.2.1 16 5 by rw [hσ3]; rfl]
    rw [show σ2.2.1 16 5 = σ1.2.1 16 5 by rw [hσ2]; rfl]
    rw [show σ1.2.1 16 5 = σ.2.1 16 5 by rw [hσ1]; rfl]
    refine a_iconst (pc := 68) (n := 0) (by decide +kernel) ?_
    refine b_zastore (pc := 69) (by decide +kernel) (sh_21 hn) (by omega) (by omega) (by omega) (by decide) ?_
    obtain ⟨σ5, hσ5⟩ : ∃ z, z = k_sA σ4 21 (j_up (σ4.1 21) (σ.2.1 16 5) 0) := ⟨_, rfl⟩
    rw [← hσ5]
    refine a_aload_n (pc := 70) (i := 0) (by decide +kernel) rfl ?_
    refine a_dup (pc := 71) (by decide +kernel) rfl ?_
    refine b_getI (pc := 72) fl_X7_28 (by decide +kernel) (sh_16 hn) rfl ?_
    rw [show σ5.2.1 16 5 = σ4.2.1 16 5 by rw [hσ5]; rfl]
    rw [show σ4.2.1 16 5 = σ3.2.1 16 5 by rw [hσ4]; rfl]
    rw [show σ3.2.1 16 5 = σ2.2.1 16 5 by rw [hσ3]; rfl]
    rw [show σ2.2.1 16 5 = σ1.2.1 16 5 by rw [hσ2]; rfl]
    rw [show σ1.2.1 16 5 = σ.2.1 16 5 by rw [hσ1]; rfl]
    refine a_iconst (pc := 75) (n := 1) (by decide +kernel) ?_
    refine a_iadd (pc := 76) (by decide +kernel) ?_
    refine b_putI (pc := 77) fl_X7_28 (by decide +kernel) (sh_16 hn) rfl rfl rfl ?_
    obtain ⟨σ6, hσ6⟩ : ∃ z, z = k_sI σ5 16 5 ((σ.2.1 16 5) + 1) := ⟨_, rfl⟩
    rw [← hσ6]
    refine a_aload_n (pc := 80) (i := 0) (by decide +kernel) rfl ?_
    refine b_getI (pc := 81) fl_X7_28 (by decide +kernel) (sh_16 hn) rfl ?_
    rw [show σ6.2.1 16 5 = (σ.2.1 16 5) + 1 by rw [hσ6]; exact k_II]
    refine a_iconst (pc := 84) (n := 1) (by decide +kernel) ?_
    refine a_isub (pc := 85) (by decide +kernel) ?_
    refine a_ireturn (pc := 86) (by decide +kernel) rfl ?_
    refine k_ret ?_
    refine ⟨?_, rfl, ?_⟩
    · congr 3; omega
    · subst hσ6; subst hσ5; subst hσ4; subst hσ3; subst hσ2; subst hσ1; rfl
  · refine a_bipush (pc := 9) (n := (-4)) (by decide +kernel) rfl ?_
    refine a_ireturn (pc := 11) (by decide +kernel) rfl ?_
    refine k_ret ?_
    exfalso; omega
set_option maxHeartbeats 4000000 in
theorem s_mremove {G : j_G} {X : k_X} {n : Nat} {σ : k_St} (hn : 101 ≤ n) (hw : m_wf σ 16) {m : Int} (hi : m_is σ m) : k_run G X mX7_remove [.ref 16, j_i m] n σ 0 0 (k_is n (k_sA σ 21 (j_up (σ.1 21) m 1)) none) := by
  obtain ⟨he, hg, hm9⟩ := id hw
  have hg : ∀ i : Int, σ.1 21 i = 0 ∨ σ.1 21 i = 1 := hg
  have hv : ∀ m : Int, 0 ≤ m → m < σ.2.1 16 5 → (0 ≤ σ.1 17 m ∧ σ.1 17 m ≤ 7) ∧ (0 ≤ σ.1 18 m ∧ σ.1 18 m ≤ 300) ∧ (0 ≤ σ.1 19 m ∧ σ.1 19 m ≤ 29790) ∧ (0 ≤ σ.1 20 m ∧ σ.1 20 m ≤ 99) := hm9
  clear hm9
  have hh := hi.2.1
  have hh0 := hi.1
  refine k_enter (by decide +kernel) (Nat.le_of_ble_eq_true rfl) ?_
  show j_at _ _ _ [(0, .ref 16), (1, j_i m)] [] _ _ _ _
  refine a_aload_n (pc := 0) (i := 0) (by decide +kernel) rfl ?_
  refine a_iload_n (pc := 1) (i := 1) (by decide +kernel) rfl ?_
  refine b_callV (pc := 2) (c' := 0) (sl' := 0) [j_i m] [] ml_X7_36 (by decide +kernel) rfl rfl (sh_16 hn) rfl rfl (Nat.le_of_ble_eq_true rfl) (j_fitI rfl rfl) (s_mhas hn hw (by omega)) (fun v n' σ' hq => ?_)
  obtain ⟨x, rfl, e1, e2, hx⟩ := hq
  rw [e1, e2]; clear e1 e2
  rcases hx with ⟨rfl, p2⟩ | ⟨rfl, p2⟩
  · show j_at _ _ _ [(0, .ref 16), (1, j_i m)] [j_i 1] _ _ _ _
    refine a_if_eq (pc := 5) (off := 10) (tgt := 15) (by decide +kernel) (by decide) (by omega) (fun c5 => ?_) (fun c5 => ?_)
    · exact absurd c5 (by decide)
    · refine a_aload_n (pc := 8) (i := 0) (by decide +kernel) rfl ?_
      refine b_getR (pc := 9) (b := 21) fl_X7_24 (by decide +kernel) (sh_16 hn) rfl ?_
      refine a_iload_n (pc := 12) (i := 1) (by decide +kernel) rfl ?_
      refine a_iconst (pc := 13) (n := 1) (by decide +kernel) ?_
      refine b_zastore (pc := 14) (by decide +kernel) (sh_21 hn) (by omega) (by omega) (by omega) (by decide) ?_
      obtain ⟨σ1, hσ1⟩ : ∃ z, z = k_sA σ 21 (j_up (σ.1 21) m 1) := ⟨_, rfl⟩
      rw [← hσ1]
      refine a_return (pc := 15) (by decide +kernel) rfl ?_
      refine k_ret ?_
      first | (exact absurd hi p2) | (subst hσ1; exact ⟨rfl, rfl, rfl⟩)
  · show j_at _ _ _ [(0, .ref 16), (1, j_i m)] [j_i 0] _ _ _ _
    refine a_if_eq (pc := 5) (off := 10) (tgt := 15) (by decide +kernel) (by decide) (by omega) (fun c5 => ?_) (fun c5 => ?_)
    · refine a_return (pc := 15) (by decide +kernel) rfl ?_
      refine k_ret ?_
      first | (exact absurd hi p2) | (subst hσ1; exact ⟨rfl, rfl, rfl⟩)
    · exact absurd c5 (by decide)
def f_shB (g b : Int) : Int → Int → Int := fun _ x => if g < x then x + b else x
def f_shW (a m b : Int) : Int → Int → Int := fun _ x => if a < x ∧ x ≤ a + m then x - a + b else if b < (if a < x then x - m else x) then (if a < x then x - m else x) + m else (if a < x then x - m else x)
set_option maxHeartbeats 4000000 in
theorem l_shiftBehind {G : j_G} {X : k_X} {n : Nat} {σ : k_St} (hn : 101 ≤ n) (hw : m_wf σ 16) {g b : Int} (hg9 : -2147483648 ≤ g ∧ g ≤ 2147483647) : ∀ (m : Nat) (i : Int), 50 - i < (m : Int) → 0 ≤ i → i ≤ σ.2.1 16 5 → j_at G mX7_shiftBehind 2 [(0, .ref 16), (1, j_i g), (2, j_i b), (3, j_i i)] [] (k_h X n (k_sA σ 18 (f_map (f_shB g b) (σ.1 18) i))) 0 0 (k_Q X (k_is n (k_sA σ 18 (f_map (f_shB g b) (σ.1 18) (σ.2.1 16 5))) none)) := by
  intro m
  induction m with
  | zero => intro i h1 h2 h3; exact absurd h3 (by have := hw.1; omega)
  | succ m ih =>
    intro i hm h0 hN
    obtain ⟨he, hg, hm9⟩ := id hw
    have hg : ∀ i : Int, σ.1 21 i = 0 ∨ σ.1 21 i = 1 := hg
    have hv : ∀ m : Int, 0 ≤ m → m < σ.2.1 16 5 → (0 ≤ σ.1 17 m ∧ σ.1 17 m ≤ 7) ∧ (0 ≤ σ.1 18 m ∧ σ.1 18 m ≤ 300) ∧ (0 ≤ σ.1 19 m ∧ σ.1 19 m ≤ 29790) ∧ (0 ≤ σ.1 20 m ∧ σ.1 20 m ≤ 99) := hm9
    clear hm9
    obtain ⟨τ, hτ⟩ : ∃ z, z = (k_sA σ 18 (f_map (f_shB g b) (σ.1 18) i)) := ⟨_, rfl⟩
    rw [← hτ]
    have et : τ.1 18 i = σ.1 18 i := by rw [hτ, k_AA, f_map_at]
    refine a_iload_n (pc := 2) (i := 3) (by decide +kernel) rfl ?_
    refine a_aload_n (pc := 3) (i := 0) (by decide +kernel) rfl ?_
    refine b_getI (pc := 4) fl_X7_28 (by decide +kernel) (sh_16 hn) rfl ?_
    rw [show τ.2.1 16 5 = σ.2.1 16 5 by rw [hτ]; rfl]
    refine a_icmp_ge (pc := 7) (off := 29) (tgt := 36) (by decide +kernel) (by decide) (by omega) (by omega) (fun c7 => ?_) (fun c7 => ?_)
    · refine a_return (pc := 36) (by decide +kernel) rfl ?_
      refine k_ret ?_
      rw [hτ, show i = σ.2.1 16 5 by omega]; exact ⟨rfl, rfl, rfl⟩
    · refine a_aload_n (pc := 10) (i := 0) (by decide +kernel) rfl ?_
      refine b_getR (pc := 11) (b := 18) fl_X7_15 (by decide +kernel) (sh_16 hn) rfl ?_
      refine a_iload_n (pc := 14) (i := 3) (by decide +kernel) rfl ?_
      refine b_iaload (pc := 15) (by decide +kernel) (sh_18 hn) (by omega) (by omega) (by omega) ?_
      refine a_iload_n (pc := 16) (i := 1) (by decide +kernel) rfl ?_
      have hvi := hv i h0 (by omega)
      refine a_icmp_le (pc := 17) (off := 13) (tgt := 30) (by decide +kernel) (by decide) (by omega) (by omega) (fun c17 => ?_) (fun c17 => ?_)
      · refine a_iinc (pc := 30) (i := 3) (n := 1) (x := i) (lv' := [(0, .ref 16), (1, j_i g), (2, j_i b), (3, j_i (i + 1))]) (by decide +kernel) rfl (Nat.le_of_ble_eq_true rfl) rfl ?_
        refine a_goto (pc := 33) (off := -31) (tgt := 2) (by decide +kernel) (by decide) ?_
        rw [hτ, f_map_skip h0 (by unfold f_shB; split <;> omega)]
        exact ih (i + 1) (by omega) (by omega) (by omega)
      · refine a_aload_n (pc := 20) (i := 0) (by decide +kernel) rfl ?_
        refine b_getR (pc := 21) (b := 18) fl_X7_15 (by decide +kernel) (sh_16 hn) rfl ?_
        refine a_iload_n (pc := 24) (i := 3) (by decide +kernel) rfl ?_
        refine a_dup2 (pc := 25) (by decide +kernel) rfl rfl ?_
        refine b_iaload (pc := 26) (by decide +kernel) (sh_18 hn) (by omega) (by omega) (by omega) ?_
        refine a_iload_n (pc := 27) (i := 2) (by decide +kernel) rfl ?_
        refine a_iadd (pc := 28) (by decide +kernel) ?_
        refine b_iastore (pc := 29) (by decide +kernel) (sh_18 hn) (by omega) (by omega) (by omega) ?_
        obtain ⟨σ1, hσ1⟩ : ∃ z, z = k_sA τ 18 (j_up (τ.1 18) i ((τ.1 18 i) + b)) := ⟨_, rfl⟩
        rw [← hσ1]
        refine a_iinc (pc := 30) (i := 3) (n := 1) (x := i) (lv' := [(0, .ref 16), (1, j_i g), (2, j_i b), (3, j_i (i + 1))]) (by decide +kernel) rfl (Nat.le_of_ble_eq_true rfl) rfl ?_
        refine a_goto (pc := 33) (off := -31) (tgt := 2) (by decide +kernel) (by decide) ?_
        try rw [et] at hσ1
        rw [hσ1, hτ, k_AA, k_sA_sA, f_map_up h0 (by unfold f_shB; split <;> omega)]
        exact ih (i + 1) (by omega) (by omega) (by omega)
set_option maxHeartbeats 4000000 in
theorem s_shiftBehind {G : j_G} {X : k_X} {n : Nat} {σ : k_St} (hn : 101 ≤ n) (hw : m_wf σ 16) {g b : Int} (hg9 : -2147483648 ≤ g ∧ g ≤ 2147483647) : k_run G X mX7_shiftBehind [.ref 16, j_i g, j_i b] n σ 0 0 (k_is n (k_sA σ 18 (f_map (f_shB g b) (σ.1 18) (σ.2.1 16 5))) none) := by
  obtain ⟨he, hg, hm9⟩ := id hw
  have hg : ∀ i : Int, σ.1 21 i = 0 ∨ σ.1 21 i = 1 := hg
  have hv : ∀ m : Int, 0 ≤ m → m < σ.2.1 16 5 → (0 ≤ σ.1 17 m ∧ σ.1 17 m ≤ 7) ∧ (0 ≤ σ.1 18 m ∧ σ.1 18 m ≤ 300) ∧ (0 ≤ σ.1 19 m ∧ σ.1 19 m ≤ 29790) ∧ (0 ≤ σ.1 20 m ∧ σ.1 20 m ≤ 99) := hm9
  clear hm9
  refine k_enter (by decide +kernel) (Nat.le_of_ble_eq_true rfl) ?_
  show j_at _ _ _ [(0, .ref 16), (1, j_i g), (2, j_i b)] [] _ _ _ _
  refine a_iconst (pc := 0) (n := 0) (by decide +kernel) ?_
  refine a_istore_n (pc := 1) (i := 3) (lv' := [(0, .ref 16), (1, j_i g), (2, j_i b), (3, j_i 0)]) (by decide +kernel) (Nat.le_of_ble_eq_true rfl) rfl ?_
  have e0 : σ = (k_sA σ 18 (f_map (f_shB g b) (σ.1 18) 0)) := by rw [f_map_0]; exact (k_sA_id rfl).symm
  have e1 := l_shiftBehind (G := G) (X := X) hn hw (b := b) hg9 51 0 (by omega) (by omega) he.1
  rw [← e0] at e1
  exact e1
set_option maxHeartbeats 4000000 in
theorem l_shiftWithWords {G : j_G} {X : k_X} {n : Nat} {σ : k_St} (hn : 101 ≤ n) (hw : m_wf σ 16) {a m9 b : Int} (h1 : 0 ≤ a ∧ a ≤ 300) (h2 : 0 ≤ m9 ∧ m9 ≤ 300) (h3 : 0 ≤ b ∧ b ≤ 300) : ∀ (m : Nat) (i : Int), 50 - i < (m : Int) → 0 ≤ i → i ≤ σ.2.1 16 5 → j_at G mX7_shiftWithWords 3 [(0, .ref 16), (1, j_i a), (2, j_i m9), (3, j_i b), (4, j_i i)] [] (k_h X n (k_sA σ 18 (f_map (f_shW a m9 b) (σ.1 18) i))) 0 0 (k_Q X (k_is n (k_sA σ 18 (f_map (f_shW a m9 b) (σ.1 18) (σ.2.1 16 5))) none)) := by
  intro m
  induction m with
  | zero => intro i h1 h2 h3; exact absurd h3 (by have := hw.1; omega)
  | succ m ih =>
    intro i hm h0 hN
    obtain ⟨he, hg, hm9⟩ := id hw
    have hg : ∀ i : Int, σ.1 21 i = 0 ∨ σ.1 21 i = 1 := hg
    have hv : ∀ m : Int, 0 ≤ m → m < σ.2.1 16 5 → (0 ≤ σ.1 17 m ∧ σ.1 17 m ≤ 7) ∧ (0 ≤ σ.1 18 m ∧ σ.1 18 m ≤ 300) ∧ (0 ≤ σ.1 19 m ∧ σ.1 19 m ≤ 29790) ∧ (0 ≤ σ.1 20 m ∧ σ.1 20 m ≤ 99) := hm9
    clear hm9
    obtain ⟨τ, hτ⟩ : ∃ z, z = (k_sA σ 18 (f_map (f_shW a m9 b) (σ.1 18) i)) := ⟨_, rfl⟩
    rw [← hτ]
    have et : τ.1 18 i = σ.1 18 i := by rw [hτ, k_AA, f_map_at]
    refine a_iload (pc := 3) (i := 4) (by decide +kernel) rfl ?_
    refine a_aload_n (pc := 5) (i := 0) (by decide +kernel) rfl ?_
    refine b_getI (pc := 6) fl_X7_28 (by decide +kernel) (sh_16 hn) rfl ?_
    rw [show τ.2.1 16 5 = σ.2.1 16 5 by rw [hτ]; rfl]
    refine a_icmp_ge (pc := 9) (off := 87) (tgt := 96) (by decide +kernel) (by decide) (by omega) (by omega) (fun c9 => ?_) (fun c9 => ?_)
    · refine a_return (pc := 96) (by decide +kernel) rfl ?_
      refine k_ret ?_
      rw [hτ, show i = σ.2.1 16 5 by omega]; exact ⟨rfl, rfl, rfl⟩
    · refine a_aload_n (pc := 12) (i := 0) (by decide +kernel) rfl ?_
      refine b_getR (pc := 13) (b := 18) fl_X7_15 (by decide +kernel) (sh_16 hn) rfl ?_
      refine a_iload (pc := 16) (i := 4) (by decide +kernel) rfl ?_
      refine b_iaload (pc := 18) (by decide +kernel) (sh_18 hn) (by omega) (by omega) (by omega) ?_
      refine a_istore (pc := 19) (i := 5) (lv' := [(0, .ref 16), (1, j_i a), (2, j_i m9), (3, j_i b), (4, j_i i), (5, j_i (τ.1 18 i))]) (by decide +kernel) (Nat.le_of_ble_eq_true rfl) rfl ?_
      refine a_iload (pc := 21) (i := 5) (by decide +kernel) rfl ?_
      refine a_iload_n (pc := 23) (i := 1) (by decide +kernel) rfl ?_
      have hvi := hv i h0 (by omega)
      refine a_icmp_le (pc := 24) (off := 27) (tgt := 51) (by decide +kernel) (by decide) (by omega) (by omega) (fun c24 => ?_) (fun c24 => ?_)
      · refine a_iload (pc := 51) (i := 5) (by decide +kernel) rfl ?_
        refine a_iload_n (pc := 53) (i := 1) (by decide +kernel) rfl ?_
        refine a_icmp_le (pc := 54) (off := 10) (tgt := 64) (by decide +kernel) (by decide) (by omega) (by omega) (fun c54 => ?_) (fun c54 => ?_)
        · refine a_iload (pc := 64) (i := 5) (by decide +kernel) rfl ?_
          refine a_istore (pc := 66) (i := 6) (lv' := [(0, .ref 16), (1, j_i a), (2, j_i m9), (3, j_i b), (4, j_i i), (5, j_i (τ.1 18 i)), (6, j_i (τ.1 18 i))]) (by decide +kernel) (Nat.le_of_ble_eq_true rfl) rfl ?_
          refine a_aload_n (pc := 68) (i := 0) (by decide +kernel) rfl ?_
          refine b_getR (pc := 69) (b := 18) fl_X7_15 (by decide +kernel) (sh_16 hn) rfl ?_
          refine a_iload (pc := 72) (i := 4) (by decide +kernel) rfl ?_
          refine a_iload (pc := 74) (i := 6) (by decide +kernel) rfl ?_
          refine a_iload_n (pc := 76) (i := 3) (by decide +kernel) rfl ?_
          refine a_icmp_le (pc := 77) (off := 10) (tgt := 87) (by decide +kernel) (by decide) (by omega) (by omega) (fun c77 => ?_) (fun c77 => ?_)
          · refine a_iload (pc := 87) (i := 6) (by decide +kernel) rfl ?_
            refine b_iastore (pc := 89) (by decide +kernel) (sh_18 hn) (by omega) (by omega) (by omega) ?_
            obtain ⟨σ1, hσ1⟩ : ∃ z, z = k_sA τ 18 (j_up (τ.1 18) i (τ.1 18 i)) := ⟨_, rfl⟩
            rw [← hσ1]
            refine a_iinc (pc := 90) (i := 4) (n := 1) (x := i) (lv' := [(0, .ref 16), (1, j_i a), (2, j_i m9), (3, j_i b), (4, j_i (i + 1)), (5, j_i (τ.1 18 i)), (6, j_i (τ.1 18 i))]) (by decide +kernel) rfl (Nat.le_of_ble_eq_true rfl) rfl ?_
            refine a_goto (pc := 93) (off := -90) (tgt := 3) (by decide +kernel) (by decide) ?_
            refine a_sub (pc := 3) (lv' := [(0, .ref 16), (1, j_i a), (2, j_i m9), (3, j_i b), (4, j_i (i + 1))]) (fun q hq => by simp only [List.mem_cons, List.not_mem_nil, or_false] at hq ⊢; rcases hq with rfl | rfl | rfl | rfl | rfl <;> simp) ?_
            try rw [et] at hσ1
            rw [hσ1, hτ, k_AA, k_sA_sA, f_map_up h0 (by unfold f_shW; split <;> (try split) <;> (try split) <;> omega)]
            exact ih (i + 1) (by omega) (by omega) (by omega)
          · refine a_iload (pc := 80) (i := 6) (by decide +kernel) rfl ?_
            refine a_iload_n (pc := 82) (i := 2) (by decide +kernel) rfl ?_
            refine a_iadd (pc := 83) (by decide +kernel) ?_
            refine a_goto (pc := 84) (off := 5) (tgt := 89) (by decide +kernel) (by decide) ?_
            refine b_iastore (pc := 89) (by decide +kernel) (sh_18 hn) (by omega) (by omega) (by omega) ?_
            obtain ⟨σ2, hσ2⟩ : ∃ z, z = k_sA τ 18 (j_up (τ.1 18) i ((τ.1 18 i) + m9)) := ⟨_, rfl⟩
            rw [← hσ2]
            refine a_iinc (pc := 90) (i := 4) (n := 1) (x := i) (lv' := [(0, .ref 16), (1, j_i a), (2, j_i m9), (3, j_i b), (4, j_i (i + 1)), (5, j_i (τ.1 18 i)), (6, j_i (τ.1 18 i))]) (by decide +kernel) rfl (Nat.le_of_ble_eq_true rfl) rfl ?_
            refine a_goto (pc := 93) (off := -90) (tgt := 3) (by decide +kernel) (by decide) ?_
            refine a_sub (pc := 3) (lv' := [(0, .ref 16), (1, j_i a), (2, j_i m9), (3, j_i b), (4, j_i (i + 1))]) (fun q hq => by simp only [List.mem_cons, List.not_mem_nil, or_false] at hq ⊢; rcases hq with rfl | rfl | rfl | rfl | rfl <;> simp) ?_
            try rw [et] at hσ2
            rw [hσ2, hτ, k_AA, k_sA_sA, f_map_up h0 (by unfold f_shW; split <;> (try split) <;> (try split) <;> omega)]
            exact ih (i + 1) (by omega) (by omega) (by omega)
        · refine a_iload (pc := 57) (i := 5) (by decide +kernel) rfl ?_
          refine a_iload_n (pc := 59) (i := 2) (by decide +kernel) rfl ?_
          refine a_isub (pc := 60) (by decide +kernel) ?_
          refine a_goto (pc := 61) (off := 5) (tgt := 66) (by decide +kernel) (by decide) ?_
          refine a_istore (pc := 66) (i := 6) (lv' := [(0, .ref 16), (1, j_i a), (2, j_i m9), (3, j_i b), (4, j_i i), (5, j_i (τ.1 18 i)), (6, j_i ((τ.1 18 i) - m9))]) (by decide +kernel) (Nat.le_of_ble_eq_true rfl) rfl ?_
          refine a_aload_n (pc := 68) (i := 0) (by decide +kernel) rfl ?_
          refine b_getR (pc := 69) (b := 18) fl_X7_15 (by decide +kernel) (sh_16 hn) rfl ?_
          refine a_iload (pc := 72) (i := 4) (by decide +kernel) rfl ?_
          refine a_iload (pc := 74) (i := 6) (by decide +kernel) rfl ?_
          refine a_iload_n (pc := 76) (i := 3) (by decide +kernel) rfl ?_
          refine a_icmp_le (pc := 77) (off := 10) (tgt := 87) (by decide +kernel) (by decide) (by omega) (by omega) (fun c77 => ?_) (fun c77 => ?_)
          · refine a_iload (pc := 87) (i := 6) (by decide +kernel) rfl ?_
            refine b_iastore (pc := 89) (by decide +kernel) (sh_18 hn) (by omega) (by omega) (by omega) ?_
            obtain ⟨σ3, hσ3⟩ : ∃ z, z = k_sA τ 18 (j_up (τ.1 18) i ((τ.1 18 i) - m9)) := ⟨_, rfl⟩
            rw [← hσ3]
            refine a_iinc (pc := 90) (i := 4) (n := 1) (x := i) (lv' := [(0, .ref 16), (1, j_i a), (2, j_i m9), (3, j_i b), (4, j_i (i + 1)), (5, j_i (τ.1 18 i)), (6, j_i ((τ.1 18 i) - m9))]) (by decide +kernel) rfl (Nat.le_of_ble_eq_true rfl) rfl ?_
            refine a_goto (pc := 93) (off := -90) (tgt := 3) (by decide +kernel) (by decide) ?_
            refine a_sub (pc := 3) (lv' := [(0, .ref 16), (1, j_i a), (2, j_i m9), (3, j_i b), (4, j_i (i + 1))]) (fun q hq => by simp only [List.mem_cons, List.not_mem_nil, or_false] at hq ⊢; rcases hq with rfl | rfl | rfl | rfl | rfl <;> simp) ?_
            try rw [et] at hσ3
            rw [hσ3, hτ, k_AA, k_sA_sA, f_map_up h0 (by unfold f_shW; split <;> (try split) <;> (try split) <;> omega)]
            exact ih (i + 1) (by omega) (by omega) (by omega)
          · refine a_iload (pc := 80) (i := 6) (by decide +kernel) rfl ?_
            refine a_iload_n (pc := 82) (i := 2) (by decide +kernel) rfl ?_
            refine a_iadd (pc := 83) (by decide +kernel) ?_
            refine a_goto (pc := 84) (off := 5) (tgt := 89) (by decide +kernel) (by decide) ?_
            refine b_iastore (pc := 89) (by decide +kernel) (sh_18 hn) (by omega) (by omega) (by omega) ?_
            obtain ⟨σ4, hσ4⟩ : ∃ z, z = k_sA τ 18 (j_up (τ.1 18) i (((τ.1 18 i) - m9) + m9)) := ⟨_, rfl⟩
            rw [← hσ4]
            refine a_iinc (pc := 90) (i := 4) (n := 1) (x := i) (lv' := [(0, .ref 16), (1, j_i a), (2, j_i m9), (3, j_i b), (4, j_i (i + 1)), (5, j_i (τ.1 18 i)), (6, j_i ((τ.1 18 i) - m9))]) (by decide +kernel) rfl (Nat.le_of_ble_eq_true rfl) rfl ?_
            refine a_goto (pc := 93) (off := -90) (tgt := 3) (by decide +kernel) (by decide) ?_
            refine a_sub (pc := 3) (lv' := [(0, .ref 16), (1, j_i a), (2, j_i m9), (3, j_i b), (4, j_i (i + 1))]) (fun q hq => by simp only [List.mem_cons, List.not_mem_nil, or_false] at hq ⊢; rcases hq with rfl | rfl | rfl | rfl | rfl <;> simp) ?_
            try rw [et] at hσ4
            rw [hσ4, hτ, k_AA, k_sA_sA, f_map_up h0 (by unfold f_shW; split <;> (try split) <;> (try split) <;> omega)]
            exact ih (i + 1) (by omega) (by omega) (by omega)
      · refine a_iload (pc := 27) (i := 5) (by decide +kernel) rfl ?_
        refine a_iload_n (pc := 29) (i := 1) (by decide +kernel) rfl ?_
        refine a_iload_n (pc := 30) (i := 2) (by decide +kernel) rfl ?_
        refine a_iadd (pc := 31) (by decide +kernel) ?_
        refine a_icmp_gt (pc := 32) (off := 19) (tgt := 51) (by decide +kernel) (by decide) (by omega) (by omega) (fun c32 => ?_) (fun c32 => ?_)
        · refine a_iload (pc := 51) (i := 5) (by decide +kernel) rfl ?_
          refine a_iload_n (pc := 53) (i := 1) (by decide +kernel) rfl ?_
          refine a_icmp_le (pc := 54) (off := 10) (tgt := 64) (by decide +kernel) (by decide) (by omega) (by omega) (fun c54 => ?_) (fun c54 => ?_)
          · refine a_iload (pc := 64) (i := 5) (by decide +kernel) rfl ?_
            refine a_istore (pc := 66) (i := 6) (lv' := [(0, .ref 16), (1, j_i a), (2, j_i m9), (3, j_i b), (4, j_i i), (5, j_i (τ.1 18 i)), (6, j_i (τ.1 18 i))]) (by decide +kernel) (Nat.le_of_ble_eq_true rfl) rfl ?_
            refine a_aload_n (pc := 68) (i := 0) (by decide +kernel) rfl ?_
            refine b_getR (pc := 69) (b := 18) fl_X7_15 (by decide +kernel) (sh_16 hn) rfl ?_
            refine a_iload (pc := 72) (i := 4) (by decide +kernel) rfl ?_
            refine a_iload (pc := 74) (i := 6) (by decide +kernel) rfl ?_
            refine a_iload_n (pc := 76) (i := 3) (by decide +kernel) rfl ?_
            refine a_icmp_le (pc := 77) (off := 10) (tgt := 87) (by decide +kernel) (by decide) (by omega) (by omega) (fun c77 => ?_) (fun c77 => ?_)
            · refine a_iload (pc := 87) (i := 6) (by decide +kernel) rfl ?_
              refine b_iastore (pc := 89) (by decide +kernel) (sh_18 hn) (by omega) (by omega) (by omega) ?_
              obtain ⟨σ5, hσ5⟩ : ∃ z, z = k_sA τ 18 (j_up (τ.1 18) i (τ.1 18 i)) := ⟨_, rfl⟩
              rw [← hσ5]
              refine a_iinc (pc := 90) (i := 4) (n := 1) (x := i) (lv' := [(0, .ref 16), (1, j_i a), (2, j_i m9), (3, j_i b), (4, j_i (i + 1)), (5, j_i (τ.1 18 i)), (6, j_i (τ.1 18 i))]) (by decide +kernel) rfl (Nat.le_of_ble_eq_true rfl) rfl ?_
              refine a_goto (pc := 93) (off := -90) (tgt := 3) (by decide +kernel) (by decide) ?_
              refine a_sub (pc := 3) (lv' := [(0, .ref 16), (1, j_i a), (2, j_i m9), (3, j_i b), (4, j_i (i + 1))]) (fun q hq => by simp only [List.mem_cons, List.not_mem_nil, or_false] at hq ⊢; rcases hq with rfl | rfl | rfl | rfl | rfl <;> simp) ?_
              try rw [et] at hσ5
              rw [hσ5, hτ, k_AA, k_sA_sA, f_map_up h0 (by unfold f_shW; split <;> (try split) <;> (try split) <;> omega)]
              exact ih (i + 1) (by omega) (by omega) (by omega)
            · refine a_iload (pc := 80) (i := 6) (by decide +kernel) rfl ?_
              refine a_iload_n (pc := 82) (i := 2) (by decide +kernel) rfl ?_
              refine a_iadd (pc := 83) (by decide +kernel) ?_
              refine a_goto (pc := 84) (off := 5) (tgt := 89) (by decide +kernel) (by decide) ?_
              refine b_iastore (pc := 89) (by decide +kernel) (sh_18 hn) (by omega) (by omega) (by omega) ?_
              obtain ⟨σ6, hσ6⟩ : ∃ z, z = k_sA τ 18 (j_up (τ.1 18) i ((τ.1 18 i) + m9)) := ⟨_, rfl⟩
              rw [← hσ6]
              refine a_iinc (pc := 90) (i := 4) (n := 1) (x := i) (lv' := [(0, .ref 16), (1, j_i a), (2, j_i m9), (3, j_i b), (4, j_i (i + 1)), (5, j_i (τ.1 18 i)), (6, j_i (τ.1 18 i))]) (by decide +kernel) rfl (Nat.le_of_ble_eq_true rfl) rfl ?_
              refine a_goto (pc := 93) (off := -90) (tgt := 3) (by decide +kernel) (by decide) ?_
              refine a_sub (pc := 3) (lv' := [(0, .ref 16), (1, j_i a), (2, j_i m9), (3, j_i b), (4, j_i (i + 1))]) (fun q hq => by simp only [List.mem_cons, List.not_mem_nil, or_false] at hq ⊢; rcases hq with rfl | rfl | rfl | rfl | rfl <;> simp) ?_
              try rw [et] at hσ6
              rw [hσ6, hτ, k_AA, k_sA_sA, f_map_up h0 (by unfold f_shW; split <;> (try split) <;> (try split) <;> omega)]
              exact ih (i + 1) (by omega) (by omega) (by omega)
          · refine a_iload (pc := 57) (i := 5) (by decide +kernel) rfl ?_
            refine a_iload_n (pc := 59) (i := 2) (by decide +kernel) rfl ?_
            refine a_isub (pc := 60) (by decide +kernel) ?_
            refine a_goto (pc := 61) (off := 5) (tgt := 66) (by decide +kernel) (by decide) ?_
            refine a_istore (pc := 66) (i := 6) (lv' := [(0, .ref 16), (1, j_i a), (2, j_i m9), (3, j_i b), (4, j_i i), (5, j_i (τ.1 18 i)), (6, j_i ((τ.1 18 i) - m9))]) (by decide +kernel) (Nat.le_of_ble_eq_true rfl) rfl ?_
            refine a_aload_n (pc := 68) (i := 0) (by decide +kernel) rfl ?_
            refine b_getR (pc := 69) (b := 18) fl_X7_15 (by decide +kernel) (sh_16 hn) rfl ?_
            refine a_iload (pc := 72) (i := 4) (by decide +kernel) rfl ?_
            refine a_iload (pc := 74) (i := 6) (by decide +kernel) rfl ?_
            refine a_iload_n (pc := 76) (i := 3) (by decide +kernel) rfl ?_
            refine a_icmp_le (pc := 77) (off := 10) (tgt := 87) (by decide +kernel) (by decide) (by omega) (by omega) (fun c77 => ?_) (fun c77 => ?_)
            · refine a_iload (pc := 87) (i := 6) (by decide +kernel) rfl ?_
              refine b_iastore (pc := 89) (by decide +kernel) (sh_18 hn) (by omega) (by omega) (by omega) ?_
              obtain ⟨σ7, hσ7⟩ : ∃ z, z = k_sA τ 18 (j_up (τ.1 18) i ((τ.1 18 i) - m9)) := ⟨_, rfl⟩
              rw [← hσ7]
              refine a_iinc (pc := 90) (i := 4) (n := 1) (x := i) (lv' := [(0, .ref 16), (1, j_i a), (2, j_i m9), (3, j_i b), (4, j_i (i + 1)), (5, j_i (τ.1 18 i)), (6, j_i ((τ.1 18 i) - m9))]) (by decide +kernel) rfl (Nat.le_of_ble_eq_true rfl) rfl ?_
              refine a_goto (pc := 93) (off := -90) (tgt := 3) (by decide +kernel) (by decide) ?_
              refine a_sub (pc := 3) (lv' := [(0, .ref 16), (1, j_i a), (2, j_i m9), (3, j_i b), (4, j_i (i + 1))]) (fun q hq => by simp only [List.mem_cons, List.not_mem_nil, or_false] at hq ⊢; rcases hq with rfl | rfl | rfl | rfl | rfl <;> simp) ?_
              try rw [et] at hσ7
              rw [hσ7, hτ, k_AA, k_sA_sA, f_map_up h0 (by unfold f_shW; split <;> (try split) <;> (try split) <;> omega)]
              exact ih (i + 1) (by omega) (by omega) (by omega)
            · refine a_iload (pc := 80) (i := 6) (by decide +kernel) rfl ?_
              refine a_iload_n (pc := 82) (i := 2) (by decide +kernel) rfl ?_
              refine a_iadd (pc := 83) (by decide +kernel) ?_
              refine a_goto (pc := 84) (off := 5) (tgt := 89) (by decide +kernel) (by decide) ?_
              refine b_iastore (pc := 89) (by decide +kernel) (sh_18 hn) (by omega) (by omega) (by omega) ?_
              obtain ⟨σ8, hσ8⟩ : ∃ z, z = k_sA τ 18 (j_up (τ.1 18) i (((τ.1 18 i) - m9) + m9)) := ⟨_, rfl⟩
              rw [← hσ8]
              refine a_iinc (pc := 90) (i := 4) (n := 1) (x := i) (lv' := [(0, .ref 16), (1, j_i a), (2, j_i m9), (3, j_i b), (4, j_i (i + 1)), (5, j_i (τ.1 18 i)), (6, j_i ((τ.1 18 i) - m9))]) (by decide +kernel) rfl (Nat.le_of_ble_eq_true rfl) rfl ?_
              refine a_goto (pc := 93) (off := -90) (tgt := 3) (by decide +kernel) (by decide) ?_
              refine a_sub (pc := 3) (lv' := [(0, .ref 16), (1, j_i a), (2, j_i m9), (3, j_i b), (4, j_i (i + 1))]) (fun q hq => by simp only [List.mem_cons, List.not_mem_nil, or_false] at hq ⊢; rcases hq with rfl | rfl | rfl | rfl | rfl <;> simp) ?_
              try rw [et] at hσ8
              rw [hσ8, hτ, k_AA, k_sA_sA, f_map_up h0 (by unfold f_shW; split <;> (try split) <;> (try split) <;> omega)]
              exact ih (i + 1) (by omega) (by omega) (by omega)
        · refine a_aload_n (pc := 35) (i := 0) (by decide +kernel) rfl ?_
          refine b_getR (pc := 36) (b := 18) fl_X7_15 (by decide +kernel) (sh_16 hn) rfl ?_
          refine a_iload (pc := 39) (i := 4) (by decide +kernel) rfl ?_
          refine a_iload (pc := 41) (i := 5) (by decide +kernel) rfl ?_
          refine a_iload_n (pc := 43) (i := 1) (by decide +kernel) rfl ?_
          refine a_isub (pc := 44) (by decide +kernel) ?_
          refine a_iload_n (pc := 45) (i := 3) (by decide +kernel) rfl ?_
          refine a_iadd (pc := 46) (by decide +kernel) ?_
          refine b_iastore (pc := 47) (by decide +kernel) (sh_18 hn) (by omega) (by omega) (by omega) ?_
          obtain ⟨σ9, hσ9⟩ : ∃ z, z = k_sA τ 18 (j_up (τ.1 18) i (((τ.1 18 i) - a) + b)) := ⟨_, rfl⟩
          rw [← hσ9]
          refine a_goto (pc := 48) (off := 42) (tgt := 90) (by decide +kernel) (by decide) ?_
          refine a_iinc (pc := 90) (i := 4) (n := 1) (x := i) (lv' := [(0, .ref 16), (1, j_i a), (2, j_i m9), (3, j_i b), (4, j_i (i + 1)), (5, j_i (τ.1 18 i))]) (by decide +kernel) rfl (Nat.le_of_ble_eq_true rfl) rfl ?_
          refine a_goto (pc := 93) (off := -90) (tgt := 3) (by decide +kernel) (by decide) ?_
          refine a_sub (pc := 3) (lv' := [(0, .ref 16), (1, j_i a), (2, j_i m9), (3, j_i b), (4, j_i (i + 1))]) (fun q hq => by simp only [List.mem_cons, List.not_mem_nil, or_false] at hq ⊢; rcases hq with rfl | rfl | rfl | rfl | rfl <;> simp) ?_
          try rw [et] at hσ9
          rw [hσ9, hτ, k_AA, k_sA_sA, f_map_up h0 (by unfold f_shW; split <;> (try split) <;> (try split) <;> omega)]
          exact ih (i + 1) (by omega) (by omega) (by omega)
set_option maxHeartbeats 4000000 in
theorem s_shiftWithWords {G : j_G} {X : k_X} {n : Nat} {σ : k_St} (hn : 101 ≤ n) (hw : m_wf σ 16) {a m9 b : Int} (h1 : 0 ≤ a ∧ a ≤ 300) (h2 : 0 ≤ m9 ∧ m9 ≤ 300) (h3 : 0 ≤ b ∧ b ≤ 300) : k_run G X mX7_shiftWithWords [.ref 16, j_i a, j_i m9, j_i b] n σ 0 0 (k_is n (k_sA σ 18 (f_map (f_shW a m9 b) (σ.1 18) (σ.2.1 16 5))) none) := by
  obtain ⟨he, hg, hm9⟩ := id hw
  have hg : ∀ i : Int, σ.1 21 i = 0 ∨ σ.1 21 i = 1 := hg
  have hv : ∀ m : Int, 0 ≤ m → m < σ.2.1 16 5 → (0 ≤ σ.1 17 m ∧ σ.1 17 m ≤ 7) ∧ (0 ≤ σ.1 18 m ∧ σ.1 18 m ≤ 300) ∧ (0 ≤ σ.1 19 m ∧ σ.1 19 m ≤ 29790) ∧ (0 ≤ σ.1 20 m ∧ σ.1 20 m ≤ 99) := hm9
  clear hm9
  refine k_enter (by decide +kernel) (Nat.le_of_ble_eq_true rfl) ?_
  show j_at _ _ _ [(0, .ref 16), (1, j_i a), (2, j_i m9), (3, j_i b)] [] _ _ _ _
  refine a_iconst (pc := 0) (n := 0) (by decide +kernel) ?_
  refine a_istore (pc := 1) (i := 4) (lv' := [(0, .ref 16), (1, j_i a), (2, j_i m9), (3, j_i b), (4, j_i 0)]) (by decide +kernel) (Nat.le_of_ble_eq_true rfl) rfl ?_
  have e0 : σ = (k_sA σ 18 (f_map (f_shW a m9 b) (σ.1 18) 0)) := by rw [f_map_0]; exact (k_sA_id rfl).symm
  have e1 := l_shiftWithWords (G := G) (X := X) hn hw h1 h2 h3 51 0 (by omega) (by omega) he.1
  rw [← e0] at e1
  exact e1
