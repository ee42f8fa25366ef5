def f_lt (c : Int) : Prop := (65 ≤ c ∧ c ≤ 90) ∨ (97 ≤ c ∧ c ≤ 122)
def dp_sm (σ : k_St) (p : Int) : Prop := σ.1 73 p = σ.2.1 68 7 ∧ ∀ k, 0 ≤ k → k < σ.2.1 68 7 → σ.1 72 (16 * p + k) = f_fold (σ.1 71 k)
def dp_ok (σ : k_St) : Prop := (0 < σ.2.1 68 7 ∧ ∀ k, 0 ≤ k → k < σ.2.1 68 7 → f_lt (σ.1 71 k)) ∧ ∀ p, 0 ≤ p → p < σ.2.1 68 10 → ¬ dp_sm σ p
def dp_N (P N : Int → Int) (m L k : Int) : Int → Int := fun j => if 16 * m ≤ j ∧ j < 16 * m + k then f_fold (N (j - 16 * m)) else P j
theorem dp_N_s {P N : Int → Int} {m L k : Int} (h0 : 0 ≤ k) : j_up (dp_N P N m L k) (16 * m + k) (f_fold (N k)) = dp_N P N m L (k + 1) := by
  funext j
  unfold j_up dp_N
  by_cases q : j = 16 * m + k
  · rw [if_pos q, if_pos (by omega), show j - 16 * m = k by omega]
  · rw [if_neg q]
    by_cases r : 16 * m ≤ j ∧ j < 16 * m + k
    · rw [if_pos r, if_pos (by omega)]
    · rw [if_neg r, if_neg (by omega)]
set_option maxHeartbeats 4000000 in
theorem l_dpass163 {G : j_G} {X : k_X} {n : Nat} {σ : k_St} (hn : 101 ≤ n) (hL : 0 ≤ σ.2.1 68 7 ∧ σ.2.1 68 7 ≤ 16) (hnm : ∀ k, 0 ≤ k → k < σ.2.1 68 7 → 32 ≤ σ.1 71 k ∧ σ.1 71 k ≤ 126) (hp4 : 0 ≤ σ.2.1 68 10 ∧ σ.2.1 68 10 ≤ 4) (hpl : ∀ p, 0 ≤ p → p < σ.2.1 68 10 → 0 ≤ σ.1 73 p ∧ σ.1 73 p ≤ 16) (hpv : ∀ p k, 0 ≤ p → p < σ.2.1 68 10 → 0 ≤ k → k < σ.1 73 p → -128 ≤ σ.1 72 (16 * p + k) ∧ σ.1 72 (16 * p + k) ≤ 200) (hok : dp_ok σ) (hlt : σ.2.1 68 10 < 4)  : ∀ (m : Nat) (k : Int) (τ : k_St), 16 - k < (m : Int) → 0 ≤ k → k ≤ σ.2.1 68 7 → τ = k_sA σ 72 (dp_N (σ.1 72) (σ.1 71) (σ.2.1 68 10) (σ.2.1 68 7) k) → j_at G mX12_pass 163 [(0, .ref 68), (1, j_i 1), (2, j_i k)] [] (k_h X n τ) 0 0 (k_Q X (fun v n' σ' => n' = n ∧ ((¬ dp_ok σ ∧ v = some (j_i (-3)) ∧ σ' = σ) ∨ (dp_ok σ ∧ 4 ≤ σ.2.1 68 10 ∧ v = some (j_i (-4)) ∧ σ' = σ) ∨ (dp_ok σ ∧ σ.2.1 68 10 < 4 ∧ v = some (j_i (σ.2.1 68 10 + 1)) ∧ σ' = k_sI (k_sA (k_sA σ 72 (dp_N (σ.1 72) (σ.1 71) (σ.2.1 68 10) (σ.2.1 68 7) (σ.2.1 68 7))) 73 (j_up (σ.1 73) (σ.2.1 68 10) (σ.2.1 68 7))) 68 10 (σ.2.1 68 10 + 1))))) := by
  intro m
  induction m with
  | zero => intro k τ h1 h2 h3; exact absurd h1 (by omega)
  | succ m ih =>
    intro k τ hm h0 hN hτ
    refine a_iload_n (pc := 163) (i := 2) (by decide +kernel) rfl ?_
    refine a_aload_n (pc := 164) (i := 0) (by decide +kernel) rfl ?_
    refine b_getI (pc := 165) fl_X12_195 (by decide +kernel) (sh_68 hn) rfl ?_
    rw [show τ.2.1 68 7 = σ.2.1 68 7 from (by rw [hτ]; rfl)]
    refine a_icmp_ge (pc := 168) (off := 32) (tgt := 200) (by decide +kernel) (by decide) (by omega) (by omega) (fun c168 => ?_) (fun c168 => ?_)
    · refine a_aload_n (pc := 200) (i := 0) (by decide +kernel) rfl ?_
      refine b_getR (pc := 201) (b := 73) fl_X12_23 (by decide +kernel) (sh_68 hn) rfl ?_
      refine a_aload_n (pc := 204) (i := 0) (by decide +kernel) rfl ?_
      refine b_getI (pc := 205) fl_X12_215 (by decide +kernel) (sh_68 hn) rfl ?_
      rw [show τ.2.1 68 10 = σ.2.1 68 10 from (by rw [hτ]; rfl)]
      refine a_aload_n (pc := 208) (i := 0) (by decide +kernel) rfl ?_
      refine b_getI (pc := 209) fl_X12_195 (by decide +kernel) (sh_68 hn) rfl ?_
      rw [show τ.2.1 68 7 = σ.2.1 68 7 from (by rw [hτ]; rfl)]
      refine b_iastore (pc := 212) (by decide +kernel) (sh_73 hn) (by omega) (by omega) (by omega) ?_
      obtain ⟨σ1, hσ1⟩ : ∃ z, z = k_sA τ 73 (j_up (τ.1 73) (σ.2.1 68 10) (σ.2.1 68 7)) := ⟨_, rfl⟩
      rw [← hσ1]
      refine a_aload_n (pc := 213) (i := 0) (by decide +kernel) rfl ?_
      refine a_dup (pc := 214) (by decide +kernel) rfl ?_
      refine b_getI (pc := 215) fl_X12_215 (by decide +kernel) (sh_68 hn) rfl ?_
      rw [show σ1.2.1 68 10 = τ.2.1 68 10 by rw [hσ1]; rfl]
      rw [show τ.2.1 68 10 = σ.2.1 68 10 from (by rw [hτ]; rfl)]
      refine a_iconst (pc := 218) (n := 1) (by decide +kernel) ?_
      refine a_iadd (pc := 219) (by decide +kernel) ?_
      refine b_putI (pc := 220) fl_X12_215 (by decide +kernel) (sh_68 hn) rfl rfl rfl ?_
      obtain ⟨σ2, hσ2⟩ : ∃ z, z = k_sI σ1 68 10 ((σ.2.1 68 10) + 1) := ⟨_, rfl⟩
      rw [← hσ2]
      refine a_aload_n (pc := 223) (i := 0) (by decide +kernel) rfl ?_
      refine b_getI (pc := 224) fl_X12_215 (by decide +kernel) (sh_68 hn) rfl ?_
      rw [show σ2.2.1 68 10 = (σ.2.1 68 10) + 1 by rw [hσ2]; exact k_II]
      refine a_ireturn (pc := 227) (by decide +kernel) rfl ?_
      refine k_ret ?_
      exact ⟨rfl, Or.inr (Or.inr ⟨hok, hlt, rfl, by rw [hσ2, hσ1, hτ, k_AN (by omega), show k = σ.2.1 68 7 by omega]⟩)⟩
    · refine a_aload_n (pc := 171) (i := 0) (by decide +kernel) rfl ?_
      refine b_getR (pc := 172) (b := 72) fl_X12_20 (by decide +kernel) (sh_68 hn) rfl ?_
      refine a_bipush (pc := 175) (n := 16) (by decide +kernel) rfl ?_
      refine a_aload_n (pc := 177) (i := 0) (by decide +kernel) rfl ?_
      refine b_getI (pc := 178) fl_X12_215 (by decide +kernel) (sh_68 hn) rfl ?_
      rw [show τ.2.1 68 10 = σ.2.1 68 10 from (by rw [hτ]; rfl)]
      refine a_imul (pc := 181) (by decide +kernel) ?_
      refine a_iload_n (pc := 182) (i := 2) (by decide +kernel) rfl ?_
      refine a_iadd (pc := 183) (by decide +kernel) ?_
      refine a_aload_n (pc := 184) (i := 0) (by decide +kernel) rfl ?_
      refine b_getR (pc := 185) (b := 71) fl_X12_17 (by decide +kernel) (sh_68 hn) rfl ?_
      refine a_iload_n (pc := 188) (i := 2) (by decide +kernel) rfl ?_
      refine b_iaload (pc := 189) (by decide +kernel) (sh_71 hn) (by omega) (by omega) (by omega) ?_
      rw [show τ.1 71 = σ.1 71 from (by rw [hτ, k_AN (by omega)])]
      have x1 := hnm k (by omega) (by omega)
      refine b_pureS (pc := 190) [j_i (σ.1 71 k)] [j_i ((16 * (σ.2.1 68 10)) + k), .ref 72] ml_X12_218 (by decide +kernel) rfl rfl (Nat.le_of_ble_eq_true rfl) (j_fitI rfl rfl) (s_dsmall (by omega)) ?_
      show j_at _ _ _ [(0, .ref 68), (1, j_i 1), (2, j_i k)] [j_i (f_fold (σ.1 71 k)), j_i ((16 * (σ.2.1 68 10)) + k), .ref 72] _ _ _ _
      refine b_iastore (pc := 193) (by decide +kernel) (sh_72 hn) (by omega) (by omega) (by omega) ?_
      obtain ⟨σ4, hσ4⟩ : ∃ z, z = k_sA τ 72 (j_up (τ.1 72) ((16 * (σ.2.1 68 10)) + k) (f_fold (σ.1 71 k))) := ⟨_, rfl⟩
      rw [← hσ4]
      refine a_iinc (pc := 194) (i := 2) (n := 1) (x := k) (lv' := [(0, .ref 68), (1, j_i 1), (2, j_i (k + 1))]) (by decide +kernel) rfl (Nat.le_of_ble_eq_true rfl) rfl ?_
      refine a_goto (pc := 197) (off := -34) (tgt := 163) (by decide +kernel) (by decide) ?_
      exact ih (k + 1) σ4 (by omega) (by omega) (by omega) (by rw [hσ4, hτ, k_AA, k_sA2, dp_N_s h0])
set_option maxHeartbeats 4000000 in
theorem l_dpass77 {G : j_G} {X : k_X} {n : Nat} {σ : k_St} (hn : 101 ≤ n) (hL : 0 ≤ σ.2.1 68 7 ∧ σ.2.1 68 7 ≤ 16) (hnm : ∀ k, 0 ≤ k → k < σ.2.1 68 7 → 32 ≤ σ.1 71 k ∧ σ.1 71 k ≤ 126) (hp4 : 0 ≤ σ.2.1 68 10 ∧ σ.2.1 68 10 ≤ 4) (hpl : ∀ p, 0 ≤ p → p < σ.2.1 68 10 → 0 ≤ σ.1 73 p ∧ σ.1 73 p ≤ 16) (hpv : ∀ p k, 0 ≤ p → p < σ.2.1 68 10 → 0 ≤ k → k < σ.1 73 p → -128 ≤ σ.1 72 (16 * p + k) ∧ σ.1 72 (16 * p + k) ≤ 200) {p f : Int} (hp : 0 ≤ p ∧ p < σ.2.1 68 10) {Q : k_P} (kk : ∀ k' b' : Int, (b' = 0 ∨ b' = 1) → (b' = 1 ↔ dp_sm σ p) → j_at G mX12_pass 127 [(0, .ref 68), (1, j_i f), (2, j_i p), (3, j_i b'), (4, j_i k')] [] (k_h X n σ) 0 0 (k_Q X Q))  : ∀ (m : Nat) (k b : Int), 16 - k < (m : Int) → 0 ≤ k → k ≤ σ.2.1 68 7 → (b = 0 ∧ ¬ dp_sm σ p ∨ b = 1 ∧ σ.1 73 p = σ.2.1 68 7 ∧ ∀ j, 0 ≤ j → j < k → σ.1 72 (16 * p + j) = f_fold (σ.1 71 j)) → j_at G mX12_pass 77 [(0, .ref 68), (1, j_i f), (2, j_i p), (3, j_i b), (4, j_i k)] [] (k_h X n σ) 0 0 (k_Q X Q) := by
  intro m
  induction m with
  | zero => intro k b h1 h2 h3; exact absurd h1 (by omega)
  | succ m ih =>
    intro k b hm h0 hN hb
    have hb01 : b = 0 ∨ b = 1 := by rcases hb with q | q <;> omega
    refine a_iload (pc := 77) (i := 4) (by decide +kernel) rfl ?_
    refine a_aload_n (pc := 79) (i := 0) (by decide +kernel) rfl ?_
    refine b_getI (pc := 80) fl_X12_195 (by decide +kernel) (sh_68 hn) rfl ?_
    refine a_icmp_ge (pc := 83) (off := 44) (tgt := 127) (by decide +kernel) (by decide) (by omega) (by omega) (fun c83 => ?_) (fun c83 => ?_)
    · have hfin : b = 1 ↔ dp_sm σ p := by
        rcases hb with ⟨q1, q2⟩ | ⟨q1, q2, q3⟩
        · exact ⟨fun g => by omega, fun g => absurd g q2⟩
        · exact ⟨fun _ => ⟨q2, fun j j0 j1 => q3 j j0 (by omega)⟩, fun _ => q1⟩
      exact kk k b hb01 hfin
    · refine a_iload_n (pc := 86) (i := 3) (by decide +kernel) rfl ?_
      refine a_if_eq (pc := 87) (off := 40) (tgt := 127) (by decide +kernel) (by decide) (by omega) (fun c87 => ?_) (fun c87 => ?_)
      · have hfin : b = 1 ↔ dp_sm σ p := by
          rcases hb with ⟨q1, q2⟩ | ⟨q1, q2, q3⟩
          · exact ⟨fun g => by omega, fun g => absurd g q2⟩
          · exact ⟨fun _ => ⟨q2, fun j j0 j1 => q3 j j0 (by omega)⟩, fun _ => q1⟩
        exact kk k b hb01 hfin
      · have hb1 : b = 1 := by omega
        have hc0 := hb.resolve_left (fun q => by omega)
        have x1 := hnm k (by omega) (by omega)
        have x2 := hpv p k (by omega) (by omega) (by omega) (by omega)
        have x3 := f_fold_in (s := σ.1 71 k) (by omega)
        refine a_aload_n (pc := 90) (i := 0) (by decide +kernel) rfl ?_
        refine b_getR (pc := 91) (b := 72) fl_X12_20 (by decide +kernel) (sh_68 hn) rfl ?_
        refine a_bipush (pc := 94) (n := 16) (by decide +kernel) rfl ?_
        refine a_iload_n (pc := 96) (i := 2) (by decide +kernel) rfl ?_
        refine a_imul (pc := 97) (by decide +kernel) ?_
        refine a_iload (pc := 98) (i := 4) (by decide +kernel) rfl ?_
        refine a_iadd (pc := 100) (by decide +kernel) ?_
        refine b_iaload (pc := 101) (by decide +kernel) (sh_72 hn) (by omega) (by omega) (by omega) ?_
        refine a_aload_n (pc := 102) (i := 0) (by decide +kernel) rfl ?_
        refine b_getR (pc := 103) (b := 71) fl_X12_17 (by decide +kernel) (sh_68 hn) rfl ?_
        refine a_iload (pc := 106) (i := 4) (by decide +kernel) rfl ?_
        refine b_iaload (pc := 108) (by decide +kernel) (sh_71 hn) (by omega) (by omega) (by omega) ?_
        refine b_pureS (pc := 109) [j_i (σ.1 71 k)] [j_i (σ.1 72 ((16 * p) + k))] ml_X12_218 (by decide +kernel) rfl rfl (Nat.le_of_ble_eq_true rfl) (j_fitI rfl rfl) (s_dsmall (by omega)) ?_
        show j_at _ _ _ [(0, .ref 68), (1, j_i f), (2, j_i p), (3, j_i b), (4, j_i k)] [j_i (f_fold (σ.1 71 k)), j_i (σ.1 72 ((16 * p) + k))] _ _ _ _
        refine a_icmp_ne (pc := 112) (off := 7) (tgt := 119) (by decide +kernel) (by decide) (by omega) (by omega) (fun c112 => ?_) (fun c112 => ?_)
        · refine a_iconst (pc := 119) (n := 0) (by decide +kernel) ?_
          refine a_istore_n (pc := 120) (i := 3) (lv' := [(0, .ref 68), (1, j_i f), (2, j_i p), (3, j_i 0), (4, j_i k)]) (by decide +kernel) (Nat.le_of_ble_eq_true rfl) rfl ?_
          refine a_iinc (pc := 121) (i := 4) (n := 1) (x := k) (lv' := [(0, .ref 68), (1, j_i f), (2, j_i p), (3, j_i 0), (4, j_i (k + 1))]) (by decide +kernel) rfl (Nat.le_of_ble_eq_true rfl) rfl ?_
          refine a_goto (pc := 124) (off := -47) (tgt := 77) (by decide +kernel) (by decide) ?_
          exact ih (k + 1) 0 (by omega) (by omega) (by omega) (Or.inl ⟨rfl, fun q => c112 (q.2 k (by omega) (by omega))⟩)
        · refine a_iconst (pc := 115) (n := 1) (by decide +kernel) ?_
          refine a_goto (pc := 116) (off := 4) (tgt := 120) (by decide +kernel) (by decide) ?_
          refine a_istore_n (pc := 120) (i := 3) (lv' := [(0, .ref 68), (1, j_i f), (2, j_i p), (3, j_i 1), (4, j_i k)]) (by decide +kernel) (Nat.le_of_ble_eq_true rfl) rfl ?_
          refine a_iinc (pc := 121) (i := 4) (n := 1) (x := k) (lv' := [(0, .ref 68), (1, j_i f), (2, j_i p), (3, j_i 1), (4, j_i (k + 1))]) (by decide +kernel) rfl (Nat.le_of_ble_eq_true rfl) rfl ?_
          refine a_goto (pc := 124) (off := -47) (tgt := 77) (by decide +kernel) (by decide) ?_
          exact ih (k + 1) 1 (by omega) (by omega) (by omega) (Or.inr ⟨rfl, hc0.2.1, fun j j0 j1 => by by_cases g : j = k; rw [g]; exact c112; exact hc0.2.2 j j0 (by omega)⟩)
set_option maxHeartbeats 4000000 in
theorem l_dpass43 {G : j_G} {X : k_X} {n : Nat} {σ : k_St} (hn : 101 ≤ n) (hL : 0 ≤ σ.2.1 68 7 ∧ σ.2.1 68 7 ≤ 16) (hnm : ∀ k, 0 ≤ k → k < σ.2.1 68 7 → 32 ≤ σ.1 71 k ∧ σ.1 71 k ≤ 126) (hp4 : 0 ≤ σ.2.1 68 10 ∧ σ.2.1 68 10 ≤ 4) (hpl : ∀ p, 0 ≤ p → p < σ.2.1 68 10 → 0 ≤ σ.1 73 p ∧ σ.1 73 p ≤ 16) (hpv : ∀ p k, 0 ≤ p → p < σ.2.1 68 10 → 0 ≤ k → k < σ.1 73 p → -128 ≤ σ.1 72 (16 * p + k) ∧ σ.1 72 (16 * p + k) ≤ 200)  : ∀ (m : Nat) (p f : Int), 4 - p < (m : Int) → 0 ≤ p → p ≤ σ.2.1 68 10 → (f = 0 ∨ f = 1) → (f = 1 ↔ (0 < σ.2.1 68 7 ∧ ∀ k, 0 ≤ k → k < σ.2.1 68 7 → f_lt (σ.1 71 k)) ∧ ∀ j, 0 ≤ j → j < p → ¬ dp_sm σ j) → j_at G mX12_pass 43 [(0, .ref 68), (1, j_i f), (2, j_i p)] [] (k_h X n σ) 0 0 (k_Q X (fun v n' σ' => n' = n ∧ ((¬ dp_ok σ ∧ v = some (j_i (-3)) ∧ σ' = σ) ∨ (dp_ok σ ∧ 4 ≤ σ.2.1 68 10 ∧ v = some (j_i (-4)) ∧ σ' = σ) ∨ (dp_ok σ ∧ σ.2.1 68 10 < 4 ∧ v = some (j_i (σ.2.1 68 10 + 1)) ∧ σ' = k_sI (k_sA (k_sA σ 72 (dp_N (σ.1 72) (σ.1 71) (σ.2.1 68 10) (σ.2.1 68 7) (σ.2.1 68 7))) 73 (j_up (σ.1 73) (σ.2.1 68 10) (σ.2.1 68 7))) 68 10 (σ.2.1 68 10 + 1))))) := by
  intro m
  induction m with
  | zero => intro p f h1 h2 h3; exact absurd h1 (by omega)
  | succ m ih =>
    intro p f hm h0 hN hf01 hf
    refine a_iload_n (pc := 43) (i := 2) (by decide +kernel) rfl ?_
    refine a_aload_n (pc := 44) (i := 0) (by decide +kernel) rfl ?_
    refine b_getI (pc := 45) fl_X12_215 (by decide +kernel) (sh_68 hn) rfl ?_
    refine a_icmp_ge (pc := 48) (off := 95) (tgt := 143) (by decide +kernel) (by decide) (by omega) (by omega) (fun c48 => ?_) (fun c48 => ?_)
    · refine a_iload_n (pc := 143) (i := 1) (by decide +kernel) rfl ?_
      refine a_if_ne (pc := 144) (off := 6) (tgt := 150) (by decide +kernel) (by decide) (by omega) (fun c144 => ?_) (fun c144 => ?_)
      · refine a_aload_n (pc := 150) (i := 0) (by decide +kernel) rfl ?_
        refine b_getI (pc := 151) fl_X12_215 (by decide +kernel) (sh_68 hn) rfl ?_
        refine a_iconst (pc := 154) (n := 4) (by decide +kernel) ?_
        refine a_icmp_ne (pc := 155) (off := 6) (tgt := 161) (by decide +kernel) (by decide) (by omega) (by omega) (fun c155 => ?_) (fun c155 => ?_)
        · refine a_iconst (pc := 161) (n := 0) (by decide +kernel) ?_
          refine a_istore_n (pc := 162) (i := 2) (lv' := [(0, .ref 68), (1, j_i f), (2, j_i 0)]) (by decide +kernel) (Nat.le_of_ble_eq_true rfl) rfl ?_
          have hok : dp_ok σ := by
            have g := hf.mp (by omega)
            exact ⟨g.1, fun j j0 j1 => g.2 j j0 (by omega)⟩
          rw [show f = 1 by omega]
          exact l_dpass163 hn hL hnm hp4 hpl hpv hok (by omega) 17 0 σ (by omega) (by omega) (by omega) (by rw [show dp_N (σ.1 72) (σ.1 71) (σ.2.1 68 10) (σ.2.1 68 7) 0 = σ.1 72 by funext j; unfold dp_N; rw [if_neg (by omega)], k_sA0])
        · refine a_bipush (pc := 158) (n := (-4)) (by decide +kernel) rfl ?_
          refine a_ireturn (pc := 160) (by decide +kernel) rfl ?_
          refine k_ret ?_
          have hok : dp_ok σ := by
            have g := hf.mp (by omega)
            exact ⟨g.1, fun j j0 j1 => g.2 j j0 (by omega)⟩
          exact ⟨rfl, Or.inr (Or.inl ⟨hok, by omega, rfl, rfl⟩)⟩
      · refine a_bipush (pc := 147) (n := (-3)) (by decide +kernel) rfl ?_
        refine a_ireturn (pc := 149) (by decide +kernel) rfl ?_
        refine k_ret ?_
        refine ⟨rfl, Or.inl ⟨fun g => ?_, rfl, rfl⟩⟩
        have := hf.mpr ⟨g.1, fun j j0 j1 => g.2 j j0 (by omega)⟩
        omega
    · refine a_iload_n (pc := 51) (i := 1) (by decide +kernel) rfl ?_
      refine a_if_eq (pc := 52) (off := 91) (tgt := 143) (by decide +kernel) (by decide) (by omega) (fun c52 => ?_) (fun c52 => ?_)
      · refine a_iload_n (pc := 143) (i := 1) (by decide +kernel) rfl ?_
        refine a_if_ne (pc := 144) (off := 6) (tgt := 150) (by decide +kernel) (by decide) (by omega) (fun c144 => ?_) (fun c144 => ?_)
        · refine a_aload_n (pc := 150) (i := 0) (by decide +kernel) rfl ?_
          refine b_getI (pc := 151) fl_X12_215 (by decide +kernel) (sh_68 hn) rfl ?_
          refine a_iconst (pc := 154) (n := 4) (by decide +kernel) ?_
          refine a_icmp_ne (pc := 155) (off := 6) (tgt := 161) (by decide +kernel) (by decide) (by omega) (by omega) (fun c155 => ?_) (fun c155 => ?_)
          · refine a_iconst (pc := 161) (n := 0) (by decide +kernel) ?_
            refine a_istore_n (pc := 162) (i := 2) (lv' := [(0, .ref 68), (1, j_i f), (2, j_i 0)]) (by decide +kernel) (Nat.le_of_ble_eq_true rfl) rfl ?_
            have hok : dp_ok σ := by
              have g := hf.mp (by omega)
              exact ⟨g.1, fun j j0 j1 => g.2 j j0 (by omega)⟩
            rw [show f = 1 by omega]
            exact l_dpass163 hn hL hnm hp4 hpl hpv hok (by omega) 17 0 σ (by omega) (by omega) (by omega) (by rw [show dp_N (σ.1 72) (σ.1 71) (σ.2.1 68 10) (σ.2.1 68 7) 0 = σ.1 72 by funext j; unfold dp_N; rw [if_neg (by omega)], k_sA0])
          · refine a_bipush (pc := 158) (n := (-4)) (by decide +kernel) rfl ?_
            refine a_ireturn (pc := 160) (by decide +kernel) rfl ?_
            refine k_ret ?_
            have hok : dp_ok σ := by
              have g := hf.mp (by omega)
              exact ⟨g.1, fun j j0 j1 => g.2 j j0 (by omega)⟩
            exact ⟨rfl, Or.inr (Or.inl ⟨hok, by omega, rfl, rfl⟩)⟩
        · refine a_bipush (pc := 147) (n := (-3)) (by decide +kernel) rfl ?_
          refine a_ireturn (pc := 149) (by decide +kernel) rfl ?_
          refine k_ret ?_
          refine ⟨rfl, Or.inl ⟨fun g => ?_, rfl, rfl⟩⟩
          have := hf.mpr ⟨g.1, fun j j0 j1 => g.2 j j0 (by omega)⟩
          omega
      · have x0 := hpl p h0 (by omega)
        refine a_aload_n (pc := 55) (i := 0) (by decide +kernel) rfl ?_
        refine b_getR (pc := 56) (b := 73) fl_X12_23 (by decide +kernel) (sh_68 hn) rfl ?_
        refine a_iload_n (pc := 59) (i := 2) (by decide +kernel) rfl ?_
        refine b_iaload (pc := 60) (by decide +kernel) (sh_73 hn) (by omega) (by omega) (by omega) ?_
        refine a_aload_n (pc := 61) (i := 0) (by decide +kernel) rfl ?_
        refine b_getI (pc := 62) fl_X12_195 (by decide +kernel) (sh_68 hn) rfl ?_
        refine a_icmp_ne (pc := 65) (off := 7) (tgt := 72) (by decide +kernel) (by decide) (by omega) (by omega) (fun c65 => ?_) (fun c65 => ?_)
        · refine a_iconst (pc := 72) (n := 0) (by decide +kernel) ?_
          refine a_istore_n (pc := 73) (i := 3) (lv' := [(0, .ref 68), (1, j_i f), (2, j_i p), (3, j_i 0)]) (by decide +kernel) (Nat.le_of_ble_eq_true rfl) rfl ?_
          refine a_iconst (pc := 74) (n := 0) (by decide +kernel) ?_
          refine a_istore (pc := 75) (i := 4) (lv' := [(0, .ref 68), (1, j_i f), (2, j_i p), (3, j_i 0), (4, j_i 0)]) (by decide +kernel) (Nat.le_of_ble_eq_true rfl) rfl ?_
          refine l_dpass77 hn hL hnm hp4 hpl hpv ⟨h0, by omega⟩ (fun k' b' hb1 hb2 => ?_) 17 0 0 (by omega) (by omega) (by omega) (Or.inl ⟨rfl, fun q => c65 q.1⟩)
          refine a_iload_n (pc := 127) (i := 3) (by decide +kernel) rfl ?_
          refine a_if_ne (pc := 128) (off := 7) (tgt := 135) (by decide +kernel) (by decide) (by omega) (fun c128 => ?_) (fun c128 => ?_)
          · refine a_iconst (pc := 135) (n := 0) (by decide +kernel) ?_
            refine a_istore_n (pc := 136) (i := 1) (lv' := [(0, .ref 68), (1, j_i 0), (2, j_i p), (3, j_i b'), (4, j_i k')]) (by decide +kernel) (Nat.le_of_ble_eq_true rfl) rfl ?_
            refine a_iinc (pc := 137) (i := 2) (n := 1) (x := p) (lv' := [(0, .ref 68), (1, j_i 0), (2, j_i (p + 1)), (3, j_i b'), (4, j_i k')]) (by decide +kernel) rfl (Nat.le_of_ble_eq_true rfl) rfl ?_
            refine a_goto (pc := 140) (off := -97) (tgt := 43) (by decide +kernel) (by decide) ?_
            refine a_sub (pc := 43) (lv' := [(0, .ref 68), (1, j_i 0), (2, j_i (p + 1))]) (fun q hq => by simp only [List.mem_cons, List.not_mem_nil, or_false] at hq ⊢; rcases hq with rfl | rfl | rfl <;> simp) (ih (p + 1) 0 (by omega) (by omega) (by omega) (Or.inl rfl) ?_)
            exact ⟨fun g => absurd g (by omega), fun g => absurd (hb2.mp (by omega)) (g.2 p (by omega) (by omega))⟩
          · refine a_iconst (pc := 131) (n := 1) (by decide +kernel) ?_
            refine a_goto (pc := 132) (off := 4) (tgt := 136) (by decide +kernel) (by decide) ?_
            refine a_istore_n (pc := 136) (i := 1) (lv' := [(0, .ref 68), (1, j_i 1), (2, j_i p), (3, j_i b'), (4, j_i k')]) (by decide +kernel) (Nat.le_of_ble_eq_true rfl) rfl ?_
            refine a_iinc (pc := 137) (i := 2) (n := 1) (x := p) (lv' := [(0, .ref 68), (1, j_i 1), (2, j_i (p + 1)), (3, j_i b'), (4, j_i k')]) (by decide +kernel) rfl (Nat.le_of_ble_eq_true rfl) rfl ?_
            refine a_goto (pc := 140) (off := -97) (tgt := 43) (by decide +kernel) (by decide) ?_
            refine a_sub (pc := 43) (lv' := [(0, .ref 68), (1, j_i 1), (2, j_i (p + 1))]) (fun q hq => by simp only [List.mem_cons, List.not_mem_nil, or_false] at hq ⊢; rcases hq with rfl | rfl | rfl <;> simp) (ih (p + 1) 1 (by omega) (by omega) (by omega) (Or.inr rfl) ?_)
            exact ⟨fun _ => ⟨(hf.mp (by omega)).1, fun j j0 j1 => by
                    by_cases e : j = p
                    · rw [e]; exact fun g => absurd (hb2.mpr g) (by omega)
                    · exact (hf.mp (by omega)).2 j j0 (by omega)⟩, fun _ => rfl⟩
        · refine a_iconst (pc := 68) (n := 1) (by decide +kernel) ?_
          refine a_goto (pc := 69) (off := 4) (tgt := 73) (by decide +kernel) (by decide) ?_
          refine a_istore_n (pc := 73) (i := 3) (lv' := [(0, .ref 68), (1, j_i f), (2, j_i p), (3, j_i 1)]) (by decide +kernel) (Nat.le_of_ble_eq_true rfl) rfl ?_
          refine a_iconst (pc := 74) (n := 0) (by decide +kernel) ?_
          refine a_istore (pc := 75) (i := 4) (lv' := [(0, .ref 68), (1, j_i f), (2, j_i p), (3, j_i 1), (4, j_i 0)]) (by decide +kernel) (Nat.le_of_ble_eq_true rfl) rfl ?_
          refine l_dpass77 hn hL hnm hp4 hpl hpv ⟨h0, by omega⟩ (fun k' b' hb1 hb2 => ?_) 17 0 1 (by omega) (by omega) (by omega) (Or.inr ⟨rfl, c65, fun j j0 j1 => absurd j0 (by omega)⟩)
          refine a_iload_n (pc := 127) (i := 3) (by decide +kernel) rfl ?_
          refine a_if_ne (pc := 128) (off := 7) (tgt := 135) (by decide +kernel) (by decide) (by omega) (fun c128 => ?_) (fun c128 => ?_)
          · refine a_iconst (pc := 135) (n := 0) (by decide +kernel) ?_
            refine a_istore_n (pc := 136) (i := 1) (lv' := [(0, .ref 68), (1, j_i 0), (2, j_i p), (3, j_i b'), (4, j_i k')]) (by decide +kernel) (Nat.le_of_ble_eq_true rfl) rfl ?_
            refine a_iinc (pc := 137) (i := 2) (n := 1) (x := p) (lv' := [(0, .ref 68), (1, j_i 0), (2, j_i (p + 1)), (3, j_i b'), (4, j_i k')]) (by decide +kernel) rfl (Nat.le_of_ble_eq_true rfl) rfl ?_
            refine a_goto (pc := 140) (off := -97) (tgt := 43) (by decide +kernel) (by decide) ?_
            refine a_sub (pc := 43) (lv' := [(0, .ref 68), (1, j_i 0), (2, j_i (p + 1))]) (fun q hq => by simp only [List.mem_cons, List.not_mem_nil, or_false] at hq ⊢; rcases hq with rfl | rfl | rfl <;> simp) (ih (p + 1) 0 (by omega) (by omega) (by omega) (Or.inl rfl) ?_)
            exact ⟨fun g => absurd g (by omega), fun g => absurd (hb2.mp (by omega)) (g.2 p (by omega) (by omega))⟩
          · refine a_iconst (pc := 131) (n := 1) (by decide +kernel) ?_
            refine a_goto (pc := 132) (off := 4) (tgt := 136) (by decide +kernel) (by decide) ?_
            refine a_istore_n (pc := 136) (i := 1) (lv' := [(0, .ref 68), (1, j_i 1), (2, j_i p), (3, j_i b'), (4, j_i k')]) (by decide +kernel) (Nat.le_of_ble_eq_true rfl) rfl ?_
            refine a_iinc (pc := 137) (i := 2) (n := 1) (x := p) (lv' := [(0, .ref 68), (1, j_i 1), (2, j_i (p + 1)), (3, j_i b'), (4, j_i k')]) (by decide +kernel) rfl (Nat.le_of_ble_eq_true rfl) rfl ?_
            refine a_goto (pc := 140) (off := -97) (tgt := 43) (by decide +kernel) (by decide) ?_
            refine a_sub (pc := 43) (lv' := [(0, .ref 68), (1, j_i 1), (2, j_i (p + 1))]) (fun q hq => by simp only [List.mem_cons, List.not_mem_nil, or_false] at hq ⊢; rcases hq with rfl | rfl | rfl <;> simp) (ih (p + 1) 1 (by omega) (by omega) (by omega) (Or.inr rfl) ?_)
            exact ⟨fun _ => ⟨(hf.mp (by omega)).1, fun j j0 j1 => by
                    by_cases e : j = p
                    · rw [e]; exact fun g => absurd (hb2.mpr g) (by omega)
                    · exact (hf.mp (by omega)).2 j j0 (by omega)⟩, fun _ => rfl⟩
set_option maxHeartbeats 4000000 in
theorem l_dpass15 {G : j_G} {X : k_X} {n : Nat} {σ : k_St} (hn : 101 ≤ n) (hL : 0 ≤ σ.2.1 68 7 ∧ σ.2.1 68 7 ≤ 16) (hnm : ∀ k, 0 ≤ k → k < σ.2.1 68 7 → 32 ≤ σ.1 71 k ∧ σ.1 71 k ≤ 126) (hp4 : 0 ≤ σ.2.1 68 10 ∧ σ.2.1 68 10 ≤ 4) (hpl : ∀ p, 0 ≤ p → p < σ.2.1 68 10 → 0 ≤ σ.1 73 p ∧ σ.1 73 p ≤ 16) (hpv : ∀ p k, 0 ≤ p → p < σ.2.1 68 10 → 0 ≤ k → k < σ.1 73 p → -128 ≤ σ.1 72 (16 * p + k) ∧ σ.1 72 (16 * p + k) ≤ 200)  : ∀ (m : Nat) (k b : Int), 16 - k < (m : Int) → 0 ≤ k → k ≤ σ.2.1 68 7 → (b = 0 ∨ b = 1) → (b = 1 ↔ 0 < σ.2.1 68 7 ∧ ∀ j, 0 ≤ j → j < k → f_lt (σ.1 71 j)) → j_at G mX12_pass 15 [(0, .ref 68), (1, j_i b), (2, j_i k)] [] (k_h X n σ) 0 0 (k_Q X (fun v n' σ' => n' = n ∧ ((¬ dp_ok σ ∧ v = some (j_i (-3)) ∧ σ' = σ) ∨ (dp_ok σ ∧ 4 ≤ σ.2.1 68 10 ∧ v = some (j_i (-4)) ∧ σ' = σ) ∨ (dp_ok σ ∧ σ.2.1 68 10 < 4 ∧ v = some (j_i (σ.2.1 68 10 + 1)) ∧ σ' = k_sI (k_sA (k_sA σ 72 (dp_N (σ.1 72) (σ.1 71) (σ.2.1 68 10) (σ.2.1 68 7) (σ.2.1 68 7))) 73 (j_up (σ.1 73) (σ.2.1 68 10) (σ.2.1 68 7))) 68 10 (σ.2.1 68 10 + 1))))) := by
  intro m
  induction m with
  | zero => intro k b h1 h2 h3; exact absurd h1 (by omega)
  | succ m ih =>
    intro k b hm h0 hN hb01 hb
    refine a_iload_n (pc := 15) (i := 2) (by decide +kernel) rfl ?_
    refine a_aload_n (pc := 16) (i := 0) (by decide +kernel) rfl ?_
    refine b_getI (pc := 17) fl_X12_195 (by decide +kernel) (sh_68 hn) rfl ?_
    refine a_icmp_ge (pc := 20) (off := 21) (tgt := 41) (by decide +kernel) (by decide) (by omega) (by omega) (fun c20 => ?_) (fun c20 => ?_)
    · refine a_iconst (pc := 41) (n := 0) (by decide +kernel) ?_
      refine a_istore_n (pc := 42) (i := 2) (lv' := [(0, .ref 68), (1, j_i b), (2, j_i 0)]) (by decide +kernel) (Nat.le_of_ble_eq_true rfl) rfl ?_
      exact l_dpass43 hn hL hnm hp4 hpl hpv 5 0 b (by omega) (by omega) (by omega) hb01 (hb.trans ⟨fun g => ⟨⟨g.1, fun j j0 j1 => g.2 j j0 (by omega)⟩, fun j j0 j1 => absurd j0 (by omega)⟩, fun g => ⟨g.1.1, fun j j0 j1 => g.1.2 j j0 (by omega)⟩⟩)
    · refine a_iload_n (pc := 23) (i := 1) (by decide +kernel) rfl ?_
      refine a_aload_n (pc := 24) (i := 0) (by decide +kernel) rfl ?_
      refine b_getR (pc := 25) (b := 71) fl_X12_17 (by decide +kernel) (sh_68 hn) rfl ?_
      refine a_iload_n (pc := 28) (i := 2) (by decide +kernel) rfl ?_
      refine b_iaload (pc := 29) (by decide +kernel) (sh_71 hn) (by omega) (by omega) (by omega) ?_
      have x1 := hnm k (by omega) (by omega)
      refine b_callS (pc := 30) (c' := 0) (sl' := 0) [j_i (σ.1 71 k)] [j_i b] ml_X12_212 (by decide +kernel) rfl rfl (Nat.le_of_ble_eq_true rfl) (j_fitI rfl rfl) (s_disLetter (by omega)) (fun v n' σ' hq => ?_)
      obtain ⟨x, rfl, e1, e2, hx⟩ := hq
      rw [e1, e2]; clear e1 e2
      rcases hx with ⟨rfl, p30⟩ | ⟨rfl, p30⟩
      · show j_at _ _ _ [(0, .ref 68), (1, j_i b), (2, j_i k)] [j_i 1, j_i b] _ _ _ _
        refine a_iand (pc := 33) (by decide +kernel) ?_
        rw [and_b1 hb01]
        refine a_istore_n (pc := 34) (i := 1) (lv' := [(0, .ref 68), (1, j_i b), (2, j_i k)]) (by decide +kernel) (Nat.le_of_ble_eq_true rfl) rfl ?_
        refine a_iinc (pc := 35) (i := 2) (n := 1) (x := k) (lv' := [(0, .ref 68), (1, j_i b), (2, j_i (k + 1))]) (by decide +kernel) rfl (Nat.le_of_ble_eq_true rfl) rfl ?_
        refine a_goto (pc := 38) (off := -23) (tgt := 15) (by decide +kernel) (by decide) ?_
        exact ih (k + 1) b (by omega) (by omega) (by omega) hb01 (hb.trans ⟨fun g => ⟨g.1, fun j j0 j1 => by by_cases e : j = k; rw [e]; exact p30; exact g.2 j j0 (by omega)⟩, fun g => ⟨g.1, fun j j0 j1 => g.2 j j0 (by omega)⟩⟩)
      · show j_at _ _ _ [(0, .ref 68), (1, j_i b), (2, j_i k)] [j_i 0, j_i b] _ _ _ _
        refine a_iand (pc := 33) (by decide +kernel) ?_
        rw [and_b0 hb01]
        refine a_istore_n (pc := 34) (i := 1) (lv' := [(0, .ref 68), (1, j_i 0), (2, j_i k)]) (by decide +kernel) (Nat.le_of_ble_eq_true rfl) rfl ?_
        refine a_iinc (pc := 35) (i := 2) (n := 1) (x := k) (lv' := [(0, .ref 68), (1, j_i 0), (2, j_i (k + 1))]) (by decide +kernel) rfl (Nat.le_of_ble_eq_true rfl) rfl ?_
        refine a_goto (pc := 38) (off := -23) (tgt := 15) (by decide +kernel) (by decide) ?_
        exact ih (k + 1) 0 (by omega) (by omega) (by omega) (Or.inl rfl) ⟨fun g => absurd g (by omega), fun g => absurd (g.2 k h0 (by omega)) p30⟩
set_option maxHeartbeats 4000000 in
theorem d_pass {G : j_G} {X : k_X} {n : Nat} {σ : k_St} (hn : 101 ≤ n) (hL : 0 ≤ σ.2.1 68 7 ∧ σ.2.1 68 7 ≤ 16) (hnm : ∀ k, 0 ≤ k → k < σ.2.1 68 7 → 32 ≤ σ.1 71 k ∧ σ.1 71 k ≤ 126) (hp4 : 0 ≤ σ.2.1 68 10 ∧ σ.2.1 68 10 ≤ 4) (hpl : ∀ p, 0 ≤ p → p < σ.2.1 68 10 → 0 ≤ σ.1 73 p ∧ σ.1 73 p ≤ 16) (hpv : ∀ p k, 0 ≤ p → p < σ.2.1 68 10 → 0 ≤ k → k < σ.1 73 p → -128 ≤ σ.1 72 (16 * p + k) ∧ σ.1 72 (16 * p + k) ≤ 200)  : k_run G X mX12_pass [.ref 68] n σ 0 0 (fun v n' σ' => n' = n ∧ ((¬ dp_ok σ ∧ v = some (j_i (-3)) ∧ σ' = σ) ∨ (dp_ok σ ∧ 4 ≤ σ.2.1 68 10 ∧ v = some (j_i (-4)) ∧ σ' = σ) ∨ (dp_ok σ ∧ σ.2.1 68 10 < 4 ∧ v = some (j_i (σ.2.1 68 10 + 1)) ∧ σ' = k_sI (k_sA (k_sA σ 72 (dp_N (σ.1 72) (σ.1 71) (σ.2.1 68 10) (σ.2.1 68 7) (σ.2.1 68 7))) 73 (j_up (σ.1 73) (σ.2.1 68 10) (σ.2.1 68 7))) 68 10 (σ.2.1 68 10 + 1)))) := by
  refine k_enter (by decide +kernel) (Nat.le_of_ble_eq_true rfl) ?_
  show j_at _ _ _ [(0, .ref 68)] [] _ _ _ _
  refine a_aload_n (pc := 0) (i := 0) (by decide +kernel) rfl ?_
  refine b_getI (pc := 1) fl_X12_195 (by decide +kernel) (sh_68 hn) rfl ?_
  refine a_if_le (pc := 4) (off := 7) (tgt := 11) (by decide +kernel) (by decide) (by omega) (fun c4 => ?_) (fun c4 => ?_)
  · refine a_iconst (pc := 11) (n := 0) (by decide +kernel) ?_
    refine a_istore_n (pc := 12) (i := 1) (lv' := [(0, .ref 68), (1, j_i 0)]) (by decide +kernel) (Nat.le_of_ble_eq_true rfl) rfl ?_
    refine a_iconst (pc := 13) (n := 0) (by decide +kernel) ?_
    refine a_istore_n (pc := 14) (i := 2) (lv' := [(0, .ref 68), (1, j_i 0), (2, j_i 0)]) (by decide +kernel) (Nat.le_of_ble_eq_true rfl) rfl ?_
    exact l_dpass15 hn hL hnm hp4 hpl hpv 17 0 0 (by omega) (by omega) (by omega) (Or.inl rfl) ⟨fun g => ⟨by omega, fun j j0 j1 => absurd j0 (by omega)⟩, fun g => by omega⟩
  · refine a_iconst (pc := 7) (n := 1) (by decide +kernel) ?_
    refine a_goto (pc := 8) (off := 4) (tgt := 12) (by decide +kernel) (by decide) ?_
    refine a_istore_n (pc := 12) (i := 1) (lv' := [(0, .ref 68), (1, j_i 1)]) (by decide +kernel) (Nat.le_of_ble_eq_true rfl) rfl ?_
    refine a_iconst (pc := 13) (n := 0) (by decide +kernel) ?_
    refine a_istore_n (pc := 14) (i := 2) (lv' := [(0, .ref 68), (1, j_i 1), (2, j_i 0)]) (by decide +kernel) (Nat.le_of_ble_eq_true rfl) rfl ?_
    exact l_dpass15 hn hL hnm hp4 hpl hpv 17 0 1 (by omega) (by omega) (by omega) (Or.inr rfl) ⟨fun g => ⟨by omega, fun j j0 j1 => absurd j0 (by omega)⟩, fun g => by omega⟩
def ps_ok (σ : k_St) : Prop := σ.1 32 0 ≠ 0 ∧ r_lets σ 30 1 0 ∧ ¬ y_pas σ 30 1
def ps_C (σ : k_St) (r : Int) (σ' : k_St) : Prop := (¬ ps_ok σ ∧ r = -3 ∧ σ' = σ) ∨ (ps_ok σ ∧ 4 ≤ σ.2.1 33 1 ∧ r = -4 ∧ σ' = σ) ∨ (ps_ok σ ∧ σ.2.1 33 1 < 4 ∧ r = σ.2.1 33 1 + 1 ∧ σ' = k_sI (r_cpS σ 34 30 (σ.2.1 33 1) 0 (σ.1 32 0)) 33 1 (σ.2.1 33 1 + 1))
theorem RP_wf {σ : k_St} (h : RPass σ) : y_wf σ := ⟨by rw [h.2.1]; exact h.1, h.2.2.2.1, h.2.2.1⟩
theorem s_addPassed {G : j_G} {X : k_X} {n : Nat} {σ : k_St} (hn : 101 ≤ n) (hy : y_wf σ) (hwn : r_wf σ 30 1) : k_run G X mX5_addPassed [.ref 33, .ref 30] n σ 0 0 (fun v n' σ' => n' = n ∧ ((σ.2.1 33 1 < 4 ∧ v = some (j_i 1) ∧ σ' = k_sI (r_cpS σ 34 30 (σ.2.1 33 1) 0 (σ.1 32 0)) 33 1 (σ.2.1 33 1 + 1)) ∨ (4 ≤ σ.2.1 33 1 ∧ v = some (j_i 0) ∧ σ' = σ))) := by
  by_cases h : σ.2.1 33 1 < 4
  · refine k_runw (fun v n' τ hq => ?_) (s_addPassed1 hn hy (rA_30 hn) hwn h (by omega) (by omega))
    exact ⟨hq.2.1, Or.inl ⟨h, hq.1, hq.2.2⟩⟩
  · refine k_runw (fun v n' τ hq => ?_) (s_addPassed0 hn hy (rA_30 hn) hwn (by omega))
    exact ⟨hq.2.1, Or.inr ⟨by omega, hq.1, hq.2.2⟩⟩
set_option maxHeartbeats 4000000 in
theorem c_pass {G : j_G} {X : k_X} {n : Nat} {σ : k_St} (hR : RR n σ)  : k_run G X mX11_pass [.ref 5] n σ 0 0 (fun v n' σ' => ∃ r : Int, v = some (j_i r) ∧ n' = n ∧ ps_C σ r σ') := by
  obtain ⟨hK, hAc, hNm, hPs, hPt, hSm, hIx⟩ := id hR
  have hn := RR_n hR
  have hk := hK.1
  have hwh : h_wf σ 8 := hk.2.1
  have hwm : m_wf σ 16 := hk.2.2
  have hW : 0 ≤ σ.2.1 6 1 ∧ σ.2.1 6 1 ≤ 300 := hk.1
  have hfl := hSm.1
  have hwn : r_wf σ 30 1 := RN_wf hNm
  have hy := RP_wf hPs
  refine k_enter (by decide +kernel) (Nat.le_of_ble_eq_true rfl) ?_
  show j_at _ _ _ [(0, .ref 5)] [] _ _ _ _
  refine a_aload_n (pc := 0) (i := 0) (by decide +kernel) rfl ?_
  refine b_getR (pc := 1) (b := 30) fl_X11_45 (by decide +kernel) (sh_5 hn) rfl ?_
  refine a_iconst (pc := 4) (n := 0) (by decide +kernel) ?_
  refine b_pureV (pc := 5) [j_i 0] [] ml_X11_158 (by decide +kernel) rfl rfl (sh_30 hn) rfl rfl (Nat.le_of_ble_eq_true rfl) (j_fitI rfl rfl) (s_countOf (rA_30 hn) hwn (by omega)) ?_
  rw [show r_cnt σ 30 1 0 = σ.1 32 0 by unfold r_cnt; rw [if_pos (by omega)]]
  have hn9 : 0 ≤ σ.1 32 0 ∧ σ.1 32 0 ≤ 16 := hwn.1 0 (by omega) (by omega)
  show j_at _ _ _ [(0, .ref 5)] [j_i (σ.1 32 0)] _ _ _ _
  refine a_if_eq (pc := 8) (off := 28) (tgt := 36) (by decide +kernel) (by decide) (by omega) (fun c8 => ?_) (fun c8 => ?_)
  · refine a_bipush (pc := 36) (n := (-3)) (by decide +kernel) rfl ?_
    refine a_ireturn (pc := 38) (by decide +kernel) rfl ?_
    refine k_ret ?_
    refine ⟨_, rfl, rfl, Or.inl ⟨fun g => ?_, rfl, rfl⟩⟩
    first | exact g.1 c8 | exact p16 g.2.1 | exact g.2.2 p30
  · refine a_aload_n (pc := 11) (i := 0) (by decide +kernel) rfl ?_
    refine b_getR (pc := 12) (b := 30) fl_X11_45 (by decide +kernel) (sh_5 hn) rfl ?_
    refine a_iconst (pc := 15) (n := 0) (by decide +kernel) ?_
    refine b_callV (pc := 16) (c' := 0) (sl' := 0) [j_i 0] [] ml_X11_193 (by decide +kernel) rfl rfl (sh_30 hn) rfl rfl (Nat.le_of_ble_eq_true rfl) (j_fitI rfl rfl) (s_isOfLetters (rA_30 hn) hwn (by omega)) (fun v n' σ' hq => ?_)
    obtain ⟨x, rfl, e1, e2, hx⟩ := hq
    rw [e1, e2]; clear e1 e2
    rcases hx with ⟨rfl, p16⟩ | ⟨rfl, p16⟩
    · show j_at _ _ _ [(0, .ref 5)] [j_i 1] _ _ _ _
      refine a_if_eq (pc := 19) (off := 17) (tgt := 36) (by decide +kernel) (by decide) (by omega) (fun c19 => ?_) (fun c19 => ?_)
      · exact absurd c19 (by decide)
      · refine a_aload_n (pc := 22) (i := 0) (by decide +kernel) rfl ?_
        refine b_getR (pc := 23) (b := 33) fl_X11_52 (by decide +kernel) (sh_5 hn) rfl ?_
        refine a_aload_n (pc := 26) (i := 0) (by decide +kernel) rfl ?_
        refine b_getR (pc := 27) (b := 30) fl_X11_45 (by decide +kernel) (sh_5 hn) rfl ?_
        refine b_callV (pc := 30) (c' := 0) (sl' := 0) [.ref 30] [] ml_X11_196 (by decide +kernel) rfl rfl (sh_33 hn) rfl rfl (Nat.le_of_ble_eq_true rfl) (j_fitI rfl rfl) (s_isPassed hn hy (rA_30 hn) hwn) (fun v n' σ' hq => ?_)
        obtain ⟨x, rfl, e1, e2, hx⟩ := hq
        rw [e1, e2]; clear e1 e2
        rcases hx with ⟨rfl, p30⟩ | ⟨rfl, p30⟩
        · show j_at _ _ _ [(0, .ref 5)] [j_i 1] _ _ _ _
          refine a_if_eq (pc := 33) (off := 6) (tgt := 39) (by decide +kernel) (by decide) (by omega) (fun c33 => ?_) (fun c33 => ?_)
          · exact absurd c33 (by decide)
          · refine a_bipush (pc := 36) (n := (-3)) (by decide +kernel) rfl ?_
            refine a_ireturn (pc := 38) (by decide +kernel) rfl ?_
            refine k_ret ?_
            refine ⟨_, rfl, rfl, Or.inl ⟨fun g => ?_, rfl, rfl⟩⟩
            first | exact g.1 c8 | exact p16 g.2.1 | exact g.2.2 p30
        · show j_at _ _ _ [(0, .ref 5)] [j_i 0] _ _ _ _
          refine a_if_eq (pc := 33) (off := 6) (tgt := 39) (by decide +kernel) (by decide) (by omega) (fun c33 => ?_) (fun c33 => ?_)
          · refine a_aload_n (pc := 39) (i := 0) (by decide +kernel) rfl ?_
            refine b_getR (pc := 40) (b := 33) fl_X11_52 (by decide +kernel) (sh_5 hn) rfl ?_
            refine a_aload_n (pc := 43) (i := 0) (by decide +kernel) rfl ?_
            refine b_getR (pc := 44) (b := 30) fl_X11_45 (by decide +kernel) (sh_5 hn) rfl ?_
            have hok : ps_ok σ := ⟨c8, p16, p30⟩
            refine b_callV (pc := 47) (c' := 0) (sl' := 0) [.ref 30] [] ml_X11_200 (by decide +kernel) rfl rfl (sh_33 hn) rfl rfl (Nat.le_of_ble_eq_true rfl) (j_fitI rfl rfl) (s_addPassed hn hy hwn) (fun v n' σ' hq => ?_)
            obtain ⟨e1, ⟨q1, rfl, e2⟩ | ⟨q1, rfl, e2⟩⟩ := hq
            · rw [e1]; clear e1
              obtain ⟨σ9, hσ9⟩ : ∃ z, z = k_sI (r_cpS σ 34 30 (σ.2.1 33 1) 0 (σ.1 32 0)) 33 1 (σ.2.1 33 1 + 1) := ⟨_, rfl⟩
              rw [e2, ← hσ9]; clear e2
              show j_at _ _ _ [(0, .ref 5)] [j_i 1] _ _ _ _
              refine a_if_eq (pc := 50) (off := 13) (tgt := 63) (by decide +kernel) (by decide) (by omega) (fun c50 => ?_) (fun c50 => ?_)
              · exact absurd c50 (by decide)
              · refine a_aload_n (pc := 53) (i := 0) (by decide +kernel) rfl ?_
                refine b_getR (pc := 54) (b := 33) fl_X11_52 (by decide +kernel) (sh_5 hn) rfl ?_
                refine b_getI (pc := 57) fl_X11_203 (by decide +kernel) (sh_33 hn) rfl ?_
                rw [show σ9.2.1 33 1 = σ.2.1 33 1 + 1 from (by rw [hσ9, k_II])]
                refine a_goto (pc := 60) (off := 5) (tgt := 65) (by decide +kernel) (by decide) ?_
                refine a_ireturn (pc := 65) (by decide +kernel) rfl ?_
                refine k_ret ?_
                exact ⟨_, rfl, rfl, Or.inr (Or.inr ⟨hok, q1, rfl, hσ9⟩)⟩
            · rw [e1, e2]; clear e1 e2
              show j_at _ _ _ [(0, .ref 5)] [j_i 0] _ _ _ _
              refine a_if_eq (pc := 50) (off := 13) (tgt := 63) (by decide +kernel) (by decide) (by omega) (fun c50 => ?_) (fun c50 => ?_)
              · refine a_bipush (pc := 63) (n := (-4)) (by decide +kernel) rfl ?_
                refine a_ireturn (pc := 65) (by decide +kernel) rfl ?_
                refine k_ret ?_
                exact ⟨_, rfl, rfl, Or.inr (Or.inl ⟨hok, q1, rfl, rfl⟩)⟩
              · exact absurd c50 (by decide)
          · exact absurd c33 (by decide)
    · show j_at _ _ _ [(0, .ref 5)] [j_i 0] _ _ _ _
      refine a_if_eq (pc := 19) (off := 17) (tgt := 36) (by decide +kernel) (by decide) (by omega) (fun c19 => ?_) (fun c19 => ?_)
      · refine a_bipush (pc := 36) (n := (-3)) (by decide +kernel) rfl ?_
        refine a_ireturn (pc := 38) (by decide +kernel) rfl ?_
        refine k_ret ?_
        refine ⟨_, rfl, rfl, Or.inl ⟨fun g => ?_, rfl, rfl⟩⟩
        first | exact g.1 c8 | exact p16 g.2.1 | exact g.2.2 p30
      · exact absurd c19 (by decide)
