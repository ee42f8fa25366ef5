/-- the place of a page among the Model's parts -/
def pq_at (σ : k_St) (g k : Int) : Prop := 0 ≤ k ∧ k ≤ σ.2.1 68 12 ∧ (∀ q, 0 ≤ q → q < k → σ.1 74 q < g) ∧ (k < σ.2.1 68 12 → g ≤ σ.1 74 k)
def pq_st (τ : k_St) (k g f y l : Int) : k_St := k_sA (k_sA (k_sA (k_sA τ 74 (j_up (τ.1 74) k g)) 75 (j_up (τ.1 75) k f)) 76 (j_up (τ.1 76) k y)) 77 (j_up (τ.1 77) k l)
set_option maxHeartbeats 4000000 in
theorem l_dpart54 {G : j_G} {X : k_X} {n : Nat} {σ : k_St} (hn : 101 ≤ n) (hm : 0 ≤ σ.2.1 68 12 ∧ σ.2.1 68 12 ≤ 8) (hpg : ∀ q, 0 ≤ q → q < σ.2.1 68 12 → 0 ≤ σ.1 74 q ∧ σ.1 74 q ≤ 299) {g f y l : Int} (hok : pt_ok g f y l)  : ∀ (z : Nat) (k : Int), 8 - k < (z : Int) → 0 ≤ k → k ≤ σ.2.1 68 12 → (∀ q, 0 ≤ q → q < k → σ.1 74 q < g) → j_at G mX12_part 54 [(0, .ref 68), (1, j_i g), (2, j_i f), (3, j_i y), (4, j_i l), (5, j_i k)] [] (k_h X n σ) 0 0 (k_Q X (fun v n' σ' => n' = n ∧ ((¬ pt_ok g f y l ∧ v = some (j_i (-2)) ∧ σ' = σ) ∨ (pt_ok g f y l ∧ ∃ k, pq_at σ g k ∧ (((k = σ.2.1 68 12 ∨ σ.1 74 k ≠ g) ∧ σ.2.1 68 12 = 8 ∧ v = some (j_i (-4)) ∧ σ' = σ) ∨ ((k = σ.2.1 68 12 ∨ σ.1 74 k ≠ g) ∧ σ.2.1 68 12 < 8 ∧ v = some (j_i (σ.2.1 68 12 + 1)) ∧ ∃ τ, pq_F σ τ k ∧ σ' = pq_st (k_sI τ 68 12 (σ.2.1 68 12 + 1)) k g f y l) ∨ ((k < σ.2.1 68 12 ∧ σ.1 74 k = g) ∧ v = some (j_i (σ.2.1 68 12)) ∧ σ' = pq_st σ k g f y l)))))) := by
  have hg9 := hok.1
  intro z
  induction z with
  | zero => intro k h1 h2 h3; exact absurd h1 (by omega)
  | succ z ih =>
    intro k hz h0 hN hI
    refine a_iload (pc := 54) (i := 5) (by decide +kernel) rfl ?_
    refine a_aload_n (pc := 56) (i := 0) (by decide +kernel) rfl ?_
    refine b_getI (pc := 57) fl_X12_145 (by decide +kernel) (sh_68 hn) rfl ?_
    refine a_icmp_ge (pc := 60) (off := 20) (tgt := 80) (by decide +kernel) (by decide) (by omega) (by omega) (fun c60 => ?_) (fun c60 => ?_)
    · refine a_iload (pc := 80) (i := 5) (by decide +kernel) rfl ?_
      refine a_aload_n (pc := 82) (i := 0) (by decide +kernel) rfl ?_
      refine b_getI (pc := 83) fl_X12_145 (by decide +kernel) (sh_68 hn) rfl ?_
      refine a_icmp_eq (pc := 86) (off := 14) (tgt := 100) (by decide +kernel) (by decide) (by omega) (by omega) (fun c86 => ?_) (fun c86 => ?_)
      · refine a_aload_n (pc := 100) (i := 0) (by decide +kernel) rfl ?_
        refine b_getI (pc := 101) fl_X12_145 (by decide +kernel) (sh_68 hn) rfl ?_
        refine a_bipush (pc := 104) (n := 8) (by decide +kernel) rfl ?_
        refine a_icmp_ne (pc := 106) (off := 6) (tgt := 112) (by decide +kernel) (by decide) (by omega) (by omega) (fun c106 => ?_) (fun c106 => ?_)
        · refine a_aload_n (pc := 112) (i := 0) (by decide +kernel) rfl ?_
          refine b_getI (pc := 113) fl_X12_145 (by decide +kernel) (sh_68 hn) rfl ?_
          refine a_istore (pc := 116) (i := 6) (lv' := [(0, .ref 68), (1, j_i g), (2, j_i f), (3, j_i y), (4, j_i l), (5, j_i k), (6, j_i (σ.2.1 68 12))]) (by decide +kernel) (Nat.le_of_ble_eq_true rfl) rfl ?_
          have hat : pq_at σ g k := ⟨h0, hN, hI, fun q => by omega⟩
          have hnew : k = σ.2.1 68 12 ∨ σ.1 74 k ≠ g := by first | exact Or.inl c86 | exact Or.inr c97 | omega
          refine l_dpart118 hn h0 (by omega) (fun τ hF x' => ?_) 10 (σ.2.1 68 12) σ (by omega) hN (by omega) ⟨fun _ _ => rfl, fun c _ _ => by rw [show σ.2.1 68 12 - σ.2.1 68 12 = 0 by omega, j_cpy_0], rfl⟩
          refine a_aload_n (pc := 195) (i := 0) (by decide +kernel) rfl ?_
          refine a_dup (pc := 196) (by decide +kernel) rfl ?_
          refine b_getI (pc := 197) fl_X12_145 (by decide +kernel) (sh_68 hn) rfl ?_
          rw [show τ.2.1 68 12 = σ.2.1 68 12 from (by rw [hF.2.2])]
          refine a_iconst (pc := 200) (n := 1) (by decide +kernel) ?_
          refine a_iadd (pc := 201) (by decide +kernel) ?_
          refine b_putI (pc := 202) fl_X12_145 (by decide +kernel) (sh_68 hn) rfl rfl rfl ?_
          obtain ⟨σ31, hσ31⟩ : ∃ z, z = k_sI τ 68 12 ((σ.2.1 68 12) + 1) := ⟨_, rfl⟩
          rw [← hσ31]
          refine a_aload_n (pc := 205) (i := 0) (by decide +kernel) rfl ?_
          refine b_getR (pc := 206) (b := 74) fl_X12_30 (by decide +kernel) (sh_68 hn) rfl ?_
          refine a_iload (pc := 209) (i := 5) (by decide +kernel) rfl ?_
          refine a_iload_n (pc := 211) (i := 1) (by decide +kernel) rfl ?_
          refine b_iastore (pc := 212) (by decide +kernel) (sh_74 hn) (by omega) (by omega) (by omega) ?_
          obtain ⟨σ32, hσ32⟩ : ∃ z, z = k_sA σ31 74 (j_up (σ31.1 74) k g) := ⟨_, rfl⟩
          rw [← hσ32]
          refine a_aload_n (pc := 213) (i := 0) (by decide +kernel) rfl ?_
          refine b_getR (pc := 214) (b := 75) fl_X12_33 (by decide +kernel) (sh_68 hn) rfl ?_
          refine a_iload (pc := 217) (i := 5) (by decide +kernel) rfl ?_
          refine a_iload_n (pc := 219) (i := 2) (by decide +kernel) rfl ?_
          refine b_iastore (pc := 220) (by decide +kernel) (sh_75 hn) (by omega) (by omega) (by omega) ?_
          obtain ⟨σ33, hσ33⟩ : ∃ z, z = k_sA σ32 75 (j_up (σ32.1 75) k f) := ⟨_, rfl⟩
          rw [← hσ33]
          refine a_aload_n (pc := 221) (i := 0) (by decide +kernel) rfl ?_
          refine b_getR (pc := 222) (b := 76) fl_X12_36 (by decide +kernel) (sh_68 hn) rfl ?_
          refine a_iload (pc := 225) (i := 5) (by decide +kernel) rfl ?_
          refine a_iload_n (pc := 227) (i := 3) (by decide +kernel) rfl ?_
          refine b_iastore (pc := 228) (by decide +kernel) (sh_76 hn) (by omega) (by omega) (by omega) ?_
          obtain ⟨σ34, hσ34⟩ : ∃ z, z = k_sA σ33 76 (j_up (σ33.1 76) k y) := ⟨_, rfl⟩
          rw [← hσ34]
          refine a_aload_n (pc := 229) (i := 0) (by decide +kernel) rfl ?_
          refine b_getR (pc := 230) (b := 77) fl_X12_39 (by decide +kernel) (sh_68 hn) rfl ?_
          refine a_iload (pc := 233) (i := 5) (by decide +kernel) rfl ?_
          refine a_iload (pc := 235) (i := 4) (by decide +kernel) rfl ?_
          refine b_iastore (pc := 237) (by decide +kernel) (sh_77 hn) (by omega) (by omega) (by omega) ?_
          obtain ⟨σ35, hσ35⟩ : ∃ z, z = k_sA σ34 77 (j_up (σ34.1 77) k l) := ⟨_, rfl⟩
          rw [← hσ35]
          refine a_aload_n (pc := 238) (i := 0) (by decide +kernel) rfl ?_
          refine b_getI (pc := 239) fl_X12_145 (by decide +kernel) (sh_68 hn) rfl ?_
          rw [show σ35.2.1 68 12 = σ34.2.1 68 12 by rw [hσ35]; rfl]
          rw [show σ34.2.1 68 12 = σ33.2.1 68 12 by rw [hσ34]; rfl]
          rw [show σ33.2.1 68 12 = σ32.2.1 68 12 by rw [hσ33]; rfl]
          rw [show σ32.2.1 68 12 = σ31.2.1 68 12 by rw [hσ32]; rfl]
          rw [show σ31.2.1 68 12 = (σ.2.1 68 12) + 1 by rw [hσ31]; exact k_II]
          refine a_ireturn (pc := 242) (by decide +kernel) rfl ?_
          refine k_ret ?_
          exact ⟨rfl, Or.inr ⟨hok, k, hat, Or.inr (Or.inl ⟨hnew, by omega, rfl, τ, hF, by unfold pq_st; rw [hσ35, hσ34, hσ33, hσ32, hσ31]; rfl⟩)⟩⟩
        · refine a_bipush (pc := 109) (n := (-4)) (by decide +kernel) rfl ?_
          refine a_ireturn (pc := 111) (by decide +kernel) rfl ?_
          refine k_ret ?_
          exact ⟨rfl, Or.inr ⟨hok, k, ⟨h0, hN, hI, fun q => by omega⟩, Or.inl ⟨by first | exact Or.inl c86 | exact Or.inr c97 | omega, by omega, rfl, rfl⟩⟩⟩
      · refine a_aload_n (pc := 89) (i := 0) (by decide +kernel) rfl ?_
        refine b_getR (pc := 90) (b := 74) fl_X12_30 (by decide +kernel) (sh_68 hn) rfl ?_
        refine a_iload (pc := 93) (i := 5) (by decide +kernel) rfl ?_
        have x2 := hpg k h0 (by omega)
        refine b_iaload (pc := 95) (by decide +kernel) (sh_74 hn) (by omega) (by omega) (by omega) ?_
        refine a_iload_n (pc := 96) (i := 1) (by decide +kernel) rfl ?_
        refine a_icmp_eq (pc := 97) (off := 108) (tgt := 205) (by decide +kernel) (by decide) (by omega) (by omega) (fun c97 => ?_) (fun c97 => ?_)
        · refine a_aload_n (pc := 205) (i := 0) (by decide +kernel) rfl ?_
          refine b_getR (pc := 206) (b := 74) fl_X12_30 (by decide +kernel) (sh_68 hn) rfl ?_
          refine a_iload (pc := 209) (i := 5) (by decide +kernel) rfl ?_
          refine a_iload_n (pc := 211) (i := 1) (by decide +kernel) rfl ?_
          refine b_iastore (pc := 212) (by decide +kernel) (sh_74 hn) (by omega) (by omega) (by omega) ?_
          obtain ⟨σ1, hσ1⟩ : ∃ z, z = k_sA σ 74 (j_up (σ.1 74) k g) := ⟨_, rfl⟩
          rw [← hσ1]
          refine a_aload_n (pc := 213) (i := 0) (by decide +kernel) rfl ?_
          refine b_getR (pc := 214) (b := 75) fl_X12_33 (by decide +kernel) (sh_68 hn) rfl ?_
          refine a_iload (pc := 217) (i := 5) (by decide +kernel) rfl ?_
          refine a_iload_n (pc := 219) (i := 2) (by decide +kernel) rfl ?_
          refine b_iastore (pc := 220) (by decide +kernel) (sh_75 hn) (by omega) (by omega) (by omega) ?_
          obtain ⟨σ2, hσ2⟩ : ∃ z, z = k_sA σ1 75 (j_up (σ1.1 75) k f) := ⟨_, rfl⟩
          rw [← hσ2]
          refine a_aload_n (pc := 221) (i := 0) (by decide +kernel) rfl ?_
          refine b_getR (pc := 222) (b := 76) fl_X12_36 (by decide +kernel) (sh_68 hn) rfl ?_
          refine a_iload (pc := 225) (i := 5) (by decide +kernel) rfl ?_
          refine a_iload_n (pc := 227) (i := 3) (by decide +kernel) rfl ?_
          refine b_iastore (pc := 228) (by decide +kernel) (sh_76 hn) (by omega) (by omega) (by omega) ?_
          obtain ⟨σ3, hσ3⟩ : ∃ z, z = k_sA σ2 76 (j_up (σ2.1 76) k y) := ⟨_, rfl⟩
          rw [← hσ3]
          refine a_aload_n (pc := 229) (i := 0) (by decide +kernel) rfl ?_
          refine b_getR (pc := 230) (b := 77) fl_X12_39 (by decide +kernel) (sh_68 hn) rfl ?_
          refine a_iload (pc := 233) (i := 5) (by decide +kernel) rfl ?_
          refine a_iload (pc := 235) (i := 4) (by decide +kernel) rfl ?_
          refine b_iastore (pc := 237) (by decide +kernel) (sh_77 hn) (by omega) (by omega) (by omega) ?_
          obtain ⟨σ4, hσ4⟩ : ∃ z, z = k_sA σ3 77 (j_up (σ3.1 77) k l) := ⟨_, rfl⟩
          rw [← hσ4]
          refine a_aload_n (pc := 238) (i := 0) (by decide +kernel) rfl ?_
          refine b_getI (pc := 239) fl_X12_145 (by decide +kernel) (sh_68 hn) rfl ?_
          rw [show σ4.2.1 68 12 = σ3.2.1 68 12 by rw [hσ4]; rfl]
          rw [show σ3.2.1 68 12 = σ2.2.1 68 12 by rw [hσ3]; rfl]
          rw [show σ2.2.1 68 12 = σ1.2.1 68 12 by rw [hσ2]; rfl]
          rw [show σ1.2.1 68 12 = σ.2.1 68 12 by rw [hσ1]; rfl]
          refine a_ireturn (pc := 242) (by decide +kernel) rfl ?_
          refine k_ret ?_
          exact ⟨rfl, Or.inr ⟨hok, k, ⟨h0, hN, hI, fun q => by omega⟩, Or.inr (Or.inr ⟨by omega, rfl, by unfold pq_st; rw [hσ4, hσ3, hσ2, hσ1]; rfl⟩)⟩⟩
        · refine a_aload_n (pc := 100) (i := 0) (by decide +kernel) rfl ?_
          refine b_getI (pc := 101) fl_X12_145 (by decide +kernel) (sh_68 hn) rfl ?_
          refine a_bipush (pc := 104) (n := 8) (by decide +kernel) rfl ?_
          refine a_icmp_ne (pc := 106) (off := 6) (tgt := 112) (by decide +kernel) (by decide) (by omega) (by omega) (fun c106 => ?_) (fun c106 => ?_)
          · refine a_aload_n (pc := 112) (i := 0) (by decide +kernel) rfl ?_
            refine b_getI (pc := 113) fl_X12_145 (by decide +kernel) (sh_68 hn) rfl ?_
            refine a_istore (pc := 116) (i := 6) (lv' := [(0, .ref 68), (1, j_i g), (2, j_i f), (3, j_i y), (4, j_i l), (5, j_i k), (6, j_i (σ.2.1 68 12))]) (by decide +kernel) (Nat.le_of_ble_eq_true rfl) rfl ?_
            have hat : pq_at σ g k := ⟨h0, hN, hI, fun q => by omega⟩
            have hnew : k = σ.2.1 68 12 ∨ σ.1 74 k ≠ g := by first | exact Or.inl c86 | exact Or.inr c97 | omega
            refine l_dpart118 hn h0 (by omega) (fun τ hF x' => ?_) 10 (σ.2.1 68 12) σ (by omega) hN (by omega) ⟨fun _ _ => rfl, fun c _ _ => by rw [show σ.2.1 68 12 - σ.2.1 68 12 = 0 by omega, j_cpy_0], rfl⟩
            refine a_aload_n (pc := 195) (i := 0) (by decide +kernel) rfl ?_
            refine a_dup (pc := 196) (by decide +kernel) rfl ?_
            refine b_getI (pc := 197) fl_X12_145 (by decide +kernel) (sh_68 hn) rfl ?_
            rw [show τ.2.1 68 12 = σ.2.1 68 12 from (by rw [hF.2.2])]
            refine a_iconst (pc := 200) (n := 1) (by decide +kernel) ?_
            refine a_iadd (pc := 201) (by decide +kernel) ?_
            refine b_putI (pc := 202) fl_X12_145 (by decide +kernel) (sh_68 hn) rfl rfl rfl ?_
            obtain ⟨σ31, hσ31⟩ : ∃ z, z = k_sI τ 68 12 ((σ.2.1 68 12) + 1) := ⟨_, rfl⟩
            rw [← hσ31]
            refine a_aload_n (pc := 205) (i := 0) (by decide +kernel) rfl ?_
            refine b_getR (pc := 206) (b := 74) fl_X12_30 (by decide +kernel) (sh_68 hn) rfl ?_
            refine a_iload (pc := 209) (i := 5) (by decide +kernel) rfl ?_
            refine a_iload_n (pc := 211) (i := 1) (by decide +kernel) rfl ?_
            refine b_iastore (pc := 212) (by decide +kernel) (sh_74 hn) (by omega) (by omega) (by omega) ?_
            obtain ⟨σ32, hσ32⟩ : ∃ z, z = k_sA σ31 74 (j_up (σ31.1 74) k g) := ⟨_, rfl⟩
            rw [← hσ32]
            refine a_aload_n (pc := 213) (i := 0) (by decide +kernel) rfl ?_
            refine b_getR (pc := 214) (b := 75) fl_X12_33 (by decide +kernel) (sh_68 hn) rfl ?_
            refine a_iload (pc := 217) (i := 5) (by decide +kernel) rfl ?_
            refine a_iload_n (pc := 219) (i := 2) (by decide +kernel) rfl ?_
            refine b_iastore (pc := 220) (by decide +kernel) (sh_75 hn) (by omega) (by omega) (by omega) ?_
            obtain ⟨σ33, hσ33⟩ : ∃ z, z = k_sA σ32 75 (j_up (σ32.1 75) k f) := ⟨_, rfl⟩
            rw [← hσ33]
            refine a_aload_n (pc := 221) (i := 0) (by decide +kernel) rfl ?_
            refine b_getR (pc := 222) (b := 76) fl_X12_36 (by decide +kernel) (sh_68 hn) rfl ?_
            refine a_iload (pc := 225) (i := 5) (by decide +kernel) rfl ?_
            refine a_iload_n (pc := 227) (i := 3) (by decide +kernel) rfl ?_
            refine b_iastore (pc := 228) (by decide +kernel) (sh_76 hn) (by omega) (by omega) (by omega) ?_
            obtain ⟨σ34, hσ34⟩ : ∃ z, z = k_sA σ33 76 (j_up (σ33.1 76) k y) := ⟨_, rfl⟩
            rw [← hσ34]
            refine a_aload_n (pc := 229) (i := 0) (by decide +kernel) rfl ?_
            refine b_getR (pc := 230) (b := 77) fl_X12_39 (by decide +kernel) (sh_68 hn) rfl ?_
            refine a_iload (pc := 233) (i := 5) (by decide +kernel) rfl ?_
            refine a_iload (pc := 235) (i := 4) (by decide +kernel) rfl ?_
            refine b_iastore (pc := 237) (by decide +kernel) (sh_77 hn) (by omega) (by omega) (by omega) ?_
            obtain ⟨σ35, hσ35⟩ : ∃ z, z = k_sA σ34 77 (j_up (σ34.1 77) k l) := ⟨_, rfl⟩
            rw [← hσ35]
            refine a_aload_n (pc := 238) (i := 0) (by decide +kernel) rfl ?_
            refine b_getI (pc := 239) fl_X12_145 (by decide +kernel) (sh_68 hn) rfl ?_
            rw [show σ35.2.1 68 12 = σ34.2.1 68 12 by rw [hσ35]; rfl]
            rw [show σ34.2.1 68 12 = σ33.2.1 68 12 by rw [hσ34]; rfl]
            rw [show σ33.2.1 68 12 = σ32.2.1 68 12 by rw [hσ33]; rfl]
            rw [show σ32.2.1 68 12 = σ31.2.1 68 12 by rw [hσ32]; rfl]
            rw [show σ31.2.1 68 12 = (σ.2.1 68 12) + 1 by rw [hσ31]; exact k_II]
            refine a_ireturn (pc := 242) (by decide +kernel) rfl ?_
            refine k_ret ?_
            exact ⟨rfl, Or.inr ⟨hok, k, hat, Or.inr (Or.inl ⟨hnew, by omega, rfl, τ, hF, by unfold pq_st; rw [hσ35, hσ34, hσ33, hσ32, hσ31]; rfl⟩)⟩⟩
          · refine a_bipush (pc := 109) (n := (-4)) (by decide +kernel) rfl ?_
            refine a_ireturn (pc := 111) (by decide +kernel) rfl ?_
            refine k_ret ?_
            exact ⟨rfl, Or.inr ⟨hok, k, ⟨h0, hN, hI, fun q => by omega⟩, Or.inl ⟨by first | exact Or.inl c86 | exact Or.inr c97 | omega, by omega, rfl, rfl⟩⟩⟩
    · refine a_aload_n (pc := 63) (i := 0) (by decide +kernel) rfl ?_
      refine b_getR (pc := 64) (b := 74) fl_X12_30 (by decide +kernel) (sh_68 hn) rfl ?_
      refine a_iload (pc := 67) (i := 5) (by decide +kernel) rfl ?_
      have x1 := hpg k h0 (by omega)
      refine b_iaload (pc := 69) (by decide +kernel) (sh_74 hn) (by omega) (by omega) (by omega) ?_
      refine a_iload_n (pc := 70) (i := 1) (by decide +kernel) rfl ?_
      refine a_icmp_ge (pc := 71) (off := 9) (tgt := 80) (by decide +kernel) (by decide) (by omega) (by omega) (fun c71 => ?_) (fun c71 => ?_)
      · refine a_iload (pc := 80) (i := 5) (by decide +kernel) rfl ?_
        refine a_aload_n (pc := 82) (i := 0) (by decide +kernel) rfl ?_
        refine b_getI (pc := 83) fl_X12_145 (by decide +kernel) (sh_68 hn) rfl ?_
        refine a_icmp_eq (pc := 86) (off := 14) (tgt := 100) (by decide +kernel) (by decide) (by omega) (by omega) (fun c86 => ?_) (fun c86 => ?_)
        · refine a_aload_n (pc := 100) (i := 0) (by decide +kernel) rfl ?_
          refine b_getI (pc := 101) fl_X12_145 (by decide +kernel) (sh_68 hn) rfl ?_
          refine a_bipush (pc := 104) (n := 8) (by decide +kernel) rfl ?_
          refine a_icmp_ne (pc := 106) (off := 6) (tgt := 112) (by decide +kernel) (by decide) (by omega) (by omega) (fun c106 => ?_) (fun c106 => ?_)
          · refine a_aload_n (pc := 112) (i := 0) (by decide +kernel) rfl ?_
            refine b_getI (pc := 113) fl_X12_145 (by decide +kernel) (sh_68 hn) rfl ?_
            refine a_istore (pc := 116) (i := 6) (lv' := [(0, .ref 68), (1, j_i g), (2, j_i f), (3, j_i y), (4, j_i l), (5, j_i k), (6, j_i (σ.2.1 68 12))]) (by decide +kernel) (Nat.le_of_ble_eq_true rfl) rfl ?_
            have hat : pq_at σ g k := ⟨h0, hN, hI, fun q => by omega⟩
            have hnew : k = σ.2.1 68 12 ∨ σ.1 74 k ≠ g := by first | exact Or.inl c86 | exact Or.inr c97 | omega
            refine l_dpart118 hn h0 (by omega) (fun τ hF x' => ?_) 10 (σ.2.1 68 12) σ (by omega) hN (by omega) ⟨fun _ _ => rfl, fun c _ _ => by rw [show σ.2.1 68 12 - σ.2.1 68 12 = 0 by omega, j_cpy_0], rfl⟩
            refine a_aload_n (pc := 195) (i := 0) (by decide +kernel) rfl ?_
            refine a_dup (pc := 196) (by decide +kernel) rfl ?_
            refine b_getI (pc := 197) fl_X12_145 (by decide +kernel) (sh_68 hn) rfl ?_
            rw [show τ.2.1 68 12 = σ.2.1 68 12 from (by rw [hF.2.2])]
            refine a_iconst (pc := 200) (n := 1) (by decide +kernel) ?_
            refine a_iadd (pc := 201) (by decide +kernel) ?_
            refine b_putI (pc := 202) fl_X12_145 (by decide +kernel) (sh_68 hn) rfl rfl rfl ?_
            obtain ⟨σ31, hσ31⟩ : ∃ z, z = k_sI τ 68 12 ((σ.2.1 68 12) + 1) := ⟨_, rfl⟩
            rw [← hσ31]
            refine a_aload_n (pc := 205) (i := 0) (by decide +kernel) rfl ?_
            refine b_getR (pc := 206) (b := 74) fl_X12_30 (by decide +kernel) (sh_68 hn) rfl ?_
            refine a_iload (pc := 209) (i := 5) (by decide +kernel) rfl ?_
            refine a_iload_n (pc := 211) (i := 1) (by decide +kernel) rfl ?_
            refine b_iastore (pc := 212) (by decide +kernel) (sh_74 hn) (by omega) (by omega) (by omega) ?_
            obtain ⟨σ32, hσ32⟩ : ∃ z, z = k_sA σ31 74 (j_up (σ31.1 74) k g) := ⟨_, rfl⟩
            rw [← hσ32]
            refine a_aload_n (pc := 213) (i := 0) (by decide +kernel) rfl ?_
            refine b_getR (pc := 214) (b := 75) fl_X12_33 (by decide +kernel) (sh_68 hn) rfl ?_
            refine a_iload (pc := 217) (i := 5) (by decide +kernel) rfl ?_
            refine a_iload_n (pc := 219) (i := 2) (by decide +kernel) rfl ?_
            refine b_iastore (pc := 220) (by decide +kernel) (sh_75 hn) (by omega) (by omega) (by omega) ?_
            obtain ⟨σ33, hσ33⟩ : ∃ z, z = k_sA σ32 75 (j_up (σ32.1 75) k f) := ⟨_, rfl⟩
            rw [← hσ33]
            refine a_aload_n (pc := 221) (i := 0) (by decide +kernel) rfl ?_
            refine b_getR (pc := 222) (b := 76) fl_X12_36 (by decide +kernel) (sh_68 hn) rfl ?_
            refine a_iload (pc := 225) (i := 5) (by decide +kernel) rfl ?_
            refine a_iload_n (pc := 227) (i := 3) (by decide +kernel) rfl ?_
            refine b_iastore (pc := 228) (by decide +kernel) (sh_76 hn) (by omega) (by omega) (by omega) ?_
            obtain ⟨σ34, hσ34⟩ : ∃ z, z = k_sA σ33 76 (j_up (σ33.1 76) k y) := ⟨_, rfl⟩
            rw [← hσ34]
            refine a_aload_n (pc := 229) (i := 0) (by decide +kernel) rfl ?_
            refine b_getR (pc := 230) (b := 77) fl_X12_39 (by decide +kernel) (sh_68 hn) rfl ?_
            refine a_iload (pc := 233) (i := 5) (by decide +kernel) rfl ?_
            refine a_iload (pc := 235) (i := 4) (by decide +kernel) rfl ?_
            refine b_iastore (pc := 237) (by decide +kernel) (sh_77 hn) (by omega) (by omega) (by omega) ?_
            obtain ⟨σ35, hσ35⟩ : ∃ z, z = k_sA σ34 77 (j_up (σ34.1 77) k l) := ⟨_, rfl⟩
            rw [← hσ35]
            refine a_aload_n (pc := 238) (i := 0) (by decide +kernel) rfl ?_
            refine b_getI (pc := 239) fl_X12_145 (by decide +kernel) (sh_68 hn) rfl ?_
            rw [show σ35.2.1 68 12 = σ34.2.1 68 12 by rw [hσ35]; rfl]
            rw [show σ34.2.1 68 12 = σ33.2.1 68 12 by rw [hσ34]; rfl]
            rw [show σ33.2.1 68 12 = σ32.2.1 68 12 by rw [hσ33]; rfl]
            rw [show σ32.2.1 68 12 = σ31.2.1 68 12 by rw [hσ32]; rfl]
            rw [show σ31.2.1 68 12 = (σ.2.1 68 12) + 1 by rw [hσ31]; exact k_II]
            refine a_ireturn (pc := 242) (by decide +kernel) rfl ?_
            refine k_ret ?_
            exact ⟨rfl, Or.inr ⟨hok, k, hat, Or.inr (Or.inl ⟨hnew, by omega, rfl, τ, hF, by unfold pq_st; rw [hσ35, hσ34, hσ33, hσ32, hσ31]; rfl⟩)⟩⟩
          · refine a_bipush (pc := 109) (n := (-4)) (by decide +kernel) rfl ?_
            refine a_ireturn (pc := 111) (by decide +kernel) rfl ?_
            refine k_ret ?_
            exact ⟨rfl, Or.inr ⟨hok, k, ⟨h0, hN, hI, fun q => by omega⟩, Or.inl ⟨by first | exact Or.inl c86 | exact Or.inr c97 | omega, by omega, rfl, rfl⟩⟩⟩
        · refine a_aload_n (pc := 89) (i := 0) (by decide +kernel) rfl ?_
          refine b_getR (pc := 90) (b := 74) fl_X12_30 (by decide +kernel) (sh_68 hn) rfl ?_
          refine a_iload (pc := 93) (i := 5) (by decide +kernel) rfl ?_
          have x2 := hpg k h0 (by omega)
          refine b_iaload (pc := 95) (by decide +kernel) (sh_74 hn) (by omega) (by omega) (by omega) ?_
          refine a_iload_n (pc := 96) (i := 1) (by decide +kernel) rfl ?_
          refine a_icmp_eq (pc := 97) (off := 108) (tgt := 205) (by decide +kernel) (by decide) (by omega) (by omega) (fun c97 => ?_) (fun c97 => ?_)
          · refine a_aload_n (pc := 205) (i := 0) (by decide +kernel) rfl ?_
            refine b_getR (pc := 206) (b := 74) fl_X12_30 (by decide +kernel) (sh_68 hn) rfl ?_
            refine a_iload (pc := 209) (i := 5) (by decide +kernel) rfl ?_
            refine a_iload_n (pc := 211) (i := 1) (by decide +kernel) rfl ?_
            refine b_iastore (pc := 212) (by decide +kernel) (sh_74 hn) (by omega) (by omega) (by omega) ?_
            obtain ⟨σ5, hσ5⟩ : ∃ z, z = k_sA σ 74 (j_up (σ.1 74) k g) := ⟨_, rfl⟩
            rw [← hσ5]
            refine a_aload_n (pc := 213) (i := 0) (by decide +kernel) rfl ?_
            refine b_getR (pc := 214) (b := 75) fl_X12_33 (by decide +kernel) (sh_68 hn) rfl ?_
            refine a_iload (pc := 217) (i := 5) (by decide +kernel) rfl ?_
            refine a_iload_n (pc := 219) (i := 2) (by decide +kernel) rfl ?_
            refine b_iastore (pc := 220) (by decide +kernel) (sh_75 hn) (by omega) (by omega) (by omega) ?_
            obtain ⟨σ6, hσ6⟩ : ∃ z, z = k_sA σ5 75 (j_up (σ5.1 75) k f) := ⟨_, rfl⟩
            rw [← hσ6]
            refine a_aload_n (pc := 221) (i := 0) (by decide +kernel) rfl ?_
            refine b_getR (pc := 222) (b := 76) fl_X12_36 (by decide +kernel) (sh_68 hn) rfl ?_
            refine a_iload (pc := 225) (i := 5) (by decide +kernel) rfl ?_
            refine a_iload_n (pc := 227) (i := 3) (by decide +kernel) rfl ?_
            refine b_iastore (pc := 228) (by decide +kernel) (sh_76 hn) (by omega) (by omega) (by omega) ?_
            obtain ⟨σ7, hσ7⟩ : ∃ z, z = k_sA σ6 76 (j_up (σ6.1 76) k y) := ⟨_, rfl⟩
            rw [← hσ7]
            refine a_aload_n (pc := 229) (i := 0) (by decide +kernel) rfl ?_
            refine b_getR (pc := 230) (b := 77) fl_X12_39 (by decide +kernel) (sh_68 hn) rfl ?_
            refine a_iload (pc := 233) (i := 5) (by decide +kernel) rfl ?_
            refine a_iload (pc := 235) (i := 4) (by decide +kernel) rfl ?_
            refine b_iastore (pc := 237) (by decide +kernel) (sh_77 hn) (by omega) (by omega) (by omega) ?_
            obtain ⟨σ8, hσ8⟩ : ∃ z, z = k_sA σ7 77 (j_up (σ7.1 77) k l) := ⟨_, rfl⟩
            rw [← hσ8]
            refine a_aload_n (pc := 238) (i := 0) (by decide +kernel) rfl ?_
            refine b_getI (pc := 239) fl_X12_145 (by decide +kernel) (sh_68 hn) rfl ?_
            rw [show σ8.2.1 68 12 = σ7.2.1 68 12 by rw [hσ8]; rfl]
            rw [show σ7.2.1 68 12 = σ6.2.1 68 12 by rw [hσ7]; rfl]
            rw [show σ6.2.1 68 12 = σ5.2.1 68 12 by rw [hσ6]; rfl]
            rw [show σ5.2.1 68 12 = σ.2.1 68 12 by rw [hσ5]; rfl]
            refine a_ireturn (pc := 242) (by decide +kernel) rfl ?_
            refine k_ret ?_
            exact ⟨rfl, Or.inr ⟨hok, k, ⟨h0, hN, hI, fun q => by omega⟩, Or.inr (Or.inr ⟨by omega, rfl, by unfold pq_st; rw [hσ8, hσ7, hσ6, hσ5]; rfl⟩)⟩⟩
          · refine a_aload_n (pc := 100) (i := 0) (by decide +kernel) rfl ?_
            refine b_getI (pc := 101) fl_X12_145 (by decide +kernel) (sh_68 hn) rfl ?_
            refine a_bipush (pc := 104) (n := 8) (by decide +kernel) rfl ?_
            refine a_icmp_ne (pc := 106) (off := 6) (tgt := 112) (by decide +kernel) (by decide) (by omega) (by omega) (fun c106 => ?_) (fun c106 => ?_)
            · refine a_aload_n (pc := 112) (i := 0) (by decide +kernel) rfl ?_
              refine b_getI (pc := 113) fl_X12_145 (by decide +kernel) (sh_68 hn) rfl ?_
              refine a_istore (pc := 116) (i := 6) (lv' := [(0, .ref 68), (1, j_i g), (2, j_i f), (3, j_i y), (4, j_i l), (5, j_i k), (6, j_i (σ.2.1 68 12))]) (by decide +kernel) (Nat.le_of_ble_eq_true rfl) rfl ?_
              have hat : pq_at σ g k := ⟨h0, hN, hI, fun q => by omega⟩
              have hnew : k = σ.2.1 68 12 ∨ σ.1 74 k ≠ g := by first | exact Or.inl c86 | exact Or.inr c97 | omega
              refine l_dpart118 hn h0 (by omega) (fun τ hF x' => ?_) 10 (σ.2.1 68 12) σ (by omega) hN (by omega) ⟨fun _ _ => rfl, fun c _ _ => by rw [show σ.2.1 68 12 - σ.2.1 68 12 = 0 by omega, j_cpy_0], rfl⟩
              refine a_aload_n (pc := 195) (i := 0) (by decide +kernel) rfl ?_
              refine a_dup (pc := 196) (by decide +kernel) rfl ?_
              refine b_getI (pc := 197) fl_X12_145 (by decide +kernel) (sh_68 hn) rfl ?_
              rw [show τ.2.1 68 12 = σ.2.1 68 12 from (by rw [hF.2.2])]
              refine a_iconst (pc := 200) (n := 1) (by decide +kernel) ?_
              refine a_iadd (pc := 201) (by decide +kernel) ?_
              refine b_putI (pc := 202) fl_X12_145 (by decide +kernel) (sh_68 hn) rfl rfl rfl ?_
              obtain ⟨σ31, hσ31⟩ : ∃ z, z = k_sI τ 68 12 ((σ.2.1 68 12) + 1) := ⟨_, rfl⟩
              rw [← hσ31]
              refine a_aload_n (pc := 205) (i := 0) (by decide +kernel) rfl ?_
              refine b_getR (pc := 206) (b := 74) fl_X12_30 (by decide +kernel) (sh_68 hn) rfl ?_
              refine a_iload (pc := 209) (i := 5) (by decide +kernel) rfl ?_
              refine a_iload_n (pc := 211) (i := 1) (by decide +kernel) rfl ?_
              refine b_iastore (pc := 212) (by decide +kernel) (sh_74 hn) (by omega) (by omega) (by omega) ?_
              obtain ⟨σ32, hσ32⟩ : ∃ z, z = k_sA σ31 74 (j_up (σ31.1 74) k g) := ⟨_, rfl⟩
              rw [← hσ32]
              refine a_aload_n (pc := 213) (i := 0) (by decide +kernel) rfl ?_
              refine b_getR (pc := 214) (b := 75) fl_X12_33 (by decide +kernel) (sh_68 hn) rfl ?_
              refine a_iload (pc := 217) (i := 5) (by decide +kernel) rfl ?_
              refine a_iload_n (pc := 219) (i := 2) (by decide +kernel) rfl ?_
              refine b_iastore (pc := 220) (by decide +kernel) (sh_75 hn) (by omega) (by omega) (by omega) ?_
              obtain ⟨σ33, hσ33⟩ : ∃ z, z = k_sA σ32 75 (j_up (σ32.1 75) k f) := ⟨_, rfl⟩
              rw [← hσ33]
              refine a_aload_n (pc := 221) (i := 0) (by decide +kernel) rfl ?_
              refine b_getR (pc := 222) (b := 76) fl_X12_36 (by decide +kernel) (sh_68 hn) rfl ?_
              refine a_iload (pc := 225) (i := 5) (by decide +kernel) rfl ?_
              refine a_iload_n (pc := 227) (i := 3) (by decide +kernel) rfl ?_
              refine b_iastore (pc := 228) (by decide +kernel) (sh_76 hn) (by omega) (by omega) (by omega) ?_
              obtain ⟨σ34, hσ34⟩ : ∃ z, z = k_sA σ33 76 (j_up (σ33.1 76) k y) := ⟨_, rfl⟩
              rw [← hσ34]
              refine a_aload_n (pc := 229) (i := 0) (by decide +kernel) rfl ?_
              refine b_getR (pc := 230) (b := 77) fl_X12_39 (by decide +kernel) (sh_68 hn) rfl ?_
              refine a_iload (pc := 233) (i := 5) (by decide +kernel) rfl ?_
              refine a_iload (pc := 235) (i := 4) (by decide +kernel) rfl ?_
              refine b_iastore (pc := 237) (by decide +kernel) (sh_77 hn) (by omega) (by omega) (by omega) ?_
              obtain ⟨σ35, hσ35⟩ : ∃ z, z = k_sA σ34 77 (j_up (σ34.1 77) k l) := ⟨_, rfl⟩
              rw [← hσ35]
              refine a_aload_n (pc := 238) (i := 0) (by decide +kernel) rfl ?_
              refine b_getI (pc := 239) fl_X12_145 (by decide +kernel) (sh_68 hn) rfl ?_
              rw [show σ35.2.1 68 12 = σ34.2.1 68 12 by rw [hσ35]; rfl]
              rw [show σ34.2.1 68 12 = σ33.2.1 68 12 by rw [hσ34]; rfl]
              rw [show σ33.2.1 68 12 = σ32.2.1 68 12 by rw [hσ33]; rfl]
              rw [show σ32.2.1 68 12 = σ31.2.1 68 12 by rw [hσ32]; rfl]
              rw [show σ31.2.1 68 12 = (σ.2.1 68 12) + 1 by rw [hσ31]; exact k_II]
              refine a_ireturn (pc := 242) (by decide +kernel) rfl ?_
              refine k_ret ?_
              exact ⟨rfl, Or.inr ⟨hok, k, hat, Or.inr (Or.inl ⟨hnew, by omega, rfl, τ, hF, by unfold pq_st; rw [hσ35, hσ34, hσ33, hσ32, hσ31]; rfl⟩)⟩⟩
            · refine a_bipush (pc := 109) (n := (-4)) (by decide +kernel) rfl ?_
              refine a_ireturn (pc := 111) (by decide +kernel) rfl ?_
              refine k_ret ?_
              exact ⟨rfl, Or.inr ⟨hok, k, ⟨h0, hN, hI, fun q => by omega⟩, Or.inl ⟨by first | exact Or.inl c86 | exact Or.inr c97 | omega, by omega, rfl, rfl⟩⟩⟩
      · refine a_iinc (pc := 74) (i := 5) (n := 1) (x := k) (lv' := [(0, .ref 68), (1, j_i g), (2, j_i f), (3, j_i y), (4, j_i l), (5, j_i (k + 1))]) (by decide +kernel) rfl (Nat.le_of_ble_eq_true rfl) rfl ?_
        refine a_goto (pc := 77) (off := -23) (tgt := 54) (by decide +kernel) (by decide) ?_
        exact ih (k + 1) (by omega) (by omega) (by omega) (fun q q0 q1 => by by_cases e : q = k; rw [e]; omega; exact hI q q0 (by omega))
set_option maxHeartbeats 4000000 in
theorem e_part {G : j_G} {X : k_X} {n : Nat} {σ : k_St} (hn : 101 ≤ n) (hm : 0 ≤ σ.2.1 68 12 ∧ σ.2.1 68 12 ≤ 8) (hpg : ∀ q, 0 ≤ q → q < σ.2.1 68 12 → 0 ≤ σ.1 74 q ∧ σ.1 74 q ≤ 299) {g : Int} (hg : -2147483648 ≤ g ∧ g ≤ 2147483647) {f : Int} (hf : -2147483648 ≤ f ∧ f ≤ 2147483647) {y : Int} (hy : -2147483648 ≤ y ∧ y ≤ 2147483647) {l : Int} (hl : -2147483648 ≤ l ∧ l ≤ 2147483647)  : k_run G X mX12_part [.ref 68, j_i g, j_i f, j_i y, j_i l] n σ 0 0 (fun v n' σ' => n' = n ∧ ((¬ pt_ok g f y l ∧ v = some (j_i (-2)) ∧ σ' = σ) ∨ (pt_ok g f y l ∧ ∃ k, pq_at σ g k ∧ (((k = σ.2.1 68 12 ∨ σ.1 74 k ≠ g) ∧ σ.2.1 68 12 = 8 ∧ v = some (j_i (-4)) ∧ σ' = σ) ∨ ((k = σ.2.1 68 12 ∨ σ.1 74 k ≠ g) ∧ σ.2.1 68 12 < 8 ∧ v = some (j_i (σ.2.1 68 12 + 1)) ∧ ∃ τ, pq_F σ τ k ∧ σ' = pq_st (k_sI τ 68 12 (σ.2.1 68 12 + 1)) k g f y l) ∨ ((k < σ.2.1 68 12 ∧ σ.1 74 k = g) ∧ v = some (j_i (σ.2.1 68 12)) ∧ σ' = pq_st σ k g f y l))))) := by
  refine k_enter (by decide +kernel) (Nat.le_of_ble_eq_true rfl) ?_
  show j_at _ _ _ [(0, .ref 68), (1, j_i g), (2, j_i f), (3, j_i y), (4, j_i l)] [] _ _ _ _
  refine a_iload_n (pc := 0) (i := 1) (by decide +kernel) rfl ?_
  refine a_iconst (pc := 1) (n := 0) (by decide +kernel) ?_
  refine a_sipush (pc := 2) (n := 299) (by decide +kernel) rfl ?_
  refine b_callS (pc := 5) (c' := 0) (sl' := 0) [j_i g, j_i 0, j_i 299] [] ml_X12_128 (by decide +kernel) rfl rfl (Nat.le_of_ble_eq_true rfl) (j_fitI rfl rfl) (s_dwithin (by omega) (by omega) (by omega)) (fun v n' σ' hq => ?_)
  obtain ⟨x, rfl, e1, e2, hx⟩ := hq
  rw [e1, e2]; clear e1 e2
  rcases hx with ⟨rfl, p5⟩ | ⟨rfl, p5⟩
  · show j_at _ _ _ [(0, .ref 68), (1, j_i g), (2, j_i f), (3, j_i y), (4, j_i l)] [j_i 1] _ _ _ _
    refine a_if_eq (pc := 8) (off := 40) (tgt := 48) (by decide +kernel) (by decide) (by omega) (fun c8 => ?_) (fun c8 => ?_)
    · exact absurd c8 (by decide)
    · refine a_iload_n (pc := 11) (i := 2) (by decide +kernel) rfl ?_
      refine a_iconst (pc := 12) (n := 0) (by decide +kernel) ?_
      refine a_iconst (pc := 13) (n := 2) (by decide +kernel) ?_
      refine b_callS (pc := 14) (c' := 0) (sl' := 0) [j_i f, j_i 0, j_i 2] [] ml_X12_128 (by decide +kernel) rfl rfl (Nat.le_of_ble_eq_true rfl) (j_fitI rfl rfl) (s_dwithin (by omega) (by omega) (by omega)) (fun v n' σ' hq => ?_)
      obtain ⟨x, rfl, e1, e2, hx⟩ := hq
      rw [e1, e2]; clear e1 e2
      rcases hx with ⟨rfl, p14⟩ | ⟨rfl, p14⟩
      · show j_at _ _ _ [(0, .ref 68), (1, j_i g), (2, j_i f), (3, j_i y), (4, j_i l)] [j_i 1] _ _ _ _
        refine a_if_eq (pc := 17) (off := 31) (tgt := 48) (by decide +kernel) (by decide) (by omega) (fun c17 => ?_) (fun c17 => ?_)
        · exact absurd c17 (by decide)
        · refine a_iload_n (pc := 20) (i := 3) (by decide +kernel) rfl ?_
          refine a_iconst (pc := 21) (n := 1) (by decide +kernel) ?_
          refine a_sipush (pc := 22) (n := 999) (by decide +kernel) rfl ?_
          refine b_callS (pc := 25) (c' := 0) (sl' := 0) [j_i y, j_i 1, j_i 999] [] ml_X12_128 (by decide +kernel) rfl rfl (Nat.le_of_ble_eq_true rfl) (j_fitI rfl rfl) (s_dwithin (by omega) (by omega) (by omega)) (fun v n' σ' hq => ?_)
          obtain ⟨x, rfl, e1, e2, hx⟩ := hq
          rw [e1, e2]; clear e1 e2
          rcases hx with ⟨rfl, p25⟩ | ⟨rfl, p25⟩
          · show j_at _ _ _ [(0, .ref 68), (1, j_i g), (2, j_i f), (3, j_i y), (4, j_i l)] [j_i 1] _ _ _ _
            refine a_if_eq (pc := 28) (off := 20) (tgt := 48) (by decide +kernel) (by decide) (by omega) (fun c28 => ?_) (fun c28 => ?_)
            · exact absurd c28 (by decide)
            · refine a_iload_n (pc := 31) (i := 2) (by decide +kernel) rfl ?_
              refine a_iconst (pc := 32) (n := 2) (by decide +kernel) ?_
              refine a_icmp_ne (pc := 33) (off := 18) (tgt := 51) (by decide +kernel) (by decide) (by omega) (by omega) (fun c33 => ?_) (fun c33 => ?_)
              · refine a_iconst (pc := 51) (n := 0) (by decide +kernel) ?_
                refine a_istore (pc := 52) (i := 5) (lv' := [(0, .ref 68), (1, j_i g), (2, j_i f), (3, j_i y), (4, j_i l), (5, j_i 0)]) (by decide +kernel) (Nat.le_of_ble_eq_true rfl) rfl ?_
                exact l_dpart54 hn hm hpg (by unfold pt_ok; omega) 10 0 (by omega) (by omega) (by omega) (fun q q0 q1 => absurd q0 (by omega))
              · refine a_iload (pc := 36) (i := 4) (by decide +kernel) rfl ?_
                refine a_bipush (pc := 38) (n := 65) (by decide +kernel) rfl ?_
                refine a_bipush (pc := 40) (n := 90) (by decide +kernel) rfl ?_
                refine b_callS (pc := 42) (c' := 0) (sl' := 0) [j_i l, j_i 65, j_i 90] [] ml_X12_128 (by decide +kernel) rfl rfl (Nat.le_of_ble_eq_true rfl) (j_fitI rfl rfl) (s_dwithin (by omega) (by omega) (by omega)) (fun v n' σ' hq => ?_)
                obtain ⟨x, rfl, e1, e2, hx⟩ := hq
                rw [e1, e2]; clear e1 e2
                rcases hx with ⟨rfl, p42⟩ | ⟨rfl, p42⟩
                · show j_at _ _ _ [(0, .ref 68), (1, j_i g), (2, j_i f), (3, j_i y), (4, j_i l)] [j_i 1] _ _ _ _
                  refine a_if_ne (pc := 45) (off := 6) (tgt := 51) (by decide +kernel) (by decide) (by omega) (fun c45 => ?_) (fun c45 => ?_)
                  · refine a_iconst (pc := 51) (n := 0) (by decide +kernel) ?_
                    refine a_istore (pc := 52) (i := 5) (lv' := [(0, .ref 68), (1, j_i g), (2, j_i f), (3, j_i y), (4, j_i l), (5, j_i 0)]) (by decide +kernel) (Nat.le_of_ble_eq_true rfl) rfl ?_
                    exact l_dpart54 hn hm hpg (by unfold pt_ok; omega) 10 0 (by omega) (by omega) (by omega) (fun q q0 q1 => absurd q0 (by omega))
                  · exact absurd c45 (by decide)
                · show j_at _ _ _ [(0, .ref 68), (1, j_i g), (2, j_i f), (3, j_i y), (4, j_i l)] [j_i 0] _ _ _ _
                  refine a_if_ne (pc := 45) (off := 6) (tgt := 51) (by decide +kernel) (by decide) (by omega) (fun c45 => ?_) (fun c45 => ?_)
                  · exact absurd c45 (by decide)
                  · refine a_bipush (pc := 48) (n := (-2)) (by decide +kernel) rfl ?_
                    refine a_ireturn (pc := 50) (by decide +kernel) rfl ?_
                    refine k_ret ?_
                    exact ⟨rfl, Or.inl ⟨by unfold pt_ok; omega, rfl, rfl⟩⟩
          · show j_at _ _ _ [(0, .ref 68), (1, j_i g), (2, j_i f), (3, j_i y), (4, j_i l)] [j_i 0] _ _ _ _
            refine a_if_eq (pc := 28) (off := 20) (tgt := 48) (by decide +kernel) (by decide) (by omega) (fun c28 => ?_) (fun c28 => ?_)
            · refine a_bipush (pc := 48) (n := (-2)) (by decide +kernel) rfl ?_
              refine a_ireturn (pc := 50) (by decide +kernel) rfl ?_
              refine k_ret ?_
              exact ⟨rfl, Or.inl ⟨by unfold pt_ok; omega, rfl, rfl⟩⟩
            · exact absurd c28 (by decide)
      · show j_at _ _ _ [(0, .ref 68), (1, j_i g), (2, j_i f), (3, j_i y), (4, j_i l)] [j_i 0] _ _ _ _
        refine a_if_eq (pc := 17) (off := 31) (tgt := 48) (by decide +kernel) (by decide) (by omega) (fun c17 => ?_) (fun c17 => ?_)
        · refine a_bipush (pc := 48) (n := (-2)) (by decide +kernel) rfl ?_
          refine a_ireturn (pc := 50) (by decide +kernel) rfl ?_
          refine k_ret ?_
          exact ⟨rfl, Or.inl ⟨by unfold pt_ok; omega, rfl, rfl⟩⟩
        · exact absurd c17 (by decide)
  · show j_at _ _ _ [(0, .ref 68), (1, j_i g), (2, j_i f), (3, j_i y), (4, j_i l)] [j_i 0] _ _ _ _
    refine a_if_eq (pc := 8) (off := 40) (tgt := 48) (by decide +kernel) (by decide) (by omega) (fun c8 => ?_) (fun c8 => ?_)
    · refine a_bipush (pc := 48) (n := (-2)) (by decide +kernel) rfl ?_
      refine a_ireturn (pc := 50) (by decide +kernel) rfl ?_
      refine k_ret ?_
      exact ⟨rfl, Or.inl ⟨by unfold pt_ok; omega, rfl, rfl⟩⟩
    · exact absurd c8 (by decide)
