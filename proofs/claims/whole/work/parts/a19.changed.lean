def mlk (σ : k_St) (e q : Int) : Prop := (σ.1 82 e = σ.1 89 q ∧ σ.1 84 e = σ.1 91 q) ∧ (∀ k, 0 ≤ k → k < 4 * σ.1 82 e → σ.1 86 (4 * σ.1 83 e + k) = σ.1 93 (4 * σ.1 90 q + k)) ∧ ∀ k, 0 ≤ k → k < σ.1 84 e → σ.1 87 (3 * (σ.1 85 e + k)) = σ.1 94 (3 * (σ.1 92 q + k)) ∧ σ.1 87 (3 * (σ.1 85 e + k) + 1) = σ.1 94 (3 * (σ.1 92 q + k) + 1)
def chE (A1 A2 B1 B2 V W : Int → Int) (e : Int) : Prop := (0 ≤ A1 e ∧ 0 ≤ A2 e ∧ A2 e + A1 e ≤ 50) ∧ (0 ≤ B1 e ∧ 0 ≤ B2 e ∧ B2 e + B1 e ≤ 50) ∧ (∀ k, 0 ≤ k → k < 4 * A1 e → -1000 ≤ V (4 * A2 e + k) ∧ V (4 * A2 e + k) ≤ 1000) ∧ ∀ k, 0 ≤ k → k < B1 e → (-1000 ≤ W (3 * (B2 e + k)) ∧ W (3 * (B2 e + k)) ≤ 1000) ∧ (-1000 ≤ W (3 * (B2 e + k) + 1) ∧ W (3 * (B2 e + k) + 1) ≤ 1000)
def chN (σ : k_St) (e : Int) : Prop := chE (σ.1 82) (σ.1 83) (σ.1 84) (σ.1 85) (σ.1 86) (σ.1 87) e
def chO (σ : k_St) (e : Int) : Prop := chE (σ.1 89) (σ.1 90) (σ.1 91) (σ.1 92) (σ.1 93) (σ.1 94) e
set_option maxHeartbeats 4000000 in
theorem l_ab106 {G : j_G} {X : k_X} {n : Nat} {σ : k_St} (hn : 101 ≤ n) {e q : Int} (e0 : 0 ≤ e ∧ e < 150) (q0 : 0 ≤ q ∧ q < 150) (hN : chN σ e) (hO : chO σ q)  : ∀ (z : Nat) (i b : Int), σ.1 84 e - i < (z : Int) → 0 ≤ i → i ≤ σ.1 84 e → (b = 0 ∨ b = 1) → (b = 1 ↔ (σ.1 82 e = σ.1 89 q ∧ σ.1 84 e = σ.1 91 q) ∧ (∀ k, 0 ≤ k → k < 4 * σ.1 82 e → σ.1 86 (4 * σ.1 83 e + k) = σ.1 93 (4 * σ.1 90 q + k)) ∧ (∀ k, 0 ≤ k → k < i → σ.1 87 (3 * (σ.1 85 e + k)) = σ.1 94 (3 * (σ.1 92 q + k)) ∧ σ.1 87 (3 * (σ.1 85 e + k) + 1) = σ.1 94 (3 * (σ.1 92 q + k) + 1))) → j_at G mX12_isAsBefore 106 [(0, .ref 68), (1, j_i e), (2, j_i q), (3, j_i b), (4, j_i i)] [] (k_h X n σ) 0 0 (k_Q X (k_b n σ (mlk σ e q))) := by
  obtain ⟨a1, a2, a3, a4⟩ := hN
  obtain ⟨b1, b2, b3, b4⟩ := hO
  intro z
  induction z with
  | zero => intro i b h1 h2 h3; exact absurd h1 (by omega)
  | succ z ih =>
    intro i b hz i0 iN hb01 hI
    refine a_iload_n (pc := 106) (i := 3) (by decide +kernel) rfl ?_
    refine a_if_eq (pc := 107) (off := 90) (tgt := 197) (by decide +kernel) (by decide) (by omega) (fun c107 => ?_) (fun c107 => ?_)
    · refine a_iload_n (pc := 197) (i := 3) (by decide +kernel) rfl ?_
      refine a_zreturn (pc := 198) (by decide +kernel) rfl hb01 ?_
      refine k_ret ?_
      refine ⟨b, rfl, rfl, rfl, ?_⟩
      have hx : b = 1 ↔ mlk σ e q := by
        unfold mlk
        constructor
        · intro w
          obtain ⟨v1, v2, v3⟩ := hI.mp w
          exact ⟨v1, v2, fun k k0 k1 => v3 k k0 (by omega)⟩
        · rintro ⟨v1, v2, v3⟩
          exact hI.mpr ⟨v1, v2, fun k k0 k1 => v3 k k0 (by omega)⟩
      rcases hb01 with w | w
      · exact Or.inr ⟨w, fun v => by have := hx.mpr v; omega⟩
      · exact Or.inl ⟨w, hx.mp w⟩
    · refine a_iload (pc := 110) (i := 4) (by decide +kernel) rfl ?_
      refine a_aload_n (pc := 112) (i := 0) (by decide +kernel) rfl ?_
      refine b_getR (pc := 113) (b := 84) fl_X12_60 (by decide +kernel) (sh_68 hn) rfl ?_
      refine a_iload_n (pc := 116) (i := 1) (by decide +kernel) rfl ?_
      refine b_iaload (pc := 117) (by decide +kernel) (sh_84 hn) (by omega) (by omega) (by omega) ?_
      refine a_icmp_ge (pc := 118) (off := 79) (tgt := 197) (by decide +kernel) (by decide) (by omega) (by omega) (fun c118 => ?_) (fun c118 => ?_)
      · refine a_iload_n (pc := 197) (i := 3) (by decide +kernel) rfl ?_
        refine a_zreturn (pc := 198) (by decide +kernel) rfl hb01 ?_
        refine k_ret ?_
        refine ⟨b, rfl, rfl, rfl, ?_⟩
        have hx : b = 1 ↔ mlk σ e q := by
          unfold mlk
          constructor
          · intro w
            obtain ⟨v1, v2, v3⟩ := hI.mp w
            exact ⟨v1, v2, fun k k0 k1 => v3 k k0 (by omega)⟩
          · rintro ⟨v1, v2, v3⟩
            exact hI.mpr ⟨v1, v2, fun k k0 k1 => v3 k k0 (by omega)⟩
        rcases hb01 with w | w
        · exact Or.inr ⟨w, fun v => by have := hx.mpr v; omega⟩
        · exact Or.inl ⟨w, hx.mp w⟩
      · have y1 := a4 i i0 (by omega)
        have y2 := b4 i i0 (by have := (hI.mp (by omega)).1; omega)
        have y3 := (hI.mp (by omega)).1
        refine a_iconst (pc := 121) (n := 3) (by decide +kernel) ?_
        refine a_aload_n (pc := 122) (i := 0) (by decide +kernel) rfl ?_
        refine b_getR (pc := 123) (b := 85) fl_X12_63 (by decide +kernel) (sh_68 hn) rfl ?_
        refine a_iload_n (pc := 126) (i := 1) (by decide +kernel) rfl ?_
        refine b_iaload (pc := 127) (by decide +kernel) (sh_85 hn) (by omega) (by omega) (by omega) ?_
        refine a_iload (pc := 128) (i := 4) (by decide +kernel) rfl ?_
        refine a_iadd (pc := 130) (by decide +kernel) ?_
        refine a_imul (pc := 131) (by decide +kernel) ?_
        refine a_istore (pc := 132) (i := 5) (lv' := [(0, .ref 68), (1, j_i e), (2, j_i q), (3, j_i b), (4, j_i i), (5, j_i (3 * ((σ.1 85 e) + i)))]) (by decide +kernel) (Nat.le_of_ble_eq_true rfl) rfl ?_
        refine a_iconst (pc := 134) (n := 3) (by decide +kernel) ?_
        refine a_aload_n (pc := 135) (i := 0) (by decide +kernel) rfl ?_
        refine b_getR (pc := 136) (b := 92) fl_X12_84 (by decide +kernel) (sh_68 hn) rfl ?_
        refine a_iload_n (pc := 139) (i := 2) (by decide +kernel) rfl ?_
        refine b_iaload (pc := 140) (by decide +kernel) (sh_92 hn) (by omega) (by omega) (by omega) ?_
        refine a_iload (pc := 141) (i := 4) (by decide +kernel) rfl ?_
        refine a_iadd (pc := 143) (by decide +kernel) ?_
        refine a_imul (pc := 144) (by decide +kernel) ?_
        refine a_istore (pc := 145) (i := 6) (lv' := [(0, .ref 68), (1, j_i e), (2, j_i q), (3, j_i b), (4, j_i i), (5, j_i (3 * ((σ.1 85 e) + i))), (6, j_i (3 * ((σ.1 92 q) + i)))]) (by decide +kernel) (Nat.le_of_ble_eq_true rfl) rfl ?_
        refine a_aload_n (pc := 147) (i := 0) (by decide +kernel) rfl ?_
        refine b_getR (pc := 148) (b := 87) fl_X12_69 (by decide +kernel) (sh_68 hn) rfl ?_
        refine a_iload (pc := 151) (i := 5) (by decide +kernel) rfl ?_
        refine b_iaload (pc := 153) (by decide +kernel) (sh_87 hn) (by omega) (by omega) (by omega) ?_
        refine a_aload_n (pc := 154) (i := 0) (by decide +kernel) rfl ?_
        refine b_getR (pc := 155) (b := 94) fl_X12_90 (by decide +kernel) (sh_68 hn) rfl ?_
        refine a_iload (pc := 158) (i := 6) (by decide +kernel) rfl ?_
        refine b_iaload (pc := 160) (by decide +kernel) (sh_94 hn) (by omega) (by omega) (by omega) ?_
        refine a_icmp_ne (pc := 161) (off := 28) (tgt := 189) (by decide +kernel) (by decide) (by omega) (by omega) (fun c161 => ?_) (fun c161 => ?_)
        · refine a_iconst (pc := 189) (n := 0) (by decide +kernel) ?_
          refine a_istore_n (pc := 190) (i := 3) (lv' := [(0, .ref 68), (1, j_i e), (2, j_i q), (3, j_i 0), (4, j_i i), (5, j_i (3 * ((σ.1 85 e) + i))), (6, j_i (3 * ((σ.1 92 q) + i)))]) (by decide +kernel) (Nat.le_of_ble_eq_true rfl) rfl ?_
          refine a_iinc (pc := 191) (i := 4) (n := 1) (x := i) (lv' := [(0, .ref 68), (1, j_i e), (2, j_i q), (3, j_i 0), (4, j_i (i + 1)), (5, j_i (3 * ((σ.1 85 e) + i))), (6, j_i (3 * ((σ.1 92 q) + i)))]) (by decide +kernel) rfl (Nat.le_of_ble_eq_true rfl) rfl ?_
          refine a_goto (pc := 194) (off := -88) (tgt := 106) (by decide +kernel) (by decide) ?_
          exact a_sub (lv' := [(0, .ref 68), (1, j_i e), (2, j_i q), (3, j_i 0), (4, j_i (i + 1))]) (fun q hq => by simp only [List.mem_cons, List.not_mem_nil, or_false] at hq ⊢; rcases hq with rfl | rfl | rfl | rfl | rfl <;> simp) (ih (i + 1) 0 (by omega) (by omega) (by omega) (Or.inl rfl) ⟨fun w => absurd w (by omega), fun w => by have v := w.2.2 i i0 (by omega); first | exact absurd v.1 c161 | exact absurd v.2 c182⟩)
        · refine a_aload_n (pc := 164) (i := 0) (by decide +kernel) rfl ?_
          refine b_getR (pc := 165) (b := 87) fl_X12_69 (by decide +kernel) (sh_68 hn) rfl ?_
          refine a_iload (pc := 168) (i := 5) (by decide +kernel) rfl ?_
          refine a_iconst (pc := 170) (n := 1) (by decide +kernel) ?_
          refine a_iadd (pc := 171) (by decide +kernel) ?_
          refine b_iaload (pc := 172) (by decide +kernel) (sh_87 hn) (by omega) (by omega) (by omega) ?_
          refine a_aload_n (pc := 173) (i := 0) (by decide +kernel) rfl ?_
          refine b_getR (pc := 174) (b := 94) fl_X12_90 (by decide +kernel) (sh_68 hn) rfl ?_
          refine a_iload (pc := 177) (i := 6) (by decide +kernel) rfl ?_
          refine a_iconst (pc := 179) (n := 1) (by decide +kernel) ?_
          refine a_iadd (pc := 180) (by decide +kernel) ?_
          refine b_iaload (pc := 181) (by decide +kernel) (sh_94 hn) (by omega) (by omega) (by omega) ?_
          refine a_icmp_ne (pc := 182) (off := 7) (tgt := 189) (by decide +kernel) (by decide) (by omega) (by omega) (fun c182 => ?_) (fun c182 => ?_)
          · refine a_iconst (pc := 189) (n := 0) (by decide +kernel) ?_
            refine a_istore_n (pc := 190) (i := 3) (lv' := [(0, .ref 68), (1, j_i e), (2, j_i q), (3, j_i 0), (4, j_i i), (5, j_i (3 * ((σ.1 85 e) + i))), (6, j_i (3 * ((σ.1 92 q) + i)))]) (by decide +kernel) (Nat.le_of_ble_eq_true rfl) rfl ?_
            refine a_iinc (pc := 191) (i := 4) (n := 1) (x := i) (lv' := [(0, .ref 68), (1, j_i e), (2, j_i q), (3, j_i 0), (4, j_i (i + 1)), (5, j_i (3 * ((σ.1 85 e) + i))), (6, j_i (3 * ((σ.1 92 q) + i)))]) (by decide +kernel) rfl (Nat.le_of_ble_eq_true rfl) rfl ?_
            refine a_goto (pc := 194) (off := -88) (tgt := 106) (by decide +kernel) (by decide) ?_
            exact a_sub (lv' := [(0, .ref 68), (1, j_i e), (2, j_i q), (3, j_i 0), (4, j_i (i + 1))]) (fun q hq => by simp only [List.mem_cons, List.not_mem_nil, or_false] at hq ⊢; rcases hq with rfl | rfl | rfl | rfl | rfl <;> simp) (ih (i + 1) 0 (by omega) (by omega) (by omega) (Or.inl rfl) ⟨fun w => absurd w (by omega), fun w => by have v := w.2.2 i i0 (by omega); first | exact absurd v.1 c161 | exact absurd v.2 c182⟩)
          · refine a_iconst (pc := 185) (n := 1) (by decide +kernel) ?_
            refine a_goto (pc := 186) (off := 4) (tgt := 190) (by decide +kernel) (by decide) ?_
            refine a_istore_n (pc := 190) (i := 3) (lv' := [(0, .ref 68), (1, j_i e), (2, j_i q), (3, j_i 1), (4, j_i i), (5, j_i (3 * ((σ.1 85 e) + i))), (6, j_i (3 * ((σ.1 92 q) + i)))]) (by decide +kernel) (Nat.le_of_ble_eq_true rfl) rfl ?_
            refine a_iinc (pc := 191) (i := 4) (n := 1) (x := i) (lv' := [(0, .ref 68), (1, j_i e), (2, j_i q), (3, j_i 1), (4, j_i (i + 1)), (5, j_i (3 * ((σ.1 85 e) + i))), (6, j_i (3 * ((σ.1 92 q) + i)))]) (by decide +kernel) rfl (Nat.le_of_ble_eq_true rfl) rfl ?_
            refine a_goto (pc := 194) (off := -88) (tgt := 106) (by decide +kernel) (by decide) ?_
            exact a_sub (lv' := [(0, .ref 68), (1, j_i e), (2, j_i q), (3, j_i 1), (4, j_i (i + 1))]) (fun q hq => by simp only [List.mem_cons, List.not_mem_nil, or_false] at hq ⊢; rcases hq with rfl | rfl | rfl | rfl | rfl <;> simp) (ih (i + 1) 1 (by omega) (by omega) (by omega) (Or.inr rfl) ⟨fun _ => ⟨(hI.mp (by omega)).1, (hI.mp (by omega)).2.1, fun k k0 k1 => by by_cases w : k = i; rw [w]; exact ⟨c161, c182⟩; exact (hI.mp (by omega)).2.2 k k0 (by omega)⟩, fun _ => rfl⟩)
set_option maxHeartbeats 4000000 in
theorem l_ab39 {G : j_G} {X : k_X} {n : Nat} {σ : k_St} (hn : 101 ≤ n) {e q : Int} (e0 : 0 ≤ e ∧ e < 150) (q0 : 0 ≤ q ∧ q < 150) (hN : chN σ e) (hO : chO σ q)  : ∀ (z : Nat) (i b : Int), 4 * σ.1 82 e - i < (z : Int) → 0 ≤ i → i ≤ 4 * σ.1 82 e → (b = 0 ∨ b = 1) → (b = 1 ↔ (σ.1 82 e = σ.1 89 q ∧ σ.1 84 e = σ.1 91 q) ∧ (∀ k, 0 ≤ k → k < i → σ.1 86 (4 * σ.1 83 e + k) = σ.1 93 (4 * σ.1 90 q + k))) → j_at G mX12_isAsBefore 39 [(0, .ref 68), (1, j_i e), (2, j_i q), (3, j_i b), (4, j_i i)] [] (k_h X n σ) 0 0 (k_Q X (k_b n σ (mlk σ e q))) := by
  obtain ⟨a1, a2, a3, a4⟩ := hN
  obtain ⟨b1, b2, b3, b4⟩ := hO
  intro z
  induction z with
  | zero => intro i b h1 h2 h3; exact absurd h1 (by omega)
  | succ z ih =>
    intro i b hz i0 iN hb01 hI
    refine a_iload_n (pc := 39) (i := 3) (by decide +kernel) rfl ?_
    refine a_if_eq (pc := 40) (off := 63) (tgt := 103) (by decide +kernel) (by decide) (by omega) (fun c40 => ?_) (fun c40 => ?_)
    · refine a_iconst (pc := 103) (n := 0) (by decide +kernel) ?_
      refine a_istore (pc := 104) (i := 4) (lv' := [(0, .ref 68), (1, j_i e), (2, j_i q), (3, j_i b), (4, j_i 0)]) (by decide +kernel) (Nat.le_of_ble_eq_true rfl) rfl ?_
      first
      | exact l_ab106 hn e0 q0 ⟨a1, a2, a3, a4⟩ ⟨b1, b2, b3, b4⟩ (σ.1 84 e).toNat.succ 0 b (by omega) (by omega) (by omega) hb01 ⟨fun w => absurd w (by omega), fun w => absurd (hI.mpr ⟨w.1, fun k k0 k1 => w.2.1 k k0 (by omega)⟩) (by omega)⟩
      | exact l_ab106 hn e0 q0 ⟨a1, a2, a3, a4⟩ ⟨b1, b2, b3, b4⟩ (σ.1 84 e).toNat.succ 0 b (by omega) (by omega) (by omega) hb01 ⟨fun w => ⟨(hI.mp w).1, fun k k0 k1 => (hI.mp w).2 k k0 (by omega), fun k k0 k1 => absurd k1 (by omega)⟩, fun w => hI.mpr ⟨w.1, fun k k0 k1 => w.2.1 k k0 (by omega)⟩⟩
    · refine a_iload (pc := 43) (i := 4) (by decide +kernel) rfl ?_
      refine a_iconst (pc := 45) (n := 4) (by decide +kernel) ?_
      refine a_aload_n (pc := 46) (i := 0) (by decide +kernel) rfl ?_
      refine b_getR (pc := 47) (b := 82) fl_X12_54 (by decide +kernel) (sh_68 hn) rfl ?_
      refine a_iload_n (pc := 50) (i := 1) (by decide +kernel) rfl ?_
      refine b_iaload (pc := 51) (by decide +kernel) (sh_82 hn) (by omega) (by omega) (by omega) ?_
      refine a_imul (pc := 52) (by decide +kernel) ?_
      refine a_icmp_ge (pc := 53) (off := 50) (tgt := 103) (by decide +kernel) (by decide) (by omega) (by omega) (fun c53 => ?_) (fun c53 => ?_)
      · refine a_iconst (pc := 103) (n := 0) (by decide +kernel) ?_
        refine a_istore (pc := 104) (i := 4) (lv' := [(0, .ref 68), (1, j_i e), (2, j_i q), (3, j_i b), (4, j_i 0)]) (by decide +kernel) (Nat.le_of_ble_eq_true rfl) rfl ?_
        first
        | exact l_ab106 hn e0 q0 ⟨a1, a2, a3, a4⟩ ⟨b1, b2, b3, b4⟩ (σ.1 84 e).toNat.succ 0 b (by omega) (by omega) (by omega) hb01 ⟨fun w => absurd w (by omega), fun w => absurd (hI.mpr ⟨w.1, fun k k0 k1 => w.2.1 k k0 (by omega)⟩) (by omega)⟩
        | exact l_ab106 hn e0 q0 ⟨a1, a2, a3, a4⟩ ⟨b1, b2, b3, b4⟩ (σ.1 84 e).toNat.succ 0 b (by omega) (by omega) (by omega) hb01 ⟨fun w => ⟨(hI.mp w).1, fun k k0 k1 => (hI.mp w).2 k k0 (by omega), fun k k0 k1 => absurd k1 (by omega)⟩, fun w => hI.mpr ⟨w.1, fun k k0 k1 => w.2.1 k k0 (by omega)⟩⟩
      · have y1 := a3 i i0 (by omega)
        have y4 := (hI.mp (by omega)).1
        have y2 := b3 i i0 (by omega)
        refine a_aload_n (pc := 56) (i := 0) (by decide +kernel) rfl ?_
        refine b_getR (pc := 57) (b := 86) fl_X12_66 (by decide +kernel) (sh_68 hn) rfl ?_
        refine a_iconst (pc := 60) (n := 4) (by decide +kernel) ?_
        refine a_aload_n (pc := 61) (i := 0) (by decide +kernel) rfl ?_
        refine b_getR (pc := 62) (b := 83) fl_X12_57 (by decide +kernel) (sh_68 hn) rfl ?_
        refine a_iload_n (pc := 65) (i := 1) (by decide +kernel) rfl ?_
        refine b_iaload (pc := 66) (by decide +kernel) (sh_83 hn) (by omega) (by omega) (by omega) ?_
        refine a_imul (pc := 67) (by decide +kernel) ?_
        refine a_iload (pc := 68) (i := 4) (by decide +kernel) rfl ?_
        refine a_iadd (pc := 70) (by decide +kernel) ?_
        refine b_iaload (pc := 71) (by decide +kernel) (sh_86 hn) (by omega) (by omega) (by omega) ?_
        refine a_aload_n (pc := 72) (i := 0) (by decide +kernel) rfl ?_
        refine b_getR (pc := 73) (b := 93) fl_X12_87 (by decide +kernel) (sh_68 hn) rfl ?_
        refine a_iconst (pc := 76) (n := 4) (by decide +kernel) ?_
        refine a_aload_n (pc := 77) (i := 0) (by decide +kernel) rfl ?_
        refine b_getR (pc := 78) (b := 90) fl_X12_78 (by decide +kernel) (sh_68 hn) rfl ?_
        refine a_iload_n (pc := 81) (i := 2) (by decide +kernel) rfl ?_
        refine b_iaload (pc := 82) (by decide +kernel) (sh_90 hn) (by omega) (by omega) (by omega) ?_
        refine a_imul (pc := 83) (by decide +kernel) ?_
        refine a_iload (pc := 84) (i := 4) (by decide +kernel) rfl ?_
        refine a_iadd (pc := 86) (by decide +kernel) ?_
        refine b_iaload (pc := 87) (by decide +kernel) (sh_93 hn) (by omega) (by omega) (by omega) ?_
        refine a_icmp_ne (pc := 88) (off := 7) (tgt := 95) (by decide +kernel) (by decide) (by omega) (by omega) (fun c88 => ?_) (fun c88 => ?_)
        · refine a_iconst (pc := 95) (n := 0) (by decide +kernel) ?_
          refine a_istore_n (pc := 96) (i := 3) (lv' := [(0, .ref 68), (1, j_i e), (2, j_i q), (3, j_i 0), (4, j_i i)]) (by decide +kernel) (Nat.le_of_ble_eq_true rfl) rfl ?_
          refine a_iinc (pc := 97) (i := 4) (n := 1) (x := i) (lv' := [(0, .ref 68), (1, j_i e), (2, j_i q), (3, j_i 0), (4, j_i (i + 1))]) (by decide +kernel) rfl (Nat.le_of_ble_eq_true rfl) rfl ?_
          refine a_goto (pc := 100) (off := -61) (tgt := 39) (by decide +kernel) (by decide) ?_
          exact ih (i + 1) 0 (by omega) (by omega) (by omega) (Or.inl rfl) ⟨fun w => absurd w (by omega), fun w => absurd (w.2 i i0 (by omega)) c88⟩
        · refine a_iconst (pc := 91) (n := 1) (by decide +kernel) ?_
          refine a_goto (pc := 92) (off := 4) (tgt := 96) (by decide +kernel) (by decide) ?_
          refine a_istore_n (pc := 96) (i := 3) (lv' := [(0, .ref 68), (1, j_i e), (2, j_i q), (3, j_i 1), (4, j_i i)]) (by decide +kernel) (Nat.le_of_ble_eq_true rfl) rfl ?_
          refine a_iinc (pc := 97) (i := 4) (n := 1) (x := i) (lv' := [(0, .ref 68), (1, j_i e), (2, j_i q), (3, j_i 1), (4, j_i (i + 1))]) (by decide +kernel) rfl (Nat.le_of_ble_eq_true rfl) rfl ?_
          refine a_goto (pc := 100) (off := -61) (tgt := 39) (by decide +kernel) (by decide) ?_
          exact ih (i + 1) 1 (by omega) (by omega) (by omega) (Or.inr rfl) ⟨fun _ => ⟨(hI.mp (by omega)).1, fun k k0 k1 => by by_cases w : k = i; rw [w]; exact c88; exact (hI.mp (by omega)).2 k k0 (by omega)⟩, fun _ => rfl⟩
set_option maxHeartbeats 4000000 in
theorem e_isAsBefore {G : j_G} {X : k_X} {n : Nat} {σ : k_St} (hn : 101 ≤ n) {e q : Int} (e0 : 0 ≤ e ∧ e < 150) (q0 : 0 ≤ q ∧ q < 150) (hN : chN σ e) (hO : chO σ q)  : k_run G X mX12_isAsBefore [.ref 68, j_i e, j_i q] n σ 0 0 (k_b n σ (mlk σ e q)) := by
  obtain ⟨a1, a2, a3, a4⟩ := id hN
  obtain ⟨b1, b2, b3, b4⟩ := id hO
  refine k_enter (by decide +kernel) (Nat.le_of_ble_eq_true rfl) ?_
  show j_at _ _ _ [(0, .ref 68), (1, j_i e), (2, j_i q)] [] _ _ _ _
  refine a_aload_n (pc := 0) (i := 0) (by decide +kernel) rfl ?_
  refine b_getR (pc := 1) (b := 82) fl_X12_54 (by decide +kernel) (sh_68 hn) rfl ?_
  refine a_iload_n (pc := 4) (i := 1) (by decide +kernel) rfl ?_
  refine b_iaload (pc := 5) (by decide +kernel) (sh_82 hn) (by omega) (by omega) (by omega) ?_
  refine a_aload_n (pc := 6) (i := 0) (by decide +kernel) rfl ?_
  refine b_getR (pc := 7) (b := 89) fl_X12_75 (by decide +kernel) (sh_68 hn) rfl ?_
  refine a_iload_n (pc := 10) (i := 2) (by decide +kernel) rfl ?_
  refine b_iaload (pc := 11) (by decide +kernel) (sh_89 hn) (by omega) (by omega) (by omega) ?_
  refine a_icmp_ne (pc := 12) (off := 22) (tgt := 34) (by decide +kernel) (by decide) (by omega) (by omega) (fun c12 => ?_) (fun c12 => ?_)
  · refine a_iconst (pc := 34) (n := 0) (by decide +kernel) ?_
    refine a_istore_n (pc := 35) (i := 3) (lv' := [(0, .ref 68), (1, j_i e), (2, j_i q), (3, j_i 0)]) (by decide +kernel) (Nat.le_of_ble_eq_true rfl) rfl ?_
    refine a_iconst (pc := 36) (n := 0) (by decide +kernel) ?_
    refine a_istore (pc := 37) (i := 4) (lv' := [(0, .ref 68), (1, j_i e), (2, j_i q), (3, j_i 0), (4, j_i 0)]) (by decide +kernel) (Nat.le_of_ble_eq_true rfl) rfl ?_
    exact l_ab39 hn e0 q0 ⟨a1, a2, a3, a4⟩ ⟨b1, b2, b3, b4⟩ (4 * σ.1 82 e).toNat.succ 0 0 (by omega) (by omega) (by omega) (by omega) ⟨fun w => absurd w (by omega), fun w => by first | exact absurd w.1.1 c12 | exact absurd w.1.2 c27⟩
  · refine a_aload_n (pc := 15) (i := 0) (by decide +kernel) rfl ?_
    refine b_getR (pc := 16) (b := 84) fl_X12_60 (by decide +kernel) (sh_68 hn) rfl ?_
    refine a_iload_n (pc := 19) (i := 1) (by decide +kernel) rfl ?_
    refine b_iaload (pc := 20) (by decide +kernel) (sh_84 hn) (by omega) (by omega) (by omega) ?_
    refine a_aload_n (pc := 21) (i := 0) (by decide +kernel) rfl ?_
    refine b_getR (pc := 22) (b := 91) fl_X12_81 (by decide +kernel) (sh_68 hn) rfl ?_
    refine a_iload_n (pc := 25) (i := 2) (by decide +kernel) rfl ?_
    refine b_iaload (pc := 26) (by decide +kernel) (sh_91 hn) (by omega) (by omega) (by omega) ?_
    refine a_icmp_ne (pc := 27) (off := 7) (tgt := 34) (by decide +kernel) (by decide) (by omega) (by omega) (fun c27 => ?_) (fun c27 => ?_)
    · refine a_iconst (pc := 34) (n := 0) (by decide +kernel) ?_
      refine a_istore_n (pc := 35) (i := 3) (lv' := [(0, .ref 68), (1, j_i e), (2, j_i q), (3, j_i 0)]) (by decide +kernel) (Nat.le_of_ble_eq_true rfl) rfl ?_
      refine a_iconst (pc := 36) (n := 0) (by decide +kernel) ?_
      refine a_istore (pc := 37) (i := 4) (lv' := [(0, .ref 68), (1, j_i e), (2, j_i q), (3, j_i 0), (4, j_i 0)]) (by decide +kernel) (Nat.le_of_ble_eq_true rfl) rfl ?_
      exact l_ab39 hn e0 q0 ⟨a1, a2, a3, a4⟩ ⟨b1, b2, b3, b4⟩ (4 * σ.1 82 e).toNat.succ 0 0 (by omega) (by omega) (by omega) (by omega) ⟨fun w => absurd w (by omega), fun w => by first | exact absurd w.1.1 c12 | exact absurd w.1.2 c27⟩
    · refine a_iconst (pc := 30) (n := 1) (by decide +kernel) ?_
      refine a_goto (pc := 31) (off := 4) (tgt := 35) (by decide +kernel) (by decide) ?_
      refine a_istore_n (pc := 35) (i := 3) (lv' := [(0, .ref 68), (1, j_i e), (2, j_i q), (3, j_i 1)]) (by decide +kernel) (Nat.le_of_ble_eq_true rfl) rfl ?_
      refine a_iconst (pc := 36) (n := 0) (by decide +kernel) ?_
      refine a_istore (pc := 37) (i := 4) (lv' := [(0, .ref 68), (1, j_i e), (2, j_i q), (3, j_i 1), (4, j_i 0)]) (by decide +kernel) (Nat.le_of_ble_eq_true rfl) rfl ?_
      exact l_ab39 hn e0 q0 ⟨a1, a2, a3, a4⟩ ⟨b1, b2, b3, b4⟩ (4 * σ.1 82 e).toNat.succ 0 1 (by omega) (by omega) (by omega) (by omega) ⟨fun _ => ⟨⟨c12, c27⟩, fun k k0 k1 => absurd k1 (by omega)⟩, fun _ => rfl⟩
theorem n_cy {P : Int → Prop} {k c : Int} (k0 : 0 ≤ k) (hp : P k) (h : n_cnt P k.toNat c) : n_cnt P (k + 1).toNat (c + 1) := by
  rw [show (k + 1).toNat = k.toNat + 1 by omega]
  exact Or.inl ⟨by rw [show ((k.toNat : Nat) : Int) = k by omega]; exact hp, by rw [show c + 1 - 1 = c by omega]; exact h⟩
theorem n_cn {P : Int → Prop} {k c : Int} (k0 : 0 ≤ k) (hp : ¬ P k) (h : n_cnt P k.toNat c) : n_cnt P (k + 1).toNat c := by
  rw [show (k + 1).toNat = k.toNat + 1 by omega]
  exact Or.inr ⟨by rw [show ((k.toNat : Nat) : Int) = k by omega]; exact hp, h⟩
theorem n_cnt_0 {P : Int → Prop} : ∀ {k : Nat}, (∀ i : Int, 0 ≤ i → i < k → ¬ P i) → n_cnt P k 0
  | 0, _ => rfl
  | k + 1, h => Or.inr ⟨h k (by omega) (by omega), n_cnt_0 (fun i i0 i1 => h i i0 (by omega))⟩
theorem n_cnt_not {P : Int → Prop} : ∀ {k : Nat} {c : Int}, n_cnt P k c → n_cnt (fun i => ¬ P i) k (k - c)
  | 0, c, h => by have h : c = 0 := h; show ((0 : Nat) : Int) - c = 0; omega
  | k + 1, c, h => by
    rcases h with ⟨h1, h2⟩ | ⟨h1, h2⟩
    · refine Or.inr ⟨fun w => w h1, ?_⟩
      have := n_cnt_not h2
      rw [show ((k + 1 : Nat) : Int) - c = (k : Int) - (c - 1) by omega]; exact this
    · refine Or.inl ⟨h1, ?_⟩
      have := n_cnt_not h2
      rw [show ((k + 1 : Nat) : Int) - c - 1 = (k : Int) - c by omega]; exact this
theorem n_cnt_one {P : Int → Prop} {q : Int} : ∀ {k : Nat} {c : Int}, 0 ≤ q → q < (k : Int) → ¬ P q → n_cnt P k c → n_cnt (fun i => P i ∨ i = q) k (c + 1)
  | 0, c, h0, h1, _, _ => by omega
  | k + 1, c, h0, h1, hp, h => by
    by_cases e : q = k
    · have g : ∀ {d : Int}, n_cnt P k d → n_cnt (fun i => P i ∨ i = q) k d := fun hd => n_cnt_cg (fun i i0 i1 => ⟨Or.inl, fun w => by rcases w with w | w; exact w; omega⟩) hd
      rcases h with ⟨a, b⟩ | ⟨a, b⟩
      · rw [e] at hp; exact absurd a hp
      · exact Or.inl ⟨Or.inr e.symm, by rw [show c + 1 - 1 = c by omega]; exact g b⟩
    · rcases h with ⟨a, b⟩ | ⟨a, b⟩
      · refine Or.inl ⟨Or.inl a, ?_⟩
        have := n_cnt_one h0 (by omega) hp b
        rw [show c - 1 + 1 = c + 1 - 1 by omega] at this; exact this
      · refine Or.inr ⟨fun w => by rcases w with w | w; exact a w; omega, n_cnt_one h0 (by omega) hp b⟩
theorem n_cnt_bij {f g : Int → Int} {m : Nat} (hg : ij g m) : ∀ {n : Nat} {y : Int}, ij f n → n_cnt (fun e => im g m (f e)) n y → n_cnt (fun q => im f n (g q)) m y
  | 0, y, _, h => by
    have h : y = 0 := h
    rw [h]; exact n_cnt_0 (fun i i0 i1 w => im_0 w)
  | n + 1, y, hf, h => by
    have hf' : ij f n := fun i j i0 i1 j0 j1 w => hf i j i0 (by omega) j0 (by omega) w
    have hs : ∀ x, im f ((n + 1 : Nat) : Int) x ↔ im f n x ∨ x = f n := fun x => by
      rw [show ((n + 1 : Nat) : Int) = (n : Int) + 1 by omega]; exact im_s (by omega)
    rcases h with ⟨⟨q, q0, q1, q2⟩, b⟩ | ⟨a, b⟩
    · have ih := n_cnt_bij hg hf' b
      have hnq : ¬ im f n (g q) := fun ⟨i, i0, i1, i2⟩ => by
        have := hf i n i0 (by omega) (by omega) (by omega) (by rw [i2, q2]); omega
      have := n_cnt_one q0 q1 hnq ih
      rw [show y - 1 + 1 = y by omega] at this
      refine n_cnt_cg (fun i i0 i1 => ?_) this
      rw [hs]
      constructor
      · rintro (w | w)
        · exact Or.inl w
        · exact Or.inr (by rw [w, q2])
      · rintro (w | w)
        · exact Or.inl w
        · exact Or.inr (hg i q i0 i1 q0 q1 (by rw [w, q2]))
    · have ih := n_cnt_bij hg hf' b
      refine n_cnt_cg (fun i i0 i1 => ?_) ih
      rw [hs]
      constructor
      · exact Or.inl
      · rintro (w | w)
        · exact w
        · exact absurd ⟨i, i0, i1, w⟩ a
def inP (σ : k_St) (pe qe : Int → Int) (e : Int) : Prop := im qe (σ.2.1 68 35) (pe e)
def chP (σ : k_St) (pe qe : Int → Int) (e : Int) : Prop := ¬ inP σ pe qe e ∨ ∃ q, 0 ≤ q ∧ q < σ.2.1 68 35 ∧ qe q = pe e ∧ ¬ mlk σ e q
def CHh (σ : k_St) (qe : Int → Int) : Prop := (0 ≤ σ.2.1 68 35 ∧ σ.2.1 68 35 ≤ 150) ∧ (∀ q k, 0 ≤ q → q < σ.2.1 68 35 → 0 ≤ k → k < 3 → σ.1 88 (3 * q + k) = f_head (qe q) k) ∧ (∀ q, 0 ≤ q → q < σ.2.1 68 35 → 0 ≤ qe q ∧ qe q ≤ 29790) ∧ ij qe (σ.2.1 68 35) ∧ (∀ e, 0 ≤ e → e < σ.2.1 68 25 → chN σ e) ∧ ∀ q, 0 ≤ q → q < σ.2.1 68 35 → chO σ q
set_option maxHeartbeats 4000000 in
theorem l_cc21 {G : j_G} {X : k_X} {n : Nat} {σ : k_St} (hn : 101 ≤ n) {pe qe : Int → Int} (hE : pE σ pe) (hpr : ∀ e, 0 ≤ e → e < σ.2.1 68 25 → 0 ≤ pe e ∧ pe e ≤ 29790) (hH : CHh σ qe) {x y e : Int} (e0 : 0 ≤ e ∧ e < σ.2.1 68 25) {Q : k_P} (kk : ∀ q f, ((q = -9 ∧ ∀ r, 0 ≤ r → r < σ.2.1 68 35 → qe r ≠ pe e) ∨ (0 ≤ q ∧ q < σ.2.1 68 35 ∧ qe q = pe e)) → j_at G mX12_countChanged 84 [(0, .ref 68), (1, j_i x), (2, j_i y), (3, j_i e), (4, j_i q), (5, j_i f)] [] (k_h X n σ) 0 0 (k_Q X Q))  : ∀ (z : Nat) (f q : Int), 151 - f < (z : Int) → 0 ≤ f → f ≤ σ.2.1 68 35 → ((q = -9 ∧ ∀ r, 0 ≤ r → r < f → qe r ≠ pe e) ∨ (0 ≤ q ∧ q < f ∧ qe q = pe e)) → j_at G mX12_countChanged 21 [(0, .ref 68), (1, j_i x), (2, j_i y), (3, j_i e), (4, j_i q), (5, j_i f)] [] (k_h X n σ) 0 0 (k_Q X Q) := by
  obtain ⟨t1, t2, t3, t4, t5, t6⟩ := id hH
  have hE1 := hE.1
  intro z
  induction z with
  | zero => intro f q h1 h2 h3; exact absurd h1 (by omega)
  | succ z ih =>
    intro f q hz f0 fN hI
    refine a_iload (pc := 21) (i := 5) (by decide +kernel) rfl ?_
    refine a_aload_n (pc := 23) (i := 0) (by decide +kernel) rfl ?_
    refine b_getI (pc := 24) fl_X12_359 (by decide +kernel) (sh_68 hn) rfl ?_
    refine a_icmp_ge (pc := 27) (off := 57) (tgt := 84) (by decide +kernel) (by decide) (by omega) (by omega) (fun c27 => ?_) (fun c27 => ?_)
    · rw [show f = σ.2.1 68 35 by omega] at hI
      exact kk q _ hI
    · refine a_aload_n (pc := 30) (i := 0) (by decide +kernel) rfl ?_
      refine a_iload_n (pc := 31) (i := 3) (by decide +kernel) rfl ?_
      refine a_aload_n (pc := 32) (i := 0) (by decide +kernel) rfl ?_
      refine b_getR (pc := 33) (b := 88) fl_X12_72 (by decide +kernel) (sh_68 hn) rfl ?_
      refine a_iconst (pc := 36) (n := 3) (by decide +kernel) ?_
      refine a_iload (pc := 37) (i := 5) (by decide +kernel) rfl ?_
      refine a_imul (pc := 39) (by decide +kernel) ?_
      refine b_iaload (pc := 40) (by decide +kernel) (sh_88 hn) (by omega) (by omega) (by omega) ?_
      rw [show σ.1 88 (3 * f) = f_head (qe f) 0 by have z := t2 f 0 f0 (by omega) (by omega) (by omega); rw [show 3 * f + 0 = 3 * f by omega] at z; exact z]
      have z0 := f_head_in (qe f) 0
      refine a_aload_n (pc := 41) (i := 0) (by decide +kernel) rfl ?_
      refine b_getR (pc := 42) (b := 88) fl_X12_72 (by decide +kernel) (sh_68 hn) rfl ?_
      refine a_iconst (pc := 45) (n := 3) (by decide +kernel) ?_
      refine a_iload (pc := 46) (i := 5) (by decide +kernel) rfl ?_
      refine a_imul (pc := 48) (by decide +kernel) ?_
      refine a_iconst (pc := 49) (n := 1) (by decide +kernel) ?_
      refine a_iadd (pc := 50) (by decide +kernel) ?_
      refine b_iaload (pc := 51) (by decide +kernel) (sh_88 hn) (by omega) (by omega) (by omega) ?_
      rw [show σ.1 88 ((3 * f) + 1) = f_head (qe f) 1 from t2 f 1 f0 (by omega) (by omega) (by omega)]
      have z1 := f_head_in (qe f) 1
      refine a_aload_n (pc := 52) (i := 0) (by decide +kernel) rfl ?_
      refine b_getR (pc := 53) (b := 88) fl_X12_72 (by decide +kernel) (sh_68 hn) rfl ?_
      refine a_iconst (pc := 56) (n := 3) (by decide +kernel) ?_
      refine a_iload (pc := 57) (i := 5) (by decide +kernel) rfl ?_
      refine a_imul (pc := 59) (by decide +kernel) ?_
      refine a_iconst (pc := 60) (n := 2) (by decide +kernel) ?_
      refine a_iadd (pc := 61) (by decide +kernel) ?_
      refine b_iaload (pc := 62) (by decide +kernel) (sh_88 hn) (by omega) (by omega) (by omega) ?_
      rw [show σ.1 88 ((3 * f) + 2) = f_head (qe f) 2 from t2 f 2 f0 (by omega) (by omega) (by omega)]
      have z2 := f_head_in (qe f) 2
      refine b_callV (pc := 63) (c' := 0) (sl' := 0) [j_i e, j_i (f_head (qe f) 0), j_i (f_head (qe f) 1), j_i (f_head (qe f) 2)] [] ml_X12_284 (by decide +kernel) rfl rfl (sh_68 hn) rfl rfl (Nat.le_of_ble_eq_true rfl) (j_fitI rfl rfl) (s_disPath hn (by omega) (pE_r hE) (by omega) (by omega) (by omega) (by omega)) (fun v n' σ' hq => ?_)
      obtain ⟨x, rfl, e1, e2, hx⟩ := hq
      rw [e1, e2]; clear e1 e2
      rcases hx with ⟨rfl, p63⟩ | ⟨rfl, p63⟩
      · show j_at _ _ _ [(0, .ref 68), (1, j_i x), (2, j_i y), (3, j_i e), (4, j_i q), (5, j_i f)] [j_i 1] _ _ _ _
        rw [is_eq hE (hpr e e0.1 e0.2) (t3 f f0 (by omega)) e0] at p63
        refine a_if_eq (pc := 66) (off := 8) (tgt := 74) (by decide +kernel) (by decide) (by omega) (fun c66 => ?_) (fun c66 => ?_)
        · exact absurd c66 (by decide)
        · refine a_iload (pc := 69) (i := 5) (by decide +kernel) rfl ?_
          refine a_goto (pc := 71) (off := 5) (tgt := 76) (by decide +kernel) (by decide) ?_
          refine a_istore (pc := 76) (i := 4) (lv' := [(0, .ref 68), (1, j_i x), (2, j_i y), (3, j_i e), (4, j_i f), (5, j_i f)]) (by decide +kernel) (Nat.le_of_ble_eq_true rfl) rfl ?_
          refine a_iinc (pc := 78) (i := 5) (n := 1) (x := f) (lv' := [(0, .ref 68), (1, j_i x), (2, j_i y), (3, j_i e), (4, j_i f), (5, j_i (f + 1))]) (by decide +kernel) rfl (Nat.le_of_ble_eq_true rfl) rfl ?_
          refine a_goto (pc := 81) (off := -60) (tgt := 21) (by decide +kernel) (by decide) ?_
          exact ih (f + 1) f (by omega) (by omega) (by omega) (Or.inr ⟨f0, by omega, p63⟩)
      · show j_at _ _ _ [(0, .ref 68), (1, j_i x), (2, j_i y), (3, j_i e), (4, j_i q), (5, j_i f)] [j_i 0] _ _ _ _
        rw [is_eq hE (hpr e e0.1 e0.2) (t3 f f0 (by omega)) e0] at p63
        refine a_if_eq (pc := 66) (off := 8) (tgt := 74) (by decide +kernel) (by decide) (by omega) (fun c66 => ?_) (fun c66 => ?_)
        · refine a_iload (pc := 74) (i := 4) (by decide +kernel) rfl ?_
          refine a_istore (pc := 76) (i := 4) (lv' := [(0, .ref 68), (1, j_i x), (2, j_i y), (3, j_i e), (4, j_i q), (5, j_i f)]) (by decide +kernel) (Nat.le_of_ble_eq_true rfl) rfl ?_
          refine a_iinc (pc := 78) (i := 5) (n := 1) (x := f) (lv' := [(0, .ref 68), (1, j_i x), (2, j_i y), (3, j_i e), (4, j_i q), (5, j_i (f + 1))]) (by decide +kernel) rfl (Nat.le_of_ble_eq_true rfl) rfl ?_
          refine a_goto (pc := 81) (off := -60) (tgt := 21) (by decide +kernel) (by decide) ?_
          exact ih (f + 1) q (by omega) (by omega) (by omega) (by rcases hI with ⟨w1, w2⟩ | ⟨w1, w2, w3⟩; exact Or.inl ⟨w1, fun r r0 r1 => by by_cases v : r = f; rw [v]; exact p63; exact w2 r r0 (by omega)⟩; exact Or.inr ⟨w1, by omega, w3⟩)
        · exact absurd c66 (by decide)
set_option maxHeartbeats 4000000 in
theorem l_cc6 {G : j_G} {X : k_X} {n : Nat} {σ : k_St} (hn : 101 ≤ n) {pe qe : Int → Int} (hE : pE σ pe) (hpr : ∀ e, 0 ≤ e → e < σ.2.1 68 25 → 0 ≤ pe e ∧ pe e ≤ 29790) (hH : CHh σ qe)  : ∀ (z : Nat) (e x y : Int), 151 - e < (z : Int) → 0 ≤ e → e ≤ σ.2.1 68 25 → n_cnt (chP σ pe qe) e.toNat x → n_cnt (inP σ pe qe) e.toNat y → j_at G mX12_countChanged 6 [(0, .ref 68), (1, j_i x), (2, j_i y), (3, j_i e)] [] (k_h X n σ) 0 0 (k_Q X (k_ex n σ (fun r => ∃ x y, n_cnt (chP σ pe qe) (σ.2.1 68 25).toNat x ∧ n_cnt (inP σ pe qe) (σ.2.1 68 25).toNat y ∧ r = x + σ.2.1 68 35 - y))) := by
  obtain ⟨t1, t2, t3, t4, t5, t6⟩ := id hH
  have hE1 := hE.1
  intro z
  induction z with
  | zero => intro e x y h1 h2 h3; exact absurd h1 (by omega)
  | succ z ih =>
    intro e x y hz k0 eN hx hy
    refine a_iload_n (pc := 6) (i := 3) (by decide +kernel) rfl ?_
    refine a_aload_n (pc := 7) (i := 0) (by decide +kernel) rfl ?_
    refine b_getI (pc := 8) fl_X12_281 (by decide +kernel) (sh_68 hn) rfl ?_
    refine a_icmp_ge (pc := 11) (off := 119) (tgt := 130) (by decide +kernel) (by decide) (by omega) (by omega) (fun c11 => ?_) (fun c11 => ?_)
    · refine a_iload_n (pc := 130) (i := 1) (by decide +kernel) rfl ?_
      refine a_aload_n (pc := 131) (i := 0) (by decide +kernel) rfl ?_
      refine b_getI (pc := 132) fl_X12_359 (by decide +kernel) (sh_68 hn) rfl ?_
      refine a_iadd (pc := 135) (by decide +kernel) ?_
      refine a_iload_n (pc := 136) (i := 2) (by decide +kernel) rfl ?_
      refine a_isub (pc := 137) (by decide +kernel) ?_
      refine a_ireturn (pc := 138) (by decide +kernel) rfl ?_
      refine k_ret ?_
      rw [show e = σ.2.1 68 25 by omega] at hx hy
      exact ⟨_, rfl, rfl, rfl, x, y, hx, hy, rfl⟩
    · refine a_bipush (pc := 14) (n := (-9)) (by decide +kernel) rfl ?_
      refine a_istore (pc := 16) (i := 4) (lv' := [(0, .ref 68), (1, j_i x), (2, j_i y), (3, j_i e), (4, j_i (-9))]) (by decide +kernel) (Nat.le_of_ble_eq_true rfl) rfl ?_
      refine a_iconst (pc := 18) (n := 0) (by decide +kernel) ?_
      refine a_istore (pc := 19) (i := 5) (lv' := [(0, .ref 68), (1, j_i x), (2, j_i y), (3, j_i e), (4, j_i (-9)), (5, j_i 0)]) (by decide +kernel) (Nat.le_of_ble_eq_true rfl) rfl ?_
      refine l_cc21 hn hE hpr hH (by omega) (fun q f hq => ?_) 153 0 (-9) (by omega) (by omega) (by omega) (Or.inl ⟨rfl, fun r r0 r1 => absurd r1 (by omega)⟩)
      have rq : q = -9 ∨ (0 ≤ q ∧ q < σ.2.1 68 35) := by rcases hq with w | w; exact Or.inl w.1; exact Or.inr ⟨w.1, w.2.1⟩
      have hin : inP σ pe qe e ↔ q ≠ -9 := by
        rcases hq with ⟨w1, w2⟩ | ⟨w1, w2, w3⟩
        · exact ⟨fun ⟨r, r0, r1, r2⟩ => absurd r2 (w2 r r0 r1), fun v => absurd w1 v⟩
        · exact ⟨fun _ => by omega, fun _ => ⟨q, w1, w2, w3⟩⟩
      have hch : chP σ pe qe e ↔ (q = -9 ∨ ¬ mlk σ e q) := by
        unfold chP
        rw [hin]
        constructor
        · rintro (v | ⟨r, r0, r1, r2, r3⟩)
          · exact Or.inl (by omega)
          · rcases hq with ⟨w1, w2⟩ | ⟨w1, w2, w3⟩
            · exact Or.inl w1
            · rw [← t4 r q r0 r1 w1 w2 (by rw [r2, w3])]; exact Or.inr r3
        · rintro (v | v)
          · exact Or.inl (fun w => w v)
          · rcases hq with ⟨w1, w2⟩ | ⟨w1, w2, w3⟩
            · exact Or.inl (fun w => w w1)
            · exact Or.inr ⟨q, w1, w2, w3, v⟩
      refine a_iload_n (pc := 84) (i := 2) (by decide +kernel) rfl ?_
      refine a_iload (pc := 85) (i := 4) (by decide +kernel) rfl ?_
      refine a_bipush (pc := 87) (n := (-9)) (by decide +kernel) rfl ?_
      refine a_icmp_ne (pc := 89) (off := 7) (tgt := 96) (by decide +kernel) (by decide) (by omega) (by omega) (fun c89 => ?_) (fun c89 => ?_)
      · refine a_iconst (pc := 96) (n := 1) (by decide +kernel) ?_
        refine a_iadd (pc := 97) (by decide +kernel) ?_
        refine a_istore_n (pc := 98) (i := 2) (lv' := [(0, .ref 68), (1, j_i x), (2, j_i (y + 1)), (3, j_i e), (4, j_i q), (5, j_i f)]) (by decide +kernel) (Nat.le_of_ble_eq_true rfl) rfl ?_
        refine a_iload_n (pc := 99) (i := 1) (by decide +kernel) rfl ?_
        refine a_iload (pc := 100) (i := 4) (by decide +kernel) rfl ?_
        refine a_bipush (pc := 102) (n := (-9)) (by decide +kernel) rfl ?_
        refine a_icmp_eq (pc := 104) (off := 13) (tgt := 117) (by decide +kernel) (by decide) (by omega) (by omega) (fun c104 => ?_) (fun c104 => ?_)
        · refine a_iconst (pc := 117) (n := 1) (by decide +kernel) ?_
          refine a_goto (pc := 118) (off := 4) (tgt := 122) (by decide +kernel) (by decide) ?_
          refine a_iadd (pc := 122) (by decide +kernel) ?_
          refine a_istore_n (pc := 123) (i := 1) (lv' := [(0, .ref 68), (1, j_i (x + 1)), (2, j_i (y + 1)), (3, j_i e), (4, j_i q), (5, j_i f)]) (by decide +kernel) (Nat.le_of_ble_eq_true rfl) rfl ?_
          refine a_iinc (pc := 124) (i := 3) (n := 1) (x := e) (lv' := [(0, .ref 68), (1, j_i (x + 1)), (2, j_i (y + 1)), (3, j_i (e + 1)), (4, j_i q), (5, j_i f)]) (by decide +kernel) rfl (Nat.le_of_ble_eq_true rfl) rfl ?_
          refine a_goto (pc := 127) (off := -121) (tgt := 6) (by decide +kernel) (by decide) ?_
          refine a_sub (pc := 6) (lv' := [(0, .ref 68), (1, j_i (x + 1)), (2, j_i (y + 1)), (3, j_i (e + 1))]) (fun q hq => by simp only [List.mem_cons, List.not_mem_nil, or_false] at hq ⊢; rcases hq with rfl | rfl | rfl | rfl <;> simp) (ih (e + 1) (x + 1) (y + 1) (by omega) (by omega) (by omega) ?_ ?_)
          · rw [show x + 1 = x + 1 by omega]; exact n_cy k0 (hch.mpr (by first | exact Or.inl c104 | exact Or.inl c89 | exact Or.inr p111)) hx
          · rw [show y + 1 = y + 1 by omega]; exact n_cy k0 (hin.mpr c89) hy
        · refine a_aload_n (pc := 107) (i := 0) (by decide +kernel) rfl ?_
          refine a_iload_n (pc := 108) (i := 3) (by decide +kernel) rfl ?_
          refine a_iload (pc := 109) (i := 4) (by decide +kernel) rfl ?_
          refine b_callV (pc := 111) (c' := 0) (sl' := 0) [j_i e, j_i q] [j_i x] ml_X12_362 (by decide +kernel) rfl rfl (sh_68 hn) rfl rfl (Nat.le_of_ble_eq_true rfl) (j_fitI rfl rfl) (e_isAsBefore hn (by omega) (by omega) (t5 e (by omega) (by omega)) (t6 q (by omega) (by omega))) (fun v n' σ' hq => ?_)
          obtain ⟨x, rfl, e1, e2, hx⟩ := hq
          rw [e1, e2]; clear e1 e2
          rcases hx with ⟨rfl, p111⟩ | ⟨rfl, p111⟩
          · show j_at _ _ _ [(0, .ref 68), (1, j_i x), (2, j_i (y + 1)), (3, j_i e), (4, j_i q), (5, j_i f)] [j_i 1, j_i x] _ _ _ _
            refine a_if_ne (pc := 114) (off := 7) (tgt := 121) (by decide +kernel) (by decide) (by omega) (fun c114 => ?_) (fun c114 => ?_)
            · refine a_iconst (pc := 121) (n := 0) (by decide +kernel) ?_
              refine a_iadd (pc := 122) (by decide +kernel) ?_
              refine a_istore_n (pc := 123) (i := 1) (lv' := [(0, .ref 68), (1, j_i (x + 0)), (2, j_i (y + 1)), (3, j_i e), (4, j_i q), (5, j_i f)]) (by decide +kernel) (Nat.le_of_ble_eq_true rfl) rfl ?_
              refine a_iinc (pc := 124) (i := 3) (n := 1) (x := e) (lv' := [(0, .ref 68), (1, j_i (x + 0)), (2, j_i (y + 1)), (3, j_i (e + 1)), (4, j_i q), (5, j_i f)]) (by decide +kernel) rfl (Nat.le_of_ble_eq_true rfl) rfl ?_
              refine a_goto (pc := 127) (off := -121) (tgt := 6) (by decide +kernel) (by decide) ?_
              refine a_sub (pc := 6) (lv' := [(0, .ref 68), (1, j_i (x + 0)), (2, j_i (y + 1)), (3, j_i (e + 1))]) (fun q hq => by simp only [List.mem_cons, List.not_mem_nil, or_false] at hq ⊢; rcases hq with rfl | rfl | rfl | rfl <;> simp) (ih (e + 1) (x + 0) (y + 1) (by omega) (by omega) (by omega) ?_ ?_)
              · rw [show x + 0 = x by omega]; exact n_cn k0 (fun w => by rcases hch.mp w with v | v; exact absurd v (by first | exact c104 | exact c89); exact absurd p111 v) hx
              · rw [show y + 1 = y + 1 by omega]; exact n_cy k0 (hin.mpr c89) hy
            · exact absurd c114 (by decide)
          · show j_at _ _ _ [(0, .ref 68), (1, j_i x), (2, j_i (y + 1)), (3, j_i e), (4, j_i q), (5, j_i f)] [j_i 0, j_i x] _ _ _ _
            refine a_if_ne (pc := 114) (off := 7) (tgt := 121) (by decide +kernel) (by decide) (by omega) (fun c114 => ?_) (fun c114 => ?_)
            · exact absurd c114 (by decide)
            · refine a_iconst (pc := 117) (n := 1) (by decide +kernel) ?_
              refine a_goto (pc := 118) (off := 4) (tgt := 122) (by decide +kernel) (by decide) ?_
              refine a_iadd (pc := 122) (by decide +kernel) ?_
              refine a_istore_n (pc := 123) (i := 1) (lv' := [(0, .ref 68), (1, j_i (x + 1)), (2, j_i (y + 1)), (3, j_i e), (4, j_i q), (5, j_i f)]) (by decide +kernel) (Nat.le_of_ble_eq_true rfl) rfl ?_
              refine a_iinc (pc := 124) (i := 3) (n := 1) (x := e) (lv' := [(0, .ref 68), (1, j_i (x + 1)), (2, j_i (y + 1)), (3, j_i (e + 1)), (4, j_i q), (5, j_i f)]) (by decide +kernel) rfl (Nat.le_of_ble_eq_true rfl) rfl ?_
              refine a_goto (pc := 127) (off := -121) (tgt := 6) (by decide +kernel) (by decide) ?_
              refine a_sub (pc := 6) (lv' := [(0, .ref 68), (1, j_i (x + 1)), (2, j_i (y + 1)), (3, j_i (e + 1))]) (fun q hq => by simp only [List.mem_cons, List.not_mem_nil, or_false] at hq ⊢; rcases hq with rfl | rfl | rfl | rfl <;> simp) (ih (e + 1) (x + 1) (y + 1) (by omega) (by omega) (by omega) ?_ ?_)
              · rw [show x + 1 = x + 1 by omega]; exact n_cy k0 (hch.mpr (by first | exact Or.inl c104 | exact Or.inl c89 | exact Or.inr p111)) hx
              · rw [show y + 1 = y + 1 by omega]; exact n_cy k0 (hin.mpr c89) hy
      · refine a_iconst (pc := 92) (n := 0) (by decide +kernel) ?_
        refine a_goto (pc := 93) (off := 4) (tgt := 97) (by decide +kernel) (by decide) ?_
        refine a_iadd (pc := 97) (by decide +kernel) ?_
        refine a_istore_n (pc := 98) (i := 2) (lv' := [(0, .ref 68), (1, j_i x), (2, j_i (y + 0)), (3, j_i e), (4, j_i q), (5, j_i f)]) (by decide +kernel) (Nat.le_of_ble_eq_true rfl) rfl ?_
        refine a_iload_n (pc := 99) (i := 1) (by decide +kernel) rfl ?_
        refine a_iload (pc := 100) (i := 4) (by decide +kernel) rfl ?_
        refine a_bipush (pc := 102) (n := (-9)) (by decide +kernel) rfl ?_
        refine a_icmp_eq (pc := 104) (off := 13) (tgt := 117) (by decide +kernel) (by decide) (by omega) (by omega) (fun c104 => ?_) (fun c104 => ?_)
        · refine a_iconst (pc := 117) (n := 1) (by decide +kernel) ?_
          refine a_goto (pc := 118) (off := 4) (tgt := 122) (by decide +kernel) (by decide) ?_
          refine a_iadd (pc := 122) (by decide +kernel) ?_
          refine a_istore_n (pc := 123) (i := 1) (lv' := [(0, .ref 68), (1, j_i (x + 1)), (2, j_i (y + 0)), (3, j_i e), (4, j_i q), (5, j_i f)]) (by decide +kernel) (Nat.le_of_ble_eq_true rfl) rfl ?_
          refine a_iinc (pc := 124) (i := 3) (n := 1) (x := e) (lv' := [(0, .ref 68), (1, j_i (x + 1)), (2, j_i (y + 0)), (3, j_i (e + 1)), (4, j_i q), (5, j_i f)]) (by decide +kernel) rfl (Nat.le_of_ble_eq_true rfl) rfl ?_
          refine a_goto (pc := 127) (off := -121) (tgt := 6) (by decide +kernel) (by decide) ?_
          refine a_sub (pc := 6) (lv' := [(0, .ref 68), (1, j_i (x + 1)), (2, j_i (y + 0)), (3, j_i (e + 1))]) (fun q hq => by simp only [List.mem_cons, List.not_mem_nil, or_false] at hq ⊢; rcases hq with rfl | rfl | rfl | rfl <;> simp) (ih (e + 1) (x + 1) (y + 0) (by omega) (by omega) (by omega) ?_ ?_)
          · rw [show x + 1 = x + 1 by omega]; exact n_cy k0 (hch.mpr (by first | exact Or.inl c104 | exact Or.inl c89 | exact Or.inr p111)) hx
          · rw [show y + 0 = y by omega]; exact n_cn k0 (fun w => absurd c89 (hin.mp w)) hy
        · refine a_aload_n (pc := 107) (i := 0) (by decide +kernel) rfl ?_
          refine a_iload_n (pc := 108) (i := 3) (by decide +kernel) rfl ?_
          refine a_iload (pc := 109) (i := 4) (by decide +kernel) rfl ?_
          refine b_callV (pc := 111) (c' := 0) (sl' := 0) [j_i e, j_i q] [j_i x] ml_X12_362 (by decide +kernel) rfl rfl (sh_68 hn) rfl rfl (Nat.le_of_ble_eq_true rfl) (j_fitI rfl rfl) (e_isAsBefore hn (by omega) (by omega) (t5 e (by omega) (by omega)) (t6 q (by omega) (by omega))) (fun v n' σ' hq => ?_)
          obtain ⟨x, rfl, e1, e2, hx⟩ := hq
          rw [e1, e2]; clear e1 e2
          rcases hx with ⟨rfl, p111⟩ | ⟨rfl, p111⟩
          · show j_at _ _ _ [(0, .ref 68), (1, j_i x), (2, j_i (y + 0)), (3, j_i e), (4, j_i q), (5, j_i f)] [j_i 1, j_i x] _ _ _ _
            refine a_if_ne (pc := 114) (off := 7) (tgt := 121) (by decide +kernel) (by decide) (by omega) (fun c114 => ?_) (fun c114 => ?_)
            · refine a_iconst (pc := 121) (n := 0) (by decide +kernel) ?_
              refine a_iadd (pc := 122) (by decide +kernel) ?_
              refine a_istore_n (pc := 123) (i := 1) (lv' := [(0, .ref 68), (1, j_i (x + 0)), (2, j_i (y + 0)), (3, j_i e), (4, j_i q), (5, j_i f)]) (by decide +kernel) (Nat.le_of_ble_eq_true rfl) rfl ?_
              refine a_iinc (pc := 124) (i := 3) (n := 1) (x := e) (lv' := [(0, .ref 68), (1, j_i (x + 0)), (2, j_i (y + 0)), (3, j_i (e + 1)), (4, j_i q), (5, j_i f)]) (by decide +kernel) rfl (Nat.le_of_ble_eq_true rfl) rfl ?_
              refine a_goto (pc := 127) (off := -121) (tgt := 6) (by decide +kernel) (by decide) ?_
              refine a_sub (pc := 6) (lv' := [(0, .ref 68), (1, j_i (x + 0)), (2, j_i (y + 0)), (3, j_i (e + 1))]) (fun q hq => by simp only [List.mem_cons, List.not_mem_nil, or_false] at hq ⊢; rcases hq with rfl | rfl | rfl | rfl <;> simp) (ih (e + 1) (x + 0) (y + 0) (by omega) (by omega) (by omega) ?_ ?_)
              · rw [show x + 0 = x by omega]; exact n_cn k0 (fun w => by rcases hch.mp w with v | v; exact absurd v (by first | exact c104 | exact c89); exact absurd p111 v) hx
              · rw [show y + 0 = y by omega]; exact n_cn k0 (fun w => absurd c89 (hin.mp w)) hy
            · exact absurd c114 (by decide)
          · show j_at _ _ _ [(0, .ref 68), (1, j_i x), (2, j_i (y + 0)), (3, j_i e), (4, j_i q), (5, j_i f)] [j_i 0, j_i x] _ _ _ _
            refine a_if_ne (pc := 114) (off := 7) (tgt := 121) (by decide +kernel) (by decide) (by omega) (fun c114 => ?_) (fun c114 => ?_)
            · exact absurd c114 (by decide)
            · refine a_iconst (pc := 117) (n := 1) (by decide +kernel) ?_
              refine a_goto (pc := 118) (off := 4) (tgt := 122) (by decide +kernel) (by decide) ?_
              refine a_iadd (pc := 122) (by decide +kernel) ?_
              refine a_istore_n (pc := 123) (i := 1) (lv' := [(0, .ref 68), (1, j_i (x + 1)), (2, j_i (y + 0)), (3, j_i e), (4, j_i q), (5, j_i f)]) (by decide +kernel) (Nat.le_of_ble_eq_true rfl) rfl ?_
              refine a_iinc (pc := 124) (i := 3) (n := 1) (x := e) (lv' := [(0, .ref 68), (1, j_i (x + 1)), (2, j_i (y + 0)), (3, j_i (e + 1)), (4, j_i q), (5, j_i f)]) (by decide +kernel) rfl (Nat.le_of_ble_eq_true rfl) rfl ?_
              refine a_goto (pc := 127) (off := -121) (tgt := 6) (by decide +kernel) (by decide) ?_
              refine a_sub (pc := 6) (lv' := [(0, .ref 68), (1, j_i (x + 1)), (2, j_i (y + 0)), (3, j_i (e + 1))]) (fun q hq => by simp only [List.mem_cons, List.not_mem_nil, or_false] at hq ⊢; rcases hq with rfl | rfl | rfl | rfl <;> simp) (ih (e + 1) (x + 1) (y + 0) (by omega) (by omega) (by omega) ?_ ?_)
              · rw [show x + 1 = x + 1 by omega]; exact n_cy k0 (hch.mpr (by first | exact Or.inl c104 | exact Or.inl c89 | exact Or.inr p111)) hx
              · rw [show y + 0 = y by omega]; exact n_cn k0 (fun w => absurd c89 (hin.mp w)) hy
set_option maxHeartbeats 4000000 in
theorem e_countChanged {G : j_G} {X : k_X} {n : Nat} {σ : k_St} (hn : 101 ≤ n) {pe qe : Int → Int} (hE : pE σ pe) (hpr : ∀ e, 0 ≤ e → e < σ.2.1 68 25 → 0 ≤ pe e ∧ pe e ≤ 29790) (hH : CHh σ qe)  : k_run G X mX12_countChanged [.ref 68] n σ 0 0 (k_ex n σ (fun r => ∃ x y, n_cnt (chP σ pe qe) (σ.2.1 68 25).toNat x ∧ n_cnt (inP σ pe qe) (σ.2.1 68 25).toNat y ∧ r = x + σ.2.1 68 35 - y)) := by
  obtain ⟨t1, t2, t3, t4, t5, t6⟩ := id hH
  have hE1 := hE.1
  refine k_enter (by decide +kernel) (Nat.le_of_ble_eq_true rfl) ?_
  show j_at _ _ _ [(0, .ref 68)] [] _ _ _ _
  refine a_iconst (pc := 0) (n := 0) (by decide +kernel) ?_
  refine a_istore_n (pc := 1) (i := 1) (lv' := [(0, .ref 68), (1, j_i 0)]) (by decide +kernel) (Nat.le_of_ble_eq_true rfl) rfl ?_
  refine a_iconst (pc := 2) (n := 0) (by decide +kernel) ?_
  refine a_istore_n (pc := 3) (i := 2) (lv' := [(0, .ref 68), (1, j_i 0), (2, j_i 0)]) (by decide +kernel) (Nat.le_of_ble_eq_true rfl) rfl ?_
  refine a_iconst (pc := 4) (n := 0) (by decide +kernel) ?_
  refine a_istore_n (pc := 5) (i := 3) (lv' := [(0, .ref 68), (1, j_i 0), (2, j_i 0), (3, j_i 0)]) (by decide +kernel) (Nat.le_of_ble_eq_true rfl) rfl ?_
  exact l_cc6 hn hE hpr hH 153 0 0 0 (by omega) (by omega) (by omega) rfl rfl
