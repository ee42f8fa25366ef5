theorem g_seg_g {F : Int → Int} : ∀ {L : List (Int × Int)} {i : Int}, g_seg F i L → ∀ (k : Nat) (h : k < L.length), (F ((i + k) * 3), F ((i + k) * 3 + 1)) = L[k]
  | [], _, _, k, h => absurd h (by simp)
  | x :: t, i, ⟨a, b, c⟩, 0, h => by
    rw [show i + ((0 : Nat) : Int) = i by omega]
    show _ = x
    rw [a, b]
  | x :: t, i, ⟨a, b, c⟩, k + 1, h => by
    have := g_seg_g c k (by simpa using h)
    rw [show i + 1 + (k : Int) = i + ((k + 1 : Nat) : Int) by omega] at this
    simpa using this
theorem hin_1 {p : Int} (h : f_head p 1 = -9 → f_head p 2 = -9) : f_hin p = 1 ↔ f_head p 1 = -9 := by
  unfold f_hin
  by_cases a : f_head p 1 = -9
  · rw [if_neg (fun w => w (h a)), if_neg (fun w => w a)]; exact ⟨fun _ => a, fun _ => rfl⟩
  · by_cases b : f_head p 2 = -9
    · rw [if_neg (fun w => w b), if_pos a]; exact ⟨fun w => by omega, fun w => absurd w a⟩
    · rw [if_pos b]; exact ⟨fun w => by omega, fun w => absurd w a⟩
theorem see_eq {σ : k_St} (hK : RKept σ) {lm lr : List Int} {od p : Int} {bd : Prop} {L : List (Int × Int)} {F0 : Int → Int × Int} {c : Int} (hlm : ∀ x, x ∈ lm ↔ m_is σ x) (hlr : ∀ x, x ∈ lr ↔ h_is σ x) (hlp : lr.Pairwise (fun x y => o_rel σ x y od (-1))) (hl : ldx (σ.1 17) (σ.1 19) lm lr p bd L) (h1 : f_hin p = 1) (c0 : 0 ≤ c) (f1 : so (sl σ od) F0 c) (f2 : ∀ x, im F0 c x ↔ seS σ (f_head p 0) x) : c = (L.length : Int) ∧ ∀ (j : Nat) (h : j < L.length), (L[j]).1 = (F0 j).1 ∧ (bd → (L[j]).2 = 1) ∧ (¬ bd → (L[j]).2 = (F0 j).2) := by
  rcases hl with ⟨w, _⟩ | ⟨_, F, hF, al, hal, hL⟩
  · exact absurd h1 w
  · have k6 : ∀ h, ld_k (σ.1 17) (σ.1 19) lm (f_head p 0) 6 h → h_is σ h := fun h ⟨m, m1, m2, m3, m4⟩ => by rw [← m4]; exact see_live hK ((hlm m).mp m1) (by omega)
    have k7 : ∀ h, ld_k (σ.1 17) (σ.1 19) lm (f_head p 0) 7 h → h_is σ h := fun h ⟨m, m1, m2, m3, m4⟩ => by rw [← m4]; exact see_live hK ((hlm m).mp m1) (by omega)
    have F6 : ∀ h, h ∈ lr → (F h = 6 ↔ ld_k (σ.1 17) (σ.1 19) lm (f_head p 0) 6 h) := fun h hh => by
      rcases hF h hh with ⟨a, b⟩ | ⟨a, b, d⟩ | ⟨a, b, d⟩
      · exact ⟨fun _ => b, fun _ => a⟩
      · exact ⟨fun w => by omega, fun w => absurd w d⟩
      · exact ⟨fun w => by omega, fun w => absurd w b⟩
    have F7 : ∀ h, h ∈ lr → (F h = 7 ↔ ld_k (σ.1 17) (σ.1 19) lm (f_head p 0) 7 h ∧ ¬ ld_k (σ.1 17) (σ.1 19) lm (f_head p 0) 6 h) := fun h hh => by
      rcases hF h hh with ⟨a, b⟩ | ⟨a, b, d⟩ | ⟨a, b, d⟩
      · exact ⟨fun w => by omega, fun w => absurd b w.2⟩
      · exact ⟨fun _ => ⟨b, d⟩, fun _ => a⟩
      · exact ⟨fun w => by omega, fun w => absurd w.1 d⟩
    obtain ⟨L0, hL0⟩ : ∃ z, z = (lr.filter (fun h => decide (F h = 6))).map (fun h => (h, (0 : Int))) ++ (lr.filter (fun h => decide (F h = 7))).map (fun h => (h, (1 : Int))) := ⟨_, rfl⟩
    have p0 : L0.Pairwise (sl σ od) := by
      rw [hL0, List.pairwise_append]
      refine ⟨?_, ?_, ?_⟩
      · rw [List.pairwise_map]
        exact (hlp.filter _).imp (fun h => Or.inr ⟨rfl, h⟩)
      · rw [List.pairwise_map]
        exact (hlp.filter _).imp (fun h => Or.inr ⟨rfl, h⟩)
      · intro x hx y hy
        obtain ⟨x', _, ex⟩ := List.mem_map.mp hx
        obtain ⟨y', _, ey⟩ := List.mem_map.mp hy
        rw [← ex, ← ey]; exact Or.inl (by show (0 : Int) < 1; omega)
    have l6 : ∀ h, (∃ m, m < σ.1 69 1382 ∧ m_is σ m ∧ σ.1 17 m = 6 ∧ f_head (σ.1 19 m) 0 = f_head p 0 ∧ f_head (σ.1 19 m) 1 = h) ↔ ld_k (σ.1 17) (σ.1 19) lm (f_head p 0) 6 h := fun h => ⟨fun ⟨m, _, a, b, d, e⟩ => ⟨m, (hlm m).mpr a, b, d, e⟩, fun ⟨m, a, b, d, e⟩ => ⟨m, (m_is_e hK ((hlm m).mp a)).2, (hlm m).mp a, b, d, e⟩⟩
    have l7 : ∀ h, (∃ m, m < σ.1 69 1382 ∧ m_is σ m ∧ σ.1 17 m = 7 ∧ f_head (σ.1 19 m) 0 = f_head p 0 ∧ f_head (σ.1 19 m) 1 = h) ↔ ld_k (σ.1 17) (σ.1 19) lm (f_head p 0) 7 h := fun h => ⟨fun ⟨m, _, a, b, d, e⟩ => ⟨m, (hlm m).mpr a, b, d, e⟩, fun ⟨m, a, b, d, e⟩ => ⟨m, (m_is_e hK ((hlm m).mp a)).2, (hlm m).mp a, b, d, e⟩⟩
    have s6 : ∀ x, LK σ (fun _ => False) (f_head p 0) 6 (σ.1 69 1382) x ↔ ld_k (σ.1 17) (σ.1 19) lm (f_head p 0) 6 x.1 ∧ x.2 = 0 := fun x => by
      rw [← l6]
      constructor
      · rintro ⟨m, a, b, d, e, f, _⟩; rw [f]; exact ⟨⟨m, a, b, d, e, rfl⟩, rfl⟩
      · rintro ⟨⟨m, a, b, d, e, f⟩, g⟩; exact ⟨m, a, b, d, e, Prod.ext f.symm (by rw [g]; rfl), fun _ w => w⟩
    have s7 : ∀ x, LK σ (LK σ (fun _ => False) (f_head p 0) 6 (σ.1 69 1382)) (f_head p 0) 7 (σ.1 69 1382) x ↔ (ld_k (σ.1 17) (σ.1 19) lm (f_head p 0) 7 x.1 ∧ ¬ ld_k (σ.1 17) (σ.1 19) lm (f_head p 0) 6 x.1) ∧ x.2 = 1 := fun x => by
      rw [← l7]
      constructor
      · rintro ⟨m, a, b, d, e, f, g⟩
        rw [f]
        exact ⟨⟨⟨m, a, b, d, e, rfl⟩, fun w => g 0 ((s6 _).mpr ⟨w, rfl⟩)⟩, rfl⟩
      · rintro ⟨⟨⟨m, a, b, d, e, f⟩, g⟩, g2⟩
        exact ⟨m, a, b, d, e, Prod.ext f.symm (by rw [g2]; rfl), fun b9 w => g (by rw [← f]; exact ((s6 _).mp w).1)⟩
    have m0 : ∀ x, x ∈ L0 ↔ seS σ (f_head p 0) x := fun x => by
      unfold seS
      rw [s6, s7, hL0, List.mem_append, List.mem_map, List.mem_map]
      constructor
      · rintro (⟨h, h2, e⟩ | ⟨h, h2, e⟩)
        · obtain ⟨h3, h4⟩ := List.mem_filter.mp h2
          rw [← e]; exact Or.inl ⟨(F6 h h3).mp (by simpa using h4), rfl⟩
        · obtain ⟨h3, h4⟩ := List.mem_filter.mp h2
          rw [← e]; exact Or.inr ⟨(F7 h h3).mp (by simpa using h4), rfl⟩
      · rintro (⟨w1, w2⟩ | ⟨w1, w2⟩)
        · have hh := (hlr _).mpr (k6 _ w1)
          exact Or.inl ⟨x.1, List.mem_filter.mpr ⟨hh, by simpa using (F6 _ hh).mpr w1⟩, Prod.ext rfl w2.symm⟩
        · have hh := (hlr _).mpr (k7 _ w1.1)
          exact Or.inr ⟨x.1, List.mem_filter.mpr ⟨hh, by simpa using (F7 _ hh).mpr w1⟩, Prod.ext rfl w2.symm⟩
    obtain ⟨fL, hf⟩ := li_fn L0 (0, 0)
    have hu := st_u sl_irr sl_tr f1 (li_so hf p0) (fun x => by rw [f2, li_im hf, m0]) c0 (by omega)
    have hLL : L = L0.map (fun x => (x.1, if x.2 = 0 then al else 1)) := by
      rw [hL, hL0, List.map_append, List.map_map, List.map_map]; rfl
    have hlen : L.length = L0.length := by rw [hLL, List.length_map]
    refine ⟨by rw [hu.1, hlen], fun j hj => ?_⟩
    have hj0 : j < L0.length := by omega
    have e0 : F0 j = L0[j] := (hu.2 j (by omega) (by omega)).trans (hf j hj0)
    have e1 : L[j] = ((L0[j]).1, if (L0[j]).2 = 0 then al else 1) := by simp only [hLL, List.getElem_map]
    have e2 : (L0[j]).2 = 0 ∨ (L0[j]).2 = 1 := by
      rcases (m0 _).mp (List.getElem_mem hj0) with w | w
      · exact Or.inl ((s6 _).mp w).2
      · exact Or.inr ((s7 _).mp w).2
    rw [e0, e1]
    refine ⟨rfl, fun w => ?_, fun w => ?_⟩
    · show (if (L0[j]).2 = 0 then al else 1) = 1
      rcases hal with ⟨v, _⟩ | ⟨_, v⟩
      · split
        · exact v
        · rfl
      · exact absurd w v
    · show (if (L0[j]).2 = 0 then al else 1) = (L0[j]).2
      rcases hal with ⟨_, v⟩ | ⟨v, _⟩
      · exact absurd v w
      · rcases e2 with e2 | e2
        · rw [if_pos e2, e2]; exact v
        · rw [if_neg (by omega), e2]
def DH (σ : k_St) (a : Nat) (pe : Int → Int) (lm lr : List Int) (od : Int) : Prop := (a = 48 ∨ a = 58) ∧ MB σ pe ∧ i_wf σ a ∧ (σ.2.1 a 0 = σ.2.1 68 25 ∧ (∀ e, 0 ≤ e → e < σ.2.1 68 25 → σ.1 (a + 1) e = pe e) ∧ ij pe (σ.2.1 68 25)) ∧ (∀ x, x ∈ lm ↔ m_is σ x) ∧ ES σ od pe ∧ ((∀ x, x ∈ lr ↔ h_is σ x) ∧ lr.Pairwise (fun x y => o_rel σ x y od (-1))) ∧ (∀ e, 0 ≤ e → e < σ.2.1 68 25 → σ.1 82 e = i_pn σ a e ∧ 0 ≤ σ.1 82 e) ∧ σ.2.1 a 7 = pst (σ.1 (a + 3)) (σ.2.1 68 25) ∧ ∀ e, 0 ≤ e → e < σ.2.1 68 25 → LDx (σ.1 17) (σ.1 19) lm lr (i_body σ a e) (σ.1 (a + 3)) (σ.1 (a + 5)) e (pe e)
def scf (σ τ : k_St) : Prop := (∀ c, c ≠ 84 → c ≠ 85 → c ≠ 87 → τ.1 c = σ.1 c) ∧ (∀ c j, ¬ (c = 68 ∧ (j = 34 ∨ (22 ≤ j ∧ j ≤ 24))) → τ.2.1 c j = σ.2.1 c j) ∧ τ.2.2 = σ.2.2
theorem scf_r {σ : k_St} : scf σ σ := ⟨fun _ _ _ _ => rfl, fun _ _ _ => rfl, rfl⟩
theorem scf_m {σ τ : k_St} (h : scf σ τ) : mfr σ τ := ⟨fun c q => h.1 c (by omega) (by omega) (by omega), fun c j q => h.2.1 c j (by omega), h.2.2⟩
def SI2 (σ τ : k_St) (a : Nat) (k : Int) : Prop := scf σ τ ∧ τ.2.1 68 34 = pst (σ.1 (a + 3)) k ∧ (∀ e, 0 ≤ e → e < k → τ.1 85 e = pst (σ.1 (a + 3)) e ∧ τ.1 84 e = σ.1 (a + 3) e - pst (σ.1 (a + 3)) e) ∧ ∀ j, 0 ≤ j → j < pst (σ.1 (a + 3)) k → τ.1 87 (3 * j) = σ.1 (a + 5) (3 * j) ∧ τ.1 87 (3 * j + 1) = σ.1 (a + 5) (3 * j + 1)
theorem pst_in3 {σ : k_St} {a : Nat} (h : i_wf σ a) (e : Int) : 0 ≤ pst (σ.1 (a + 3)) e ∧ pst (σ.1 (a + 3)) e ≤ 50 := by
  unfold pst; split
  · exact (h.2.2.2.2 (e - 1)).2.2.1
  · omega
theorem SI2_s {σ τ τ' : k_St} {a : Nat} {k : Int} {L : List (Int × Int)} (hw : i_wf σ a) (k0 : 0 ≤ k) (h : SI2 σ τ a k) (l1 : g_seg (σ.1 (a + 5)) (pst (σ.1 (a + 3)) k) L) (l2 : σ.1 (a + 3) k = pst (σ.1 (a + 3)) k + L.length) (g1 : fsf τ τ' k) (g2 : τ'.1 85 k = τ.2.1 68 34) (g3 : τ'.1 84 k = (L.length : Int)) (g4 : τ'.2.1 68 34 = τ.2.1 68 34 + (L.length : Int)) (g5 : ∀ (j : Nat) (h : j < L.length), τ'.1 87 (3 * (τ.2.1 68 34 + (j : Int))) = (L[j]).1 ∧ τ'.1 87 (3 * (τ.2.1 68 34 + (j : Int)) + 1) = (L[j]).2) : SI2 σ τ' a (k + 1) := by
  obtain ⟨h1, h2, h3, h4⟩ := h
  have hp := pst_in3 hw k
  refine ⟨⟨fun c q r s => (g1.1 c q r s).trans (h1.1 c q r s), fun c j q => (g1.2.1 c j q).trans (h1.2.1 c j q), g1.2.2.1.trans h1.2.2⟩, by rw [g4, h2, pst_s k0, l2], fun e e0 e1 => ?_, fun j j0 j1 => ?_⟩
  · by_cases c : e = k
    · rw [c, g2, g3, h2, l2]; exact ⟨rfl, by omega⟩
    · rw [(g1.2.2.2.1 e c).1, (g1.2.2.2.1 e c).2]; exact h3 e e0 (by omega)
  · rw [pst_s k0, l2] at j1
    by_cases c : j < pst (σ.1 (a + 3)) k
    · rw [g1.2.2.2.2 _ (by rw [h2]; omega), g1.2.2.2.2 _ (by rw [h2]; omega)]; exact h4 j j0 c
    · have hq : ((j - pst (σ.1 (a + 3)) k).toNat) < L.length := by omega
      have z1 := g5 _ hq
      have z2 := g_seg_g l1 _ hq
      rw [← z2, h2, show pst (σ.1 (a + 3)) k + ((j - pst (σ.1 (a + 3)) k).toNat : Int) = j by omega, show j * 3 = 3 * j by omega] at z1
      exact z1
set_option maxHeartbeats 4000000 in
theorem l_bd214 {G : j_G} {X : k_X} {n : Nat} {σ : k_St} (hn : 101 ≤ n) {a : Nat} {pe : Int → Int} {lm lr : List Int} {od d c : Int} (hH : DH σ a pe lm lr od) (ho : od = 0 ∨ od = 1) {Q : k_P} (kk : ∀ τ k, SI2 σ τ a (σ.2.1 68 25) → j_at G mX12_build 236 [(0, .ref 68), (1, j_i od), (2, j_i d), (3, j_i c), (4, j_i k)] [] (k_h X n τ) 0 0 (k_Q X Q))  : ∀ (z : Nat) (k : Int) (τ : k_St), 151 - k < (z : Int) → 0 ≤ k → k ≤ σ.2.1 68 25 → SI2 σ τ a k → j_at G mX12_build 214 [(0, .ref 68), (1, j_i od), (2, j_i d), (3, j_i c), (4, j_i k)] [] (k_h X n τ) 0 0 (k_Q X Q) := by
  obtain ⟨ha, hB, hw, ⟨hx1, hx2, hx3⟩, hl1, hS, ⟨hr1, hr2⟩, h82, hp7, hLD⟩ := id hH
  have hE1 := hB.2.2.2.1.1
  have hK := hB.1
  intro z
  induction z with
  | zero => intro k τ h1 h2 h3; exact absurd h1 (by omega)
  | succ z ih =>
    intro k τ hz k0 kN hI
    have mt : mfr σ τ := scf_m hI.1
    refine a_iload (pc := 214) (i := 4) (by decide +kernel) rfl ?_
    refine a_aload_n (pc := 216) (i := 0) (by decide +kernel) rfl ?_
    refine b_getI (pc := 217) fl_X12_281 (by decide +kernel) (sh_68 hn) rfl ?_
    rw [show τ.2.1 68 25 = σ.2.1 68 25 from hI.1.2.1 68 25 (by omega)]
    refine a_icmp_ge (pc := 220) (off := 16) (tgt := 236) (by decide +kernel) (by decide) (by omega) (by omega) (fun c220 => ?_) (fun c220 => ?_)
    · rw [show k = σ.2.1 68 25 by omega] at hI
      exact kk τ k hI
    · obtain ⟨L, l1, l2, l3⟩ := hLD k k0 (by omega)
      have as := AS_hd hK ((hS.2 _).mp ⟨k, k0, by omega, rfl⟩)
      refine a_aload_n (pc := 223) (i := 0) (by decide +kernel) rfl ?_
      refine a_iload (pc := 224) (i := 4) (by decide +kernel) rfl ?_
      refine a_iload_n (pc := 226) (i := 1) (by decide +kernel) rfl ?_
      refine b_callV (pc := 227) (c' := 0) (sl' := 0) [j_i k, j_i od] [] ml_X12_377 (by decide +kernel) rfl rfl (sh_68 hn) rfl rfl (Nat.le_of_ble_eq_true rfl) (j_fitI rfl rfl) (e_findSees hn (MB_m mt hB) (by rw [mt.2.1 68 25 (by omega)]; omega) ho (by rw [hI.2.1]; exact pst_in3 hw k) (by rw [hI.1.1 82 (by omega) (by omega) (by omega)]; have := h82 k k0 (by omega); have := i_pn_in hw k; omega)) (fun v n' σ' hq => ?_)
      obtain ⟨rfl, rfl, g1, g2, g3⟩ := hq
      obtain ⟨σ1, hσ1⟩ : ∃ z, z = σ' := ⟨_, rfl⟩
      rw [← hσ1] at g1 g2 g3 ⊢
      clear hσ1
      show j_at _ _ _ [(0, .ref 68), (1, j_i od), (2, j_i d), (3, j_i c), (4, j_i k)] [] _ _ _ _
      refine a_iinc (pc := 230) (i := 4) (n := 1) (x := k) (lv' := [(0, .ref 68), (1, j_i od), (2, j_i d), (3, j_i c), (4, j_i (k + 1))]) (by decide +kernel) rfl (Nat.le_of_ble_eq_true rfl) rfl ?_
      refine a_goto (pc := 233) (off := -19) (tgt := 214) (by decide +kernel) (by decide) ?_
      have fin : σ1.1 84 k = (L.length : Int) ∧ σ1.2.1 68 34 = τ.2.1 68 34 + (L.length : Int) ∧ ∀ (j : Nat) (h : j < L.length), σ1.1 87 (3 * (τ.2.1 68 34 + (j : Int))) = (L[j]).1 ∧ σ1.1 87 (3 * (τ.2.1 68 34 + (j : Int)) + 1) = (L[j]).2 := by
        rcases g3 with ⟨w1, w2, w3⟩ | ⟨w1, w2, w3, F0, w4, w5, w6⟩
        · rcases l3 with ⟨_, v⟩ | ⟨v, _⟩
          · subst v; exact ⟨w2, by rw [w3]; simp, fun j hj => absurd hj (by simp)⟩
          · exact absurd ((hin_1 as.2.1).mp v) w1
        · have e9 : sl τ od = sl σ od := by funext x y; unfold sl; rw [mfr_o mt]
          have e8 : ∀ x, seS τ (f_head (pe k) 0) x ↔ seS σ (f_head (pe k) 0) x := fun x => by
            unfold seS LK
            rw [mt.1 69 (by omega), mt.1 17 (by omega), mt.1 19 (by omega)]
            simp only [mfr_ms mt]
          rw [e9] at w4
          have hb : hmr τ k ↔ i_body σ a k := by
            rw [show hmr τ k = hmr σ k by unfold hmr; rw [hI.1.1 82 (by omega) (by omega) (by omega), mt.1 81 (by omega), mt.2.1 68 25 (by omega)]]
            exact body_1 hB hS hx1 hx2 ⟨k0, by omega⟩ (h82 k k0 (by omega)).1 w1
          have y := see_eq hK hl1 hr1 hr2 l3 ((hin_1 as.2.1).mpr w1) w2 w4 (fun x => (w5 x).trans (e8 x))
          refine ⟨y.1, by rw [w3, y.1], fun j hj => ?_⟩
          have w7 := w6 j (by omega) (by omega)
          have y2 := y.2 j hj
          refine ⟨w7.1.trans y2.1.symm, ?_⟩
          by_cases q : i_body σ a k
          · rw [w7.2.1 (hb.mpr q), y2.2.1 q]
          · rw [w7.2.2 (fun v => q (hb.mp v)), y2.2.2 q]
      exact ih (k + 1) σ1 (by omega) (by omega) (by omega) (SI2_s hw k0 hI l1 l2 g1 g2 fin.1 fin.2.1 fin.2.2)
