def pf_fr (a : Nat) (σ τ : k_St) : Prop := (∀ c, c ≠ 43 → c ≠ 46 → c ≠ 47 → c ≠ a + 4 → c ≠ a + 2 → τ.1 c = σ.1 c) ∧ (∀ c j, ¬ (c = 39 ∧ j = 10) → ¬ (c = 45 ∧ j = 2) → ¬ (c = a ∧ j = 5) → τ.2.1 c j = σ.2.1 c j) ∧ τ.2.2 = σ.2.2
theorem pf_fr_r {a : Nat} {σ : k_St} : pf_fr a σ σ := ⟨fun _ _ _ _ _ _ => rfl, fun _ _ _ _ _ => rfl, rfl⟩
theorem pf_fr_t {a : Nat} {σ τ ρ : k_St} (h : pf_fr a σ τ) (g : pf_fr a τ ρ) : pf_fr a σ ρ := ⟨fun c q1 q2 q3 q4 q5 => (g.1 c q1 q2 q3 q4 q5).trans (h.1 c q1 q2 q3 q4 q5), fun c j q1 q2 q3 => (g.2.1 c j q1 q2 q3).trans (h.2.1 c j q1 q2 q3), g.2.2.trans h.2.2⟩
theorem pf_of_cf {a : Nat} {σ τ : k_St} (h : cf_fr a σ τ) : pf_fr a σ τ := ⟨fun c q1 q2 q3 q4 _ => h.1 c q1 q2 q3 q4, h.2.1, h.2.2⟩
def pp_post (n : Nat) (σ : k_St) (a : Nat) (e s c d N : Int) (RS : Int × Int → Prop) (LS : Int → Prop) (MS : q_T → Prop) : k_P := fun v n' τ => v = none ∧ n' = n ∧ pf_fr a σ τ ∧ (∀ i, τ.1 43 i = 1 ↔ LS i) ∧ (∀ i, τ.1 43 i = 0 ∨ τ.1 43 i = 1) ∧ (∀ j, j < s * 4 → τ.1 (a + 4) j = σ.1 (a + 4) j) ∧ τ.1 (a + 2) = j_up (σ.1 (a + 2)) e (τ.2.1 a 5) ∧ ∃ Y, pl_is τ a s c Y ∧ (Y.length : Int) ≤ N ∧ pl_spec RS MS d Y
theorem pl_is_e {σ : k_St} {a : Nat} {s c e : Int} {Z : List q_T} (h : pl_is σ a s c Z) : pl_is (k_sA σ (a + 2) (j_up (σ.1 (a + 2)) e (σ.2.1 a 5))) a s c Z := by
  obtain ⟨⟨h1, h2, h3, h4, h5⟩, h6, h7, h8, h9⟩ := h
  refine ⟨⟨h1, h2, h3, h4, fun i => ?_⟩, h6, ?_, h8, ?_⟩
  · rw [k_AN (by omega), k_AA, k_AN (by omega), k_AN (by omega), k_AN (by omega), k_AN (by omega)]
    refine ⟨(h5 i).1, ?_, (h5 i).2.2⟩
    unfold j_up; split
    · exact h2
    · exact (h5 i).2.1
  · rw [k_AN (by omega)]; exact h7
  · rw [k_AN (by omega)]; exact h9
theorem u_is_cg {σ τ : k_St} {L : List (Int × Int)} (h1 : τ.2.1 45 2 = σ.2.1 45 2) (h2 : τ.1 46 = σ.1 46) (h3 : τ.1 47 = σ.1 47) (h : u_is σ L) : u_is τ L := by
  unfold u_is at h ⊢; rw [h1, h2, h3]; exact h
theorem q_pos {Y : List q_T} {F : Int → Int} {s k : Int} (h : q_seg F s Y) (h0 : s ≤ k) (h1 : k < s + Y.length) : ∃ y ∈ Y, F (k * 4) = y.1 ∧ F (k * 4 + 1) = y.2.1 := by
  have hk : (k - s).toNat < Y.length := by omega
  have := q_seg_get hk h
  rw [show s + ((k - s).toNat : Int) = k by omega] at this
  exact ⟨_, List.getElem_mem hk, this.1, this.2.1⟩
set_option maxHeartbeats 4000000 in
theorem l_pl178 {G : j_G} {X : k_X} {n : Nat} {σ : k_St} (hn : 101 ≤ n) (hw : m_wf σ 16) (hk : mk_wf σ) {a : Nat} (ha : a = 48 ∨ a = 58) (hA : i_at X n a) {e s c d N : Int} (he : 0 ≤ e ∧ e < 150) (hs9 : 0 ≤ s) (hsN : s + N ≤ 50) (hcc : σ.2.1 39 12 = c) (hdd : σ.2.1 39 11 = d) {RS : Int × Int → Prop} {LS : Int → Prop} {MS : q_T → Prop} {L : List (Int × Int)} {Z : List q_T} (hzk : ∀ z ∈ Z, zk z) (hLp : (L.map Prod.fst).Pairwise (· < ·)) (hLo : u_ok L) (hZN : (Z.length : Int) + L.length ≤ N) (hsp : ∀ Y, (∀ y, y ∈ Y ↔ y ∈ Z ∨ ∃ x ∈ L, y = (0, x.1, x.2, 0)) → pl_spec RS MS d Y)  : ∀ (t dn : List (Int × Int)) (k : Int) (τ : k_St) (Y : List q_T), L = dn ++ t → k = dn.length → cf_fr a σ τ → u_is τ L → pl_is τ a s c Y → (∀ y, y ∈ Y ↔ y ∈ Z ∨ ∃ x ∈ dn, y = (0, x.1, x.2, 0)) → (Y.length : Int) ≤ (Z.length : Int) + dn.length → (∀ j, j < s * 4 → τ.1 (a + 4) j = σ.1 (a + 4) j) → (∀ i, τ.1 43 i = 1 ↔ LS i) → (∀ i, τ.1 43 i = 0 ∨ τ.1 43 i = 1) → j_at G mX6_addPlaces 178 [(0, .ref 39), (1, .ref a), (2, j_i e), (3, j_i s), (4, j_i k)] [] (k_h X n τ) 0 0 (k_Q X (pp_post n σ a e s c d N RS LS MS)) := by
  intro t
  induction t with
  | nil =>
    intro dn k τ Y hL hkd hf hu hy hY hYl hlow hls h01
    obtain ⟨h5, hs0, hs1, hs2, hs3, hs4, hs5, hs6, hs7⟩ := id hA
    have hc01 : c = 0 ∨ c = 1 := by rw [← hcc]; exact hk.2.2
    have hcL : τ.2.1 45 2 = (L.length : Int) := hu.1
    have hlen : (L.length : Int) = (dn.length : Int) + 0 := by rw [hL]; simp
    have hu5 := hu.2.2.2
    have hpc := hy.1.2.1
    refine a_iload (pc := 178) (i := 4) (by decide +kernel) rfl ?_
    refine a_aload_n (pc := 180) (i := 0) (by decide +kernel) rfl ?_
    refine b_getR (pc := 181) (b := 45) fl_X6_38 (by decide +kernel) (sh_39 hn) rfl ?_
    refine b_getI (pc := 184) fl_X6_178 (by decide +kernel) (sh_45 hn) rfl ?_
    rw [show τ.2.1 45 2 = (L.length : Int) from hcL]
    refine a_icmp_ge (pc := 187) (off := 40) (tgt := 227) (by decide +kernel) (by decide) (by omega) (by omega) (fun c187 => ?_) (fun c187 => ?_)
    · refine a_aload_n (pc := 227) (i := 1) (by decide +kernel) rfl ?_
      refine b_getR (pc := 228) (b := a + 2) fl_X6_212 (by decide +kernel) hs0 rfl ?_
      refine a_iload_n (pc := 231) (i := 2) (by decide +kernel) rfl ?_
      refine a_aload_n (pc := 232) (i := 1) (by decide +kernel) rfl ?_
      refine b_getI (pc := 233) fl_X6_175 (by decide +kernel) hs0 rfl ?_
      refine b_iastore (pc := 236) (by decide +kernel) hs2 (by omega) (by omega) (by omega) ?_
      obtain ⟨σ1, hσ1⟩ : ∃ z, z = k_sA τ (a + 2) (j_up (τ.1 (a + 2)) e (τ.2.1 a 5)) := ⟨_, rfl⟩
      rw [← hσ1]
      refine a_return (pc := 237) (by decide +kernel) rfl ?_
      refine k_ret ?_
      have e2 : τ.1 (a + 2) = σ.1 (a + 2) := hf.1 _ (by omega) (by omega) (by omega) (by omega)
      have hYL : ∀ y, y ∈ Y ↔ y ∈ Z ∨ ∃ x ∈ L, y = (0, x.1, x.2, 0) := by rw [show L = dn by rw [hL]; simp]; exact hY
      refine ⟨rfl, rfl, ⟨fun c q1 q2 q3 q4 q5 => by rw [hσ1, k_AN q5]; exact hf.1 c q1 q2 q3 q4, fun c j q1 q2 q3 => by rw [hσ1]; exact hf.2.1 c j q1 q2 q3, by rw [hσ1]; exact hf.2.2⟩, fun i => by rw [hσ1, k_AN (by omega)]; exact hls i, fun i => by rw [hσ1, k_AN (by omega)]; exact h01 i, fun j hj => by rw [hσ1, k_AN (by omega)]; exact hlow j hj, by rw [hσ1, k_AA, e2]; rfl, Y, by rw [hσ1]; exact pl_is_e hy, by omega, hsp Y hYL⟩
    · exfalso; omega
  | cons x t ih =>
    intro dn k τ Y hL hkd hf hu hy hY hYl hlow hls h01
    obtain ⟨h5, hs0, hs1, hs2, hs3, hs4, hs5, hs6, hs7⟩ := id hA
    have hc01 : c = 0 ∨ c = 1 := by rw [← hcc]; exact hk.2.2
    have hcL : τ.2.1 45 2 = (L.length : Int) := hu.1
    have hlen : (L.length : Int) = (dn.length : Int) + 1 + t.length := by rw [hL]; simp; omega
    have hu5 := hu.2.2.2
    have hseg := hu.2.1
    rw [hL] at hseg
    have ht := (u_seg_app.mp hseg).2
    rw [show (0 : Int) + (dn.length : Int) = k by omega] at ht
    have t1 : τ.1 46 k = x.1 := ht.1
    have t2 : τ.1 47 k = x.2 := ht.2.1
    have hxo := hLo x (by rw [hL]; simp)
    have hx1 : 0 ≤ x.1 ∧ x.1 ≤ 299 := hxo.1
    have hx2 : 0 ≤ x.2 ∧ x.2 ≤ 299 := hxo.2
    refine a_iload (pc := 178) (i := 4) (by decide +kernel) rfl ?_
    refine a_aload_n (pc := 180) (i := 0) (by decide +kernel) rfl ?_
    refine b_getR (pc := 181) (b := 45) fl_X6_38 (by decide +kernel) (sh_39 hn) rfl ?_
    refine b_getI (pc := 184) fl_X6_178 (by decide +kernel) (sh_45 hn) rfl ?_
    rw [show τ.2.1 45 2 = (L.length : Int) from hcL]
    refine a_icmp_ge (pc := 187) (off := 40) (tgt := 227) (by decide +kernel) (by decide) (by omega) (by omega) (fun c187 => ?_) (fun c187 => ?_)
    · exfalso; omega
    · refine a_aload_n (pc := 190) (i := 1) (by decide +kernel) rfl ?_
      refine a_iload_n (pc := 191) (i := 3) (by decide +kernel) rfl ?_
      refine a_iconst (pc := 192) (n := 0) (by decide +kernel) ?_
      refine a_aload_n (pc := 193) (i := 0) (by decide +kernel) rfl ?_
      refine b_getR (pc := 194) (b := 45) fl_X6_38 (by decide +kernel) (sh_39 hn) rfl ?_
      refine b_getR (pc := 197) (b := 46) fl_X6_202 (by decide +kernel) (sh_45 hn) rfl ?_
      refine a_iload (pc := 200) (i := 4) (by decide +kernel) rfl ?_
      refine b_iaload (pc := 202) (by decide +kernel) (sh_46 hn) (by omega) (by omega) (by omega) ?_
      rw [t1]
      refine a_aload_n (pc := 203) (i := 0) (by decide +kernel) rfl ?_
      refine b_getR (pc := 204) (b := 45) fl_X6_38 (by decide +kernel) (sh_39 hn) rfl ?_
      refine b_getR (pc := 207) (b := 47) fl_X6_205 (by decide +kernel) (sh_45 hn) rfl ?_
      refine a_iload (pc := 210) (i := 4) (by decide +kernel) rfl ?_
      refine b_iaload (pc := 212) (by decide +kernel) (sh_47 hn) (by omega) (by omega) (by omega) ?_
      rw [t2]
      refine a_iconst (pc := 213) (n := 0) (by decide +kernel) ?_
      refine a_aload_n (pc := 214) (i := 0) (by decide +kernel) rfl ?_
      refine b_getI (pc := 215) fl_X6_48 (by decide +kernel) (sh_39 hn) rfl ?_
      rw [show τ.2.1 39 12 = c from (hf.2.1 39 12 (by omega) (by omega) (by omega)).trans hcc]
      refine b_callV (pc := 218) (c' := 0) (sl' := 0) [j_i s, j_i 0, j_i x.1, j_i x.2, j_i 0, j_i c] [] ml_X6_208 (by decide +kernel) rfl rfl hs0 rfl rfl (Nat.le_of_ble_eq_true rfl) (j_fitI rfl rfl) (s_addPlaceL hn hA hy hs9 (by omega) hc01 (by omega) hx1 hx2 (by omega)) (fun v n' σ' hq => ?_)
      obtain ⟨σ1, hσ1⟩ : ∃ z, z = σ' := ⟨_, rfl⟩
      rw [← hσ1] at hq ⊢
      obtain ⟨rfl, e1, Fσ1, yσ1, Yσ1, Kσ1, w2σ1, w3σ1⟩ := hq
      rw [e1]; clear e1
      show j_at _ _ _ [(0, .ref 39), (1, .ref a), (2, j_i e), (3, j_i s), (4, j_i k)] [] _ _ _ _
      refine a_iinc (pc := 221) (i := 4) (n := 1) (x := k) (lv' := [(0, .ref 39), (1, .ref a), (2, j_i e), (3, j_i s), (4, j_i (k + 1))]) (by decide +kernel) rfl (Nat.le_of_ble_eq_true rfl) rfl ?_
      refine a_goto (pc := 224) (off := -46) (tgt := 178) (by decide +kernel) (by decide) ?_
      refine ih (dn ++ [x]) (k + 1) σ1 Yσ1 (by rw [hL]; simp) (by simp; omega) (cf_fr_t hf (cf_of_p Fσ1)) (u_is_cg (Fσ1.2.1 45 2 (by omega)) (Fσ1.1 46 (by omega)) (Fσ1.1 47 (by omega)) hu) Kσ1 (fun y => ?_) (by simp; omega) (fun j hj => (yσ1 j hj).trans (hlow j hj)) (fun i => by rw [Fσ1.1 43 (by omega)]; exact hls i) (fun i => by rw [Fσ1.1 43 (by omega)]; exact h01 i)
      rw [w2σ1 y, hY y]
      constructor
      · rintro ((h | ⟨z, hz, h⟩) | ⟨h, _⟩)
        · exact Or.inl h
        · exact Or.inr ⟨z, List.mem_append_left _ hz, h⟩
        · exact Or.inr ⟨x, by simp, h⟩
      · rintro (h | ⟨z, hz, h⟩)
        · exact Or.inl (Or.inl h)
        · rcases List.mem_append.mp hz with hz | hz
          · exact Or.inl (Or.inr ⟨z, hz, h⟩)
          · rw [List.mem_singleton.mp hz] at h
            refine Or.inr ⟨h, fun q hq => ?_⟩
            rcases (hY q).mp hq with g | ⟨g, hg, g2⟩
            · exact q_w_0 hx1 (hzk q g)
            · rw [g2]
              refine q_w_00 ?_
              rw [hL, List.map_append, List.pairwise_append] at hLp
              have := hLp.2.2 g.1 (List.mem_map_of_mem hg) x.1 (by simp)
              omega
theorem pl_spec_of {R : List (Int × Int)} {Z : List q_T} {RS : Int × Int → Prop} {MS : q_T → Prop} {d : Int} (hzk : ∀ z ∈ Z, zk z) (hRo : u_ok R) (hRp : R.Pairwise u_srt) (hRS : ∀ x, RS x ↔ x ∈ R) (hMS : ∀ y, MS y ↔ y ∈ Z) : ((u_pages Z (u_inner (-1) R)).Pairwise (fun x y => x.1 < y.1)) ∧ ∀ Y, (∀ y, y ∈ Y ↔ y ∈ Z ∨ ∃ x ∈ u_melt d [] (u_pages Z (u_inner (-1) R)), y = (0, x.1, x.2, 0)) → pl_spec RS MS d Y := by
  obtain ⟨i1, i2⟩ := u_inner_ok (R := R) (m := -1) hRp
  obtain ⟨j1, j2⟩ := u_pages_ok (Z := Z) (T := u_inner (-1) R)
  have hW := i1.sublist j1
  refine ⟨hW, fun Y hY => ⟨u_pages Z (u_inner (-1) R), hW, fun x => ?_, fun y => by rw [hY y, hMS y]⟩⟩
  rw [j2 x, i2 x]
  constructor
  · rintro ⟨⟨h1, h2, h3⟩, h4⟩
    refine ⟨⟨(hRS x).mpr h1, fun y hy => h3 y ((hRS y).mp hy)⟩, ?_⟩
    rintro ⟨h5, t, h6⟩
    exact h4 ⟨_, (hMS _).mp h6, rfl, rfl, by rw [← h5]⟩
  · rintro ⟨⟨h1, h2⟩, h3⟩
    have h1 := (hRS x).mp h1
    refine ⟨⟨h1, by have := (hRo x h1).2; omega, fun y hy => h2 y ((hRS y).mpr hy)⟩, ?_⟩
    rintro ⟨z, hz, h4, h5, h6⟩
    refine h3 ⟨by omega, z.2.2.2, (hMS _).mpr ?_⟩
    have hq := (hzk z hz).2.2.1
    have : z = (3, x.1, x.1, z.2.2.2) := by
      obtain ⟨z1, z2, z3, z4⟩ := z
      simp only at h4 h5 h6 hq ⊢
      rw [h4, h5, hq]
    rw [← this]; exact hz
theorem u_pages_len {Z : List q_T} {T : List (Int × Int)} : (u_pages Z T).length ≤ T.length := (u_pages_ok).1.length_le
set_option maxHeartbeats 4000000 in
theorem l_pl118 {G : j_G} {X : k_X} {n : Nat} {σ : k_St} (hn : 101 ≤ n) (hw : m_wf σ 16) (hk : mk_wf σ) {a : Nat} (ha : a = 48 ∨ a = 58) (hA : i_at X n a) {e s c d N : Int} (he : 0 ≤ e ∧ e < 150) (hs9 : 0 ≤ s) (hsN : s + N ≤ 50) (hcc : σ.2.1 39 12 = c) (hdd : σ.2.1 39 11 = d) {RS : Int × Int → Prop} {LS : Int → Prop} {MS : q_T → Prop} {R : List (Int × Int)} {Z : List q_T} (hzk : ∀ z ∈ Z, zk z) (hRo : u_ok R) (hRp : R.Pairwise u_srt) (hRZ : (Z.length : Int) + R.length ≤ N) (hRS : ∀ x, RS x ↔ x ∈ R) (hMS : ∀ y, MS y ↔ y ∈ Z)  : ∀ (t dn : List q_T) (k : Int) (T : List (Int × Int)) (τ : k_St), Z = dn ++ t → k = s + dn.length → cf_fr a σ τ → u_is τ T → pl_is τ a s c Z → u_pages t T = u_pages Z (u_inner (-1) R) → (∀ j, j < s * 4 → τ.1 (a + 4) j = σ.1 (a + 4) j) → (∀ i, τ.1 43 i = 1 ↔ LS i) → (∀ i, τ.1 43 i = 0 ∨ τ.1 43 i = 1) → j_at G mX6_addPlaces 118 [(0, .ref 39), (1, .ref a), (2, j_i e), (3, j_i s), (4, j_i k)] [] (k_h X n τ) 0 0 (k_Q X (pp_post n σ a e s c d N RS LS MS)) := by
  intro t
  induction t with
  | nil =>
    intro dn k T τ hZ hkd hf hu hy hT hlow hls h01
    obtain ⟨h5, hs0, hs1, hs2, hs3, hs4, hs5, hs6, hs7⟩ := id hA
    have hc01 : c = 0 ∨ c = 1 := by rw [← hcc]; exact hk.2.2
    have hlen : (Z.length : Int) = (dn.length : Int) := by rw [hZ]; simp
    refine a_iload (pc := 118) (i := 4) (by decide +kernel) rfl ?_
    refine a_aload_n (pc := 120) (i := 1) (by decide +kernel) rfl ?_
    refine b_getI (pc := 121) fl_X6_175 (by decide +kernel) hs0 rfl ?_
    rw [show τ.2.1 a 5 = s + (Z.length : Int) from hy.2.1]
    refine a_icmp_ge (pc := 124) (off := 40) (tgt := 164) (by decide +kernel) (by decide) (by omega) (by omega) (fun c124 => ?_) (fun c124 => ?_)
    · refine a_aload_n (pc := 164) (i := 0) (by decide +kernel) rfl ?_
      refine b_getR (pc := 165) (b := 45) fl_X6_38 (by decide +kernel) (sh_39 hn) rfl ?_
      refine a_aload_n (pc := 168) (i := 0) (by decide +kernel) rfl ?_
      refine b_getI (pc := 169) fl_X6_45 (by decide +kernel) (sh_39 hn) rfl ?_
      rw [show τ.2.1 39 11 = d from (hf.2.1 39 11 (by omega) (by omega) (by omega)).trans hdd]
      refine b_callV (pc := 172) (c' := 0) (sl' := 0) [j_i d] [] ml_X6_199 (by decide +kernel) rfl rfl (sh_45 hn) rfl rfl (Nat.le_of_ble_eq_true rfl) (j_fitI rfl rfl) (s_melt hn hu (by have := hk.2.1; omega)) (fun v n' σ' hq => ?_)
      obtain ⟨σ1, hσ1⟩ : ∃ z, z = σ' := ⟨_, rfl⟩
      rw [← hσ1] at hq ⊢
      obtain ⟨rfl, e1, Fσ1, Lσ1, Uσ1, rfl⟩ := hq
      rw [e1]; clear e1
      show j_at _ _ _ [(0, .ref 39), (1, .ref a), (2, j_i e), (3, j_i s), (4, j_i k)] [] _ _ _ _
      refine a_iconst (pc := 175) (n := 0) (by decide +kernel) ?_
      refine a_istore (pc := 176) (i := 4) (lv' := [(0, .ref 39), (1, .ref a), (2, j_i e), (3, j_i s), (4, j_i 0)]) (by decide +kernel) (Nat.le_of_ble_eq_true rfl) rfl ?_
      have hT2 : T = u_pages Z (u_inner (-1) R) := hT
      obtain ⟨g1, g2⟩ := pl_spec_of (d := d) hzk hRo hRp hRS hMS
      rw [← hT2] at g1 g2
      have g3 := u_melt_ok (d := d) (t := T) (R := []) (by rw [List.reverse_nil, List.nil_append]; exact u_fst_pw.mpr g1)
      have g4 : T.length ≤ R.length := by rw [hT2]; exact Nat.le_trans u_pages_len u_inner_len
      have g5 := g3.2
      rw [List.length_nil] at g5
      exact l_pl178 hn hw hk ha hA he hs9 hsN hcc hdd hzk g3.1 Uσ1.2.2.1 (by omega) g2 _ [] 0 σ1 Z rfl rfl (cf_fr_t hf (cf_of_u Fσ1)) Uσ1 (pl_is_congr (fun d d1 d2 => Fσ1.1 _ (by omega) (by omega)) (fun j => Fσ1.2.1 _ _ (by omega)) hy) (fun y => by simp) (by simp) (fun j hj => by rw [Fσ1.1 _ (by omega) (by omega)]; exact hlow j hj) (fun i => by rw [Fσ1.1 43 (by omega) (by omega)]; exact hls i) (fun i => by rw [Fσ1.1 43 (by omega) (by omega)]; exact h01 i)
    · exfalso; omega
  | cons x t ih =>
    intro dn k T τ hZ hkd hf hu hy hT hlow hls h01
    obtain ⟨h5, hs0, hs1, hs2, hs3, hs4, hs5, hs6, hs7⟩ := id hA
    have hc01 : c = 0 ∨ c = 1 := by rw [← hcc]; exact hk.2.2
    have hlen : (Z.length : Int) = (dn.length : Int) + 1 + t.length := by rw [hZ]; simp; omega
    have hseg := hy.2.2.1
    rw [hZ] at hseg
    have ht := (q_seg_app.mp hseg).2
    rw [show s + (dn.length : Int) = k by omega] at ht
    have tg := q_seg_get (k := 0) (by simp) ht
    rw [show k + ((0 : Nat) : Int) = k by omega] at tg
    have t1 : τ.1 (a + 4) (k * 4) = x.1 := tg.1
    have t2 : τ.1 (a + 4) (k * 4 + 1) = x.2.1 := tg.2.1
    have hx := hzk x (by rw [hZ]; simp)
    have hx1 : 3 ≤ x.1 ∧ x.1 ≤ 5 := hx.1
    have hx2 : 0 ≤ x.2.1 ∧ x.2.1 ≤ 299 := hx.2.1
    refine a_iload (pc := 118) (i := 4) (by decide +kernel) rfl ?_
    refine a_aload_n (pc := 120) (i := 1) (by decide +kernel) rfl ?_
    refine b_getI (pc := 121) fl_X6_175 (by decide +kernel) hs0 rfl ?_
    rw [show τ.2.1 a 5 = s + (Z.length : Int) from hy.2.1]
    refine a_icmp_ge (pc := 124) (off := 40) (tgt := 164) (by decide +kernel) (by decide) (by omega) (by omega) (fun c124 => ?_) (fun c124 => ?_)
    · exfalso; omega
    · refine a_aload_n (pc := 127) (i := 1) (by decide +kernel) rfl ?_
      refine b_getR (pc := 128) (b := a + 4) fl_X6_193 (by decide +kernel) hs0 rfl ?_
      refine a_iload (pc := 131) (i := 4) (by decide +kernel) rfl ?_
      refine a_iconst (pc := 133) (n := 4) (by decide +kernel) ?_
      refine a_imul (pc := 134) (by decide +kernel) ?_
      refine b_iaload (pc := 135) (by decide +kernel) hs4 (by omega) (by omega) (by omega) ?_
      rw [t1]
      refine a_iconst (pc := 136) (n := 3) (by decide +kernel) ?_
      refine a_icmp_ne (pc := 137) (off := 21) (tgt := 158) (by decide +kernel) (by decide) (by omega) (by omega) (fun c137 => ?_) (fun c137 => ?_)
      · refine a_iinc (pc := 158) (i := 4) (n := 1) (x := k) (lv' := [(0, .ref 39), (1, .ref a), (2, j_i e), (3, j_i s), (4, j_i (k + 1))]) (by decide +kernel) rfl (Nat.le_of_ble_eq_true rfl) rfl ?_
        refine a_goto (pc := 161) (off := -43) (tgt := 118) (by decide +kernel) (by decide) ?_
        exact ih (dn ++ [x]) (k + 1) T τ (by rw [hZ]; simp) (by simp; omega) hf hu hy (by rw [← hT]; show u_pages t T = u_pages t (if x.1 = 3 then _ else T); rw [if_neg c137]) hlow hls h01
      · refine a_aload_n (pc := 140) (i := 0) (by decide +kernel) rfl ?_
        refine b_getR (pc := 141) (b := 45) fl_X6_38 (by decide +kernel) (sh_39 hn) rfl ?_
        refine a_aload_n (pc := 144) (i := 1) (by decide +kernel) rfl ?_
        refine b_getR (pc := 145) (b := a + 4) fl_X6_193 (by decide +kernel) hs0 rfl ?_
        refine a_iload (pc := 148) (i := 4) (by decide +kernel) rfl ?_
        refine a_iconst (pc := 150) (n := 4) (by decide +kernel) ?_
        refine a_imul (pc := 151) (by decide +kernel) ?_
        refine a_iconst (pc := 152) (n := 1) (by decide +kernel) ?_
        refine a_iadd (pc := 153) (by decide +kernel) ?_
        refine b_iaload (pc := 154) (by decide +kernel) hs4 (by omega) (by omega) (by omega) ?_
        rw [t2]
        refine b_callV (pc := 155) (c' := 0) (sl' := 0) [j_i x.2.1] [] ml_X6_196 (by decide +kernel) rfl rfl (sh_45 hn) rfl rfl (Nat.le_of_ble_eq_true rfl) (j_fitI rfl rfl) (s_lpage hn hu (by omega)) (fun v n' σ' hq => ?_)
        obtain ⟨σ1, hσ1⟩ : ∃ z, z = σ' := ⟨_, rfl⟩
        rw [← hσ1] at hq ⊢
        obtain ⟨rfl, e1, Fσ1, Lσ1, Uσ1, rfl⟩ := hq
        rw [e1]; clear e1
        show j_at _ _ _ [(0, .ref 39), (1, .ref a), (2, j_i e), (3, j_i s), (4, j_i k)] [] _ _ _ _
        refine a_iinc (pc := 158) (i := 4) (n := 1) (x := k) (lv' := [(0, .ref 39), (1, .ref a), (2, j_i e), (3, j_i s), (4, j_i (k + 1))]) (by decide +kernel) rfl (Nat.le_of_ble_eq_true rfl) rfl ?_
        refine a_goto (pc := 161) (off := -43) (tgt := 118) (by decide +kernel) (by decide) ?_
        exact ih (dn ++ [x]) (k + 1) (u_page x.2.1 T) σ1 (by rw [hZ]; simp) (by simp; omega) (cf_fr_t hf (cf_of_u Fσ1)) Uσ1 (pl_is_congr (fun d d1 d2 => Fσ1.1 _ (by omega) (by omega)) (fun j => Fσ1.2.1 _ _ (by omega)) hy) (by rw [← hT]; show u_pages t _ = u_pages t (if x.1 = 3 then _ else T); rw [if_pos c137]) (fun j hj => by rw [Fσ1.1 _ (by omega) (by omega)]; exact hlow j hj) (fun i => by rw [Fσ1.1 43 (by omega) (by omega)]; exact hls i) (fun i => by rw [Fσ1.1 43 (by omega) (by omega)]; exact h01 i)
