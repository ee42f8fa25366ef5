def PTm (σ : k_St) (p : Int) (x : Int × Int) : Prop := ∃ m, ofP σ p m ∧ σ.1 17 m = 0 ∧ x = (pgM σ m, pgM σ m)
theorem b_ru_skip {K P pg : Int → Int} {p : Int} {s : List Int} {x : Int × Int} : ∀ {t : List Int} {o : Int}, (∀ m ∈ t, ¬ ((K m ≤ 5 ∧ P m = p) ∧ (K m = 1 ∨ K m = 2))) → (x ∈ b_ru K P pg p (t ++ s) o ↔ (∃ m ∈ t, (K m ≤ 5 ∧ P m = p) ∧ K m = 0 ∧ x = (pg m, pg m)) ∨ x ∈ b_ru K P pg p s o)
  | [], o, _ => by simp
  | m :: t, o, h => by
    have ih := b_ru_skip (K := K) (P := P) (pg := pg) (p := p) (s := s) (x := x) (t := t) (o := o) (fun y hy => h y (List.mem_cons_of_mem _ hy))
    have hm := h m (List.mem_cons_self)
    rw [List.cons_append]
    by_cases c : K m ≤ 5 ∧ P m = p
    · have k1 : K m ≠ 1 := fun w => hm ⟨c, Or.inl w⟩
      have k2 : K m ≠ 2 := fun w => hm ⟨c, Or.inr w⟩
      rw [b_ru_y c, show c_o K m o = o by unfold c_o; rw [if_neg k1, if_neg k2], List.mem_append, ih]
      unfold c_r
      by_cases k0 : K m = 0
      · rw [if_pos k0, List.mem_singleton]
        constructor
        · rintro (w | ⟨y, y1, y2⟩ | w)
          · exact Or.inl ⟨m, List.mem_cons_self, c, k0, w⟩
          · exact Or.inl ⟨y, List.mem_cons_of_mem _ y1, y2⟩
          · exact Or.inr w
        · rintro (⟨y, y1, y2, y3, y4⟩ | w)
          · rcases List.mem_cons.mp y1 with e | e
            · rw [e] at y4; exact Or.inl y4
            · exact Or.inr (Or.inl ⟨y, e, y2, y3, y4⟩)
          · exact Or.inr (Or.inr w)
      · rw [if_neg k0, if_neg k1, if_neg k2]
        constructor
        · rintro (w | ⟨y, y1, y2⟩ | w)
          · exact absurd w (by simp)
          · exact Or.inl ⟨y, List.mem_cons_of_mem _ y1, y2⟩
          · exact Or.inr w
        · rintro (⟨y, y1, y2, y3, y4⟩ | w)
          · rcases List.mem_cons.mp y1 with e | e
            · rw [e] at y3; exact absurd y3 k0
            · exact Or.inr (Or.inl ⟨y, e, y2, y3, y4⟩)
          · exact Or.inr (Or.inr w)
    · rw [b_ru_n c, ih]
      constructor
      · rintro (⟨y, y1, y2⟩ | w)
        · exact Or.inl ⟨y, List.mem_cons_of_mem _ y1, y2⟩
        · exact Or.inr w
      · rintro (⟨y, y1, y2, y3, y4⟩ | w)
        · rcases List.mem_cons.mp y1 with e | e
          · rw [e] at y2; exact absurd y2 c
          · exact Or.inl ⟨y, e, y2, y3, y4⟩
        · exact Or.inr w
theorem b_lo_yy {K P : Int → Int} {p m o : Int} {t : List Int} (h : K m ≤ 5 ∧ P m = p) : b_lo K P p (m :: t) o = c_l K m o ++ b_lo K P p t (c_o K m o) := if_pos h
theorem b_lo_nn {K P : Int → Int} {p m o : Int} {t : List Int} (h : ¬ (K m ≤ 5 ∧ P m = p)) : b_lo K P p (m :: t) o = b_lo K P p t o := if_neg h
theorem b_lo_skip {K P : Int → Int} {p : Int} {s : List Int} : ∀ {t : List Int} {o : Int}, (∀ m ∈ t, ¬ ((K m ≤ 5 ∧ P m = p) ∧ (K m = 1 ∨ K m = 2))) → b_lo K P p (t ++ s) o = b_lo K P p s o
  | [], o, _ => rfl
  | m :: t, o, h => by
    have ih := b_lo_skip (K := K) (P := P) (p := p) (s := s) (t := t) (o := o) (fun y hy => h y (List.mem_cons_of_mem _ hy))
    have hm := h m (List.mem_cons_self)
    rw [List.cons_append]
    by_cases c : K m ≤ 5 ∧ P m = p
    · have k1 : K m ≠ 1 := fun w => hm ⟨c, Or.inl w⟩
      have k2 : K m ≠ 2 := fun w => hm ⟨c, Or.inr w⟩
      rw [b_lo_yy c, show c_o K m o = o by unfold c_o; rw [if_neg k1, if_neg k2], show c_l K m o = [] by unfold c_l; rw [if_neg k1, if_neg k2], List.nil_append]
      exact ih
    · rw [b_lo_nn c]; exact ih
theorem f_page_mono {a b f : Int} (h : a ≤ b) (hf : 1 ≤ f) : f_page a f ≤ f_page b f := by
  unfold f_page
  by_cases c : a < 1 ∨ f < 1
  · rw [if_pos c]
    split
    · omega
    · exact Int.ediv_nonneg (by omega) (by omega)
  · rw [if_neg c, if_neg (by omega)]
    exact Int.ediv_le_ediv (by omega) (by omega)
def FR (σ τ : k_St) (p : Int) (lm : List Int) (U : Int → Prop) (dn t : List Int) (o : Int) : Prop := ∃ (DR : Int × Int → Prop) (DU : Int → Prop), ufr σ τ ∧ lm = dn ++ t ∧ (o = -9 ∨ (o ∈ dn ∧ bnd σ p o)) ∧ RN τ (fun x => PTm σ p x ∨ DR x) (fun q => (ofP σ p q ∧ σ.1 17 q = 0) ∨ (bnd σ p q ∧ q ∈ dn ∧ q ≠ o)) ∧ UN τ (fun x => U x ∨ DU x) ∧ (∀ x, DU x → bnd σ p x ∧ x ∈ dn ∧ x ≠ o) ∧ (∀ x, x ∈ b_ru (σ.1 17) (σ.1 19) (pgM σ) p lm (-9) ↔ PTm σ p x ∨ DR x ∨ x ∈ b_ru (σ.1 17) (σ.1 19) (pgM σ) p t o) ∧ ∀ x, x ∈ b_lo (σ.1 17) (σ.1 19) p lm (-9) ↔ DU x ∨ x ∈ b_lo (σ.1 17) (σ.1 19) p t o
theorem m_lt_irr {σ : k_St} {x : Int} : ¬ m_lt σ x x := by unfold m_lt; omega
theorem nb_list {σ : k_St} {p : Int} {lm : List Int} (hlm : ∀ x, x ∈ lm ↔ m_is σ x) {x : Int} (h : ¬ bnd σ p x) (hx : x ∈ lm) : ¬ ((σ.1 17 x ≤ 5 ∧ σ.1 19 x = p) ∧ (σ.1 17 x = 1 ∨ σ.1 17 x = 2)) := fun w => h ⟨⟨(hlm x).mp hx, w.1.1, w.1.2⟩, w.2⟩
theorem FR_s {σ τ' : k_St} {p m o : Int} {lm dn t1 t2 : List Int} {U DU W : Int → Prop} {DR : Int × Int → Prop} (hlm : ∀ x, x ∈ lm ↔ m_is σ x) (hp : lm.Pairwise (m_lt σ)) (hl : lm = dn ++ (t1 ++ m :: t2)) (ht1 : ∀ x ∈ t1, ¬ bnd σ p x) (hm : bnd σ p m) (ho : o = -9 ∨ (o ∈ dn ∧ bnd σ p o)) (f1 : ufr σ τ') (f4 : RN τ' (fun x => (PTm σ p x ∨ DR x) ∨ x ∈ c_r (σ.1 17) (pgM σ) m o) (fun q => ((ofP σ p q ∧ σ.1 17 q = 0) ∨ (bnd σ p q ∧ q ∈ dn ∧ q ≠ o)) ∨ W q)) (hW : ∀ q, W q → bnd σ p q ∧ (q = m ∨ q ∈ dn) ∧ q ≠ c_o (σ.1 17) m o) (f5 : UN τ' (fun x => (U x ∨ DU x) ∨ x ∈ c_l (σ.1 17) m o)) (f6 : ∀ x, DU x → bnd σ p x ∧ x ∈ dn ∧ x ≠ o) (f7 : ∀ x, x ∈ b_ru (σ.1 17) (σ.1 19) (pgM σ) p lm (-9) ↔ PTm σ p x ∨ DR x ∨ x ∈ b_ru (σ.1 17) (σ.1 19) (pgM σ) p (t1 ++ m :: t2) o) (f8 : ∀ x, x ∈ b_lo (σ.1 17) (σ.1 19) p lm (-9) ↔ DU x ∨ x ∈ b_lo (σ.1 17) (σ.1 19) p (t1 ++ m :: t2) o) : FR σ τ' p lm U (dn ++ (t1 ++ [m])) t2 (c_o (σ.1 17) m o) := by
  have hmd : ∀ x ∈ dn, x ≠ m := fun x hx e => by
    rw [hl, List.pairwise_append] at hp
    have := hp.2.2 x hx m (by simp)
    rw [e] at this; exact m_lt_irr this
  have h9 : ∀ x ∈ lm, x ≠ -9 := fun x hx e => by have := ((hlm x).mp hx).1; omega
  have hdl : ∀ x ∈ dn, x ∈ lm := fun x hx => by rw [hl]; exact List.mem_append_left _ hx
  have hml : m ∈ lm := by rw [hl]; simp
  have hco : ∀ x ∈ dn, x ≠ o → x ≠ c_o (σ.1 17) m o := fun x hx hxo => by
    unfold c_o; split
    · exact hmd x hx
    · split
      · exact h9 x (hdl x hx)
      · exact hxo
  have hnb : ∀ x ∈ t1, ¬ ((σ.1 17 x ≤ 5 ∧ σ.1 19 x = p) ∧ (σ.1 17 x = 1 ∨ σ.1 17 x = 2)) := fun x hx => nb_list hlm (ht1 x hx) (by rw [hl]; simp [hx])
  have hm2 : σ.1 17 m ≤ 5 ∧ σ.1 19 m = p := hm.1.2
  refine ⟨fun x => DR x ∨ x ∈ c_r (σ.1 17) (pgM σ) m o, fun x => DU x ∨ x ∈ c_l (σ.1 17) m o, f1, by rw [hl]; simp, ?_, RN_w f4 (fun x => or_assoc) ?_, UN_w f5 (fun x => or_assoc), ?_, fun x => ?_, fun x => ?_⟩
  · unfold c_o; split
    · exact Or.inr ⟨by simp, hm⟩
    · split
      · exact Or.inl rfl
      · rename_i k1 k2; exact absurd hm.2 (by omega)
  · rintro q ((w | ⟨w1, w2, w3⟩) | w)
    · exact Or.inl w
    · exact Or.inr ⟨w1, List.mem_append_left _ w2, hco q w2 w3⟩
    · obtain ⟨v1, v2, v3⟩ := hW q w
      refine Or.inr ⟨v1, ?_, v3⟩
      rcases v2 with e | e
      · rw [e]; simp
      · exact List.mem_append_left _ e
  · rintro x (w | w)
    · obtain ⟨v1, v2, v3⟩ := f6 x w
      exact ⟨v1, List.mem_append_left _ v2, hco x v2 v3⟩
    · unfold c_l at w
      split at w
      · rename_i k1
        split at w
        · exact absurd w (by simp)
        · rename_i k2
          rw [List.mem_singleton.mp w]
          rcases ho with e | ⟨e1, e2⟩
          · exact absurd e k2
          · exact ⟨e2, List.mem_append_left _ e1, by unfold c_o; rw [if_pos k1]; exact hmd o e1⟩
      · rename_i k1
        split at w
        · rename_i k2
          split at w
          · rw [List.mem_singleton.mp w]
            exact ⟨hm, by simp, by unfold c_o; rw [if_neg k1, if_pos k2]; exact h9 m hml⟩
          · exact absurd w (by simp)
        · exact absurd w (by simp)
  · rw [f7, b_ru_skip hnb, b_ru_y hm2, List.mem_append]
    constructor
    · rintro (w | w | ⟨y, y1, y2, y3, y4⟩ | w | w)
      · exact Or.inl w
      · exact Or.inr (Or.inl (Or.inl w))
      · exact Or.inl ⟨y, ⟨(hlm y).mp (by rw [hl]; simp [y1]), y2⟩, y3, y4⟩
      · exact Or.inr (Or.inl (Or.inr w))
      · exact Or.inr (Or.inr w)
    · rintro (w | (w | w) | w)
      · exact Or.inl w
      · exact Or.inr (Or.inl w)
      · exact Or.inr (Or.inr (Or.inr (Or.inl w)))
      · exact Or.inr (Or.inr (Or.inr (Or.inr w)))
  · rw [f8, b_lo_skip hnb, b_lo_yy hm2, List.mem_append, or_assoc]
theorem nb_split {σ : k_St} {p b r : Int} {lm dn t : List Int} (hK : RKept σ) (hlm : ∀ x, x ∈ lm ↔ m_is σ x) (hp : lm.Pairwise (m_lt σ)) (hl : lm = dn ++ t) (hb : (b = -9 ∧ dn = []) ∨ ∃ d, dn = d ++ [b]) (h : nbP σ p b (σ.1 69 1382) r) : (r = -9 ∧ ∀ x ∈ t, ¬ bnd σ p x) ∨ (r ≠ -9 ∧ bnd σ p r ∧ ∃ t1 t2, t = t1 ++ r :: t2 ∧ ∀ x ∈ t1, ¬ bnd σ p x) := by
  have hbt : ∀ x ∈ t, b = -9 ∨ m_lt σ b x := fun x hx => by
    rcases hb with ⟨e, _⟩ | ⟨d, e⟩
    · exact Or.inl e
    · rw [hl, List.pairwise_append] at hp
      exact Or.inr (hp.2.2 b (by rw [e]; simp) x hx)
  have htl : ∀ x ∈ t, x ∈ lm := fun x hx => by rw [hl]; exact List.mem_append_right _ hx
  rcases h with ⟨h1, h2⟩ | ⟨h1, h2, h3, h4⟩
  · exact Or.inl ⟨h1, fun x hx w => h2 x (m_is_e hK ((hlm x).mp (htl x hx))).2 ⟨w, hbt x hx⟩⟩
  · refine Or.inr ⟨by omega, h3.1, ?_⟩
    have hrl : r ∈ lm := (hlm r).mpr h3.1.1.1
    have hrt : r ∈ t := by
      rw [hl] at hrl
      rcases List.mem_append.mp hrl with w | w
      · rcases hb with ⟨_, e⟩ | ⟨d, e⟩
        · rw [e] at w; exact absurd w (by simp)
        · have hbr : m_lt σ b r := by
            rcases h3.2 with v | v
            · have : b ∈ lm := by rw [hl, e]; simp
              have := ((hlm b).mp this).1; omega
            · exact v
          rw [e] at w
          rcases List.mem_append.mp w with v | v
          · rw [hl, e, List.pairwise_append, List.pairwise_append] at hp
            have := hp.1.2.2 r v b (by simp)
            exact absurd (m_lt_tr this hbr) m_lt_irr
          · rw [List.mem_singleton.mp v] at hbr; exact absurd hbr m_lt_irr
      · exact w
    obtain ⟨t1, t2, et⟩ := List.append_of_mem hrt
    refine ⟨t1, t2, et, fun x hx w => ?_⟩
    have hxl : x ∈ lm := htl x (by rw [et]; simp [hx])
    refine h4 x (m_is_e hK ((hlm x).mp hxl)).2 ⟨w, hbt x (by rw [et]; simp [hx])⟩ ?_
    rw [hl, et, List.pairwise_append] at hp
    exact (List.pairwise_append.mp hp.2.1).2.2 x hx r (by simp)
theorem FR_e {σ τ τ' : k_St} {p o : Int} {lm dn t : List Int} {U DU : Int → Prop} {DR : Int × Int → Prop} (hlm : ∀ x, x ∈ lm ↔ m_is σ x) (hl : lm = dn ++ t) (ht : ∀ x ∈ t, ¬ bnd σ p x) (ho : o = -9 ∨ (o ∈ dn ∧ bnd σ p o)) (hc : (o = -9 ∧ RN0 τ' (fun x => PTm σ p x ∨ DR x) ∧ UN τ' (fun x => U x ∨ DU x)) ∨ (o ≠ -9 ∧ RN0 τ' (fun x => (PTm σ p x ∨ DR x) ∨ x = (pgM σ o, pgM σ o)) ∧ UN τ' (fun x => (U x ∨ DU x) ∨ x = o))) (f6 : ∀ x, DU x → bnd σ p x ∧ x ∈ dn ∧ x ≠ o) (f7 : ∀ x, x ∈ b_ru (σ.1 17) (σ.1 19) (pgM σ) p lm (-9) ↔ PTm σ p x ∨ DR x ∨ x ∈ b_ru (σ.1 17) (σ.1 19) (pgM σ) p t o) (f8 : ∀ x, x ∈ b_lo (σ.1 17) (σ.1 19) p lm (-9) ↔ DU x ∨ x ∈ b_lo (σ.1 17) (σ.1 19) p t o) : RN0 τ' (fun x => x ∈ b_ru (σ.1 17) (σ.1 19) (pgM σ) p lm (-9)) ∧ UN τ' (fun x => U x ∨ x ∈ b_lo (σ.1 17) (σ.1 19) p lm (-9)) ∧ ∀ x, x ∈ b_lo (σ.1 17) (σ.1 19) p lm (-9) → ofP σ p x := by
  have hnb : ∀ x ∈ t, ¬ ((σ.1 17 x ≤ 5 ∧ σ.1 19 x = p) ∧ (σ.1 17 x = 1 ∨ σ.1 17 x = 2)) := fun x hx => nb_list hlm (ht x hx) (by rw [hl]; simp [hx])
  have g7 : ∀ x, x ∈ b_ru (σ.1 17) (σ.1 19) (pgM σ) p t o ↔ (∃ m ∈ t, (σ.1 17 m ≤ 5 ∧ σ.1 19 m = p) ∧ σ.1 17 m = 0 ∧ x = (pgM σ m, pgM σ m)) ∨ x ∈ b_ru (σ.1 17) (σ.1 19) (pgM σ) p [] o := fun x => by
    have := b_ru_skip (pg := pgM σ) (s := []) (x := x) (o := o) hnb
    rw [List.append_nil] at this; exact this
  have g8 : b_lo (σ.1 17) (σ.1 19) p t o = b_lo (σ.1 17) (σ.1 19) p [] o := by
    have := b_lo_skip (s := []) (o := o) hnb
    rw [List.append_nil] at this; exact this
  have gp : ∀ x, (∃ m ∈ t, (σ.1 17 m ≤ 5 ∧ σ.1 19 m = p) ∧ σ.1 17 m = 0 ∧ x = (pgM σ m, pgM σ m)) → PTm σ p x := fun x ⟨m, m1, m2, m3, m4⟩ => ⟨m, ⟨(hlm m).mp (by rw [hl]; simp [m1]), m2⟩, m3, m4⟩
  rcases hc with ⟨e, c1, c2⟩ | ⟨e, c1, c2⟩
  · have z7 : ∀ x, ¬ x ∈ b_ru (σ.1 17) (σ.1 19) (pgM σ) p [] o := fun x => by unfold b_ru; rw [if_pos e]; simp
    have z8 : b_lo (σ.1 17) (σ.1 19) p [] o = [] := by unfold b_lo; rw [if_pos e]
    refine ⟨RN0_w c1 (fun x => ?_), UN_w c2 (fun x => ?_), fun x hx => ?_⟩
    · rw [f7, g7]
      constructor
      · rintro (w | w)
        · exact Or.inl w
        · exact Or.inr (Or.inl w)
      · rintro (w | w | w | w)
        · exact Or.inl w
        · exact Or.inr w
        · exact Or.inl (gp x w)
        · exact absurd w (z7 x)
    · rw [f8, g8, z8]; simp
    · rw [f8, g8, z8] at hx
      rcases hx with w | w
      · exact (f6 x w).1.1
      · exact absurd w (by simp)
  · have z7 : ∀ x, x ∈ b_ru (σ.1 17) (σ.1 19) (pgM σ) p [] o ↔ x = (pgM σ o, pgM σ o) := fun x => by unfold b_ru; rw [if_neg e]; simp
    have z8 : b_lo (σ.1 17) (σ.1 19) p [] o = [o] := by unfold b_lo; rw [if_neg e]
    refine ⟨RN0_w c1 (fun x => ?_), UN_w c2 (fun x => ?_), fun x hx => ?_⟩
    · rw [f7, g7, z7]
      constructor
      · rintro ((w | w) | w)
        · exact Or.inl w
        · exact Or.inr (Or.inl w)
        · exact Or.inr (Or.inr (Or.inr w))
      · rintro (w | w | w | w)
        · exact Or.inl (Or.inl w)
        · exact Or.inl (Or.inr w)
        · exact Or.inl (Or.inl (gp x w))
        · exact Or.inr w
    · rw [f8, g8, z8, List.mem_singleton, or_assoc]
    · rw [f8, g8, z8, List.mem_singleton] at hx
      rcases hx with w | w
      · exact (f6 x w).1.1
      · rcases ho with v | v
        · exact absurd v e
        · rw [w]; exact v.2.1
theorem mfr_nb {σ τ : k_St} (h : mfr σ τ) {p b k r : Int} : nbP τ p b k r ↔ nbP σ p b k r := by
  have e1 : ∀ m, bnd τ p m ↔ bnd σ p m := fun m => by unfold bnd; rw [mfr_of h, h.1 17 (by omega)]
  have e2 : ∀ x y, m_lt τ x y ↔ m_lt σ x y := fun x y => by unfold m_lt; rw [h.1 18 (by omega)]
  have e3 : ∀ m, nb_c τ p b m ↔ nb_c σ p b m := fun m => by unfold nb_c; rw [e1, e2]
  unfold nbP
  simp only [e3, e2]
theorem mfr_pg {σ τ : k_St} (h : mfr σ τ) : pgM τ = pgM σ := by unfold pgM; rw [h.1 18 (by omega), h.2.1 68 11 (by omega)]
theorem RN0_0 {σ : k_St} (h : σ.2.1 68 48 = 0) : RN σ (fun _ => False) (fun _ => False) := ⟨⟨by omega, fun k k0 k1 => by omega, fun i j i0 i1 => by omega, fun x => ⟨fun ⟨i, a, b, _⟩ => by omega, fun w => w.elim⟩⟩, fun i => i, fun i j i0 i1 => by omega, fun k k0 k1 => by omega⟩

