def b_ru (K P pg : Int → Int) (p : Int) : List Int → Int → List (Int × Int)
  | [], o => if o = -9 then [] else [(pg o, pg o)]
  | m :: t, o => if K m ≤ 5 ∧ P m = p then c_r K pg m o ++ b_ru K P pg p t (c_o K m o) else b_ru K P pg p t o
def b_lo (K P : Int → Int) (p : Int) : List Int → Int → List Int
  | [], o => if o = -9 then [] else [o]
  | m :: t, o => if K m ≤ 5 ∧ P m = p then c_l K m o ++ b_lo K P p t (c_o K m o) else b_lo K P p t o
/-- how many marks of a path -/
def b_n (K P : Int → Int) (p : Int) : List Int → Int
  | [] => 0
  | m :: t => (if K m ≤ 5 ∧ P m = p then 1 else 0) + b_n K P p t
theorem b_n_0 (K P : Int → Int) (p : Int) : ∀ l : List Int, 0 ≤ b_n K P p l ∧ b_n K P p l ≤ l.length
  | [] => by simp [b_n]
  | m :: t => by have := b_n_0 K P p t; unfold b_n; rw [List.length_cons]; split <;> omega
def b_ms (K P pg T : Int → Int) (p : Int) (lm : List Int) (y : q_T) : Prop := ∃ m ∈ lm, (K m ≤ 5 ∧ P m = p) ∧ 3 ≤ K m ∧ y = (K m, pg m, pg m, T m)
/-- the places of an entry, of its runs RS and its other marks MS -/
def pl_spec (RS : Int × Int → Prop) (MS : q_T → Prop) (d : Int) (Y : List q_T) : Prop := ∃ W : List (Int × Int), W.Pairwise (fun x y => x.1 < y.1) ∧ (∀ x, x ∈ W ↔ (RS x ∧ (∀ y, RS y → y.1 ≤ x.1 → x.2 ≤ y.2 → y = x)) ∧ ¬ (x.1 = x.2 ∧ ∃ t, MS (3, x.1, x.1, t))) ∧ ∀ y, y ∈ Y ↔ MS y ∨ ∃ x ∈ u_melt d [] W, y = (0, x.1, x.2, 0)
theorem u_inner_len : ∀ {R : List (Int × Int)} {m : Int}, (u_inner m R).length ≤ R.length
  | [], m => by simp [u_inner]
  | x :: t, m => by
    unfold u_inner
    split
    · have := u_inner_len (R := t) (m := x.2); simp only [List.length_cons]; omega
    · have := u_inner_len (R := t) (m := m); simp only [List.length_cons]; omega
theorem u_inner_ok : ∀ {R : List (Int × Int)} {m : Int}, R.Pairwise u_srt → (u_inner m R).Pairwise (fun x y => x.1 < y.1) ∧ ∀ x, x ∈ u_inner m R ↔ x ∈ R ∧ m < x.2 ∧ ∀ y ∈ R, y.1 ≤ x.1 → x.2 ≤ y.2 → y = x
  | [], m, _ => by simp [u_inner]
  | x :: t, m, h => by
    rw [List.pairwise_cons] at h
    have hx : ∀ y ∈ t, y.1 ≤ x.1 → x.2 ≤ y.2 → y = x := fun y hy h1 h2 => by
      have h3 := h.1 y hy
      unfold u_srt at h3
      exact Prod.ext (by omega) (by omega)
    unfold u_inner
    by_cases hm : m < x.2
    · rw [if_pos hm]
      obtain ⟨i1, i2⟩ := u_inner_ok (R := t) (m := x.2) h.2
      refine ⟨List.pairwise_cons.mpr ⟨fun y hy => ?_, i1⟩, fun y => ?_⟩
      · have h4 := (i2 y).mp hy
        have h5 := h.1 y h4.1
        unfold u_srt at h5
        omega
      · rw [List.mem_cons, List.mem_cons, i2 y]
        constructor
        · rintro (rfl | ⟨h1, h2, h3⟩)
          · refine ⟨Or.inl rfl, hm, fun z hz h1 h2 => ?_⟩
            rcases List.mem_cons.mp hz with h | h
            · exact h
            · exact hx z h h1 h2
          · refine ⟨Or.inr h1, by omega, fun z hz h4 h5 => ?_⟩
            rcases List.mem_cons.mp hz with h | h
            · rw [h] at h5; omega
            · exact h3 z h h4 h5
        · rintro ⟨h1, h2, h3⟩
          rcases h1 with h1 | h1
          · exact Or.inl h1
          · by_cases hy : x.2 < y.2
            · exact Or.inr ⟨h1, hy, fun z hz => h3 z (List.mem_cons_of_mem _ hz)⟩
            · have h4 := h.1 y h1
              unfold u_srt at h4
              exact Or.inl (h3 x List.mem_cons_self (by omega) (by omega)).symm
    · rw [if_neg hm]
      obtain ⟨i1, i2⟩ := u_inner_ok (R := t) (m := m) h.2
      refine ⟨i1, fun y => ?_⟩
      rw [i2 y, List.mem_cons]
      constructor
      · rintro ⟨h1, h2, h3⟩
        refine ⟨Or.inr h1, h2, fun z hz h4 h5 => ?_⟩
        rcases List.mem_cons.mp hz with h | h
        · rw [h] at h5; omega
        · exact h3 z h h4 h5
      · rintro ⟨h1, h2, h3⟩
        rcases h1 with h1 | h1
        · rw [h1] at h2; omega
        · exact ⟨h1, h2, fun z hz => h3 z (List.mem_cons_of_mem _ hz)⟩
theorem u_page_ok {p : Int} : ∀ {R : List (Int × Int)}, (u_page p R).Sublist R ∧ ∀ x, x ∈ u_page p R ↔ x ∈ R ∧ ¬ (x.1 = p ∧ x.2 = p)
  | [] => by simp [u_page]
  | x :: t => by
    obtain ⟨i1, i2⟩ := u_page_ok (p := p) (R := t)
    unfold u_page
    by_cases hx : x.1 = p ∧ x.2 = p
    · rw [if_pos hx]
      refine ⟨i1.cons x, fun y => ?_⟩
      rw [i2 y, List.mem_cons]
      constructor
      · rintro ⟨h1, h2⟩; exact ⟨Or.inr h1, h2⟩
      · rintro ⟨h1 | h1, h2⟩
        · rw [h1] at h2; exact absurd hx h2
        · exact ⟨h1, h2⟩
    · rw [if_neg hx]
      refine ⟨i1.cons_cons x, fun y => ?_⟩
      rw [List.mem_cons, List.mem_cons, i2 y]
      constructor
      · rintro (h1 | ⟨h1, h2⟩)
        · exact ⟨Or.inl h1, by rw [h1]; exact hx⟩
        · exact ⟨Or.inr h1, h2⟩
      · rintro ⟨h1 | h1, h2⟩
        · exact Or.inl h1
        · exact Or.inr ⟨h1, h2⟩
def u_pages : List q_T → List (Int × Int) → List (Int × Int)
  | [], T => T
  | z :: t, T => u_pages t (if z.1 = 3 then u_page z.2.1 T else T)
theorem u_pages_ok : ∀ {Z : List q_T} {T : List (Int × Int)}, (u_pages Z T).Sublist T ∧ ∀ x, x ∈ u_pages Z T ↔ x ∈ T ∧ ¬ ∃ z ∈ Z, z.1 = 3 ∧ x.1 = z.2.1 ∧ x.2 = z.2.1
  | [], T => by simp [u_pages]
  | z :: t, T => by
    unfold u_pages
    by_cases hz : z.1 = 3
    · rw [if_pos hz]
      obtain ⟨i1, i2⟩ := u_pages_ok (Z := t) (T := u_page z.2.1 T)
      obtain ⟨j1, j2⟩ := u_page_ok (p := z.2.1) (R := T)
      refine ⟨i1.trans j1, fun x => ?_⟩
      rw [i2 x, j2 x]
      constructor
      · rintro ⟨⟨h1, h2⟩, h3⟩
        refine ⟨h1, ?_⟩
        rintro ⟨y, hy, h4⟩
        rcases List.mem_cons.mp hy with h | h
        · rw [h] at h4; exact h2 h4.2
        · exact h3 ⟨y, h, h4⟩
      · rintro ⟨h1, h2⟩
        exact ⟨⟨h1, fun h => h2 ⟨z, List.mem_cons_self, hz, h⟩⟩, fun ⟨y, hy, h4⟩ => h2 ⟨y, List.mem_cons_of_mem _ hy, h4⟩⟩
    · rw [if_neg hz]
      obtain ⟨i1, i2⟩ := u_pages_ok (Z := t) (T := T)
      refine ⟨i1, fun x => ?_⟩
      rw [i2 x]
      constructor
      · rintro ⟨h1, h2⟩
        refine ⟨h1, ?_⟩
        rintro ⟨y, hy, h4⟩
        rcases List.mem_cons.mp hy with h | h
        · rw [h] at h4; exact hz h4.1
        · exact h2 ⟨y, h, h4⟩
      · rintro ⟨h1, h2⟩
        exact ⟨h1, fun ⟨y, hy, h4⟩ => h2 ⟨y, List.mem_cons_of_mem _ hy, h4⟩⟩
theorem u_melt_ok {d : Int} : ∀ {t R : List (Int × Int)}, ((R.reverse ++ t).map Prod.fst).Pairwise (· < ·) → ((u_melt d R t).map Prod.fst).Pairwise (· < ·) ∧ (u_melt d R t).length ≤ R.length + t.length
  | [], R, h => by
    have e : u_melt d R [] = R.reverse := by cases R <;> rfl
    rw [e]; simpa using h
  | x :: t, [], h => by
    show ((u_melt d [x] t).map Prod.fst).Pairwise (· < ·) ∧ (u_melt d [x] t).length ≤ _
    have i := u_melt_ok (d := d) (t := t) (R := [x]) (by simpa using h)
    refine ⟨i.1, ?_⟩
    have i2 := i.2
    simp only [List.length_cons, List.length_nil] at i2 ⊢; omega
  | x :: t, r :: R, h => by
    by_cases hc : 0 < d ∧ x.1 - r.2 ≤ d
    · rw [show u_melt d (r :: R) (x :: t) = u_melt d ((r.1, max r.2 x.2) :: R) t from if_pos hc]
      have i := u_melt_ok (d := d) (t := t) (R := (r.1, max r.2 x.2) :: R) (by
        refine List.Pairwise.sublist ?_ h
        simp only [List.reverse_cons, List.map_append, List.map_cons, List.map_nil]
        refine List.Sublist.append_left ?_ _
        exact List.sublist_cons_self _ _)
      refine ⟨i.1, ?_⟩
      have i2 := i.2
      simp only [List.length_cons] at i2 ⊢; omega
    · rw [show u_melt d (r :: R) (x :: t) = u_melt d (x :: r :: R) t from if_neg hc]
      have i := u_melt_ok (d := d) (t := t) (R := x :: r :: R) (by simpa using h)
      refine ⟨i.1, ?_⟩
      have i2 := i.2
      simp only [List.length_cons] at i2 ⊢; omega
theorem u_fst_pw {W : List (Int × Int)} : (W.map Prod.fst).Pairwise (· < ·) ↔ W.Pairwise (fun x y => x.1 < y.1) := by rw [List.pairwise_map]
theorem u_seg_get {F G : Int → Int} : ∀ {l : List (Int × Int)} {i : Int} {k : Nat} (h : k < l.length), u_seg F G i l → F (i + k) = l[k].1 ∧ G (i + k) = l[k].2
  | x :: t, i, 0, h, ⟨a, b, _⟩ => by simpa using ⟨a, b⟩
  | x :: t, i, k + 1, h, ⟨_, _, c⟩ => by
    have h9 := u_seg_get (k := k) (by simpa using h) c
    rw [List.getElem_cons_succ, show i + ((k + 1 : Nat) : Int) = i + 1 + (k : Int) by omega]
    exact h9
theorem q_w_0 {c : Int} {f l : Int} {z : q_T} (hf : 0 ≤ f ∧ f ≤ 299) (hz : zk z) : q_w c z ≠ q_w c (0, f, l, 0) := by
  obtain ⟨z1, z2, z3, z4⟩ := z
  unfold zk at hz
  unfold q_w i_wt i_rank
  simp only at hz ⊢
  rcases (show z1 = 3 ∨ z1 = 4 ∨ z1 = 5 by omega) with e | e | e <;> subst e <;> simp <;> (try split) <;> omega
theorem q_w_00 {c : Int} {f l f' l' : Int} (h : f ≠ f') : q_w c (0, f, l, 0) ≠ q_w c (0, f', l', 0) := by
  unfold q_w i_wt i_rank
  simp only
  split <;> omega
