/-- places: kind, first page, last page, note -/
abbrev q_T : Type := Int × Int × Int × Int
def q_seg (F : Int → Int) : Int → List q_T → Prop
  | _, [] => True
  | i, x :: t => (F (i * 4) = x.1 ∧ F (i * 4 + 1) = x.2.1 ∧ F (i * 4 + 2) = x.2.2.1 ∧ F (i * 4 + 3) = x.2.2.2) ∧ q_seg F (i + 1) t
theorem q_seg_congr {F F' : Int → Int} : ∀ {l : List q_T} {i : Int}, (∀ j, i * 4 ≤ j → j < (i + l.length) * 4 → F' j = F j) → q_seg F i l → q_seg F' i l
  | [], _, _, _ => trivial
  | x :: t, i, h, ⟨a, c⟩ => by
    rw [List.length_cons] at h
    exact ⟨⟨(h _ (by omega) (by omega)).trans a.1, (h _ (by omega) (by omega)).trans a.2.1, (h _ (by omega) (by omega)).trans a.2.2.1, (h _ (by omega) (by omega)).trans a.2.2.2⟩, q_seg_congr (fun j j0 j1 => h j (by omega) (by omega)) c⟩
theorem q_seg_app {F : Int → Int} : ∀ {l m : List q_T} {i : Int}, q_seg F i (l ++ m) ↔ q_seg F i l ∧ q_seg F (i + l.length) m
  | [], m, i => by simp [q_seg]
  | x :: t, m, i => by
    show _ ∧ q_seg F (i + 1) (t ++ m) ↔ (_ ∧ q_seg F (i + 1) t) ∧ q_seg F (i + (x :: t).length) m
    rw [q_seg_app, List.length_cons, show i + ((t.length + 1 : Nat) : Int) = i + 1 + (t.length : Int) by omega]
    exact ⟨fun ⟨a, c, d⟩ => ⟨⟨a, c⟩, d⟩, fun ⟨⟨a, c⟩, d⟩ => ⟨a, c, d⟩⟩
theorem q_seg_get {F : Int → Int} : ∀ {l : List q_T} {i : Int} {k : Nat} (h : k < l.length), q_seg F i l → F ((i + k) * 4) = l[k].1 ∧ F ((i + k) * 4 + 1) = l[k].2.1 ∧ F ((i + k) * 4 + 2) = l[k].2.2.1 ∧ F ((i + k) * 4 + 3) = l[k].2.2.2
  | x :: t, i, 0, h, ⟨a, _⟩ => by simpa using a
  | x :: t, i, k + 1, h, ⟨_, c⟩ => by
    have h9 := q_seg_get (k := k) (by simpa using h) c
    rw [List.getElem_cons_succ, show i + ((k + 1 : Nat) : Int) = i + 1 + (k : Int) by omega]
    exact h9
def q_w (c : Int) (x : q_T) : Int := i_wt x.1 x.2.1 x.2.2.2 c
theorem q_ins {F : Int → Int} {P S : List q_T} {s N p k f l t : Int} (h : q_seg F s (P ++ S)) (hN : N = s + (P ++ S).length) (hp : p = s + P.length) : q_seg (j_up (j_up (j_up (j_up (j_cpy F F (p * 4) (p * 4 + 4) ((N - p) * 4)) (p * 4) k) (p * 4 + 1) f) (p * 4 + 2) l) (p * 4 + 3) t) s (P ++ (k, f, l, t) :: S) := by
  rw [q_seg_app] at h ⊢
  rw [List.length_append] at hN
  refine ⟨q_seg_congr (fun j j0 j1 => by rw [j_upN (by omega), j_upN (by omega), j_upN (by omega), j_upN (by omega)]; unfold j_cpy; rw [if_neg (by omega)]) h.1, ?_⟩
  rw [← hp] at h ⊢
  refine ⟨⟨?_, ?_, ?_, ?_⟩, ?_⟩
  · rw [j_upN (by omega), j_upN (by omega), j_upN (by omega), j_upS]
  · rw [j_upN (by omega), j_upN (by omega), j_upS]
  · rw [j_upN (by omega), j_upS]
  · rw [j_upS]
  · have H : ∀ (S : List q_T) (i : Int), p ≤ i → i + S.length ≤ N → q_seg F i S → q_seg (j_up (j_up (j_up (j_up (j_cpy F F (p * 4) (p * 4 + 4) ((N - p) * 4)) (p * 4) k) (p * 4 + 1) f) (p * 4 + 2) l) (p * 4 + 3) t) (i + 1) S := by
      intro S
      induction S with
      | nil => intros; trivial
      | cons x t9 ih =>
        intro i h1 h2 h3
        rw [List.length_cons] at h2
        refine ⟨?_, ih (i + 1) (by omega) (by omega) h3.2⟩
        have E : ∀ d : Int, 0 ≤ d → d < 4 → (j_up (j_up (j_up (j_up (j_cpy F F (p * 4) (p * 4 + 4) ((N - p) * 4)) (p * 4) k) (p * 4 + 1) f) (p * 4 + 2) l) (p * 4 + 3) t) ((i + 1) * 4 + d) = F (i * 4 + d) := fun d d0 d1 => by
          rw [j_upN (by omega), j_upN (by omega), j_upN (by omega), j_upN (by omega)]; unfold j_cpy; rw [if_pos (by omega)]; congr 1; omega
        have E0 := E 0 (by omega) (by omega)
        rw [Int.add_zero, Int.add_zero] at E0
        exact ⟨E0.trans h3.1.1, (E 1 (by omega) (by omega)).trans h3.1.2.1, (E 2 (by omega) (by omega)).trans h3.1.2.2.1, (E 3 (by omega) (by omega)).trans h3.1.2.2.2⟩
    exact H S p (by omega) (by omega) h.2
def pl_fr (a : Nat) (σ τ : k_St) : Prop := (∀ c, c ≠ a + 4 → τ.1 c = σ.1 c) ∧ (∀ c j, ¬ (c = a ∧ j = 5) → τ.2.1 c j = σ.2.1 c j) ∧ τ.2.2 = σ.2.2
/-- the places from s on are Z, in order -/
def pl_is (σ : k_St) (a : Nat) (s c : Int) (Z : List q_T) : Prop := i_wf σ a ∧ σ.2.1 a 5 = s + Z.length ∧ q_seg (σ.1 (a + 4)) s Z ∧ Z.Pairwise (fun x y => q_w c x < q_w c y) ∧ ∀ e, 0 ≤ e → e < σ.2.1 a 5 → σ.1 (a + 4) (e * 4) ≤ 5
def al_post (n : Nat) (σ : k_St) (a : Nat) (s c : Int) (x : q_T) (Z : List q_T) : k_P := fun v n' τ => v = none ∧ n' = n ∧ pl_fr a σ τ ∧ (∀ j, j < s * 4 → τ.1 (a + 4) j = σ.1 (a + 4) j) ∧ ∃ Y, pl_is τ a s c Y ∧ (∀ y, y ∈ Y ↔ y ∈ Z ∨ (y = x ∧ ∀ z ∈ Z, q_w c z ≠ q_w c x)) ∧ Y.length ≤ Z.length + 1
theorem i_wf_pl {σ : k_St} {a : Nat} {p k f l t : Int} (hw : i_wf σ a) (hk : 0 ≤ k ∧ k ≤ 5) (hf : 0 ≤ f ∧ f ≤ 299) (hl : 0 ≤ l ∧ l ≤ 299) (ht : 0 ≤ t ∧ t ≤ 99) (h5 : σ.2.1 a 5 < 50) : i_wf (i_plS σ a p k f l t) a := by
  obtain ⟨hc, hpc, hlc, hlo, hv⟩ := hw
  unfold i_plS
  refine ⟨?_, ?_, ?_, ?_, fun e => ?_⟩
  · rw [k_IN (by omega)]; exact hc
  · rw [k_II]; omega
  · rw [k_IN (by omega)]; exact hlc
  · rw [k_IN (by omega)]; exact hlo
  · rw [k_I1, k_AA, k_AN (by omega), k_AN (by omega), k_AN (by omega), k_AN (by omega), k_AN (by omega)]
    have h := hv e
    refine ⟨h.1, h.2.1, h.2.2.1, ?_, h.2.2.2.2⟩
    unfold j_up j_cpy
    (repeat' split) <;> first | omega | exact (hv _).2.2.2.1
set_option maxHeartbeats 4000000 in
theorem s_addPlaceL {G : j_G} {X : k_X} {n : Nat} {σ : k_St} (hn : 101 ≤ n) {a : Nat} (hA : i_at X n a) {s c : Int} {Z : List q_T} (hz : pl_is σ a s c Z) (hs9 : 0 ≤ s) (h50 : s + Z.length < 50) (hc9 : c = 0 ∨ c = 1) {k f l t : Int} (hk : 0 ≤ k ∧ k ≤ 5) (hf : 0 ≤ f ∧ f ≤ 299) (hl : 0 ≤ l ∧ l ≤ 299) (ht : 0 ≤ t ∧ t ≤ 99) : k_run G X mX3_addPlace [.ref a, j_i s, j_i k, j_i f, j_i l, j_i t, j_i c] n σ 0 0 (al_post n σ a s c (k, f, l, t) Z) := by
  obtain ⟨hw, hc, hs, hp, hk5⟩ := id hz
  refine k_post (fun v n' τ h => ?_) (s_addPlace hA hw hn hs9 (by omega) (by omega) hc9 hk hf ht hk5)
  obtain ⟨rfl, rfl, h⟩ := h
  have hwk : ∀ i : Nat, (hi : i < Z.length) → i_wk σ a (s + i) c = q_w c Z[i] := fun i hi => by
    have h9 := q_seg_get hi hs
    unfold i_wk q_w; rw [h9.1, h9.2.1, h9.2.2.2]
  refine ⟨rfl, rfl, ?_⟩
  rcases h with ⟨rfl, p, p0, p1, p2⟩ | ⟨p, p0, p1, p2, p3, rfl⟩
  · refine ⟨⟨fun _ _ => rfl, fun _ _ _ => rfl, rfl⟩, fun _ _ => rfl, Z, hz, fun y => ⟨Or.inl, ?_⟩, by omega⟩
    rintro (hx | ⟨rfl, hx⟩)
    · exact hx
    · have hi : (p - s).toNat < Z.length := by omega
      have h8 := hwk (p - s).toNat hi
      rw [show s + ((p - s).toNat : Int) = p by omega, p2] at h8
      exact absurd h8.symm (hx _ (List.getElem_mem _))
  · have hl9 : (p - s).toNat ≤ Z.length := by omega
    have hgt : ∀ y ∈ Z.drop (p - s).toNat, i_wt k f t c < q_w c y := fun y hy => by
      obtain ⟨i, hi, e⟩ := List.getElem_of_mem hy
      rw [List.length_drop] at hi
      rw [List.getElem_drop] at e
      have h8 := hwk ((p - s).toNat + i) (by omega)
      rw [e] at h8
      rw [← h8]; exact p2 _ (by omega) (by omega)
    have hlt : ∀ y ∈ Z.take (p - s).toNat, q_w c y < i_wt k f t c := fun y hy => by
      obtain ⟨i, hi, e⟩ := List.getElem_of_mem hy
      rw [List.length_take] at hi
      rw [List.getElem_take] at e
      rcases p3 with p3 | p3
      · omega
      · have hk9 : (p - 1 - s).toNat < Z.length := by omega
        have h1 := hwk _ hk9
        rw [show s + ((p - 1 - s).toNat : Int) = p - 1 by omega] at h1
        rw [h1] at p3
        rcases (show i = (p - 1 - s).toNat ∨ i < (p - 1 - s).toNat by omega) with h | h
        · subst h; rw [← e]; exact p3
        · have h7 := List.pairwise_iff_getElem.mp hp i (p - 1 - s).toNat (by omega) hk9 h
          rw [e] at h7; omega
    refine ⟨⟨fun c hc => ?_, fun c j hcj => ?_, rfl⟩, fun j hj => ?_, Z.take (p - s).toNat ++ (k, f, l, t) :: Z.drop (p - s).toNat, ⟨i_wf_pl hw hk hf hl ht (by omega), ?_, ?_, ?_, fun e e0 e1 => ?_⟩, fun y => ?_, ?_⟩
    · unfold i_plS; rw [k_I1, k_AN hc]
    · unfold i_plS; rw [k_IN hcj]; rfl
    · unfold i_plS; rw [k_I1, k_AA, j_upN (by omega), j_upN (by omega), j_upN (by omega), j_upN (by omega)]; unfold j_cpy; rw [if_neg (by omega)]
    · unfold i_plS; rw [k_II, hc, List.length_append, List.length_cons, List.length_take, List.length_drop]; omega
    · unfold i_plS; rw [k_I1, k_AA]
      exact q_ins (by rw [List.take_append_drop]; exact hs) (by rw [List.take_append_drop]; exact hc) (by rw [List.length_take]; omega)
    · have hl := hp
      rw [← List.take_append_drop (p - s).toNat Z, List.pairwise_append] at hl
      rw [List.pairwise_append]
      refine ⟨hl.1, List.pairwise_cons.mpr ⟨hgt, hl.2.1⟩, fun x hx y hy => ?_⟩
      rcases List.mem_cons.mp hy with h | h
      · rw [h]; exact hlt x hx
      · exact hl.2.2 x hx y h
    · unfold i_plS at e1 ⊢
      rw [k_II] at e1
      rw [k_I1, k_AA, j_upN (by omega), j_upN (by omega), j_upN (by omega)]
      by_cases h : e = p
      · rw [h, j_upS]; omega
      · rw [j_upN (by omega)]; unfold j_cpy
        split
        · rw [show p * 4 + (e * 4 - (p * 4 + 4)) = (e - 1) * 4 by omega]; exact hk5 _ (by omega) (by omega)
        · exact hk5 _ e0 (by omega)
    · rw [List.mem_append, List.mem_cons]
      have : y ∈ Z ↔ y ∈ Z.take (p - s).toNat ∨ y ∈ Z.drop (p - s).toNat := by rw [← List.mem_append, List.take_append_drop]
      have hno : ∀ z ∈ Z, q_w c z ≠ q_w c (k, f, l, t) := fun z hz => by
        rw [← List.take_append_drop (p - s).toNat Z, List.mem_append] at hz
        show q_w c z ≠ i_wt k f t c
        rcases hz with hz | hz
        · have := hlt z hz; omega
        · have := hgt z hz; omega
      rw [this]
      constructor
      · rintro (h | h | h)
        · exact Or.inl (Or.inl h)
        · exact Or.inr ⟨h, hno⟩
        · exact Or.inl (Or.inr h)
      · rintro ((h | h) | ⟨h, _⟩)
        · exact Or.inl h
        · exact Or.inr (Or.inr h)
        · exact Or.inr (Or.inl h)
    · rw [List.length_append, List.length_cons, List.length_take, List.length_drop]; omega
/-- runs in order: by first pages, of like ones the longest first -/
def u_srt (x y : Int × Int) : Prop := x.1 < y.1 ∨ x.1 = y.1 ∧ y.2 ≤ x.2
theorem u_adds_ok {f l : Int} {L z : List (Int × Int)} (h : u_adds f l L z) (hL : L.Pairwise u_srt) : z.Pairwise u_srt ∧ (∀ x, x ∈ z ↔ x ∈ L ∨ x = (f, l)) ∧ z.length = L.length + 1 := by
  obtain ⟨P, S, rfl, rfl, h3, h4⟩ := h
  rw [List.pairwise_append] at hL
  refine ⟨?_, fun x => ?_, ?_⟩
  · rw [List.pairwise_append]
    have hP : ∀ x ∈ P, u_srt x (f, l) := fun x hx => by
      rcases List.eq_nil_or_concat P with e | ⟨P', r, e⟩
      · rw [e] at hx; cases hx
      · rw [List.concat_eq_append] at e
        subst e
        have h5 := h4 r (by simp)
        have hr : u_srt r (f, l) := by
          unfold u_ahead at h5; unfold u_srt
          show r.1 < f ∨ r.1 = f ∧ l ≤ r.2
          omega
        rcases List.mem_append.mp hx with h | h
        · have h6 := (List.pairwise_append.mp hL.1).2.2 x h r (by simp)
          unfold u_srt at h6 hr ⊢
          have h7 : r.1 < f ∨ r.1 = f ∧ l ≤ r.2 := hr
          show x.1 < f ∨ x.1 = f ∧ l ≤ x.2
          omega
        · rw [List.mem_singleton.mp h]; exact hr
    refine ⟨hL.1, List.pairwise_cons.mpr ⟨fun s hs => ?_, hL.2.1⟩, fun x hx y hy => ?_⟩
    · have h5 := h3 s hs
      unfold u_ahead at h5; unfold u_srt
      show f < s.1 ∨ f = s.1 ∧ s.2 ≤ l
      omega
    · rcases List.mem_cons.mp hy with h | h
      · rw [h]; exact hP x hx
      · exact hL.2.2 x hx y h
  · rw [List.mem_append, List.mem_append, List.mem_cons]
    constructor
    · rintro (h | h | h)
      · exact Or.inl (Or.inl h)
      · exact Or.inr h
      · exact Or.inl (Or.inr h)
    · rintro ((h | h) | h)
      · exact Or.inl h
      · exact Or.inr (Or.inr h)
      · exact Or.inr (Or.inl h)
  · rw [List.length_append, List.length_append, List.length_cons]; omega
theorem f_page_in {g f : Int} (h : 0 ≤ g ∧ g ≤ 300) : 0 ≤ f_page g f ∧ f_page g f ≤ 299 := by
  unfold f_page
  split
  · omega
  · rename_i h1
    have h2 : 1 ≤ f := by omega
    constructor
    · exact Int.ediv_nonneg (by omega) (by omega)
    · have : (g - 1) / f ≤ g - 1 := Int.ediv_le_self _ (by omega)
      omega
/-- what a mark adds to the runs, to the loose ones, and the open one behind it -/
def c_r (K pg : Int → Int) (m o : Int) : List (Int × Int) := if K m = 0 then [(pg m, pg m)] else if K m = 1 then (if o = -9 then [] else [(pg o, pg o)]) else if K m = 2 then (if o = -9 then [(pg m, pg m)] else [(pg o, pg m)]) else []
def c_l (K : Int → Int) (m o : Int) : List Int := if K m = 1 then (if o = -9 then [] else [o]) else if K m = 2 then (if o = -9 then [m] else []) else []
def c_o (K : Int → Int) (m o : Int) : Int := if K m = 1 then m else if K m = 2 then -9 else o
/-- while the marks of an entry are gone through -/
def cf_fr (a : Nat) (σ τ : k_St) : Prop := (∀ c, c ≠ 43 → c ≠ 46 → c ≠ 47 → c ≠ a + 4 → τ.1 c = σ.1 c) ∧ (∀ c j, ¬ (c = 39 ∧ j = 10) → ¬ (c = 45 ∧ j = 2) → ¬ (c = a ∧ j = 5) → τ.2.1 c j = σ.2.1 c j) ∧ τ.2.2 = σ.2.2
theorem cf_fr_r {a : Nat} {σ : k_St} : cf_fr a σ σ := ⟨fun _ _ _ _ _ => rfl, fun _ _ _ _ _ => rfl, rfl⟩
theorem cf_fr_t {a : Nat} {σ τ ρ : k_St} (h : cf_fr a σ τ) (g : cf_fr a τ ρ) : cf_fr a σ ρ := ⟨fun c q1 q2 q3 q4 => (g.1 c q1 q2 q3 q4).trans (h.1 c q1 q2 q3 q4), fun c j q1 q2 q3 => (g.2.1 c j q1 q2 q3).trans (h.2.1 c j q1 q2 q3), g.2.2.trans h.2.2⟩
theorem cf_of_u {a : Nat} {σ τ : k_St} (h : u_fr σ τ) : cf_fr a σ τ := ⟨fun c _ h2 h3 _ => h.1 c h2 h3, fun c j _ h2 _ => h.2.1 c j h2, h.2.2⟩
theorem cf_of_p {a : Nat} {σ τ : k_St} (h : pl_fr a σ τ) : cf_fr a σ τ := ⟨fun c _ _ _ h4 => h.1 c h4, fun c j _ _ h3 => h.2.1 c j h3, h.2.2⟩
theorem cf_43 {a : Nat} {σ : k_St} {f : Int → Int} : cf_fr a σ (k_sA σ 43 f) := ⟨fun c h1 _ _ _ => k_AN h1, fun _ _ _ _ _ => rfl, rfl⟩
theorem cf_10 {a : Nat} {σ : k_St} {x : Int} : cf_fr a σ (k_sI σ 39 10 x) := ⟨fun _ _ _ _ _ => rfl, fun c j h1 _ _ => k_IN h1, rfl⟩
/-- runs R, open one o, places Z from s on -/
def cs_is (σ : k_St) (a : Nat) (s c : Int) (R : List (Int × Int)) (o : Int) (Z : List q_T) : Prop := u_is σ R ∧ R.Pairwise u_srt ∧ σ.2.1 39 10 = o ∧ (o = -9 ∨ m_is σ o) ∧ pl_is σ a s c Z ∧ (∀ i : Int, σ.1 43 i = 0 ∨ σ.1 43 i = 1)
def mk_wf (σ : k_St) : Prop := (1 ≤ σ.2.1 39 13 ∧ σ.2.1 39 13 ≤ 50) ∧ (0 ≤ σ.2.1 39 11 ∧ σ.2.1 39 11 ≤ 20) ∧ (σ.2.1 39 12 = 0 ∨ σ.2.1 39 12 = 1)
def m_pg (σ : k_St) (m : Int) : Int := f_page (σ.1 18 m) (σ.2.1 39 13)
theorem m_pg_in {σ : k_St} (hw : m_wf σ 16) {m : Int} (hm : m_is σ m) : 0 ≤ m_pg σ m ∧ m_pg σ m ≤ 299 := f_page_in (hw.2.2 m hm.1 hm.2.1).2.1
theorem s_mpage {G : j_G} {X : k_X} {n : Nat} {σ : k_St} (hn : 101 ≤ n) (hw : m_wf σ 16) (hk : mk_wf σ) {m : Int} (hm : m_is σ m) : k_run G X mX6_pageOf [.ref 39, j_i m] n σ 0 0 (k_is n σ (some (j_i (m_pg σ m)))) := by
  have h1 : 0 ≤ σ.1 18 m ∧ σ.1 18 m ≤ 300 := (hw.2.2 m hm.1 hm.2.1).2.1
  have h2 := hk.1
  exact s_pageOf hn ⟨hm.1, m_is_50 hw hm⟩ (by omega) (by omega)
theorem u_is_43 {σ : k_St} {f : Int → Int} {R : List (Int × Int)} (h : u_is σ R) : u_is (k_sA σ 43 f) R := by
  unfold u_is at h ⊢
  rw [k_AN (by omega), k_AN (by omega)]; exact h
theorem pl_is_congr {σ τ : k_St} {a : Nat} {s c : Int} {Z : List q_T} (h1 : ∀ d : Nat, 1 ≤ d → d ≤ 6 → τ.1 (a + d) = σ.1 (a + d)) (h2 : ∀ j, τ.2.1 a j = σ.2.1 a j) (h : pl_is σ a s c Z) : pl_is τ a s c Z := by
  unfold pl_is i_wf at h ⊢
  rw [h1 1 (by omega) (by omega), h1 2 (by omega) (by omega), h1 3 (by omega) (by omega), h1 4 (by omega) (by omega), h1 5 (by omega) (by omega), h1 6 (by omega) (by omega), h2, h2, h2, h2]; exact h
