/-- the heap's contents when all is new -/
def s_0 : k_St := (fun _ _ => 0, fun a j => if a = 5 then (if j = 10 then 10 else if j = 13 then 3 else 0) else if a = 39 then (if j = 10 then -9 else if j = 13 then 1 else 0) else if a = 68 then (if j = 11 then 10 else if j = 52 then 3 else 0) else 0, fun a j => if a = 5 then (if j = 8 then some 48 else if j = 9 then some 58 else none) else none)
theorem s_0z {c j : Nat} (h1 : c ≠ 5) (h2 : c ≠ 39) (h3 : c ≠ 68) : s_0.2.1 c j = 0 := by
  show (if c = 5 then _ else if c = 39 then _ else if c = 68 then _ else (0 : Int)) = 0
  rw [if_neg h1, if_neg h2, if_neg h3]
theorem s_0a {c : Nat} {i : Int} : s_0.1 c i = 0 := rfl
theorem s_0iw {a : Nat} (ha : a = 48 ∨ a = 58) : i_wf s_0 a := by
  unfold i_wf
  rw [s_0z (by omega) (by omega) (by omega), s_0z (by omega) (by omega) (by omega), s_0z (by omega) (by omega) (by omega), s_0z (by omega) (by omega) (by omega)]
  refine ⟨by omega, by omega, by omega, by omega, fun e => ?_⟩
  rw [s_0a, s_0a, s_0a, s_0a, s_0a, s_0a]; omega
theorem s_0rw {a R : Nat} : r_wf s_0 a R := ⟨fun r _ _ => by rw [s_0a]; omega, fun i => by rw [s_0a]; omega⟩
theorem RR_0 : RR 101 s_0 := by
  have z : ∀ c j, c ≠ 5 → c ≠ 39 → c ≠ 68 → s_0.2.1 c j = 0 := fun c j h1 h2 h3 => s_0z h1 h2 h3
  have zm : ∀ j, j ≠ 11 → j ≠ 52 → s_0.2.1 68 j = 0 := fun j h1 h2 => by
    show (if j = 11 then (10 : Int) else if j = 52 then 3 else 0) = 0
    rw [if_neg h1, if_neg h2]
  refine ⟨⟨?_, ?_, ?_, fun i => by rw [s_0a]; omega⟩, ?_, ?_, ?_, ?_, ?_, ?_⟩
  · refine ⟨by rw [z 6 1 (by omega) (by omega) (by omega)]; omega, ⟨by rw [z _ 3 (by omega) (by omega) (by omega)]; omega, s_0rw, s_0rw, fun i => Or.inl rfl⟩, by rw [z _ 5 (by omega) (by omega) (by omega)]; omega, fun i => Or.inl rfl, fun m m0 m1 => by rw [z _ 5 (by omega) (by omega) (by omega)] at m1; omega⟩
  · refine ⟨⟨by rw [z 6 1 (by omega) (by omega) (by omega)]; rfl, fun k k0 k1 => by rw [s_0a] at k1; omega⟩, ⟨by rw [z _ 3 (by omega) (by omega) (by omega)]; rfl, fun k k0 k1 => by rw [s_0a] at k1; omega⟩, by rw [z _ 5 (by omega) (by omega) (by omega)]; rfl, fun k k0 k1 => by rw [s_0a] at k1; omega⟩
  · refine ⟨fun x y hx => ?_, fun m hm => ?_, fun h h0 h1 => ?_, fun m m0 m1 => ?_⟩
    · have := hx.2.1; rw [z _ 3 (by omega) (by omega) (by omega)] at this; have := hx.1; omega
    · have := hm.2.1; rw [z _ 5 (by omega) (by omega) (by omega)] at this; have := hm.1; omega
    · rw [z _ 3 (by omega) (by omega) (by omega)] at h1; omega
    · rw [z _ 5 (by omega) (by omega) (by omega)] at m1; omega
  · refine ⟨0, by omega, rfl, fun i hi => by omega, fun i _ => rfl, ?_, ?_, ?_, ?_, ?_, ?_, fun s hs => by omega, fun i => by rw [s_0a]; omega, fun s _ ⟨j, j0, j1, _⟩ => ?_⟩
    · rw [z _ _ (by omega) (by omega) (by omega)]; omega
    · rw [z _ _ (by omega) (by omega) (by omega)]; omega
    · intro _; rw [z _ 2 (by omega) (by omega) (by omega), z _ 1 (by omega) (by omega) (by omega)]; omega
    · rw [z 22 2 (by omega) (by omega) (by omega), zm 5 (by omega) (by omega)]
    · rw [zm _ (by omega) (by omega)]; omega
    · rw [zm _ (by omega) (by omega), zm _ (by omega) (by omega), z _ _ (by omega) (by omega) (by omega)]; omega
    · rw [z _ _ (by omega) (by omega) (by omega)] at j1; omega
  · unfold RName NMp
    rw [zm _ (by omega) (by omega)]
    exact ⟨by omega, rfl, fun i => by rw [s_0a]; omega, fun i i0 i1 => by omega⟩
  · unfold RPass PSp
    rw [zm _ (by omega) (by omega), z _ _ (by omega) (by omega) (by omega)]
    exact ⟨by omega, rfl, fun i => by rw [s_0a]; omega, fun r _ _ => by rw [s_0a]; omega, fun p p0 p1 => by omega⟩
  · unfold RPart PTp
    rw [zm _ (by omega) (by omega), z _ _ (by omega) (by omega) (by omega)]
    exact ⟨by omega, rfl, fun p q p0 p1 p2 => by omega, fun p q p0 p1 => by omega, fun p p0 p1 => by omega, fun q q0 q1 => by omega⟩
  · refine ⟨⟨by decide, by decide⟩, rfl, rfl, rfl, ⟨by decide, by decide⟩, rfl, rfl⟩
  · refine ⟨48, 58, Or.inl ⟨rfl, rfl⟩, rfl, rfl, s_0iw (Or.inl rfl), s_0iw (Or.inr rfl), s_0rw, s_0rw, fun i => by rw [s_0a, s_0a]; omega, fun i => Or.inl rfl, ?_, ?_⟩
    · unfold IR
      rw [z 48 0 (by omega) (by omega) (by omega), z 48 5 (by omega) (by omega) (by omega), z 48 7 (by omega) (by omega) (by omega), z 48 9 (by omega) (by omega) (by omega), zm _ (by omega) (by omega), zm _ (by omega) (by omega), zm _ (by omega) (by omega), zm _ (by omega) (by omega)]
      exact ⟨rfl, fun e e0 e1 => by omega, fun e k e0 e1 => by omega, rfl, fun j j0 j1 => by omega, rfl, fun j j0 j1 => by omega, rfl, fun j j0 j1 => by omega⟩
    · refine ⟨0, 0, ?_, ?_, by rw [zm _ (by omega) (by omega)]; rfl⟩
      · rw [z 48 0 (by omega) (by omega) (by omega)]; rfl
      · rw [z 58 0 (by omega) (by omega) (by omega)]; rfl
theorem c_ext_0 {X : k_X} {n : Nat} {σ : k_St} : c_ext (k_h X n σ) [] = k_h X n σ := by
  unfold c_ext k_h
  congr 1
  funext b
  show (if b < n then (if b < n then _ else none) else ([] : List j_C)[b - n]?) = (if b < n then _ else none)
  split <;> simp
