/-- where a part that begins at a page goes -/
def p_sel (σ : k_St) (g p : Int) : Prop := (p = σ.2.1 24 4 ∧ ∀ q, 0 ≤ q → q < σ.2.1 24 4 → σ.1 25 q ≠ g) ∨ (0 ≤ p ∧ p < σ.2.1 24 4 ∧ σ.1 25 p = g)
def p_set (σ : k_St) (p g f x l : Int) : k_St := k_sI (k_sA (k_sA (k_sA (k_sA σ 25 (j_up (σ.1 25) p g)) 26 (j_up (σ.1 26) p f)) 27 (j_up (σ.1 27) p x)) 28 (j_up (σ.1 28) p l)) 24 4 (max (σ.2.1 24 4) (p + 1))
def p_beg (n : Nat) (σ : k_St) (g f x l : Int) : k_P := fun v n' σ' => n' = n ∧ ∃ p, p_sel σ g p ∧ ((8 ≤ p ∧ v = some (j_i 0) ∧ σ' = σ) ∨ (p < 8 ∧ v = some (j_i 1) ∧ σ' = p_set σ p g f x l))
/-- the signs of a page's label -/
def p_signs (σ : k_St) (p g : Int) : List Int := if p_form σ p = 0 then f_romK 0 (p_num σ p g) else (if p ≠ -9 ∧ p_form σ p = 2 then [σ.1 28 p, 45] else []) ++ f_dec (p_num σ p g)
theorem p_wf_congr {σ τ : k_St} (h1 : τ.1 25 = σ.1 25) (h2 : τ.1 26 = σ.1 26) (h3 : τ.1 27 = σ.1 27) (h4 : τ.1 28 = σ.1 28) (h5 : τ.2.1 24 4 = σ.2.1 24 4) (h : p_wf σ) : p_wf τ := by
  unfold p_wf; rw [h1, h2, h3, h4, h5]; exact h
theorem p_signs_len {σ : k_St} {p g : Int} (hw : p_wf σ) (hp : p_of σ g p) (hg : 0 ≤ g ∧ g ≤ 299) : (p_signs σ p g).length ≤ 14 := by
  have h1 := p_num_pos hw hp hg
  have h2 := p_num_in (g := g) hw (p_of_r hp) hg
  unfold p_signs
  split
  · have := f_rom_len (p_num σ p g).toNat (by omega)
    rw [show (((p_num σ p g).toNat : Nat) : Int) = p_num σ p g by omega] at this
    exact this
  · have := (f_dec_len (p_num σ p g)).2
    rw [List.length_append]
    split <;> simp <;> omega
set_option maxHeartbeats 4000000 in
theorem s_begin {G : j_G} {X : k_X} {n : Nat} {σ : k_St} (hn : 101 ≤ n) (hw : p_wf σ) {g : Int} (hg : 0 ≤ g ∧ g ≤ 299) {f x l : Int} : k_run G X mX8_begin [.ref 24, j_i g, j_i f, j_i x, j_i l] n σ 0 0 (p_beg n σ g f x l) := by
  obtain ⟨hc, hv⟩ := id hw
  refine k_enter (by decide +kernel) (Nat.le_of_ble_eq_true rfl) ?_
  show j_at _ _ _ [(0, .ref 24), (1, j_i g), (2, j_i f), (3, j_i x), (4, j_i l)] [] _ _ _ _
  refine a_aload_n (pc := 0) (i := 0) (by decide +kernel) rfl ?_
  refine a_iload_n (pc := 1) (i := 1) (by decide +kernel) rfl ?_
  refine b_callV (pc := 2) (c' := 0) (sl' := 0) [j_i g] [] ml_X8_34 (by decide +kernel) rfl rfl (sh_24 hn) rfl rfl (Nat.le_of_ble_eq_true rfl) (j_fitI rfl rfl) (s_partOf hn hw (by omega)) (fun v n' σ' hq => ?_)
  obtain ⟨p1, rfl, e1, e2, hp1⟩ := hq
  rw [e1, e2]; clear e1 e2
  have hp1q := hp1
  have hpp1 := p_of_r hp1
  show j_at _ _ _ [(0, .ref 24), (1, j_i g), (2, j_i f), (3, j_i x), (4, j_i l)] [j_i p1] _ _ _ _
  refine a_istore (pc := 5) (i := 5) (lv' := [(0, .ref 24), (1, j_i g), (2, j_i f), (3, j_i x), (4, j_i l), (5, j_i p1)]) (by decide +kernel) (Nat.le_of_ble_eq_true rfl) rfl ?_
  refine a_iload (pc := 7) (i := 5) (by decide +kernel) rfl ?_
  refine a_bipush (pc := 9) (n := (-9)) (by decide +kernel) rfl ?_
  refine a_icmp_eq (pc := 11) (off := 14) (tgt := 25) (by decide +kernel) (by decide) (by omega) (by omega) (fun c11 => ?_) (fun c11 => ?_)
  · have hno : ∀ q, 0 ≤ q → q < σ.2.1 24 4 → σ.1 25 q ≠ g := fun q q0 q1 q2 => by
      rcases hp1q with ⟨e1, e2⟩ | ⟨e1, e2, e3, e4⟩
      · have := e2 q q0 q1; omega
      · have := e4 q q0 q1 (by omega); omega
    refine a_aload_n (pc := 25) (i := 0) (by decide +kernel) rfl ?_
    refine b_getI (pc := 26) fl_X8_24 (by decide +kernel) (sh_24 hn) rfl ?_
    refine a_istore (pc := 29) (i := 5) (lv' := [(0, .ref 24), (1, j_i g), (2, j_i f), (3, j_i x), (4, j_i l), (5, j_i (σ.2.1 24 4))]) (by decide +kernel) (Nat.le_of_ble_eq_true rfl) rfl ?_
    refine a_iload (pc := 31) (i := 5) (by decide +kernel) rfl ?_
    refine a_bipush (pc := 33) (n := 8) (by decide +kernel) rfl ?_
    refine a_icmp_lt (pc := 35) (off := 5) (tgt := 40) (by decide +kernel) (by decide) (by omega) (by omega) (fun c35 => ?_) (fun c35 => ?_)
    · refine a_aload_n (pc := 40) (i := 0) (by decide +kernel) rfl ?_
      refine b_getR (pc := 41) (b := 25) fl_X8_9 (by decide +kernel) (sh_24 hn) rfl ?_
      refine a_iload (pc := 44) (i := 5) (by decide +kernel) rfl ?_
      refine a_iload_n (pc := 46) (i := 1) (by decide +kernel) rfl ?_
      refine b_iastore (pc := 47) (by decide +kernel) (sh_25 hn) (by omega) (by omega) (by omega) ?_
      obtain ⟨σ2, hσ2⟩ : ∃ z, z = k_sA σ 25 (j_up (σ.1 25) (σ.2.1 24 4) g) := ⟨_, rfl⟩
      rw [← hσ2]
      refine a_aload_n (pc := 48) (i := 0) (by decide +kernel) rfl ?_
      refine b_getR (pc := 49) (b := 26) fl_X8_15 (by decide +kernel) (sh_24 hn) rfl ?_
      refine a_iload (pc := 52) (i := 5) (by decide +kernel) rfl ?_
      refine a_iload_n (pc := 54) (i := 2) (by decide +kernel) rfl ?_
      refine b_iastore (pc := 55) (by decide +kernel) (sh_26 hn) (by omega) (by omega) (by omega) ?_
      obtain ⟨σ3, hσ3⟩ : ∃ z, z = k_sA σ2 26 (j_up (σ2.1 26) (σ.2.1 24 4) f) := ⟨_, rfl⟩
      rw [← hσ3]
      refine a_aload_n (pc := 56) (i := 0) (by decide +kernel) rfl ?_
      refine b_getR (pc := 57) (b := 27) fl_X8_18 (by decide +kernel) (sh_24 hn) rfl ?_
      refine a_iload (pc := 60) (i := 5) (by decide +kernel) rfl ?_
      refine a_iload_n (pc := 62) (i := 3) (by decide +kernel) rfl ?_
      refine b_iastore (pc := 63) (by decide +kernel) (sh_27 hn) (by omega) (by omega) (by omega) ?_
      obtain ⟨σ4, hσ4⟩ : ∃ z, z = k_sA σ3 27 (j_up (σ3.1 27) (σ.2.1 24 4) x) := ⟨_, rfl⟩
      rw [← hσ4]
      refine a_aload_n (pc := 64) (i := 0) (by decide +kernel) rfl ?_
      refine b_getR (pc := 65) (b := 28) fl_X8_21 (by decide +kernel) (sh_24 hn) rfl ?_
      refine a_iload (pc := 68) (i := 5) (by decide +kernel) rfl ?_
      refine a_iload (pc := 70) (i := 4) (by decide +kernel) rfl ?_
      refine b_iastore (pc := 72) (by decide +kernel) (sh_28 hn) (by omega) (by omega) (by omega) ?_
      obtain ⟨σ5, hσ5⟩ : ∃ z, z = k_sA σ4 28 (j_up (σ4.1 28) (σ.2.1 24 4) l) := ⟨_, rfl⟩
      rw [← hσ5]
      refine a_aload_n (pc := 73) (i := 0) (by decide +kernel) rfl ?_
      refine a_aload_n (pc := 74) (i := 0) (by decide +kernel) rfl ?_
      refine b_getI (pc := 75) fl_X8_24 (by decide +kernel) (sh_24 hn) rfl ?_
      rw [show σ5.2.1 24 4 = σ4.2.1 24 4 by rw [hσ5]; rfl]
      rw [show σ4.2.1 24 4 = σ3.2.1 24 4 by rw [hσ4]; rfl]
      rw [show σ3.2.1 24 4 = σ2.2.1 24 4 by rw [hσ3]; rfl]
      rw [show σ2.2.1 24 4 = σ.2.1 24 4 by rw [hσ2]; rfl]
      refine a_iload (pc := 78) (i := 5) (by decide +kernel) rfl ?_
      refine a_iconst (pc := 80) (n := 1) (by decide +kernel) ?_
      refine a_iadd (pc := 81) (by decide +kernel) ?_
      refine a_mmax (pc := 82) mm_X8_38 (by decide +kernel) (by omega) (by omega) (Nat.le_of_ble_eq_true rfl) (Nat.le_of_ble_eq_true rfl) ?_
      refine b_putI (pc := 85) fl_X8_24 (by decide +kernel) (sh_24 hn) rfl rfl rfl ?_
      obtain ⟨σ6, hσ6⟩ : ∃ z, z = k_sI σ5 24 4 (max (σ.2.1 24 4) ((σ.2.1 24 4) + 1)) := ⟨_, rfl⟩
      rw [← hσ6]
      refine a_iconst (pc := 88) (n := 1) (by decide +kernel) ?_
      refine a_zreturn (pc := 89) (by decide +kernel) rfl (by omega) ?_
      refine k_ret ?_
      refine ⟨rfl, _, (Or.inl ⟨rfl, hno⟩), Or.inr ⟨by omega, rfl, ?_⟩⟩
      subst hσ6; subst hσ5; subst hσ4; subst hσ3; subst hσ2; rfl
    · refine a_iconst (pc := 38) (n := 0) (by decide +kernel) ?_
      refine a_zreturn (pc := 39) (by decide +kernel) rfl (by omega) ?_
      refine k_ret ?_
      refine ⟨rfl, _, (Or.inl ⟨rfl, hno⟩), Or.inl ⟨by omega, rfl, rfl⟩⟩
  · refine a_aload_n (pc := 14) (i := 0) (by decide +kernel) rfl ?_
    refine b_getR (pc := 15) (b := 25) fl_X8_9 (by decide +kernel) (sh_24 hn) rfl ?_
    refine a_iload (pc := 18) (i := 5) (by decide +kernel) rfl ?_
    have hvp := hv p1 (by omega) (by omega)
    refine b_iaload (pc := 20) (by decide +kernel) (sh_25 hn) (by omega) (by omega) (by omega) ?_
    refine a_iload_n (pc := 21) (i := 1) (by decide +kernel) rfl ?_
    refine a_icmp_eq (pc := 22) (off := 9) (tgt := 31) (by decide +kernel) (by decide) (by omega) (by omega) (fun c22 => ?_) (fun c22 => ?_)
    · refine a_iload (pc := 31) (i := 5) (by decide +kernel) rfl ?_
      refine a_bipush (pc := 33) (n := 8) (by decide +kernel) rfl ?_
      refine a_icmp_lt (pc := 35) (off := 5) (tgt := 40) (by decide +kernel) (by decide) (by omega) (by omega) (fun c35 => ?_) (fun c35 => ?_)
      · refine a_aload_n (pc := 40) (i := 0) (by decide +kernel) rfl ?_
        refine b_getR (pc := 41) (b := 25) fl_X8_9 (by decide +kernel) (sh_24 hn) rfl ?_
        refine a_iload (pc := 44) (i := 5) (by decide +kernel) rfl ?_
        refine a_iload_n (pc := 46) (i := 1) (by decide +kernel) rfl ?_
        refine b_iastore (pc := 47) (by decide +kernel) (sh_25 hn) (by omega) (by omega) (by omega) ?_
        obtain ⟨σ7, hσ7⟩ : ∃ z, z = k_sA σ 25 (j_up (σ.1 25) p1 g) := ⟨_, rfl⟩
        rw [← hσ7]
        refine a_aload_n (pc := 48) (i := 0) (by decide +kernel) rfl ?_
        refine b_getR (pc := 49) (b := 26) fl_X8_15 (by decide +kernel) (sh_24 hn) rfl ?_
        refine a_iload (pc := 52) (i := 5) (by decide +kernel) rfl ?_
        refine a_iload_n (pc := 54) (i := 2) (by decide +kernel) rfl ?_
        refine b_iastore (pc := 55) (by decide +kernel) (sh_26 hn) (by omega) (by omega) (by omega) ?_
        obtain ⟨σ8, hσ8⟩ : ∃ z, z = k_sA σ7 26 (j_up (σ7.1 26) p1 f) := ⟨_, rfl⟩
        rw [← hσ8]
        refine a_aload_n (pc := 56) (i := 0) (by decide +kernel) rfl ?_
        refine b_getR (pc := 57) (b := 27) fl_X8_18 (by decide +kernel) (sh_24 hn) rfl ?_
        refine a_iload (pc := 60) (i := 5) (by decide +kernel) rfl ?_
        refine a_iload_n (pc := 62) (i := 3) (by decide +kernel) rfl ?_
        refine b_iastore (pc := 63) (by decide +kernel) (sh_27 hn) (by omega) (by omega) (by omega) ?_
        obtain ⟨σ9, hσ9⟩ : ∃ z, z = k_sA σ8 27 (j_up (σ8.1 27) p1 x) := ⟨_, rfl⟩
        rw [← hσ9]
        refine a_aload_n (pc := 64) (i := 0) (by decide +kernel) rfl ?_
        refine b_getR (pc := 65) (b := 28) fl_X8_21 (by decide +kernel) (sh_24 hn) rfl ?_
        refine a_iload (pc := 68) (i := 5) (by decide +kernel) rfl ?_
        refine a_iload (pc := 70) (i := 4) (by decide +kernel) rfl ?_
        refine b_iastore (pc := 72) (by decide +kernel) (sh_28 hn) (by omega) (by omega) (by omega) ?_
        obtain ⟨σ10, hσ10⟩ : ∃ z, z = k_sA σ9 28 (j_up (σ9.1 28) p1 l) := ⟨_, rfl⟩
        rw [← hσ10]
        refine a_aload_n (pc := 73) (i := 0) (by decide +kernel) rfl ?_
        refine a_aload_n (pc := 74) (i := 0) (by decide +kernel) rfl ?_
        refine b_getI (pc := 75) fl_X8_24 (by decide +kernel) (sh_24 hn) rfl ?_
        rw [show σ10.2.1 24 4 = σ9.2.1 24 4 by rw [hσ10]; rfl]
        rw [show σ9.2.1 24 4 = σ8.2.1 24 4 by rw [hσ9]; rfl]
        rw [show σ8.2.1 24 4 = σ7.2.1 24 4 by rw [hσ8]; rfl]
        rw [show σ7.2.1 24 4 = σ.2.1 24 4 by rw [hσ7]; rfl]
        refine a_iload (pc := 78) (i := 5) (by decide +kernel) rfl ?_
        refine a_iconst (pc := 80) (n := 1) (by decide +kernel) ?_
        refine a_iadd (pc := 81) (by decide +kernel) ?_
        refine a_mmax (pc := 82) mm_X8_38 (by decide +kernel) (by omega) (by omega) (Nat.le_of_ble_eq_true rfl) (Nat.le_of_ble_eq_true rfl) ?_
        refine b_putI (pc := 85) fl_X8_24 (by decide +kernel) (sh_24 hn) rfl rfl rfl ?_
        obtain ⟨σ11, hσ11⟩ : ∃ z, z = k_sI σ10 24 4 (max (σ.2.1 24 4) (p1 + 1)) := ⟨_, rfl⟩
        rw [← hσ11]
        refine a_iconst (pc := 88) (n := 1) (by decide +kernel) ?_
        refine a_zreturn (pc := 89) (by decide +kernel) rfl (by omega) ?_
        refine k_ret ?_
        refine ⟨rfl, _, (Or.inr ⟨by omega, by omega, c22⟩), Or.inr ⟨by omega, rfl, ?_⟩⟩
        subst hσ11; subst hσ10; subst hσ9; subst hσ8; subst hσ7; rfl
      · refine a_iconst (pc := 38) (n := 0) (by decide +kernel) ?_
        refine a_zreturn (pc := 39) (by decide +kernel) rfl (by omega) ?_
        refine k_ret ?_
        refine ⟨rfl, _, (Or.inr ⟨by omega, by omega, c22⟩), Or.inl ⟨by omega, rfl, rfl⟩⟩
    · have hno : ∀ q, 0 ≤ q → q < σ.2.1 24 4 → σ.1 25 q ≠ g := fun q q0 q1 q2 => by
        rcases hp1q with ⟨e1, e2⟩ | ⟨e1, e2, e3, e4⟩
        · have := e2 q q0 q1; omega
        · have := e4 q q0 q1 (by omega); omega
      refine a_aload_n (pc := 25) (i := 0) (by decide +kernel) rfl ?_
      refine b_getI (pc := 26) fl_X8_24 (by decide +kernel) (sh_24 hn) rfl ?_
      refine a_istore (pc := 29) (i := 5) (lv' := [(0, .ref 24), (1, j_i g), (2, j_i f), (3, j_i x), (4, j_i l), (5, j_i (σ.2.1 24 4))]) (by decide +kernel) (Nat.le_of_ble_eq_true rfl) rfl ?_
      refine a_iload (pc := 31) (i := 5) (by decide +kernel) rfl ?_
      refine a_bipush (pc := 33) (n := 8) (by decide +kernel) rfl ?_
      refine a_icmp_lt (pc := 35) (off := 5) (tgt := 40) (by decide +kernel) (by decide) (by omega) (by omega) (fun c35 => ?_) (fun c35 => ?_)
      · refine a_aload_n (pc := 40) (i := 0) (by decide +kernel) rfl ?_
        refine b_getR (pc := 41) (b := 25) fl_X8_9 (by decide +kernel) (sh_24 hn) rfl ?_
        refine a_iload (pc := 44) (i := 5) (by decide +kernel) rfl ?_
        refine a_iload_n (pc := 46) (i := 1) (by decide +kernel) rfl ?_
        refine b_iastore (pc := 47) (by decide +kernel) (sh_25 hn) (by omega) (by omega) (by omega) ?_
        obtain ⟨σ12, hσ12⟩ : ∃ z, z = k_sA σ 25 (j_up (σ.1 25) (σ.2.1 24 4) g) := ⟨_, rfl⟩
        rw [← hσ12]
        refine a_aload_n (pc := 48) (i := 0) (by decide +kernel) rfl ?_
        refine b_getR (pc := 49) (b := 26) fl_X8_15 (by decide +kernel) (sh_24 hn) rfl ?_
        refine a_iload (pc := 52) (i := 5) (by decide +kernel) rfl ?_
        refine a_iload_n (pc := 54) (i := 2) (by decide +kernel) rfl ?_
        refine b_iastore (pc := 55) (by decide +kernel) (sh_26 hn) (by omega) (by omega) (by omega) ?_
        obtain ⟨σ13, hσ13⟩ : ∃ z, z = k_sA σ12 26 (j_up (σ12.1 26) (σ.2.1 24 4) f) := ⟨_, rfl⟩
        rw [← hσ13]
        refine a_aload_n (pc := 56) (i := 0) (by decide +kernel) rfl ?_
        refine b_getR (pc := 57) (b := 27) fl_X8_18 (by decide +kernel) (sh_24 hn) rfl ?_
        refine a_iload (pc := 60) (i := 5) (by decide +kernel) rfl ?_
        refine a_iload_n (pc := 62) (i := 3) (by decide +kernel) rfl ?_
        refine b_iastore (pc := 63) (by decide +kernel) (sh_27 hn) (by omega) (by omega) (by omega) ?_
        obtain ⟨σ14, hσ14⟩ : ∃ z, z = k_sA σ13 27 (j_up (σ13.1 27) (σ.2.1 24 4) x) := ⟨_, rfl⟩
        rw [← hσ14]
        refine a_aload_n (pc := 64) (i := 0) (by decide +kernel) rfl ?_
        refine b_getR (pc := 65) (b := 28) fl_X8_21 (by decide +kernel) (sh_24 hn) rfl ?_
        refine a_iload (pc := 68) (i := 5) (by decide +kernel) rfl ?_
        refine a_iload (pc := 70) (i := 4) (by decide +kernel) rfl ?_
        refine b_iastore (pc := 72) (by decide +kernel) (sh_28 hn) (by omega) (by omega) (by omega) ?_
        obtain ⟨σ15, hσ15⟩ : ∃ z, z = k_sA σ14 28 (j_up (σ14.1 28) (σ.2.1 24 4) l) := ⟨_, rfl⟩
        rw [← hσ15]
        refine a_aload_n (pc := 73) (i := 0) (by decide +kernel) rfl ?_
        refine a_aload_n (pc := 74) (i := 0) (by decide +kernel) rfl ?_
        refine b_getI (pc := 75) fl_X8_24 (by decide +kernel) (sh_24 hn) rfl ?_
        rw [show σ15.2.1 24 4 = σ14.2.1 24 4 by rw [hσ15]; rfl]
        rw [show σ14.2.1 24 4 = σ13.2.1 24 4 by rw [hσ14]; rfl]
        rw [show σ13.2.1 24 4 = σ12.2.1 24 4 by rw [hσ13]; rfl]
        rw [show σ12.2.1 24 4 = σ.2.1 24 4 by rw [hσ12]; rfl]
        refine a_iload (pc := 78) (i := 5) (by decide +kernel) rfl ?_
        refine a_iconst (pc := 80) (n := 1) (by decide +kernel) ?_
        refine a_iadd (pc := 81) (by decide +kernel) ?_
        refine a_mmax (pc := 82) mm_X8_38 (by decide +kernel) (by omega) (by omega) (Nat.le_of_ble_eq_true rfl) (Nat.le_of_ble_eq_true rfl) ?_
        refine b_putI (pc := 85) fl_X8_24 (by decide +kernel) (sh_24 hn) rfl rfl rfl ?_
        obtain ⟨σ16, hσ16⟩ : ∃ z, z = k_sI σ15 24 4 (max (σ.2.1 24 4) ((σ.2.1 24 4) + 1)) := ⟨_, rfl⟩
        rw [← hσ16]
        refine a_iconst (pc := 88) (n := 1) (by decide +kernel) ?_
        refine a_zreturn (pc := 89) (by decide +kernel) rfl (by omega) ?_
        refine k_ret ?_
        refine ⟨rfl, _, (Or.inl ⟨rfl, hno⟩), Or.inr ⟨by omega, rfl, ?_⟩⟩
        subst hσ16; subst hσ15; subst hσ14; subst hσ13; subst hσ12; rfl
      · refine a_iconst (pc := 38) (n := 0) (by decide +kernel) ?_
        refine a_zreturn (pc := 39) (by decide +kernel) rfl (by omega) ?_
        refine k_ret ?_
        refine ⟨rfl, _, (Or.inl ⟨rfl, hno⟩), Or.inl ⟨by omega, rfl, rfl⟩⟩
def p_wr (n : Nat) (σ : k_St) (g : Int) : k_P := fun v n' σ' => ∃ p, p_of σ g p ∧ v = some (j_i ((p_signs σ p g).length : Int)) ∧ n' = n ∧ σ' = e_puts 29 24 6 (k_sI σ 24 6 0) (p_signs σ p g)
set_option maxHeartbeats 4000000 in
theorem s_write {G : j_G} {X : k_X} {n : Nat} {σ : k_St} (hn : 101 ≤ n) (hw : p_wf σ) {g : Int} (hg : 0 ≤ g ∧ g ≤ 299)  : k_run G X mX8_write [.ref 24, j_i g] n σ 0 0 (p_wr n σ g) := by
  obtain ⟨hc, hv⟩ := id hw
  refine k_enter (by decide +kernel) (Nat.le_of_ble_eq_true rfl) ?_
  show j_at _ _ _ [(0, .ref 24), (1, j_i g)] [] _ _ _ _
  refine a_aload_n (pc := 0) (i := 0) (by decide +kernel) rfl ?_
  refine a_iload_n (pc := 1) (i := 1) (by decide +kernel) rfl ?_
  refine b_callV (pc := 2) (c' := 0) (sl' := 0) [j_i g] [] ml_X8_34 (by decide +kernel) rfl rfl (sh_24 hn) rfl rfl (Nat.le_of_ble_eq_true rfl) (j_fitI rfl rfl) (s_partOf hn hw (by omega)) (fun v n' σ' hq => ?_)
  obtain ⟨p1, rfl, e1, e2, hp1⟩ := hq
  rw [e1, e2]; clear e1 e2
  have hp1q := hp1
  have hpp1 := p_of_r hp1
  show j_at _ _ _ [(0, .ref 24), (1, j_i g)] [j_i p1] _ _ _ _
  refine a_istore_n (pc := 5) (i := 2) (lv' := [(0, .ref 24), (1, j_i g), (2, j_i p1)]) (by decide +kernel) (Nat.le_of_ble_eq_true rfl) rfl ?_
  refine a_aload_n (pc := 6) (i := 0) (by decide +kernel) rfl ?_
  refine a_iload_n (pc := 7) (i := 2) (by decide +kernel) rfl ?_
  refine a_iload_n (pc := 8) (i := 1) (by decide +kernel) rfl ?_
  refine b_pureV (pc := 9) [j_i p1, j_i g] [] ml_X8_47 (by decide +kernel) rfl rfl (sh_24 hn) rfl rfl (Nat.le_of_ble_eq_true rfl) (j_fitI rfl rfl) (s_numberOf hn hw hpp1) ?_
  have qn := p_num_in (g := g) hw hpp1 (by omega)
  have qn1 := p_num_pos hw hp1q hg
  show j_at _ _ _ [(0, .ref 24), (1, j_i g), (2, j_i p1)] [j_i (p_num σ p1 g)] _ _ _ _
  refine a_istore_n (pc := 12) (i := 3) (lv' := [(0, .ref 24), (1, j_i g), (2, j_i p1), (3, j_i (p_num σ p1 g))]) (by decide +kernel) (Nat.le_of_ble_eq_true rfl) rfl ?_
  refine a_aload_n (pc := 13) (i := 0) (by decide +kernel) rfl ?_
  refine a_iconst (pc := 14) (n := 0) (by decide +kernel) ?_
  refine b_putI (pc := 15) fl_X8_31 (by decide +kernel) (sh_24 hn) rfl rfl rfl ?_
  obtain ⟨σ2, hσ2⟩ : ∃ z, z = k_sI σ 24 6 0 := ⟨_, rfl⟩
  rw [← hσ2]
  have hw1 : p_wf σ2 := by rw [hσ2]; exact p_wf_congr (σ := σ) rfl rfl rfl rfl (k_IN (by omega)) hw
  have hpp1w : p1 = -9 ∨ 0 ≤ p1 ∧ p1 < σ2.2.1 24 4 := by rw [hσ2, k_IN (by omega)]; exact hpp1
  have ef : p_form σ2 p1 = p_form σ p1 := by rw [hσ2]; rfl
  have k1 : σ2.2.1 24 6 = 0 := by rw [hσ2]; exact k_II
  have kσ1 := k1
  refine a_aload_n (pc := 18) (i := 0) (by decide +kernel) rfl ?_
  refine a_iload_n (pc := 19) (i := 2) (by decide +kernel) rfl ?_
  refine b_pureV (pc := 20) [j_i p1] [] ml_X8_44 (by decide +kernel) rfl rfl (sh_24 hn) rfl rfl (Nat.le_of_ble_eq_true rfl) (j_fitI rfl rfl) (by have q := s_formOf (G := G) (X := X) hn hw1 hpp1w; rw [ef] at q; exact q) ?_
  have qf := p_form_in hw hpp1
  show j_at _ _ _ [(0, .ref 24), (1, j_i g), (2, j_i p1), (3, j_i (p_num σ p1 g))] [j_i (p_form σ p1)] _ _ _ _
  refine a_if_ne (pc := 23) (off := 13) (tgt := 36) (by decide +kernel) (by decide) (by omega) (fun c23 => ?_) (fun c23 => ?_)
  · refine a_iload_n (pc := 36) (i := 2) (by decide +kernel) rfl ?_
    refine a_bipush (pc := 37) (n := (-9)) (by decide +kernel) rfl ?_
    refine a_icmp_eq (pc := 39) (off := 28) (tgt := 67) (by decide +kernel) (by decide) (by omega) (by omega) (fun c39 => ?_) (fun c39 => ?_)
    · refine a_aload_n (pc := 67) (i := 0) (by decide +kernel) rfl ?_
      refine a_iload_n (pc := 68) (i := 3) (by decide +kernel) rfl ?_
      refine b_callV (pc := 69) (c' := 0) (sl' := 0) [j_i (p_num σ p1 g)] [] ml_X8_57 (by decide +kernel) rfl rfl (sh_24 hn) rfl rfl (Nat.le_of_ble_eq_true rfl) (j_fitI rfl rfl) (s_writeWhole hn (by omega) (by omega)) (fun v n' σ' hq => ?_)
      obtain ⟨rfl, e1, e2⟩ := hq
      rw [e1, e2]; clear e1 e2
      obtain ⟨σ3, hσ3⟩ : ∃ z, z = e_puts 29 24 6 σ2 (f_dec (p_num σ p1 g)) := ⟨_, rfl⟩
      rw [← hσ3]
      show j_at _ _ _ [(0, .ref 24), (1, j_i g), (2, j_i p1), (3, j_i (p_num σ p1 g))] [] _ _ _ _
      refine a_aload_n (pc := 72) (i := 0) (by decide +kernel) rfl ?_
      refine b_getI (pc := 73) fl_X8_31 (by decide +kernel) (sh_24 hn) rfl ?_
      refine a_ireturn (pc := 76) (by decide +kernel) rfl ?_
      refine k_ret ?_
      have es : p_signs σ p1 g = [] ++ f_dec (p_num σ p1 g) := by unfold p_signs; rw [if_neg c23, if_neg (by omega)]
      have et : σ3 = e_puts 29 24 6 (k_sI σ 24 6 0) (p_signs σ p1 g) := by rw [es, hσ3, hσ2] <;> rfl
      exact ⟨p1, hp1q, by rw [et, e_puts_n, k_II, Int.zero_add], rfl, et⟩
    · refine a_aload_n (pc := 42) (i := 0) (by decide +kernel) rfl ?_
      refine a_iload_n (pc := 43) (i := 2) (by decide +kernel) rfl ?_
      refine b_pureV (pc := 44) [j_i p1] [] ml_X8_44 (by decide +kernel) rfl rfl (sh_24 hn) rfl rfl (Nat.le_of_ble_eq_true rfl) (j_fitI rfl rfl) (by have q := s_formOf (G := G) (X := X) hn hw1 hpp1w; rw [ef] at q; exact q) ?_
      have qf := p_form_in hw hpp1
      show j_at _ _ _ [(0, .ref 24), (1, j_i g), (2, j_i p1), (3, j_i (p_num σ p1 g))] [j_i (p_form σ p1)] _ _ _ _
      refine a_iconst (pc := 47) (n := 2) (by decide +kernel) ?_
      refine a_icmp_ne (pc := 48) (off := 19) (tgt := 67) (by decide +kernel) (by decide) (by omega) (by omega) (fun c48 => ?_) (fun c48 => ?_)
      · refine a_aload_n (pc := 67) (i := 0) (by decide +kernel) rfl ?_
        refine a_iload_n (pc := 68) (i := 3) (by decide +kernel) rfl ?_
        refine b_callV (pc := 69) (c' := 0) (sl' := 0) [j_i (p_num σ p1 g)] [] ml_X8_57 (by decide +kernel) rfl rfl (sh_24 hn) rfl rfl (Nat.le_of_ble_eq_true rfl) (j_fitI rfl rfl) (s_writeWhole hn (by omega) (by omega)) (fun v n' σ' hq => ?_)
        obtain ⟨rfl, e1, e2⟩ := hq
        rw [e1, e2]; clear e1 e2
        obtain ⟨σ4, hσ4⟩ : ∃ z, z = e_puts 29 24 6 σ2 (f_dec (p_num σ p1 g)) := ⟨_, rfl⟩
        rw [← hσ4]
        show j_at _ _ _ [(0, .ref 24), (1, j_i g), (2, j_i p1), (3, j_i (p_num σ p1 g))] [] _ _ _ _
        refine a_aload_n (pc := 72) (i := 0) (by decide +kernel) rfl ?_
        refine b_getI (pc := 73) fl_X8_31 (by decide +kernel) (sh_24 hn) rfl ?_
        refine a_ireturn (pc := 76) (by decide +kernel) rfl ?_
        refine k_ret ?_
        have es : p_signs σ p1 g = [] ++ f_dec (p_num σ p1 g) := by unfold p_signs; rw [if_neg c23, if_neg (by omega)]
        have et : σ4 = e_puts 29 24 6 (k_sI σ 24 6 0) (p_signs σ p1 g) := by rw [es, hσ4, hσ2] <;> rfl
        exact ⟨p1, hp1q, by rw [et, e_puts_n, k_II, Int.zero_add], rfl, et⟩
      · refine a_aload_n (pc := 51) (i := 0) (by decide +kernel) rfl ?_
        refine a_aload_n (pc := 52) (i := 0) (by decide +kernel) rfl ?_
        refine b_getR (pc := 53) (b := 28) fl_X8_21 (by decide +kernel) (sh_24 hn) rfl ?_
        refine a_iload_n (pc := 56) (i := 2) (by decide +kernel) rfl ?_
        have hvp := hv p1 (by omega) (by omega)
        refine b_iaload (pc := 57) (by decide +kernel) (sh_28 hn) (by omega) (by omega) (by omega) ?_
        rw [show σ2.1 28 = σ.1 28 by rw [hσ2]; rfl]
        refine b_callV (pc := 58) (c' := 0) (sl' := 0) [j_i (σ.1 28 p1)] [] ml_X8_54 (by decide +kernel) rfl rfl (sh_24 hn) rfl rfl (Nat.le_of_ble_eq_true rfl) (j_fitI rfl rfl) (s_pappend hn (by omega)) (fun v n' σ' hq => ?_)
        obtain ⟨rfl, e1, e2⟩ := hq
        rw [e1, e2]; clear e1 e2
        obtain ⟨σ5, hσ5⟩ : ∃ z, z = e_app 29 24 6 σ2 (σ.1 28 p1) := ⟨_, rfl⟩
        rw [← hσ5]
        have kσ5 : σ5.2.1 24 6 = σ2.2.1 24 6 + 1 := by rw [hσ5]; exact e_app_n
        show j_at _ _ _ [(0, .ref 24), (1, j_i g), (2, j_i p1), (3, j_i (p_num σ p1 g))] [] _ _ _ _
        refine a_aload_n (pc := 61) (i := 0) (by decide +kernel) rfl ?_
        refine a_bipush (pc := 62) (n := 45) (by decide +kernel) rfl ?_
        refine b_callV (pc := 64) (c' := 0) (sl' := 0) [j_i 45] [] ml_X8_54 (by decide +kernel) rfl rfl (sh_24 hn) rfl rfl (Nat.le_of_ble_eq_true rfl) (j_fitI rfl rfl) (s_pappend hn (by omega)) (fun v n' σ' hq => ?_)
        obtain ⟨rfl, e1, e2⟩ := hq
        rw [e1, e2]; clear e1 e2
        obtain ⟨σ6, hσ6⟩ : ∃ z, z = e_app 29 24 6 σ5 45 := ⟨_, rfl⟩
        rw [← hσ6]
        have kσ6 : σ6.2.1 24 6 = σ5.2.1 24 6 + 1 := by rw [hσ6]; exact e_app_n
        show j_at _ _ _ [(0, .ref 24), (1, j_i g), (2, j_i p1), (3, j_i (p_num σ p1 g))] [] _ _ _ _
        refine a_aload_n (pc := 67) (i := 0) (by decide +kernel) rfl ?_
        refine a_iload_n (pc := 68) (i := 3) (by decide +kernel) rfl ?_
        refine b_callV (pc := 69) (c' := 0) (sl' := 0) [j_i (p_num σ p1 g)] [] ml_X8_57 (by decide +kernel) rfl rfl (sh_24 hn) rfl rfl (Nat.le_of_ble_eq_true rfl) (j_fitI rfl rfl) (s_writeWhole hn (by omega) (by omega)) (fun v n' σ' hq => ?_)
        obtain ⟨rfl, e1, e2⟩ := hq
        rw [e1, e2]; clear e1 e2
        obtain ⟨σ7, hσ7⟩ : ∃ z, z = e_puts 29 24 6 σ6 (f_dec (p_num σ p1 g)) := ⟨_, rfl⟩
        rw [← hσ7]
        show j_at _ _ _ [(0, .ref 24), (1, j_i g), (2, j_i p1), (3, j_i (p_num σ p1 g))] [] _ _ _ _
        refine a_aload_n (pc := 72) (i := 0) (by decide +kernel) rfl ?_
        refine b_getI (pc := 73) fl_X8_31 (by decide +kernel) (sh_24 hn) rfl ?_
        refine a_ireturn (pc := 76) (by decide +kernel) rfl ?_
        refine k_ret ?_
        have es : p_signs σ p1 g = [σ.1 28 p1, 45] ++ f_dec (p_num σ p1 g) := by unfold p_signs; rw [if_neg c23, if_pos ⟨by omega, by omega⟩]
        have et : σ7 = e_puts 29 24 6 (k_sI σ 24 6 0) (p_signs σ p1 g) := by rw [es, hσ7, hσ6, hσ5, hσ2] <;> rfl
        exact ⟨p1, hp1q, by rw [et, e_puts_n, k_II, Int.zero_add], rfl, et⟩
  · refine a_aload_n (pc := 26) (i := 0) (by decide +kernel) rfl ?_
    refine a_iload_n (pc := 27) (i := 3) (by decide +kernel) rfl ?_
    refine b_callV (pc := 28) (c' := 0) (sl' := 0) [j_i (p_num σ p1 g)] [] ml_X8_50 (by decide +kernel) rfl rfl (sh_24 hn) rfl rfl (Nat.le_of_ble_eq_true rfl) (j_fitI rfl rfl) (s_writeRoman hn (by omega) ⟨by omega, by have := p_signs_len hw hp1q hg; unfold p_signs at this; rw [if_pos c23] at this; omega⟩) (fun v n' σ' hq => ?_)
    obtain ⟨rfl, e1, e2⟩ := hq
    rw [e1, e2]; clear e1 e2
    obtain ⟨σ8, hσ8⟩ : ∃ z, z = e_puts 29 24 6 σ2 (f_romK 0 (p_num σ p1 g)) := ⟨_, rfl⟩
    rw [← hσ8]
    show j_at _ _ _ [(0, .ref 24), (1, j_i g), (2, j_i p1), (3, j_i (p_num σ p1 g))] [] _ _ _ _
    refine a_aload_n (pc := 31) (i := 0) (by decide +kernel) rfl ?_
    refine b_getI (pc := 32) fl_X8_31 (by decide +kernel) (sh_24 hn) rfl ?_
    refine a_ireturn (pc := 35) (by decide +kernel) rfl ?_
    refine k_ret ?_
    have es : p_signs σ p1 g = f_romK 0 (p_num σ p1 g) := by unfold p_signs; rw [if_pos c23]
    have et : σ8 = e_puts 29 24 6 (k_sI σ 24 6 0) (p_signs σ p1 g) := by rw [es, hσ8, hσ2] <;> rfl
    exact ⟨p1, hp1q, by rw [et, e_puts_n, k_II, Int.zero_add], rfl, et⟩
set_option maxHeartbeats 4000000 in
theorem s_isForm {G : j_G} {X : k_X} {n : Nat} {σ : k_St} {f : Int} (hf : -2147483648 ≤ f ∧ f ≤ 2147483647) : k_run G X mX8_isForm [j_i f] n σ 0 0 (k_b n σ (0 ≤ f ∧ f ≤ 2)) := by
  refine k_enter (by decide +kernel) (Nat.le_of_ble_eq_true rfl) ?_
  show j_at _ _ _ [(0, j_i f)] [] _ _ _ _
  refine a_iload_n (pc := 0) (i := 0) (by decide +kernel) rfl ?_
  refine a_if_lt (pc := 1) (off := 12) (tgt := 13) (by decide +kernel) (by decide) (by omega) (fun c1 => ?_) (fun c1 => ?_)
  · refine a_iconst (pc := 13) (n := 0) (by decide +kernel) ?_
    refine a_zreturn (pc := 14) (by decide +kernel) rfl (by omega) ?_
    refine k_ret ?_
    exact k_bn (by omega)
  · refine a_iload_n (pc := 4) (i := 0) (by decide +kernel) rfl ?_
    refine a_iconst (pc := 5) (n := 2) (by decide +kernel) ?_
    refine a_icmp_gt (pc := 6) (off := 7) (tgt := 13) (by decide +kernel) (by decide) (by omega) (by omega) (fun c6 => ?_) (fun c6 => ?_)
    · refine a_iconst (pc := 13) (n := 0) (by decide +kernel) ?_
      refine a_zreturn (pc := 14) (by decide +kernel) rfl (by omega) ?_
      refine k_ret ?_
      exact k_bn (by omega)
    · refine a_iconst (pc := 9) (n := 1) (by decide +kernel) ?_
      refine a_goto (pc := 10) (off := 4) (tgt := 14) (by decide +kernel) (by decide) ?_
      refine a_zreturn (pc := 14) (by decide +kernel) rfl (by omega) ?_
      refine k_ret ?_
      exact k_by (by omega)
