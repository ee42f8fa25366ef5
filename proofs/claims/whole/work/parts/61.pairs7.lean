def to_P (σ : k_St) (w r : Int) : Prop := (w = 0 ∧ r = σ.2.1 6 1) ∨ (w = 1 ∧ r = f_page (σ.2.1 6 1) (σ.2.1 5 10) + 1) ∨ (w = 2 ∧ r = σ.2.1 24 4) ∨ (w = 3 ∧ r = f_zeros (σ.1 15) (σ.2.1 8 3).toNat) ∨ (w = 4 ∧ r = f_zeros (σ.1 21) (σ.2.1 16 5).toNat) ∨ (w = 5 ∧ r = σ.2.1 (ix σ) 0) ∨ (w = 6 ∧ r = σ.1 32 0) ∨ (w = 7 ∧ r = σ.2.1 33 1) ∨ (w = 8 ∧ r = σ.2.1 22 2) ∨ (w < 0 ∧ r = -2) ∨ (8 < w ∧ r = -2)
set_option maxHeartbeats 4000000 in
theorem c_told {G : j_G} {X : k_X} {n : Nat} {σ : k_St} (hR : RR n σ) {w : Int} (hw : -2147483648 ≤ w ∧ w ≤ 2147483647)  : k_run G X mX11_told [.ref 5, j_i w] n σ 0 0 (fun v n' σ' => ∃ r : Int, v = some (j_i r) ∧ n' = n ∧ σ' = σ ∧ to_P σ w r) := by
  obtain ⟨hK, hAc, hNm, hPs, hPt, hSm, hIx⟩ := id hR
  have hn := RR_n hR
  have hk := hK.1
  have hwh : h_wf σ 8 := hk.2.1
  have hwm : m_wf σ 16 := hk.2.2
  have hW : 0 ≤ σ.2.1 6 1 ∧ σ.2.1 6 1 ≤ 300 := hk.1
  have hfl := hSm.1
  obtain ⟨ia, ib, hab, hia, hib, wia, wib, ria, rib, hrg, h01, hIR, hchg⟩ := id hIx
  have hA : i_at X n ia := by rcases hab with q | q; rw [q.1]; exact iA_48 hn; rw [q.1]; exact iA_58 hn
  have hix : ix σ = ia := by unfold ix; rw [hia]; rfl
  have hab5 : ia = 48 ∨ ia = 58 := by omega
  obtain ⟨hs99, hs0, hs1, hs2, hs3, hs4, hs5, hs6, hs7⟩ := id hA
  obtain ⟨hc9, hp9, hl9, ho9, hv9⟩ := id wia
  have hwn : r_wf σ 30 1 := ⟨fun r h0 h1 => by rw [show r = 0 by omega]; show 0 ≤ σ.1 32 0 ∧ σ.1 32 0 ≤ 16; rw [hNm.2.1]; exact hNm.1, hNm.2.2.1⟩
  refine k_enter (by decide +kernel) (Nat.le_of_ble_eq_true rfl) ?_
  show j_at _ _ _ [(0, .ref 5), (1, j_i w)] [] _ _ _ _
  refine a_iload_n (pc := 0) (i := 1) (by decide +kernel) rfl ?_
  by_cases c1 : w < 0 ∨ 8 < w
  · refine a_tableOut (pc := 1) (tgt := 122) (dflt := 121) (lo := 0) (hi := 8) (offs := #[51, 59, 64, 72, 80, 88, 96, 105, 113]) (len := 51) (by decide +kernel) (by omega) c1 (by decide) ?_
    refine a_bipush (pc := 122) (n := (-2)) (by decide +kernel) rfl ?_
    refine a_ireturn (pc := 124) (by decide +kernel) rfl ?_
    refine k_ret ?_
    rcases c1 with c1 | c1
    · exact ⟨_, rfl, rfl, rfl, by unfold to_P; exact Or.inr (Or.inr (Or.inr (Or.inr (Or.inr (Or.inr (Or.inr (Or.inr (Or.inr (Or.inl (by omega))))))))))⟩
    · exact ⟨_, rfl, rfl, rfl, by unfold to_P; exact Or.inr (Or.inr (Or.inr (Or.inr (Or.inr (Or.inr (Or.inr (Or.inr (Or.inr (Or.inr (by omega))))))))))⟩
  rcases (show w = 0 ∨ w = 1 ∨ w = 2 ∨ w = 3 ∨ w = 4 ∨ w = 5 ∨ w = 6 ∨ w = 7 ∨ w = 8 by omega) with c1 | c1 | c1 | c1 | c1 | c1 | c1 | c1 | c1
  · subst c1
    refine a_tableIn (pc := 1) (tgt := 52) (dflt := 121) (lo := 0) (hi := 8) (off := 51) (offs := #[51, 59, 64, 72, 80, 88, 96, 105, 113]) (len := 51) (by decide +kernel) (by decide) (by decide) (by decide) rfl (by decide) ?_
    refine a_aload_n (pc := 52) (i := 0) (by decide +kernel) rfl ?_
    refine b_getR (pc := 53) (b := 6) fl_X11_12 (by decide +kernel) (sh_5 hn) rfl ?_
    refine b_getI (pc := 56) fl_X11_95 (by decide +kernel) (sh_6 hn) rfl ?_
    refine a_ireturn (pc := 59) (by decide +kernel) rfl ?_
    refine k_ret ?_
    refine ⟨_, rfl, rfl, rfl, ?_⟩
    unfold to_P
    rw [hix]
    first | exact Or.inl (by omega) | exact Or.inr (Or.inl (by omega)) | exact Or.inr (Or.inr (Or.inl (by omega))) | exact Or.inr (Or.inr (Or.inr (Or.inl (by omega)))) | exact Or.inr (Or.inr (Or.inr (Or.inr (Or.inl (by omega))))) | exact Or.inr (Or.inr (Or.inr (Or.inr (Or.inr (Or.inl (by omega)))))) | exact Or.inr (Or.inr (Or.inr (Or.inr (Or.inr (Or.inr (Or.inl (by omega))))))) | exact Or.inr (Or.inr (Or.inr (Or.inr (Or.inr (Or.inr (Or.inr (Or.inl (by omega)))))))) | exact Or.inr (Or.inr (Or.inr (Or.inr (Or.inr (Or.inr (Or.inr (Or.inr (Or.inl (by omega))))))))) | exact Or.inr (Or.inr (Or.inr (Or.inr (Or.inr (Or.inr (Or.inr (Or.inr (Or.inr (Or.inl (by omega)))))))))) | exact Or.inr (Or.inr (Or.inr (Or.inr (Or.inr (Or.inr (Or.inr (Or.inr (Or.inr (Or.inr (by omega))))))))))
  · subst c1
    refine a_tableIn (pc := 1) (tgt := 60) (dflt := 121) (lo := 0) (hi := 8) (off := 59) (offs := #[51, 59, 64, 72, 80, 88, 96, 105, 113]) (len := 51) (by decide +kernel) (by decide) (by decide) (by decide) rfl (by decide) ?_
    refine a_aload_n (pc := 60) (i := 0) (by decide +kernel) rfl ?_
    refine b_pureV (pc := 61) [] [] ml_X11_147 (by decide +kernel) rfl rfl (sh_5 hn) rfl rfl (Nat.le_of_ble_eq_true rfl) (j_fitI rfl rfl) (c_pageCount hR) ?_
    have qp := f_page_in (f := σ.2.1 5 10) hW
    show j_at _ _ _ [(0, .ref 5), (1, j_i 1)] [j_i (f_page (σ.2.1 6 1) (σ.2.1 5 10) + 1)] _ _ _ _
    refine a_ireturn (pc := 64) (by decide +kernel) rfl ?_
    refine k_ret ?_
    refine ⟨_, rfl, rfl, rfl, ?_⟩
    unfold to_P
    rw [hix]
    first | exact Or.inl (by omega) | exact Or.inr (Or.inl (by omega)) | exact Or.inr (Or.inr (Or.inl (by omega))) | exact Or.inr (Or.inr (Or.inr (Or.inl (by omega)))) | exact Or.inr (Or.inr (Or.inr (Or.inr (Or.inl (by omega))))) | exact Or.inr (Or.inr (Or.inr (Or.inr (Or.inr (Or.inl (by omega)))))) | exact Or.inr (Or.inr (Or.inr (Or.inr (Or.inr (Or.inr (Or.inl (by omega))))))) | exact Or.inr (Or.inr (Or.inr (Or.inr (Or.inr (Or.inr (Or.inr (Or.inl (by omega)))))))) | exact Or.inr (Or.inr (Or.inr (Or.inr (Or.inr (Or.inr (Or.inr (Or.inr (Or.inl (by omega))))))))) | exact Or.inr (Or.inr (Or.inr (Or.inr (Or.inr (Or.inr (Or.inr (Or.inr (Or.inr (Or.inl (by omega)))))))))) | exact Or.inr (Or.inr (Or.inr (Or.inr (Or.inr (Or.inr (Or.inr (Or.inr (Or.inr (Or.inr (by omega))))))))))
  · subst c1
    refine a_tableIn (pc := 1) (tgt := 65) (dflt := 121) (lo := 0) (hi := 8) (off := 64) (offs := #[51, 59, 64, 72, 80, 88, 96, 105, 113]) (len := 51) (by decide +kernel) (by decide) (by decide) (by decide) rfl (by decide) ?_
    refine a_aload_n (pc := 65) (i := 0) (by decide +kernel) rfl ?_
    refine b_getR (pc := 66) (b := 24) fl_X11_36 (by decide +kernel) (sh_5 hn) rfl ?_
    refine b_getI (pc := 69) fl_X11_135 (by decide +kernel) (sh_24 hn) rfl ?_
    refine a_ireturn (pc := 72) (by decide +kernel) rfl ?_
    refine k_ret ?_
    refine ⟨_, rfl, rfl, rfl, ?_⟩
    unfold to_P
    rw [hix]
    first | exact Or.inl (by omega) | exact Or.inr (Or.inl (by omega)) | exact Or.inr (Or.inr (Or.inl (by omega))) | exact Or.inr (Or.inr (Or.inr (Or.inl (by omega)))) | exact Or.inr (Or.inr (Or.inr (Or.inr (Or.inl (by omega))))) | exact Or.inr (Or.inr (Or.inr (Or.inr (Or.inr (Or.inl (by omega)))))) | exact Or.inr (Or.inr (Or.inr (Or.inr (Or.inr (Or.inr (Or.inl (by omega))))))) | exact Or.inr (Or.inr (Or.inr (Or.inr (Or.inr (Or.inr (Or.inr (Or.inl (by omega)))))))) | exact Or.inr (Or.inr (Or.inr (Or.inr (Or.inr (Or.inr (Or.inr (Or.inr (Or.inl (by omega))))))))) | exact Or.inr (Or.inr (Or.inr (Or.inr (Or.inr (Or.inr (Or.inr (Or.inr (Or.inr (Or.inl (by omega)))))))))) | exact Or.inr (Or.inr (Or.inr (Or.inr (Or.inr (Or.inr (Or.inr (Or.inr (Or.inr (Or.inr (by omega))))))))))
  · subst c1
    refine a_tableIn (pc := 1) (tgt := 73) (dflt := 121) (lo := 0) (hi := 8) (off := 72) (offs := #[51, 59, 64, 72, 80, 88, 96, 105, 113]) (len := 51) (by decide +kernel) (by decide) (by decide) (by decide) rfl (by decide) ?_
    refine a_aload_n (pc := 73) (i := 0) (by decide +kernel) rfl ?_
    refine b_getR (pc := 74) (b := 8) fl_X11_20 (by decide +kernel) (sh_5 hn) rfl ?_
    refine b_pureV (pc := 77) [] [] ml_X11_366 (by decide +kernel) rfl rfl (sh_8 hn) rfl rfl (Nat.le_of_ble_eq_true rfl) (j_fitI rfl rfl) (s_hcount hn hwh) ?_
    show j_at _ _ _ [(0, .ref 5), (1, j_i 3)] [j_i (f_zeros (σ.1 15) (σ.2.1 8 3).toNat)] _ _ _ _
    refine a_ireturn (pc := 80) (by decide +kernel) rfl ?_
    refine k_ret ?_
    refine ⟨_, rfl, rfl, rfl, ?_⟩
    unfold to_P
    rw [hix]
    first | exact Or.inl (by omega) | exact Or.inr (Or.inl (by omega)) | exact Or.inr (Or.inr (Or.inl (by omega))) | exact Or.inr (Or.inr (Or.inr (Or.inl (by omega)))) | exact Or.inr (Or.inr (Or.inr (Or.inr (Or.inl (by omega))))) | exact Or.inr (Or.inr (Or.inr (Or.inr (Or.inr (Or.inl (by omega)))))) | exact Or.inr (Or.inr (Or.inr (Or.inr (Or.inr (Or.inr (Or.inl (by omega))))))) | exact Or.inr (Or.inr (Or.inr (Or.inr (Or.inr (Or.inr (Or.inr (Or.inl (by omega)))))))) | exact Or.inr (Or.inr (Or.inr (Or.inr (Or.inr (Or.inr (Or.inr (Or.inr (Or.inl (by omega))))))))) | exact Or.inr (Or.inr (Or.inr (Or.inr (Or.inr (Or.inr (Or.inr (Or.inr (Or.inr (Or.inl (by omega)))))))))) | exact Or.inr (Or.inr (Or.inr (Or.inr (Or.inr (Or.inr (Or.inr (Or.inr (Or.inr (Or.inr (by omega))))))))))
  · subst c1
    refine a_tableIn (pc := 1) (tgt := 81) (dflt := 121) (lo := 0) (hi := 8) (off := 80) (offs := #[51, 59, 64, 72, 80, 88, 96, 105, 113]) (len := 51) (by decide +kernel) (by decide) (by decide) (by decide) rfl (by decide) ?_
    refine a_aload_n (pc := 81) (i := 0) (by decide +kernel) rfl ?_
    refine b_getR (pc := 82) (b := 16) fl_X11_25 (by decide +kernel) (sh_5 hn) rfl ?_
    refine b_pureV (pc := 85) [] [] ml_X11_369 (by decide +kernel) rfl rfl (sh_16 hn) rfl rfl (Nat.le_of_ble_eq_true rfl) (j_fitI rfl rfl) (s_mcount hn hwm) ?_
    show j_at _ _ _ [(0, .ref 5), (1, j_i 4)] [j_i (f_zeros (σ.1 21) (σ.2.1 16 5).toNat)] _ _ _ _
    refine a_ireturn (pc := 88) (by decide +kernel) rfl ?_
    refine k_ret ?_
    refine ⟨_, rfl, rfl, rfl, ?_⟩
    unfold to_P
    rw [hix]
    first | exact Or.inl (by omega) | exact Or.inr (Or.inl (by omega)) | exact Or.inr (Or.inr (Or.inl (by omega))) | exact Or.inr (Or.inr (Or.inr (Or.inl (by omega)))) | exact Or.inr (Or.inr (Or.inr (Or.inr (Or.inl (by omega))))) | exact Or.inr (Or.inr (Or.inr (Or.inr (Or.inr (Or.inl (by omega)))))) | exact Or.inr (Or.inr (Or.inr (Or.inr (Or.inr (Or.inr (Or.inl (by omega))))))) | exact Or.inr (Or.inr (Or.inr (Or.inr (Or.inr (Or.inr (Or.inr (Or.inl (by omega)))))))) | exact Or.inr (Or.inr (Or.inr (Or.inr (Or.inr (Or.inr (Or.inr (Or.inr (Or.inl (by omega))))))))) | exact Or.inr (Or.inr (Or.inr (Or.inr (Or.inr (Or.inr (Or.inr (Or.inr (Or.inr (Or.inl (by omega)))))))))) | exact Or.inr (Or.inr (Or.inr (Or.inr (Or.inr (Or.inr (Or.inr (Or.inr (Or.inr (Or.inr (by omega))))))))))
  · subst c1
    refine a_tableIn (pc := 1) (tgt := 89) (dflt := 121) (lo := 0) (hi := 8) (off := 88) (offs := #[51, 59, 64, 72, 80, 88, 96, 105, 113]) (len := 51) (by decide +kernel) (by decide) (by decide) (by decide) rfl (by decide) ?_
    refine a_aload_n (pc := 89) (i := 0) (by decide +kernel) rfl ?_
    refine b_getM (pc := 90) (b := ia) fl_X11_68 (by decide +kernel) (sh_5 hn) rfl hia ?_
    refine b_getI (pc := 93) fl_X11_285 (by decide +kernel) hs0 rfl ?_
    refine a_ireturn (pc := 96) (by decide +kernel) rfl ?_
    refine k_ret ?_
    refine ⟨_, rfl, rfl, rfl, ?_⟩
    unfold to_P
    rw [hix]
    first | exact Or.inl (by omega) | exact Or.inr (Or.inl (by omega)) | exact Or.inr (Or.inr (Or.inl (by omega))) | exact Or.inr (Or.inr (Or.inr (Or.inl (by omega)))) | exact Or.inr (Or.inr (Or.inr (Or.inr (Or.inl (by omega))))) | exact Or.inr (Or.inr (Or.inr (Or.inr (Or.inr (Or.inl (by omega)))))) | exact Or.inr (Or.inr (Or.inr (Or.inr (Or.inr (Or.inr (Or.inl (by omega))))))) | exact Or.inr (Or.inr (Or.inr (Or.inr (Or.inr (Or.inr (Or.inr (Or.inl (by omega)))))))) | exact Or.inr (Or.inr (Or.inr (Or.inr (Or.inr (Or.inr (Or.inr (Or.inr (Or.inl (by omega))))))))) | exact Or.inr (Or.inr (Or.inr (Or.inr (Or.inr (Or.inr (Or.inr (Or.inr (Or.inr (Or.inl (by omega)))))))))) | exact Or.inr (Or.inr (Or.inr (Or.inr (Or.inr (Or.inr (Or.inr (Or.inr (Or.inr (Or.inr (by omega))))))))))
  · subst c1
    refine a_tableIn (pc := 1) (tgt := 97) (dflt := 121) (lo := 0) (hi := 8) (off := 96) (offs := #[51, 59, 64, 72, 80, 88, 96, 105, 113]) (len := 51) (by decide +kernel) (by decide) (by decide) (by decide) rfl (by decide) ?_
    refine a_aload_n (pc := 97) (i := 0) (by decide +kernel) rfl ?_
    refine b_getR (pc := 98) (b := 30) fl_X11_45 (by decide +kernel) (sh_5 hn) rfl ?_
    refine a_iconst (pc := 101) (n := 0) (by decide +kernel) ?_
    refine b_pureV (pc := 102) [j_i 0] [] ml_X11_158 (by decide +kernel) rfl rfl (sh_30 hn) rfl rfl (Nat.le_of_ble_eq_true rfl) (j_fitI rfl rfl) (s_countOf (rA_30 hn) hwn (by omega)) ?_
    rw [show r_cnt σ 30 1 0 = σ.1 32 0 by unfold r_cnt; rw [if_pos (by omega)]]
    show j_at _ _ _ [(0, .ref 5), (1, j_i 6)] [j_i (σ.1 32 0)] _ _ _ _
    refine a_ireturn (pc := 105) (by decide +kernel) rfl ?_
    refine k_ret ?_
    refine ⟨_, rfl, rfl, rfl, ?_⟩
    unfold to_P
    rw [hix]
    first | exact Or.inl (by omega) | exact Or.inr (Or.inl (by omega)) | exact Or.inr (Or.inr (Or.inl (by omega))) | exact Or.inr (Or.inr (Or.inr (Or.inl (by omega)))) | exact Or.inr (Or.inr (Or.inr (Or.inr (Or.inl (by omega))))) | exact Or.inr (Or.inr (Or.inr (Or.inr (Or.inr (Or.inl (by omega)))))) | exact Or.inr (Or.inr (Or.inr (Or.inr (Or.inr (Or.inr (Or.inl (by omega))))))) | exact Or.inr (Or.inr (Or.inr (Or.inr (Or.inr (Or.inr (Or.inr (Or.inl (by omega)))))))) | exact Or.inr (Or.inr (Or.inr (Or.inr (Or.inr (Or.inr (Or.inr (Or.inr (Or.inl (by omega))))))))) | exact Or.inr (Or.inr (Or.inr (Or.inr (Or.inr (Or.inr (Or.inr (Or.inr (Or.inr (Or.inl (by omega)))))))))) | exact Or.inr (Or.inr (Or.inr (Or.inr (Or.inr (Or.inr (Or.inr (Or.inr (Or.inr (Or.inr (by omega))))))))))
  · subst c1
    refine a_tableIn (pc := 1) (tgt := 106) (dflt := 121) (lo := 0) (hi := 8) (off := 105) (offs := #[51, 59, 64, 72, 80, 88, 96, 105, 113]) (len := 51) (by decide +kernel) (by decide) (by decide) (by decide) rfl (by decide) ?_
    refine a_aload_n (pc := 106) (i := 0) (by decide +kernel) rfl ?_
    refine b_getR (pc := 107) (b := 33) fl_X11_52 (by decide +kernel) (sh_5 hn) rfl ?_
    refine b_getI (pc := 110) fl_X11_203 (by decide +kernel) (sh_33 hn) rfl ?_
    refine a_ireturn (pc := 113) (by decide +kernel) rfl ?_
    refine k_ret ?_
    refine ⟨_, rfl, rfl, rfl, ?_⟩
    unfold to_P
    rw [hix]
    first | exact Or.inl (by omega) | exact Or.inr (Or.inl (by omega)) | exact Or.inr (Or.inr (Or.inl (by omega))) | exact Or.inr (Or.inr (Or.inr (Or.inl (by omega)))) | exact Or.inr (Or.inr (Or.inr (Or.inr (Or.inl (by omega))))) | exact Or.inr (Or.inr (Or.inr (Or.inr (Or.inr (Or.inl (by omega)))))) | exact Or.inr (Or.inr (Or.inr (Or.inr (Or.inr (Or.inr (Or.inl (by omega))))))) | exact Or.inr (Or.inr (Or.inr (Or.inr (Or.inr (Or.inr (Or.inr (Or.inl (by omega)))))))) | exact Or.inr (Or.inr (Or.inr (Or.inr (Or.inr (Or.inr (Or.inr (Or.inr (Or.inl (by omega))))))))) | exact Or.inr (Or.inr (Or.inr (Or.inr (Or.inr (Or.inr (Or.inr (Or.inr (Or.inr (Or.inl (by omega)))))))))) | exact Or.inr (Or.inr (Or.inr (Or.inr (Or.inr (Or.inr (Or.inr (Or.inr (Or.inr (Or.inr (by omega))))))))))
  · subst c1
    refine a_tableIn (pc := 1) (tgt := 114) (dflt := 121) (lo := 0) (hi := 8) (off := 113) (offs := #[51, 59, 64, 72, 80, 88, 96, 105, 113]) (len := 51) (by decide +kernel) (by decide) (by decide) (by decide) rfl (by decide) ?_
    refine a_aload_n (pc := 114) (i := 0) (by decide +kernel) rfl ?_
    refine b_getR (pc := 115) (b := 22) fl_X11_29 (by decide +kernel) (sh_5 hn) rfl ?_
    refine b_getI (pc := 118) fl_X11_365 (by decide +kernel) (sh_22 hn) rfl ?_
    refine a_ireturn (pc := 121) (by decide +kernel) rfl ?_
    refine k_ret ?_
    refine ⟨_, rfl, rfl, rfl, ?_⟩
    unfold to_P
    rw [hix]
    first | exact Or.inl (by omega) | exact Or.inr (Or.inl (by omega)) | exact Or.inr (Or.inr (Or.inl (by omega))) | exact Or.inr (Or.inr (Or.inr (Or.inl (by omega)))) | exact Or.inr (Or.inr (Or.inr (Or.inr (Or.inl (by omega))))) | exact Or.inr (Or.inr (Or.inr (Or.inr (Or.inr (Or.inl (by omega)))))) | exact Or.inr (Or.inr (Or.inr (Or.inr (Or.inr (Or.inr (Or.inl (by omega))))))) | exact Or.inr (Or.inr (Or.inr (Or.inr (Or.inr (Or.inr (Or.inr (Or.inl (by omega)))))))) | exact Or.inr (Or.inr (Or.inr (Or.inr (Or.inr (Or.inr (Or.inr (Or.inr (Or.inl (by omega))))))))) | exact Or.inr (Or.inr (Or.inr (Or.inr (Or.inr (Or.inr (Or.inr (Or.inr (Or.inr (Or.inl (by omega)))))))))) | exact Or.inr (Or.inr (Or.inr (Or.inr (Or.inr (Or.inr (Or.inr (Or.inr (Or.inr (Or.inr (by omega))))))))))
set_option maxHeartbeats 4000000 in
theorem l_dtold1 {G : j_G} {X : k_X} {n : Nat} {σ : k_St} (hn : 101 ≤ n) (hK : RKept σ) (hg : ∀ i : Int, -128 ≤ σ.1 69 i ∧ σ.1 69 i ≤ 9999) (hgE : 0 ≤ σ.1 69 301 ∧ σ.1 69 301 ≤ 30) {w : Int} {Q : k_P} (kk : ∀ s, s = f_zeros (σ.1 15) (σ.1 69 301).toNat → ∀ k, j_at G mX12_told 39 [(0, .ref 68), (1, j_i w), (2, j_i s), (3, j_i 0), (4, j_i k)] [] (k_h X n σ) 0 0 (k_Q X Q))  : ∀ (m : Nat) (k s : Int), 30 - k < (m : Int) → 0 ≤ k → k ≤ σ.1 69 301 → s = f_zeros (σ.1 15) k.toNat → j_at G mX12_told 7 [(0, .ref 68), (1, j_i w), (2, j_i s), (3, j_i 0), (4, j_i k)] [] (k_h X n σ) 0 0 (k_Q X Q) := by
  intro m
  induction m with
  | zero => intro k s h1 h2 h3; exact absurd h1 (by omega)
  | succ m ih =>
    intro k s hm h0 hN hs
    refine a_iload (pc := 7) (i := 4) (by decide +kernel) rfl ?_
    refine a_aload_n (pc := 9) (i := 0) (by decide +kernel) rfl ?_
    refine b_pureV (pc := 10) [] [j_i k] ml_X12_180 (by decide +kernel) rfl rfl (sh_68 hn) rfl rfl (Nat.le_of_ble_eq_true rfl) (j_fitI rfl rfl) (s_dheadsEver hn) ?_
    have q1 := hg 301
    show j_at _ _ _ [(0, .ref 68), (1, j_i w), (2, j_i s), (3, j_i 0), (4, j_i k)] [j_i (σ.1 69 301), j_i k] _ _ _ _
    refine a_icmp_ge (pc := 13) (off := 26) (tgt := 39) (by decide +kernel) (by decide) (by omega) (by omega) (fun c13 => ?_) (fun c13 => ?_)
    · exact kk s (by rw [hs, show k = σ.1 69 301 by omega]) k
    · refine a_iload_n (pc := 16) (i := 2) (by decide +kernel) rfl ?_
      refine a_aload_n (pc := 17) (i := 0) (by decide +kernel) rfl ?_
      refine a_iload (pc := 18) (i := 4) (by decide +kernel) rfl ?_
      have e15 : σ.1 15 k = 1 - σ.1 69 (302 + 36 * k) := (hK.2.1.2.1.2 k h0 (by omega)).1
      refine b_callV (pc := 20) (c' := 0) (sl' := 0) [j_i k] [j_i s] ml_X12_202 (by decide +kernel) rfl rfl (sh_68 hn) rfl rfl (Nat.le_of_ble_eq_true rfl) (j_fitI rfl rfl) (s_disHead hn hg (by omega) (by omega)) (fun v n' σ' hq => ?_)
      obtain ⟨x, rfl, e1, e2, hx⟩ := hq
      rw [e1, e2]; clear e1 e2
      rcases hx with ⟨rfl, p20⟩ | ⟨rfl, p20⟩
      · show j_at _ _ _ [(0, .ref 68), (1, j_i w), (2, j_i s), (3, j_i 0), (4, j_i k)] [j_i 1, j_i s] _ _ _ _
        have i20 := bi_y p20
        have u20 := p20.1
        have w20 := p20.2.1
        refine a_if_eq (pc := 23) (off := 7) (tgt := 30) (by decide +kernel) (by decide) (by omega) (fun c23 => ?_) (fun c23 => ?_)
        · exact absurd c23 (by decide)
        · refine a_iconst (pc := 26) (n := 1) (by decide +kernel) ?_
          refine a_goto (pc := 27) (off := 4) (tgt := 31) (by decide +kernel) (by decide) ?_
          refine a_iadd (pc := 31) (by decide +kernel) ?_
          refine a_istore_n (pc := 32) (i := 2) (lv' := [(0, .ref 68), (1, j_i w), (2, j_i (s + 1)), (3, j_i 0), (4, j_i k)]) (by decide +kernel) (Nat.le_of_ble_eq_true rfl) rfl ?_
          refine a_iinc (pc := 33) (i := 4) (n := 1) (x := k) (lv' := [(0, .ref 68), (1, j_i w), (2, j_i (s + 1)), (3, j_i 0), (4, j_i (k + 1))]) (by decide +kernel) rfl (Nat.le_of_ble_eq_true rfl) rfl ?_
          refine a_goto (pc := 36) (off := -29) (tgt := 7) (by decide +kernel) (by decide) ?_
          refine ih (k + 1) (s + 1) (by omega) (by omega) (by omega) ?_
          rw [f_zeros_s h0]
          rw [if_pos (by have := p20.2.2; omega)]
          omega
      · show j_at _ _ _ [(0, .ref 68), (1, j_i w), (2, j_i s), (3, j_i 0), (4, j_i k)] [j_i 0, j_i s] _ _ _ _
        have i20 := bi_n p20
        refine a_if_eq (pc := 23) (off := 7) (tgt := 30) (by decide +kernel) (by decide) (by omega) (fun c23 => ?_) (fun c23 => ?_)
        · refine a_iconst (pc := 30) (n := 0) (by decide +kernel) ?_
          refine a_iadd (pc := 31) (by decide +kernel) ?_
          refine a_istore_n (pc := 32) (i := 2) (lv' := [(0, .ref 68), (1, j_i w), (2, j_i (s + 0)), (3, j_i 0), (4, j_i k)]) (by decide +kernel) (Nat.le_of_ble_eq_true rfl) rfl ?_
          refine a_iinc (pc := 33) (i := 4) (n := 1) (x := k) (lv' := [(0, .ref 68), (1, j_i w), (2, j_i (s + 0)), (3, j_i 0), (4, j_i (k + 1))]) (by decide +kernel) rfl (Nat.le_of_ble_eq_true rfl) rfl ?_
          refine a_goto (pc := 36) (off := -29) (tgt := 7) (by decide +kernel) (by decide) ?_
          refine ih (k + 1) (s + 0) (by omega) (by omega) (by omega) ?_
          rw [f_zeros_s h0]
          rw [if_neg (fun g => p20 ⟨h0, by omega, by omega⟩)]
          omega
        · exact absurd c23 (by decide)
set_option maxHeartbeats 4000000 in
theorem l_dtold2 {G : j_G} {X : k_X} {n : Nat} {σ : k_St} (hn : 101 ≤ n) (hK : RKept σ) (hg : ∀ i : Int, -128 ≤ σ.1 69 i ∧ σ.1 69 i ≤ 9999) (hgM : 0 ≤ σ.1 69 1382 ∧ σ.1 69 1382 ≤ 50) {w x : Int} {Q : k_P} (kk : ∀ s, s = f_zeros (σ.1 21) (σ.1 69 1382).toNat → ∀ k, j_at G mX12_told 74 [(0, .ref 68), (1, j_i w), (2, j_i x), (3, j_i s), (4, j_i k)] [] (k_h X n σ) 0 0 (k_Q X Q))  : ∀ (m : Nat) (k s : Int), 50 - k < (m : Int) → 0 ≤ k → k ≤ σ.1 69 1382 → s = f_zeros (σ.1 21) k.toNat → j_at G mX12_told 42 [(0, .ref 68), (1, j_i w), (2, j_i x), (3, j_i s), (4, j_i k)] [] (k_h X n σ) 0 0 (k_Q X Q) := by
  intro m
  induction m with
  | zero => intro k s h1 h2 h3; exact absurd h1 (by omega)
  | succ m ih =>
    intro k s hm h0 hN hs
    refine a_iload (pc := 42) (i := 4) (by decide +kernel) rfl ?_
    refine a_aload_n (pc := 44) (i := 0) (by decide +kernel) rfl ?_
    refine b_pureV (pc := 45) [] [j_i k] ml_X12_135 (by decide +kernel) rfl rfl (sh_68 hn) rfl rfl (Nat.le_of_ble_eq_true rfl) (j_fitI rfl rfl) (s_dmarksEver hn) ?_
    have q1 := hg 1382
    show j_at _ _ _ [(0, .ref 68), (1, j_i w), (2, j_i x), (3, j_i s), (4, j_i k)] [j_i (σ.1 69 1382), j_i k] _ _ _ _
    refine a_icmp_ge (pc := 48) (off := 26) (tgt := 74) (by decide +kernel) (by decide) (by omega) (by omega) (fun c48 => ?_) (fun c48 => ?_)
    · exact kk s (by rw [hs, show k = σ.1 69 1382 by omega]) k
    · refine a_iload_n (pc := 51) (i := 3) (by decide +kernel) rfl ?_
      refine a_aload_n (pc := 52) (i := 0) (by decide +kernel) rfl ?_
      refine a_iload (pc := 53) (i := 4) (by decide +kernel) rfl ?_
      have e21 : σ.1 21 k = 1 - σ.1 69 (1383 + 7 * k) := (hK.2.1.2.2.2 k h0 (by omega)).1
      refine b_callV (pc := 55) (c' := 0) (sl' := 0) [j_i k] [j_i s] ml_X12_254 (by decide +kernel) rfl rfl (sh_68 hn) rfl rfl (Nat.le_of_ble_eq_true rfl) (j_fitI rfl rfl) (s_disMark hn hg (by omega) (by omega)) (fun v n' σ' hq => ?_)
      obtain ⟨x, rfl, e1, e2, hx⟩ := hq
      rw [e1, e2]; clear e1 e2
      rcases hx with ⟨rfl, p55⟩ | ⟨rfl, p55⟩
      · show j_at _ _ _ [(0, .ref 68), (1, j_i w), (2, j_i x), (3, j_i s), (4, j_i k)] [j_i 1, j_i s] _ _ _ _
        have i55 := bi_y p55
        have u55 := p55.1
        have w55 := p55.2.1
        refine a_if_eq (pc := 58) (off := 7) (tgt := 65) (by decide +kernel) (by decide) (by omega) (fun c58 => ?_) (fun c58 => ?_)
        · exact absurd c58 (by decide)
        · refine a_iconst (pc := 61) (n := 1) (by decide +kernel) ?_
          refine a_goto (pc := 62) (off := 4) (tgt := 66) (by decide +kernel) (by decide) ?_
          refine a_iadd (pc := 66) (by decide +kernel) ?_
          refine a_istore_n (pc := 67) (i := 3) (lv' := [(0, .ref 68), (1, j_i w), (2, j_i x), (3, j_i (s + 1)), (4, j_i k)]) (by decide +kernel) (Nat.le_of_ble_eq_true rfl) rfl ?_
          refine a_iinc (pc := 68) (i := 4) (n := 1) (x := k) (lv' := [(0, .ref 68), (1, j_i w), (2, j_i x), (3, j_i (s + 1)), (4, j_i (k + 1))]) (by decide +kernel) rfl (Nat.le_of_ble_eq_true rfl) rfl ?_
          refine a_goto (pc := 71) (off := -29) (tgt := 42) (by decide +kernel) (by decide) ?_
          refine ih (k + 1) (s + 1) (by omega) (by omega) (by omega) ?_
          rw [f_zeros_s h0]
          rw [if_pos (by have := p55.2.2; omega)]
          omega
      · show j_at _ _ _ [(0, .ref 68), (1, j_i w), (2, j_i x), (3, j_i s), (4, j_i k)] [j_i 0, j_i s] _ _ _ _
        have i55 := bi_n p55
        refine a_if_eq (pc := 58) (off := 7) (tgt := 65) (by decide +kernel) (by decide) (by omega) (fun c58 => ?_) (fun c58 => ?_)
        · refine a_iconst (pc := 65) (n := 0) (by decide +kernel) ?_
          refine a_iadd (pc := 66) (by decide +kernel) ?_
          refine a_istore_n (pc := 67) (i := 3) (lv' := [(0, .ref 68), (1, j_i w), (2, j_i x), (3, j_i (s + 0)), (4, j_i k)]) (by decide +kernel) (Nat.le_of_ble_eq_true rfl) rfl ?_
          refine a_iinc (pc := 68) (i := 4) (n := 1) (x := k) (lv' := [(0, .ref 68), (1, j_i w), (2, j_i x), (3, j_i (s + 0)), (4, j_i (k + 1))]) (by decide +kernel) rfl (Nat.le_of_ble_eq_true rfl) rfl ?_
          refine a_goto (pc := 71) (off := -29) (tgt := 42) (by decide +kernel) (by decide) ?_
          refine ih (k + 1) (s + 0) (by omega) (by omega) (by omega) ?_
          rw [f_zeros_s h0]
          rw [if_neg (fun g => p55 ⟨h0, by omega, by omega⟩)]
          omega
        · exact absurd c58 (by decide)
set_option maxHeartbeats 4000000 in
theorem d_told {G : j_G} {X : k_X} {n : Nat} {σ : k_St} (hR : RR n σ) {w : Int} (hw : -2147483648 ≤ w ∧ w ≤ 2147483647) {r : Int} (hP : to_P σ w r)  : k_run G X mX12_told [.ref 68, j_i w] n σ 0 0 (fun v2 n2 σ2 => v2 = some (j_i r) ∧ RR n2 σ2) := by
  obtain ⟨hK, hAc, hNm, hPs, hPt, hSm, hIx⟩ := id hR
  have hn := RR_n hR
  have hk := hK.1
  have hwh : h_wf σ 8 := hk.2.1
  have hwm : m_wf σ 16 := hk.2.2
  have hW : 0 ≤ σ.2.1 6 1 ∧ σ.2.1 6 1 ≤ 300 := hk.1
  have hfl := hSm.1
  have hg := hK.2.2.2
  obtain ⟨⟨hgW, hgE, hgM⟩, hgh, hgm⟩ := KR_rg hk hK.2.1
  have hW0 : σ.2.1 6 1 = σ.1 69 0 := hK.2.1.1.1
  have hE0 : σ.2.1 8 3 = σ.1 69 301 := hK.2.1.2.1.1
  have hM0 : σ.2.1 16 5 = σ.1 69 1382 := hK.2.1.2.2.1
  have hfl8 : σ.2.1 68 11 = σ.2.1 5 10 := hSm.2.1
  obtain ⟨ia, ib, hab, hia, hib, wia, wib, ria, rib, hrg, h01, hIR, hchg⟩ := id hIx
  have hA : i_at X n ia := by rcases hab with q | q; rw [q.1]; exact iA_48 hn; rw [q.1]; exact iA_58 hn
  have hix : ix σ = ia := by unfold ix; rw [hia]; rfl
  have hab5 : ia = 48 ∨ ia = 58 := by omega
  obtain ⟨hs99, hs0, hs1, hs2, hs3, hs4, hs5, hs6, hs7⟩ := id hA
  obtain ⟨hc9, hp9, hl9, ho9, hv9⟩ := id wia
  obtain ⟨hI0, hI1, hI2, hI3, hI4, hI5, hI6, hI7, hI8⟩ := id hIR
  have hE : 0 ≤ σ.2.1 68 25 ∧ σ.2.1 68 25 ≤ 200 := by omega
  have hpr : ∀ i k, 0 ≤ i → i < σ.2.1 68 25 → 0 ≤ k → k < 3 → -9 ≤ σ.1 81 (3 * i + k) ∧ σ.1 81 (3 * i + k) ≤ 29 := fun i k i0 i1 k0 k1 => by rw [(hI1 i i0 (by omega)).1 k k0 k1]; exact f_head_in _ _
  have n1 : σ.1 32 0 = σ.2.1 68 7 := hNm.2.1
  have n2 : σ.2.1 33 1 = σ.2.1 68 10 := hPs.2.1
  have n3 : σ.2.1 24 4 = σ.2.1 68 12 := hPt.2.1
  have n4 : σ.2.1 68 5 = σ.2.1 22 2 := by obtain ⟨_, _, _, _, _, _, _, _, q, _⟩ := hAc; exact q
  have hW : 0 ≤ σ.1 69 0 ∧ σ.1 69 0 ≤ 300 := hgW
  have hfl : 1 ≤ σ.2.1 68 11 ∧ σ.2.1 68 11 ≤ 50 := by omega
  refine k_enter (by decide +kernel) (Nat.le_of_ble_eq_true rfl) ?_
  show j_at _ _ _ [(0, .ref 68), (1, j_i w)] [] _ _ _ _
  refine a_iconst (pc := 0) (n := 0) (by decide +kernel) ?_
  refine a_istore_n (pc := 1) (i := 2) (lv' := [(0, .ref 68), (1, j_i w), (2, j_i 0)]) (by decide +kernel) (Nat.le_of_ble_eq_true rfl) rfl ?_
  refine a_iconst (pc := 2) (n := 0) (by decide +kernel) ?_
  refine a_istore_n (pc := 3) (i := 3) (lv' := [(0, .ref 68), (1, j_i w), (2, j_i 0), (3, j_i 0)]) (by decide +kernel) (Nat.le_of_ble_eq_true rfl) rfl ?_
  refine a_iconst (pc := 4) (n := 0) (by decide +kernel) ?_
  refine a_istore (pc := 5) (i := 4) (lv' := [(0, .ref 68), (1, j_i w), (2, j_i 0), (3, j_i 0), (4, j_i 0)]) (by decide +kernel) (Nat.le_of_ble_eq_true rfl) rfl ?_
  refine l_dtold1 hn hK hg hgE (fun x9 hx9 k9 => ?_) 31 0 0 (by omega) (by omega) (by omega) rfl
  refine a_iconst (pc := 39) (n := 0) (by decide +kernel) ?_
  refine a_istore (pc := 40) (i := 4) (lv' := [(0, .ref 68), (1, j_i w), (2, j_i x9), (3, j_i 0), (4, j_i 0)]) (by decide +kernel) (Nat.le_of_ble_eq_true rfl) rfl ?_
  refine l_dtold2 hn hK hg hgM (fun y9 hy9 j9 => ?_) 51 0 0 (by omega) (by omega) (by omega) rfl
  refine a_iload_n (pc := 74) (i := 1) (by decide +kernel) rfl ?_
  by_cases c75 : w < 0 ∨ 8 < w
  · refine a_tableOut (pc := 75) (tgt := 163) (dflt := 88) (lo := 0) (hi := 8) (offs := #[49, 54, 59, 64, 66, 68, 73, 78, 83]) (len := 49) (by decide +kernel) (by omega) c75 (by decide) ?_
    refine a_bipush (pc := 163) (n := (-2)) (by decide +kernel) rfl ?_
    refine a_ireturn (pc := 165) (by decide +kernel) rfl ?_
    refine k_ret ?_
    have hr : ((-2) : Int) = r := by
      unfold to_P at hP
      rw [hix] at hP
      rw [hW0, ← hfl8, hE0, hM0, ← hx9, ← hy9] at hP
      rcases hP with hP | hP | hP | hP | hP | hP | hP | hP | hP | hP | hP <;> omega
    exact ⟨by rw [hr], hR⟩
  rcases (show w = 0 ∨ w = 1 ∨ w = 2 ∨ w = 3 ∨ w = 4 ∨ w = 5 ∨ w = 6 ∨ w = 7 ∨ w = 8 by omega) with c75 | c75 | c75 | c75 | c75 | c75 | c75 | c75 | c75
  · subst c75
    refine a_tableIn (pc := 75) (tgt := 124) (dflt := 88) (lo := 0) (hi := 8) (off := 49) (offs := #[49, 54, 59, 64, 66, 68, 73, 78, 83]) (len := 49) (by decide +kernel) (by decide) (by decide) (by decide) rfl (by decide) ?_
    refine a_aload_n (pc := 124) (i := 0) (by decide +kernel) rfl ?_
    refine b_pureV (pc := 125) [] [] ml_X12_124 (by decide +kernel) rfl rfl (sh_68 hn) rfl rfl (Nat.le_of_ble_eq_true rfl) (j_fitI rfl rfl) (s_dwords hn) ?_
    have q1 := hg 0
    show j_at _ _ _ [(0, .ref 68), (1, j_i 0), (2, j_i x9), (3, j_i y9), (4, j_i j9)] [j_i (σ.1 69 0)] _ _ _ _
    refine a_ireturn (pc := 128) (by decide +kernel) rfl ?_
    refine k_ret ?_
    have hr : (σ.1 69 0 : Int) = r := by
      unfold to_P at hP
      rw [hix] at hP
      rw [hW0, ← hfl8, hE0, hM0, ← hx9, ← hy9] at hP
      rcases hP with hP | hP | hP | hP | hP | hP | hP | hP | hP | hP | hP <;> omega
    exact ⟨by rw [hr], hR⟩
  · subst c75
    refine a_tableIn (pc := 75) (tgt := 129) (dflt := 88) (lo := 0) (hi := 8) (off := 54) (offs := #[49, 54, 59, 64, 66, 68, 73, 78, 83]) (len := 49) (by decide +kernel) (by decide) (by decide) (by decide) rfl (by decide) ?_
    refine a_aload_n (pc := 129) (i := 0) (by decide +kernel) rfl ?_
    refine b_pureV (pc := 130) [] [] ml_X12_174 (by decide +kernel) rfl rfl (sh_68 hn) rfl rfl (Nat.le_of_ble_eq_true rfl) (j_fitI rfl rfl) (s_dpages hn hW hfl) ?_
    show j_at _ _ _ [(0, .ref 68), (1, j_i 1), (2, j_i x9), (3, j_i y9), (4, j_i j9)] [j_i (f_page (σ.1 69 0) (σ.2.1 68 11) + 1)] _ _ _ _
    refine a_ireturn (pc := 133) (by decide +kernel) rfl ?_
    refine k_ret ?_
    have hr : (f_page (σ.1 69 0) (σ.2.1 68 11) + 1 : Int) = r := by
      unfold to_P at hP
      rw [hix] at hP
      rw [hW0, ← hfl8, hE0, hM0, ← hx9, ← hy9] at hP
      rcases hP with hP | hP | hP | hP | hP | hP | hP | hP | hP | hP | hP <;> omega
    exact ⟨by rw [hr], hR⟩
  · subst c75
    refine a_tableIn (pc := 75) (tgt := 134) (dflt := 88) (lo := 0) (hi := 8) (off := 59) (offs := #[49, 54, 59, 64, 66, 68, 73, 78, 83]) (len := 49) (by decide +kernel) (by decide) (by decide) (by decide) rfl (by decide) ?_
    refine a_aload_n (pc := 134) (i := 0) (by decide +kernel) rfl ?_
    refine b_getI (pc := 135) fl_X12_145 (by decide +kernel) (sh_68 hn) rfl ?_
    refine a_ireturn (pc := 138) (by decide +kernel) rfl ?_
    refine k_ret ?_
    have hr : (σ.2.1 68 12 : Int) = r := by
      unfold to_P at hP
      rw [hix] at hP
      rw [hW0, ← hfl8, hE0, hM0, ← hx9, ← hy9] at hP
      rcases hP with hP | hP | hP | hP | hP | hP | hP | hP | hP | hP | hP <;> omega
    exact ⟨by rw [hr], hR⟩
  · subst c75
    refine a_tableIn (pc := 75) (tgt := 139) (dflt := 88) (lo := 0) (hi := 8) (off := 64) (offs := #[49, 54, 59, 64, 66, 68, 73, 78, 83]) (len := 49) (by decide +kernel) (by decide) (by decide) (by decide) rfl (by decide) ?_
    refine a_iload_n (pc := 139) (i := 2) (by decide +kernel) rfl ?_
    refine a_ireturn (pc := 140) (by decide +kernel) rfl ?_
    refine k_ret ?_
    have hr : (x9 : Int) = r := by
      unfold to_P at hP
      rw [hix] at hP
      rw [hW0, ← hfl8, hE0, hM0, ← hx9, ← hy9] at hP
      rcases hP with hP | hP | hP | hP | hP | hP | hP | hP | hP | hP | hP <;> omega
    exact ⟨by rw [hr], hR⟩
  · subst c75
    refine a_tableIn (pc := 75) (tgt := 141) (dflt := 88) (lo := 0) (hi := 8) (off := 66) (offs := #[49, 54, 59, 64, 66, 68, 73, 78, 83]) (len := 49) (by decide +kernel) (by decide) (by decide) (by decide) rfl (by decide) ?_
    refine a_iload_n (pc := 141) (i := 3) (by decide +kernel) rfl ?_
    refine a_ireturn (pc := 142) (by decide +kernel) rfl ?_
    refine k_ret ?_
    have hr : (y9 : Int) = r := by
      unfold to_P at hP
      rw [hix] at hP
      rw [hW0, ← hfl8, hE0, hM0, ← hx9, ← hy9] at hP
      rcases hP with hP | hP | hP | hP | hP | hP | hP | hP | hP | hP | hP <;> omega
    exact ⟨by rw [hr], hR⟩
  · subst c75
    refine a_tableIn (pc := 75) (tgt := 143) (dflt := 88) (lo := 0) (hi := 8) (off := 68) (offs := #[49, 54, 59, 64, 66, 68, 73, 78, 83]) (len := 49) (by decide +kernel) (by decide) (by decide) (by decide) rfl (by decide) ?_
    refine a_aload_n (pc := 143) (i := 0) (by decide +kernel) rfl ?_
    refine b_getI (pc := 144) fl_X12_281 (by decide +kernel) (sh_68 hn) rfl ?_
    refine a_ireturn (pc := 147) (by decide +kernel) rfl ?_
    refine k_ret ?_
    have hr : (σ.2.1 68 25 : Int) = r := by
      unfold to_P at hP
      rw [hix] at hP
      rw [hW0, ← hfl8, hE0, hM0, ← hx9, ← hy9] at hP
      rcases hP with hP | hP | hP | hP | hP | hP | hP | hP | hP | hP | hP <;> omega
    exact ⟨by rw [hr], hR⟩
  · subst c75
    refine a_tableIn (pc := 75) (tgt := 148) (dflt := 88) (lo := 0) (hi := 8) (off := 73) (offs := #[49, 54, 59, 64, 66, 68, 73, 78, 83]) (len := 49) (by decide +kernel) (by decide) (by decide) (by decide) rfl (by decide) ?_
    refine a_aload_n (pc := 148) (i := 0) (by decide +kernel) rfl ?_
    refine b_getI (pc := 149) fl_X12_195 (by decide +kernel) (sh_68 hn) rfl ?_
    refine a_ireturn (pc := 152) (by decide +kernel) rfl ?_
    refine k_ret ?_
    have hr : (σ.2.1 68 7 : Int) = r := by
      unfold to_P at hP
      rw [hix] at hP
      rw [hW0, ← hfl8, hE0, hM0, ← hx9, ← hy9] at hP
      rcases hP with hP | hP | hP | hP | hP | hP | hP | hP | hP | hP | hP <;> omega
    exact ⟨by rw [hr], hR⟩
  · subst c75
    refine a_tableIn (pc := 75) (tgt := 153) (dflt := 88) (lo := 0) (hi := 8) (off := 78) (offs := #[49, 54, 59, 64, 66, 68, 73, 78, 83]) (len := 49) (by decide +kernel) (by decide) (by decide) (by decide) rfl (by decide) ?_
    refine a_aload_n (pc := 153) (i := 0) (by decide +kernel) rfl ?_
    refine b_getI (pc := 154) fl_X12_215 (by decide +kernel) (sh_68 hn) rfl ?_
    refine a_ireturn (pc := 157) (by decide +kernel) rfl ?_
    refine k_ret ?_
    have hr : (σ.2.1 68 10 : Int) = r := by
      unfold to_P at hP
      rw [hix] at hP
      rw [hW0, ← hfl8, hE0, hM0, ← hx9, ← hy9] at hP
      rcases hP with hP | hP | hP | hP | hP | hP | hP | hP | hP | hP | hP <;> omega
    exact ⟨by rw [hr], hR⟩
  · subst c75
    refine a_tableIn (pc := 75) (tgt := 158) (dflt := 88) (lo := 0) (hi := 8) (off := 83) (offs := #[49, 54, 59, 64, 66, 68, 73, 78, 83]) (len := 49) (by decide +kernel) (by decide) (by decide) (by decide) rfl (by decide) ?_
    refine a_aload_n (pc := 158) (i := 0) (by decide +kernel) rfl ?_
    refine b_getI (pc := 159) fl_X12_118 (by decide +kernel) (sh_68 hn) rfl ?_
    refine a_ireturn (pc := 162) (by decide +kernel) rfl ?_
    refine k_ret ?_
    have hr : (σ.2.1 68 5 : Int) = r := by
      unfold to_P at hP
      rw [hix] at hP
      rw [hW0, ← hfl8, hE0, hM0, ← hx9, ← hy9] at hP
      rcases hP with hP | hP | hP | hP | hP | hP | hP | hP | hP | hP | hP <;> omega
    exact ⟨by rw [hr], hR⟩
set_option maxHeartbeats 4000000 in
theorem p_told {G : j_G} {X : k_X} {n : Nat} {σ : k_St} (hR : RR n σ) {w : Int} (hw : -2147483648 ≤ w ∧ w ≤ 2147483647)  : pr_ok G X mX11_told mX12_told [j_i w] n σ 0 0 := by
  refine ⟨_, c_told hR hw , fun v n' σ' hq => ?_⟩
  obtain ⟨r, hv, rfl, rfl, hP⟩ := hq
  exact ⟨RR_n hR, r, hv, d_told hR hw  hP⟩
theorem n_cnt_y {P : Int → Prop} {k s : Int} (h0 : 0 ≤ k) (h : P k) (hs : n_cnt P k.toNat s) : n_cnt P (k + 1).toNat (s + 1) := by
  rw [show (k + 1).toNat = k.toNat + 1 by omega]
  refine Or.inl ⟨by rw [show ((k.toNat : Nat) : Int) = k by omega]; exact h, ?_⟩
  rw [show s + 1 - 1 = s by omega]; exact hs
theorem n_cnt_n {P : Int → Prop} {k s : Int} (h0 : 0 ≤ k) (h : ¬ P k) (hs : n_cnt P k.toNat s) : n_cnt P (k + 1).toNat s := by
  rw [show (k + 1).toNat = k.toNat + 1 by omega]
  exact Or.inr ⟨by rw [show ((k.toNat : Nat) : Int) = k by omega]; exact h, hs⟩
set_option maxHeartbeats 4000000 in
theorem l_chg65 {G : j_G} {X : k_X} {n : Nat} {σ : k_St} (hn : 101 ≤ n) {ia ib : Nat} (hab : ia = 48 ∧ ib = 58 ∨ ia = 58 ∧ ib = 48) (hia : σ.2.2 5 8 = some ia) (hib : σ.2.2 5 9 = some ib) (hA : i_at X n ia) (hB : i_at X n ib) (wia : i_wf σ ia) (wib : i_wf σ ib) {x : Int} (hx : n_cnt (i_chP σ ia ib) (σ.2.1 ia 0).toNat x)  : ∀ (m : Nat) (k s : Int), 150 - k < (m : Int) → 0 ≤ k → k ≤ σ.2.1 ib 0 → n_cnt (i_goP σ ia ib) k.toNat (s - x) → j_at G mX11_changed 65 [(0, .ref 5), (1, j_i s), (2, j_i k)] [] (k_h X n σ) 0 0 (k_Q X (fun v n' σ' => ∃ r : Int, v = some (j_i r) ∧ n' = n ∧ σ' = σ ∧ i_chg σ ia ib r)) := by
  intro m
  induction m with
  | zero => intro k s h1 h2 h3; have := wib.1; exact absurd h1 (by omega)
  | succ m ih =>
    intro k s hm h0 hN hs
    obtain ⟨hs99, hs0, hs1, hs2, hs3, hs4, hs5, hs6, hs7⟩ := id hA
    obtain ⟨gs99, gs0, gs1, gs2, gs3, gs4, gs5, gs6, gs7⟩ := id hB
    have hca := wia.1
    have hcb := wib.1
    refine a_iload_n (pc := 65) (i := 2) (by decide +kernel) rfl ?_
    refine a_aload_n (pc := 66) (i := 0) (by decide +kernel) rfl ?_
    refine b_getM (pc := 67) (b := ib) fl_X11_72 (by decide +kernel) (sh_5 hn) rfl hib ?_
    refine b_getI (pc := 70) fl_X11_285 (by decide +kernel) gs0 rfl ?_
    refine a_icmp_ge (pc := 73) (off := 33) (tgt := 106) (by decide +kernel) (by decide) (by omega) (by omega) (fun c73 => ?_) (fun c73 => ?_)
    · refine a_iload_n (pc := 106) (i := 1) (by decide +kernel) rfl ?_
      refine a_ireturn (pc := 107) (by decide +kernel) rfl ?_
      refine k_ret ?_
      exact ⟨_, rfl, rfl, rfl, by rw [show s = x + (s - x) by omega]; exact ⟨x, s - x, hx, by rw [show σ.2.1 ib 0 = k by omega]; exact hs, rfl⟩⟩
    · refine a_aload_n (pc := 76) (i := 0) (by decide +kernel) rfl ?_
      refine b_getM (pc := 77) (b := ia) fl_X11_68 (by decide +kernel) (sh_5 hn) rfl hia ?_
      refine a_aload_n (pc := 80) (i := 0) (by decide +kernel) rfl ?_
      refine b_getM (pc := 81) (b := ib) fl_X11_72 (by decide +kernel) (sh_5 hn) rfl hib ?_
      refine b_getR (pc := 84) (b := ib + 1) fl_X11_287 (by decide +kernel) gs0 rfl ?_
      refine a_iload_n (pc := 87) (i := 2) (by decide +kernel) rfl ?_
      refine b_iaload (pc := 88) (by decide +kernel) gs1 (by omega) (by omega) (by omega) ?_
      have hb1 := (wib.2.2.2.2 k).1
      refine b_callV (pc := 89) (c' := 0) (sl' := 0) [j_i (σ.1 (ib + 1) k)] [] ml_X11_321 (by decide +kernel) rfl rfl hs0 rfl rfl (Nat.le_of_ble_eq_true rfl) (j_fitI rfl rfl) (s_entryOf hA wia (by omega)) (fun v n' σ' hq => ?_)
      obtain ⟨x1, rfl, e1, e2, hX⟩ := hq
      rw [e1, e2]; clear e1 e2
      show j_at _ _ _ [(0, .ref 5), (1, j_i s), (2, j_i k)] [j_i x1] _ _ _ _
      have hxr := i_of_r hX
      refine a_bipush (pc := 92) (n := (-9)) (by decide +kernel) rfl ?_
      refine a_icmp_ne (pc := 94) (off := 6) (tgt := 100) (by decide +kernel) (by decide) (by omega) (by omega) (fun c94 => ?_) (fun c94 => ?_)
      · refine a_iinc (pc := 100) (i := 2) (n := 1) (x := k) (lv' := [(0, .ref 5), (1, j_i s), (2, j_i (k + 1))]) (by decide +kernel) rfl (Nat.le_of_ble_eq_true rfl) rfl ?_
        refine a_goto (pc := 103) (off := -38) (tgt := 65) (by decide +kernel) (by decide) ?_
        exact ih (k + 1) s (by omega) (by omega) (by omega) (n_cnt_n h0 (fun g => c94 (i_of_u hX g)) hs)
      · refine a_iinc (pc := 97) (i := 1) (n := 1) (x := s) (lv' := [(0, .ref 5), (1, j_i (s + 1)), (2, j_i k)]) (by decide +kernel) rfl (Nat.le_of_ble_eq_true rfl) rfl ?_
        refine a_iinc (pc := 100) (i := 2) (n := 1) (x := k) (lv' := [(0, .ref 5), (1, j_i (s + 1)), (2, j_i (k + 1))]) (by decide +kernel) rfl (Nat.le_of_ble_eq_true rfl) rfl ?_
        refine a_goto (pc := 103) (off := -38) (tgt := 65) (by decide +kernel) (by decide) ?_
        exact ih (k + 1) (s + 1) (by omega) (by omega) (by omega) (by rw [show s + 1 - x = s - x + 1 by omega]; exact n_cnt_y h0 (by unfold i_goP; rw [← c94]; exact hX) hs)
set_option maxHeartbeats 4000000 in
theorem l_chg4 {G : j_G} {X : k_X} {n : Nat} {σ : k_St} (hn : 101 ≤ n) {ia ib : Nat} (hab : ia = 48 ∧ ib = 58 ∨ ia = 58 ∧ ib = 48) (hia : σ.2.2 5 8 = some ia) (hib : σ.2.2 5 9 = some ib) (hA : i_at X n ia) (hB : i_at X n ib) (wia : i_wf σ ia) (wib : i_wf σ ib)  : ∀ (m : Nat) (k s : Int), 150 - k < (m : Int) → 0 ≤ k → k ≤ σ.2.1 ia 0 → n_cnt (i_chP σ ia ib) k.toNat s → j_at G mX11_changed 4 [(0, .ref 5), (1, j_i s), (2, j_i k)] [] (k_h X n σ) 0 0 (k_Q X (fun v n' σ' => ∃ r : Int, v = some (j_i r) ∧ n' = n ∧ σ' = σ ∧ i_chg σ ia ib r)) := by
  intro m
  induction m with
  | zero => intro k s h1 h2 h3; have := wia.1; exact absurd h1 (by omega)
  | succ m ih =>
    intro k s hm h0 hN hs
    obtain ⟨hs99, hs0, hs1, hs2, hs3, hs4, hs5, hs6, hs7⟩ := id hA
    obtain ⟨gs99, gs0, gs1, gs2, gs3, gs4, gs5, gs6, gs7⟩ := id hB
    have hca := wia.1
    have hcb := wib.1
    refine a_iload_n (pc := 4) (i := 2) (by decide +kernel) rfl ?_
    refine a_aload_n (pc := 5) (i := 0) (by decide +kernel) rfl ?_
    refine b_getM (pc := 6) (b := ia) fl_X11_68 (by decide +kernel) (sh_5 hn) rfl hia ?_
    refine b_getI (pc := 9) fl_X11_285 (by decide +kernel) hs0 rfl ?_
    refine a_icmp_ge (pc := 12) (off := 51) (tgt := 63) (by decide +kernel) (by decide) (by omega) (by omega) (fun c12 => ?_) (fun c12 => ?_)
    · refine a_iconst (pc := 63) (n := 0) (by decide +kernel) ?_
      refine a_istore_n (pc := 64) (i := 2) (lv' := [(0, .ref 5), (1, j_i s), (2, j_i 0)]) (by decide +kernel) (Nat.le_of_ble_eq_true rfl) rfl ?_
      exact l_chg65 hn hab hia hib hA hB wia wib (by rw [show σ.2.1 ia 0 = k by omega]; exact hs) 151 0 s (by omega) (by omega) (by omega) (by rw [show s - s = 0 by omega]; rfl)
    · refine a_aload_n (pc := 15) (i := 0) (by decide +kernel) rfl ?_
      refine b_getM (pc := 16) (b := ib) fl_X11_72 (by decide +kernel) (sh_5 hn) rfl hib ?_
      refine a_aload_n (pc := 19) (i := 0) (by decide +kernel) rfl ?_
      refine b_getM (pc := 20) (b := ia) fl_X11_68 (by decide +kernel) (sh_5 hn) rfl hia ?_
      refine b_getR (pc := 23) (b := ia + 1) fl_X11_287 (by decide +kernel) hs0 rfl ?_
      refine a_iload_n (pc := 26) (i := 2) (by decide +kernel) rfl ?_
      refine b_iaload (pc := 27) (by decide +kernel) hs1 (by omega) (by omega) (by omega) ?_
      have hb1 := (wia.2.2.2.2 k).1
      refine b_callV (pc := 28) (c' := 0) (sl' := 0) [j_i (σ.1 (ia + 1) k)] [] ml_X11_321 (by decide +kernel) rfl rfl gs0 rfl rfl (Nat.le_of_ble_eq_true rfl) (j_fitI rfl rfl) (s_entryOf hB wib (by omega)) (fun v n' σ' hq => ?_)
      obtain ⟨x1, rfl, e1, e2, hX⟩ := hq
      rw [e1, e2]; clear e1 e2
      show j_at _ _ _ [(0, .ref 5), (1, j_i s), (2, j_i k)] [j_i x1] _ _ _ _
      refine a_istore_n (pc := 31) (i := 3) (lv' := [(0, .ref 5), (1, j_i s), (2, j_i k), (3, j_i x1)]) (by decide +kernel) (Nat.le_of_ble_eq_true rfl) rfl ?_
      have hxr := i_of_r hX
      refine a_iload_n (pc := 32) (i := 3) (by decide +kernel) rfl ?_
      refine a_bipush (pc := 33) (n := (-9)) (by decide +kernel) rfl ?_
      refine a_icmp_eq (pc := 35) (off := 19) (tgt := 54) (by decide +kernel) (by decide) (by omega) (by omega) (fun c35 => ?_) (fun c35 => ?_)
      · refine a_iinc (pc := 54) (i := 1) (n := 1) (x := s) (lv' := [(0, .ref 5), (1, j_i (s + 1)), (2, j_i k), (3, j_i x1)]) (by decide +kernel) rfl (Nat.le_of_ble_eq_true rfl) rfl ?_
        refine a_iinc (pc := 57) (i := 2) (n := 1) (x := k) (lv' := [(0, .ref 5), (1, j_i (s + 1)), (2, j_i (k + 1)), (3, j_i x1)]) (by decide +kernel) rfl (Nat.le_of_ble_eq_true rfl) rfl ?_
        refine a_goto (pc := 60) (off := -56) (tgt := 4) (by decide +kernel) (by decide) ?_
        refine a_sub (pc := 4) (lv' := [(0, .ref 5), (1, j_i (s + 1)), (2, j_i (k + 1))]) (fun q hq => by simp only [List.mem_cons, List.not_mem_nil, or_false] at hq ⊢; rcases hq with rfl | rfl | rfl <;> simp) (ih (k + 1) (s + 1) (by omega) (by omega) (by omega) (n_cnt_y h0 ⟨_, hX, by first | exact Or.inl c35 | exact Or.inr p48⟩ hs))
      · refine a_aload_n (pc := 38) (i := 0) (by decide +kernel) rfl ?_
        refine b_getM (pc := 39) (b := ia) fl_X11_68 (by decide +kernel) (sh_5 hn) rfl hia ?_
        refine a_iload_n (pc := 42) (i := 2) (by decide +kernel) rfl ?_
        refine a_aload_n (pc := 43) (i := 0) (by decide +kernel) rfl ?_
        refine b_getM (pc := 44) (b := ib) fl_X11_72 (by decide +kernel) (sh_5 hn) rfl hib ?_
        refine a_iload_n (pc := 47) (i := 3) (by decide +kernel) rfl ?_
        refine b_callV (pc := 48) (c' := 0) (sl' := 0) [j_i k, .ref ib, j_i x1] [] ml_X11_339 (by decide +kernel) rfl rfl hs0 rfl rfl (Nat.le_of_ble_eq_true rfl) (j_fitI rfl rfl) (s_isAlike hA wia hB wib (by omega) (by omega)) (fun v n' σ' hq => ?_)
        obtain ⟨x, rfl, e1, e2, hx⟩ := hq
        rw [e1, e2]; clear e1 e2
        rcases hx with ⟨rfl, p48⟩ | ⟨rfl, p48⟩
        · show j_at _ _ _ [(0, .ref 5), (1, j_i s), (2, j_i k), (3, j_i x1)] [j_i 1] _ _ _ _
          refine a_if_ne (pc := 51) (off := 6) (tgt := 57) (by decide +kernel) (by decide) (by omega) (fun c51 => ?_) (fun c51 => ?_)
          · refine a_iinc (pc := 57) (i := 2) (n := 1) (x := k) (lv' := [(0, .ref 5), (1, j_i s), (2, j_i (k + 1)), (3, j_i x1)]) (by decide +kernel) rfl (Nat.le_of_ble_eq_true rfl) rfl ?_
            refine a_goto (pc := 60) (off := -56) (tgt := 4) (by decide +kernel) (by decide) ?_
            refine a_sub (pc := 4) (lv' := [(0, .ref 5), (1, j_i (s)), (2, j_i (k + 1))]) (fun q hq => by simp only [List.mem_cons, List.not_mem_nil, or_false] at hq ⊢; rcases hq with rfl | rfl | rfl <;> simp) (ih (k + 1) s (by omega) (by omega) (by omega) (n_cnt_n h0 (fun ⟨r, g1, g2⟩ => by have g3 := i_of_u hX g1; subst g3; rcases g2 with g2 | g2; exact c35 g2; exact g2 p48) hs))
          · exact absurd c51 (by decide)
        · show j_at _ _ _ [(0, .ref 5), (1, j_i s), (2, j_i k), (3, j_i x1)] [j_i 0] _ _ _ _
          refine a_if_ne (pc := 51) (off := 6) (tgt := 57) (by decide +kernel) (by decide) (by omega) (fun c51 => ?_) (fun c51 => ?_)
          · exact absurd c51 (by decide)
          · refine a_iinc (pc := 54) (i := 1) (n := 1) (x := s) (lv' := [(0, .ref 5), (1, j_i (s + 1)), (2, j_i k), (3, j_i x1)]) (by decide +kernel) rfl (Nat.le_of_ble_eq_true rfl) rfl ?_
            refine a_iinc (pc := 57) (i := 2) (n := 1) (x := k) (lv' := [(0, .ref 5), (1, j_i (s + 1)), (2, j_i (k + 1)), (3, j_i x1)]) (by decide +kernel) rfl (Nat.le_of_ble_eq_true rfl) rfl ?_
            refine a_goto (pc := 60) (off := -56) (tgt := 4) (by decide +kernel) (by decide) ?_
            refine a_sub (pc := 4) (lv' := [(0, .ref 5), (1, j_i (s + 1)), (2, j_i (k + 1))]) (fun q hq => by simp only [List.mem_cons, List.not_mem_nil, or_false] at hq ⊢; rcases hq with rfl | rfl | rfl <;> simp) (ih (k + 1) (s + 1) (by omega) (by omega) (by omega) (n_cnt_y h0 ⟨_, hX, by first | exact Or.inl c35 | exact Or.inr p48⟩ hs))
set_option maxHeartbeats 4000000 in
theorem c_changed {G : j_G} {X : k_X} {n : Nat} {σ : k_St} (hn : 101 ≤ n) {ia ib : Nat} (hab : ia = 48 ∧ ib = 58 ∨ ia = 58 ∧ ib = 48) (hia : σ.2.2 5 8 = some ia) (hib : σ.2.2 5 9 = some ib) (hA : i_at X n ia) (hB : i_at X n ib) (wia : i_wf σ ia) (wib : i_wf σ ib)  : k_run G X mX11_changed [.ref 5] n σ 0 0 (fun v n' σ' => ∃ r : Int, v = some (j_i r) ∧ n' = n ∧ σ' = σ ∧ i_chg σ ia ib r) := by
  refine k_enter (by decide +kernel) (Nat.le_of_ble_eq_true rfl) ?_
  show j_at _ _ _ [(0, .ref 5)] [] _ _ _ _
  refine a_iconst (pc := 0) (n := 0) (by decide +kernel) ?_
  refine a_istore_n (pc := 1) (i := 1) (lv' := [(0, .ref 5), (1, j_i 0)]) (by decide +kernel) (Nat.le_of_ble_eq_true rfl) rfl ?_
  refine a_iconst (pc := 2) (n := 0) (by decide +kernel) ?_
  refine a_istore_n (pc := 3) (i := 2) (lv' := [(0, .ref 5), (1, j_i 0), (2, j_i 0)]) (by decide +kernel) (Nat.le_of_ble_eq_true rfl) rfl ?_
  exact l_chg4 hn hab hia hib hA hB wia wib 151 0 0 (by omega) (by omega) (by have := wia.1; omega) rfl
set_option maxHeartbeats 4000000 in
theorem d_changed {G : j_G} {X : k_X} {n : Nat} {σ : k_St} (hn : 101 ≤ n)  : k_run G X mX12_changed [.ref 68] n σ 0 0 (k_is n σ (some (j_i (σ.2.1 68 45)))) := by
  refine k_enter (by decide +kernel) (Nat.le_of_ble_eq_true rfl) ?_
  show j_at _ _ _ [(0, .ref 68)] [] _ _ _ _
  refine a_aload_n (pc := 0) (i := 0) (by decide +kernel) rfl ?_
  refine b_getI (pc := 1) fl_X12_386 (by decide +kernel) (sh_68 hn) rfl ?_
  refine a_ireturn (pc := 4) (by decide +kernel) rfl ?_
  refine k_ret ?_
  exact ⟨rfl, rfl, rfl⟩
set_option maxHeartbeats 4000000 in
theorem p_changed {G : j_G} {X : k_X} {n : Nat} {σ : k_St} (hR : RR n σ)  : pr_ok G X mX11_changed mX12_changed [] n σ 0 0 := by
  have hn := RR_n hR
  obtain ⟨ia, ib, hab, hia, hib, wia, wib, ria, rib, hrg, h01, hIR, hchg⟩ := id hR.2.2.2.2.2.2
  have hA : i_at X n ia := by rcases hab with q | q; rw [q.1]; exact iA_48 hn; rw [q.1]; exact iA_58 hn
  have hB : i_at X n ib := by rcases hab with q | q; rw [q.2]; exact iA_58 hn; rw [q.2]; exact iA_48 hn
  refine ⟨_, c_changed hn hab hia hib hA hB wia wib, fun v n' σ' hq => ?_⟩
  obtain ⟨r, hv, rfl, rfl, hP⟩ := hq
  refine ⟨hn, r, hv, k_runw (fun v2 n2 σ2 q => ?_) (d_changed hn)⟩
  obtain ⟨q2, q3, q4⟩ := q
  subst q3; subst q4
  obtain ⟨x, y, h1, h2, h3⟩ := hP
  obtain ⟨x', y', h1', h2', h3'⟩ := hchg
  have e1 := n_cnt_u h1 h1'
  have e2 := n_cnt_u h2 h2'
  exact ⟨by rw [q2, h3, h3', e1, e2], hR⟩
