theorem and63 (x : Int) : ∃ v : Int, (0 ≤ v ∧ v ≤ 63) ∧ Int32.ofInt x &&& Int32.ofInt 63 = Int32.ofInt v := by
  refine ⟨((Int32.ofInt x).toBitVec &&& 63#32).toNat, ?_, ?_⟩
  · have h : ((Int32.ofInt x).toBitVec &&& 63#32).toNat ≤ 63 := by
      rw [BitVec.toNat_and]
      exact Nat.and_le_right
    omega
  · apply Int32.toBitVec_inj.mp
    show (Int32.ofInt x).toBitVec &&& 63#32 = BitVec.ofInt 32 _
    rw [BitVec.ofInt_natCast, BitVec.ofNat_toNat]
    simp
set_option maxHeartbeats 40000000 in
theorem l_law18 {G : j_G} {X : k_X} (hX : X.1 ≤ 1000000) (hr : ∀ j, -2147483648 ≤ k_rof X 0 j ∧ k_rof X 0 j ≤ 2147483647)  : ∀ (z : Nat) (i : Int) (n : Nat) (σ : k_St), RR n σ → 0 ≤ i → i ≤ X.1 + 7 → (X.1 : Int) ≤ i + 7 * (z : Int) → j_at G mL_law 18 [(0, .ref 0), (1, .ref 5), (2, .ref 68), (3, j_i i)] [] (k_h X n σ) (16 * z) (1618 * z) (k_Q X (fun v n' σ' => v = some (j_i 1))) := by
  intro z
  induction z with
  | zero =>
    intro i n σ hR h0 h9 h1
    have hn := RR_n hR
    refine a_iload_n (pc := 18) (i := 3) (by decide +kernel) rfl ?_
    refine a_aload_n (pc := 19) (i := 0) (by decide +kernel) rfl ?_
    refine b_len (pc := 20) (by decide +kernel) (sh_0 hn) (by decide) ?_
    refine a_bipush (pc := 21) (n := 7) (by decide +kernel) rfl ?_
    refine a_isub (pc := 23) (by decide +kernel) ?_
    refine a_icmp_gt (pc := 24) (off := 1606) (tgt := 1630) (by decide +kernel) (by decide) (by omega) (by omega) (fun c24 => ?_) (fun c24 => ?_)
    · refine a_iconst (pc := 1630) (n := 1) (by decide +kernel) ?_
      refine a_zreturn (pc := 1631) (by decide +kernel) rfl (by omega) ?_
      refine k_ret ?_
      rfl
    · exact absurd c24 (by omega)
  | succ z ih =>
    intro i n σ hR h0 h9 h1
    have hn := RR_n hR
    show j_at _ _ _ _ _ _ (16 * z + 16) (1618 * z + 1618) _
    by_cases hi9 : i + 7 ≤ X.1
    · have next : ∀ n' σ', RR n' σ' → j_at G mL_law 1624 [(0, .ref 0), (1, .ref 5), (2, .ref 68), (3, j_i i)] [] (k_h X n' σ') (16 * z) (1618 * z) (k_Q X (fun v n' σ' => v = some (j_i 1))) := by
        intro n' σ' hR'
        refine a_iinc (pc := 1624) (i := 3) (n := 7) (x := i) (lv' := [(0, .ref 0), (1, .ref 5), (2, .ref 68), (3, j_i (i + 7))]) (by decide +kernel) rfl (Nat.le_of_ble_eq_true rfl) rfl ?_
        refine a_goto (pc := 1627) (off := -1609) (tgt := 18) (by decide +kernel) (by decide) ?_
        exact ih (i + 7) n' σ' hR' (by omega) (by omega) (by omega)
      refine a_iload_n (pc := 18) (i := 3) (by decide +kernel) rfl ?_
      refine a_aload_n (pc := 19) (i := 0) (by decide +kernel) rfl ?_
      refine b_len (pc := 20) (by decide +kernel) (sh_0 hn) (by decide) ?_
      refine a_bipush (pc := 21) (n := 7) (by decide +kernel) rfl ?_
      refine a_isub (pc := 23) (by decide +kernel) ?_
      refine a_icmp_gt (pc := 24) (off := 1606) (tgt := 1630) (by decide +kernel) (by decide) (by omega) (by omega) (fun c24 => ?_) (fun c24 => ?_)
      · refine a_iconst (pc := 1630) (n := 1) (by decide +kernel) ?_
        refine a_zreturn (pc := 1631) (by decide +kernel) rfl (by omega) ?_
        refine k_ret ?_
        rfl
      · refine a_aload_n (pc := 27) (i := 0) (by decide +kernel) rfl ?_
        refine a_iload_n (pc := 28) (i := 3) (by decide +kernel) rfl ?_
        refine b_siload (pc := 29) (by decide +kernel) (sh_0 hn) (by decide) (by omega) hX ?_
        refine a_bipush (pc := 30) (n := 63) (by decide +kernel) rfl ?_
        refine a_iand (pc := 32) (by decide +kernel) ?_
        obtain ⟨v, hv, hve⟩ := and63 (k_rof X 0 i)
        rw [hve]
        by_cases c33 : v < 0 ∨ 43 < v
        · refine a_tableOut (pc := 33) (tgt := 1624) (dflt := 1591) (lo := 0) (hi := 43) (offs := #[191, 224, 247, 290, 313, 336, 389, 412, 445, 488, 551, 564, 577, 600, 613, 646, 689, 732, 755, 788, 863, 932, 955, 988, 1011, 1034, 1077, 1110, 1153, 1196, 1239, 1252, 1265, 1288, 1311, 1324, 1367, 1410, 1423, 1456, 1479, 1542, 1555, 1568]) (len := 191) (by decide +kernel) (by omega) c33 (by decide) ?_
          exact j_more (by omega) (by omega) (next n σ hR)
        rcases (show v = 0 ∨ v = 1 ∨ v = 2 ∨ v = 3 ∨ v = 4 ∨ v = 5 ∨ v = 6 ∨ v = 7 ∨ v = 8 ∨ v = 9 ∨ v = 10 ∨ v = 11 ∨ v = 12 ∨ v = 13 ∨ v = 14 ∨ v = 15 ∨ v = 16 ∨ v = 17 ∨ v = 18 ∨ v = 19 ∨ v = 20 ∨ v = 21 ∨ v = 22 ∨ v = 23 ∨ v = 24 ∨ v = 25 ∨ v = 26 ∨ v = 27 ∨ v = 28 ∨ v = 29 ∨ v = 30 ∨ v = 31 ∨ v = 32 ∨ v = 33 ∨ v = 34 ∨ v = 35 ∨ v = 36 ∨ v = 37 ∨ v = 38 ∨ v = 39 ∨ v = 40 ∨ v = 41 ∨ v = 42 ∨ v = 43 by omega) with c33 | c33 | c33 | c33 | c33 | c33 | c33 | c33 | c33 | c33 | c33 | c33 | c33 | c33 | c33 | c33 | c33 | c33 | c33 | c33 | c33 | c33 | c33 | c33 | c33 | c33 | c33 | c33 | c33 | c33 | c33 | c33 | c33 | c33 | c33 | c33 | c33 | c33 | c33 | c33 | c33 | c33 | c33 | c33
        · subst c33
          refine a_tableIn (pc := 33) (tgt := 224) (dflt := 1591) (lo := 0) (hi := 43) (off := 191) (offs := #[191, 224, 247, 290, 313, 336, 389, 412, 445, 488, 551, 564, 577, 600, 613, 646, 689, 732, 755, 788, 863, 932, 955, 988, 1011, 1034, 1077, 1110, 1153, 1196, 1239, 1252, 1265, 1288, 1311, 1324, 1367, 1410, 1423, 1456, 1479, 1542, 1555, 1568]) (len := 191) (by decide +kernel) (by decide) (by decide) (by decide) rfl (by decide) ?_
          exact w_0 hR (by omega) hX hr next
        · subst c33
          refine a_tableIn (pc := 33) (tgt := 257) (dflt := 1591) (lo := 0) (hi := 43) (off := 224) (offs := #[191, 224, 247, 290, 313, 336, 389, 412, 445, 488, 551, 564, 577, 600, 613, 646, 689, 732, 755, 788, 863, 932, 955, 988, 1011, 1034, 1077, 1110, 1153, 1196, 1239, 1252, 1265, 1288, 1311, 1324, 1367, 1410, 1423, 1456, 1479, 1542, 1555, 1568]) (len := 191) (by decide +kernel) (by decide) (by decide) (by decide) rfl (by decide) ?_
          exact w_1 hR (by omega) hX hr next
        · subst c33
          refine a_tableIn (pc := 33) (tgt := 280) (dflt := 1591) (lo := 0) (hi := 43) (off := 247) (offs := #[191, 224, 247, 290, 313, 336, 389, 412, 445, 488, 551, 564, 577, 600, 613, 646, 689, 732, 755, 788, 863, 932, 955, 988, 1011, 1034, 1077, 1110, 1153, 1196, 1239, 1252, 1265, 1288, 1311, 1324, 1367, 1410, 1423, 1456, 1479, 1542, 1555, 1568]) (len := 191) (by decide +kernel) (by decide) (by decide) (by decide) rfl (by decide) ?_
          exact w_2 hR (by omega) hX hr next
        · subst c33
          refine a_tableIn (pc := 33) (tgt := 323) (dflt := 1591) (lo := 0) (hi := 43) (off := 290) (offs := #[191, 224, 247, 290, 313, 336, 389, 412, 445, 488, 551, 564, 577, 600, 613, 646, 689, 732, 755, 788, 863, 932, 955, 988, 1011, 1034, 1077, 1110, 1153, 1196, 1239, 1252, 1265, 1288, 1311, 1324, 1367, 1410, 1423, 1456, 1479, 1542, 1555, 1568]) (len := 191) (by decide +kernel) (by decide) (by decide) (by decide) rfl (by decide) ?_
          exact w_3 hR (by omega) hX hr next
        · subst c33
          refine a_tableIn (pc := 33) (tgt := 346) (dflt := 1591) (lo := 0) (hi := 43) (off := 313) (offs := #[191, 224, 247, 290, 313, 336, 389, 412, 445, 488, 551, 564, 577, 600, 613, 646, 689, 732, 755, 788, 863, 932, 955, 988, 1011, 1034, 1077, 1110, 1153, 1196, 1239, 1252, 1265, 1288, 1311, 1324, 1367, 1410, 1423, 1456, 1479, 1542, 1555, 1568]) (len := 191) (by decide +kernel) (by decide) (by decide) (by decide) rfl (by decide) ?_
          exact w_4 hR (by omega) hX hr next
        · subst c33
          refine a_tableIn (pc := 33) (tgt := 369) (dflt := 1591) (lo := 0) (hi := 43) (off := 336) (offs := #[191, 224, 247, 290, 313, 336, 389, 412, 445, 488, 551, 564, 577, 600, 613, 646, 689, 732, 755, 788, 863, 932, 955, 988, 1011, 1034, 1077, 1110, 1153, 1196, 1239, 1252, 1265, 1288, 1311, 1324, 1367, 1410, 1423, 1456, 1479, 1542, 1555, 1568]) (len := 191) (by decide +kernel) (by decide) (by decide) (by decide) rfl (by decide) ?_
          exact w_5 hR (by omega) hX hr next
        · subst c33
          refine a_tableIn (pc := 33) (tgt := 422) (dflt := 1591) (lo := 0) (hi := 43) (off := 389) (offs := #[191, 224, 247, 290, 313, 336, 389, 412, 445, 488, 551, 564, 577, 600, 613, 646, 689, 732, 755, 788, 863, 932, 955, 988, 1011, 1034, 1077, 1110, 1153, 1196, 1239, 1252, 1265, 1288, 1311, 1324, 1367, 1410, 1423, 1456, 1479, 1542, 1555, 1568]) (len := 191) (by decide +kernel) (by decide) (by decide) (by decide) rfl (by decide) ?_
          exact w_6 hR (by omega) hX hr next
        · subst c33
          refine a_tableIn (pc := 33) (tgt := 445) (dflt := 1591) (lo := 0) (hi := 43) (off := 412) (offs := #[191, 224, 247, 290, 313, 336, 389, 412, 445, 488, 551, 564, 577, 600, 613, 646, 689, 732, 755, 788, 863, 932, 955, 988, 1011, 1034, 1077, 1110, 1153, 1196, 1239, 1252, 1265, 1288, 1311, 1324, 1367, 1410, 1423, 1456, 1479, 1542, 1555, 1568]) (len := 191) (by decide +kernel) (by decide) (by decide) (by decide) rfl (by decide) ?_
          exact w_7 hR (by omega) hX hr next
        · subst c33
          refine a_tableIn (pc := 33) (tgt := 478) (dflt := 1591) (lo := 0) (hi := 43) (off := 445) (offs := #[191, 224, 247, 290, 313, 336, 389, 412, 445, 488, 551, 564, 577, 600, 613, 646, 689, 732, 755, 788, 863, 932, 955, 988, 1011, 1034, 1077, 1110, 1153, 1196, 1239, 1252, 1265, 1288, 1311, 1324, 1367, 1410, 1423, 1456, 1479, 1542, 1555, 1568]) (len := 191) (by decide +kernel) (by decide) (by decide) (by decide) rfl (by decide) ?_
          exact w_8 hR (by omega) hX hr next
        · subst c33
          refine a_tableIn (pc := 33) (tgt := 521) (dflt := 1591) (lo := 0) (hi := 43) (off := 488) (offs := #[191, 224, 247, 290, 313, 336, 389, 412, 445, 488, 551, 564, 577, 600, 613, 646, 689, 732, 755, 788, 863, 932, 955, 988, 1011, 1034, 1077, 1110, 1153, 1196, 1239, 1252, 1265, 1288, 1311, 1324, 1367, 1410, 1423, 1456, 1479, 1542, 1555, 1568]) (len := 191) (by decide +kernel) (by decide) (by decide) (by decide) rfl (by decide) ?_
          exact w_9 hR (by omega) hX hr next
        · subst c33
          refine a_tableIn (pc := 33) (tgt := 584) (dflt := 1591) (lo := 0) (hi := 43) (off := 551) (offs := #[191, 224, 247, 290, 313, 336, 389, 412, 445, 488, 551, 564, 577, 600, 613, 646, 689, 732, 755, 788, 863, 932, 955, 988, 1011, 1034, 1077, 1110, 1153, 1196, 1239, 1252, 1265, 1288, 1311, 1324, 1367, 1410, 1423, 1456, 1479, 1542, 1555, 1568]) (len := 191) (by decide +kernel) (by decide) (by decide) (by decide) rfl (by decide) ?_
          exact w_10 hR (by omega) hX hr next
        · subst c33
          refine a_tableIn (pc := 33) (tgt := 597) (dflt := 1591) (lo := 0) (hi := 43) (off := 564) (offs := #[191, 224, 247, 290, 313, 336, 389, 412, 445, 488, 551, 564, 577, 600, 613, 646, 689, 732, 755, 788, 863, 932, 955, 988, 1011, 1034, 1077, 1110, 1153, 1196, 1239, 1252, 1265, 1288, 1311, 1324, 1367, 1410, 1423, 1456, 1479, 1542, 1555, 1568]) (len := 191) (by decide +kernel) (by decide) (by decide) (by decide) rfl (by decide) ?_
          exact w_11 hR (by omega) hX hr next
        · subst c33
          refine a_tableIn (pc := 33) (tgt := 610) (dflt := 1591) (lo := 0) (hi := 43) (off := 577) (offs := #[191, 224, 247, 290, 313, 336, 389, 412, 445, 488, 551, 564, 577, 600, 613, 646, 689, 732, 755, 788, 863, 932, 955, 988, 1011, 1034, 1077, 1110, 1153, 1196, 1239, 1252, 1265, 1288, 1311, 1324, 1367, 1410, 1423, 1456, 1479, 1542, 1555, 1568]) (len := 191) (by decide +kernel) (by decide) (by decide) (by decide) rfl (by decide) ?_
          exact w_12 hR (by omega) hX hr next
        · subst c33
          refine a_tableIn (pc := 33) (tgt := 633) (dflt := 1591) (lo := 0) (hi := 43) (off := 600) (offs := #[191, 224, 247, 290, 313, 336, 389, 412, 445, 488, 551, 564, 577, 600, 613, 646, 689, 732, 755, 788, 863, 932, 955, 988, 1011, 1034, 1077, 1110, 1153, 1196, 1239, 1252, 1265, 1288, 1311, 1324, 1367, 1410, 1423, 1456, 1479, 1542, 1555, 1568]) (len := 191) (by decide +kernel) (by decide) (by decide) (by decide) rfl (by decide) ?_
          exact w_13 hR (by omega) hX hr next
        · subst c33
          refine a_tableIn (pc := 33) (tgt := 646) (dflt := 1591) (lo := 0) (hi := 43) (off := 613) (offs := #[191, 224, 247, 290, 313, 336, 389, 412, 445, 488, 551, 564, 577, 600, 613, 646, 689, 732, 755, 788, 863, 932, 955, 988, 1011, 1034, 1077, 1110, 1153, 1196, 1239, 1252, 1265, 1288, 1311, 1324, 1367, 1410, 1423, 1456, 1479, 1542, 1555, 1568]) (len := 191) (by decide +kernel) (by decide) (by decide) (by decide) rfl (by decide) ?_
          exact w_14 hR (by omega) hX hr next
        · subst c33
          refine a_tableIn (pc := 33) (tgt := 679) (dflt := 1591) (lo := 0) (hi := 43) (off := 646) (offs := #[191, 224, 247, 290, 313, 336, 389, 412, 445, 488, 551, 564, 577, 600, 613, 646, 689, 732, 755, 788, 863, 932, 955, 988, 1011, 1034, 1077, 1110, 1153, 1196, 1239, 1252, 1265, 1288, 1311, 1324, 1367, 1410, 1423, 1456, 1479, 1542, 1555, 1568]) (len := 191) (by decide +kernel) (by decide) (by decide) (by decide) rfl (by decide) ?_
          exact w_15 hR (by omega) hX hr next
        · subst c33
          refine a_tableIn (pc := 33) (tgt := 722) (dflt := 1591) (lo := 0) (hi := 43) (off := 689) (offs := #[191, 224, 247, 290, 313, 336, 389, 412, 445, 488, 551, 564, 577, 600, 613, 646, 689, 732, 755, 788, 863, 932, 955, 988, 1011, 1034, 1077, 1110, 1153, 1196, 1239, 1252, 1265, 1288, 1311, 1324, 1367, 1410, 1423, 1456, 1479, 1542, 1555, 1568]) (len := 191) (by decide +kernel) (by decide) (by decide) (by decide) rfl (by decide) ?_
          exact w_16 hR (by omega) hX hr next
        · subst c33
          refine a_tableIn (pc := 33) (tgt := 765) (dflt := 1591) (lo := 0) (hi := 43) (off := 732) (offs := #[191, 224, 247, 290, 313, 336, 389, 412, 445, 488, 551, 564, 577, 600, 613, 646, 689, 732, 755, 788, 863, 932, 955, 988, 1011, 1034, 1077, 1110, 1153, 1196, 1239, 1252, 1265, 1288, 1311, 1324, 1367, 1410, 1423, 1456, 1479, 1542, 1555, 1568]) (len := 191) (by decide +kernel) (by decide) (by decide) (by decide) rfl (by decide) ?_
          exact w_17 hR (by omega) hX hr next
        · subst c33
          refine a_tableIn (pc := 33) (tgt := 788) (dflt := 1591) (lo := 0) (hi := 43) (off := 755) (offs := #[191, 224, 247, 290, 313, 336, 389, 412, 445, 488, 551, 564, 577, 600, 613, 646, 689, 732, 755, 788, 863, 932, 955, 988, 1011, 1034, 1077, 1110, 1153, 1196, 1239, 1252, 1265, 1288, 1311, 1324, 1367, 1410, 1423, 1456, 1479, 1542, 1555, 1568]) (len := 191) (by decide +kernel) (by decide) (by decide) (by decide) rfl (by decide) ?_
          exact w_18 hR (by omega) hX hr next
        · subst c33
          refine a_tableIn (pc := 33) (tgt := 821) (dflt := 1591) (lo := 0) (hi := 43) (off := 788) (offs := #[191, 224, 247, 290, 313, 336, 389, 412, 445, 488, 551, 564, 577, 600, 613, 646, 689, 732, 755, 788, 863, 932, 955, 988, 1011, 1034, 1077, 1110, 1153, 1196, 1239, 1252, 1265, 1288, 1311, 1324, 1367, 1410, 1423, 1456, 1479, 1542, 1555, 1568]) (len := 191) (by decide +kernel) (by decide) (by decide) (by decide) rfl (by decide) ?_
          exact w_19 hR (by omega) hX hr next
        · subst c33
          refine a_tableIn (pc := 33) (tgt := 896) (dflt := 1591) (lo := 0) (hi := 43) (off := 863) (offs := #[191, 224, 247, 290, 313, 336, 389, 412, 445, 488, 551, 564, 577, 600, 613, 646, 689, 732, 755, 788, 863, 932, 955, 988, 1011, 1034, 1077, 1110, 1153, 1196, 1239, 1252, 1265, 1288, 1311, 1324, 1367, 1410, 1423, 1456, 1479, 1542, 1555, 1568]) (len := 191) (by decide +kernel) (by decide) (by decide) (by decide) rfl (by decide) ?_
          exact w_20 hR (by omega) hX hr next
        · subst c33
          refine a_tableIn (pc := 33) (tgt := 965) (dflt := 1591) (lo := 0) (hi := 43) (off := 932) (offs := #[191, 224, 247, 290, 313, 336, 389, 412, 445, 488, 551, 564, 577, 600, 613, 646, 689, 732, 755, 788, 863, 932, 955, 988, 1011, 1034, 1077, 1110, 1153, 1196, 1239, 1252, 1265, 1288, 1311, 1324, 1367, 1410, 1423, 1456, 1479, 1542, 1555, 1568]) (len := 191) (by decide +kernel) (by decide) (by decide) (by decide) rfl (by decide) ?_
          exact w_21 hR (by omega) hX hr next
        · subst c33
          refine a_tableIn (pc := 33) (tgt := 988) (dflt := 1591) (lo := 0) (hi := 43) (off := 955) (offs := #[191, 224, 247, 290, 313, 336, 389, 412, 445, 488, 551, 564, 577, 600, 613, 646, 689, 732, 755, 788, 863, 932, 955, 988, 1011, 1034, 1077, 1110, 1153, 1196, 1239, 1252, 1265, 1288, 1311, 1324, 1367, 1410, 1423, 1456, 1479, 1542, 1555, 1568]) (len := 191) (by decide +kernel) (by decide) (by decide) (by decide) rfl (by decide) ?_
          exact w_22 hR (by omega) hX hr next
        · subst c33
          refine a_tableIn (pc := 33) (tgt := 1021) (dflt := 1591) (lo := 0) (hi := 43) (off := 988) (offs := #[191, 224, 247, 290, 313, 336, 389, 412, 445, 488, 551, 564, 577, 600, 613, 646, 689, 732, 755, 788, 863, 932, 955, 988, 1011, 1034, 1077, 1110, 1153, 1196, 1239, 1252, 1265, 1288, 1311, 1324, 1367, 1410, 1423, 1456, 1479, 1542, 1555, 1568]) (len := 191) (by decide +kernel) (by decide) (by decide) (by decide) rfl (by decide) ?_
          exact w_23 hR (by omega) hX hr next
        · subst c33
          refine a_tableIn (pc := 33) (tgt := 1044) (dflt := 1591) (lo := 0) (hi := 43) (off := 1011) (offs := #[191, 224, 247, 290, 313, 336, 389, 412, 445, 488, 551, 564, 577, 600, 613, 646, 689, 732, 755, 788, 863, 932, 955, 988, 1011, 1034, 1077, 1110, 1153, 1196, 1239, 1252, 1265, 1288, 1311, 1324, 1367, 1410, 1423, 1456, 1479, 1542, 1555, 1568]) (len := 191) (by decide +kernel) (by decide) (by decide) (by decide) rfl (by decide) ?_
          exact w_24 hR (by omega) hX hr next
        · subst c33
          refine a_tableIn (pc := 33) (tgt := 1067) (dflt := 1591) (lo := 0) (hi := 43) (off := 1034) (offs := #[191, 224, 247, 290, 313, 336, 389, 412, 445, 488, 551, 564, 577, 600, 613, 646, 689, 732, 755, 788, 863, 932, 955, 988, 1011, 1034, 1077, 1110, 1153, 1196, 1239, 1252, 1265, 1288, 1311, 1324, 1367, 1410, 1423, 1456, 1479, 1542, 1555, 1568]) (len := 191) (by decide +kernel) (by decide) (by decide) (by decide) rfl (by decide) ?_
          exact w_25 hR (by omega) hX hr next
        · subst c33
          refine a_tableIn (pc := 33) (tgt := 1110) (dflt := 1591) (lo := 0) (hi := 43) (off := 1077) (offs := #[191, 224, 247, 290, 313, 336, 389, 412, 445, 488, 551, 564, 577, 600, 613, 646, 689, 732, 755, 788, 863, 932, 955, 988, 1011, 1034, 1077, 1110, 1153, 1196, 1239, 1252, 1265, 1288, 1311, 1324, 1367, 1410, 1423, 1456, 1479, 1542, 1555, 1568]) (len := 191) (by decide +kernel) (by decide) (by decide) (by decide) rfl (by decide) ?_
          exact w_26 hR (by omega) hX hr next
        · subst c33
          refine a_tableIn (pc := 33) (tgt := 1143) (dflt := 1591) (lo := 0) (hi := 43) (off := 1110) (offs := #[191, 224, 247, 290, 313, 336, 389, 412, 445, 488, 551, 564, 577, 600, 613, 646, 689, 732, 755, 788, 863, 932, 955, 988, 1011, 1034, 1077, 1110, 1153, 1196, 1239, 1252, 1265, 1288, 1311, 1324, 1367, 1410, 1423, 1456, 1479, 1542, 1555, 1568]) (len := 191) (by decide +kernel) (by decide) (by decide) (by decide) rfl (by decide) ?_
          exact w_27 hR (by omega) hX hr next
        · subst c33
          refine a_tableIn (pc := 33) (tgt := 1186) (dflt := 1591) (lo := 0) (hi := 43) (off := 1153) (offs := #[191, 224, 247, 290, 313, 336, 389, 412, 445, 488, 551, 564, 577, 600, 613, 646, 689, 732, 755, 788, 863, 932, 955, 988, 1011, 1034, 1077, 1110, 1153, 1196, 1239, 1252, 1265, 1288, 1311, 1324, 1367, 1410, 1423, 1456, 1479, 1542, 1555, 1568]) (len := 191) (by decide +kernel) (by decide) (by decide) (by decide) rfl (by decide) ?_
          exact w_28 hR (by omega) hX hr next
        · subst c33
          refine a_tableIn (pc := 33) (tgt := 1229) (dflt := 1591) (lo := 0) (hi := 43) (off := 1196) (offs := #[191, 224, 247, 290, 313, 336, 389, 412, 445, 488, 551, 564, 577, 600, 613, 646, 689, 732, 755, 788, 863, 932, 955, 988, 1011, 1034, 1077, 1110, 1153, 1196, 1239, 1252, 1265, 1288, 1311, 1324, 1367, 1410, 1423, 1456, 1479, 1542, 1555, 1568]) (len := 191) (by decide +kernel) (by decide) (by decide) (by decide) rfl (by decide) ?_
          exact w_29 hR (by omega) hX hr next
        · subst c33
          refine a_tableIn (pc := 33) (tgt := 1272) (dflt := 1591) (lo := 0) (hi := 43) (off := 1239) (offs := #[191, 224, 247, 290, 313, 336, 389, 412, 445, 488, 551, 564, 577, 600, 613, 646, 689, 732, 755, 788, 863, 932, 955, 988, 1011, 1034, 1077, 1110, 1153, 1196, 1239, 1252, 1265, 1288, 1311, 1324, 1367, 1410, 1423, 1456, 1479, 1542, 1555, 1568]) (len := 191) (by decide +kernel) (by decide) (by decide) (by decide) rfl (by decide) ?_
          exact w_30 hR (by omega) hX hr next
        · subst c33
          refine a_tableIn (pc := 33) (tgt := 1285) (dflt := 1591) (lo := 0) (hi := 43) (off := 1252) (offs := #[191, 224, 247, 290, 313, 336, 389, 412, 445, 488, 551, 564, 577, 600, 613, 646, 689, 732, 755, 788, 863, 932, 955, 988, 1011, 1034, 1077, 1110, 1153, 1196, 1239, 1252, 1265, 1288, 1311, 1324, 1367, 1410, 1423, 1456, 1479, 1542, 1555, 1568]) (len := 191) (by decide +kernel) (by decide) (by decide) (by decide) rfl (by decide) ?_
          exact w_31 hR (by omega) hX hr next
        · subst c33
          refine a_tableIn (pc := 33) (tgt := 1298) (dflt := 1591) (lo := 0) (hi := 43) (off := 1265) (offs := #[191, 224, 247, 290, 313, 336, 389, 412, 445, 488, 551, 564, 577, 600, 613, 646, 689, 732, 755, 788, 863, 932, 955, 988, 1011, 1034, 1077, 1110, 1153, 1196, 1239, 1252, 1265, 1288, 1311, 1324, 1367, 1410, 1423, 1456, 1479, 1542, 1555, 1568]) (len := 191) (by decide +kernel) (by decide) (by decide) (by decide) rfl (by decide) ?_
          exact w_32 hR (by omega) hX hr next
        · subst c33
          refine a_tableIn (pc := 33) (tgt := 1321) (dflt := 1591) (lo := 0) (hi := 43) (off := 1288) (offs := #[191, 224, 247, 290, 313, 336, 389, 412, 445, 488, 551, 564, 577, 600, 613, 646, 689, 732, 755, 788, 863, 932, 955, 988, 1011, 1034, 1077, 1110, 1153, 1196, 1239, 1252, 1265, 1288, 1311, 1324, 1367, 1410, 1423, 1456, 1479, 1542, 1555, 1568]) (len := 191) (by decide +kernel) (by decide) (by decide) (by decide) rfl (by decide) ?_
          exact w_33 hR (by omega) hX hr next
        · subst c33
          refine a_tableIn (pc := 33) (tgt := 1344) (dflt := 1591) (lo := 0) (hi := 43) (off := 1311) (offs := #[191, 224, 247, 290, 313, 336, 389, 412, 445, 488, 551, 564, 577, 600, 613, 646, 689, 732, 755, 788, 863, 932, 955, 988, 1011, 1034, 1077, 1110, 1153, 1196, 1239, 1252, 1265, 1288, 1311, 1324, 1367, 1410, 1423, 1456, 1479, 1542, 1555, 1568]) (len := 191) (by decide +kernel) (by decide) (by decide) (by decide) rfl (by decide) ?_
          exact w_34 hR (by omega) hX hr next
        · subst c33
          refine a_tableIn (pc := 33) (tgt := 1357) (dflt := 1591) (lo := 0) (hi := 43) (off := 1324) (offs := #[191, 224, 247, 290, 313, 336, 389, 412, 445, 488, 551, 564, 577, 600, 613, 646, 689, 732, 755, 788, 863, 932, 955, 988, 1011, 1034, 1077, 1110, 1153, 1196, 1239, 1252, 1265, 1288, 1311, 1324, 1367, 1410, 1423, 1456, 1479, 1542, 1555, 1568]) (len := 191) (by decide +kernel) (by decide) (by decide) (by decide) rfl (by decide) ?_
          exact w_35 hR (by omega) hX hr next
        · subst c33
          refine a_tableIn (pc := 33) (tgt := 1400) (dflt := 1591) (lo := 0) (hi := 43) (off := 1367) (offs := #[191, 224, 247, 290, 313, 336, 389, 412, 445, 488, 551, 564, 577, 600, 613, 646, 689, 732, 755, 788, 863, 932, 955, 988, 1011, 1034, 1077, 1110, 1153, 1196, 1239, 1252, 1265, 1288, 1311, 1324, 1367, 1410, 1423, 1456, 1479, 1542, 1555, 1568]) (len := 191) (by decide +kernel) (by decide) (by decide) (by decide) rfl (by decide) ?_
          exact w_36 hR (by omega) hX hr next
        · subst c33
          refine a_tableIn (pc := 33) (tgt := 1443) (dflt := 1591) (lo := 0) (hi := 43) (off := 1410) (offs := #[191, 224, 247, 290, 313, 336, 389, 412, 445, 488, 551, 564, 577, 600, 613, 646, 689, 732, 755, 788, 863, 932, 955, 988, 1011, 1034, 1077, 1110, 1153, 1196, 1239, 1252, 1265, 1288, 1311, 1324, 1367, 1410, 1423, 1456, 1479, 1542, 1555, 1568]) (len := 191) (by decide +kernel) (by decide) (by decide) (by decide) rfl (by decide) ?_
          exact w_37 hR (by omega) hX hr next
        · subst c33
          refine a_tableIn (pc := 33) (tgt := 1456) (dflt := 1591) (lo := 0) (hi := 43) (off := 1423) (offs := #[191, 224, 247, 290, 313, 336, 389, 412, 445, 488, 551, 564, 577, 600, 613, 646, 689, 732, 755, 788, 863, 932, 955, 988, 1011, 1034, 1077, 1110, 1153, 1196, 1239, 1252, 1265, 1288, 1311, 1324, 1367, 1410, 1423, 1456, 1479, 1542, 1555, 1568]) (len := 191) (by decide +kernel) (by decide) (by decide) (by decide) rfl (by decide) ?_
          exact w_38 hR (by omega) hX hr next
        · subst c33
          refine a_tableIn (pc := 33) (tgt := 1489) (dflt := 1591) (lo := 0) (hi := 43) (off := 1456) (offs := #[191, 224, 247, 290, 313, 336, 389, 412, 445, 488, 551, 564, 577, 600, 613, 646, 689, 732, 755, 788, 863, 932, 955, 988, 1011, 1034, 1077, 1110, 1153, 1196, 1239, 1252, 1265, 1288, 1311, 1324, 1367, 1410, 1423, 1456, 1479, 1542, 1555, 1568]) (len := 191) (by decide +kernel) (by decide) (by decide) (by decide) rfl (by decide) ?_
          exact w_39 hR (by omega) hX hr next
        · subst c33
          refine a_tableIn (pc := 33) (tgt := 1512) (dflt := 1591) (lo := 0) (hi := 43) (off := 1479) (offs := #[191, 224, 247, 290, 313, 336, 389, 412, 445, 488, 551, 564, 577, 600, 613, 646, 689, 732, 755, 788, 863, 932, 955, 988, 1011, 1034, 1077, 1110, 1153, 1196, 1239, 1252, 1265, 1288, 1311, 1324, 1367, 1410, 1423, 1456, 1479, 1542, 1555, 1568]) (len := 191) (by decide +kernel) (by decide) (by decide) (by decide) rfl (by decide) ?_
          exact w_40 hR (by omega) hX hr next
        · subst c33
          refine a_tableIn (pc := 33) (tgt := 1575) (dflt := 1591) (lo := 0) (hi := 43) (off := 1542) (offs := #[191, 224, 247, 290, 313, 336, 389, 412, 445, 488, 551, 564, 577, 600, 613, 646, 689, 732, 755, 788, 863, 932, 955, 988, 1011, 1034, 1077, 1110, 1153, 1196, 1239, 1252, 1265, 1288, 1311, 1324, 1367, 1410, 1423, 1456, 1479, 1542, 1555, 1568]) (len := 191) (by decide +kernel) (by decide) (by decide) (by decide) rfl (by decide) ?_
          exact w_41 hR (by omega) hX hr next
        · subst c33
          refine a_tableIn (pc := 33) (tgt := 1588) (dflt := 1591) (lo := 0) (hi := 43) (off := 1555) (offs := #[191, 224, 247, 290, 313, 336, 389, 412, 445, 488, 551, 564, 577, 600, 613, 646, 689, 732, 755, 788, 863, 932, 955, 988, 1011, 1034, 1077, 1110, 1153, 1196, 1239, 1252, 1265, 1288, 1311, 1324, 1367, 1410, 1423, 1456, 1479, 1542, 1555, 1568]) (len := 191) (by decide +kernel) (by decide) (by decide) (by decide) rfl (by decide) ?_
          exact w_42 hR (by omega) hX hr next
        · subst c33
          refine a_tableIn (pc := 33) (tgt := 1601) (dflt := 1591) (lo := 0) (hi := 43) (off := 1568) (offs := #[191, 224, 247, 290, 313, 336, 389, 412, 445, 488, 551, 564, 577, 600, 613, 646, 689, 732, 755, 788, 863, 932, 955, 988, 1011, 1034, 1077, 1110, 1153, 1196, 1239, 1252, 1265, 1288, 1311, 1324, 1367, 1410, 1423, 1456, 1479, 1542, 1555, 1568]) (len := 191) (by decide +kernel) (by decide) (by decide) (by decide) rfl (by decide) ?_
          exact w_43 hR (by omega) hX hr next
    · skip
      refine a_iload_n (pc := 18) (i := 3) (by decide +kernel) rfl ?_
      refine a_aload_n (pc := 19) (i := 0) (by decide +kernel) rfl ?_
      refine b_len (pc := 20) (by decide +kernel) (sh_0 hn) (by decide) ?_
      refine a_bipush (pc := 21) (n := 7) (by decide +kernel) rfl ?_
      refine a_isub (pc := 23) (by decide +kernel) ?_
      refine a_icmp_gt (pc := 24) (off := 1606) (tgt := 1630) (by decide +kernel) (by decide) (by omega) (by omega) (fun c24 => ?_) (fun c24 => ?_)
      · refine a_iconst (pc := 1630) (n := 1) (by decide +kernel) ?_
        refine a_zreturn (pc := 1631) (by decide +kernel) rfl (by omega) ?_
        refine k_ret ?_
        rfl
      · exact absurd c24 (by omega)
