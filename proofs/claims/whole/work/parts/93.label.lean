/-- of a state, all but what is told, which is L -/
def lb (σ τ : k_St) (L : List Int) : Prop := (∀ c, c ≠ 80 → τ.1 c = σ.1 c) ∧ (∀ c j, ¬ (c = 68 ∧ (j = 20 ∨ j = 21)) → τ.2.1 c j = σ.2.1 c j) ∧ τ.2.2 = σ.2.2 ∧ τ.2.1 68 20 = (L.length : Int) ∧ ∀ (k : Nat) (x : Int), L[k]? = some x → τ.1 80 (k : Int) = x
theorem lb_app {σ τ τ' : k_St} {L : List Int} {x : Int} (h : lb σ τ L) (e : τ' = e_app 80 68 20 τ x) : lb σ τ' (L ++ [x]) ∧ τ'.2.1 68 21 = τ.2.1 68 21 := by
  obtain ⟨a1, a2, a3, a4, a5⟩ := h
  subst e
  unfold e_app
  refine ⟨⟨fun c hc => by rw [k_I1, k_AN hc]; exact a1 c hc, fun c j hc => by rw [k_IN (by omega)]; exact a2 c j hc, a3, ?_, fun k y hk => ?_⟩, by rw [k_IN (by omega)]; rfl⟩
  · rw [k_II, a4, List.length_append]; show (L.length : Int) + 1 = ((L.length + 1 : Nat) : Int); omega
  · rw [k_I1, k_AA, a4]
    by_cases q : k < L.length
    · rw [List.getElem?_append_left q] at hk
      rw [j_upN (by omega)]; exact a5 k y hk
    · rw [List.getElem?_append_right (by omega)] at hk
      by_cases q2 : k = L.length
      · rw [q2, show L.length - L.length = 0 by omega] at hk
        have : x = y := by simpa using hk
        rw [q2, j_upS]; exact this
      · rw [List.getElem?_eq_none (by simp; omega)] at hk; exact absurd hk (by simp)
theorem lb_21 {σ τ τ' : k_St} {L : List Int} {x : Int} (h : lb σ τ L) (e : τ' = k_sI τ 68 21 x) : lb σ τ' L ∧ τ'.2.1 68 21 = x := by
  obtain ⟨a1, a2, a3, a4, a5⟩ := h
  subst e
  exact ⟨⟨fun c hc => a1 c hc, fun c j hc => by rw [k_IN (by omega)]; exact a2 c j hc, a3, by rw [k_IN (by omega)]; exact a4, a5⟩, k_II⟩
theorem lb_0 {σ τ : k_St} (e : τ = k_sI σ 68 20 0) : lb σ τ [] := by
  subst e
  exact ⟨fun _ _ => rfl, fun c j hc => by rw [k_IN (by omega)], rfl, k_II, fun k x hk => absurd hk (by simp)⟩
theorem lb_scr {σ τ : k_St} {L : List Int} (h : lb σ τ L) : scr σ τ := ⟨fun c hc => h.1 c (by omega), fun c j hc => h.2.1 c j (by omega), h.2.2.1⟩
set_option maxHeartbeats 4000000 in
theorem e_say {G : j_G} {X : k_X} {n : Nat} {σ : k_St} (hn : 101 ≤ n) {x : Int} (h0 : 0 ≤ σ.2.1 68 20 ∧ σ.2.1 68 20 < 24) : k_run G X mX12_say [.ref 68, j_i x] n σ 0 0 (k_is n (e_app 80 68 20 σ x) none) := by
  refine k_enter (by decide +kernel) (Nat.le_of_ble_eq_true rfl) ?_
  show j_at _ _ _ [(0, .ref 68), (1, j_i x)] [] _ _ _ _
  refine a_aload_n (pc := 0) (i := 0) (by decide +kernel) rfl ?_
  refine b_getR (pc := 1) (b := 80) fl_X12_48 (by decide +kernel) (sh_68 hn) rfl ?_
  refine a_aload_n (pc := 4) (i := 0) (by decide +kernel) rfl ?_
  refine b_getI (pc := 5) fl_X12_148 (by decide +kernel) (sh_68 hn) rfl ?_
  refine a_iload_n (pc := 8) (i := 1) (by decide +kernel) rfl ?_
  refine b_iastore (pc := 9) (by decide +kernel) (sh_80 hn) (by omega) (by omega) (by omega) ?_
  obtain ⟨σ1, hσ1⟩ : ∃ z, z = k_sA σ 80 (j_up (σ.1 80) (σ.2.1 68 20) x) := ⟨_, rfl⟩
  rw [← hσ1]
  refine a_aload_n (pc := 10) (i := 0) (by decide +kernel) rfl ?_
  refine a_dup (pc := 11) (by decide +kernel) rfl ?_
  refine b_getI (pc := 12) fl_X12_148 (by decide +kernel) (sh_68 hn) rfl ?_
  rw [show σ1.2.1 68 20 = σ.2.1 68 20 by rw [hσ1]; rfl]
  refine a_iconst (pc := 15) (n := 1) (by decide +kernel) ?_
  refine a_iadd (pc := 16) (by decide +kernel) ?_
  refine b_putI (pc := 17) fl_X12_148 (by decide +kernel) (sh_68 hn) rfl rfl rfl ?_
  obtain ⟨σ2, hσ2⟩ : ∃ z, z = k_sI σ1 68 20 ((σ.2.1 68 20) + 1) := ⟨_, rfl⟩
  rw [← hσ2]
  refine a_return (pc := 20) (by decide +kernel) rfl ?_
  refine k_ret ?_
  exact ⟨rfl, rfl, by rw [hσ2, hσ1]; rfl⟩
set_option maxHeartbeats 4000000 in
theorem l_roman {G : j_G} {X : k_X} {n : Nat} {σ : k_St} (hn : 101 ≤ n) {v a b : Int} {s : List Int} {t : List (Int × List Int)} {T : List Int} (hv : 0 < v ∧ v ≤ 1000) (hb : 0 ≤ b ∧ b ≤ 127) (hs : (b = 0 → s = [a]) ∧ (b ≠ 0 → s = [a, b])) (hTl : T.length ≤ 14)  : ∀ (z : Nat) (x : Int) (τ : k_St) (L : List Int), x < (z : Int) → 0 ≤ x → x ≤ 1300 → lb σ τ L → τ.2.1 68 21 = x → T = L ++ f_rom ((v, s) :: t) x → j_at G mX12_sayRoman 0 [(0, .ref 68), (1, j_i v), (2, j_i a), (3, j_i b)] [] (k_h X n τ) 0 0 (k_Q X (fun v' n' σ' => v' = none ∧ n' = n ∧ ∃ L' x', lb σ σ' L' ∧ σ'.2.1 68 21 = x' ∧ (0 ≤ x' ∧ x' ≤ 1300) ∧ T = L' ++ f_rom t x')) := by
  intro z
  induction z with
  | zero => intro x τ L h1 h2; exact absurd h1 (by omega)
  | succ z ih =>
    intro x τ L hz h0 hN hl hx hT
    refine a_aload_n (pc := 0) (i := 0) (by decide +kernel) rfl ?_
    refine b_getI (pc := 1) fl_X12_155 (by decide +kernel) (sh_68 hn) rfl ?_
    rw [show τ.2.1 68 21 = x from hx]
    refine a_iload_n (pc := 4) (i := 1) (by decide +kernel) rfl ?_
    refine a_icmp_lt (pc := 5) (off := 30) (tgt := 35) (by decide +kernel) (by decide) (by omega) (by omega) (fun c5 => ?_) (fun c5 => ?_)
    · refine a_return (pc := 35) (by decide +kernel) rfl ?_
      refine k_ret ?_
      exact ⟨rfl, rfl, L, x, hl, hx, by omega, by rw [hT, f_rom_lt (by omega) (by omega)]⟩
    · rw [f_rom_ge (by omega) (by omega)] at hT
      have e9 := congrArg List.length hT
      rw [List.length_append, List.length_append] at e9
      have e8 : 1 ≤ s.length := by by_cases q : b = 0; rw [hs.1 q]; exact Nat.le_refl 1; rw [hs.2 q]; exact Nat.le_succ 1
      refine a_aload_n (pc := 8) (i := 0) (by decide +kernel) rfl ?_
      refine a_iload_n (pc := 9) (i := 2) (by decide +kernel) rfl ?_
      refine b_callV (pc := 10) (c' := 0) (sl' := 0) [j_i a] [] ml_X12_151 (by decide +kernel) rfl rfl (sh_68 hn) rfl rfl (Nat.le_of_ble_eq_true rfl) (j_fitI rfl rfl) (e_say hn (by rw [hl.2.2.2.1]; (try simp only [List.length_append, List.length_cons, List.length_nil]); omega)) (fun v n' σ' hq => ?_)
      obtain ⟨rfl, e1, e2⟩ := hq
      rw [e1, e2]; clear e1 e2
      obtain ⟨σ1, hσ1⟩ : ∃ z, z = e_app 80 68 20 τ a := ⟨_, rfl⟩
      rw [← hσ1]
      have lσ1 := lb_app (x := a) hl hσ1
      show j_at _ _ _ [(0, .ref 68), (1, j_i v), (2, j_i a), (3, j_i b)] [] _ _ _ _
      refine a_iload_n (pc := 13) (i := 3) (by decide +kernel) rfl ?_
      refine a_if_eq (pc := 14) (off := 8) (tgt := 22) (by decide +kernel) (by decide) (by omega) (fun c14 => ?_) (fun c14 => ?_)
      · refine a_aload_n (pc := 22) (i := 0) (by decide +kernel) rfl ?_
        refine a_dup (pc := 23) (by decide +kernel) rfl ?_
        refine b_getI (pc := 24) fl_X12_155 (by decide +kernel) (sh_68 hn) rfl ?_
        rw [show σ1.2.1 68 21 = x from (lσ1.2.trans hx)]
        refine a_iload_n (pc := 27) (i := 1) (by decide +kernel) rfl ?_
        refine a_isub (pc := 28) (by decide +kernel) ?_
        refine b_putI (pc := 29) fl_X12_155 (by decide +kernel) (sh_68 hn) rfl rfl rfl ?_
        obtain ⟨σ2, hσ2⟩ : ∃ z, z = k_sI σ1 68 21 (x - v) := ⟨_, rfl⟩
        rw [← hσ2]
        refine a_goto (pc := 32) (off := -32) (tgt := 0) (by decide +kernel) (by decide) ?_
        have y := lb_21 lσ1.1 hσ2
        exact ih (x - v) σ2 (L ++ [a]) (by omega) (by omega) (by omega) y.1 y.2 (by rw [hT, hs.1 (by omega)]; simp)
      · have es := hs.2 (by omega)
        rw [es] at e9
        have e10 : ([a, b] : List Int).length = 2 := rfl
        refine a_aload_n (pc := 17) (i := 0) (by decide +kernel) rfl ?_
        refine a_iload_n (pc := 18) (i := 3) (by decide +kernel) rfl ?_
        refine b_callV (pc := 19) (c' := 0) (sl' := 0) [j_i b] [] ml_X12_151 (by decide +kernel) rfl rfl (sh_68 hn) rfl rfl (Nat.le_of_ble_eq_true rfl) (j_fitI rfl rfl) (e_say hn (by rw [lσ1.1.2.2.2.1]; (try simp only [List.length_append, List.length_cons, List.length_nil]); omega)) (fun v n' σ' hq => ?_)
        obtain ⟨rfl, e1, e2⟩ := hq
        rw [e1, e2]; clear e1 e2
        obtain ⟨σ3, hσ3⟩ : ∃ z, z = e_app 80 68 20 σ1 b := ⟨_, rfl⟩
        rw [← hσ3]
        have lσ3 := lb_app (x := b) lσ1.1 hσ3
        show j_at _ _ _ [(0, .ref 68), (1, j_i v), (2, j_i a), (3, j_i b)] [] _ _ _ _
        refine a_aload_n (pc := 22) (i := 0) (by decide +kernel) rfl ?_
        refine a_dup (pc := 23) (by decide +kernel) rfl ?_
        refine b_getI (pc := 24) fl_X12_155 (by decide +kernel) (sh_68 hn) rfl ?_
        rw [show σ3.2.1 68 21 = x from (lσ3.2.trans (lσ1.2.trans hx))]
        refine a_iload_n (pc := 27) (i := 1) (by decide +kernel) rfl ?_
        refine a_isub (pc := 28) (by decide +kernel) ?_
        refine b_putI (pc := 29) fl_X12_155 (by decide +kernel) (sh_68 hn) rfl rfl rfl ?_
        obtain ⟨σ4, hσ4⟩ : ∃ z, z = k_sI σ3 68 21 (x - v) := ⟨_, rfl⟩
        rw [← hσ4]
        refine a_goto (pc := 32) (off := -32) (tgt := 0) (by decide +kernel) (by decide) ?_
        have y := lb_21 lσ3.1 hσ4
        exact ih (x - v) σ4 ((L ++ [a]) ++ [b]) (by omega) (by omega) (by omega) y.1 y.2 (by rw [hT, hs.2 (by omega)]; simp)
set_option maxHeartbeats 4000000 in
theorem e_sayRoman {G : j_G} {X : k_X} {n : Nat} {σ τ : k_St} (hn : 101 ≤ n) {v a b x : Int} {L s : List Int} {t : List (Int × List Int)} {T : List Int} (hv : 0 < v ∧ v ≤ 1000) (hb : 0 ≤ b ∧ b ≤ 127) (hs : (b = 0 → s = [a]) ∧ (b ≠ 0 → s = [a, b])) (hTl : T.length ≤ 14) (h0 : 0 ≤ x ∧ x ≤ 1300) (hl : lb σ τ L) (hx : τ.2.1 68 21 = x) (hT : T = L ++ f_rom ((v, s) :: t) x) : k_run G X mX12_sayRoman [.ref 68, j_i v, j_i a, j_i b] n τ 0 0 (fun v' n' σ' => v' = none ∧ n' = n ∧ ∃ L' x', lb σ σ' L' ∧ σ'.2.1 68 21 = x' ∧ (0 ≤ x' ∧ x' ≤ 1300) ∧ T = L' ++ f_rom t x') := by
  refine k_enter (by decide +kernel) (Nat.le_of_ble_eq_true rfl) ?_
  exact l_roman hn hv hb hs hTl (x.toNat + 1) x τ L (by omega) h0.1 h0.2 hl hx hT
def ds (v : Int) : Nat → Int → List Int
  | 0, _ => []
  | z + 1, u => if u ≤ 0 then [] else (48 + v / u % 10) :: ds v z (u / 10)
def ds_u (v u : Int) : Prop := u = 1 ∨ (u = 10 ∧ 10 ≤ v) ∨ (u = 100 ∧ 100 ≤ v) ∨ (u = 1000 ∧ 1000 ≤ v)
theorem ds_1 {v z} : ds v (z + 2) 1 = [48 + v / 1 % 10] := by
  unfold ds; rw [if_neg (by omega)]; unfold ds; rw [if_pos (by omega)]
theorem ds_10 {v z} : ds v (z + 3) 10 = [48 + v / 10 % 10, 48 + v / 1 % 10] := by
  unfold ds; rw [if_neg (by omega), show (10 : Int) / 10 = 1 by omega, ds_1]
theorem ds_100 {v z} : ds v (z + 4) 100 = [48 + v / 100 % 10, 48 + v / 10 % 10, 48 + v / 1 % 10] := by
  unfold ds; rw [if_neg (by omega), show (100 : Int) / 10 = 10 by omega, ds_10]
theorem ds_1000 {v z} : ds v (z + 5) 1000 = [48 + v / 1000 % 10, 48 + v / 100 % 10, 48 + v / 10 % 10, 48 + v / 1 % 10] := by
  unfold ds; rw [if_neg (by omega), show (1000 : Int) / 10 = 100 by omega, ds_100]
theorem ds_dec {v u : Int} (hv : 1 ≤ v ∧ v ≤ 1300) (hu : ds_u v u) (h9 : v / u ≤ 9) : ds v 5 u = f_dec v := by
  unfold f_dec
  rcases hu with rfl | ⟨rfl, h⟩ | ⟨rfl, h⟩ | ⟨rfl, h⟩
  · rw [if_neg (by omega), if_neg (by omega), if_neg (by omega)]; exact ds_1
  · rw [if_neg (by omega), if_neg (by omega), if_pos (by omega)]; exact ds_10
  · rw [if_neg (by omega), if_pos (by omega)]; exact ds_100
  · rw [if_pos (by omega)]; exact ds_1000
theorem ds_len {v : Int} : ∀ {z : Nat} {u : Int}, (ds v z u).length ≤ z
  | 0, u => Nat.le_refl 0
  | z + 1, u => by
    unfold ds; split
    · exact Nat.zero_le _
    · exact Nat.succ_le_succ ds_len
set_option maxHeartbeats 4000000 in
theorem l_tens18 {G : j_G} {X : k_X} {n : Nat} {σ : k_St} (hn : 101 ≤ n) {v : Int} {T : List Int} (hv : 1 ≤ v ∧ v ≤ 1300)  : ∀ (z : Nat) (u : Int) (τ : k_St) (L : List Int), u < (10 : Int) ^ z → 0 ≤ u → u ≤ 1000 → lb σ τ L → L.length + z ≤ 24 → T = L ++ ds v z u → j_at G mX12_sayTens 18 [(0, .ref 68), (1, j_i v), (2, j_i u)] [] (k_h X n τ) 0 0 (k_Q X (fun v' n' σ' => v' = none ∧ n' = n ∧ lb σ σ' T)) := by
  intro z
  induction z with
  | zero =>
    intro u τ L hz h0 hN hl hb hT
    rw [show (10 : Int) ^ 0 = 1 from rfl] at hz
    refine a_iload_n (pc := 18) (i := 2) (by decide +kernel) rfl ?_
    refine a_if_le (pc := 19) (off := 24) (tgt := 43) (by decide +kernel) (by decide) (by omega) (fun c19 => ?_) (fun c19 => ?_)
    · refine a_return (pc := 43) (by decide +kernel) rfl ?_
      refine k_ret ?_
      refine ⟨rfl, rfl, ?_⟩
      rw [hT, show ds v 0 u = [] from rfl, List.append_nil]; exact hl
    · exact absurd hz (by omega)
  | succ z ih =>
    intro u τ L hz h0 hN hl hb hT
    refine a_iload_n (pc := 18) (i := 2) (by decide +kernel) rfl ?_
    refine a_if_le (pc := 19) (off := 24) (tgt := 43) (by decide +kernel) (by decide) (by omega) (fun c19 => ?_) (fun c19 => ?_)
    · refine a_return (pc := 43) (by decide +kernel) rfl ?_
      refine k_ret ?_
      refine ⟨rfl, rfl, ?_⟩
      rw [hT, show ds v (z + 1) u = [] by unfold ds; rw [if_pos (by omega)], List.append_nil]; exact hl
    · have hd : 0 ≤ v / u ∧ v / u ≤ 1300 := ⟨Int.ediv_nonneg (by omega) (by omega), Int.le_trans (Int.ediv_le_self u (by omega)) hv.2⟩
      refine a_aload_n (pc := 22) (i := 0) (by decide +kernel) rfl ?_
      refine a_bipush (pc := 23) (n := 48) (by decide +kernel) rfl ?_
      refine a_iload_n (pc := 25) (i := 1) (by decide +kernel) rfl ?_
      refine a_iload_n (pc := 26) (i := 2) (by decide +kernel) rfl ?_
      refine a_idiv (pc := 27) (by decide +kernel) (by omega) (by omega) ?_
      refine a_bipush (pc := 28) (n := 10) (by decide +kernel) rfl ?_
      refine a_irem (pc := 30) (by decide +kernel) (by omega) (by omega) ?_
      refine a_iadd (pc := 31) (by decide +kernel) ?_
      refine b_callV (pc := 32) (c' := 0) (sl' := 0) [j_i (48 + ((v / u) % 10))] [] ml_X12_151 (by decide +kernel) rfl rfl (sh_68 hn) rfl rfl (Nat.le_of_ble_eq_true rfl) (j_fitI rfl rfl) (e_say hn (by rw [hl.2.2.2.1]; omega)) (fun v n' σ' hq => ?_)
      obtain ⟨rfl, e1, e2⟩ := hq
      rw [e1, e2]; clear e1 e2
      obtain ⟨σ1, hσ1⟩ : ∃ z, z = e_app 80 68 20 τ (48 + ((v / u) % 10)) := ⟨_, rfl⟩
      rw [← hσ1]
      have lσ1 := lb_app (x := 48 + ((v / u) % 10)) hl hσ1
      show j_at _ _ _ [(0, .ref 68), (1, j_i v), (2, j_i u)] [] _ _ _ _
      refine a_iload_n (pc := 35) (i := 2) (by decide +kernel) rfl ?_
      refine a_bipush (pc := 36) (n := 10) (by decide +kernel) rfl ?_
      refine a_idiv (pc := 38) (by decide +kernel) (by omega) (by omega) ?_
      refine a_istore_n (pc := 39) (i := 2) (lv' := [(0, .ref 68), (1, j_i v), (2, j_i (u / 10))]) (by decide +kernel) (Nat.le_of_ble_eq_true rfl) rfl ?_
      refine a_goto (pc := 40) (off := -22) (tgt := 18) (by decide +kernel) (by decide) ?_
      exact ih (u / 10) σ1 (L ++ [48 + v / u % 10]) (by rw [Int.pow_succ] at hz; omega) (by omega) (by omega) lσ1.1 (by rw [List.length_append]; show L.length + 1 + z ≤ 24; omega) (by rw [hT, show ds v (z + 1) u = (48 + v / u % 10) :: ds v z (u / 10) from if_neg (by omega)]; simp)
set_option maxHeartbeats 4000000 in
theorem l_tens2 {G : j_G} {X : k_X} {n : Nat} {σ τ : k_St} (hn : 101 ≤ n) {v : Int} {L T : List Int} (hv : 1 ≤ v ∧ v ≤ 1300) (hl : lb σ τ L) (hL : L.length ≤ 12) (hT : T = L ++ f_dec v)  : ∀ (z : Nat) (u : Int), 1001 - u < (z : Int) → ds_u v u → j_at G mX12_sayTens 2 [(0, .ref 68), (1, j_i v), (2, j_i u)] [] (k_h X n τ) 0 0 (k_Q X (fun v' n' σ' => v' = none ∧ n' = n ∧ lb σ σ' T)) := by
  intro z
  induction z with
  | zero => intro u h1 hu; exact absurd h1 (by unfold ds_u at hu; omega)
  | succ z ih =>
    intro u hz hu
    have hd : 0 ≤ v / u ∧ v / u ≤ 1300 := ⟨Int.ediv_nonneg (by omega) (by unfold ds_u at hu; omega), Int.le_trans (Int.ediv_le_self u (by omega)) hv.2⟩
    have hu1 : 1 ≤ u ∧ u ≤ 1000 := by unfold ds_u at hu; omega
    refine a_iload_n (pc := 2) (i := 1) (by decide +kernel) rfl ?_
    refine a_iload_n (pc := 3) (i := 2) (by decide +kernel) rfl ?_
    refine a_idiv (pc := 4) (by decide +kernel) (by omega) (by omega) ?_
    refine a_bipush (pc := 5) (n := 9) (by decide +kernel) rfl ?_
    refine a_icmp_le (pc := 7) (off := 11) (tgt := 18) (by decide +kernel) (by decide) (by omega) (by omega) (fun c7 => ?_) (fun c7 => ?_)
    · exact l_tens18 hn hv 5 u τ L (by rw [show (10 : Int) ^ 5 = 100000 from rfl]; omega) (by omega) (by omega) hl (by omega) (by rw [hT, ds_dec hv hu (by omega)])
    · refine a_iload_n (pc := 10) (i := 2) (by decide +kernel) rfl ?_
      refine a_bipush (pc := 11) (n := 10) (by decide +kernel) rfl ?_
      refine a_imul (pc := 13) (by decide +kernel) ?_
      refine a_istore_n (pc := 14) (i := 2) (lv' := [(0, .ref 68), (1, j_i v), (2, j_i (u * 10))]) (by decide +kernel) (Nat.le_of_ble_eq_true rfl) rfl ?_
      refine a_goto (pc := 15) (off := -13) (tgt := 2) (by decide +kernel) (by decide) ?_
      exact ih (u * 10) (by omega) (by unfold ds_u at hu ⊢; rcases hu with rfl | ⟨rfl, h⟩ | ⟨rfl, h⟩ | ⟨rfl, h⟩ <;> omega)
set_option maxHeartbeats 4000000 in
theorem e_sayTens {G : j_G} {X : k_X} {n : Nat} {σ τ : k_St} (hn : 101 ≤ n) {v : Int} {L T : List Int} (hv : 1 ≤ v ∧ v ≤ 1300) (hl : lb σ τ L) (hL : L.length ≤ 12) (hT : T = L ++ f_dec v)  : k_run G X mX12_sayTens [.ref 68, j_i v] n τ 0 0 (fun v' n' σ' => v' = none ∧ n' = n ∧ lb σ σ' T) := by
  refine k_enter (by decide +kernel) (Nat.le_of_ble_eq_true rfl) ?_
  show j_at _ _ _ [(0, .ref 68), (1, j_i v)] [] _ _ _ _
  refine a_iconst (pc := 0) (n := 1) (by decide +kernel) ?_
  refine a_istore_n (pc := 1) (i := 2) (lv' := [(0, .ref 68), (1, j_i v), (2, j_i 1)]) (by decide +kernel) (Nat.le_of_ble_eq_true rfl) rfl ?_
  exact l_tens2 hn hv hl hL hT 1002 1 (by omega) (Or.inl rfl)
