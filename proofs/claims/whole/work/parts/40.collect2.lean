theorem cs_u {σ τ : k_St} {a : Nat} (ha : a = 48 ∨ a = 58) {s c o : Int} {R R' : List (Int × Int)} {Z : List q_T} (h : cs_is σ a s c R o Z) (hf : u_fr σ τ) (hu : u_is τ R') (hp : R'.Pairwise u_srt) : cs_is τ a s c R' o Z := by
  obtain ⟨h1, h2, h3, h4, h5, h6⟩ := h
  refine ⟨hu, hp, by rw [hf.2.1 39 10 (by omega)]; exact h3, ?_, pl_is_congr (fun d d1 d2 => hf.1 _ (by omega) (by omega)) (fun j => hf.2.1 _ _ (by omega)) h5, by rw [hf.1 43 (by omega) (by omega)]; exact h6⟩
  unfold m_is; rw [hf.1 21 (by omega) (by omega), hf.2.1 16 5 (by omega)]; exact h4
theorem cs_43 {σ : k_St} {a : Nat} (ha : a = 48 ∨ a = 58) {s c o m : Int} {R : List (Int × Int)} {Z : List q_T} (h : cs_is σ a s c R o Z) : cs_is (k_sA σ 43 (j_up (σ.1 43) m 1)) a s c R o Z := by
  obtain ⟨h1, h2, h3, h4, h5, h6⟩ := h
  refine ⟨u_is_43 h1, h2, h3, ?_, pl_is_congr (fun d d1 d2 => k_AN (by omega)) (fun j => rfl) h5, fun i => ?_⟩
  · unfold m_is; rw [k_AN (by omega)]; exact h4
  · rw [k_AA]; unfold j_up; split; exact Or.inr rfl; exact h6 i
theorem cs_10 {σ : k_St} {a : Nat} (ha : a = 48 ∨ a = 58) {s c o x : Int} {R : List (Int × Int)} {Z : List q_T} (h : cs_is σ a s c R o Z) (hx : x = -9 ∨ m_is σ x) : cs_is (k_sI σ 39 10 x) a s c R x Z := by
  obtain ⟨h1, h2, h3, h4, h5, h6⟩ := h
  exact ⟨⟨by rw [k_IN (by omega)]; exact h1.1, h1.2⟩, h2, k_II, hx, pl_is_congr (σ := σ) (fun d d1 d2 => rfl) (fun j => by rw [k_IN (by omega)]) h5, h6⟩
theorem cs_pl {σ τ : k_St} {a : Nat} (ha : a = 48 ∨ a = 58) {s c o : Int} {R : List (Int × Int)} {Z Y : List q_T} (h : cs_is σ a s c R o Z) (hf : pl_fr a σ τ) (hy : pl_is τ a s c Y) : cs_is τ a s c R o Y := by
  obtain ⟨h1, h2, h3, h4, h5, h6⟩ := h
  refine ⟨?_, h2, by rw [hf.2.1 39 10 (by omega)]; exact h3, ?_, hy, by rw [hf.1 43 (by omega)]; exact h6⟩
  · unfold u_is at h1 ⊢; rw [hf.2.1 45 2 (by omega), hf.1 46 (by omega), hf.1 47 (by omega)]; exact h1
  · unfold m_is; rw [hf.1 21 (by omega), hf.2.1 16 5 (by omega)]; exact h4
theorem cf_mwf {σ τ : k_St} {a : Nat} (ha : a = 48 ∨ a = 58) (h : cf_fr a σ τ) (hw : m_wf σ 16) : m_wf τ 16 := m_wf_congr (h.1 _ (by omega) (by omega) (by omega) (by omega)) (h.1 _ (by omega) (by omega) (by omega) (by omega)) (h.1 _ (by omega) (by omega) (by omega) (by omega)) (h.1 _ (by omega) (by omega) (by omega) (by omega)) (h.1 _ (by omega) (by omega) (by omega) (by omega)) (h.2.1 _ _ (by omega) (by omega) (by omega)) hw
theorem cf_mkw {σ τ : k_St} {a : Nat} (ha : a = 48 ∨ a = 58) (h : cf_fr a σ τ) (hk : mk_wf σ) : mk_wf τ := by
  unfold mk_wf; rw [h.2.1 39 13 (by omega) (by omega) (by omega), h.2.1 39 11 (by omega) (by omega) (by omega), h.2.1 39 12 (by omega) (by omega) (by omega)]; exact hk
theorem cf_mis {σ τ : k_St} {a : Nat} (ha : a = 48 ∨ a = 58) (h : cf_fr a σ τ) (m : Int) : m_is τ m ↔ m_is σ m := by
  unfold m_is; rw [h.1 21 (by omega) (by omega) (by omega) (by omega), h.2.1 16 5 (by omega) (by omega) (by omega)]
theorem cf_mpg {σ τ : k_St} {a : Nat} (ha : a = 48 ∨ a = 58) (h : cf_fr a σ τ) (m : Int) : m_pg τ m = m_pg σ m := by
  unfold m_pg; rw [h.1 18 (by omega) (by omega) (by omega) (by omega), h.2.1 39 13 (by omega) (by omega) (by omega)]
def sa_post (n : Nat) (σ : k_St) (a : Nat) (s c : Int) (R : List (Int × Int)) (o : Int) (Z : List q_T) (m : Int) : k_P := fun v n' τ => v = none ∧ n' = n ∧ cf_fr a σ τ ∧ τ.1 43 = j_up (σ.1 43) m 1 ∧ τ.1 (a + 4) = σ.1 (a + 4) ∧ ∃ R', cs_is τ a s c R' o Z ∧ (∀ x, x ∈ R' ↔ x ∈ R ∨ x = (m_pg σ m, m_pg σ m)) ∧ R'.length = R.length + 1
set_option maxHeartbeats 4000000 in
theorem s_standAlone {G : j_G} {X : k_X} {n : Nat} {σ : k_St} (hn : 101 ≤ n) (hw : m_wf σ 16) (hk : mk_wf σ) {a : Nat} (ha : a = 48 ∨ a = 58) (hA : i_at X n a) {s c : Int} {R : List (Int × Int)} {o9 : Int} {Z : List q_T} (hcs : cs_is σ a s c R o9 Z) (hR5 : R.length < 50) {m : Int} (hm : m_is σ m)  : k_run G X mX6_standAlone [.ref 39, j_i m] n σ 0 0 (sa_post n σ a s c R o9 Z m) := by
  have hm5 := m_is_50 hw hm
  have hm0 := hm.1
  have hpg := m_pg_in hw hm
  refine k_enter (by decide +kernel) (Nat.le_of_ble_eq_true rfl) ?_
  show j_at _ _ _ [(0, .ref 39), (1, j_i m)] [] _ _ _ _
  refine a_aload_n (pc := 0) (i := 0) (by decide +kernel) rfl ?_
  refine b_getR (pc := 1) (b := 43) fl_X6_28 (by decide +kernel) (sh_39 hn) rfl ?_
  refine a_iload_n (pc := 4) (i := 1) (by decide +kernel) rfl ?_
  refine a_iconst (pc := 5) (n := 1) (by decide +kernel) ?_
  refine b_zastore (pc := 6) (by decide +kernel) (sh_43 hn) (by omega) (by omega) (by omega) (Or.inr rfl) ?_
  obtain ⟨σ1, hσ1⟩ : ∃ z, z = k_sA σ 43 (j_up (σ.1 43) m 1) := ⟨_, rfl⟩
  rw [← hσ1]
  have Fσ1 : cf_fr a σ σ1 := by rw [hσ1]; exact cf_43
  have Kσ1 := cs_43 ha (m := m) hcs
  rw [← hσ1] at Kσ1
  refine a_aload_n (pc := 7) (i := 0) (by decide +kernel) rfl ?_
  refine b_getR (pc := 8) (b := 45) fl_X6_38 (by decide +kernel) (sh_39 hn) rfl ?_
  refine a_aload_n (pc := 11) (i := 0) (by decide +kernel) rfl ?_
  refine a_iload_n (pc := 12) (i := 1) (by decide +kernel) rfl ?_
  refine b_pureV (pc := 13) [j_i m] [.ref 45] ml_X6_215 (by decide +kernel) rfl rfl (sh_39 hn) rfl rfl (Nat.le_of_ble_eq_true rfl) (j_fitI rfl rfl) (s_mpage hn (cf_mwf ha Fσ1 hw) (cf_mkw ha Fσ1 hk) ((cf_mis ha Fσ1 _).mpr hm)) ?_
  rw [cf_mpg ha Fσ1]
  show j_at _ _ _ [(0, .ref 39), (1, j_i m)] [j_i (m_pg σ m), .ref 45] _ _ _ _
  refine a_aload_n (pc := 16) (i := 0) (by decide +kernel) rfl ?_
  refine a_iload_n (pc := 17) (i := 1) (by decide +kernel) rfl ?_
  refine b_pureV (pc := 18) [j_i m] [j_i (m_pg σ m), .ref 45] ml_X6_215 (by decide +kernel) rfl rfl (sh_39 hn) rfl rfl (Nat.le_of_ble_eq_true rfl) (j_fitI rfl rfl) (s_mpage hn (cf_mwf ha Fσ1 hw) (cf_mkw ha Fσ1 hk) ((cf_mis ha Fσ1 _).mpr hm)) ?_
  rw [cf_mpg ha Fσ1]
  show j_at _ _ _ [(0, .ref 39), (1, j_i m)] [j_i (m_pg σ m), j_i (m_pg σ m), .ref 45] _ _ _ _
  refine b_callV (pc := 21) (c' := 0) (sl' := 0) [j_i (m_pg σ m), j_i (m_pg σ m)] [] ml_X6_221 (by decide +kernel) rfl rfl (sh_45 hn) rfl rfl (Nat.le_of_ble_eq_true rfl) (j_fitI rfl rfl) (s_radd hn Kσ1.1 hR5 (by omega) (by omega)) (fun v n' σ' hq => ?_)
  obtain ⟨σ2, hσ2⟩ : ∃ z, z = σ' := ⟨_, rfl⟩
  rw [← hσ2] at hq ⊢
  obtain ⟨rfl, e1, fσ2, Rσ2, uσ2, qσ2⟩ := hq
  rw [e1]; clear e1
  obtain ⟨w1σ2, w2σ2, w3σ2⟩ := u_adds_ok qσ2 Kσ1.2.1
  have Kσ2 := cs_u ha Kσ1 fσ2 uσ2 w1σ2
  have Gσ2 : cf_fr a σ1 σ2 := cf_of_u fσ2
  show j_at _ _ _ [(0, .ref 39), (1, j_i m)] [] _ _ _ _
  refine a_return (pc := 24) (by decide +kernel) rfl ?_
  refine k_ret ?_
  refine ⟨rfl, rfl, cf_fr_t Fσ1 Gσ2, ?_, ?_, Rσ2, Kσ2, fun x => w2σ2 x, w3σ2⟩
  · rw [fσ2.1 43 (by omega) (by omega), hσ1, k_AA]
  · rw [fσ2.1 (a + 4) (by omega) (by omega), hσ1, k_AN (by omega)]
def cl_post (n : Nat) (σ : k_St) (a : Nat) (s c : Int) (R : List (Int × Int)) (o : Int) (Z : List q_T) (m : Int) : k_P := fun v n' τ => v = none ∧ n' = n ∧ cf_fr a σ τ ∧ (∀ i, τ.1 43 i = 1 ↔ σ.1 43 i = 1 ∨ i ∈ (if o = -9 then [m] else [])) ∧ τ.1 (a + 4) = σ.1 (a + 4) ∧ ∃ R', cs_is τ a s c R' (-9) Z ∧ (∀ x, x ∈ R' ↔ x ∈ R ∨ x ∈ (if o = -9 then [(m_pg σ m, m_pg σ m)] else [(m_pg σ o, m_pg σ m)])) ∧ R'.length = R.length + 1
theorem up_43 {f : Int → Int} {m i : Int} : j_up f m 1 i = 1 ↔ f i = 1 ∨ i ∈ [m] := by
  unfold j_up; rw [List.mem_singleton]
  split
  · simp [*]
  · simp [*]
set_option maxHeartbeats 4000000 in
theorem s_close {G : j_G} {X : k_X} {n : Nat} {σ : k_St} (hn : 101 ≤ n) (hw : m_wf σ 16) (hk : mk_wf σ) {a : Nat} (ha : a = 48 ∨ a = 58) (hA : i_at X n a) {s c : Int} {R : List (Int × Int)} {o9 : Int} {Z : List q_T} (hcs : cs_is σ a s c R o9 Z) (hR5 : R.length < 50) {m : Int} (hm : m_is σ m)  : k_run G X mX6_close [.ref 39, j_i m] n σ 0 0 (cl_post n σ a s c R o9 Z m) := by
  have hm5 := m_is_50 hw hm
  have hm0 := hm.1
  have hpg := m_pg_in hw hm
  have hoo : σ.2.1 39 10 = o9 := hcs.2.2.1
  have ho9 := hcs.2.2.2.1
  have hor : -9 ≤ o9 ∧ o9 < 50 := by rcases ho9 with h | h; omega; have := m_is_50 hw h; have := h.1; omega
  refine k_enter (by decide +kernel) (Nat.le_of_ble_eq_true rfl) ?_
  show j_at _ _ _ [(0, .ref 39), (1, j_i m)] [] _ _ _ _
  refine a_aload_n (pc := 0) (i := 0) (by decide +kernel) rfl ?_
  refine b_getI (pc := 1) fl_X6_42 (by decide +kernel) (sh_39 hn) rfl ?_
  rw [show σ.2.1 39 10 = o9 from hoo]
  refine a_bipush (pc := 4) (n := (-9)) (by decide +kernel) rfl ?_
  refine a_icmp_ne (pc := 6) (off := 11) (tgt := 17) (by decide +kernel) (by decide) (by omega) (by omega) (fun c6 => ?_) (fun c6 => ?_)
  · have ho : m_is σ o9 := ho9.resolve_left c6
    have hpo := m_pg_in hw ho
    refine a_aload_n (pc := 17) (i := 0) (by decide +kernel) rfl ?_
    refine b_getR (pc := 18) (b := 45) fl_X6_38 (by decide +kernel) (sh_39 hn) rfl ?_
    refine a_aload_n (pc := 21) (i := 0) (by decide +kernel) rfl ?_
    refine a_aload_n (pc := 22) (i := 0) (by decide +kernel) rfl ?_
    refine b_getI (pc := 23) fl_X6_42 (by decide +kernel) (sh_39 hn) rfl ?_
    rw [show σ.2.1 39 10 = o9 from hoo]
    refine b_pureV (pc := 26) [j_i o9] [.ref 45] ml_X6_215 (by decide +kernel) rfl rfl (sh_39 hn) rfl rfl (Nat.le_of_ble_eq_true rfl) (j_fitI rfl rfl) (s_mpage hn hw hk ho) ?_
    show j_at _ _ _ [(0, .ref 39), (1, j_i m)] [j_i (m_pg σ o9), .ref 45] _ _ _ _
    refine a_aload_n (pc := 29) (i := 0) (by decide +kernel) rfl ?_
    refine a_iload_n (pc := 30) (i := 1) (by decide +kernel) rfl ?_
    refine b_pureV (pc := 31) [j_i m] [j_i (m_pg σ o9), .ref 45] ml_X6_215 (by decide +kernel) rfl rfl (sh_39 hn) rfl rfl (Nat.le_of_ble_eq_true rfl) (j_fitI rfl rfl) (s_mpage hn hw hk hm) ?_
    show j_at _ _ _ [(0, .ref 39), (1, j_i m)] [j_i (m_pg σ m), j_i (m_pg σ o9), .ref 45] _ _ _ _
    refine b_callV (pc := 34) (c' := 0) (sl' := 0) [j_i (m_pg σ o9), j_i (m_pg σ m)] [] ml_X6_221 (by decide +kernel) rfl rfl (sh_45 hn) rfl rfl (Nat.le_of_ble_eq_true rfl) (j_fitI rfl rfl) (s_radd hn hcs.1 hR5 (by omega) (by omega)) (fun v n' σ' hq => ?_)
    obtain ⟨σ1, hσ1⟩ : ∃ z, z = σ' := ⟨_, rfl⟩
    rw [← hσ1] at hq ⊢
    obtain ⟨rfl, e1, fσ1, Rσ1, uσ1, qσ1⟩ := hq
    rw [e1]; clear e1
    obtain ⟨w1σ1, w2σ1, w3σ1⟩ := u_adds_ok qσ1 hcs.2.1
    have Kσ1 := cs_u ha hcs fσ1 uσ1 w1σ1
    have Gσ1 : cf_fr a σ σ1 := cf_of_u fσ1
    show j_at _ _ _ [(0, .ref 39), (1, j_i m)] [] _ _ _ _
    refine a_aload_n (pc := 37) (i := 0) (by decide +kernel) rfl ?_
    refine a_bipush (pc := 38) (n := (-9)) (by decide +kernel) rfl ?_
    refine b_putI (pc := 40) fl_X6_42 (by decide +kernel) (sh_39 hn) rfl rfl rfl ?_
    obtain ⟨σ2, hσ2⟩ : ∃ z, z = k_sI σ1 39 10 (-9) := ⟨_, rfl⟩
    rw [← hσ2]
    refine a_return (pc := 43) (by decide +kernel) rfl ?_
    refine k_ret ?_
    refine ⟨rfl, rfl, cf_fr_t Gσ1 (by rw [hσ2]; exact cf_10), fun i => ?_, ?_, Rσ1, by rw [hσ2]; exact cs_10 ha Kσ1 (Or.inl rfl), fun x => by rw [w2σ1 x, if_neg c6, List.mem_singleton], w3σ1⟩
    · rw [hσ2, k_I1, fσ1.1 43 (by omega) (by omega), if_neg c6]; simp
    · rw [hσ2, k_I1, fσ1.1 (a + 4) (by omega) (by omega)]
  · refine a_aload_n (pc := 9) (i := 0) (by decide +kernel) rfl ?_
    refine a_iload_n (pc := 10) (i := 1) (by decide +kernel) rfl ?_
    refine b_callV (pc := 11) (c' := 0) (sl' := 0) [j_i m] [] ml_X6_187 (by decide +kernel) rfl rfl (sh_39 hn) rfl rfl (Nat.le_of_ble_eq_true rfl) (j_fitI rfl rfl) (s_standAlone hn hw hk ha hA hcs hR5 hm) (fun v n' σ' hq => ?_)
    obtain ⟨σ3, hσ3⟩ : ∃ z, z = σ' := ⟨_, rfl⟩
    rw [← hσ3] at hq ⊢
    obtain ⟨rfl, e1, Fσ3, zσ3, yσ3, Rσ3, Kσ3, w2σ3, w3σ3⟩ := hq
    rw [e1]; clear e1
    show j_at _ _ _ [(0, .ref 39), (1, j_i m)] [] _ _ _ _
    refine a_goto (pc := 14) (off := 29) (tgt := 43) (by decide +kernel) (by decide) ?_
    refine a_return (pc := 43) (by decide +kernel) rfl ?_
    refine k_ret ?_
    refine ⟨rfl, rfl, Fσ3, fun i => by rw [zσ3, if_pos c6]; exact up_43, yσ3, Rσ3, ?_, fun x => by rw [w2σ3 x, if_pos c6, List.mem_singleton], w3σ3⟩
    rw [c6] at Kσ3; exact Kσ3
def zk (z : q_T) : Prop := (3 ≤ z.1 ∧ z.1 ≤ 5) ∧ (0 ≤ z.2.1 ∧ z.2.1 ≤ 299) ∧ z.2.2.1 = z.2.1 ∧ (0 ≤ z.2.2.2 ∧ z.2.2.2 ≤ 99)
theorem zk_w {c : Int} {x y : q_T} (hx : zk x) (hy : zk y) (h : q_w c x = q_w c y) : x = y := by
  obtain ⟨x1, x2, x3, x4⟩ := x
  obtain ⟨y1, y2, y3, y4⟩ := y
  unfold zk at hx hy
  unfold q_w i_wt i_rank at h
  simp only at hx hy h
  have : x1 = y1 ∧ x2 = y2 ∧ x4 = y4 := by
    rcases (show x1 = 3 ∨ x1 = 4 ∨ x1 = 5 by omega) with e | e | e <;> rcases (show y1 = 3 ∨ y1 = 4 ∨ y1 = 5 by omega) with g | g | g <;> subst e <;> subst g <;> simp at h <;> (try split at h) <;> omega
  obtain ⟨r1, r2, r3⟩ := this
  rw [r1, r2, r3, hx.2.2.1, hy.2.2.1, r2]
def b_o1 (o : Int) : Int := if o = -9 then 0 else 1
def co_post (n : Nat) (σ : k_St) (a : Nat) (s c : Int) (R : List (Int × Int)) (o : Int) (Z : List q_T) (m : Int) : k_P := fun v n' τ => v = none ∧ n' = n ∧ cf_fr a σ τ ∧ (∀ i, τ.1 43 i = 1 ↔ σ.1 43 i = 1 ∨ i ∈ c_l (σ.1 17) m o) ∧ (∀ j, j < s * 4 → τ.1 (a + 4) j = σ.1 (a + 4) j) ∧ ∃ R' Z', cs_is τ a s c R' (c_o (σ.1 17) m o) Z' ∧ (∀ x, x ∈ R' ↔ x ∈ R ∨ x ∈ c_r (σ.1 17) (m_pg σ) m o) ∧ (∀ y, y ∈ Z' ↔ y ∈ Z ∨ (3 ≤ σ.1 17 m ∧ y = (σ.1 17 m, m_pg σ m, m_pg σ m, σ.1 20 m))) ∧ (∀ z ∈ Z', zk z) ∧ (R'.length : Int) + Z'.length + b_o1 (c_o (σ.1 17) m o) ≤ (R.length : Int) + Z.length + b_o1 o + 1
set_option maxHeartbeats 4000000 in
theorem s_collect {G : j_G} {X : k_X} {n : Nat} {σ : k_St} (hn : 101 ≤ n) (hw : m_wf σ 16) (hk : mk_wf σ) {a : Nat} (ha : a = 48 ∨ a = 58) (hA : i_at X n a) {s c : Int} {R : List (Int × Int)} {o9 : Int} {Z : List q_T} (hcs : cs_is σ a s c R o9 Z) (hR5 : R.length < 50) {m : Int} (hm : m_is σ m) (hl : σ.1 17 m ≤ 5) (hs9 : 0 ≤ s) (h50 : s + Z.length < 50) (hcc : σ.2.1 39 12 = c) (hzk : ∀ z ∈ Z, zk z)  : k_run G X mX6_collect [.ref 39, .ref a, j_i s, j_i m] n σ 0 0 (co_post n σ a s c R o9 Z m) := by
  have hm5 := m_is_50 hw hm
  have hm0 := hm.1
  have hpg := m_pg_in hw hm
  have hoo : σ.2.1 39 10 = o9 := hcs.2.2.1
  have ho9 := hcs.2.2.2.1
  have hor : -9 ≤ o9 ∧ o9 < 50 := by rcases ho9 with h | h; omega; have := m_is_50 hw h; have := h.1; omega
  have hkd : 0 ≤ σ.1 17 m ∧ σ.1 17 m ≤ 7 := (hw.2.2 m hm.1 hm.2.1).1
  have hnt : 0 ≤ σ.1 20 m ∧ σ.1 20 m ≤ 99 := (hw.2.2 m hm.1 hm.2.1).2.2.2
  obtain ⟨h5, hs0, hs1, hs2, hs3, hs4, hs5, hs6, hs7⟩ := id hA
  refine k_enter (by decide +kernel) (Nat.le_of_ble_eq_true rfl) ?_
  show j_at _ _ _ [(0, .ref 39), (1, .ref a), (2, j_i s), (3, j_i m)] [] _ _ _ _
  refine a_aload_n (pc := 0) (i := 0) (by decide +kernel) rfl ?_
  refine a_iload_n (pc := 1) (i := 3) (by decide +kernel) rfl ?_
  refine b_pureV (pc := 2) [j_i m] [] ml_X6_215 (by decide +kernel) rfl rfl (sh_39 hn) rfl rfl (Nat.le_of_ble_eq_true rfl) (j_fitI rfl rfl) (s_mpage hn hw hk hm) ?_
  show j_at _ _ _ [(0, .ref 39), (1, .ref a), (2, j_i s), (3, j_i m)] [j_i (m_pg σ m)] _ _ _ _
  refine a_istore (pc := 5) (i := 4) (lv' := [(0, .ref 39), (1, .ref a), (2, j_i s), (3, j_i m), (4, j_i (m_pg σ m))]) (by decide +kernel) (Nat.le_of_ble_eq_true rfl) rfl ?_
  refine a_aload_n (pc := 7) (i := 0) (by decide +kernel) rfl ?_
  refine b_getR (pc := 8) (b := 6) fl_X6_54 (by decide +kernel) (sh_39 hn) rfl ?_
  refine b_getR (pc := 11) (b := 16) fl_X6_131 (by decide +kernel) (sh_6 hn) rfl ?_
  refine b_getR (pc := 14) (b := 17) fl_X6_218 (by decide +kernel) (sh_16 hn) rfl ?_
  refine a_iload_n (pc := 17) (i := 3) (by decide +kernel) rfl ?_
  refine b_iaload (pc := 18) (by decide +kernel) (sh_17 hn) (by omega) (by omega) (by omega) ?_
  by_cases c19 : σ.1 17 m < 0 ∨ 2 < σ.1 17 m
  · refine a_tableOut (pc := 19) (tgt := 91) (dflt := 72) (lo := 0) (hi := 2) (offs := #[25, 39, 64]) (len := 25) (by decide +kernel) (by omega) c19 (by decide) ?_
    refine a_aload_n (pc := 91) (i := 1) (by decide +kernel) rfl ?_
    refine a_iload_n (pc := 92) (i := 2) (by decide +kernel) rfl ?_
    refine a_aload_n (pc := 93) (i := 0) (by decide +kernel) rfl ?_
    refine b_getR (pc := 94) (b := 6) fl_X6_54 (by decide +kernel) (sh_39 hn) rfl ?_
    refine b_getR (pc := 97) (b := 16) fl_X6_131 (by decide +kernel) (sh_6 hn) rfl ?_
    refine b_getR (pc := 100) (b := 17) fl_X6_218 (by decide +kernel) (sh_16 hn) rfl ?_
    refine a_iload_n (pc := 103) (i := 3) (by decide +kernel) rfl ?_
    refine b_iaload (pc := 104) (by decide +kernel) (sh_17 hn) (by omega) (by omega) (by omega) ?_
    refine a_iload (pc := 105) (i := 4) (by decide +kernel) rfl ?_
    refine a_iload (pc := 107) (i := 4) (by decide +kernel) rfl ?_
    refine a_aload_n (pc := 109) (i := 0) (by decide +kernel) rfl ?_
    refine b_getR (pc := 110) (b := 6) fl_X6_54 (by decide +kernel) (sh_39 hn) rfl ?_
    refine b_getR (pc := 113) (b := 16) fl_X6_131 (by decide +kernel) (sh_6 hn) rfl ?_
    refine b_getR (pc := 116) (b := 20) fl_X6_228 (by decide +kernel) (sh_16 hn) rfl ?_
    refine a_iload_n (pc := 119) (i := 3) (by decide +kernel) rfl ?_
    refine b_iaload (pc := 120) (by decide +kernel) (sh_20 hn) (by omega) (by omega) (by omega) ?_
    refine a_aload_n (pc := 121) (i := 0) (by decide +kernel) rfl ?_
    refine b_getI (pc := 122) fl_X6_48 (by decide +kernel) (sh_39 hn) rfl ?_
    rw [show σ.2.1 39 12 = c from hcc]
    refine b_callV (pc := 125) (c' := 0) (sl' := 0) [j_i s, j_i (σ.1 17 m), j_i (m_pg σ m), j_i (m_pg σ m), j_i (σ.1 20 m), j_i c] [] ml_X6_208 (by decide +kernel) rfl rfl hs0 rfl rfl (Nat.le_of_ble_eq_true rfl) (j_fitI rfl rfl) (s_addPlaceL hn hA hcs.2.2.2.2.1 hs9 h50 (by have := hk.2.2; omega) (by omega) (by omega) (by omega) (by omega)) (fun v n' σ' hq => ?_)
    obtain ⟨σ1, hσ1⟩ : ∃ z, z = σ' := ⟨_, rfl⟩
    rw [← hσ1] at hq ⊢
    obtain ⟨rfl, e1, Fσ1, yσ1, Yσ1, Kσ1, w2σ1, w3σ1⟩ := hq
    rw [e1]; clear e1
    show j_at _ _ _ [(0, .ref 39), (1, .ref a), (2, j_i s), (3, j_i m), (4, j_i (m_pg σ m))] [] _ _ _ _
    refine a_return (pc := 128) (by decide +kernel) rfl ?_
    refine k_ret ?_
    have x0 : ¬ σ.1 17 m = 0 := by omega
    have x1 : ¬ σ.1 17 m = 1 := by omega
    have x2 : ¬ σ.1 17 m = 2 := by omega
    have e1 : c_l (σ.1 17) m o9 = [] := by unfold c_l; rw [if_neg x1, if_neg x2]
    have e2 : c_o (σ.1 17) m o9 = o9 := by unfold c_o; rw [if_neg x1, if_neg x2]
    have e3 : c_r (σ.1 17) (m_pg σ) m o9 = [] := by unfold c_r; rw [if_neg x0, if_neg x1, if_neg x2]
    have hzx : zk (σ.1 17 m, m_pg σ m, m_pg σ m, σ.1 20 m) := ⟨⟨by show 3 ≤ σ.1 17 m; omega, hl⟩, hpg, rfl, hnt⟩
    refine ⟨rfl, rfl, cf_of_p Fσ1, fun i => by rw [e1, Fσ1.1 43 (by omega)]; simp, yσ1, R, Yσ1, by rw [e2]; exact cs_pl ha hcs Fσ1 Kσ1, fun x => by rw [e3]; simp, fun y => ?_, fun z hz => ?_, by rw [e2]; omega⟩
    · rw [w2σ1 y]
      constructor
      · rintro (h | ⟨h, _⟩)
        · exact Or.inl h
        · exact Or.inr ⟨by omega, h⟩
      · rintro (h | ⟨_, h⟩)
        · exact Or.inl h
        · by_cases h9 : ∃ z, z ∈ Z ∧ q_w c z = q_w c (σ.1 17 m, m_pg σ m, m_pg σ m, σ.1 20 m)
          · obtain ⟨z, hz, hq⟩ := h9
            rw [h, ← zk_w (hzk z hz) hzx hq]; exact Or.inl hz
          · exact Or.inr ⟨h, fun z hz hq => h9 ⟨z, hz, hq⟩⟩
    · rcases (w2σ1 z).mp hz with h | ⟨h, _⟩
      · exact hzk z h
      · rw [h]; exact hzx
  rcases (show σ.1 17 m = 0 ∨ σ.1 17 m = 1 ∨ σ.1 17 m = 2 by omega) with c19 | c19 | c19
  · rw [c19]
    refine a_tableIn (pc := 19) (tgt := 44) (dflt := 72) (lo := 0) (hi := 2) (off := 25) (offs := #[25, 39, 64]) (len := 25) (by decide +kernel) (by decide) (by decide) (by decide) rfl (by decide) ?_
    refine a_aload_n (pc := 44) (i := 0) (by decide +kernel) rfl ?_
    refine b_getR (pc := 45) (b := 45) fl_X6_38 (by decide +kernel) (sh_39 hn) rfl ?_
    refine a_iload (pc := 48) (i := 4) (by decide +kernel) rfl ?_
    refine a_iload (pc := 50) (i := 4) (by decide +kernel) rfl ?_
    refine b_callV (pc := 52) (c' := 0) (sl' := 0) [j_i (m_pg σ m), j_i (m_pg σ m)] [] ml_X6_221 (by decide +kernel) rfl rfl (sh_45 hn) rfl rfl (Nat.le_of_ble_eq_true rfl) (j_fitI rfl rfl) (s_radd hn hcs.1 hR5 (by omega) (by omega)) (fun v n' σ' hq => ?_)
    obtain ⟨σ2, hσ2⟩ : ∃ z, z = σ' := ⟨_, rfl⟩
    rw [← hσ2] at hq ⊢
    obtain ⟨rfl, e1, fσ2, Rσ2, uσ2, qσ2⟩ := hq
    rw [e1]; clear e1
    obtain ⟨w1σ2, w2σ2, w3σ2⟩ := u_adds_ok qσ2 hcs.2.1
    have Kσ2 := cs_u ha hcs fσ2 uσ2 w1σ2
    have Gσ2 : cf_fr a σ σ2 := cf_of_u fσ2
    show j_at _ _ _ [(0, .ref 39), (1, .ref a), (2, j_i s), (3, j_i m), (4, j_i (m_pg σ m))] [] _ _ _ _
    refine a_goto (pc := 55) (off := 73) (tgt := 128) (by decide +kernel) (by decide) ?_
    refine a_return (pc := 128) (by decide +kernel) rfl ?_
    refine k_ret ?_
    have e1 : c_l (σ.1 17) m o9 = [] := by unfold c_l; rw [if_neg (by omega), if_neg (by omega)]
    have e2 : c_o (σ.1 17) m o9 = o9 := by unfold c_o; rw [if_neg (by omega), if_neg (by omega)]
    have e3 : c_r (σ.1 17) (m_pg σ) m o9 = [(m_pg σ m, m_pg σ m)] := by unfold c_r; rw [if_pos c19]
    refine ⟨rfl, rfl, Gσ2, fun i => by rw [e1, fσ2.1 43 (by omega) (by omega)]; simp, fun j _ => by rw [fσ2.1 (a + 4) (by omega) (by omega)], Rσ2, Z, by rw [e2]; exact Kσ2, fun x => by rw [e3, w2σ2 x, List.mem_singleton], fun y => ⟨Or.inl, fun h => h.elim id (fun h => absurd h.1 (by omega))⟩, hzk, ?_⟩
    rw [e2, w3σ2]; simp; omega
  · rw [c19]
    refine a_tableIn (pc := 19) (tgt := 58) (dflt := 72) (lo := 0) (hi := 2) (off := 39) (offs := #[25, 39, 64]) (len := 25) (by decide +kernel) (by decide) (by decide) (by decide) rfl (by decide) ?_
    refine a_aload_n (pc := 58) (i := 0) (by decide +kernel) rfl ?_
    refine b_getI (pc := 59) fl_X6_42 (by decide +kernel) (sh_39 hn) rfl ?_
    rw [show σ.2.1 39 10 = o9 from hoo]
    refine a_bipush (pc := 62) (n := (-9)) (by decide +kernel) rfl ?_
    refine a_icmp_eq (pc := 64) (off := 11) (tgt := 75) (by decide +kernel) (by decide) (by omega) (by omega) (fun c64 => ?_) (fun c64 => ?_)
    · refine a_aload_n (pc := 75) (i := 0) (by decide +kernel) rfl ?_
      refine a_iload_n (pc := 76) (i := 3) (by decide +kernel) rfl ?_
      refine b_putI (pc := 77) fl_X6_42 (by decide +kernel) (sh_39 hn) rfl rfl rfl ?_
      obtain ⟨σ3, hσ3⟩ : ∃ z, z = k_sI σ 39 10 m := ⟨_, rfl⟩
      rw [← hσ3]
      refine a_goto (pc := 80) (off := 48) (tgt := 128) (by decide +kernel) (by decide) ?_
      refine a_return (pc := 128) (by decide +kernel) rfl ?_
      refine k_ret ?_
      have e1 : c_l (σ.1 17) m o9 = [] := by unfold c_l; rw [if_pos c19, if_pos c64]
      have e2 : c_o (σ.1 17) m o9 = m := by unfold c_o; rw [if_pos c19]
      have e3 : c_r (σ.1 17) (m_pg σ) m o9 = [] := by unfold c_r; rw [if_neg (by omega), if_pos c19, if_pos c64]
      refine ⟨rfl, rfl, by rw [hσ3]; exact cf_10, fun i => by rw [e1, hσ3]; simp [k_I1], fun j _ => by rw [hσ3, k_I1], R, Z, by rw [e2, hσ3]; exact cs_10 ha hcs (Or.inr hm), fun x => by rw [e3]; simp, fun y => ⟨Or.inl, fun h => h.elim id (fun h => absurd h.1 (by omega))⟩, hzk, ?_⟩
      rw [e2]; unfold b_o1; rw [if_neg (by omega), if_pos c64]; omega
    · have ho : m_is σ o9 := ho9.resolve_left c64
      have hpo := m_pg_in hw ho
      refine a_aload_n (pc := 67) (i := 0) (by decide +kernel) rfl ?_
      refine a_aload_n (pc := 68) (i := 0) (by decide +kernel) rfl ?_
      refine b_getI (pc := 69) fl_X6_42 (by decide +kernel) (sh_39 hn) rfl ?_
      rw [show σ.2.1 39 10 = o9 from hoo]
      refine b_callV (pc := 72) (c' := 0) (sl' := 0) [j_i o9] [] ml_X6_187 (by decide +kernel) rfl rfl (sh_39 hn) rfl rfl (Nat.le_of_ble_eq_true rfl) (j_fitI rfl rfl) (s_standAlone hn hw hk ha hA hcs hR5 ho) (fun v n' σ' hq => ?_)
      obtain ⟨σ4, hσ4⟩ : ∃ z, z = σ' := ⟨_, rfl⟩
      rw [← hσ4] at hq ⊢
      obtain ⟨rfl, e1, Fσ4, zσ4, yσ4, Rσ4, Kσ4, w2σ4, w3σ4⟩ := hq
      rw [e1]; clear e1
      show j_at _ _ _ [(0, .ref 39), (1, .ref a), (2, j_i s), (3, j_i m), (4, j_i (m_pg σ m))] [] _ _ _ _
      refine a_aload_n (pc := 75) (i := 0) (by decide +kernel) rfl ?_
      refine a_iload_n (pc := 76) (i := 3) (by decide +kernel) rfl ?_
      refine b_putI (pc := 77) fl_X6_42 (by decide +kernel) (sh_39 hn) rfl rfl rfl ?_
      obtain ⟨σ5, hσ5⟩ : ∃ z, z = k_sI σ4 39 10 m := ⟨_, rfl⟩
      rw [← hσ5]
      refine a_goto (pc := 80) (off := 48) (tgt := 128) (by decide +kernel) (by decide) ?_
      refine a_return (pc := 128) (by decide +kernel) rfl ?_
      refine k_ret ?_
      have e1 : c_l (σ.1 17) m o9 = [o9] := by unfold c_l; rw [if_pos c19, if_neg c64]
      have e2 : c_o (σ.1 17) m o9 = m := by unfold c_o; rw [if_pos c19]
      have e3 : c_r (σ.1 17) (m_pg σ) m o9 = [(m_pg σ o9, m_pg σ o9)] := by unfold c_r; rw [if_neg (by omega), if_pos c19, if_neg c64]
      refine ⟨rfl, rfl, cf_fr_t Fσ4 (by rw [hσ5]; exact cf_10), fun i => by rw [e1, hσ5, k_I1, zσ4]; exact up_43, fun j _ => by rw [hσ5, k_I1, yσ4], Rσ4, Z, by rw [e2, hσ5]; exact cs_10 ha Kσ4 (Or.inr ((cf_mis ha Fσ4 _).mpr hm)), fun x => by rw [e3, w2σ4 x, List.mem_singleton], fun y => ⟨Or.inl, fun h => h.elim id (fun h => absurd h.1 (by omega))⟩, hzk, ?_⟩
      rw [e2, w3σ4]; unfold b_o1; rw [if_neg (by omega), if_neg c64]; simp; omega
  · rw [c19]
    refine a_tableIn (pc := 19) (tgt := 83) (dflt := 72) (lo := 0) (hi := 2) (off := 64) (offs := #[25, 39, 64]) (len := 25) (by decide +kernel) (by decide) (by decide) (by decide) rfl (by decide) ?_
    refine a_aload_n (pc := 83) (i := 0) (by decide +kernel) rfl ?_
    refine a_iload_n (pc := 84) (i := 3) (by decide +kernel) rfl ?_
    refine b_callV (pc := 85) (c' := 0) (sl' := 0) [j_i m] [] ml_X6_225 (by decide +kernel) rfl rfl (sh_39 hn) rfl rfl (Nat.le_of_ble_eq_true rfl) (j_fitI rfl rfl) (s_close hn hw hk ha hA hcs hR5 hm) (fun v n' σ' hq => ?_)
    obtain ⟨σ6, hσ6⟩ : ∃ z, z = σ' := ⟨_, rfl⟩
    rw [← hσ6] at hq ⊢
    obtain ⟨rfl, e1, Fσ6, zσ6, yσ6, Rσ6, Kσ6, w2σ6, w3σ6⟩ := hq
    rw [e1]; clear e1
    show j_at _ _ _ [(0, .ref 39), (1, .ref a), (2, j_i s), (3, j_i m), (4, j_i (m_pg σ m))] [] _ _ _ _
    refine a_goto (pc := 88) (off := 40) (tgt := 128) (by decide +kernel) (by decide) ?_
    refine a_return (pc := 128) (by decide +kernel) rfl ?_
    refine k_ret ?_
    have e1 : c_l (σ.1 17) m o9 = if o9 = -9 then [m] else [] := by unfold c_l; rw [if_neg (by omega), if_pos c19]
    have e2 : c_o (σ.1 17) m o9 = -9 := by unfold c_o; rw [if_neg (by omega), if_pos c19]
    have e3 : c_r (σ.1 17) (m_pg σ) m o9 = if o9 = -9 then [(m_pg σ m, m_pg σ m)] else [(m_pg σ o9, m_pg σ m)] := by unfold c_r; rw [if_neg (by omega), if_neg (by omega), if_pos c19]
    refine ⟨rfl, rfl, Fσ6, fun i => by rw [e1]; exact zσ6 i, fun j _ => by rw [yσ6], Rσ6, Z, by rw [e2]; exact Kσ6, fun x => by rw [e3]; exact w2σ6 x, fun y => ⟨Or.inl, fun h => h.elim id (fun h => absurd h.1 (by omega))⟩, hzk, ?_⟩
    rw [e2, w3σ6]; unfold b_o1; split <;> simp <;> omega
