def q_sw (v : Int32) (l : List Int32) (d : Int32) : Int32 := if v.toInt < 0 then d else l.getD v.toInt.toNat d
theorem q_sw_d {v : Int32} {l : List Int32} {d : Int32} {n : Nat} (hl : l.length = n + 1) (h : v.toInt < 0 ∨ (n : Int) < v.toInt) : d = q_sw v l d := by
  unfold q_sw
  by_cases q : v.toInt < 0
  · rw [if_pos q]
  · rw [if_neg q, List.getD_eq_getElem?_getD, List.getElem?_eq_none (by omega)]
    rfl
theorem q_sw_0 {a zz : Int32} {l : List Int32} : a = q_sw 0 (a :: l) zz := rfl
theorem q_sw_1 {a b zz : Int32} {l : List Int32} : b = q_sw 1 (a :: b :: l) zz := rfl
theorem q_sw_2 {a b c zz : Int32} {l : List Int32} : c = q_sw 2 (a :: b :: c :: l) zz := rfl
theorem q_sw_3 {a b c d zz : Int32} {l : List Int32} : d = q_sw 3 (a :: b :: c :: d :: l) zz := rfl
theorem q_sw_4 {a b c d e zz : Int32} {l : List Int32} : e = q_sw 4 (a :: b :: c :: d :: e :: l) zz := rfl
theorem q_sw_5 {a b c d e f zz : Int32} {l : List Int32} : f = q_sw 5 (a :: b :: c :: d :: e :: f :: l) zz := rfl
theorem q_sw_6 {a b c d e f g zz : Int32} {l : List Int32} : g = q_sw 6 (a :: b :: c :: d :: e :: f :: g :: l) zz := rfl
theorem q_sw_7 {a b c d e f g h zz : Int32} {l : List Int32} : h = q_sw 7 (a :: b :: c :: d :: e :: f :: g :: h :: l) zz := rfl
theorem q_sw_8 {a b c d e f g h i zz : Int32} {l : List Int32} : i = q_sw 8 (a :: b :: c :: d :: e :: f :: g :: h :: i :: l) zz := rfl
theorem q_sw_9 {a b c d e f g h i j zz : Int32} {l : List Int32} : j = q_sw 9 (a :: b :: c :: d :: e :: f :: g :: h :: i :: j :: l) zz := rfl
theorem q_sw_10 {a b c d e f g h i j k zz : Int32} {l : List Int32} : k = q_sw 10 (a :: b :: c :: d :: e :: f :: g :: h :: i :: j :: k :: l) zz := rfl
def q_set (f : Nat → Bool) : Nat → Int32
  | 0 => 0
  | n + 1 => if f n = true then q_set f n ||| ((1 : Int32) <<< (nI n &&& 31)) else q_set f n
theorem q_set_bt {f : Nat → Bool} : ∀ {n i : Nat}, n ≤ 32 → i < 32 → bt (q_set f n) i = (decide (i < n) && f i)
  | 0, i, _, _ => by simp [q_set, b_0]
  | n + 1, i, hn, hi => by
    have ih := q_set_bt (f := f) (n := n) (i := i) (by omega) hi
    unfold q_set
    by_cases h : f n = true
    · rw [if_pos h, b_or, ih, b_one (by omega) hi]
      by_cases q : i = n
      · subst q
        simp [h]
      · have : (i < n + 1) ↔ i < n := by omega
        simp [q, this]
    · rw [if_neg h, ih]
      by_cases q : i = n
      · subst q
        simp [h]
      · have : (i < n + 1) ↔ i < n := by omega
        simp [this]
theorem q_cn_cut {p f : Nat → Bool} {n : Nat} (m : Nat) (h : ∀ i, i < n + m → p i = (decide (i < n) && f i)) : q_cn p (n + m) = q_cn f n := by
  rw [q_cn_add]
  have e1 : q_cn p n = q_cn f n := q_cn_cong fun i hi => by rw [h i (by omega)]; simp [hi]
  have e2 : q_cn (fun i => p (n + i)) m = q_cn (fun _ => false) m := q_cn_cong fun i hi => by
    have z : ¬ n + i < n := by omega
    rw [h (n + i) (by omega)]
    simp [z]
  have e3 : ∀ k, q_cn (fun _ => false) k = 0 := fun k => by
    induction k with
    | zero => rfl
    | succ k ih => rw [q_cn, ih]; rfl
  rw [e1, e2, e3]
  rfl
noncomputable def q_Rof (E : xM) (v1 v2 : Int32) : Int32 := q_if (vp_in v1 (q_s E)) (q_sw v2 [E 2 v1.toNatClampNeg, E 3 v1.toNatClampNeg, x_b (bt (E 1 1) v1.toNatClampNeg = true), E 4 v1.toNatClampNeg, x_b (bt (E 1 2) v1.toNatClampNeg = true), q_nw E v1.toNatClampNeg (q_w E), E 5 v1.toNatClampNeg] (-2)) (-1)
theorem ok_X9_of {g : xG} (v1 v2 : Int32) (M : xM) (K : Nat) (h : WF K M) : mi_X9_of g v1 v2 M (fun r N => r = q_Rof M v1 v2 ∧ N = M) := by
  have hs := WF_s h
  have hw := WF_w h
  refine wk_X9_of _ _ M _ ?_
  unfold vc_X9_of
  refine mo_X6_has (ok_X6_has _ _ (q_s M) (by omega) hs.2) ?_
  rintro r M ⟨rfl, rfl⟩
  refine ⟨fun z => ?_, fun z => ⟨by rw [q_Rof, q_if0 (x_b_eq.mp z)], rfl⟩⟩
  have z := x_b_ne.mp z
  have e : ∀ v, v = q_sw v2 [M 2 v1.toNatClampNeg, M 3 v1.toNatClampNeg, x_b (bt (M 1 1) v1.toNatClampNeg = true), M 4 v1.toNatClampNeg, x_b (bt (M 1 2) v1.toNatClampNeg = true), q_nw M v1.toNatClampNeg (q_w M), M 5 v1.toNatClampNeg] (-2) → v = q_Rof M v1 v2 ∧ M = M := fun v hv => ⟨by rw [q_Rof, q_if1 z]; exact hv, rfl⟩
  obtain ⟨s, hs2, rfl⟩ := x_of (by omega) z
  rw [x_cl (by omega)] at e ⊢
  have v12 : vp_in (nI s) 12 := x_vi (by omega) (by omega)
  refine ⟨fun q => e _ (q_sw_d (n := 6) rfl q), ?_, ?_, ?_, ?_, ?_, ?_, ?_⟩
  · rintro rfl
    exact ⟨v12, e _ q_sw_0⟩
  · rintro rfl
    exact ⟨v12, e _ q_sw_1⟩
  · rintro rfl
    refine mo_X6_isThere (ok_X6_isThere s (by omega) _) ?_
    rintro r M ⟨rfl, rfl⟩
    refine mo_X9_asNumber (ok_X9_asNumber _ _) ?_
    rintro r M ⟨rfl, rfl⟩
    exact e _ q_sw_2
  · rintro rfl
    exact ⟨v12, e _ q_sw_3⟩
  · rintro rfl
    refine mo_X9_isIn (ok_X9_isIn _ s (by omega) _) ?_
    rintro r M ⟨rfl, rfl⟩
    refine mo_X9_asNumber (ok_X9_asNumber _ _) ?_
    rintro r M ⟨rfl, rfl⟩
    exact e _ q_sw_4
  · rintro rfl
    refine mo_X8_numberWith (ok_X8_numberWith s (by omega) _ (q_w M) hw.1 hw.2) ?_
    rintro r M ⟨rfl, rfl⟩
    exact e _ q_sw_5
  · rintro rfl
    exact ⟨v12, e _ q_sw_6⟩
noncomputable def q_Riq (E : xM) (v1 v2 : Int32) : Int32 := q_if (vp_in v1 (q_w E)) (q_sw v2 [E 12 v1.toNatClampNeg, E 13 v1.toNatClampNeg, E 14 v1.toNatClampNeg, q_kt E (E 12 v1.toNatClampNeg).toNatClampNeg (q_ov (E 13 v1.toNatClampNeg)) (E 14 v1.toNatClampNeg).toNatClampNeg, x_b (q_rd E v1.toNatClampNeg = true), x_b (q_fr E (E 1 2) v1.toNatClampNeg = true), q_tf E (E 4) v1.toNatClampNeg] (-2)) (-1)
theorem q_ok_in {E : xM} {w : Nat} (h : q_ok E w) : vp_in (E 12 w) 12 ∧ (E 13 w = -6 ∨ vp_in (E 13 w) 12) ∧ vp_in (E 14 w) 16 := by
  obtain ⟨⟨f, f1, f2⟩, ho, u, u1, u2⟩ := h
  refine ⟨by rw [f2]; exact x_vi f1 (by omega), ?_, by rw [u2]; exact x_vi u1 (by omega)⟩
  rcases ho with ho | ⟨o, o1, o2⟩
  · exact Or.inl ho
  · exact Or.inr (by rw [o2]; exact x_vi o1 (by omega))
theorem ok_X9_inQueue {g : xG} (v1 v2 : Int32) (M : xM) (K : Nat) (h : WF K M) : mi_X9_inQueue g v1 v2 M (fun r N => r = q_Riq M v1 v2 ∧ N = M) := by
  have hw := WF_w h
  refine wk_X9_inQueue _ _ M _ ?_
  unfold vc_X9_inQueue
  refine mo_X8_has (ok_X8_has _ _ (q_w M) (by omega) hw.2) ?_
  rintro r M ⟨rfl, rfl⟩
  refine ⟨fun z => ?_, fun z => ⟨by rw [q_Riq, q_if0 (x_b_eq.mp z)], rfl⟩⟩
  have z := x_b_ne.mp z
  have e : ∀ v, v = q_sw v2 [M 12 v1.toNatClampNeg, M 13 v1.toNatClampNeg, M 14 v1.toNatClampNeg, q_kt M (M 12 v1.toNatClampNeg).toNatClampNeg (q_ov (M 13 v1.toNatClampNeg)) (M 14 v1.toNatClampNeg).toNatClampNeg, x_b (q_rd M v1.toNatClampNeg = true), x_b (q_fr M (M 1 2) v1.toNatClampNeg = true), q_tf M (M 4) v1.toNatClampNeg] (-2) → v = q_Riq M v1 v2 ∧ M = M := fun v hv => ⟨by rw [q_Riq, q_if1 z]; exact hv, rfl⟩
  obtain ⟨w, hw2, rfl⟩ := x_of (by omega) z
  rw [x_cl (by omega)] at e ⊢
  have v20 : vp_in (nI w) 20 := x_vi (by omega) (by omega)
  have hok := q_ok_of h hw2
  obtain ⟨i1, i2, i3⟩ := q_ok_in hok
  refine ⟨fun q => e _ (q_sw_d (n := 6) rfl q), ?_, ?_, ?_, ?_, ?_, ?_, ?_⟩
  · rintro rfl
    exact ⟨v20, e _ q_sw_0⟩
  · rintro rfl
    exact ⟨v20, e _ q_sw_1⟩
  · rintro rfl
    exact ⟨v20, e _ q_sw_2⟩
  · rintro rfl
    refine ⟨v20, v20, v20, ?_⟩
    refine mo_X0_keyAndTen (ok_X0_keyAndTen_v _ _ _ _ i1 i2 i3) ?_
    rintro r M ⟨rfl, rfl⟩
    exact e _ q_sw_3
  · rintro rfl
    refine mo_X8_readyOnes (ok_X8_readyOnes _ _ (q_w M) hw.1 hw.2) ?_
    rintro r M ⟨rfl, rfl⟩
    refine mo_X9_isIn (ok_X9_isIn _ w (by omega) _) ?_
    rintro r M ⟨rfl, rfl⟩
    have eb : bt (q_om M (M 1 1 ^^^ -1) (q_w M)) w = true ↔ q_rd M w = true := by
      rw [q_om_bt (by omega) (by omega)]
      simp [q_rd, hw2]
    rw [x_b_iff eb]
    refine mo_X9_asNumber (ok_X9_asNumber _ _) ?_
    rintro r M ⟨rfl, rfl⟩
    exact e _ q_sw_4
  · rintro rfl
    refine mo_X8_freshOnes (ok_X8_freshOnes _ _ (q_w M) hw.1 hw.2) ?_
    rintro r M ⟨rfl, rfl⟩
    refine mo_X9_isIn (ok_X9_isIn _ w (by omega) _) ?_
    rintro r M ⟨rfl, rfl⟩
    have eb : bt (q_om M (M 1 2) (q_w M)) w = true ↔ q_fr M (M 1 2) w = true := by
      rw [q_om_bt (by omega) (by omega)]
      simp [q_fr, hw2]
    rw [x_b_iff eb]
    refine mo_X9_asNumber (ok_X9_asNumber _ _) ?_
    rintro r M ⟨rfl, rfl⟩
    exact e _ q_sw_5
  · rintro rfl
    refine mo_X8_turnsFor (ok_X8_turnsFor w (by omega) 4 xa_4 _ hok) ?_
    rintro r M ⟨rfl, rfl⟩
    exact e _ q_sw_6
noncomputable def q_Rke (E : xM) (v1 v2 v3 : Int32) : Int32 := q_if (q_en E v1 v2 v3 = 0) (q_kt E v1.toNatClampNeg (q_ov v2) v3.toNatClampNeg) (q_en E v1 v2 v3)
theorem ok_X9_key {g : xG} (v1 v2 v3 : Int32) (M : xM) (K : Nat) (h : WF K M) : mi_X9_key g v1 v2 v3 M (fun r N => r = q_Rke M v1 v2 v3 ∧ N = M) := by
  have hs := WF_s h
  have hg := WF_g h
  refine wk_X9_key _ _ _ M _ ?_
  unfold vc_X9_key
  refine mo_X0_errorOfNames (ok_X0_errorOfNames _ _ _ _ K h) ?_
  rintro r M ⟨rfl, rfl⟩
  refine ⟨fun z => ?_, fun z => ⟨by rw [q_Rke, q_if0 z], rfl⟩⟩
  obtain ⟨e1, e2, e3, -⟩ := q_en_0 z
  refine mo_X0_keyAndTen (ok_X0_keyAndTen_v _ _ _ _ (vp_le e1 (by omega)) (e2.imp id (fun w => vp_le w (by omega))) (vp_le e3 (by omega))) ?_
  rintro r M ⟨rfl, rfl⟩
  exact ⟨by rw [q_Rke, q_if1 z], rfl⟩
noncomputable def q_Ros (E : xM) (v1 v2 : Int32) : Int32 := q_if (vp_in v1 (q_g E)) (q_sw v2 [E 7 v1.toNatClampNeg, E 8 v1.toNatClampNeg, E 9 v1.toNatClampNeg, q_set (fun i => decide (q_kt E i none v1.toNatClampNeg ≠ -6)) (q_s E), E 10 v1.toNatClampNeg] (-2)) (-1)
theorem q_set_eq {f : Nat → Bool} {n : Nat} (hn : n ≤ 32) {r : Int32} (h : ∀ i, i < 32 → bt r i = (decide (i < n) && f i)) : r = q_set f n := b_ext fun i hi => by rw [h i hi, q_set_bt hn hi]
theorem ok_X9_ofSong {g : xG} (v1 v2 : Int32) (M : xM) (K : Nat) (h : WF K M) : mi_X9_ofSong g v1 v2 M (fun r N => r = q_Ros M v1 v2 ∧ N = M) := by
  have hg := WF_g h
  have hs := WF_s h
  refine wk_X9_ofSong _ _ M _ ?_
  unfold vc_X9_ofSong
  refine mo_X7_has (ok_X7_has _ _ (q_g M) (by omega) hg.2) ?_
  rintro r M ⟨rfl, rfl⟩
  refine ⟨fun z => ?_, fun z => ⟨by rw [q_Ros, q_if0 (x_b_eq.mp z)], rfl⟩⟩
  have z := x_b_ne.mp z
  have e : ∀ v, v = q_sw v2 [M 7 v1.toNatClampNeg, M 8 v1.toNatClampNeg, M 9 v1.toNatClampNeg, q_set (fun i => decide (q_kt M i none v1.toNatClampNeg ≠ -6)) (q_s M), M 10 v1.toNatClampNeg] (-2) → v = q_Ros M v1 v2 ∧ M = M := fun v hv => ⟨by rw [q_Ros, q_if1 z]; exact hv, rfl⟩
  obtain ⟨u, hu, rfl⟩ := x_of (by omega) z
  rw [x_cl (by omega)] at e ⊢
  have v16 : vp_in (nI u) 16 := x_vi (by omega) (by omega)
  refine ⟨fun q => e _ (q_sw_d (n := 4) rfl q), ?_, ?_, ?_, ?_, ?_⟩
  · rintro rfl
    exact ⟨v16, e _ q_sw_0⟩
  · rintro rfl
    exact ⟨v16, e _ q_sw_1⟩
  · rintro rfl
    exact ⟨v16, e _ q_sw_2⟩
  · rintro rfl
    refine mo_X0_singersWithKey (ok_X0_singersWithKey u (by omega) _ (q_s M) hs.1 hs.2) ?_
    rintro r M ⟨hr, rfl⟩
    exact e _ (by rw [q_set_eq (by omega) hr]; exact q_sw_3)
  · rintro rfl
    exact ⟨v16, e _ q_sw_4⟩
noncomputable def q_Rpa (E : xM) (v1 v2 : Int32) : Int32 := q_if (vp_in v1 (q_p E)) (q_sw v2 [E 16 v1.toNatClampNeg, E 17 v1.toNatClampNeg, E 18 v1.toNatClampNeg, E 19 v1.toNatClampNeg] (-2)) (-1)
theorem ok_X9_past {g : xG} (v1 v2 : Int32) (M : xM) (K : Nat) (h : WF K M) : mi_X9_past g v1 v2 M (fun r N => r = q_Rpa M v1 v2 ∧ N = M) := by
  have hp := WF_p h
  refine wk_X9_past _ _ M _ ?_
  unfold vc_X9_past
  refine mo_X9_isBetween (ok_X9_isBetween _ _ _ _) ?_
  rintro r M ⟨rfl, rfl⟩
  rw [hp.2, x_b_iff (x_hasI (by omega))]
  refine ⟨fun z => ?_, fun z => ⟨by rw [q_Rpa, q_if0 (x_b_eq.mp z)], rfl⟩⟩
  have z := x_b_ne.mp z
  have e : ∀ v, v = q_sw v2 [M 16 v1.toNatClampNeg, M 17 v1.toNatClampNeg, M 18 v1.toNatClampNeg, M 19 v1.toNatClampNeg] (-2) → v = q_Rpa M v1 v2 ∧ M = M := fun v hv => ⟨by rw [q_Rpa, q_if1 z]; exact hv, rfl⟩
  have v12 : vp_in v1 12 := vp_le z hp.1
  refine ⟨fun q => e _ (q_sw_d (n := 3) rfl q), ?_, ?_, ?_, ?_⟩
  · rintro rfl
    exact ⟨v12, e _ q_sw_0⟩
  · rintro rfl
    exact ⟨v12, e _ q_sw_1⟩
  · rintro rfl
    exact ⟨v12, e _ q_sw_2⟩
  · rintro rfl
    exact ⟨v12, e _ q_sw_3⟩
def q_Rco (E : xM) (pl hn v1 : Int32) : Int32 := q_sw v1 [E 1 0, E 1 1, E 6 0, E 11 0, nI (q_cn (q_rd E) (q_w E)), q_on (q_next E), E 0 4, E 0 5, E 1 2, pl, hn] (-2)
theorem q_om_big {E : xM} {x : Int32} {n : Nat} (hn : n ≤ 20) {i : Nat} (hi : 20 ≤ i) : bt (q_om E x n) i = false := by
  by_cases q : i < 32
  · rw [q_om_bt (by omega) q]
    have : ¬ i < n := by omega
    simp [this]
  · exact b_big (by omega)
theorem q_om_cn {E : xM} {x : Int32} {n : Nat} (hn : n ≤ 20) : q_cn (bt (q_om E x n)) 20 = q_cn (fun i => decide (q_ss E i &&& x = 0)) n := by
  obtain ⟨m, hm⟩ : ∃ m, 20 = n + m := ⟨20 - n, by omega⟩
  rw [hm]
  exact q_cn_cut m fun i hi => q_om_bt (by omega) (by omega)
theorem ok_X9_count {g : xG} (v1 : Int32) (M : xM) (K : Nat) (h : WF K M) : mi_X9_count g v1 M (fun r N => r = q_Rco M (M 185 1) (M 181 1) v1 ∧ N = M) := by
  have hw := WF_w h
  refine wk_X9_count _ M _ ?_
  unfold vc_X9_count
  refine ⟨fun q => ⟨q_sw_d (n := 10) rfl q, rfl⟩, ?_, ?_, ?_, ?_, ?_, ?_, ?_, ?_, ?_, ?_, ?_⟩
  · rintro rfl
    exact ⟨q_sw_0, rfl⟩
  · rintro rfl
    exact ⟨q_sw_1, rfl⟩
  · rintro rfl
    exact ⟨q_sw_2, rfl⟩
  · rintro rfl
    exact ⟨q_sw_3, rfl⟩
  · rintro rfl
    refine mo_X8_readyOnes (ok_X8_readyOnes _ _ (q_w M) hw.1 hw.2) ?_
    rintro r M ⟨rfl, rfl⟩
    refine mo_J6_bitCount_0f7a4 (ok_bitCount _ (fun i hi => q_om_big hw.1 hi) _) ?_
    rintro r M ⟨rfl, rfl⟩
    rw [q_om_cn hw.1]
    exact ⟨q_sw_4, rfl⟩
  · rintro rfl
    refine mo_X0_nextWish (ok_X0_nextWish M (q_w M) hw.1 hw.2 (fun w hw2 => q_ok_of h hw2)) ?_
    rintro r M ⟨rfl, rfl⟩
    exact ⟨q_sw_5, rfl⟩
  · rintro rfl
    exact ⟨q_sw_6, rfl⟩
  · rintro rfl
    exact ⟨q_sw_7, rfl⟩
  · rintro rfl
    exact ⟨q_sw_8, rfl⟩
  · rintro rfl
    exact ⟨q_sw_9, rfl⟩
  · rintro rfl
    exact ⟨q_sw_10, rfl⟩
def q_ea (E : xM) : Nat → Int32
  | 0 => E 0 4
  | n + 1 => if q_rd E n = true then q_ea E n + E 9 (E 14 n).toNatClampNeg else q_ea E n
theorem ok_X9_endOfAll {g : xG} (M : xM) (K : Nat) (h : WF K M) : mi_X9_endOfAll g M (fun r N => r = q_ea M (q_w M) ∧ N = M) := by
  have hw := WF_w h
  refine wk_X9_endOfAll M _ (fun k v1 v2 v3 N => ∃ i, i ≤ q_w M ∧ k = q_w M - i ∧ v1 = q_om M (M 1 1 ^^^ -1) (q_w M) ∧ v2 = q_ea M i ∧ v3 = nI i ∧ N = M) ?_ ?_
  · unfold vc_X9_endOfAll
    refine mo_X8_readyOnes (ok_X8_readyOnes _ _ (q_w M) hw.1 hw.2) ?_
    rintro r M ⟨rfl, rfl⟩
    exact ⟨q_w M, 0, by omega, by omega, rfl, rfl, rfl, rfl⟩
  · rintro k v1 v2 v3 N ⟨i, hi, rfl, rfl, rfl, rfl, rfl⟩
    unfold vc_X9_endOfAll_1
    rw [hw.2, x_le (by omega) (by omega)]
    refine ⟨fun q => ?_, fun q => ?_⟩
    · have : i = q_w N := by omega
      subst this
      exact ⟨rfl, rfl⟩
    · refine mo_X9_isIn (ok_X9_isIn _ i (by omega) _) ?_
      rintro r N ⟨rfl, rfl⟩
      have eb : bt (q_om N (N 1 1 ^^^ -1) (q_w N)) i = true ↔ q_rd N i = true := by
        rw [q_om_bt (by omega) (by omega)]
        have : i < q_w N := by omega
        simp [q_rd, this]
      rw [x_b_iff eb]
      refine ⟨fun z => ⟨q_w N - (i + 1), by omega, i + 1, by omega, rfl, rfl, by rw [q_ea, if_neg (x_b_eq.mp z)], nI_1 i, rfl⟩, fun z => ?_⟩
      refine mo_X0_lengthOfWish (ok_X0_lengthOfWish i (by omega) _ (q_ok_of h (by omega))) ?_
      rintro r N ⟨rfl, rfl⟩
      exact ⟨q_w N - (i + 1), by omega, i + 1, by omega, rfl, rfl, by rw [q_ea, if_pos (x_b_ne.mp z)], nI_1 i, rfl⟩
noncomputable def q_Ril (E : xM) (v1 : Int32) : Int32 := q_if (vp_in v1 (q_s E)) (E 11 0 - nI (q_cn (q_rd (x_up E 1 1 (q_no (E 1 1) v1.toNatClampNeg))) (q_w E))) (-1)
theorem ok_X9_ifLeft {g : xG} (v1 : Int32) (M : xM) (K : Nat) (h : WF K M) : mi_X9_ifLeft g v1 M (fun r N => r = q_Ril M v1 ∧ N = M) := by
  have hs := WF_s h
  have hw := WF_w h
  refine wk_X9_ifLeft _ M _ ?_
  unfold vc_X9_ifLeft
  refine mo_X6_has (ok_X6_has _ _ (q_s M) (by omega) hs.2) ?_
  rintro r M ⟨rfl, rfl⟩
  refine ⟨fun z => ?_, fun z => ⟨by rw [q_Ril, q_if0 (x_b_eq.mp z)], rfl⟩⟩
  have z := x_b_ne.mp z
  rw [q_Ril, q_if1 z]
  obtain ⟨s, hs2, rfl⟩ := x_of (by omega) z
  rw [x_cl (by omega)]
  rintro y3 rfl
  refine mo_X8_readyOnes (ok_X8_readyOnes _ _ (q_w M) hw.1 hw.2) ?_
  rintro r M ⟨rfl, rfl⟩
  refine mo_J6_bitCount_0f7a4 (ok_bitCount _ (fun i hi => q_om_big hw.1 hi) _) ?_
  rintro r M ⟨rfl, rfl⟩
  rw [q_om_cn hw.1]
  refine ⟨?_, rfl⟩
  congr 2
noncomputable def q_Rto (E : xM) (v1 v2 : Int32) : Int32 := q_if (vp_in v1 (q_s E) ∧ vp_in v2 (q_s E)) (if v1 = v2 then -2 else nI (q_cn (fun u => decide (q_kt E v1.toNatClampNeg (some v2.toNatClampNeg) u ≠ -6)) (q_g E))) (-1)
theorem ok_X9_together {g : xG} (v1 v2 : Int32) (M : xM) (K : Nat) (h : WF K M) : mi_X9_together g v1 v2 M (fun r N => r = q_Rto M v1 v2 ∧ N = M) := by
  have hs := WF_s h
  have hg := WF_g h
  refine wk_X9_together _ _ M _ (fun k w1 w2 w3 w4 N => ∃ i, vp_in v1 (q_s M) ∧ vp_in v2 (q_s M) ∧ v1 ≠ v2 ∧ i ≤ q_g M ∧ k = q_g M - i ∧ w1 = v1 ∧ w2 = v2 ∧ w3 = nI (q_cn (fun u => decide (q_kt M v1.toNatClampNeg (some v2.toNatClampNeg) u ≠ -6)) i) ∧ w4 = nI i ∧ N = M) ?_ ?_
  · unfold vc_X9_together
    refine mo_X6_has (ok_X6_has _ _ (q_s M) (by omega) hs.2) ?_
    rintro r M ⟨rfl, rfl⟩
    refine ⟨fun z => ⟨by rw [q_Rto, q_if0 (fun w => x_b_eq.mp z w.1)], rfl⟩, fun z => ?_⟩
    refine mo_X6_has (ok_X6_has _ _ (q_s M) (by omega) hs.2) ?_
    rintro r M ⟨rfl, rfl⟩
    refine ⟨fun z2 => ⟨fun q => ⟨q_g M, 0, x_b_ne.mp z, x_b_ne.mp z2, q, by omega, by omega, rfl, rfl, rfl, rfl, rfl⟩, fun q => ⟨by rw [q_Rto, q_if1 ⟨x_b_ne.mp z, x_b_ne.mp z2⟩, if_pos q], rfl⟩⟩, fun z2 => ⟨by rw [q_Rto, q_if0 (fun w => x_b_eq.mp z2 w.2)], rfl⟩⟩
  · rintro k w1 w2 w3 w4 N ⟨i, c1, c2, c3, hi, rfl, rfl, rfl, rfl, rfl, rfl⟩
    unfold vc_X9_together_1
    rw [hg.2, x_le (by omega) (by omega)]
    refine ⟨fun q => ?_, fun q => ?_⟩
    · have : i = q_g N := by omega
      subst this
      exact ⟨by rw [q_Rto, q_if1 ⟨c1, c2⟩, if_neg c3], rfl⟩
    · obtain ⟨a, ha, ea⟩ := x_of (by omega) c1
      obtain ⟨b, hb, eb⟩ := x_of (by omega) c2
      have e1 : w1.toNatClampNeg = a := by rw [ea, x_cl (by omega)]
      have e2 : w2.toNatClampNeg = b := by rw [eb, x_cl (by omega)]
      have hk : mi_X0_keyAndTen g w1 w2 (nI i) N (fun r N' => r = q_kt N a (some b) i ∧ N' = N) := by
        rw [ea, eb]
        exact ok_X0_keyAndTen a (some b) i (by omega) (fun j hj => by cases hj; omega) (by omega) N
      rw [e1, e2]
      refine mo_X0_keyAndTen hk ?_
      rintro r N ⟨rfl, rfl⟩
      refine ⟨fun z => ⟨q_g N - (i + 1), by omega, i + 1, c1, c2, c3, by omega, rfl, rfl, rfl, ?_, nI_1 i, rfl⟩, fun z => ⟨q_g N - (i + 1), by omega, i + 1, c1, c2, c3, by omega, rfl, rfl, rfl, ?_, nI_1 i, rfl⟩⟩
      · rw [q_cn, if_neg (by simp [z])]
        rfl
      · rw [q_cn, if_pos (by simp [z])]
        exact nI_1 _
