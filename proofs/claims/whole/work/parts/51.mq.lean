/-! the reference: calls that only look -/
theorem x_b_if {b : Bool} : (if b = true then (1 : Int32) else 0) = x_b (b = true) := by
  by_cases h : b = true
  · rw [if_pos h, x_b1 h]
  · rw [if_neg h, x_b0 h]
theorem ok_X10_of {g : xG} (E M : xM) (K : Nat) (v1 v2 : Int32) (hE : WF K E) (h : RE E (M 194)) : mi_X10_of g v1 v2 M (fun r N => r = q_Rof E v1 v2 ∧ N = M) := by
  have h0 := RE_0 hE h
  have hs := WF_s hE
  refine wk_X10_of _ _ M _ ?_
  unfold vc_X10_of
  refine mo_X10_isSinger (ok_X10_isSinger _ _ (q_s E) (by omega) h0) ?_
  rintro r M ⟨rfl, rfl⟩
  refine ⟨fun z => ?_, fun z => ⟨by rw [q_Rof, q_if0 (x_b_eq.mp z)], rfl⟩⟩
  have z := x_b_ne.mp z
  have e : ∀ v, v = q_sw v2 [E 2 v1.toNatClampNeg, E 3 v1.toNatClampNeg, x_b (bt (E 1 1) v1.toNatClampNeg = true), E 4 v1.toNatClampNeg, x_b (bt (E 1 2) v1.toNatClampNeg = true), q_nw E v1.toNatClampNeg (q_w E), E 5 v1.toNatClampNeg] (-2) → v = q_Rof E v1 v2 ∧ M = M := fun v hv => ⟨by rw [q_Rof, q_if1 z]; exact hv, rfl⟩
  obtain ⟨s, hs2, rfl⟩ := x_of (by omega) z
  rw [x_cl (by omega)] at e
  have hs3 : s < 12 := by omega
  obtain ⟨p0, p1, p2, p3, p4⟩ := RE_s h hs3
  refine ⟨fun q => e _ (q_sw_d (n := 6) rfl q), ?_, ?_, ?_, ?_, ?_, ?_, ?_⟩
  · rintro rfl
    refine mo_X10_singerPart (ok_X10_singerPart s 0 hs3 (by omega) _) ?_
    rintro r M ⟨rfl, rfl⟩
    exact e _ (p0.trans q_sw_0)
  · rintro rfl
    refine mo_X10_singerPart (ok_X10_singerPart s 1 hs3 (by omega) _) ?_
    rintro r M ⟨rfl, rfl⟩
    exact e _ (p1.trans q_sw_1)
  · rintro rfl
    refine mo_X10_singerPart (ok_X10_singerPart s 2 hs3 (by omega) _) ?_
    rintro r M ⟨rfl, rfl⟩
    exact e _ ((p2.trans x_b_if).trans q_sw_2)
  · rintro rfl
    refine mo_X10_singerPart (ok_X10_singerPart s 3 hs3 (by omega) _) ?_
    rintro r M ⟨rfl, rfl⟩
    exact e _ (p3.trans q_sw_3)
  · rintro rfl
    refine ⟨v_k (n := 3) 239 (by omega) (by omega) rfl, ?_⟩
    rw [c_3, h.1.2.2.2.1, x_bit01 (by omega)]
    exact e _ (x_b_if.trans q_sw_4)
  · rintro rfl
    refine mo_X10_wishesOf (ok_X10_wishesOf E M K s (by omega) hE h) ?_
    rintro r M ⟨rfl, rfl⟩
    exact e _ q_sw_5
  · rintro rfl
    refine mo_X10_singerPart (ok_X10_singerPart s 4 hs3 (by omega) _) ?_
    rintro r M ⟨rfl, rfl⟩
    exact e _ (p4.trans q_sw_6)
theorem ok_X10_inQueue {g : xG} (E M : xM) (K : Nat) (v1 v2 : Int32) (hE : WF K E) (h : RE E (M 194)) : mi_X10_inQueue g v1 v2 M (fun r N => r = q_Riq E v1 v2 ∧ N = M) := by
  have h2 := RE_2 hE h
  have hw := WF_w hE
  refine wk_X10_inQueue _ _ M _ ?_
  unfold vc_X10_inQueue
  refine mo_X10_isWish (ok_X10_isWish _ _ (q_w E) (by omega) h2) ?_
  rintro r M ⟨rfl, rfl⟩
  refine ⟨fun z => ?_, fun z => ⟨by rw [q_Riq, q_if0 (x_b_eq.mp z)], rfl⟩⟩
  have z := x_b_ne.mp z
  have e : ∀ v, v = q_sw v2 [E 12 v1.toNatClampNeg, E 13 v1.toNatClampNeg, E 14 v1.toNatClampNeg, q_kt E (E 12 v1.toNatClampNeg).toNatClampNeg (q_ov (E 13 v1.toNatClampNeg)) (E 14 v1.toNatClampNeg).toNatClampNeg, x_b (q_rd E v1.toNatClampNeg = true), x_b (q_fr E (E 1 2) v1.toNatClampNeg = true), q_tf E (E 4) v1.toNatClampNeg] (-2) → v = q_Riq E v1 v2 ∧ M = M := fun v hv => ⟨by rw [q_Riq, q_if1 z]; exact hv, rfl⟩
  obtain ⟨w, hw2, rfl⟩ := x_of (by omega) z
  rw [x_cl (by omega)] at e
  have hw3 : w < 20 := by omega
  have hok := q_ok_of hE hw2
  obtain ⟨i1, i2, i3⟩ := q_ok_in hok
  obtain ⟨p0, p1, p2⟩ := RE_w h hw2
  refine ⟨fun q => e _ (q_sw_d (n := 6) rfl q), ?_, ?_, ?_, ?_, ?_, ?_, ?_⟩
  · rintro rfl
    refine mo_X10_wishPart (ok_X10_wishPart w 0 hw3 (by omega) _) ?_
    rintro r M ⟨rfl, rfl⟩
    exact e _ (p0.trans q_sw_0)
  · rintro rfl
    refine mo_X10_wishPart (ok_X10_wishPart w 1 hw3 (by omega) _) ?_
    rintro r M ⟨rfl, rfl⟩
    exact e _ (p1.trans q_sw_1)
  · rintro rfl
    refine mo_X10_wishPart (ok_X10_wishPart w 2 hw3 (by omega) _) ?_
    rintro r M ⟨rfl, rfl⟩
    exact e _ (p2.trans q_sw_2)
  · rintro rfl
    refine mo_X10_wishPart (ok_X10_wishPart w 0 hw3 (by omega) _) ?_
    rintro r M ⟨rfl, rfl⟩
    refine mo_X10_wishPart (ok_X10_wishPart w 1 hw3 (by omega) _) ?_
    rintro r M ⟨rfl, rfl⟩
    refine mo_X10_wishPart (ok_X10_wishPart w 2 hw3 (by omega) _) ?_
    rintro r M ⟨rfl, rfl⟩
    rw [p0, p1, p2]
    refine mo_X10_keyFor (ok_X10_keyFor_v E M _ _ _ h i1 i2 i3) ?_
    rintro r M ⟨rfl, rfl⟩
    exact e _ q_sw_3
  · rintro rfl
    refine mo_X10_isReady (ok_X10_isReady E M K w hE hw2 h) ?_
    rintro r M ⟨rfl, rfl⟩
    exact ⟨fun q => e _ ((x_b0 (x_b_eq.mp q)).symm.trans q_sw_4), fun q => e _ ((x_b1 (x_b_ne.mp q)).symm.trans q_sw_4)⟩
  · rintro rfl
    refine mo_X10_isFresh (ok_X10_isFresh E M K w hE hw2 h) ?_
    rintro r M ⟨rfl, rfl⟩
    exact ⟨fun q => e _ ((x_b0 (x_b_eq.mp q)).symm.trans q_sw_5), fun q => e _ ((x_b1 (x_b_ne.mp q)).symm.trans q_sw_5)⟩
  · rintro rfl
    refine mo_X10_turnsFor (ok_X10_turnsFor E M K w hE hw2 h) ?_
    rintro r M ⟨rfl, rfl⟩
    exact e _ q_sw_6
theorem ok_X10_key {g : xG} (E M : xM) (K : Nat) (v1 v2 v3 : Int32) (hE : WF K E) (h : RE E (M 194)) : mi_X10_key g v1 v2 v3 M (fun r N => r = q_Rke E v1 v2 v3 ∧ N = M) := by
  have h1 := RE_1 hE h
  have hs := WF_s hE
  have hg := WF_g hE
  refine wk_X10_key _ _ _ M _ ?_
  unfold vc_X10_key
  have ne0 : ∀ {x : Int32}, x = q_en E v1 v2 v3 → ¬ x = 0 → x = q_Rke E v1 v2 v3 := by
    rintro x rfl hx
    rw [q_Rke, q_if0 hx]
  refine mo_X10_areSingers (ok_X10_areSingers E M K _ _ hE h) ?_
  rintro r M ⟨rfl, rfl⟩
  refine ⟨fun z => ⟨ne0 ?_ (by decide), rfl⟩, fun z => ?_⟩
  · rw [q_en, q_if0]
    exact fun w => x_b_eq.mp z ⟨w.1, w.2.1⟩
  · have z := x_b_ne.mp z
    refine mo_X10_isSong (ok_X10_isSong _ _ (q_g E) (by omega) h1) ?_
    rintro r M ⟨rfl, rfl⟩
    refine ⟨fun z2 => ?_, fun z2 => ⟨ne0 ?_ (by decide), rfl⟩⟩
    · have z2 := x_b_ne.mp z2
      refine ⟨fun q => ?_, fun q => ⟨ne0 ?_ (by decide), rfl⟩⟩
      · have en : q_en E v1 v2 v3 = 0 := by
          rw [q_en, q_if1 ⟨z.1, z.2, z2⟩, if_neg q]
        refine mo_X10_keyFor (ok_X10_keyFor_v E _ _ _ _ h (vp_le z.1 (by omega)) (z.2.imp id (fun w => vp_le w (by omega))) (vp_le z2 (by omega))) ?_
        rintro r M ⟨rfl, rfl⟩
        exact ⟨by rw [q_Rke, q_if1 en], rfl⟩
      · rw [q_en, q_if1 ⟨z.1, z.2, z2⟩, if_pos q]
    · rw [q_en, q_if0]
      exact fun w => x_b_eq.mp z2 w.2.2
theorem ok_X10_ofSong {g : xG} (E M : xM) (K : Nat) (v1 v2 : Int32) (hE : WF K E) (h : RE E (M 194)) : mi_X10_ofSong g v1 v2 M (fun r N => r = q_Ros E v1 v2 ∧ N = M) := by
  have h1 := RE_1 hE h
  have hg := WF_g hE
  have hs := WF_s hE
  refine wk_X10_ofSong _ _ M _ ?_
  unfold vc_X10_ofSong
  refine mo_X10_isSong (ok_X10_isSong _ _ (q_g E) (by omega) h1) ?_
  rintro r M ⟨rfl, rfl⟩
  refine ⟨fun z => ?_, fun z => ⟨by rw [q_Ros, q_if0 (x_b_eq.mp z)], rfl⟩⟩
  have z := x_b_ne.mp z
  have e : ∀ v, v = q_sw v2 [E 7 v1.toNatClampNeg, E 8 v1.toNatClampNeg, E 9 v1.toNatClampNeg, q_set (fun i => decide (q_kt E i none v1.toNatClampNeg ≠ -6)) (q_s E), E 10 v1.toNatClampNeg] (-2) → v = q_Ros E v1 v2 ∧ M = M := fun v hv => ⟨by rw [q_Ros, q_if1 z]; exact hv, rfl⟩
  obtain ⟨u, hu, rfl⟩ := x_of (by omega) z
  rw [x_cl (by omega)] at e
  have hu3 : u < 16 := by omega
  obtain ⟨p0, p1, p2, p3⟩ := RE_g h hu3
  refine ⟨fun q => e _ (q_sw_d (n := 4) rfl q), ?_, ?_, ?_, ?_, ?_⟩
  · rintro rfl
    refine mo_X10_songPart (ok_X10_songPart u 0 hu3 (by omega) _) ?_
    rintro r M ⟨rfl, rfl⟩
    exact e _ (p0.trans q_sw_0)
  · rintro rfl
    refine mo_X10_songPart (ok_X10_songPart u 1 hu3 (by omega) _) ?_
    rintro r M ⟨rfl, rfl⟩
    exact e _ (p1.trans q_sw_1)
  · rintro rfl
    refine mo_X10_songPart (ok_X10_songPart u 2 hu3 (by omega) _) ?_
    rintro r M ⟨rfl, rfl⟩
    exact e _ (p2.trans q_sw_2)
  · rintro rfl
    refine mo_X10_singersFor (ok_X10_singersFor E M K u hu3 hE h) ?_
    rintro r M ⟨hr, rfl⟩
    exact e _ (by rw [q_set_eq (by omega) hr]; exact q_sw_3)
  · rintro rfl
    refine mo_X10_songPart (ok_X10_songPart u 3 hu3 (by omega) _) ?_
    rintro r M ⟨rfl, rfl⟩
    exact e _ (p3.trans q_sw_4)
theorem ix_p (b c : Nat) : ((191 : Int32) + (4 : Int32) * nI b) + nI c = nI (191 + 4 * b + c) := by
  show (nI 191 + nI 4 * nI b) + nI c = _
  rw [pk_mul, nI_add, nI_add]
theorem RE_p {E : xM} {s : Nat → Int32} (h : RE E s) {i : Nat} (hi : i < q_p E) : s (191 + 4 * i + 0) = E 16 i ∧ s (191 + 4 * i + 1) = E 17 i ∧ s (191 + 4 * i + 2) = E 18 i ∧ s (191 + 4 * i + 3) = E 19 i := by
  have := h.2.2.2.2 i hi
  rw [Nat.add_right_comm 191 _ 1, Nat.add_right_comm 191 _ 2, Nat.add_right_comm 191 _ 3]
  exact this
theorem ok_X10_past {g : xG} (E M : xM) (K : Nat) (v1 v2 : Int32) (hE : WF K E) (h : RE E (M 194)) : mi_X10_past g v1 v2 M (fun r N => r = q_Rpa E v1 v2 ∧ N = M) := by
  have hp := WF_p hE
  refine wk_X10_past _ _ M _ ?_
  unfold vc_X10_past
  rw [c_6, h.1.2.2.2.2.2.2, hp.2]
  refine ⟨v_k (n := 6) 239 (by omega) (by omega) rfl, ?_⟩
  refine mo_X10_within (ok_X10_within _ _ _ _) ?_
  rintro r M ⟨rfl, rfl⟩
  rw [x_b_iff (x_hasI (by omega))]
  refine ⟨fun z => ?_, fun z => ⟨by rw [q_Rpa, q_if0 (x_b_eq.mp z)], rfl⟩⟩
  have z := x_b_ne.mp z
  have e : ∀ v, v = q_sw v2 [E 16 v1.toNatClampNeg, E 17 v1.toNatClampNeg, E 18 v1.toNatClampNeg, E 19 v1.toNatClampNeg] (-2) → v = q_Rpa E v1 v2 ∧ M = M := fun v hv => ⟨by rw [q_Rpa, q_if1 z]; exact hv, rfl⟩
  refine mo_X10_within (ok_X10_within _ _ _ _) ?_
  rintro r M ⟨rfl, rfl⟩
  have h4 : (0 ≤ v2 ∧ v2 ≤ 3) ↔ vp_in v2 4 := x_hasI (n := 4) (by omega)
  rw [x_b_iff h4]
  refine ⟨fun z2 => e _ (q_sw_d (n := 3) rfl ?_), fun z2 => ?_⟩
  · have z2 := x_b_eq.mp z2
    rw [← h4, Int32.le_iff_toInt_le, Int32.le_iff_toInt_le, show (0 : Int32).toInt = 0 from rfl, show (3 : Int32).toInt = 3 from rfl] at z2
    show _ ∨ (3 : Int) < _
    omega
  · have z2 := x_b_ne.mp z2
    obtain ⟨b, hb, rfl⟩ := x_of (by omega) z
    obtain ⟨c, hc, rfl⟩ := x_of (by omega) z2
    rw [ix_p, x_cl (by omega)]
    rw [x_cl (by omega)] at e
    refine ⟨x_vi (by omega) (by omega), ?_⟩
    obtain ⟨p0, p1, p2, p3⟩ := RE_p h hb
    match c, hc with
    | 0, _ => exact e _ (p0.trans q_sw_0)
    | 1, _ => exact e _ (p1.trans q_sw_1)
    | 2, _ => exact e _ (p2.trans q_sw_2)
    | 3, _ => exact e _ (p3.trans q_sw_3)
    | n + 4, q => exact absurd q (by omega)
theorem ok_X10_count {g : xG} (E M : xM) (K : Nat) (v1 : Int32) (hE : WF K E) (h : RE E (M 194)) : mi_X10_count g v1 M (fun r N => r = q_Rco E (M 193 7) (M 193 3) v1 ∧ N = M) := by
  obtain ⟨a0, a1, a2, a3, a4, a5, a6⟩ := h.1
  refine wk_X10_count _ M _ ?_
  unfold vc_X10_count
  rw [c_0, c_1, c_2, c_3, c_4, c_5]
  refine ⟨fun q => ⟨q_sw_d (n := 10) rfl q, rfl⟩, ?_, ?_, ?_, ?_, ?_, ?_, ?_, ?_, ?_, ?_, ?_⟩
  · rintro rfl
    exact ⟨v_k (n := 0) 239 (by omega) (by omega) rfl, a0.trans q_sw_0, rfl⟩
  · rintro rfl
    refine mo_X10_there (ok_X10_there E M K hE h) ?_
    rintro r M ⟨rfl, rfl⟩
    exact ⟨q_sw_1, rfl⟩
  · rintro rfl
    exact ⟨v_k (n := 1) 239 (by omega) (by omega) rfl, a1.trans q_sw_2, rfl⟩
  · rintro rfl
    exact ⟨v_k (n := 2) 239 (by omega) (by omega) rfl, a2.trans q_sw_3, rfl⟩
  · rintro rfl
    refine mo_X10_readyMany (ok_X10_readyMany E M K hE h) ?_
    rintro r M ⟨rfl, rfl⟩
    exact ⟨q_sw_4, rfl⟩
  · rintro rfl
    refine mo_X10_nextWish (ok_X10_nextWish E M K hE h) ?_
    rintro r M ⟨rfl, rfl⟩
    exact ⟨q_sw_5, rfl⟩
  · rintro rfl
    exact ⟨v_k (n := 4) 239 (by omega) (by omega) rfl, a4.trans q_sw_6, rfl⟩
  · rintro rfl
    exact ⟨v_k (n := 5) 239 (by omega) (by omega) rfl, a5.trans q_sw_7, rfl⟩
  · rintro rfl
    exact ⟨v_k (n := 3) 239 (by omega) (by omega) rfl, a3.trans q_sw_8, rfl⟩
  · rintro rfl
    exact ⟨q_sw_9, rfl⟩
  · rintro rfl
    exact ⟨q_sw_10, rfl⟩
theorem ok_X10_endOfAll {g : xG} (E M : xM) (K : Nat) (hE : WF K E) (h : RE E (M 194)) : mi_X10_endOfAll g M (fun r N => r = q_ea E (q_w E) ∧ N = M) := by
  have hw := WF_w hE
  have hg := WF_g hE
  refine wk_X10_endOfAll M _ (fun k v1 v2 N => ∃ i, i ≤ q_w E ∧ k = q_w E - i ∧ v1 = q_ea E i ∧ v2 = nI i ∧ N = M) ?_ ?_
  · unfold vc_X10_endOfAll
    exact ⟨v_k (n := 4) 239 (by omega) (by omega) rfl, q_w E, 0, by omega, by omega, h.1.2.2.2.2.1, rfl, rfl⟩
  · rintro k v1 v2 N ⟨i, hi, rfl, rfl, rfl, rfl⟩
    unfold vc_X10_endOfAll_1
    rw [c_2, RE_2 hE h, x_le (by omega) (by omega)]
    refine ⟨v_k (n := 2) 239 (by omega) (by omega) rfl, fun q => ?_, fun q => ?_⟩
    · have : i = q_w E := by omega
      subst this
      exact ⟨rfl, rfl⟩
    · refine mo_X10_isReady (ok_X10_isReady E N K i hE (by omega) h) ?_
      rintro r N ⟨rfl, rfl⟩
      refine ⟨fun z => ⟨q_w E - (i + 1), by omega, i + 1, by omega, rfl, by rw [q_ea, if_neg (x_b_eq.mp z), Int32.add_zero], nI_1 i, rfl⟩, fun z => ?_⟩
      obtain ⟨-, -, s, s1, s2⟩ := q_ok_of hE (show i < q_w E by omega)
      refine mo_X10_wishPart (ok_X10_wishPart i 2 (by omega) (by omega) _) ?_
      rintro r N ⟨rfl, rfl⟩
      rw [(RE_w h (show i < q_w E by omega)).2.2, s2]
      refine mo_X10_songPart (ok_X10_songPart s 2 (by omega) (by omega) _) ?_
      rintro r N ⟨rfl, rfl⟩
      exact ⟨q_w E - (i + 1), by omega, i + 1, by omega, rfl, by rw [q_ea, if_pos (x_b_ne.mp z), s2, x_cl (by omega), (RE_g h (show s < 16 by omega)).2.2.1], nI_1 i, rfl⟩
theorem ok_X10_ifLeft {g : xG} (E M : xM) (K : Nat) (v1 : Int32) (hE : WF K E) (h : RE E (M 194)) : mi_X10_ifLeft g v1 M (fun r N => r = q_Ril E v1 ∧ N = M) := by
  have h0 := RE_0 hE h
  have hs := WF_s hE
  refine wk_X10_ifLeft _ M _ ?_
  unfold vc_X10_ifLeft
  refine mo_X10_isSinger (ok_X10_isSinger _ _ (q_s E) (by omega) h0) ?_
  rintro r M ⟨rfl, rfl⟩
  refine ⟨fun z => ?_, fun z => ⟨by rw [q_Ril, q_if0 (x_b_eq.mp z)], rfl⟩⟩
  have z := x_b_ne.mp z
  rw [q_Ril, q_if1 z]
  obtain ⟨s, hs2, rfl⟩ := x_of (by omega) z
  have hs3 : s < 12 := by omega
  rw [x_cl (by omega)]
  refine mo_X10_singerPart (ok_X10_singerPart s 2 hs3 (by omega) _) ?_
  rintro r M ⟨rfl, rfl⟩
  refine mo_X10_setSinger (ok_X10_setSinger s 2 hs3 (by omega) _ _) ?_
  rintro N rfl
  have hth := hE.2.2.2.2.1
  have hb : ∀ i, bt (q_no (E 1 1) s) i = true → i < q_s E := fun i hi => by
    by_cases q : i < 32
    · rw [q_no_bt (by omega) q, Bool.and_eq_true] at hi
      exact hth i hi.1
    · rw [b_big (by omega)] at hi
      cases hi
  have hE' := WF_th hE (q_no (E 1 1) s) hb
  have hR : RE (x_up E 1 1 (q_no (E 1 1) s)) (x_up M 194 (7 + 5 * s + 2) 0 194) := by
    have := RE_up_th h s hs3 (q_no (E 1 1) s) 0 (fun i hi hne => by rw [q_no_bt (by omega) (by omega)]; simp [hne]) (by rw [q_no_bt (by omega) (by omega)]; simp)
    rw [show 9 + 5 * s = 7 + 5 * s + 2 by omega] at this
    have e2 : x_up M 194 (7 + 5 * s + 2) 0 194 = upd (M 194) (7 + 5 * s + 2) 0 := by
      funext k
      simp [x_up, upd]
    rw [e2]
    exact this
  have ew : q_w (x_up E 1 1 (q_no (E 1 1) s)) = q_w E := by
    unfold q_w
    rw [x_up_other (by decide)]
  have h2 := RE_2 hE' hR
  refine ⟨v_k (n := 2) 239 (by omega) (by omega) rfl, ?_⟩
  refine mo_X10_readyMany (ok_X10_readyMany _ _ K hE' hR) ?_
  rintro r N ⟨rfl, rfl⟩
  refine mo_X10_setSinger (ok_X10_setSinger s 2 hs3 (by omega) _ _) ?_
  rintro N rfl
  refine ⟨?_, by rw [x_up_up, x_up_id rfl]⟩
  rw [c_2, h2, ew, ← (WF_w hE).2]
theorem ok_X10_together {g : xG} (E M : xM) (K : Nat) (v1 v2 : Int32) (hE : WF K E) (h : RE E (M 194)) : mi_X10_together g v1 v2 M (fun r N => r = q_Rto E v1 v2 ∧ N = M) := by
  have h0 := RE_0 hE h
  have hs := WF_s hE
  have hg := WF_g hE
  refine wk_X10_together _ _ M _ (fun k w1 w2 w3 w4 N => ∃ i, vp_in v1 (q_s E) ∧ vp_in v2 (q_s E) ∧ v1 ≠ v2 ∧ i ≤ q_g E ∧ k = q_g E - i ∧ w1 = v1 ∧ w2 = v2 ∧ w3 = nI (q_cn (fun u => decide (q_kt E v1.toNatClampNeg (some v2.toNatClampNeg) u ≠ -6)) i) ∧ w4 = nI i ∧ N = M) ?_ ?_
  · unfold vc_X10_together
    refine mo_X10_isSinger (ok_X10_isSinger _ _ (q_s E) (by omega) h0) ?_
    rintro r M ⟨rfl, rfl⟩
    refine ⟨fun z => ⟨by rw [q_Rto, q_if0 (fun w => x_b_eq.mp z w.1)], rfl⟩, fun z => ?_⟩
    refine mo_X10_isSinger (ok_X10_isSinger _ _ (q_s E) (by omega) h0) ?_
    rintro r M ⟨rfl, rfl⟩
    refine ⟨fun z2 => ⟨fun q => ⟨q_g E, 0, x_b_ne.mp z, x_b_ne.mp z2, q, by omega, by omega, rfl, rfl, rfl, rfl, rfl⟩, fun q => ⟨by rw [q_Rto, q_if1 ⟨x_b_ne.mp z, x_b_ne.mp z2⟩, if_pos q], rfl⟩⟩, fun z2 => ⟨by rw [q_Rto, q_if0 (fun w => x_b_eq.mp z2 w.2)], rfl⟩⟩
  · rintro k w1 w2 w3 w4 N ⟨i, c1, c2, c3, hi, rfl, rfl, rfl, rfl, rfl, rfl⟩
    unfold vc_X10_together_1
    rw [c_1, RE_1 hE h, x_le (by omega) (by omega)]
    refine ⟨v_k (n := 1) 239 (by omega) (by omega) rfl, fun q => ?_, fun q => ?_⟩
    · have : i = q_g E := by omega
      subst this
      exact ⟨by rw [q_Rto, q_if1 ⟨c1, c2⟩, if_neg c3], rfl⟩
    · obtain ⟨a, ha, ea⟩ := x_of (by omega) c1
      obtain ⟨b, hb, eb⟩ := x_of (by omega) c2
      have e1 : w1.toNatClampNeg = a := by rw [ea, x_cl (by omega)]
      have e2 : w2.toNatClampNeg = b := by rw [eb, x_cl (by omega)]
      have hk : mi_X10_keyFor g w1 w2 (nI i) N (fun r N' => r = q_kt E a (some b) i ∧ N' = N) := by
        rw [ea, eb]
        exact ok_X10_keyFor E N a i (some b) (by omega) (fun j hj => by cases hj; omega) (by omega) h
      rw [e1, e2]
      refine mo_X10_keyFor hk ?_
      rintro r N ⟨rfl, rfl⟩
      refine ⟨fun z => ⟨q_g E - (i + 1), by omega, i + 1, c1, c2, c3, by omega, rfl, rfl, rfl, ?_, nI_1 i, rfl⟩, fun z => ⟨q_g E - (i + 1), by omega, i + 1, c1, c2, c3, by omega, rfl, rfl, rfl, ?_, nI_1 i, rfl⟩⟩
      · rw [q_cn, if_pos (by simp [z])]
        exact nI_1 _
      · rw [q_cn, if_neg (by simp [z]), Int32.add_zero]
        rfl
