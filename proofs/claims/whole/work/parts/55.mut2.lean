/-! leave, wish, take back, sing -/
noncomputable def q_ele (v1 : Int32) (hl : Bool) (E : xM) : Int32 := q_if (vp_in v1 (q_s E)) (if hl = bt (E 1 1) v1.toNatClampNeg then 0 else -5) (-1)
def q_tl (E : xM) (s : Nat) (hl : Bool) : Int32 := if hl = true then E 1 1 &&& (((1 : Int32) <<< (nI s &&& 31)) ^^^ -1) else E 1 1 ||| ((1 : Int32) <<< (nI s &&& 31))
def q_Fl (v1 : Int32) (hl : Bool) (E : xM) : xM := x_up E 1 1 (q_tl E v1.toNatClampNeg hl)
def q_b01 (b : Bool) : Int32 := if b = true then 1 else 0
theorem q_tl_bt {E : xM} {s : Nat} {hl : Bool} (hs : s < 32) {i : Nat} (hi : i < 32) : bt (q_tl E s hl) i = if i = s then !hl else bt (E 1 1) i := by
  cases hl with
  | true =>
    show bt (E 1 1 &&& (((1 : Int32) <<< (nI s &&& 31)) ^^^ -1)) i = _
    rw [b_and, b_not hi, b_one hs hi]
    by_cases q : i = s <;> simp [q]
  | false =>
    show bt (E 1 1 ||| ((1 : Int32) <<< (nI s &&& 31))) i = _
    rw [b_or, b_one hs hi]
    by_cases q : i = s <;> simp [q]
theorem q_Fl_WF {K : Nat} {E : xM} {s : Nat} {hl : Bool} (h : WF K E) (hs : s < q_s E) : WF K (q_Fl (nI s) hl E) := by
  have := (WF_s h).1
  unfold q_Fl
  rw [x_cl (by omega)]
  refine WF_th h _ (fun i hi => ?_)
  by_cases q : i < 32
  · rw [q_tl_bt (by omega) q] at hi
    by_cases q2 : i = s
    · omega
    · rw [if_neg q2] at hi
      exact h.2.2.2.2.1 i hi
  · rw [b_big (by omega)] at hi
    cases hi
theorem q_cn_12 {K : Nat} {E : xM} (h : WF K E) : q_cn (bt (E 1 1)) 20 = q_cn (bt (E 1 1)) 12 := by
  have := (WF_s h).1
  refine q_cn_cut (n := 12) 8 (fun i hi => ?_)
  by_cases q : i < 12
  · simp [q]
  · cases z : bt (E 1 1) i with
    | false => simp
    | true =>
      have := h.2.2.2.2.1 i z
      omega
theorem q_th20 {K : Nat} {E : xM} (h : WF K E) : ∀ i, 20 ≤ i → bt (E 1 1) i = false := fun i hi => by
  have := (WF_s h).1
  cases z : bt (E 1 1) i with
  | false => rfl
  | true =>
    have := h.2.2.2.2.1 i z
    omega
theorem ok_X9_leave {g : xG} (v1 : Int32) (hl : Bool) (M : xM) (K n p : Nat) (h : WF K M) (hh : q_hi K M n p) : mi_X9_leave g v1 (q_b01 hl) M (q_cC M n p (q_ele v1 hl M) (fun E => nI (q_cn (bt (q_Fl v1 hl E 1 1)) 12)) (q_Fl v1 hl)) := by
  have hs := WF_s h
  refine wk_X9_leave _ _ M _ ?_
  unfold vc_X9_leave
  refine mo_X6_has (ok_X6_has _ _ (q_s M) (by omega) hs.2) ?_
  rintro r M ⟨rfl, rfl⟩
  refine ⟨fun z => ?_, fun z => q_cC_e (by rw [q_ele, q_if0 (x_b_eq.mp z)]) rfl (by decide)⟩
  have z := x_b_ne.mp z
  obtain ⟨s, hs2, rfl⟩ := x_of (by omega) z
  have hs32 : s < 32 := by omega
  refine mo_X6_isThere (ok_X6_isThere s (by omega) _) ?_
  rintro r M ⟨rfl, rfl⟩
  have e1 : q_b01 hl = x_b (bt (M 1 1) s = true) ↔ hl = bt (M 1 1) s := by
    rw [← x_b_if]
    unfold q_b01
    cases hl <;> cases bt (M 1 1) s <;> simp <;> decide
  have er : ∀ {E : xM}, q_s E = q_s M → E 1 1 = M 1 1 → q_ele (nI s) hl E = if hl = bt (M 1 1) s then 0 else -5 := fun a b => by rw [q_ele, a, b, q_if1 z, x_cl (by omega)]
  rw [e1]
  refine ⟨fun q => ?_, fun q => q_cC_e (by rw [er rfl rfl, if_neg q]) rfl (by decide)⟩
  refine mo_X1_keep (ok_X1_keep M n p hh.1 hh.2.1 hh.2.2.1 hh.2.2.2.1) ?_
  intro N1 kp
  have kp : q_KP M N1 n p := kp
  have lo := q_KP_lo hh.2.1 kp
  have w1 : WF K N1 := WF_rows h lo
  have w2 : ∀ b, WF K (q_Fl (nI s) b N1) := fun b => q_Fl_WF w1 (by unfold q_s; rw [lo 1 (by decide)]; exact hs2)
  have fin : ∀ N, N = q_Fl (nI s) hl N1 → mi_J6_bitCount_0f7a4 g (N 1 1) N (fun r N' => q_cC M n p (q_ele (nI s) hl M) (fun E => nI (q_cn (bt (q_Fl (nI s) hl E 1 1)) 12)) (q_Fl (nI s) hl) r N') := by
    rintro N rfl
    refine mo_J6_bitCount_0f7a4 (ok_bitCount _ (q_th20 (w2 hl)) _) ?_
    rintro r N ⟨rfl, rfl⟩
    rw [q_cn_12 (w2 hl)]
    exact q_cC_g (by rw [er rfl rfl, if_pos q]) kp rfl rfl
  have b0 : q_b01 hl = 0 ↔ hl = false := by
    unfold q_b01
    cases hl <;> simp <;> decide
  rw [b0]
  refine ⟨fun z2 => ?_, fun z2 => ?_⟩
  · have st := ok_X6_setThere (g := g) s False N1
    rw [x_b0 id] at st
    refine mo_X6_setThere st ?_
    rintro N ⟨-, hN⟩
    refine fin N ?_
    rw [hN id]
    unfold q_Fl q_tl
    rw [x_cl (by omega), if_pos (by simpa using z2)]
  · have st := ok_X6_setThere (g := g) s True N1
    rw [x_b1 trivial] at st
    refine mo_X6_setThere st ?_
    rintro N ⟨hN, -⟩
    refine fin N ?_
    rw [hN trivial]
    unfold q_Fl q_tl
    rw [x_cl (by omega), if_neg (by simpa using z2)]
theorem ok_X10_leave {g : xG} (v1 : Int32) (hl : Bool) (E M : xM) (K n : Nat) (hE : WF K E) (h : RE E (M 194)) (h3 : M 193 3 = nI n) (hn : n ≤ 6) : mi_X10_leave g v1 (q_b01 hl) M (q_chM M n (q_ele v1 hl E) (nI (q_cn (bt (q_Fl v1 hl E 1 1)) 12)) (q_Fl v1 hl E)) := by
  have hs := WF_s hE
  have h0 := RE_0 hE h
  refine wk_X10_leave _ _ M _ ?_
  unfold vc_X10_leave
  refine mo_X10_isSinger (ok_X10_isSinger _ _ (q_s E) (by omega) h0) ?_
  rintro r M ⟨rfl, rfl⟩
  refine ⟨fun z => ?_, fun z => q_chM_e (by rw [q_ele, q_if0 (x_b_eq.mp z)]) rfl (by decide)⟩
  have z := x_b_ne.mp z
  obtain ⟨s, hs2, rfl⟩ := x_of (by omega) z
  have hs3 : s < 12 := by omega
  have er : q_ele (nI s) hl E = if hl = bt (E 1 1) s then 0 else -5 := by rw [q_ele, q_if1 z, x_cl (by omega)]
  have w2 := q_Fl_WF (hl := hl) hE hs2
  -- behind the record
  have fin : hl = bt (E 1 1) s → ∀ v, v = q_b01 (!hl) → ∀ (N1 : xM), q_RP M N1 n → N1 194 = M 194 → mi_X10_setSinger g (nI s) (2 : Int32) v N1 (fun N6 => (mi_X10_there g N6 (fun r7 N8 => (mi_X10_bits g r7 N8 (fun r9 N10 => q_chM M n (q_ele (nI s) hl E) (nI (q_cn (bt (q_Fl (nI s) hl E 1 1)) 12)) (q_Fl (nI s) hl E) r9 N10))))) := by
    rintro hq v rfl N1 rp e194
    refine mo_X10_setSinger (ok_X10_setSinger s 2 hs3 (by omega) _ _) ?_
    rintro N rfl
    have r1 : RE E (N1 194) := by rw [e194]; exact h
    have r2 := RE_up_th r1 s hs3 (q_tl E s hl) (q_b01 (!hl)) (fun i hi hne => by rw [q_tl_bt (by omega) (by omega), if_neg hne]) (by rw [q_tl_bt (by omega) (by omega), if_pos rfl]; rfl)
    have r3 : RE (q_Fl (nI s) hl E) (x_up N1 194 (7 + 5 * s + 2) (q_b01 (!hl)) 194) := by
      unfold q_Fl
      rw [x_cl (by omega), x_up_same, show 7 + 5 * s + 2 = 9 + 5 * s by omega]
      exact r2
    refine mo_X10_there (ok_X10_there _ _ K w2 r3) ?_
    rintro r N ⟨rfl, rfl⟩
    refine mo_X10_bits (ok_X10_bits _ _) ?_
    rintro r N ⟨rfl, rfl⟩
    exact q_chM_g (by rw [er, if_pos hq]) rp rfl r3 (fun a ha => x_up_other ha)
  have b0 : q_b01 hl = 0 ↔ hl = false := by
    unfold q_b01
    cases hl <;> simp <;> decide
  have pt := (RE_s h hs3).2.2.1
  rw [b0]
  refine ⟨fun z2 => ?_, fun z2 => ?_⟩
  · refine mo_X10_singerPart (ok_X10_singerPart s 2 hs3 (by omega) _) ?_
    rintro r M ⟨rfl, rfl⟩
    rw [pt]
    refine ⟨fun q => ?_, fun q => q_chM_e ?_ rfl (by decide)⟩
    · have hq : bt (E 1 1) s = false := by
        cases w : bt (E 1 1) s with
        | false => rfl
        | true =>
          rw [w] at q
          exact absurd rfl q
      refine mo_X10_record (rc_X10_record M n hn h3) ?_
      rintro N1 ⟨rp, e194⟩
      exact fin (by rw [z2, hq]) 1 (by rw [z2]; rfl) N1 rp e194
    · rw [er, if_neg]
      intro w
      rw [← w, z2] at q
      exact absurd q (by decide)
  · have z2 : hl = true := by simpa using z2
    refine mo_X10_singerPart (ok_X10_singerPart s 2 hs3 (by omega) _) ?_
    rintro r M ⟨rfl, rfl⟩
    rw [pt]
    refine ⟨fun q => ?_, fun q => q_chM_e ?_ rfl (by decide)⟩
    · have hq : bt (E 1 1) s = true := by
        cases w : bt (E 1 1) s with
        | true => rfl
        | false =>
          rw [w] at q
          exact absurd rfl q
      refine mo_X10_record (rc_X10_record M n hn h3) ?_
      rintro N1 ⟨rp, e194⟩
      exact fin (by rw [z2, hq]) 0 (by rw [z2]; rfl) N1 rp e194
    · rw [er, if_neg]
      intro w
      rw [← w, z2] at q
      exact absurd q (by decide)
theorem st_leave {g : xG} (v1 : Int32) (hl : Bool) {K : Nat} {M : xM} (h : q_inv K M) : mi_X9_leave g v1 (q_b01 hl) M (fun r N => mi_X10_leave g v1 (q_b01 hl) N (fun r' N' => r = r' ∧ q_inv (K + 20) N')) := by
  refine q_step (er := q_ele v1 hl) (miC := mi_X9_leave g v1 (q_b01 hl) M) (miM := mi_X10_leave g v1 (q_b01 hl)) (fun _ _ a b => mo_X9_leave a b) (fun _ _ _ a b => mo_X10_leave a b) (by omega) h (fun n p hh => ok_X9_leave v1 hl M K n p h.1 hh) (fun N1 lo => ?_) (fun N1 w e => ⟨fun a ha => ?_, ?_⟩) (fun E N n a b c d => ok_X10_leave v1 hl E N K n a b c d)
  · unfold q_ele q_s
    rw [lo 1 (by decide)]
  · unfold q_Fl
    rw [x_up_ge (by decide) a ha]
  · have hs := (WF_s w).1
    by_cases q : vp_in v1 (q_s N1)
    · obtain ⟨s, hs2, rfl⟩ := x_of (by omega) q
      exact WF_mono (q_Fl_WF w hs2) (by omega)
    · rw [q_ele, q_if0 q] at e
      exact absurd e (by decide)
-- a wish
theorem q_kt_rows {E E' : xM} (e : ∀ j, j < 20 → E' j = E j) (s : Nat) (o : Option Nat) (u : Nat) : q_kt E' s o u = q_kt E s o u := by
  unfold q_kt
  refine q_kf_cong (fun k => ?_) 7
  unfold q_kk q_kp
  rw [e 2 (by decide), e 3 (by decide), e 7 (by decide), e 8 (by decide)]
theorem q_ew_rows {E E' : xM} (e : ∀ j, j < 20 → E' j = E j) (v1 v2 v3 : Int32) (a : Nat) : q_ew E' v1 v2 v3 a = q_ew E v1 v2 v3 a := by
  have en : q_en E' v1 v2 v3 = q_en E v1 v2 v3 := by
    unfold q_en q_s q_g
    rw [e 1 (by decide), e 6 (by decide)]
  unfold q_ew
  rw [en, q_kt_rows e]
noncomputable def q_ewi (v1 v2 v3 : Int32) (E : xM) : Int32 := q_ew E v1 v2 v3 (q_w E)
theorem q_ew_neg {E : xM} {v1 v2 v3 : Int32} {a : Nat} : 0 ≤ q_ew E v1 v2 v3 a ↔ q_ew E v1 v2 v3 a = 0 := by
  have c : ∀ r : Int32, r = -1 ∨ r = -2 ∨ r = -4 ∨ r = -5 ∨ r = 0 → (0 ≤ r ↔ r = 0) := by
    rintro r (rfl | rfl | rfl | rfl | rfl) <;> decide
  refine c _ ?_
  unfold q_ew
  by_cases q : q_en E v1 v2 v3 = 0
  · rw [q_if1 q]
    by_cases q2 : a < 20
    · rw [q_if1 q2]
      by_cases q3 : q_kt E v1.toNatClampNeg (q_ov v2) v3.toNatClampNeg = -6
      · rw [q_if1 q3]; simp
      · rw [q_if0 q3]; simp
    · rw [q_if0 q2]; simp
  · rw [q_if0 q]
    unfold q_en at q ⊢
    by_cases q2 : vp_in v1 (q_s E) ∧ (v2 = -6 ∨ vp_in v2 (q_s E)) ∧ vp_in v3 (q_g E)
    · rw [q_if1 q2] at q ⊢
      by_cases q3 : v1 = v2
      · rw [if_pos q3]; simp
      · rw [if_neg q3] at q
        exact absurd rfl q
    · rw [q_if0 q2]; simp
theorem ok_X9_wish {g : xG} (v1 v2 v3 : Int32) (M : xM) (K n p : Nat) (h : WF K M) (hh : q_hi K M n p) : mi_X9_wish g v1 v2 v3 M (q_cC M n p (q_ewi v1 v2 v3 M) (fun E => nI (q_w E)) (fun E => q_aw E (q_w E) v1 v2 v3)) := by
  have hw := WF_w h
  refine wk_X9_wish _ _ _ M _ ?_
  unfold vc_X9_wish
  rw [hw.2]
  refine mo_X0_errorOfWish (ok_X0_errorOfWish _ _ _ (q_w M) (by omega) _ K h) ?_
  rintro r M ⟨rfl, rfl⟩
  refine ⟨fun z => ?_, fun z => q_cC_e rfl rfl z⟩
  refine mo_X1_keep (ok_X1_keep M n p hh.1 hh.2.1 hh.2.2.1 hh.2.2.2.1) ?_
  intro N1 kp
  have kp : q_KP M N1 n p := kp
  have w1 : WF K N1 := WF_rows h (q_KP_lo hh.2.1 kp)
  have ew : q_w N1 = q_w M := by
    unfold q_w
    rw [q_KP_lo hh.2.1 kp 11 (by decide)]
  have := (q_ew_0 z).2.1
  refine mo_X8_add (ok_X8_add _ _ _ N1 (q_w N1) (by omega) (WF_w w1).2) ?_
  rintro r N ⟨rfl, rfl⟩
  exact q_cC_g z kp rfl rfl
theorem ok_X10_wish {g : xG} (v1 v2 v3 : Int32) (E M : xM) (K n : Nat) (hE : WF K E) (h : RE E (M 194)) (h3 : M 193 3 = nI n) (hn : n ≤ 6) : mi_X10_wish g v1 v2 v3 M (q_chM M n (q_ewi v1 v2 v3 E) (nI (q_w E)) (q_aw E (q_w E) v1 v2 v3)) := by
  have hw := WF_w hE
  refine wk_X10_wish _ _ _ M _ ?_
  unfold vc_X10_wish
  refine mo_X10_whyNotWished (ok_X10_whyNotWished E M K _ _ _ hE h) ?_
  rintro r M ⟨rfl, rfl⟩
  rw [q_ew_neg]
  refine ⟨fun z => ?_, fun z => q_chM_e rfl rfl z⟩
  refine mo_X10_record (rc_X10_record M n hn h3) ?_
  rintro N1 ⟨rp, e194⟩
  refine mo_X10_wished (ok_X10_wished E N1 v1 v2 v3 (q_ew_0 z).2.1 hw.2 (by rw [e194]; exact h)) ?_
  rintro r N ⟨rfl, hR, ho⟩
  exact q_chM_g z rp rfl hR ho
theorem st_wish {g : xG} (v1 v2 v3 : Int32) {K : Nat} {M : xM} (h : q_inv K M) : mi_X9_wish g v1 v2 v3 M (fun r N => mi_X10_wish g v1 v2 v3 N (fun r' N' => r = r' ∧ q_inv (K + 20) N')) := by
  refine q_step (er := q_ewi v1 v2 v3) (miC := mi_X9_wish g v1 v2 v3 M) (miM := mi_X10_wish g v1 v2 v3) (fun _ _ a b => mo_X9_wish a b) (fun _ _ _ a b => mo_X10_wish a b) (by omega) h (fun n p hh => ok_X9_wish v1 v2 v3 M K n p h.1 hh) (fun N1 lo => ?_) (fun N1 w e => ⟨fun a ha => ?_, ?_⟩) (fun E N n a b c d => ok_X10_wish v1 v2 v3 E N K n a b c d)
  · unfold q_ewi
    rw [q_ew_rows lo]
    unfold q_w
    rw [lo 11 (by decide)]
  · unfold q_aw
    rw [x_up_ge (by decide) a ha, x_up_ge (by decide) a ha, x_up_ge (by decide) a ha, x_up_ge (by decide) a ha]
  · obtain ⟨a1, a2, -⟩ := q_ew_0 e
    obtain ⟨b1, b2, b3, -⟩ := q_en_0 a1
    exact WF_mono (WF_aw w v1 v2 v3 a2 b1 b2 b3) (by omega)
-- taking back
noncomputable def q_etb (v1 : Int32) (E : xM) : Int32 := q_if (vp_in v1 (q_w E)) 0 (-1)
theorem ok_X9_takeBack {g : xG} (v1 : Int32) (M : xM) (K n p : Nat) (h : WF K M) (hh : q_hi K M n p) : mi_X9_takeBack g v1 M (q_cC M n p (q_etb v1 M) (fun E => q_rm E v1.toNatClampNeg 11 0) (fun E => q_rm E v1.toNatClampNeg)) := by
  have hw := WF_w h
  refine wk_X9_takeBack _ M _ ?_
  unfold vc_X9_takeBack
  refine mo_X8_has (ok_X8_has _ _ (q_w M) (by omega) hw.2) ?_
  rintro r M ⟨rfl, rfl⟩
  refine ⟨fun z => ?_, fun z => q_cC_e (by rw [q_etb, q_if0 (x_b_eq.mp z)]) rfl (by decide)⟩
  have z := x_b_ne.mp z
  have e0 : q_etb v1 M = 0 := by rw [q_etb, q_if1 z]
  obtain ⟨w, hw2, rfl⟩ := x_of (by omega) z
  refine mo_X1_keep (ok_X1_keep M n p hh.1 hh.2.1 hh.2.2.1 hh.2.2.2.1) ?_
  intro N1 kp
  have kp : q_KP M N1 n p := kp
  have w1 : WF K N1 := WF_rows h (q_KP_lo hh.2.1 kp)
  have ew : q_w N1 = q_w M := by
    unfold q_w
    rw [q_KP_lo hh.2.1 kp 11 (by decide)]
  refine mo_X8_removeAt (ok_X8_removeAt w N1 (q_w N1) (by omega) (WF_w w1).2 (by omega)) ?_
  rintro N rfl
  exact q_cC_g e0 kp (by rw [x_cl (by omega)]) (by rw [x_cl (by omega)])
theorem ok_X10_takeBack {g : xG} (v1 : Int32) (E M : xM) (K n : Nat) (hE : WF K E) (h : RE E (M 194)) (h3 : M 193 3 = nI n) (hn : n ≤ 6) : mi_X10_takeBack g v1 M (q_chM M n (q_etb v1 E) (q_rm E v1.toNatClampNeg 11 0) (q_rm E v1.toNatClampNeg)) := by
  have hw := WF_w hE
  refine wk_X10_takeBack _ M _ ?_
  unfold vc_X10_takeBack
  refine mo_X10_isWish (ok_X10_isWish _ _ (q_w E) (by omega) (RE_2 hE h)) ?_
  rintro r M ⟨rfl, rfl⟩
  refine ⟨fun z => ?_, fun z => q_chM_e (by rw [q_etb, q_if0 (x_b_eq.mp z)]) rfl (by decide)⟩
  have z := x_b_ne.mp z
  have e0 : q_etb v1 E = 0 := by rw [q_etb, q_if1 z]
  obtain ⟨w, hw2, rfl⟩ := x_of (by omega) z
  refine mo_X10_record (rc_X10_record M n hn h3) ?_
  rintro N1 ⟨rp, e194⟩
  refine mo_X10_remove (ok_X10_remove E N1 w hw.1 hw.2 hw2 (by rw [e194]; exact h)) ?_
  rintro N ⟨hR, ho⟩
  refine ⟨v_k (n := 2) 239 (by omega) (by omega) rfl, ?_⟩
  rw [x_cl (show w < 5000 by omega)]
  exact q_chM_g e0 rp (by rw [c_2]; exact hR.1.2.2.1) hR ho
theorem st_takeBack {g : xG} (v1 : Int32) {K : Nat} {M : xM} (h : q_inv K M) : mi_X9_takeBack g v1 M (fun r N => mi_X10_takeBack g v1 N (fun r' N' => r = r' ∧ q_inv (K + 20) N')) := by
  refine q_step (er := q_etb v1) (miC := mi_X9_takeBack g v1 M) (miM := mi_X10_takeBack g v1) (fun _ _ a b => mo_X9_takeBack a b) (fun _ _ _ a b => mo_X10_takeBack a b) (by omega) h (fun n p hh => ok_X9_takeBack v1 M K n p h.1 hh) (fun N1 lo => ?_) (fun N1 w e => ⟨fun a ha => ?_, ?_⟩) (fun E N n a b c d => ok_X10_takeBack v1 E N K n a b c d)
  · unfold q_etb q_w
    rw [lo 11 (by decide)]
  · funext k
    simp only [q_rm]
    rw [if_neg (by omega), if_neg (by omega)]
  · have hs := (WF_w w).1
    by_cases q : vp_in v1 (q_w N1)
    · obtain ⟨s, hs2, rfl⟩ := x_of (by omega) q
      rw [x_cl (by omega)]
      exact WF_mono (WF_rm w s hs2) (by omega)
    · rw [q_etb, q_if0 q] at e
      exact absurd e (by decide)
-- singing
def q_sn : Nat → Nat → xM → Int32 × xM
  | 0, c, E => (nI c, E)
  | f + 1, c, E => match q_next E with
    | none => (nI c, E)
    | some w => q_sn f (c + 1) (q_sg E w)
noncomputable def q_esn (v1 : Int32) (_ : xM) : Int32 := q_if (1 ≤ v1 ∧ v1 ≤ 20) 0 (-2)
theorem q_next_lt {E : xM} {w : Nat} (h : q_next E = some w) : w < q_w E := by
  unfold q_next q_nx at h
  cases q : q_fm (q_tf E (E 4)) (fun i => q_rd E i && q_fr E (E 1 2) i) (q_w E) with
  | none =>
    rw [q] at h
    exact (q_fm_lt h).1
  | some i =>
    rw [q] at h
    cases h
    exact (q_fm_lt q).1
theorem q_sn_WF : ∀ (f c : Nat) (E : xM) (K : Nat), WF K E → K + f < 1000000 → WF (K + f) (q_sn f c E).2
  | 0, _, _, _, h, _ => h
  | f + 1, c, E, K, h, hk => by
    unfold q_sn
    cases q : q_next E with
    | none => exact WF_mono h (by omega)
    | some w =>
      have := q_sn_WF f (c + 1) (q_sg E w) (K + 1) (WF_sg h w (q_next_lt q) (by omega)) (by omega)
      rw [show K + (f + 1) = K + 1 + f by omega]
      exact this
theorem q_sg_ge (E : xM) (w : Nat) : ∀ a, 20 ≤ a → q_sg E w a = E a := fun a ha => by
  rw [q_sg_eq E w _ rfl]
  funext k
  simp only [q_rm, q_st, q_re, x_up]
  grind
theorem q_sn_ge : ∀ (f c : Nat) (E : xM) (a : Nat), 20 ≤ a → (q_sn f c E).2 a = E a
  | 0, _, _, _, _ => rfl
  | f + 1, c, E, a, ha => by
    unfold q_sn
    cases q : q_next E with
    | none => rfl
    | some w => exact (q_sn_ge f (c + 1) (q_sg E w) a ha).trans (q_sg_ge E w a ha)
