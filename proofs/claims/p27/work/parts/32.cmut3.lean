def q_hi (_ : Nat) (M : xM) (n p : Nat) : Prop := n ≤ 6 ∧ p < 6 ∧ M 181 1 = nI n ∧ M 181 2 = nI p ∧ True
def q_KP (M N : xM) (n p : Nat) : Prop := N 181 1 = nI (if n < 6 then n + 1 else 6) ∧ N 181 2 = nI (if p = 5 then 0 else p + 1) ∧ (∀ j k, j < 20 → q_vd j k → N (20 * (1 + p) + j) k = M j k) ∧ ∀ a, a ≠ 181 → ¬ (20 * (1 + p) ≤ a ∧ a < 20 * (1 + p) + 20) → N a = M a
theorem q_KP_lo {M N : xM} {n p : Nat} (hp : p < 6) (h : q_KP M N n p) : ∀ j, j < 20 → N j = M j := fun j hj => h.2.2.2 j (by omega) (by omega)
theorem q_KP_hi {M N : xM} {n p : Nat} (hp : p < 6) (h : q_KP M N n p) : ∀ a, 185 ≤ a → N a = M a := fun a ha => h.2.2.2 a (by omega) (by omega)
def q_cC (M : xM) (n p : Nat) (er : Int32) (val : xM → Int32) (F : xM → xM) (r : Int32) (N : xM) : Prop := (er ≠ 0 → r = er ∧ N = M) ∧ (er = 0 → ∃ N1, q_KP M N1 n p ∧ r = val N1 ∧ N = F N1)
theorem q_cC_e {M : xM} {n p : Nat} {er : Int32} {val : xM → Int32} {F : xM → xM} {r : Int32} {N : xM} (h : r = er) (h2 : N = M) (h3 : r ≠ 0) : q_cC M n p er val F r N := ⟨fun _ => ⟨h, h2⟩, fun q => absurd (h.trans q) h3⟩
theorem q_cC_g {M N1 : xM} {n p : Nat} {er : Int32} {val : xM → Int32} {F : xM → xM} {r : Int32} {N : xM} (h : er = 0) (h1 : q_KP M N1 n p) (h2 : r = val N1) (h3 : N = F N1) : q_cC M n p er val F r N := ⟨fun q => absurd h q, fun _ => ⟨N1, h1, h2, h3⟩⟩
theorem x_up_ge {M : xM} {a k : Nat} {v : Int32} (h : a < 20) : ∀ b, 20 ≤ b → x_up M a k v b = M b := fun b hb => x_up_other (by omega)
noncomputable def q_esi (v1 v2 : Int32) (E : xM) : Int32 := q_if ((0 ≤ v1 ∧ v1 ≤ 60) ∧ v1 ≤ v2 ∧ v2 ≤ 60) (if q_s E = 12 then -4 else 0) (-2)
theorem ok_X9_singer {g : xG} (v1 v2 : Int32) (M : xM) (K n p : Nat) (h : WF K M) (hh : q_hi K M n p) : mi_X9_singer g v1 v2 M (q_cC M n p (q_esi v1 v2 M) (fun E => nI (q_s E)) (fun E => q_as E (q_s E) v1 v2)) := by
  have hs := WF_s h
  refine wk_X9_singer _ _ M _ ?_
  unfold vc_X9_singer
  refine mo_X9_isToneRange (ok_X9_isToneRange _ _ _) ?_
  rintro r M ⟨rfl, rfl⟩
  refine ⟨fun z => ?_, fun z => q_cC_e (by rw [q_esi, q_if0 (x_b_eq.mp z)]) rfl (by decide)⟩
  have z := x_b_ne.mp z
  rw [hs.2, show (12 : Int32) = nI 12 from rfl, x_lt (by omega) (by omega)]
  refine ⟨fun q => ?_, fun q => q_cC_e (by rw [q_esi, q_if1 z, if_pos (by omega)]) rfl (by decide)⟩
  refine mo_X1_keep (ok_X1_keep M n p hh.1 hh.2.1 hh.2.2.1 hh.2.2.2.1) ?_
  intro N1 kp
  have kp : q_KP M N1 n p := kp
  have w1 : WF K N1 := WF_rows h (q_KP_lo hh.2.1 kp)
  have es : q_s N1 = q_s M := by
    unfold q_s
    rw [q_KP_lo hh.2.1 kp 1 (by decide)]
  refine mo_X6_add (ok_X6_add _ _ N1 (q_s N1) (by omega) (WF_s w1).2) ?_
  rintro r N ⟨rfl, rfl⟩
  exact q_cC_g (by rw [q_esi, q_if1 z, if_neg (by omega)]) kp rfl rfl
noncomputable def q_eso (v1 v2 v3 : Int32) (E : xM) : Int32 := q_if (((0 ≤ v1 ∧ v1 ≤ 60) ∧ v1 ≤ v2 ∧ v2 ≤ 60) ∧ 1 ≤ v3 ∧ v3 ≤ 9) (if q_g E = 16 then -4 else 0) (-2)
theorem ok_X9_song {g : xG} (v1 v2 v3 : Int32) (M : xM) (K n p : Nat) (h : WF K M) (hh : q_hi K M n p) : mi_X9_song g v1 v2 v3 M (q_cC M n p (q_eso v1 v2 v3 M) (fun E => nI (q_g E)) (fun E => q_ag E (q_g E) v1 v2 v3)) := by
  have hs := WF_g h
  refine wk_X9_song _ _ _ M _ ?_
  unfold vc_X9_song
  refine mo_X9_isToneRange (ok_X9_isToneRange _ _ _) ?_
  rintro r M ⟨rfl, rfl⟩
  refine ⟨fun z => q_cC_e (by rw [q_eso, q_if0 (fun w => x_b_eq.mp z w.1)]) rfl (by decide), fun z => ?_⟩
  have z := x_b_ne.mp z
  refine mo_X9_isBetween (ok_X9_isBetween _ _ _ _) ?_
  rintro r M ⟨rfl, rfl⟩
  refine ⟨fun z2 => ?_, fun z2 => q_cC_e (by rw [q_eso, q_if0 (fun w => x_b_eq.mp z2 w.2)]) rfl (by decide)⟩
  have z2 := x_b_ne.mp z2
  rw [hs.2, show (16 : Int32) = nI 16 from rfl, x_lt (by omega) (by omega)]
  refine ⟨fun q => ?_, fun q => q_cC_e (by rw [q_eso, q_if1 ⟨z, z2⟩, if_pos (by omega)]) rfl (by decide)⟩
  refine mo_X1_keep (ok_X1_keep M n p hh.1 hh.2.1 hh.2.2.1 hh.2.2.2.1) ?_
  intro N1 kp
  have kp : q_KP M N1 n p := kp
  have w1 : WF K N1 := WF_rows h (q_KP_lo hh.2.1 kp)
  have es : q_g N1 = q_g M := by
    unfold q_g
    rw [q_KP_lo hh.2.1 kp 6 (by decide)]
  refine mo_X7_add (ok_X7_add _ _ _ N1 (q_g N1) (by omega) (WF_g w1).2) ?_
  rintro r N ⟨rfl, rfl⟩
  exact q_cC_g (by rw [q_eso, q_if1 ⟨z, z2⟩, if_neg (by omega)]) kp rfl rfl
noncomputable def q_ele (v1 : Int32) (hl : Bool) (E : xM) : Int32 := q_if (vp_in v1 (q_s E)) (if hl = bt (E 1 1) v1.toNatClampNeg then 0 else -5) (-1)
def q_tl (E : xM) (s : Nat) (hl : Bool) : Int32 := if hl = true then E 1 1 &&& (((1 : Int32) <<< (nI s &&& 31)) ^^^ -1) else E 1 1 ||| ((1 : Int32) <<< (nI s &&& 31))
def q_Fl (v1 : Int32) (hl : Bool) (E : xM) : xM := x_up E 1 1 (q_tl E v1.toNatClampNeg hl)
def q_b01 (b : Bool) : Int32 := if b = true then 1 else 0
theorem q_tl_bt {E : xM} {s : Nat} {hl : Bool} (hs : s < 32) {i : Nat} (hi : i < 32) : bt (q_tl E s hl) i = if i = s then !hl else bt (E 1 1) i := by
  cases hl with
  | true =>
    show bt (E 1 1 &&& (((1 : Int32) <<< (nI s &&& 31)) ^^^ -1)) i = _
    rw [b_and, b_not hi, b_one hs hi]
    by_cases q : i = s <;> simp [q]
  | false =>
    show bt (E 1 1 ||| ((1 : Int32) <<< (nI s &&& 31))) i = _
    rw [b_or, b_one hs hi]
    by_cases q : i = s <;> simp [q]
theorem q_Fl_WF {K : Nat} {E : xM} {s : Nat} {hl : Bool} (h : WF K E) (hs : s < q_s E) : WF K (q_Fl (nI s) hl E) := by
  have := (WF_s h).1
  unfold q_Fl
  rw [x_cl (by omega)]
  refine WF_th h _ (fun i hi => ?_)
  by_cases q : i < 32
  · rw [q_tl_bt (by omega) q] at hi
    by_cases q2 : i = s
    · omega
    · rw [if_neg q2] at hi
      exact h.2.2.2.2.1 i hi
  · rw [b_big (by omega)] at hi
    cases hi
theorem q_cn_12 {K : Nat} {E : xM} (h : WF K E) : q_cn (bt (E 1 1)) 20 = q_cn (bt (E 1 1)) 12 := by
  have := (WF_s h).1
  refine q_cn_cut (n := 12) 8 (fun i hi => ?_)
  by_cases q : i < 12
  · simp [q]
  · cases z : bt (E 1 1) i with
    | false => simp
    | true =>
      have := h.2.2.2.2.1 i z
      omega
theorem q_th20 {K : Nat} {E : xM} (h : WF K E) : ∀ i, 20 ≤ i → bt (E 1 1) i = false := fun i hi => by
  have := (WF_s h).1
  cases z : bt (E 1 1) i with
  | false => rfl
  | true =>
    have := h.2.2.2.2.1 i z
    omega
theorem ok_X9_leave {g : xG} (v1 : Int32) (hl : Bool) (M : xM) (K n p : Nat) (h : WF K M) (hh : q_hi K M n p) : mi_X9_leave g v1 (q_b01 hl) M (q_cC M n p (q_ele v1 hl M) (fun E => nI (q_cn (bt (q_Fl v1 hl E 1 1)) 12)) (q_Fl v1 hl)) := by
  have hs := WF_s h
  refine wk_X9_leave _ _ M _ ?_
  unfold vc_X9_leave
  refine mo_X6_has (ok_X6_has _ _ (q_s M) (by omega) hs.2) ?_
  rintro r M ⟨rfl, rfl⟩
  refine ⟨fun z => ?_, fun z => q_cC_e (by rw [q_ele, q_if0 (x_b_eq.mp z)]) rfl (by decide)⟩
  have z := x_b_ne.mp z
  obtain ⟨s, hs2, rfl⟩ := x_of (by omega) z
  have hs32 : s < 32 := by omega
  refine mo_X6_isThere (ok_X6_isThere s (by omega) _) ?_
  rintro r M ⟨rfl, rfl⟩
  have e1 : q_b01 hl = x_b (bt (M 1 1) s = true) ↔ hl = bt (M 1 1) s := by
    rw [← x_b_if]
    unfold q_b01
    cases hl <;> cases bt (M 1 1) s <;> simp <;> decide
  have er : ∀ {E : xM}, q_s E = q_s M → E 1 1 = M 1 1 → q_ele (nI s) hl E = if hl = bt (M 1 1) s then 0 else -5 := fun a b => by rw [q_ele, a, b, q_if1 z, x_cl (by omega)]
  rw [e1]
  refine ⟨fun q => ?_, fun q => q_cC_e (by rw [er rfl rfl, if_neg q]) rfl (by decide)⟩
  refine mo_X1_keep (ok_X1_keep M n p hh.1 hh.2.1 hh.2.2.1 hh.2.2.2.1) ?_
  intro N1 kp
  have kp : q_KP M N1 n p := kp
  have lo := q_KP_lo hh.2.1 kp
  have w1 : WF K N1 := WF_rows h lo
  have w2 : ∀ b, WF K (q_Fl (nI s) b N1) := fun b => q_Fl_WF w1 (by unfold q_s; rw [lo 1 (by decide)]; exact hs2)
  have fin : ∀ N, N = q_Fl (nI s) hl N1 → mi_J6_bitCount_0f7a4 g (N 1 1) N (fun r N' => q_cC M n p (q_ele (nI s) hl M) (fun E => nI (q_cn (bt (q_Fl (nI s) hl E 1 1)) 12)) (q_Fl (nI s) hl) r N') := by
    rintro N rfl
    refine mo_J6_bitCount_0f7a4 (ok_bitCount _ (q_th20 (w2 hl)) _) ?_
    rintro r N ⟨rfl, rfl⟩
    rw [q_cn_12 (w2 hl)]
    exact q_cC_g (by rw [er rfl rfl, if_pos q]) kp rfl rfl
  have b0 : q_b01 hl = 0 ↔ hl = false := by
    unfold q_b01
    cases hl <;> simp <;> decide
  rw [b0]
  refine ⟨fun z2 => ?_, fun z2 => ?_⟩
  · have st := ok_X6_setThere (g := g) s False N1
    rw [x_b0 id] at st
    refine mo_X6_setThere st ?_
    rintro N ⟨-, hN⟩
    refine fin N ?_
    rw [hN id]
    unfold q_Fl q_tl
    rw [x_cl (by omega), if_pos (by simpa using z2)]
  · have st := ok_X6_setThere (g := g) s True N1
    rw [x_b1 trivial] at st
    refine mo_X6_setThere st ?_
    rintro N ⟨hN, -⟩
    refine fin N ?_
    rw [hN trivial]
    unfold q_Fl q_tl
    rw [x_cl (by omega), if_neg (by simpa using z2)]
theorem q_kt_rows {E E' : xM} (e : ∀ j, j < 20 → E' j = E j) (s : Nat) (o : Option Nat) (u : Nat) : q_kt E' s o u = q_kt E s o u := by
  unfold q_kt
  refine q_kf_cong (fun k => ?_) 7
  unfold q_kk q_kp
  rw [e 2 (by decide), e 3 (by decide), e 7 (by decide), e 8 (by decide)]
theorem q_ew_rows {E E' : xM} (e : ∀ j, j < 20 → E' j = E j) (v1 v2 v3 : Int32) (a : Nat) : q_ew E' v1 v2 v3 a = q_ew E v1 v2 v3 a := by
  have en : q_en E' v1 v2 v3 = q_en E v1 v2 v3 := by
    unfold q_en q_s q_g
    rw [e 1 (by decide), e 6 (by decide)]
  unfold q_ew
  rw [en, q_kt_rows e]
noncomputable def q_ewi (v1 v2 v3 : Int32) (E : xM) : Int32 := q_ew E v1 v2 v3 (q_w E)
theorem ok_X9_wish {g : xG} (v1 v2 v3 : Int32) (M : xM) (K n p : Nat) (h : WF K M) (hh : q_hi K M n p) : mi_X9_wish g v1 v2 v3 M (q_cC M n p (q_ewi v1 v2 v3 M) (fun E => nI (q_w E)) (fun E => q_aw E (q_w E) v1 v2 v3)) := by
  have hw := WF_w h
  refine wk_X9_wish _ _ _ M _ ?_
  unfold vc_X9_wish
  rw [hw.2]
  refine mo_X0_errorOfWish (ok_X0_errorOfWish _ _ _ (q_w M) (by omega) _ K h) ?_
  rintro r M ⟨rfl, rfl⟩
  refine ⟨fun z => ?_, fun z => q_cC_e rfl rfl z⟩
  refine mo_X1_keep (ok_X1_keep M n p hh.1 hh.2.1 hh.2.2.1 hh.2.2.2.1) ?_
  intro N1 kp
  have kp : q_KP M N1 n p := kp
  have w1 : WF K N1 := WF_rows h (q_KP_lo hh.2.1 kp)
  have ew : q_w N1 = q_w M := by
    unfold q_w
    rw [q_KP_lo hh.2.1 kp 11 (by decide)]
  have := (q_ew_0 z).2.1
  refine mo_X8_add (ok_X8_add _ _ _ N1 (q_w N1) (by omega) (WF_w w1).2) ?_
  rintro r N ⟨rfl, rfl⟩
  exact q_cC_g z kp rfl rfl
noncomputable def q_etb (v1 : Int32) (E : xM) : Int32 := q_if (vp_in v1 (q_w E)) 0 (-1)
theorem ok_X9_takeBack {g : xG} (v1 : Int32) (M : xM) (K n p : Nat) (h : WF K M) (hh : q_hi K M n p) : mi_X9_takeBack g v1 M (q_cC M n p (q_etb v1 M) (fun E => q_rm E v1.toNatClampNeg 11 0) (fun E => q_rm E v1.toNatClampNeg)) := by
  have hw := WF_w h
  refine wk_X9_takeBack _ M _ ?_
  unfold vc_X9_takeBack
  refine mo_X8_has (ok_X8_has _ _ (q_w M) (by omega) hw.2) ?_
  rintro r M ⟨rfl, rfl⟩
  refine ⟨fun z => ?_, fun z => q_cC_e (by rw [q_etb, q_if0 (x_b_eq.mp z)]) rfl (by decide)⟩
  have z := x_b_ne.mp z
  have e0 : q_etb v1 M = 0 := by rw [q_etb, q_if1 z]
  obtain ⟨w, hw2, rfl⟩ := x_of (by omega) z
  refine mo_X1_keep (ok_X1_keep M n p hh.1 hh.2.1 hh.2.2.1 hh.2.2.2.1) ?_
  intro N1 kp
  have kp : q_KP M N1 n p := kp
  have w1 : WF K N1 := WF_rows h (q_KP_lo hh.2.1 kp)
  have ew : q_w N1 = q_w M := by
    unfold q_w
    rw [q_KP_lo hh.2.1 kp 11 (by decide)]
  refine mo_X8_removeAt (ok_X8_removeAt w N1 (q_w N1) (by omega) (WF_w w1).2 (by omega)) ?_
  rintro N rfl
  exact q_cC_g e0 kp (by rw [x_cl (by omega)]) (by rw [x_cl (by omega)])
def q_sn : Nat → Nat → xM → Int32 × xM
  | 0, c, E => (nI c, E)
  | f + 1, c, E => match q_next E with
    | none => (nI c, E)
    | some w => q_sn f (c + 1) (q_sg E w)
noncomputable def q_esn (v1 : Int32) (_ : xM) : Int32 := q_if (1 ≤ v1 ∧ v1 ≤ 20) 0 (-2)
theorem q_next_lt {E : xM} {w : Nat} (h : q_next E = some w) : w < q_w E := by
  unfold q_next q_nx at h
  cases q : q_fm (q_tf E (E 4)) (fun i => q_rd E i && q_fr E (E 1 2) i) (q_w E) with
  | none =>
    rw [q] at h
    exact (q_fm_lt h).1
  | some i =>
    rw [q] at h
    cases h
    exact (q_fm_lt q).1
theorem x_of20 {v : Int32} (h : 1 ≤ v ∧ v ≤ 20) : ∃ t, t ≤ 20 ∧ v = nI t := by
  have h2 : 0 ≤ v ∧ v ≤ nI 21 - 1 := by
    have e : nI 21 - 1 = (20 : Int32) := by decide
    rw [e]
    refine ⟨?_, h.2⟩
    have := h.1
    rw [Int32.le_iff_toInt_le] at this ⊢
    have e1 : (1 : Int32).toInt = 1 := rfl
    have e0 : (0 : Int32).toInt = 0 := rfl
    omega
  obtain ⟨t, ht, e⟩ := x_of (by omega) ((x_hasI (by omega)).mp h2)
  exact ⟨t, by omega, e⟩
theorem q_sn_stop {f c : Nat} {E : xM} (h : q_next E = none) : q_sn f c E = (nI c, E) := by
  cases f with
  | zero => rfl
  | succ f =>
    rw [q_sn, h]
theorem q_sn_go {f c w : Nat} {E : xM} (h : q_next E = some w) (hf : 0 < f) : q_sn f c E = q_sn (f - 1) (c + 1) (q_sg E w) := by
  obtain ⟨k, rfl⟩ : ∃ k, f = k + 1 := ⟨f - 1, by omega⟩
  rw [q_sn, h]
  rfl
theorem ok_X9_sing {g : xG} (v1 : Int32) (M : xM) (K n p : Nat) (h : WF K M) (hK : K + 20 < 1000000) (hh : q_hi K M n p) : mi_X9_sing g v1 M (q_cC M n p (q_esn v1 M) (fun E => (q_sn v1.toNatClampNeg 0 E).1) (fun E => (q_sn v1.toNatClampNeg 0 E).2)) := by
  refine wk_X9_sing _ M _ (fun k w1 w2 N => ∃ N1 t i, t ≤ 20 ∧ v1 = nI t ∧ w1 = nI t ∧ w2 = nI i ∧ i ≤ t ∧ k = t - i ∧ WF (K + i) N ∧ q_sn (t - i) i N = q_sn t 0 N1 ∧ q_esn v1 M = 0 ∧ q_KP M N1 n p) ?_ ?_
  · unfold vc_X9_sing
    refine mo_X9_isBetween (ok_X9_isBetween _ _ _ _) ?_
    rintro r M ⟨rfl, rfl⟩
    refine ⟨fun z => ?_, fun z => q_cC_e (by rw [q_esn, q_if0 (x_b_eq.mp z)]) rfl (by decide)⟩
    have z := x_b_ne.mp z
    obtain ⟨t, ht, rfl⟩ := x_of20 z
    refine mo_X1_keep (ok_X1_keep M n p hh.1 hh.2.1 hh.2.2.1 hh.2.2.2.1) ?_
    intro N1 kp
    have kp : q_KP M N1 n p := kp
    exact ⟨t, N1, t, 0, ht, rfl, rfl, rfl, by omega, by omega, WF_rows h (q_KP_lo hh.2.1 kp), rfl, by rw [q_esn, q_if1 z], kp⟩
  · rintro k w1 w2 N ⟨N1, t, i, ht, rfl, rfl, rfl, hi, rfl, wf, es, e0, kp⟩
    unfold vc_X9_sing_1
    rw [x_le (by omega) (by omega), x_cl (by omega)]
    refine ⟨fun q => ?_, fun q => ?_⟩
    · have : i = t := by omega
      subst this
      rw [Nat.sub_self] at es
      exact q_cC_g e0 kp (by rw [← es]; rfl) (by rw [← es]; rfl)
    · have hw := WF_w wf
      refine mo_X0_nextWish (ok_X0_nextWish N (q_w N) hw.1 hw.2 (fun w hw2 => q_ok_of wf hw2)) ?_
      rintro r N ⟨rfl, rfl⟩
      cases hn : q_next N with
      | none =>
        refine ⟨fun z => absurd rfl z, fun _ => ?_⟩
        rw [q_sn_stop hn] at es
        exact q_cC_g e0 kp (by rw [← es]) (by rw [← es])
      | some w =>
        have hlt := q_next_lt hn
        refine ⟨fun _ => ?_, fun z => absurd z (x_nm6 (by omega))⟩
        refine mo_X0_singTurn (ok_X0_singTurn w N (K + i) wf hlt) ?_
        rintro N2 rfl
        rw [q_sn_go hn (by omega)] at es
        exact ⟨t - (i + 1), by omega, N1, t, i + 1, ht, rfl, rfl, nI_1 i, by omega, rfl, by rw [← Nat.add_assoc]; exact WF_sg wf w hlt (by omega), by rw [← es, show t - (i + 1) = t - i - 1 by omega], e0, kp⟩
