/-! read -/
theorem ok_X9_errorOfWishesRead {g : xG} (M : xM) (K : Nat) (L : List q_Wi) (h : WF K M) (h3 : M 187 3 = nI L.length) (hl : L.length ≤ 15) (hld : q_ld M L) : mi_X9_errorOfWishesRead g M (fun r N => r = q_el M L (q_w M) ∧ N = M) := by
  have hw := WF_w h
  refine wk_X9_errorOfWishesRead M _ (fun k v1 N => ∃ i, i ≤ L.length ∧ k = L.length - i ∧ v1 = nI i ∧ q_el M (L.drop i) (q_w M + i) = q_el M L (q_w M) ∧ N = M) ?_ ?_
  · unfold vc_X9_errorOfWishesRead
    exact ⟨L.length, 0, by omega, by omega, rfl, rfl, rfl⟩
  · rintro k v1 N ⟨i, hi, rfl, rfl, e, rfl⟩
    unfold vc_X9_errorOfWishesRead_1
    rw [h3, x_le (by omega) (by omega), x_cl (by omega)]
    refine ⟨fun q => ?_, fun q => ?_⟩
    · have : i = L.length := by omega
      subst this
      rw [List.drop_length] at e
      exact ⟨e, rfl⟩
    · have hlt : i < L.length := by omega
      have v15 : vp_in (nI i) 15 := x_vi (by omega) (by omega)
      rw [List.drop_eq_getElem_cons hlt, q_el] at e
      obtain ⟨d1, d2, d3⟩ := hld i L[i] (List.getElem?_eq_getElem hlt)
      generalize L[i] = w at *
      rw [d1, d2, d3, hw.2, nI_add]
      refine ⟨v15, v15, v15, ?_⟩
      refine mo_X0_errorOfWish (ok_X0_errorOfWish _ _ _ (q_w N + i) (by omega) _ K h) ?_
      rintro r N ⟨rfl, rfl⟩
      refine ⟨fun z => ?_, fun z => ?_⟩
      · rw [q_if1 z] at e
        exact ⟨L.length - (i + 1), by omega, i + 1, by omega, rfl, nI_1 i, e, rfl⟩
      · rw [q_if0 z] at e
        exact ⟨e, rfl⟩
theorem q_al_ge : ∀ (L : List q_Wi) (E : xM) (a : Nat), 20 ≤ a → q_al L E a = E a
  | [], _, _, _ => rfl
  | w :: L, E, a, ha => by
    rw [q_al, q_al_ge L _ a ha]
    unfold q_aw
    rw [x_up_ge (by decide) a ha, x_up_ge (by decide) a ha, x_up_ge (by decide) a ha, x_up_ge (by decide) a ha]
theorem ok_X9_read_loop {g : xG} (M N1 : xM) (K n p : Nat) (L : List q_Wi) (R : Int32 → xM → Prop) (hw : WF K N1) (h3 : N1 187 3 = nI L.length) (hl : L.length ≤ 15) (hld : q_ld N1 L) (he : q_el N1 L (q_w N1) = 0) (hR : R (q_al L N1 11 0) (x_up (q_al L N1) 185 1 0)) (i : Nat) (hi : i ≤ L.length) (N : xM) (hN : q_al (L.drop i) N = q_al L N1) (h11 : N 11 0 = nI (q_w N1 + i)) (hge : ∀ a, 20 ≤ a → N a = N1 a) (K1 : Int32 → xM → Prop) (hK : ∀ N', i < L.length → q_al (L.drop (i + 1)) N' = q_al L N1 → N' 11 0 = nI (q_w N1 + (i + 1)) → (∀ a, 20 ≤ a → N' a = N1 a) → K1 (nI (i + 1)) N') : vc_X9_read_1 g (nI i) N R K1 := by
  have h20 := (WF_w hw).1
  have hlen := q_el_len he h20
  unfold vc_X9_read_1
  rw [hge 187 (by decide), h3, x_le (by omega) (by omega), x_cl (by omega)]
  refine ⟨fun q => ?_, fun q => ?_⟩
  · have : i = L.length := by omega
    subst this
    rw [List.drop_length] at hN
    have hN : N = q_al L N1 := hN
    rw [x_up_other (by decide), hN]
    exact hR
  · have hlt : i < L.length := by omega
    have v15 : vp_in (nI i) 15 := x_vi (by omega) (by omega)
    rw [List.drop_eq_getElem_cons hlt, q_al] at hN
    obtain ⟨d1, d2, d3⟩ := hld i L[i] (List.getElem?_eq_getElem hlt)
    generalize L[i] = w at *
    rw [hge 188 (by decide), hge 189 (by decide), hge 190 (by decide), d1, d2, d3]
    refine ⟨v15, v15, v15, ?_⟩
    have ew : q_w N = q_w N1 + i := by
      show (N 11 0).toNatClampNeg = _
      rw [h11, x_cl (by omega)]
    refine mo_X8_add (ok_X8_add _ _ _ N (q_w N) (by omega) (by rw [h11, ew])) ?_
    rintro r N' ⟨-, rfl⟩
    rw [nI_1]
    refine hK _ hlt hN ?_ ?_
    · unfold q_aw
      rw [x_up_same, q_us, ew, Nat.add_assoc]
    · intro a ha
      unfold q_aw
      rw [x_up_ge (by decide) a ha, x_up_ge (by decide) a ha, x_up_ge (by decide) a ha, x_up_ge (by decide) a ha]
      exact hge a ha
/-- the class: what read answers -/
def q_rdC (M : xM) (n p : Nat) (tx : Nat → Nat) (m : Nat) (r : Int32) (N : xM) : Prop :=
  ((q_pa tx m 15 0).1 ≠ none → r = -3 ∧ ∀ c, c ≠ 187 → c ≠ 188 → c ≠ 189 → c ≠ 190 → N c = M c) ∧
  ((q_pa tx m 15 0).1 = none → q_el M (q_pa tx m 15 0).2 (q_w M) ≠ 0 → r = q_el M (q_pa tx m 15 0).2 (q_w M) ∧ ∀ c, c ≠ 187 → c ≠ 188 → c ≠ 189 → c ≠ 190 → N c = M c) ∧
  ((q_pa tx m 15 0).1 = none → q_el M (q_pa tx m 15 0).2 (q_w M) = 0 → ∃ N0 N1, (∀ c, c ≠ 187 → c ≠ 188 → c ≠ 189 → c ≠ 190 → N0 c = M c) ∧ q_KP N0 N1 n p ∧ q_el N1 (q_pa tx m 15 0).2 (q_w N1) = 0 ∧ r = q_al (q_pa tx m 15 0).2 N1 11 0 ∧ N = x_up (q_al (q_pa tx m 15 0).2 N1) 185 1 0) ∧
  ∀ i, (q_pa tx m 15 0).1 = some i → i ≤ 60
theorem q_el_rows {E E' : xM} (e : ∀ j, j < 20 → E' j = E j) : ∀ (L : List q_Wi) (a : Nat), q_el E' L a = q_el E L a
  | [], _ => rfl
  | w :: L, a => by rw [q_el, q_el, q_ew_rows e, q_el_rows e]
theorem ok_X9_read {g : xG} (M : xM) (K n p : Nat) (tx : Nat → Nat) (m : Nat) (h : WF K M) (hh : q_hi K M n p) (hpd : q_pd M tx m) : mi_X9_read g M (q_rdC M n p tx m) := by
  have hp6 := hh.2.1
  have h20 := (WF_w h).1
  refine wk_X9_read M _ (fun k v2 N => ∃ N0 N1 i, (∀ i, (q_pa tx m 15 0).1 = some i → i ≤ 60) ∧ (q_pa tx m 15 0).1 = none ∧ (∀ c, c ≠ 187 → c ≠ 188 → c ≠ 189 → c ≠ 190 → N0 c = M c) ∧ q_KP N0 N1 n p ∧ q_el N1 (q_pa tx m 15 0).2 (q_w N1) = 0 ∧ N1 187 3 = nI (q_pa tx m 15 0).2.length ∧ (q_pa tx m 15 0).2.length ≤ 15 ∧ q_ld N1 (q_pa tx m 15 0).2 ∧ WF K N1 ∧ q_el M (q_pa tx m 15 0).2 (q_w M) = 0 ∧ i ≤ (q_pa tx m 15 0).2.length ∧ k = (q_pa tx m 15 0).2.length - i ∧ v2 = nI i ∧ q_al ((q_pa tx m 15 0).2.drop i) N = q_al (q_pa tx m 15 0).2 N1 ∧ N 11 0 = nI (q_w N1 + i) ∧ ∀ a, 20 ≤ a → N a = N1 a) ?_ ?_
  · unfold vc_X9_read
    refine mo_X3_faultOn (ok_X3_faultOn M tx m hpd) ?_
    rintro r N ⟨rfl, hok, hlt, ho⟩
    rw [q_on_none (fun i hi => by have := hlt i hi; omega)]
    refine ⟨fun q => ?_, fun q => ⟨fun _ => ⟨rfl, ho⟩, fun z => absurd z q, fun z => absurd z q, hlt⟩⟩
    obtain ⟨e3, e15, eld, -⟩ := hok q
    have lo : ∀ j, j < 20 → N j = M j := fun j hj => ho j (by omega) (by omega) (by omega) (by omega)
    have wN := WF_rows h lo
    have ew : q_w N = q_w M := by
      unfold q_w
      rw [lo 11 (by decide)]
    refine mo_X9_errorOfWishesRead (ok_X9_errorOfWishesRead N K _ wN e3 e15 eld) ?_
    rintro r N ⟨rfl, rfl⟩
    rw [q_el_rows lo, ew]
    refine ⟨fun z => ?_, fun z => ⟨fun w => absurd q w, fun _ _ => ⟨rfl, ho⟩, fun _ w => absurd w z, hlt⟩⟩
    refine mo_X1_keep (ok_X1_keep N n p hh.1 hp6 (by rw [ho 181 (by decide) (by decide) (by decide) (by decide)]; exact hh.2.2.1) (by rw [ho 181 (by decide) (by decide) (by decide) (by decide)]; exact hh.2.2.2.1)) ?_
    intro N1 kp
    have kp : q_KP N N1 n p := kp
    have lo1 := q_KP_lo hp6 kp
    have hi1 := q_KP_hi hp6 kp
    have ew1 : q_w N1 = q_w M := by
      unfold q_w
      rw [lo1 11 (by decide), lo 11 (by decide)]
    have w1 := WF_rows wN lo1
    refine ⟨(q_pa tx m 15 0).2.length, N, N1, 0, hlt, q, ho, kp, by rw [q_el_rows lo1, q_el_rows lo, ew1]; exact z, by rw [hi1 187 (by decide)]; exact e3, e15, ?_, w1, z, by omega, by omega, rfl, rfl, (WF_w w1).2, fun _ _ => rfl⟩
    unfold q_ld at *
    rw [hi1 188 (by decide), hi1 189 (by decide), hi1 190 (by decide)]
    exact eld
  · rintro k v2 N ⟨N0, N1, i, hlt5, q, h0, kp, he, e3, e15, eld, w1, z, hi, rfl, rfl, hN, h11, hge⟩
    refine ok_X9_read_loop M N1 K n p _ _ w1 e3 e15 eld he ⟨fun w => absurd q w, fun _ w => absurd z w, fun _ _ => ⟨N0, N1, h0, kp, he, rfl, rfl⟩, hlt5⟩ i hi N hN h11 hge _ ?_
    intro N' hlt a1 a2 a3
    exact ⟨_ - (i + 1), by omega, N0, N1, i + 1, hlt5, q, h0, kp, he, e3, e15, eld, w1, z, by omega, rfl, rfl, a1, a2, a3⟩
theorem st_read {g : xG} {K : Nat} {M : xM} (h : q_inv K M) : mi_X9_read g M (fun r N => mi_X10_read g N (fun r' N' => r = r' ∧ q_inv (K + 20) N')) := by
  obtain ⟨h1, h2, ⟨n, p, hh⟩, h4, ⟨tx, m, hpd, hpm⟩⟩ := id h
  have hp6 := hh.2.1
  have h20 := (WF_w h1).1
  have hp12 := (WF_p h1).1
  refine mo_X9_read (ok_X9_read M K n p tx m h1 hh hpd) ?_
  rintro r N ⟨cF, cE, cG, c60⟩
  have v2 : vp_in (2 : Int32) 239 := v_k (n := 2) 239 (by omega) (by omega) rfl
  -- the memories that differ in the reader's room alone
  have inv0 : ∀ N' : xM, (∀ c, c ≠ 187 → c ≠ 188 → c ≠ 189 → c ≠ 190 → N c = M c) → q_scw N N' → RE M (N' 194) → q_inv (K + 20) N' := by
    intro N' ho sc hR
    have fr : ∀ a, a ≠ 193 → a ≠ 194 → a ≠ 187 → a ≠ 188 → a ≠ 189 → a ≠ 190 → N' a = M a := fun a b0 b1 b2 b3 b4 b5 => by rw [sc.2 a b0 b1, ho a b2 b3 b4 b5]
    refine q_inv_mono (q_inv_look h hR (fun a ha => fr a (by omega) (by omega) (by omega) (by omega) (by omega) (by omega)) ?_ ?_ ?_ ?_ ?_ ?_) (by omega)
    · rw [sc.1 3 (by decide) (by decide) (by decide) (by decide), ho 193 (by decide) (by decide) (by decide) (by decide)]
    · rw [sc.1 7 (by decide) (by decide) (by decide) (by decide), ho 193 (by decide) (by decide) (by decide) (by decide)]
    · exact fr 196 (by decide) (by decide) (by decide) (by decide) (by decide) (by decide)
    · exact fr 197 (by decide) (by decide) (by decide) (by decide) (by decide) (by decide)
    · exact fr 198 (by decide) (by decide) (by decide) (by decide) (by decide) (by decide)
    · exact fr 199 (by decide) (by decide) (by decide) (by decide) (by decide) (by decide)
  have sc0 : ∀ {A B : xM}, q_sc A B → q_scw A B := fun s => ⟨s.1, fun c hc _ => s.2 c hc⟩
  have plt : ∀ i, (q_pa tx m 15 0).1 = some i → i < 5000 := fun i hi => by
    have := c60 i hi
    omega
  refine wk_X10_read N _ ?_
  unfold vc_X10_read
  by_cases q : (q_pa tx m 15 0).1 = none
  · obtain ⟨L, hL⟩ : ∃ L, q_pa tx m 15 0 = (none, L) := ⟨(q_pa tx m 15 0).2, by rw [← q]⟩
    rw [hL] at cE cG
    by_cases z : q_el M L (q_w M) = 0
    · obtain ⟨N0, N1, h0, kp, he, hr, hN⟩ := cG rfl z
      have lo1 : ∀ j, j < 20 → N1 j = M j := fun j hj => by rw [q_KP_lo hp6 kp j hj, h0 j (by omega) (by omega) (by omega) (by omega)]
      have up : ∀ a, 20 ≤ a → a ≠ 185 → N a = N1 a := fun a a1 a2 => by rw [hN, x_up_other a2, q_al_ge _ _ a a1]
      have hi : ∀ a, 185 < a → a ≠ 187 → a ≠ 188 → a ≠ 189 → a ≠ 190 → N a = M a := fun a b0 b1 b2 b3 b4 => by rw [up a (by omega) (by omega), q_KP_hi hp6 kp a (by omega), h0 a b1 b2 b3 b4]
      have w1 := WF_rows h1 lo1
      have k193 : N 193 = M 193 := hi 193 (by decide) (by decide) (by decide) (by decide) (by decide)
      have k194 : N 194 = M 194 := hi 194 (by decide) (by decide) (by decide) (by decide) (by decide)
      have r1 : RE N1 (N 194) := by
        rw [k194]
        exact RE_vd h2 h20 hp12 (fun j k hj _ => by rw [lo1 j hj])
      have hpm' : q_pm N tx m := by
        unfold q_pm at *
        rw [k193, hi 199 (by decide) (by decide) (by decide) (by decide) (by decide)]
        exact hpm
      refine mo_X10_findFault (ok_X10_findFault N tx m hpm') ?_
      rintro r3 N2 ⟨rfl, sc2⟩
      rw [q_on_none plt]
      refine ⟨fun _ => ⟨v2, ?_⟩, fun w => absurd q w⟩
      have r2 : RE N1 (N2 194) := by rw [sc2.2 194 (by decide)]; exact r1
      have pm2 := q_pm_sc hpm' sc2
      refine mo_X10_makeAll (ok_X10_makeAll N1 N2 K tx m L pm2 w1 r2 hL) ?_
      rintro r4 N4 ⟨rfl, r5, -, sc4⟩
      obtain ⟨m1, m2⟩ := q_ma_el L N1
      rw [m1, q_el_neg, c_2, r2.1.2.2.1]
      refine ⟨v2, fun _ => ?_, fun w => absurd he w⟩
      have rx : RE N1 (x_up N4 194 2 (N1 11 0) 194) := by
        rw [x_up_same]
        exact RE_ma_back L N1 _ r5
      have sx : q_scw N (x_up N4 194 2 (N1 11 0)) := ⟨fun k b1 b2 b3 b4 => by rw [x_up_other (by decide), sc4.1 k b1 b2 b3 b4, sc2.1 k b1 b2 b3 b4], fun c b1 b2 => by rw [x_up_other b2, sc4.2 c b1 b2, sc2.2 c b1]⟩
      generalize x_up N4 194 2 (N1 11 0) = X at *
      refine mo_X10_record (rc_X10_record X n hh.1 (by rw [sx.1 3 (by decide) (by decide) (by decide) (by decide), k193]; exact hh.2.2.2.2.1)) ?_
      rintro N5 ⟨⟨rc, f3, fr5⟩, e194⟩
      have pm5 : q_pm N5 tx m := by
        have := q_pm_scw hpm' sx
        unfold q_pm at *
        rw [f3 7 (by decide), fr5 199 (by decide) (by decide) (by decide)]
        exact this
      refine mo_X10_makeAll (ok_X10_makeAll N1 N5 K tx m L pm5 w1 (by rw [e194]; exact rx) hL) ?_
      rintro r6 N7 ⟨-, r7, w7, sc7⟩
      rw [m2 he] at r7 w7
      refine ⟨v2, ?_, ?_⟩
      · rw [hr, x_up_other (by decide)]
        exact r7.1.2.2.1.symm
      · have fr7 : ∀ a, a ≠ 193 → a ≠ 194 → a ≠ 196 → x_up N7 193 7 0 a = N a := fun a b1 b2 b3 => by rw [x_up_other b1, sc7.2 a b1 b2, fr5 a b1 b2 b3, sx.2 a b1 b2]
        have k3 : x_up N7 193 7 0 193 3 = N5 193 3 := by rw [x_up_same, pk_un (by omega), sc7.1 3 (by decide) (by decide) (by decide) (by decide)]
        have k7 : x_up N7 193 7 0 193 7 = 0 := by rw [x_up_same, q_us]
        have k194' : x_up N7 193 7 0 194 = N7 194 := x_up_other (by decide)
        have k196 : x_up N7 193 7 0 196 = N5 196 := by rw [x_up_other (by decide), sc7.2 196 (by decide) (by decide)]
        generalize x_up N7 193 7 0 = Z at *
        have lo7 : ∀ j, j < 20 → Z j = q_al L N1 j := fun j hj => by rw [fr7 j (by omega) (by omega) (by omega), hN, x_up_other (by omega)]
        have wZ : WF K Z := WF_rows w7 lo7
        -- as if the row had been kept that was recorded
        have hM'' : q_hi K (x_row M 194 (X 194)) n p := q_hi_fr hh (fun a _ _ => x_row_other (by omega)) (x_row_other (by decide)) (by rw [x_row_other (by decide)]) (x_row_other (by decide))
        have wM'' : WF K (x_row M 194 (X 194)) := WF_rows h1 (fun j hj => x_row_other (by omega))
        have rM'' : RE (x_row M 194 (X 194)) (x_row M 194 (X 194) 194) := by
          rw [x_row_same]
          exact RE_vd rx (WF_w w1).1 (WF_p w1).1 (fun j k hj _ => by rw [x_row_other (by omega), lo1 j hj])
        obtain ⟨k1, k2, k3', k4⟩ := kp
        have ke : q_KE (x_row M 194 (X 194)) Z n p := by
          refine ⟨?_, ?_, fun j k hj hv => ?_, fun a a1 a2 a3 a4 => ?_⟩
          · rw [fr7 181 (by decide) (by decide) (by decide), up 181 (by decide) (by decide)]
            exact k1
          · rw [fr7 181 (by decide) (by decide) (by decide), up 181 (by decide) (by decide)]
            exact k2
          · rw [fr7 _ (by omega) (by omega) (by omega), up _ (by omega) (by omega), k3' j k hj hv, x_row_other (by omega), h0 j (by omega) (by omega) (by omega) (by omega)]
          · rw [fr7 a (by omega) (by omega) (by omega), up a a2 (by omega), k4 a a1 a4, x_row_other (by omega), h0 a (by omega) (by omega) (by omega) (by omega)]
        have kc : q_RC (x_row M 194 (X 194)) Z n := by
          obtain ⟨c1, c2, c3⟩ := rc
          refine ⟨by rw [k3]; exact c1, fun k hk => by rw [k196, x_row_same]; exact c2 k hk, fun i k hi' hk => ?_⟩
          rw [k196, x_row_other (by decide), c3 i k hi' hk, sx.2 196 (by decide) (by decide), hi 196 (by decide) (by decide) (by decide) (by decide) (by decide)]
        have fin := q_hi_step wM'' rM'' hM'' ke kc
        have sk : ∀ a, a ≠ 181 → 140 ≤ a → a < 185 → Z a = M a := fun a a1 a2 a3 => by
          rw [fr7 a (by omega) (by omega) (by omega), up a (by omega) (by omega), k4 a a1 (by omega), h0 a (by omega) (by omega) (by omega) (by omega)]
        refine ⟨WF_mono wZ (by omega), ?_, ⟨_, _, q_hi_mono fin (by omega)⟩, q_sl_fr (q_sl_mono h4 (by omega)) (fun a a1 a2 => sk a (by omega) a1 (by omega)) (sk 184 (by decide) (by decide) (by decide)) ?_ ?_, tx, 0, ⟨?_, by omega, fun k hk => absurd hk (by omega)⟩, ⟨?_, by omega, fun k hk => absurd hk (by omega)⟩⟩
        · rw [k194']
          exact RE_vd r7 (WF_w w7).1 (WF_p w7).1 (fun j k hj _ => by rw [lo7 j hj])
        · rw [fr7 198 (by decide) (by decide) (by decide), hi 198 (by decide) (by decide) (by decide) (by decide) (by decide)]
        · rw [fr7 197 (by decide) (by decide) (by decide), hi 197 (by decide) (by decide) (by decide) (by decide) (by decide)]
        · rw [fr7 185 (by decide) (by decide) (by decide), hN, x_up_same, q_us]
          rfl
        · rw [k7]
          rfl
    · obtain ⟨rfl, ho⟩ := cE rfl z
      have k193 : N 193 = M 193 := ho 193 (by decide) (by decide) (by decide) (by decide)
      have hpm' : q_pm N tx m := by
        unfold q_pm at *
        rw [k193, ho 199 (by decide) (by decide) (by decide) (by decide)]
        exact hpm
      have rN : RE M (N 194) := by rw [ho 194 (by decide) (by decide) (by decide) (by decide)]; exact h2
      refine mo_X10_findFault (ok_X10_findFault N tx m hpm') ?_
      rintro r3 N2 ⟨rfl, sc2⟩
      rw [q_on_none plt]
      refine ⟨fun _ => ⟨v2, ?_⟩, fun w => absurd q w⟩
      have r2 : RE M (N2 194) := by rw [sc2.2 194 (by decide)]; exact rN
      have pm2 := q_pm_sc hpm' sc2
      refine mo_X10_makeAll (ok_X10_makeAll M N2 K tx m L pm2 h1 r2 hL) ?_
      rintro r4 N4 ⟨rfl, r5, -, sc4⟩
      obtain ⟨m1, m2⟩ := q_ma_el L M
      rw [m1, q_el_neg, c_2, r2.1.2.2.1]
      refine ⟨v2, fun w => absurd w z, fun _ => ⟨rfl, inv0 _ ho ?_ ?_⟩⟩
      · exact ⟨fun k b1 b2 b3 b4 => by rw [x_up_other (by decide), sc4.1 k b1 b2 b3 b4, sc2.1 k b1 b2 b3 b4], fun c b1 b2 => by rw [x_up_other b2, sc4.2 c b1 b2, sc2.2 c b1]⟩
      · rw [x_up_same]
        exact RE_ma_back L M _ r5
  · obtain ⟨rfl, ho⟩ := cF q
    have k193 : N 193 = M 193 := ho 193 (by decide) (by decide) (by decide) (by decide)
    have hpm' : q_pm N tx m := by
      unfold q_pm at *
      rw [k193, ho 199 (by decide) (by decide) (by decide) (by decide)]
      exact hpm
    refine mo_X10_findFault (ok_X10_findFault N tx m hpm') ?_
    rintro r3 N2 ⟨rfl, sc2⟩
    rw [q_on_none plt]
    refine ⟨fun w => absurd w q, fun _ => ⟨rfl, inv0 _ ho (sc0 sc2) ?_⟩⟩
    rw [sc2.2 194 (by decide), ho 194 (by decide) (by decide) (by decide) (by decide)]
    exact h2
