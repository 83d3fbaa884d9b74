/-! sing, undo, save, restore -/
theorem q_us {f : Nat → Int32} {k : Nat} {v : Int32} : upd f k v k = v := by simp [upd]
theorem x_of20 {v : Int32} (h : 1 ≤ v ∧ v ≤ 20) : ∃ t, t ≤ 20 ∧ v = nI t := by
  have h2 : 0 ≤ v ∧ v ≤ nI 21 - 1 := by
    have e : nI 21 - 1 = (20 : Int32) := by decide
    rw [e]
    refine ⟨?_, h.2⟩
    have := h.1
    rw [Int32.le_iff_toInt_le] at this ⊢
    have e1 : (1 : Int32).toInt = 1 := rfl
    have e0 : (0 : Int32).toInt = 0 := rfl
    omega
  obtain ⟨t, ht, e⟩ := x_of (by omega) ((x_hasI (by omega)).mp h2)
  exact ⟨t, by omega, e⟩
theorem q_sn_stop {f c : Nat} {E : xM} (h : q_next E = none) : q_sn f c E = (nI c, E) := by
  cases f with
  | zero => rfl
  | succ f =>
    rw [q_sn, h]
theorem q_sn_go {f c w : Nat} {E : xM} (h : q_next E = some w) (hf : 0 < f) : q_sn f c E = q_sn (f - 1) (c + 1) (q_sg E w) := by
  obtain ⟨k, rfl⟩ : ∃ k, f = k + 1 := ⟨f - 1, by omega⟩
  rw [q_sn, h]
  rfl
theorem ok_X9_sing {g : xG} (v1 : Int32) (M : xM) (K n p : Nat) (h : WF K M) (hK : K + 20 < 1000000) (hh : q_hi K M n p) : mi_X9_sing g v1 M (q_cC M n p (q_esn v1 M) (fun E => (q_sn v1.toNatClampNeg 0 E).1) (fun E => (q_sn v1.toNatClampNeg 0 E).2)) := by
  refine wk_X9_sing _ M _ (fun k w1 w2 N => ∃ N1 t i, t ≤ 20 ∧ v1 = nI t ∧ w1 = nI t ∧ w2 = nI i ∧ i ≤ t ∧ k = t - i ∧ WF (K + i) N ∧ q_sn (t - i) i N = q_sn t 0 N1 ∧ q_esn v1 M = 0 ∧ q_KP M N1 n p) ?_ ?_
  · unfold vc_X9_sing
    refine mo_X9_isBetween (ok_X9_isBetween _ _ _ _) ?_
    rintro r M ⟨rfl, rfl⟩
    refine ⟨fun z => ?_, fun z => q_cC_e (by rw [q_esn, q_if0 (x_b_eq.mp z)]) rfl (by decide)⟩
    have z := x_b_ne.mp z
    obtain ⟨t, ht, rfl⟩ := x_of20 z
    refine mo_X1_keep (ok_X1_keep M n p hh.1 hh.2.1 hh.2.2.1 hh.2.2.2.1) ?_
    intro N1 kp
    have kp : q_KP M N1 n p := kp
    exact ⟨t, N1, t, 0, ht, rfl, rfl, rfl, by omega, by omega, WF_rows h (q_KP_lo hh.2.1 kp), rfl, by rw [q_esn, q_if1 z], kp⟩
  · rintro k w1 w2 N ⟨N1, t, i, ht, rfl, rfl, rfl, hi, rfl, wf, es, e0, kp⟩
    unfold vc_X9_sing_1
    rw [x_le (by omega) (by omega), x_cl (by omega)]
    refine ⟨fun q => ?_, fun q => ?_⟩
    · have : i = t := by omega
      subst this
      rw [Nat.sub_self] at es
      exact q_cC_g e0 kp (by rw [← es]; rfl) (by rw [← es]; rfl)
    · have hw := WF_w wf
      refine mo_X0_nextWish (ok_X0_nextWish N (q_w N) hw.1 hw.2 (fun w hw2 => q_ok_of wf hw2)) ?_
      rintro r N ⟨rfl, rfl⟩
      cases hn : q_next N with
      | none =>
        refine ⟨fun z => absurd rfl z, fun _ => ?_⟩
        rw [q_sn_stop hn] at es
        exact q_cC_g e0 kp (by rw [← es]) (by rw [← es])
      | some w =>
        have hlt := q_next_lt hn
        refine ⟨fun _ => ?_, fun z => absurd z (x_nm6 (by omega))⟩
        refine mo_X0_singTurn (ok_X0_singTurn w N (K + i) wf hlt) ?_
        rintro N2 rfl
        rw [q_sn_go hn (by omega)] at es
        exact ⟨t - (i + 1), by omega, N1, t, i + 1, ht, rfl, rfl, nI_1 i, by omega, rfl, by rw [← Nat.add_assoc]; exact WF_sg wf w hlt (by omega), by rw [← es, show t - (i + 1) = t - i - 1 by omega], e0, kp⟩
theorem ok_X10_sing {g : xG} (v1 : Int32) (E M : xM) (K n : Nat) (hE : WF K E) (hK : K + 20 < 1000000) (h : RE E (M 194)) (h3 : M 193 3 = nI n) (hn : n ≤ 6) : mi_X10_sing g v1 M (q_chM M n (q_esn v1 E) (q_sn v1.toNatClampNeg 0 E).1 (q_sn v1.toNatClampNeg 0 E).2) := by
  refine wk_X10_sing _ M _ (fun k w1 w2 w3 N => ∃ N1 E1 t i, t ≤ 20 ∧ v1 = nI t ∧ w1 = nI t ∧ w2 = nI i ∧ w3 = q_on (q_next E1) ∧ i ≤ t ∧ k = t - i ∧ WF (K + i) E1 ∧ RE E1 (N 194) ∧ q_sn (t - i) i E1 = q_sn t 0 E ∧ q_esn v1 E = 0 ∧ q_RP M N1 n ∧ ∀ a, a ≠ 194 → N a = N1 a) ?_ ?_
  · unfold vc_X10_sing
    refine mo_X10_within (ok_X10_within _ _ _ _) ?_
    rintro r M ⟨rfl, rfl⟩
    refine ⟨fun z => ?_, fun z => q_chM_e (by rw [q_esn, q_if0 (x_b_eq.mp z)]) rfl (by decide)⟩
    have z := x_b_ne.mp z
    obtain ⟨t, ht, rfl⟩ := x_of20 z
    refine mo_X10_record (rc_X10_record M n hn h3) ?_
    rintro N1 ⟨rp, e194⟩
    have r1 : RE E (N1 194) := by rw [e194]; exact h
    refine mo_X10_nextWish (ok_X10_nextWish E N1 K hE r1) ?_
    rintro r N1 ⟨rfl, rfl⟩
    exact ⟨t, N1, E, t, 0, ht, rfl, rfl, rfl, rfl, by omega, by omega, hE, r1, rfl, by rw [q_esn, q_if1 z], rp, fun _ _ => rfl⟩
  · rintro k w1 w2 w3 N ⟨N1, E1, t, i, ht, rfl, rfl, rfl, rfl, hi, rfl, wf, hR, es, e0, rp, ho⟩
    unfold vc_X10_sing_1
    rw [x_le (by omega) (by omega), x_cl (by omega)]
    refine ⟨fun q => ?_, fun q => ?_⟩
    · have : i = t := by omega
      subst this
      rw [Nat.sub_self] at es
      exact q_chM_g e0 rp (by rw [← es]; rfl) (by rw [← es]; exact hR) ho
    · have hw := WF_w wf
      cases hn : q_next E1 with
      | none =>
        refine ⟨fun _ => ?_, fun z => absurd rfl z⟩
        rw [q_sn_stop hn] at es
        exact q_chM_g e0 rp (by rw [← es]) (by rw [← es]; exact hR) ho
      | some w =>
        have hlt := q_next_lt hn
        refine ⟨fun z => absurd z (x_nm6 (by omega)), fun _ => ?_⟩
        have wf2 : WF (K + i + 1) (q_sg E1 w) := WF_sg wf w hlt (by omega)
        refine mo_X10_singWish (ok_X10_singWish E1 N (K + i) w wf hlt hR) ?_
        rintro N2 ⟨hR2, ho2⟩
        refine mo_X10_nextWish (ok_X10_nextWish (q_sg E1 w) N2 (K + i + 1) wf2 hR2) ?_
        rintro r N2 ⟨rfl, rfl⟩
        rw [q_sn_go hn (by omega)] at es
        exact ⟨t - (i + 1), by omega, N1, q_sg E1 w, t, i + 1, ht, rfl, rfl, nI_1 i, rfl, by omega, rfl, wf2, hR2, by rw [← es, show t - (i + 1) = t - i - 1 by omega], e0, rp, fun a ha => by rw [ho2 a ha, ho a ha]⟩
theorem st_sing {g : xG} (v1 : Int32) {K : Nat} {M : xM} (h : q_inv K M) (hK : K + 20 < 1000000) : mi_X9_sing g v1 M (fun r N => mi_X10_sing g v1 N (fun r' N' => r = r' ∧ q_inv (K + 20) N')) := by
  refine q_step (er := q_esn v1) (miC := mi_X9_sing g v1 M) (miM := mi_X10_sing g v1) (fun _ _ a b => mo_X9_sing a b) (fun _ _ _ a b => mo_X10_sing a b) (by omega) h (fun n p hh => ok_X9_sing v1 M K n p h.1 hK hh) (fun N1 lo => rfl) (fun N1 w e => ⟨fun a ha => q_sn_ge _ _ _ a ha, ?_⟩) (fun E N n a b c d => ok_X10_sing v1 E N K n a hK b c d)
  by_cases q : 1 ≤ v1 ∧ v1 ≤ 20
  · obtain ⟨t, ht, rfl⟩ := x_of20 q
    rw [x_cl (by omega)]
    exact WF_mono (q_sn_WF t 0 N1 K w (by omega)) (by omega)
  · rw [q_esn, q_if0 q] at e
    exact absurd e (by decide)
-- undoing
theorem st_undo {g : xG} {K : Nat} {M : xM} (h : q_inv K M) : mi_X9_undo g M (fun r N => mi_X10_undo g N (fun r' N' => r = r' ∧ q_inv (K + 20) N')) := by
  obtain ⟨h1, h2, ⟨n, p, hh⟩, h4, h5⟩ := id h
  obtain ⟨hn, hp, e1, e2, e3, hst⟩ := id hh
  refine wk_X9_undo M _ ?_
  unfold vc_X9_undo
  rw [e1, x_eq0 (by omega)]
  refine ⟨fun q => ?_, fun q => ?_⟩
  · refine mo_X1_takeBackInto (ok_X1_takeBackInto M n p hn (by omega) hp e1 e2) ?_
    rintro N ⟨k1, k2, k3, k4⟩
    have k193 : N 193 = M 193 := k4 193 (by decide) (by decide)
    refine wk_X10_undo N _ ?_
    unfold vc_X10_undo
    rw [k193, e3, x_eq0 (by omega)]
    refine ⟨fun _ => ?_, fun q2 => absurd q2 q⟩
    have ei : x_up N 193 3 (nI n - 1) 193 3 * (239 : Int32) = nI (239 * (n - 1)) := by
      rw [x_up_same, q_us, x_pred (by omega), Nat.mul_comm]
      exact pk_mul (n - 1) 239
    rw [ei]
    refine mo_X10_moves (ok_X10_moves (na := 1434) (nb := 239) 196 194 xa_196 xa_194 (by decide) (239 * (n - 1)) 0 (by omega) (by omega) (by omega) (by omega) _) ?_
    rintro N' ⟨m1, -, m3⟩
    have l193 : N' 193 3 = nI (n - 1) := by
      rw [m3 193 (by decide), x_up_same, q_us, x_pred (by omega)]
    have fr : ∀ a, a ≠ 193 → a ≠ 194 → N' a = N a := fun a a1 a2 => by rw [m3 a a2, x_up_other a1]
    refine ⟨by rw [k1, l193], ?_⟩
    obtain ⟨w0, r0⟩ := hst 0 (by omega)
    have ep : (p + 5 - 0) % 6 = if p = 0 then 5 else p - 1 := by split <;> omega
    rw [ep] at w0 r0
    generalize hpp : (if p = 0 then 5 else p - 1) = p' at *
    have hp' : p' < 6 := by rw [← hpp]; split <;> omega
    have vd : ∀ j k, j < 20 → q_vd j k → N' j k = q_ev M (1 + p') j k := fun j k hj hv => by
      rw [fr j (by omega) (by omega)]
      exact k3 j k hj hv
    have w1 : WF K N' := WF_vd w0 vd
    have r1 := RE_vd r0 (WF_w w0).1 (WF_p w0).1 vd
    refine ⟨WF_mono w1 (by omega), RE_cong r1 (WF_w w1).1 (WF_p w1).1 (fun k hk => ?_), ⟨n - 1, p', by omega, hp', by rw [fr 181 (by decide) (by decide)]; exact k1, by rw [fr 181 (by decide) (by decide)]; exact k2, l193, fun i hi => ?_⟩, ?_, ?_⟩
    · have := m1 k hk
      rw [Nat.zero_add, x_up_other (by decide), k4 196 (by decide) (by decide)] at this
      exact this
    · have hi' := hst (i + 1) (by omega)
      have e : (p' + 5 - i) % 6 = (p + 5 - (i + 1)) % 6 := by
        rw [← hpp]
        split <;> omega
      rw [e]
      have hm : (p + 5 - (i + 1)) % 6 < 6 := Nat.mod_lt _ (by decide)
      generalize (p + 5 - (i + 1)) % 6 = q6 at *
      have ee : ∀ j, j < 20 → q_ev N' (1 + q6) j = q_ev M (1 + q6) j := fun j hj => by
        show N' (20 * (1 + q6) + j) = M (20 * (1 + q6) + j)
        rw [fr _ (by omega) (by omega), k4 _ (by omega) (by omega)]
      have e196 : N' 196 = M 196 := by rw [fr 196 (by decide) (by decide), k4 196 (by decide) (by decide)]
      have ei2 : n - 1 - 1 - i = n - 1 - (i + 1) := by omega
      rw [e196, ei2]
      exact ⟨WF_mono (WF_rows hi'.1 ee) (by omega), RE_vd hi'.2 (WF_w hi'.1).1 (WF_p hi'.1).1 (fun j k hj _ => by rw [ee j hj])⟩
    · refine q_sl_fr (q_sl_mono h4 (by omega)) (fun a a1 a2 => ?_) ?_ ?_ ?_
      · rw [fr a (by omega) (by omega), k4 a (by omega) (by omega)]
      · rw [fr 184 (by decide) (by decide), k4 184 (by decide) (by decide)]
      · rw [fr 198 (by decide) (by decide), k4 198 (by decide) (by decide)]
      · rw [fr 197 (by decide) (by decide), k4 197 (by decide) (by decide)]
    · refine q_pp_fr h5 ?_ ?_ ?_ ?_
      · rw [fr 185 (by decide) (by decide), k4 185 (by decide) (by decide)]
      · rw [fr 186 (by decide) (by decide), k4 186 (by decide) (by decide)]
      · rw [m3 193 (by decide), x_up_same, pk_un (by omega), k193]
      · rw [fr 199 (by decide) (by decide), k4 199 (by decide) (by decide)]
  · refine wk_X10_undo M _ ?_
    unfold vc_X10_undo
    rw [e3, x_eq0 (by omega)]
    exact ⟨fun q2 => absurd q q2, fun _ => ⟨rfl, q_inv_mono h (by omega)⟩⟩
-- saving
theorem x_of2 {v : Int32} (h : 0 ≤ v ∧ v ≤ 1) : ∃ s, s < 2 ∧ v = nI s := x_of (by omega) ((x_hasI (n := 2) (by omega)).mp h)
theorem st_save {g : xG} (v1 : Int32) {K : Nat} {M : xM} (h : q_inv K M) : mi_X9_save g v1 M (fun r N => mi_X10_save g v1 N (fun r' N' => r = r' ∧ q_inv (K + 20) N')) := by
  obtain ⟨h1, h2, ⟨n, p, hh⟩, h4, h5⟩ := id h
  refine wk_X9_save _ M _ ?_
  unfold vc_X9_save
  refine mo_X9_isBetween (ok_X9_isBetween _ _ _ _) ?_
  rintro r M ⟨rfl, rfl⟩
  refine ⟨fun z => ?_, fun z => ?_⟩
  · have z0 := x_b_ne.mp z
    obtain ⟨s, hs, rfl⟩ := x_of2 z0
    have vs : vp_in (nI s) 2 := x_vi hs (by omega)
    rw [x_cl (by omega)]
    refine ⟨vs, ?_⟩
    refine mo_X0_copyFrom (ok_X0_copyFrom (7 + s) 0 (by omega) (by omega) (by omega) M) ?_
    rintro N3 ⟨c1, c2⟩
    refine ⟨vs, ?_⟩
    have nar : vp_nar .boolean (1 : Int32) = 1 := by decide
    rw [nar]
    generalize hN : x_up N3 184 s 1 = N
    have fr : ∀ a, a ≠ 184 → ¬ (20 * (7 + s) ≤ a ∧ a < 20 * (7 + s) + 20) → N a = M a := fun a a1 a2 => by
      rw [← hN, x_up_other a1]
      exact c2 a (by omega)
    have lo : ∀ j, j < 20 → N j = M j := fun j hj => fr j (by omega) (by omega)
    refine wk_X10_save _ N _ ?_
    unfold vc_X10_save
    refine mo_X10_within (ok_X10_within _ _ _ _) ?_
    rintro r N ⟨rfl, rfl⟩
    refine ⟨fun _ => ?_, fun z2 => absurd z2 z⟩
    have ei : (239 : Int32) * nI s = nI (239 * s) := pk_mul 239 s
    rw [ei]
    refine mo_X10_moves (ok_X10_moves (na := 239) (nb := 478) 194 197 xa_194 xa_197 (by decide) 0 (239 * s) (by omega) (by omega) (by omega) (by omega) _) ?_
    rintro N4 ⟨m1, m2, m3⟩
    have fr4 : ∀ a, a ≠ 197 → a ≠ 198 → x_up N4 198 s 1 a = N a := fun a a1 a2 => by rw [x_up_other a2, m3 a a1]
    have v2 : vp_in (2 : Int32) 239 := v_k (n := 2) 239 (by omega) (by omega) rfl
    rw [x_cl (show s < 5000 by omega), c_2]
    refine ⟨vs, v2, ?_⟩
    have k194 : N 194 = M 194 := fr 194 (by decide) (by omega)
    refine ⟨by rw [fr4 194 (by decide) (by decide), k194, lo 11 (by decide)]; exact h2.1.2.2.1.symm, ?_⟩
    generalize hN' : x_up N4 198 s 1 = N' at *
    have lo' : ∀ j, j < 20 → N' j = M j := fun j hj => by rw [fr4 j (by omega) (by omega), lo j hj]
    refine ⟨WF_mono (WF_rows h1 lo') (by omega), ?_, ⟨n, p, q_hi_fr (q_hi_mono hh (by omega)) (fun a a1 a2 => ?_) ?_ ?_ ?_⟩, fun t ht => ?_, ?_⟩
    · rw [fr4 194 (by decide) (by decide), k194]
      exact RE_vd h2 (WF_w h1).1 (WF_p h1).1 (fun j k hj _ => by rw [lo' j hj])
    · rw [fr4 a (by omega) (by omega), fr a (by omega) (by omega)]
    · rw [fr4 181 (by decide) (by decide), fr 181 (by decide) (by omega)]
    · rw [fr4 193 (by decide) (by decide), fr 193 (by decide) (by omega)]
    · rw [fr4 196 (by decide) (by decide), fr 196 (by decide) (by omega)]
    · obtain ⟨s1, s2, s3⟩ := h4 t ht
      by_cases q : t = s
      · subst q
        have e1 : N' 184 t = 1 := by rw [fr4 184 (by decide) (by decide), ← hN, x_up_same, q_us]
        have e2 : N' 198 t = 1 := by rw [← hN', x_up_same, q_us]
        have vd : ∀ j k, j < 20 → q_vd j k → q_ev N' (7 + t) j k = M j k := fun j k hj hv => by
          show N' (20 * (7 + t) + j) k = M j k
          rw [fr4 _ (by omega) (by omega), ← hN, x_up_other (by omega)]
          have := c1 j k (by omega) hj hv
          rw [Nat.mul_zero, Nat.zero_add] at this
          exact this
        have w1 := WF_vd h1 vd
        refine ⟨Or.inr e1, by rw [e1, e2], fun _ => ⟨WF_mono w1 (by omega), RE_cong (RE_vd h2 (WF_w h1).1 (WF_p h1).1 vd) (WF_w w1).1 (WF_p w1).1 (fun k hk => ?_)⟩⟩
        rw [← hN', x_up_other (by decide), m1 k hk, Nat.zero_add, k194]
      · have e1 : N' 184 t = M 184 t := by rw [fr4 184 (by decide) (by decide), ← hN, x_up_same, pk_un q, c2 184 (by omega)]
        have e2 : N' 198 t = M 198 t := by rw [← hN', x_up_same, pk_un q, m3 198 (by decide), fr 198 (by decide) (by omega)]
        rw [e1, e2]
        refine ⟨s1, s2, fun q2 => ?_⟩
        obtain ⟨w, r⟩ := s3 q2
        have ee : ∀ j, j < 20 → q_ev N' (7 + t) j = q_ev M (7 + t) j := fun j hj => by
          show N' (20 * (7 + t) + j) = M (20 * (7 + t) + j)
          rw [fr4 _ (by omega) (by omega), fr _ (by omega) (by omega)]
        have w1 := WF_rows w ee
        refine ⟨WF_mono w1 (by omega), RE_cong (RE_vd r (WF_w w).1 (WF_p w).1 (fun j k hj _ => by rw [ee j hj])) (WF_w w1).1 (WF_p w1).1 (fun k hk => ?_)⟩
        rw [← hN', x_up_other (by decide), m2 _ (by omega), fr 197 (by decide) (by omega)]
    · refine q_pp_fr h5 ?_ ?_ ?_ ?_
      · rw [fr4 185 (by decide) (by decide), fr 185 (by decide) (by omega)]
      · rw [fr4 186 (by decide) (by decide), fr 186 (by decide) (by omega)]
      · rw [fr4 193 (by decide) (by decide), fr 193 (by decide) (by omega)]
      · rw [fr4 199 (by decide) (by decide), fr 199 (by decide) (by omega)]
  · refine wk_X10_save _ M _ ?_
    unfold vc_X10_save
    refine mo_X10_within (ok_X10_within _ _ _ _) ?_
    rintro r M ⟨rfl, rfl⟩
    exact ⟨fun z2 => absurd z z2, fun _ => ⟨rfl, q_inv_mono h (by omega)⟩⟩
-- restoring
theorem st_restore {g : xG} (v1 : Int32) {K : Nat} {M : xM} (h : q_inv K M) : mi_X9_restore g v1 M (fun r N => mi_X10_restore g v1 N (fun r' N' => r = r' ∧ q_inv (K + 20) N')) := by
  obtain ⟨h1, h2, ⟨n, p, hh⟩, h4, h5⟩ := id h
  refine wk_X9_restore _ M _ ?_
  unfold vc_X9_restore
  refine mo_X9_isBetween (ok_X9_isBetween _ _ _ _) ?_
  rintro r M ⟨rfl, rfl⟩
  refine ⟨fun z => ?_, fun z => ?_⟩
  · have z0 := x_b_ne.mp z
    obtain ⟨s, hs, rfl⟩ := x_of2 z0
    have vs : vp_in (nI s) 2 := x_vi hs (by omega)
    have v2 : vp_in (2 : Int32) 239 := v_k (n := 2) 239 (by omega) (by omega) rfl
    rw [x_cl (by omega)]
    obtain ⟨s1, s2, s3⟩ := h4 s hs
    refine ⟨vs, fun q => ?_, fun q => ?_⟩
    · obtain ⟨w, r⟩ := s3 (s1.resolve_left q)
      refine mo_X1_keep (ok_X1_keep M n p hh.1 hh.2.1 hh.2.2.1 hh.2.2.2.1) ?_
      intro N1 kp
      have kp : q_KP M N1 n p := kp
      have hp6 := hh.2.1
      refine ⟨vs, ?_⟩
      refine mo_X0_copyFrom (ok_X0_copyFrom 0 (7 + s) (by omega) (by omega) (by omega) N1) ?_
      rintro N ⟨c1, c2⟩
      have up : ∀ a, 20 ≤ a → N a = N1 a := fun a ha => c2 a (by omega)
      have hi : ∀ a, 185 ≤ a → N a = M a := fun a ha => by rw [up a (by omega), q_KP_hi hp6 kp a ha]
      have vd : ∀ j k, j < 20 → q_vd j k → N j k = q_ev M (7 + s) j k := fun j k hj hv => by
        have := c1 j k (by omega) hj hv
        rw [Nat.mul_zero, Nat.zero_add] at this
        rw [this]
        show N1 (20 * (7 + s) + j) k = M (20 * (7 + s) + j) k
        rw [kp.2.2.2 _ (by omega) (by omega)]
      have w1 : WF K N := WF_vd w vd
      refine wk_X10_restore _ N _ ?_
      unfold vc_X10_restore
      refine mo_X10_within (ok_X10_within _ _ _ _) ?_
      rintro r2 N ⟨rfl, rfl⟩
      refine ⟨fun _ => ⟨vs, ?_⟩, fun z2 => absurd z2 z⟩
      have ei : (239 : Int32) * nI s = nI (239 * s) := pk_mul 239 s
      rw [x_cl (show s < 5000 by omega), hi 198 (by decide), s2, ei, c_2]
      refine ⟨fun _ => ?_, fun q2 => absurd q2 q⟩
      refine mo_X10_record (rc_X10_record N n hh.1 (by rw [hi 193 (by decide)]; exact hh.2.2.2.2.1)) ?_
      rintro N2 ⟨rp, e194⟩
      refine mo_X10_moves (ok_X10_moves (na := 478) (nb := 239) 197 194 xa_197 xa_194 (by decide) (239 * s) 0 (by omega) (by omega) (by omega) (by omega) _) ?_
      rintro N3 ⟨m1, -, m3⟩
      have hR : RE (q_ev M (7 + s)) (N3 194) := RE_cong r (WF_w w).1 (WF_p w).1 (fun k hk => by
        have := m1 k hk
        rw [Nat.zero_add, rp.2.2 197 (by decide) (by decide) (by decide), hi 197 (by decide)] at this
        exact this)
      refine ⟨v2, ?_⟩
      have e11 : N 11 0 = q_ev M (7 + s) 11 0 := vd 11 0 (by decide) (by show 0 < 1; decide)
      refine q_inv_ch h hh (show K ≤ K + 20 by omega) (er := 0) (val := q_ev M (7 + s) 11 0) (F := q_ev M (7 + s)) (N := N) ⟨fun z => absurd rfl z, fun _ => ⟨e11, WF_mono w1 (by omega), fun t ht => RE_vd ht (WF_w w).1 (WF_p w).1 vd, ?_, hi⟩⟩ (q_chM_g rfl rp hR.1.2.2.1 hR (fun a ha => m3 a ha))
      obtain ⟨k1, k2, k3, k4⟩ := kp
      exact ⟨by rw [up 181 (by decide)]; exact k1, by rw [up 181 (by decide)]; exact k2, fun j k hj hv => by rw [up _ (by omega)]; exact k3 j k hj hv, fun a a1 a2 _ a4 => by rw [up a a2]; exact k4 a a1 a4⟩
    · refine wk_X10_restore _ M _ ?_
      unfold vc_X10_restore
      refine mo_X10_within (ok_X10_within _ _ _ _) ?_
      rintro r2 M ⟨rfl, rfl⟩
      rw [x_cl (show s < 5000 by omega), s2]
      exact ⟨fun _ => ⟨vs, fun q2 => absurd q q2, fun _ => ⟨rfl, q_inv_mono h (by omega)⟩⟩, fun z2 => absurd z2 z⟩
  · refine wk_X10_restore _ M _ ?_
    unfold vc_X10_restore
    refine mo_X10_within (ok_X10_within _ _ _ _) ?_
    rintro r M ⟨rfl, rfl⟩
    exact ⟨fun z2 => absurd z z2, fun _ => ⟨rfl, q_inv_mono h (by omega)⟩⟩
