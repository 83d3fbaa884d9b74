/-! when a wish comes, as the law reckons it -/
def l_fr (M N : xM) : Prop := ∀ z, (z < 199 ∨ 204 < z) → N z = M z
theorem l_cancel (a b x : Int32) : a + (x + b) - x = a + b := by
  rw [Int32.add_comm x b, ← Int32.add_assoc]
  exact Int32.add_sub_cancel _ _
theorem ok_L_comes {g : xG} (E M : xM) (K wish : Nat) (miss : Option Nat) (hE : WF K E) (hB : WB E) (hK : K + 20 < 9000) (hw : wish < q_w E) (hm : ∀ i, miss = some i → i < q_w E ∧ i ≠ wish) (hr : q_rd E wish = true) (h : LR E (M 193) (M 194) (M 195) (M 196)) : mi_L_comes g (nI wish) (l_on miss) M (fun r N => (∃ m, m ≤ 9 * (q_turn E wish miss).1 ∧ (q_turn E wish miss).1 ≤ 20 ∧ r = nI (10000 * (q_turn E wish miss).1 + m) ∧ (q_turn E wish miss).2 = E 0 4 + nI m) ∧ l_fr M N) := by
  obtain ⟨h20, h11⟩ := WF_w hE
  have e5 : M 193 5 = E 0 4 := h.1.2.2.2.2.2.1
  have v2 : vp_in (2 : Int32) 8 := l_v8 2 (by omega) rfl
  have v5 : vp_in (5 : Int32) 8 := l_v8 5 (by omega) rfl
  generalize hR : q_turn E wish miss = R
  refine wk_L_comes (nI wish) (l_on miss) M _
    (fun k v0 v1 v12 v13 N => ∃ i j, miss = some i ∧ k = 100000 + (20 - j) ∧ v0 = nI wish ∧ v1 = nI i ∧ v12 = nI wish ∧ v13 = nI j ∧ i ≤ j ∧ j < q_w E ∧ l_fr M N ∧ ∃ W, LR E (N 199) (N 200) (N 201) W ∧ SGd W (N 202) i j)
    (fun k v12 N => ∃ E1 L1 p1, k = 10000 ∧ q_sim E E1 L1 (q_wait E miss) (E 1 2) (E 4) (E 0 4) ∧ WF K E1 ∧ WB E1 ∧ p1 < q_w E1 ∧ L1 p1 = wish ∧ q_rd E1 p1 = true ∧ LR E1 (N 199) (N 200) (N 201) (N 202) ∧ l_fr M N ∧ v12 = nI p1)
    (fun k v12 v13 v14 N => ∃ (E' : xM) (L' : Nat → Nat) (W' y' : Int32) (t' : Nat → Int32) (mn' : Int32) (p' c m : Nat), k = q_w E' ∧ q_sim E E' L' W' y' t' mn' ∧ WF (K + c) E' ∧ WB E' ∧ c + q_w E' ≤ 20 ∧ p' < q_w E' ∧ L' p' = wish ∧ q_rd E' p' = true ∧ LR E' (N 199) (N 200) (N 201) (N 202) ∧ l_fr M N ∧ v12 = nI p' ∧ v13 = nI c ∧ v14 = q_on (q_next E') ∧ q_la E wish (20 - c) W' y' t' mn' c = R ∧ m ≤ 9 * c ∧ E' 0 4 = E 0 4 + nI m) ?_ ?_ ?_ ?_
  · unfold vc_L_comes
    refine mo_L_copy (ok_L_copy 193 199 xa_193 xa_199 (by decide) 8 (by omega) (by omega) (by omega) (by omega) M) ?_
    rintro N1 ⟨k1, -, o1⟩
    refine mo_L_copy (ok_L_copy 194 200 xa_194 xa_200 (by decide) 48 (by omega) (by omega) (by omega) (by omega) N1) ?_
    rintro N2 ⟨k2, -, o2⟩
    refine mo_L_copy (ok_L_copy 195 201 xa_195 xa_201 (by decide) 64 (by omega) (by omega) (by omega) (by omega) N2) ?_
    rintro N3 ⟨k3, -, o3⟩
    refine mo_L_copy (ok_L_copy 196 202 xa_196 xa_202 (by decide) 20 (by omega) (by omega) (by omega) (by omega) N3) ?_
    rintro N4 ⟨k4, -, o4⟩
    have fr : l_fr M N4 := fun z hz => by rw [o4 z (by omega), o3 z (by omega), o2 z (by omega), o1 z (by omega)]
    have lr : LR E (N4 199) (N4 200) (N4 201) (N4 202) := by
      refine LR_cong h h20 (fun k hk => ?_) (fun k hk => ?_) (fun k hk => ?_) (fun k hk => ?_)
      · rw [o4 199 (by decide), o3 199 (by decide), o2 199 (by decide), k1 k hk]
      · rw [o4 200 (by decide), o3 200 (by decide), k2 k hk, o1 194 (by decide)]
      · rw [o4 201 (by decide), k3 k hk, o2 195 (by decide), o1 195 (by decide)]
      · rw [k4 k hk, o3 196 (by decide), o2 196 (by decide), o1 196 (by decide)]
    cases miss with
    | none => exact ⟨fun _ => ⟨10000, E, fun k => k, wish, rfl, q_sim_0 E h20, hE, hB, hw, rfl, hr, lr, fr, rfl⟩, fun q => absurd (show l_on none < 0 by decide) q⟩
    | some i =>
      have hi := (hm i rfl).1
      exact ⟨fun q => absurd q (x_neg (show i < 5000 by omega)), fun _ => ⟨100000 + (20 - i), i, i, rfl, rfl, rfl, rfl, rfl, rfl, Nat.le_refl _, hi, fr, N4 202, lr, SGd_0 _ _⟩⟩
  · rintro k v0 v1 v12 v13 N ⟨i, j, hmi, rfl, rfl, rfl, rfl, rfl, hij, hj, fr, W, lr, sd⟩
    obtain ⟨hi, hne⟩ := hm i hmi
    unfold vc_L_comes_1
    have e2 : N 199 2 = nI (q_w E) := by rw [lr.1.2.2.1, h11]
    rw [l_n2, e2, nI_1, x_le (by omega) (by omega), x_le (by omega) (by omega), x_cl (by omega), x_cl (by omega)]
    refine ⟨v2, fun q => ⟨v2, v2, fun v => v = if wish ≤ i then 0 else 1, ⟨fun z => by rw [if_pos z], fun z => by rw [if_neg z]⟩, ?_⟩, fun q => ⟨x_vi (by omega) (by omega), x_vi (by omega) (by omega), 100000 + (20 - (j + 1)), by omega, i, j + 1, hmi, rfl, rfl, rfl, rfl, rfl, by omega, by omega, fun z hz => ?_, W, ?_, ?_⟩⟩
    · rintro j8 rfl
      have : j = q_w E - 1 := by omega
      subst this
      have ew := q_rm_w hi h20 h11
      have st := q_sim_1 E h20 h11 i hi
      have lr2 : LR (q_rm E i) (x_up N 199 2 (nI (q_w E) - 1) 199) (x_up N 199 2 (nI (q_w E) - 1) 200) (x_up N 199 2 (nI (q_w E) - 1) 201) (x_up N 199 2 (nI (q_w E) - 1) 202) := by
        rw [x_up_other (show (200 : Nat) ≠ 199 by decide), x_up_other (show (201 : Nat) ≠ 199 by decide), x_up_other (show (202 : Nat) ≠ 199 by decide)]
        exact LR_rm lr h20 h11 i hi (by rw [u_at, e2]) (fun k hk => u_ne hk) sd
      have fr2 : l_fr M (x_up N 199 2 (nI (q_w E) - 1)) := fun z hz => by rw [x_up_other (by omega)]; exact fr z hz
      have go : ∀ p v, p < q_w E - 1 → q_Ls (fun k => k) i p = wish → v = nI p → ∃ k, k < 100000 + (20 - (q_w E - 1)) ∧ ∃ E1 L1 p1, k = 10000 ∧ q_sim E E1 L1 (q_wait E miss) (E 1 2) (E 4) (E 0 4) ∧ WF K E1 ∧ WB E1 ∧ p1 < q_w E1 ∧ L1 p1 = wish ∧ q_rd E1 p1 = true ∧ LR E1 (x_up N 199 2 (nI (q_w E) - 1) 199) (x_up N 199 2 (nI (q_w E) - 1) 200) (x_up N 199 2 (nI (q_w E) - 1) 201) (x_up N 199 2 (nI (q_w E) - 1) 202) ∧ l_fr M (x_up N 199 2 (nI (q_w E) - 1)) ∧ v = nI p1 := by
        rintro p v hp hL rfl
        have rd : q_rd (q_rm E i) p = true := by
          rw [q_sim_rd st (by omega), hL]
          exact hr
        rw [hmi]
        exact ⟨10000, by omega, q_rm E i, _, p, rfl, st, WF_rm hE i hi, WB_rm hB i, by omega, hL, rd, lr2, fr2, rfl⟩
      by_cases z : wish ≤ i
      · rw [if_pos z]
        exact go wish _ (by omega) (by rw [q_L1, if_pos (by omega)]) (Int32.sub_zero _)
      · rw [if_neg z]
        refine go (wish - 1) _ (by omega) ?_ (x_pred (by omega))
        rw [q_L1, if_neg (by omega)]
        omega
    · rw [x_up_other (by omega)]
      exact fr z hz
    · rw [x_up_other (show (199 : Nat) ≠ 202 by decide), x_up_other (show (200 : Nat) ≠ 202 by decide), x_up_other (show (201 : Nat) ≠ 202 by decide)]
      exact lr
    · exact SGd_s hij sd u_at (fun z hz => u_ne hz)
  · rintro k v12 N ⟨E1, L1, p1, rfl, sm, w1, b1, hp, hL, rd, lr, fr, rfl⟩
    unfold vc_L_comes_2
    have hw1 := (WF_w w1).1
    refine mo_L_next (ok_L_next 199 200 202 xa_199 xa_200 xa_202 _ E1 N K w1 (by omega) lr) ?_
    rintro r N ⟨rfl, rfl⟩
    exact ⟨q_w E1, by omega, E1, L1, _, _, _, _, p1, 0, 0, rfl, sm, w1, b1, by omega, hp, hL, rd, lr, fr, rfl, rfl, rfl, hR, by omega, by rw [sm.2.2.2.2.2.2.2, nI_0, Int32.add_zero]⟩
  · rintro k v12 v13 v14 N ⟨E', L', W', y', t', mn', p', c, m, rfl, sm, w1, b1, hc, hp, hL, rd, lr, fr, rfl, rfl, rfl, e, hm9, em⟩
    unfold vc_L_comes_3
    have hnx := q_sim_next sm w1
    obtain ⟨f, hf⟩ : ∃ f, 20 - c = f + 1 := ⟨20 - c - 1, by omega⟩
    rw [hf] at e
    cases hq : q_next E' with
    | none =>
      exfalso
      unfold q_next q_nx at hq
      cases hq2 : q_fm (q_tf E' (E' 4)) (fun i => q_rd E' i && q_fr E' (E' 1 2) i) (q_w E') with
      | none =>
        rw [hq2] at hq
        have := q_fm_none.mp hq p' hp
        rw [rd] at this
        cases this
      | some j =>
        rw [hq2] at hq
        cases hq
    | some i =>
      have hi := (q_nx_lt hq).1
      have hw1 := WF_w w1
      have ew := q_sg_w hi hw1.1 hw1.2
      rw [hq, Option.map_some] at hnx
      have ee : q_la E wish (f + 1) W' y' t' mn' c = if L' i = wish then (c, mn') else q_la E wish f (q_no W' (L' i)) (q_ss E (L' i)) (q_at t' (q_ss E (L' i))) (mn' + E 9 (E 14 (L' i)).toNatClampNeg) (c + 1) := by
        rw [q_la, hnx]
      rw [ee] at e
      show ((nI i = nI p' → _) ∧ (¬ (nI i = nI p') → mi_L_sing g (nI i) 199 200 201 202 203 204 N _))
      rw [x_eq (by omega) (by omega), l_n5]
      refine ⟨fun z => ?_, fun z => ?_⟩
      · subst z
        rw [if_pos hL] at e
        have n5 : N 199 5 = E 0 4 + nI m := by rw [lr.1.2.2.2.2.2.1, em]
        have n3 : N 193 5 = E 0 4 := by rw [fr 193 (by omega), e5]
        rw [n5, n3]
        refine ⟨v5, v5, ⟨m, by rw [← e]; exact hm9, by rw [← e]; show c ≤ 20; omega, ?_, ?_⟩, fr⟩
        · rw [show (10000 : Int32) = nI 10000 from rfl, pk_mul, l_cancel, nI_add, ← e]
        · rw [← e]
          show mn' = _
          rw [sm.2.2.2.2.2.2.2, em]
      · have ne : ¬ L' i = wish := by
          intro w
          rw [← hL] at w
          rcases Nat.lt_or_ge i p' with q | q
          · have := sm.1 i p' q hp
            omega
          · have := sm.1 p' i (by omega) hi
            omega
        rw [if_neg ne] at e
        have st := q_sim_step sm w1 h20 hi
        have hE2 := WF_sg w1 i hi (by omega)
        obtain ⟨u, hu, eu⟩ := (q_ok_of w1 hi).2.2
        obtain ⟨-, -, l, -, -, hl, -, -, el⟩ := b1.2 u hu
        have em2 : q_sg E' i 0 4 = E 0 4 + nI (m + l) := by
          rw [q_sg_m, em, eu, x_cl (by omega), el, Int32.add_assoc, nI_add]
        refine mo_L_sing (ok_L_sing 199 xa_199 xa_200 xa_201 xa_202 xa_203 xa_204 E' N (K + c) i u w1 lr hi eu hu) ?_
        intro N9 sg
        have lr2 : LR (q_sg E' i) (N9 199) (N9 200) (N9 201) (N9 202) := LR_sg (a := 199) lr hw1.1 hw1.2 hi eu hu sg
        have fr2 : l_fr M N9 := fun z hz => by rw [sg.2.2.2.2.2.2 z (by omega), fr z hz]
        have go : ∀ p2 v, p2 < q_w E' - 1 → q_Ls L' i p2 = wish → v = nI p2 → mi_L_next g 199 200 202 N9 (fun r12 N13 => ∃ k, k < q_w E' ∧ ∃ (E2 : xM) (L2 : Nat → Nat) (W2 y2 : Int32) (t2 : Nat → Int32) (mn2 : Int32) (p3 c2 m2 : Nat), k = q_w E2 ∧ q_sim E E2 L2 W2 y2 t2 mn2 ∧ WF (K + c2) E2 ∧ WB E2 ∧ c2 + q_w E2 ≤ 20 ∧ p3 < q_w E2 ∧ L2 p3 = wish ∧ q_rd E2 p3 = true ∧ LR E2 (N13 199) (N13 200) (N13 201) (N13 202) ∧ l_fr M N13 ∧ v = nI p3 ∧ nI c + 1 = nI c2 ∧ r12 = q_on (q_next E2) ∧ q_la E wish (20 - c2) W2 y2 t2 mn2 c2 = R ∧ m2 ≤ 9 * c2 ∧ E2 0 4 = E 0 4 + nI m2) := by
          rintro p2 v hp2 hL2 rfl
          have rd2 : q_rd (q_sg E' i) p2 = true := by
            rw [q_sim_rd st (by omega), hL2, ← hL, ← q_sim_rd sm hp]
            exact rd
          refine mo_L_next (ok_L_next 199 200 202 xa_199 xa_200 xa_202 _ (q_sg E' i) N9 (K + c + 1) hE2 (by omega) lr2) ?_
          rintro r N13 ⟨rfl, rfl⟩
          refine ⟨q_w E' - 1, by omega, q_sg E' i, _, _, _, _, _, p2, c + 1, m + l, ew.symm, st, hE2, WB_sg b1 i, by omega, by omega, hL2, rd2, lr2, fr2, rfl, nI_1 c, rfl, ?_, by omega, em2⟩
          have : 20 - (c + 1) = f := by omega
          rw [this]
          exact e
        have le : (nI p' ≤ q_on (some i)) ↔ p' ≤ i := x_le (by omega) (by omega)
        rw [le]
        refine ⟨fun v => v = if p' ≤ i then 0 else 1, ⟨fun z => by rw [if_pos z], fun z => by rw [if_neg z]⟩, ?_⟩
        rintro j11 rfl
        by_cases q : p' ≤ i
        · rw [if_pos q]
          refine go p' _ (by omega) ?_ (Int32.sub_zero _)
          rw [q_Ls_lo (by omega)]
          exact hL
        · rw [if_neg q]
          refine go (p' - 1) _ (by omega) ?_ (x_pred (by omega))
          rw [q_Ls_hi (by omega), show p' - 1 + 1 = p' by omega]
          exact hL
