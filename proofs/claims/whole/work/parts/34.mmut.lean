/-! the reference: what changes -/
theorem ok_X10_remove {g : xG} (E M : xM) (w : Nat) (hn : q_w E ≤ 20) (h11 : E 11 0 = nI (q_w E)) (hw : w < q_w E) (h : RE E (M 194)) : mi_X10_remove g (nI w) M (fun N => RE (q_rm E w) (N 194) ∧ ∀ a, a ≠ 194 → N a = M a) := by
  have h2 : M 194 2 = nI (q_w E) := by rw [h.1.2.2.1, h11]
  refine wk_X10_remove _ M _ (fun k v2 N => ∃ j, 131 + 3 * w ≤ j ∧ j ≤ 131 + 3 * (q_w E - 1) ∧ k = 239 - j ∧ v2 = nI j ∧ (∀ i, N 194 i = if 131 + 3 * w ≤ i ∧ i < j then M 194 (i + 3) else M 194 i) ∧ ∀ a, a ≠ 194 → N a = M a) ?_ ?_
  · unfold vc_X10_remove
    refine ⟨239 - (131 + 3 * w), 131 + 3 * w, by omega, by omega, rfl, ?_, fun i => ?_, fun a _ => rfl⟩
    · show nI 131 + nI 3 * nI w = _
      rw [pk_mul, nI_add]
    · rw [if_neg (by omega)]
  · rintro k v2 N ⟨j, hj, hj2, rfl, rfl, hr, ho⟩
    unfold vc_X10_remove_1
    have e2 : N 194 2 = nI (q_w E) := by rw [hr 2, if_neg (by omega), h2]
    have eb : (131 : Int32) + (3 : Int32) * (nI (q_w E) - 1) = nI (131 + 3 * (q_w E - 1)) := by
      rw [x_pred (by omega)]
      show nI 131 + nI 3 * nI _ = _
      rw [pk_mul, nI_add]
    have v2 : vp_in (2 : Int32) 239 := v_k (n := 2) 239 (by omega) (by omega) rfl
    have e3 : nI j + (3 : Int32) = nI (j + 3) := nI_add j 3
    rw [c_2, e2, eb, x_le (by omega) (by omega), e3, x_cl (by omega), x_cl (by omega), nI_1]
    refine ⟨v2, fun q => ⟨v2, v2, ?_, fun a ha => by rw [x_up_other ha, ho a ha]⟩, fun q => ⟨x_vi (by omega) (by omega), x_vi (by omega) (by omega), 239 - (j + 1), by omega, j + 1, by omega, by omega, rfl, rfl, fun i => ?_, fun a ha => by rw [x_up_other ha, ho a ha]⟩⟩
    · have hjj : j = 131 + 3 * (q_w E - 1) := by omega
      have := RE_rm h w hw hn h11
      have e : x_up N 194 2 (nI (q_w E) - 1) 194 = q_mr (M 194) w (q_w E) := by
        rw [x_up_same]
        funext i
        unfold upd q_mr
        rw [x_pred (by omega)]
        by_cases z : i = 2
        · rw [if_pos z, if_pos z]
        · rw [if_neg z, if_neg z, hr i, hjj]
      rw [e]
      exact this
    · rw [x_up_same]
      unfold upd
      by_cases z : i = j
      · subst z
        rw [if_pos rfl, if_pos (by omega), hr, if_neg (by omega)]
      · rw [if_neg z, hr i]
        by_cases z2 : 131 + 3 * w ≤ i ∧ i < j
        · rw [if_pos z2, if_pos (by omega)]
        · rw [if_neg z2, if_neg (by omega)]
theorem ok_X10_remember {g : xG} (E M : xM) (K w : Nat) (hE : WF K E) (hw : w < q_w E) (h : RE E (M 194)) : mi_X10_remember g (nI w) M (fun N => RE (q_re E (E 12 w) (E 13 w) (E 14 w) (E 0 4)) (N 194) ∧ ∀ a, a ≠ 194 → N a = M a) := by
  obtain ⟨hn, h11⟩ := WF_w hE
  obtain ⟨hp, h15⟩ := WF_p hE
  obtain ⟨w0, w1, w2⟩ := RE_w h hw
  have h6 : M 194 6 = nI (q_p E) := by rw [h.1.2.2.2.2.2.2, h15]
  have h4 : M 194 4 = E 0 4 := h.1.2.2.2.2.1
  refine wk_X10_remember _ M _ (fun k v1 v2 N => ∃ j, 194 ≤ j ∧ j ≤ 238 ∧ k = j ∧ v1 = nI w ∧ v2 = nI j ∧ (∀ i, N 194 i = if j < i ∧ i < 239 then M 194 (i - 4) else M 194 i) ∧ ∀ a, a ≠ 194 → N a = M a) ?_ ?_
  · unfold vc_X10_remember
    exact ⟨238, 238, by omega, by omega, rfl, rfl, rfl, fun i => by rw [if_neg (by omega)], fun a _ => rfl⟩
  · rintro k v1 v2 N ⟨j, hj, hj2, rfl, rfl, rfl, hr, ho⟩
    unfold vc_X10_remember_1
    rw [show (195 : Int32) = nI 195 from rfl, x_lt (by omega) (by omega)]
    refine ⟨fun q => ?_, fun q => ?_⟩
    · have hj4 : k = 194 := by omega
      subst hj4
      have lo : ∀ i, i < 195 → N 194 i = M 194 i := fun i hi => by rw [hr i, if_neg (by omega)]
      refine mo_X10_wishPart (ok_X10_wishPart w 0 (by omega) (by omega) _) ?_
      rintro r N ⟨rfl, rfl⟩
      refine ⟨v_k (n := 191) 239 (by omega) (by omega) rfl, ?_⟩
      have e1 : (191 : Int32).toNatClampNeg = 191 := rfl
      have e2 : (192 : Int32).toNatClampNeg = 192 := rfl
      have e3 : (193 : Int32).toNatClampNeg = 193 := rfl
      have e4 : (194 : Int32).toNatClampNeg = 194 := rfl
      rw [e1, lo _ (by omega), w0]
      refine mo_X10_wishPart (ok_X10_wishPart w 1 (by omega) (by omega) _) ?_
      rintro r N2 ⟨rfl, rfl⟩
      refine ⟨v_k (n := 192) 239 (by omega) (by omega) rfl, ?_⟩
      rw [e2]
      have u1 : x_up N 194 191 (E 12 w) 194 (131 + 3 * w + 1) = E 13 w := by
        rw [x_up_same, pk_un (by omega), lo _ (by omega), w1]
      rw [u1]
      refine mo_X10_wishPart (ok_X10_wishPart w 2 (by omega) (by omega) _) ?_
      rintro r N2 ⟨rfl, rfl⟩
      refine ⟨v_k (n := 193) 239 (by omega) (by omega) rfl, v_k (n := 4) 239 (by omega) (by omega) rfl, v_k (n := 194) 239 (by omega) (by omega) rfl, ?_⟩
      have u2 : x_up (x_up N 194 191 (E 12 w)) 194 192 (E 13 w) 194 (131 + 3 * w + 2) = E 14 w := by
        rw [x_up_same, pk_un (by omega), x_up_same, pk_un (by omega), lo _ (by omega), w2]
      rw [u2, e3, e4, c_4, c_6]
      intro N7 h7
      have n4 : x_up (x_up (x_up N 194 191 (E 12 w)) 194 192 (E 13 w)) 194 193 (E 14 w) 194 4 = E 0 4 := by
        rw [x_up_same, pk_un (by omega), x_up_same, pk_un (by omega), x_up_same, pk_un (by omega), lo _ (by omega), h4]
      rw [n4] at h7
      have n6 : N7 194 6 = nI (q_p E) := by
        rw [h7, x_up_same, pk_un (by omega), x_up_same, pk_un (by omega), x_up_same, pk_un (by omega), x_up_same, pk_un (by omega), lo _ (by omega), h6]
      have v6 : vp_in (6 : Int32) 239 := v_k (n := 6) 239 (by omega) (by omega) rfl
      have fin : ∀ v : Int32, v = nI (if q_p E < 12 then q_p E + 1 else 12) → RE (q_re E (E 12 w) (E 13 w) (E 14 w) (E 0 4)) (x_up N7 194 6 v 194) ∧ ∀ a, a ≠ 194 → x_up N7 194 6 v a = M a := by
        rintro v rfl
        refine ⟨?_, fun a ha => by rw [x_up_other ha, h7, x_up_other ha, x_up_other ha, x_up_other ha, x_up_other ha, ho a ha]⟩
        have := RE_re h (E 12 w) (E 13 w) (E 14 w) (E 0 4) hp hn
        have e : x_up N7 194 6 (nI (if q_p E < 12 then q_p E + 1 else 12)) 194 = q_mp (M 194) (E 12 w) (E 13 w) (E 14 w) (E 0 4) (q_p E) := by
          rw [h7, x_up_same, x_up_same, x_up_same, x_up_same, x_up_same]
          funext i
          unfold upd q_mp
          by_cases z : i = 6
          · rw [if_pos z, if_pos z]
          · rw [if_neg z, if_neg z]
            by_cases z1 : i = 194
            · subst z1
              rfl
            · rw [if_neg z1]
              by_cases z2 : i = 193
              · subst z2
                rfl
              · rw [if_neg z2]
                by_cases z3 : i = 192
                · subst z3
                  rfl
                · rw [if_neg z3]
                  by_cases z4 : i = 191
                  · subst z4
                    rfl
                  · rw [if_neg z4, if_neg z4, if_neg z3, if_neg z2, if_neg z1, hr i]
                    by_cases z5 : 194 < i ∧ i < 239
                    · rw [if_pos z5, if_pos (by omega)]
                    · rw [if_neg z5, if_neg (by omega)]
        rw [e]
        exact this
      rw [n6, show (12 : Int32) = nI 12 from rfl, x_le (by omega) (by omega), nI_1]
      refine ⟨v6, v6, fun z => ⟨v6, fin _ ?_⟩, fun z => ⟨v6, fin _ ?_⟩⟩
      · rw [Int32.add_zero, if_neg (by omega)]
        congr 1
        omega
      · rw [if_pos (by omega)]
    · have e4 : nI k - (4 : Int32) = nI (k - 4) := pk_sub (a := k) (b := 4) (by omega)
      have e1 : nI k + (-1 : Int32) = nI (k - 1) := by
        obtain ⟨m, rfl⟩ : ∃ m, k = m + 1 := ⟨k - 1, by omega⟩
        exact pk_m1 m
      rw [e4, e1, x_cl (by omega), x_cl (by omega)]
      refine ⟨x_vi (by omega) (by omega), x_vi (by omega) (by omega), k - 1, by omega, k - 1, by omega, by omega, rfl, rfl, rfl, fun i => ?_, fun a ha => by rw [x_up_other ha, ho a ha]⟩
      rw [x_up_same]
      unfold upd
      by_cases z : i = k
      · subst z
        rw [if_pos rfl, if_pos (by omega), hr, if_neg (by omega)]
      · rw [if_neg z, hr i]
        by_cases z2 : k < i ∧ i < 239
        · rw [if_pos z2, if_pos (by omega)]
        · rw [if_neg z2, if_neg (by omega)]
