/-! the reference: rows that are moved, states that are recorded, a wish that is made -/
theorem ok_X10_moves {g : xG} {na nb : Nat} (a b : Nat) (ha : x_isA a 0 na) (hb : x_isA b 0 nb) (hab : a ≠ b) (f t : Nat) (hf : f + 239 ≤ na) (ht : t + 239 ≤ nb) (hna : na < 5000) (hnb : nb < 5000) (M : xM) : mi_X10_moves g a (nI f) b (nI t) M (fun N => (∀ k, k < 239 → N b (t + k) = M a (f + k)) ∧ (∀ k, (k < t ∨ t + 239 ≤ k) → N b k = M b k) ∧ ∀ c, c ≠ b → N c = M c) := by
  refine wk_X10_moves a _ b _ ha hb M _ (fun k v1 v3 v4 N => ∃ i, i ≤ 239 ∧ k = 239 - i ∧ v1 = nI f ∧ v3 = nI t ∧ v4 = nI i ∧ (∀ k, k < i → N b (t + k) = M a (f + k)) ∧ (∀ k, (k < t ∨ t + i ≤ k) → N b k = M b k) ∧ ∀ c, c ≠ b → N c = M c) ?_ ?_
  · unfold vc_X10_moves
    exact ⟨239, 0, by omega, by omega, rfl, rfl, rfl, fun k hk => by omega, fun _ _ => rfl, fun _ _ => rfl⟩
  · rintro k v1 v3 v4 N ⟨i, hi, rfl, rfl, rfl, rfl, h1, h2, h3⟩
    unfold vc_X10_moves_1
    rw [show (239 : Int32) = nI 239 from rfl, x_le (by omega) (by omega), nI_add, nI_add, nI_1]
    refine ⟨fun q => ?_, fun q => ?_⟩
    · have : i = 239 := by omega
      subst this
      exact ⟨h1, h2, h3⟩
    · rw [x_cl (by omega), x_cl (by omega)]
      refine ⟨x_vi (by omega) (by omega), x_vi (by omega) (by omega), 239 - (i + 1), by omega, i + 1, by omega, rfl, rfl, rfl, rfl, fun k hk => ?_, fun k hk => ?_, fun c hc => by rw [x_up_other hc, h3 c hc]⟩
      · rw [x_up_same]
        unfold upd
        by_cases z : k = i
        · subst z
          rw [if_pos rfl, h3 a hab]
        · rw [if_neg (by omega)]
          exact h1 k (by omega)
      · rw [x_up_same, pk_un (by omega)]
        exact h2 k (by omega)
theorem ok_X10_record {g : xG} (M : xM) (n : Nat) (hn : n ≤ 6) (h : M 193 3 = nI n) : mi_X10_record g M (fun N => N 193 3 = nI (if n < 6 then n + 1 else 6) ∧ (∀ k, k < 239 → N 196 (239 * (if n < 6 then n else 5) + k) = M 194 k) ∧ (∀ i k, i < (if n < 6 then n else 5) → k < 239 → N 196 (239 * i + k) = M 196 (239 * (if n < 6 then i else i + 1) + k)) ∧ (∀ k, k ≠ 3 → N 193 k = M 193 k) ∧ ∀ c, c ≠ 193 → c ≠ 196 → N c = M c) := by
  have h6 : (6 : Int32) = nI 6 := rfl
  have mul : ∀ m, nI m * (239 : Int32) = nI (m * 239) := fun m => pk_mul m 239
  -- the state goes to its place m
  have fin : ∀ (m : Nat) (N0 : xM), m ≤ 5 → N0 193 3 = nI m → (∀ k, k ≠ 3 → N0 193 k = M 193 k) → (∀ c, c ≠ 193 → c ≠ 196 → N0 c = M c) → m = (if n < 6 then n else 5) → (∀ i k, i < m → k < 239 → N0 196 (239 * i + k) = M 196 (239 * (if n < 6 then i else i + 1) + k)) → ∀ v : Int32, v = nI (m * 239) → mi_X10_moves g 194 (0 : Int32) 196 v N0 (fun N1 => (fun N => N 193 3 = nI (if n < 6 then n + 1 else 6) ∧ (∀ k, k < 239 → N 196 (239 * (if n < 6 then n else 5) + k) = M 194 k) ∧ (∀ i k, i < (if n < 6 then n else 5) → k < 239 → N 196 (239 * i + k) = M 196 (239 * (if n < 6 then i else i + 1) + k)) ∧ (∀ k, k ≠ 3 → N 193 k = M 193 k) ∧ ∀ c, c ≠ 193 → c ≠ 196 → N c = M c) (x_up N1 193 3 (N1 193 3 + 1))) := by
    rintro m N0 hm e3 hk3 hc hmm hold v rfl
    refine mo_X10_moves (ok_X10_moves (na := 239) (nb := 1434) 194 196 xa_194 xa_196 (by decide) 0 (m * 239) (by omega) (by omega) (by omega) (by omega) N0) ?_
    rintro N1 ⟨g1, g2, g3⟩
    have e193 : N1 193 = N0 193 := g3 193 (by decide)
    rw [← hmm]
    refine ⟨?_, fun k hk => ?_, fun i k hi hk => ?_, fun k hk => ?_, fun c c1 c2 => ?_⟩
    · rw [x_up_same, e193, e3]
      show upd _ 3 (nI m + 1) 3 = _
      rw [pk_us, nI_1, hmm]
      split <;> rfl
    · rw [x_up_other (by decide)]
      have := g1 k hk
      rw [show 239 * m + k = m * 239 + k by omega, this, hc 194 (by decide) (by decide)]
      congr 1
      omega
    · rw [x_up_other (by decide), g2 _ (by omega)]
      exact hold i k hi hk
    · rw [x_up_same, pk_un hk, e193]
      exact hk3 k hk
    · rw [x_up_other c1, g3 c c2]
      exact hc c c1 c2
  refine wk_X10_record M _ (fun k v1 N => ∃ j, n = 6 ∧ j ≤ 1195 ∧ k = 1195 - j ∧ v1 = nI j ∧ (∀ k, N 196 k = if k < j then M 196 (k + 239) else M 196 k) ∧ ∀ c, c ≠ 196 → N c = M c) ?_ ?_
  · unfold vc_X10_record
    rw [h, h6, x_eq (by omega) (by omega)]
    refine ⟨fun q => ?_, fun q => ⟨1195, 0, q, by omega, by omega, rfl, fun k => by rw [if_neg (by omega)], fun _ _ => rfl⟩⟩
    exact fin n M (by omega) h (fun _ _ => rfl) (fun _ _ _ => rfl) (by rw [if_pos (by omega)]) (fun i k _ _ => by rw [if_pos (by omega)]) _ (mul n)
  · rintro k v1 N ⟨j, hn6, hj, rfl, rfl, hr, ho⟩
    subst hn6
    unfold vc_X10_record_1
    have e3 : N 193 3 = nI 6 := by rw [ho 193 (by decide), h]
    have eu : x_up N 193 3 (N 193 3 - 1) 193 3 = nI 5 := by
      rw [x_up_same, pk_us, e3]
      rfl
    rw [show (1195 : Int32) = nI 1195 from rfl, show (239 : Int32) = nI 239 from rfl, x_le (by omega) (by omega), eu, nI_add, nI_1, pk_mul]
    refine ⟨fun q => ?_, fun q => ⟨x_vi (by omega) (by omega), x_vi (by omega) (by omega), 1195 - (j + 1), by omega, j + 1, rfl, by omega, rfl, rfl, fun k => ?_, fun c hc => by rw [x_up_other hc, ho c hc]⟩⟩
    · have : j = 1195 := by omega
      subst this
      refine fin 5 _ (by omega) eu (fun k hk => by rw [x_up_same, pk_un hk, ho 193 (by decide)]) (fun c c1 c2 => by rw [x_up_other c1, ho c c2]) rfl (fun i k hi hk => ?_) _ rfl
      rw [x_up_other (by decide), hr, if_pos (by omega)]
      congr 1
      rw [if_neg (by omega)]
      omega
    · rw [x_up_same, x_cl (by omega), x_cl (by omega)]
      unfold upd
      by_cases z : k = j
      · subst z
        rw [if_pos rfl, if_pos (by omega), hr, if_neg (by omega)]
      · rw [if_neg z, hr k]
        by_cases z2 : k < j
        · rw [if_pos z2, if_pos (by omega)]
        · rw [if_neg z2, if_neg (by omega)]
theorem ok_X10_wished {g : xG} (E M : xM) (v1 v2 v3 : Int32) (hw : q_w E < 20) (h11 : E 11 0 = nI (q_w E)) (h : RE E (M 194)) : mi_X10_wished g v1 v2 v3 M (fun r N => r = nI (q_w E) ∧ RE (q_aw E (q_w E) v1 v2 v3) (N 194) ∧ ∀ a, a ≠ 194 → N a = M a) := by
  have h2 : M 194 2 = nI (q_w E) := by rw [h.1.2.2.1, h11]
  refine wk_X10_wished _ _ _ M _ ?_
  unfold vc_X10_wished
  have e0 : (131 : Int32) + (3 : Int32) * nI (q_w E) + (0 : Int32) = nI (131 + 3 * q_w E) := ix_w (q_w E) 0
  have e1 : (131 : Int32) + (3 : Int32) * nI (q_w E) + (1 : Int32) = nI (132 + 3 * q_w E) := by
    rw [show (1 : Int32) = nI 1 from rfl, ix_w]
    congr 1
    omega
  have e2 : (131 : Int32) + (3 : Int32) * nI (q_w E) + (2 : Int32) = nI (133 + 3 * q_w E) := by
    rw [show (2 : Int32) = nI 2 from rfl, ix_w]
    congr 1
    omega
  rw [c_2, h2, e0, e1, e2, x_cl (by omega), x_cl (by omega), x_cl (by omega)]
  have hv2 : vp_in (2 : Int32) 239 := v_k (n := 2) 239 (by omega) (by omega) rfl
  refine ⟨hv2, x_vi (by omega) (by omega), x_vi (by omega) (by omega), ?_⟩
  intro N1 h1
  refine ⟨x_vi (by omega) (by omega), hv2, hv2, ?_⟩
  intro N2 hN2
  refine ⟨rfl, ?_, fun a ha => by rw [hN2, x_up_other ha, x_up_other ha, h1, x_up_other ha, x_up_other ha]⟩
  have := RE_aw h v1 v2 v3 hw
  have e : N2 194 = upd (upd (upd (upd (M 194) (131 + 3 * q_w E) v1) (132 + 3 * q_w E) v2) (133 + 3 * q_w E) v3) 2 (nI (q_w E + 1)) := by
    rw [hN2, x_up_same, x_up_same, h1, x_up_same, x_up_same]
    congr 1
    rw [pk_un (show 2 ≠ 133 + 3 * q_w E by omega), pk_un (show 2 ≠ 132 + 3 * q_w E by omega), pk_un (show 2 ≠ 131 + 3 * q_w E by omega), h2, nI_1]
  rw [e]
  exact this
