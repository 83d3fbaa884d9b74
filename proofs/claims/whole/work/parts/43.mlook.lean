/-! the reference: when a wish has its turn -/
theorem ok_X10_singUpTo {g : xG} (B E M : xM) (K p wish : Nat) (L : Nat → Nat) (W y : Int32) (t : Nat → Int32) (mn : Int32) (hs : q_sim B E L W y t mn) (hE : WF K E) (hK : K + 20 < 1000000) (hB : q_w B ≤ 20) (hp : p < q_w E) (hL : L p = wish) (hr : q_rd E p = true) (h : RE E (M 194)) : mi_X10_singUpTo g (nI p) M (fun r N => r = nI (q_la B wish 20 W y t mn 0).1 ∧ N 194 4 = (q_la B wish 20 W y t mn 0).2 ∧ ∀ a, a ≠ 194 → N a = M a) := by
  have h20 := (WF_w hE).1
  generalize hR : q_la B wish 20 W y t mn 0 = R
  refine wk_X10_singUpTo _ M _ (fun k v2 v3 v4 N => ∃ (E' : xM) (L' : Nat → Nat) (W' y' : Int32) (t' : Nat → Int32) (mn' : Int32) (p' c : Nat), q_sim B E' L' W' y' t' mn' ∧ WF (K + c) E' ∧ c + q_w E' ≤ 20 ∧ p' < q_w E' ∧ L' p' = wish ∧ q_rd E' p' = true ∧ RE E' (N 194) ∧ (∀ a, a ≠ 194 → N a = M a) ∧ v2 = nI p' ∧ v3 = nI c ∧ v4 = q_on (q_next E') ∧ k = q_w E' ∧ q_la B wish (20 - c) W' y' t' mn' c = R) ?_ ?_
  · unfold vc_X10_singUpTo
    refine mo_X10_nextWish (ok_X10_nextWish E M K hE h) ?_
    rintro r N ⟨rfl, rfl⟩
    exact ⟨q_w E, E, L, W, y, t, mn, p, 0, hs, hE, by omega, hp, hL, hr, h, fun _ _ => rfl, rfl, rfl, rfl, rfl, hR⟩
  · rintro k v2 v3 v4 N ⟨E', L', W', y', t', mn', p', c, hs, hE, hc, hp, hL, hr, h, ho, rfl, rfl, rfl, rfl, e⟩
    unfold vc_X10_singUpTo_1
    have hnx := q_sim_next hs hE
    obtain ⟨f, hf⟩ : ∃ f, 20 - c = f + 1 := ⟨20 - c - 1, by omega⟩
    rw [hf] at e
    cases hq : q_next E' with
    | none =>
      exfalso
      unfold q_next q_nx at hq
      cases hq2 : q_fm (q_tf E' (E' 4)) (fun i => q_rd E' i && q_fr E' (E' 1 2) i) (q_w E') with
      | none =>
        rw [hq2] at hq
        have := q_fm_none.mp hq p' hp
        rw [hr] at this
        cases this
      | some j =>
        rw [hq2] at hq
        cases hq
    | some i =>
      have hi := (q_nx_lt hq).1
      have hw := WF_w hE
      have ew := q_sg_w hi hw.1 hw.2
      rw [hq, Option.map_some] at hnx
      have ee : q_la B wish (f + 1) W' y' t' mn' c = if L' i = wish then (c, mn') else q_la B wish f (q_no W' (L' i)) (q_ss B (L' i)) (q_at t' (q_ss B (L' i))) (mn' + B 9 (B 14 (L' i)).toNatClampNeg) (c + 1) := by
        rw [q_la, hnx]
      rw [ee] at e
      have hsing : (q_on (some i) = nI p') ↔ i = p' := by
        show nI i = nI p' ↔ _
        exact x_eq (by omega) (by omega)
      rw [hsing]
      refine ⟨fun z => ?_, fun z => ?_⟩
      · subst z
        rw [if_pos hL] at e
        refine ⟨by rw [← e], ?_, ho⟩
        rw [h.1.2.2.2.2.1, ← hs.2.2.2.2.2.2.2, ← e]
      · have ne : ¬ L' i = wish := by
          intro w
          rw [← hL] at w
          rcases Nat.lt_or_ge i p' with q | q
          · have := hs.1 i p' q hp
            omega
          · have := hs.1 p' i (by omega) hi
            omega
        rw [if_neg ne] at e
        have st := q_sim_step hs hE hB hi
        have hE2 := WF_sg hE i hi (by omega)
        have le : (nI p' ≤ q_on (some i)) ↔ p' ≤ i := by
          show nI p' ≤ nI i ↔ _
          exact x_le (by omega) (by omega)
        refine mo_X10_singWish (ok_X10_singWish E' N (K + c) i hE hi h) ?_
        rintro N3 ⟨h3, ho3⟩
        rw [le]
        -- the place that is left of the wish
        have go : ∀ (p2 : Nat) (v : Int32), p2 < q_w E' - 1 → q_Ls L' i p2 = wish → v = nI p2 → ∃ k, k < q_w E' ∧ ∃ (E2 : xM) (L2 : Nat → Nat) (W2 y2 : Int32) (t2 : Nat → Int32) (mn2 : Int32) (p3 c2 : Nat), q_sim B E2 L2 W2 y2 t2 mn2 ∧ WF (K + c2) E2 ∧ c2 + q_w E2 ≤ 20 ∧ p3 < q_w E2 ∧ L2 p3 = wish ∧ q_rd E2 p3 = true ∧ RE E2 (N3 194) ∧ (∀ a, a ≠ 194 → N3 a = M a) ∧ v = nI p3 ∧ nI c + 1 = nI c2 ∧ q_on (q_next (q_sg E' i)) = q_on (q_next E2) ∧ k = q_w E2 ∧ q_la B wish (20 - c2) W2 y2 t2 mn2 c2 = R := by
          rintro p2 v hp2 hL2 rfl
          have rd : q_rd (q_sg E' i) p2 = true := by
            rw [q_sim_rd st (by omega), hL2, ← hL, ← q_sim_rd hs hp]
            exact hr
          refine ⟨q_w E' - 1, by omega, q_sg E' i, _, _, _, _, _, p2, c + 1, st, hE2, by omega, by omega, hL2, rd, h3, fun a ha => by rw [ho3 a ha, ho a ha], rfl, nI_1 c, rfl, ew.symm, ?_⟩
          have : 20 - (c + 1) = f := by omega
          rw [this]
          exact e
        refine ⟨fun q => ?_, fun q => ?_⟩
        · refine mo_X10_nextWish (ok_X10_nextWish _ N3 _ hE2 h3) ?_
          rintro r N3 ⟨rfl, rfl⟩
          refine go p' _ (by omega) ?_ ?_
          · rw [q_Ls_lo (by omega)]
            exact hL
          · exact Int32.sub_zero _
        · refine mo_X10_nextWish (ok_X10_nextWish _ N3 _ hE2 h3) ?_
          rintro r N3 ⟨rfl, rfl⟩
          refine go (p' - 1) _ (by omega) ?_ ?_
          · rw [q_Ls_hi (by omega)]
            rw [show p' - 1 + 1 = p' by omega]
            exact hL
          · exact x_pred (by omega)
theorem q_sim_0 (B : xM) (hB : q_w B ≤ 20) : q_sim B B (fun k => k) (q_wait B none) (B 1 2) (B 4) (B 0 4) := by
  refine ⟨fun i j h _ => h, fun i hi => ⟨hi, rfl, rfl, rfl⟩, rfl, fun _ => rfl, fun w hw => ?_, rfl, fun _ _ => rfl, rfl⟩
  show bt (q_om B (B 1 1 ^^^ -1) (q_w B)) w = true ↔ _
  rw [q_om_bt (by omega) (by omega), Bool.and_eq_true, decide_eq_true_eq]
  exact ⟨fun z => ⟨z.2, w, hw, rfl⟩, fun z => ⟨hw, z.1⟩⟩
theorem q_L1 (m k : Nat) : q_Ls (fun k => k) m k = if k < m then k else k + 1 := rfl
theorem q_sim_1 (B : xM) (hB : q_w B ≤ 20) (h11 : B 11 0 = nI (q_w B)) (m : Nat) (hm : m < q_w B) : q_sim B (q_rm B m) (q_Ls (fun k => k) m) (q_wait B (some m)) (B 1 2) (B 4) (B 0 4) := by
  have ew := q_rm_w hm hB h11
  have row : ∀ a k, a ≠ 11 → a ≠ 12 → a ≠ 13 → a ≠ 14 → q_rm B m a k = B a k := by
    intro a k h1 h2 h3 h4
    unfold q_rm
    rw [if_neg (by omega), if_neg (by omega)]
  refine ⟨fun i j h hj => ?_, fun i hi => ?_, row 1 1 (by decide) (by decide) (by decide) (by decide), fun k => row 9 k (by decide) (by decide) (by decide) (by decide), fun w hw => ?_, (row 1 2 (by decide) (by decide) (by decide) (by decide)).symm, fun k _ => (row 4 k (by decide) (by decide) (by decide) (by decide)).symm, (row 0 4 (by decide) (by decide) (by decide) (by decide)).symm⟩
  · rw [q_L1, q_L1]
    split <;> split <;> omega
  · rw [ew] at hi
    rw [q_rm_row (by omega), q_rm_row (by omega), q_rm_row (by omega)]
    by_cases q : i < m
    · rw [q_Ls_lo q, if_neg (by omega), if_neg (by omega), if_neg (by omega)]
      exact ⟨by omega, rfl, rfl, rfl⟩
    · rw [q_Ls_hi (show m ≤ i by omega), if_pos (by omega), if_pos (by omega), if_pos (by omega)]
      exact ⟨by omega, rfl, rfl, rfl⟩
  · show bt (q_no (q_om B (B 1 1 ^^^ -1) (q_w B)) m) w = true ↔ _
    have hrd : (q_ss B w &&& (B 1 1 ^^^ -1) = 0) ↔ q_rd B w = true := by
      unfold q_rd
      rw [decide_eq_true_eq]
    rw [q_no_bt (by omega) (by omega), q_om_bt (by omega) (by omega), ew]
    simp only [Bool.and_eq_true, decide_eq_true_eq]
    rw [hrd]
    constructor
    · rintro ⟨⟨-, z⟩, hne⟩
      refine ⟨z, ?_⟩
      by_cases q : w < m
      · exact ⟨w, by omega, by rw [q_L1, if_pos q]⟩
      · exact ⟨w - 1, by omega, by rw [q_L1, if_neg (by omega)]; omega⟩
    · rintro ⟨z, i, hi, hiw⟩
      refine ⟨⟨hw, z⟩, ?_⟩
      rw [q_L1] at hiw
      split at hiw <;> omega
theorem RE_cong {E : xM} {s s' : Nat → Int32} (h : RE E s) (hw : q_w E ≤ 20) (hp : q_p E ≤ 12) (e : ∀ k, k < 239 → s' k = s k) : RE E s' := by
  obtain ⟨⟨a0, a1, a2, a3, a4, a5, a6⟩, hs, hg, hv, hq⟩ := h
  refine ⟨⟨?_, ?_, ?_, ?_, ?_, ?_, ?_⟩, fun i hi => ?_, fun i hi => ?_, fun i hi => ?_, fun i hi => ?_⟩
  · rw [e _ (by omega)]; exact a0
  · rw [e _ (by omega)]; exact a1
  · rw [e _ (by omega)]; exact a2
  · rw [e _ (by omega)]; exact a3
  · rw [e _ (by omega)]; exact a4
  · rw [e _ (by omega)]; exact a5
  · rw [e _ (by omega)]; exact a6
  · rw [e _ (by omega), e _ (by omega), e _ (by omega), e _ (by omega), e _ (by omega)]; exact hs i hi
  · rw [e _ (by omega), e _ (by omega), e _ (by omega), e _ (by omega)]; exact hg i hi
  · rw [e _ (by omega), e _ (by omega), e _ (by omega)]; exact hv i hi
  · rw [e _ (by omega), e _ (by omega), e _ (by omega), e _ (by omega)]; exact hq i hi
/-- what a wish's turn is: how many turns ahead, and the minute; one may be missing -/
def q_turn (B : xM) (wish : Nat) (miss : Option Nat) : Nat × Int32 := q_la B wish 20 (q_wait B miss) (B 1 2) (B 4) (B 0 4) 0
theorem ok_X10_beginWithout {g : xG} (B M : xM) (K wish : Nat) (miss : Option Nat) (hB : WF K B) (hK : K + 20 < 1000000) (hw : wish < q_w B) (hm : ∀ i, miss = some i → i < q_w B ∧ i ≠ wish) (hr : q_rd B wish = true) (h : RE B (M 194)) : mi_X10_beginWithout g (nI wish) (q_on miss) M (fun r N => r = (q_turn B wish miss).2 ∧ RE B (N 194) ∧ ∀ a, a ≠ 194 → a ≠ 195 → N a = M a) := by
  obtain ⟨h20, h11⟩ := WF_w hB
  have hp12 := (WF_p hB).1
  refine wk_X10_beginWithout _ _ M _ ?_
  unfold vc_X10_beginWithout
  refine mo_X10_moves (ok_X10_moves (na := 239) (nb := 239) 194 195 xa_194 xa_195 (by decide) 0 0 (by omega) (by omega) (by omega) (by omega) M) ?_
  rintro N1 ⟨k1, -, k3⟩
  have r1 : RE B (N1 194) := by rw [k3 194 (by decide)]; exact h
  have kept : ∀ k, k < 239 → N1 195 k = M 194 k := fun k hk => by
    have := k1 k hk
    rw [Nat.zero_add] at this
    exact this
  have v4 : vp_in (4 : Int32) 239 := v_k (n := 4) 239 (by omega) (by omega) rfl
  -- behind the run: the kept row comes back
  have back : ∀ (N3 : xM), N3 195 = N1 195 → (∀ a, a ≠ 194 → a ≠ 195 → N3 a = M a) → N3 194 4 = (q_turn B wish miss).2 → (vp_in (4 : Int32) 239 ∧ (mi_X10_moves g 195 (0 : Int32) 194 (0 : Int32) N3 (fun N4 => (N3 194 ((4 : Int32)).toNatClampNeg) = (q_turn B wish miss).2 ∧ RE B (N4 194) ∧ ∀ a, a ≠ 194 → a ≠ 195 → N4 a = M a))) := by
    intro N3 e195 ho3 e4
    refine ⟨v4, ?_⟩
    refine mo_X10_moves (ok_X10_moves (na := 239) (nb := 239) 195 194 xa_195 xa_194 (by decide) 0 0 (by omega) (by omega) (by omega) (by omega) N3) ?_
    rintro N4 ⟨l1, -, l3⟩
    refine ⟨e4, RE_cong h h20 hp12 (fun k hk => ?_), fun a a1 a2 => by rw [l3 a a1]; exact ho3 a a1 a2⟩
    have := l1 k hk
    rw [Nat.zero_add] at this
    rw [this, e195]
    exact kept k hk
  have lt5 : ∀ i, miss = some i → i < 5000 := fun i hi => by have := (hm i hi).1; omega
  rw [q_on_none lt5]
  refine ⟨fun q => ?_, fun q => ?_⟩
  · subst q
    refine mo_X10_singUpTo (ok_X10_singUpTo B B N1 K wish wish _ _ _ _ _ (q_sim_0 B h20) hB hK h20 hw rfl hr r1) ?_
    rintro r N3 ⟨-, e4, ho3⟩
    exact back N3 (ho3 195 (by decide)) (fun a a1 a2 => by rw [ho3 a a1, k3 a a2]) e4
  · cases miss with
    | none => exact absurd rfl q
    | some i =>
      obtain ⟨hi, hne⟩ := hm i rfl
      have ew := q_rm_w hi h20 h11
      have st := q_sim_1 B h20 h11 i hi
      refine mo_X10_remove (ok_X10_remove B N1 i h20 h11 hi r1) ?_
      rintro N5 ⟨h5, ho5⟩
      have le : (nI wish ≤ q_on (some i)) ↔ wish ≤ i := by
        show nI wish ≤ nI i ↔ _
        exact x_le (by omega) (by omega)
      rw [le]
      have go : ∀ (p : Nat) (v : Int32), p < q_w B - 1 → q_Ls (fun k => k) i p = wish → v = nI p → mi_X10_singUpTo g v N5 (fun r6 N7 => (vp_in (4 : Int32) 239 ∧ (mi_X10_moves g 195 (0 : Int32) 194 (0 : Int32) N7 (fun N8 => (N7 194 ((4 : Int32)).toNatClampNeg) = (q_turn B wish (some i)).2 ∧ RE B (N8 194) ∧ ∀ a, a ≠ 194 → a ≠ 195 → N8 a = M a)))) := by
        rintro p v hp hL rfl
        have rd : q_rd (q_rm B i) p = true := by
          rw [q_sim_rd st (by omega), hL]
          exact hr
        refine mo_X10_singUpTo (ok_X10_singUpTo B (q_rm B i) N5 K p wish _ _ _ _ _ st (WF_rm hB i hi) hK h20 (by omega) hL rd h5) ?_
        rintro r N3 ⟨-, e4, ho3⟩
        exact back N3 (by rw [ho3 195 (by decide), ho5 195 (by decide)]) (fun a a1 a2 => by rw [ho3 a a1, ho5 a a1, k3 a a2]) e4
      refine ⟨fun z => ?_, fun z => ?_⟩
      · exact go wish _ (by omega) (by rw [q_L1, if_pos (by omega)]) (Int32.sub_zero _)
      · refine go (wish - 1) _ (by omega) ?_ (x_pred (by omega))
        rw [q_L1, if_neg (by omega)]
        omega
