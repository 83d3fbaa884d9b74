/-! the law's evening, and its next wish -/
theorem l_n0 : ((0 : Int32)).toNatClampNeg = 0 := by decide
theorem l_n1 : ((1 : Int32)).toNatClampNeg = 1 := by decide
theorem l_n2 : ((2 : Int32)).toNatClampNeg = 2 := by decide
theorem l_n3 : ((3 : Int32)).toNatClampNeg = 3 := by decide
theorem l_n4 : ((4 : Int32)).toNatClampNeg = 4 := by decide
theorem l_n5 : ((5 : Int32)).toNatClampNeg = 5 := by decide
theorem l_n6 : ((6 : Int32)).toNatClampNeg = 6 := by decide
theorem l_n7 : ((7 : Int32)).toNatClampNeg = 7 := by decide
theorem l_v8 {v : Int32} (k : Nat) (hk : k < 8) (h : v = nI k) : vp_in v 8 := by rw [h]; exact x_vi hk (by omega)
/-- the law's rows hold the evening E -/
def LR (E : xM) (q si so wi : Nat → Int32) : Prop := (q 0 = E 1 0 ∧ q 1 = E 6 0 ∧ q 2 = E 11 0 ∧ q 3 = E 1 1 ∧ q 4 = E 1 2 ∧ q 5 = E 0 4 ∧ q 6 = E 0 5) ∧ (∀ i, i < 12 → si (4 * i) = E 2 i ∧ si (4 * i + 1) = E 3 i ∧ si (4 * i + 2) = E 4 i ∧ si (4 * i + 3) = E 5 i) ∧ (∀ u, u < 16 → so (4 * u) = E 7 u ∧ so (4 * u + 1) = E 8 u ∧ so (4 * u + 2) = E 9 u ∧ so (4 * u + 3) = E 10 u) ∧ ∀ w, w < q_w E → l_w (wi w) (E 12 w) (E 13 w) (E 14 w)
theorem LR_LT {E : xM} {q si so wi : Nat → Int32} (h : LR E q si so wi) : LT E si so := ⟨fun i hi => ⟨(h.2.1 i hi).1, (h.2.1 i hi).2.1⟩, fun u hu => ⟨(h.2.2.1 u hu).1, (h.2.2.1 u hu).2.1⟩⟩
/-- what a wish costs: the turns, and much if it isn't fresh -/
def l_c (E : xM) (w : Nat) : Int := (q_tf E (E 4) w).toInt + (if q_fr E (E 1 2) w = true then 0 else 10000)
theorem l_tf_b {K : Nat} {E : xM} (hE : WF K E) {w : Nat} (hw : w < q_w E) : 0 ≤ (q_tf E (E 4) w).toInt ∧ (q_tf E (E 4) w).toInt ≤ K := by
  have hs := (WF_s hE).1
  have t := hE.2.2.2.2.2.1
  obtain ⟨⟨f, f1, f2⟩, ho, -⟩ := hE.2.2.2.2.2.2 w hw
  have cf : (E 12 w).toNatClampNeg = f := by rw [f2, x_cl (by omega)]
  unfold q_tf
  rw [cf]
  rcases ho with ho | ⟨o, o1, o2⟩
  · rw [if_pos ho]
    exact t f (by omega)
  · have co : (E 13 w).toNatClampNeg = o := by rw [o2, x_cl (by omega)]
    rw [if_neg (by rw [o2]; exact x_nm6 (by omega)), co]
    split
    · exact t o (by omega)
    · exact t f (by omega)
theorem l_cost {t : Int32} {K : Nat} {b : Bool} (h0 : 0 ≤ t.toInt) (h1 : t.toInt ≤ K) (hK : K < 9000) : (t + (if b = true then (0 : Int32) else 10000)).toInt = t.toInt + (if b = true then 0 else 10000) := by
  obtain ⟨j, hj, rfl⟩ := nI_of (x := t) (by rw [Int32.lt_iff_toInt_lt]; have : (0 : Int32).toInt = 0 := rfl; omega)
  rw [nI_toInt hj] at h1 ⊢
  cases b with
  | true =>
    rw [if_pos rfl, if_pos rfl, Int32.add_zero, nI_toInt hj]
    omega
  | false =>
    rw [if_neg (by decide), if_neg (by decide), show (10000 : Int32) = nI 10000 from rfl, nI_add, nI_toInt (by omega)]
    omega
/-- the best of the wishes from i on -/
def l_best (E : xM) (i n : Nat) (o : Option Nat) : Prop := match o with
  | none => ∀ j, i ≤ j → j < n → q_rd E j = false
  | some b => i ≤ b ∧ b < n ∧ q_rd E b = true ∧ ∀ j, i ≤ j → j < n → q_rd E j = true → l_c E b ≤ l_c E j ∧ (j < b → l_c E b < l_c E j)
theorem l_best_no {E : xM} {m n : Nat} {o : Option Nat} (h : l_best E (m + 1) n o) (hr : q_rd E m = false) : l_best E m n o := by
  have st : ∀ j, m ≤ j → j = m ∨ m + 1 ≤ j := fun j hj => by omega
  cases o with
  | none =>
    intro j h1 h2
    rcases st j h1 with rfl | h3
    · exact hr
    · exact h j h3 h2
  | some b =>
    obtain ⟨a1, a2, a3, a4⟩ := h
    refine ⟨by omega, a2, a3, fun j h1 h2 h3 => ?_⟩
    rcases st j h1 with rfl | h4
    · rw [hr] at h3
      cases h3
    · exact a4 j h4 h2 h3
theorem l_best_new {E : xM} {m n : Nat} {o : Option Nat} (h : l_best E (m + 1) n o) (hm : m < n) (hr : q_rd E m = true) (hc : ∀ b, o = some b → l_c E m ≤ l_c E b) : l_best E m n (some m) := by
  refine ⟨Nat.le_refl _, hm, hr, fun j h1 h2 h3 => ⟨?_, fun q => absurd q (by omega)⟩⟩
  by_cases e : j = m
  · subst e
    exact Int.le_refl _
  · cases o with
    | none =>
      have := h j (by omega) h2
      rw [this] at h3
      cases h3
    | some b =>
      have := (h.2.2.2 j (by omega) h2 h3).1
      have := hc b rfl
      omega
theorem l_best_keep {E : xM} {m n b : Nat} (h : l_best E (m + 1) n (some b)) (hc : l_c E b < l_c E m) : l_best E m n (some b) := by
  obtain ⟨a1, a2, a3, a4⟩ := h
  refine ⟨by omega, a2, a3, fun j h1 h2 h3 => ?_⟩
  by_cases e : j = m
  · subst e
    exact ⟨Int.le_of_lt hc, fun _ => hc⟩
  · exact a4 j (by omega) h2 h3
theorem l_best_next {K : Nat} {E : xM} (hE : WF K E) (hK : K < 9000) {o : Option Nat} (h : l_best E 0 (q_w E) o) : o = q_next E := by
  unfold q_next q_nx
  cases o with
  | none =>
    have e1 : q_fm (q_tf E (E 4)) (fun i => q_rd E i && q_fr E (E 1 2) i) (q_w E) = none := q_fm_none.mpr (fun j hj => by rw [h j (Nat.zero_le _) hj]; rfl)
    rw [e1]
    exact (q_fm_none.mpr (fun j hj => h j (Nat.zero_le _) hj)).symm
  | some b =>
    obtain ⟨-, hb, pb, hm⟩ := h
    have tb := l_tf_b hE hb
    cases hq : q_fm (q_tf E (E 4)) (fun i => q_rd E i && q_fr E (E 1 2) i) (q_w E) with
    | some i =>
      have hi := q_fm_lt hq
      have mi := q_fm_min hq
      have p2 : q_rd E i = true ∧ q_fr E (E 1 2) i = true := by
        have := hi.2
        simpa using this
      have ti := l_tf_b hE hi.1
      have h1 := hm i (Nat.zero_le _) hi.1 p2.1
      have ci : l_c E i = (q_tf E (E 4) i).toInt := by
        unfold l_c
        rw [if_pos p2.2, Int.add_zero]
      have fb : q_fr E (E 1 2) b = true := by
        cases e : q_fr E (E 1 2) b with
        | true => rfl
        | false =>
          have : l_c E b = (q_tf E (E 4) b).toInt + 10000 := by
            unfold l_c
            rw [if_neg (by rw [e]; decide)]
          omega
      have cb : l_c E b = (q_tf E (E 4) b).toInt := by
        unfold l_c
        rw [if_pos fb, Int.add_zero]
      have h2 := mi b hb (by rw [pb, fb]; rfl)
      rw [Int32.le_iff_toInt_le, Int32.lt_iff_toInt_lt] at h2
      show some b = some i
      congr 1
      rw [ci, cb] at h1
      rcases Nat.lt_trichotomy b i with q | q | q
      · have := h2.2 q
        omega
      · exact q
      · have := h1.2 q
        omega
    | none =>
      have no := q_fm_none.mp hq
      have nf : ∀ j, j < q_w E → q_rd E j = true → l_c E j = (q_tf E (E 4) j).toInt + 10000 := fun j hj hr => by
        have := no j hj
        rw [hr] at this
        unfold l_c
        rw [if_neg (by intro z; rw [z] at this; cases this)]
      show some b = q_fm (q_tf E (E 4)) (q_rd E) (q_w E)
      cases hq2 : q_fm (q_tf E (E 4)) (q_rd E) (q_w E) with
      | none =>
        have := q_fm_none.mp hq2 b hb
        rw [pb] at this
        cases this
      | some i =>
        have hi := q_fm_lt hq2
        have h2 := q_fm_min hq2 b hb pb
        have h1 := hm i (Nat.zero_le _) hi.1 hi.2
        rw [nf i hi.1 hi.2, nf b hb pb] at h1
        rw [Int32.le_iff_toInt_le, Int32.lt_iff_toInt_lt] at h2
        congr 1
        rcases Nat.lt_trichotomy b i with q | q | q
        · have := h2.2 q
          omega
        · exact q
        · have := h1.2 q
          omega
theorem l_m1 (x : Int32) : x + (-1 : Int32) = x - 1 := (Int32.sub_eq_add_neg x 1).symm
theorem ok_L_next {g : xG} (a b c : Nat) (ha : x_isA a 0 8) (hb : x_isA b 0 48) (hc : x_isA c 0 20) (so : Nat → Int32) (E M : xM) (K : Nat) (hE : WF K E) (hK : K < 9000) (h : LR E (M a) (M b) so (M c)) : mi_L_next g a b c M (fun r N => r = q_on (q_next E) ∧ N = M) := by
  obtain ⟨⟨-, -, a2, a3, a4, -, -⟩, hT, -, hw⟩ := h
  have h20 := WF_w hE
  have v2 : vp_in (2 : Int32) 8 := l_v8 2 (by omega) rfl
  have v3 : vp_in (3 : Int32) 8 := l_v8 3 (by omega) rfl
  have v4 : vp_in (4 : Int32) 8 := l_v8 4 (by omega) rfl
  refine wk_L_next a b c ha hb hc M _ (fun k v3 v4 N => ∃ i o, i ≤ q_w E ∧ k = i ∧ v4 = nI i - 1 ∧ v3 = q_on o ∧ l_best E i (q_w E) o ∧ N = M) ?_ ?_
  · unfold vc_L_next
    rw [l_n2, a2, h20.2]
    exact ⟨v2, q_w E, q_w E, none, Nat.le_refl _, rfl, rfl, rfl, fun j h1 h2 => absurd h2 (by omega), rfl⟩
  · rintro k w3 w4 N ⟨i, o, hi, rfl, rfl, rfl, best, rfl⟩
    unfold vc_L_next_1
    cases k with
    | zero => exact ⟨fun _ => ⟨by rw [l_best_next hE hK best], rfl⟩, fun q => absurd l_neg0 q⟩
    | succ m =>
      have hm : m < q_w E := by omega
      have v20 : vp_in (nI m) 20 := x_vi (by omega) (by omega)
      have stp : ∀ o', l_best E m (q_w E) o' → ∃ k, k < m + 1 ∧ ∃ i o, i ≤ q_w E ∧ k = i ∧ nI m + (-1 : Int32) = nI i - 1 ∧ q_on o' = q_on o ∧ l_best E i (q_w E) o ∧ N = N := fun o' hb => ⟨m, by omega, m, o', by omega, rfl, l_m1 _, rfl, hb, rfl⟩
      rw [nI_pred, x_cl (by omega)]
      refine ⟨fun q => absurd q (x_neg (by omega)), fun _ => ⟨v20, ?_⟩⟩
      refine mo_L_set (ok_L_set (hw m hm) N) ?_
      rintro r N ⟨rfl, rfl⟩
      rw [l_n3, a3, l_n4]
      refine ⟨v3, fun q => ⟨v20, ?_⟩, fun q => stp o (l_best_no best ?_)⟩
      · have hr : q_rd E m = true := by
          unfold q_rd
          rw [decide_eq_true_eq]
          exact q
        refine mo_L_turns (ok_L_turns b hb (E 4) (hw m hm) N (fun i hi => (hT i hi).2.2.1)) ?_
        rintro r N ⟨rfl, rfl⟩
        refine ⟨v20, ?_⟩
        refine mo_L_set (ok_L_set (hw m hm) N) ?_
        rintro r N ⟨rfl, rfl⟩
        rw [a4]
        have tm := l_tf_b hE hm
        refine ⟨v4, fun v => v = if q_fr E (E 1 2) m = true then 0 else 10000, ⟨fun z => ?_, fun z => ?_⟩, ?_⟩
        · rw [if_neg]
          unfold q_fr
          rw [decide_eq_true_eq]
          exact z
        · rw [if_pos]
          unfold q_fr
          rw [decide_eq_true_eq]
          exact z
        · rintro j8 rfl
          have mine : (l_tf (E 4) (E 12 m) (E 13 m) + (if q_fr E (E 1 2) m = true then (0 : Int32) else 10000)).toInt = l_c E m := l_cost tm.1 tm.2 hK
          have cm : l_c E m ≤ K + 10000 := by
            unfold l_c
            split <;> omega
          cases o with
          | none =>
            refine ⟨fun v N' => v = 99999 ∧ N' = N, ⟨fun z => absurd z (by decide), fun _ => ⟨rfl, rfl⟩⟩, ?_⟩
            rintro j10 N' ⟨rfl, rfl⟩
            refine ⟨fun z => ?_, fun _ => stp (some m) (l_best_new best hm hr (fun b hb => by cases hb))⟩
            rw [Int32.lt_iff_toInt_lt, mine, show ((99999 : Int32)).toInt = 99999 from by decide] at z
            omega
          | some d =>
            have hd : d < q_w E := best.2.1
            have td := l_tf_b hE hd
            have w20 : vp_in (nI d) 20 := x_vi (by omega) (by omega)
            refine ⟨fun v N' => v.toInt = l_c E d ∧ N' = N, ⟨fun _ => ⟨w20, ?_⟩, fun z => absurd (nI_pos' (by omega)) z⟩, ?_⟩
            · show mi_L_turns g (N c (nI d).toNatClampNeg) b N _
              rw [x_cl (show d < 5000 by omega)]
              refine mo_L_turns (ok_L_turns b hb (E 4) (hw d hd) N (fun i hi => (hT i hi).2.2.1)) ?_
              rintro r N ⟨rfl, rfl⟩
              refine ⟨w20, ?_⟩
              show mi_L_set g (N c (nI d).toNatClampNeg) N _
              rw [x_cl (show d < 5000 by omega)]
              refine mo_L_set (ok_L_set (hw d hd) N) ?_
              rintro r N ⟨rfl, rfl⟩
              rw [a4]
              refine ⟨v4, fun v => v = if q_fr E (E 1 2) d = true then 0 else 10000, ⟨fun z => ?_, fun z => ?_⟩, ?_⟩
              · rw [if_neg]
                unfold q_fr
                rw [decide_eq_true_eq]
                exact z
              · rw [if_pos]
                unfold q_fr
                rw [decide_eq_true_eq]
                exact z
              · rintro j17 rfl
                exact ⟨l_cost td.1 td.2 hK, rfl⟩
            · rintro j10 N' ⟨hj, rfl⟩
              rw [Int32.lt_iff_toInt_lt, mine, hj]
              exact ⟨fun z => stp (some d) (l_best_keep best z), fun z => stp (some m) (l_best_new best hm hr (fun b hb => by cases hb; omega))⟩
      · unfold q_rd
        rw [decide_eq_false_iff_not]
        exact q
