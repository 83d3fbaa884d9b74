/-! the law's turn -/
def l_bit (x : Int32) (i : Nat) : Int32 := (x >>> (nI i &&& 31)) &&& 1
def SGb (M N : Nat → Int32) (s : Nat) (x len : Int32) : Prop := ∀ i, i < 12 → N (4 * i) = M (4 * i) ∧ N (4 * i + 1) = M (4 * i + 1) ∧ N (4 * i + 2) = (if i < s then M (4 * i + 2) + l_bit x i else M (4 * i + 2)) ∧ N (4 * i + 3) = (if i < s then M (4 * i + 3) + l_bit x i * len else M (4 * i + 3))
def SGp (M N : Nat → Int32) (v : Int32) : Prop := N 0 = v ∧ ∀ j, j < 11 → N (j + 1) = M j
def SGs (M N : Nat → Int32) (i : Nat) : Prop := ∀ j, N j = if i < j ∧ j ≤ 11 then M (j - 1) else M j
def SGd (M N : Nat → Int32) (k i : Nat) : Prop := ∀ j, N j = if k ≤ j ∧ j < i then M (j + 1) else M j
/-- what a turn does to the law's rows -/
def SG (a : Nat) (M N : xM) (k nw ns u : Nat) (x len v : Int32) : Prop := (∀ j, j < 8 → N a j = if j = 2 then M a 2 - 1 else if j = 4 then x else if j = 5 then M a 5 + len else if j = 6 then M a 6 + 1 else if j = 7 then (if (12 : Int32) ≤ M a 7 then 12 else M a 7 + 1) else M a j) ∧ SGb (M (a + 1)) (N (a + 1)) ns x len ∧ (∀ j, N (a + 2) j = if j = 4 * u + 3 then M (a + 2) j + 1 else M (a + 2) j) ∧ SGd (M (a + 3)) (N (a + 3)) k (nw - 1) ∧ SGp (M (a + 4)) (N (a + 4)) v ∧ SGp (M (a + 5)) (N (a + 5)) (M a 5) ∧ ∀ z, (z < a ∨ a + 5 < z) → N z = M z
theorem SGs_0 (M : Nat → Int32) : SGs M M 11 := fun j => by rw [if_neg (by omega)]
theorem SGs_s {M N N' : Nat → Int32} {i : Nat} (hi : i < 11) (h : SGs M N (i + 1)) (h1 : N' (i + 1) = N i) (h2 : ∀ j, j ≠ i + 1 → N' j = N j) : SGs M N' i := fun j => by
  by_cases e : j = i + 1
  · subst e
    rw [h1, h i, if_neg (by omega), if_pos (by omega)]
    rfl
  · rw [h2 j e, h j]
    by_cases q : i + 1 < j ∧ j ≤ 11
    · rw [if_pos q, if_pos (by omega)]
    · rw [if_neg q, if_neg (by omega)]
theorem SGs_e {M N N' : Nat → Int32} {v : Int32} (h : SGs M N 0) (h1 : N' 0 = v) (h2 : ∀ j, j ≠ 0 → N' j = N j) : SGp M N' v := ⟨h1, fun j hj => by rw [h2 _ (by omega), h (j + 1), if_pos (by omega)]; rfl⟩
theorem SGd_0 (M : Nat → Int32) (k : Nat) : SGd M M k k := fun j => by rw [if_neg (by omega)]
theorem SGd_s {M N N' : Nat → Int32} {k i : Nat} (hi : k ≤ i) (h : SGd M N k i) (h1 : N' i = N (i + 1)) (h2 : ∀ j, j ≠ i → N' j = N j) : SGd M N' k (i + 1) := fun j => by
  by_cases e : j = i
  · subst e
    rw [h1, h (j + 1), if_neg (by omega), if_pos (by omega)]
  · rw [h2 j e, h j]
    by_cases q : k ≤ j ∧ j < i
    · rw [if_pos q, if_pos (by omega)]
    · rw [if_neg q, if_neg (by omega)]
theorem SGb_0 (M : Nat → Int32) (x len : Int32) : SGb M M 0 x len := fun i hi => ⟨rfl, rfl, by rw [if_neg (by omega)], by rw [if_neg (by omega)]⟩
theorem SGb_s {M N N' : Nat → Int32} {s : Nat} {x len : Int32} (hs : s < 12) (h : SGb M N s x len) (h1 : N' (4 * s + 2) = N (4 * s + 2) + l_bit x s) (h2 : N' (4 * s + 3) = N (4 * s + 3) + l_bit x s * len) (h3 : ∀ j, j ≠ 4 * s + 2 → j ≠ 4 * s + 3 → N' j = N j) : SGb M N' (s + 1) x len := fun i hi => by
  obtain ⟨a, b, c, d⟩ := h i hi
  refine ⟨by rw [h3 _ (by omega) (by omega), a], by rw [h3 _ (by omega) (by omega), b], ?_, ?_⟩
  · by_cases e : i = s
    · subst e
      rw [h1, c, if_neg (by omega), if_pos (by omega)]
    · rw [h3 _ (by omega) (by omega), c]
      by_cases q : i < s
      · rw [if_pos q, if_pos (by omega)]
      · rw [if_neg q, if_neg (by omega)]
  · by_cases e : i = s
    · subst e
      rw [h2, d, if_neg (by omega), if_pos (by omega)]
    · rw [h3 _ (by omega) (by omega), d]
      by_cases q : i < s
      · rw [if_pos q, if_pos (by omega)]
      · rw [if_neg q, if_neg (by omega)]
theorem u_at {M : xM} {a k : Nat} {v : Int32} : x_up M a k v a k = v := by simp [x_up]
theorem u_ne {M : xM} {a k j : Nat} {v : Int32} (h : j ≠ k) : x_up M a k v a j = M a j := by simp [x_up, h]
theorem ok_L_sing {g : xG} (a : Nat) (ha : x_isA a 0 8) (hb : x_isA (a + 1) 0 48) (hc : x_isA (a + 2) 0 64) (hd : x_isA (a + 3) 0 20) (he : x_isA (a + 4) 0 12) (hf : x_isA (a + 5) 0 12) (E M : xM) (K k u : Nat) (hE : WF K E) (h : LR E (M a) (M (a + 1)) (M (a + 2)) (M (a + 3))) (hk : k < q_w E) (hu : E 14 k = nI u) (hu2 : u < 16) : mi_L_sing g (nI k) a (a + 1) (a + 2) (a + 3) (a + 4) (a + 5) M (fun N => SG a M N k (q_w E) (q_s E) u (q_ss E k) (E 9 u) (M (a + 3) k)) := by
  obtain ⟨⟨a0, -, a2, -, -, -, -⟩, -, hso, hw⟩ := h
  have h20 := WF_w hE
  have h12 := WF_s hE
  have hwk := hw k hk
  obtain ⟨aa, pp, cc, haa, hpp, hcc, -, -, es, ev⟩ := id hwk
  have ecu : cc = u := by
    rw [hu, x_eq (by omega) (by omega)] at es
    exact es.symm
  subst ecu
  have e9 := (hso cc hcc).2.2.1
  have v2 : vp_in (2 : Int32) 8 := l_v8 2 (by omega) rfl
  have v0 : vp_in (0 : Int32) 8 := l_v8 0 (by omega) rfl
  have v5 : vp_in (5 : Int32) 8 := l_v8 5 (by omega) rfl
  have v4 : vp_in (4 : Int32) 8 := l_v8 4 (by omega) rfl
  have v6 : vp_in (6 : Int32) 8 := l_v8 6 (by omega) rfl
  have v7 : vp_in (7 : Int32) 8 := l_v8 7 (by omega) rfl
  have w0 : vp_in (0 : Int32) 12 := x_vi (n := 0) (by omega) (by omega)
  have c3 : vp_in (nI (4 * cc + 3)) 64 := x_vi (by omega) (by omega)
  have c2 : vp_in (nI (4 * cc + 2)) 64 := x_vi (by omega) (by omega)
  refine wk_L_sing _ a (a + 1) (a + 2) (a + 3) (a + 4) (a + 5) ha hb hc hd he hf M _
    (fun n w0 w7 w8 w9 w10 N => ∃ i, i ≤ 11 ∧ n = 10000 + i ∧ w10 = nI i ∧ w0 = nI k ∧ w7 = M (a + 3) k ∧ w8 = nI cc ∧ w9 = q_ss E k ∧ SGs (M (a + 4)) (N (a + 4)) i ∧ SGs (M (a + 5)) (N (a + 5)) i ∧ ∀ z, z ≠ a + 4 → z ≠ a + 5 → N z = M z)
    (fun n w0 w8 w9 w10 N => ∃ s, s ≤ q_s E ∧ n = 1000 + (q_s E - s) ∧ w10 = nI s ∧ w0 = nI k ∧ w8 = nI cc ∧ w9 = q_ss E k ∧ (∀ j, N a j = if j = 7 then (if (12 : Int32) ≤ M a 7 then 12 else M a 7 + 1) else M a j) ∧ SGb (M (a + 1)) (N (a + 1)) s (q_ss E k) (E 9 cc) ∧ SGp (M (a + 4)) (N (a + 4)) (M (a + 3) k) ∧ SGp (M (a + 5)) (N (a + 5)) (M a 5) ∧ ∀ z, z ≠ a → z ≠ a + 1 → z ≠ a + 4 → z ≠ a + 5 → N z = M z)
    (fun n w10 N => ∃ i, k ≤ i ∧ i < q_w E ∧ n = q_w E - i ∧ w10 = nI i ∧ (∀ j, N a j = if j = 4 then q_ss E k else if j = 5 then M a 5 + E 9 cc else if j = 6 then M a 6 + 1 else if j = 7 then (if (12 : Int32) ≤ M a 7 then 12 else M a 7 + 1) else M a j) ∧ SGb (M (a + 1)) (N (a + 1)) (q_s E) (q_ss E k) (E 9 cc) ∧ (∀ j, N (a + 2) j = if j = 4 * cc + 3 then M (a + 2) j + 1 else M (a + 2) j) ∧ SGd (M (a + 3)) (N (a + 3)) k i ∧ SGp (M (a + 4)) (N (a + 4)) (M (a + 3) k) ∧ SGp (M (a + 5)) (N (a + 5)) (M a 5) ∧ ∀ z, (z < a ∨ a + 5 < z) → N z = M z) ?_ ?_ ?_ ?_
  · unfold vc_L_sing
    rw [x_cl (by omega)]
    refine ⟨x_vi (by omega) (by omega), ?_⟩
    refine mo_L_set (ok_L_set hwk M) ?_
    rintro r N ⟨rfl, rfl⟩
    rw [(l_w_d haa hpp hcc ev).2.2]
    exact ⟨10011, 11, by omega, by omega, rfl, rfl, rfl, rfl, rfl, SGs_0 _, SGs_0 _, fun _ _ _ => rfl⟩
  · rintro n x0 x7 x8 x9 x10 N ⟨i, hi, rfl, rfl, rfl, rfl, rfl, rfl, s1, s2, ho⟩
    unfold vc_L_sing_1
    rw [l_n0, l_n5, l_n7]
    refine ⟨fun q => ?_, fun q => ?_⟩
    · have i0 : i = 0 := by
        rw [← nI_0, x_le (by omega) (by omega)] at q
        omega
      subst i0
      have na : N a = M a := ho a (by omega) (by omega)
      refine ⟨w0, v5, w0, ?_⟩
      intro N3 h3
      have z : ∀ z, z ≠ a + 4 → z ≠ a + 5 → N3 z = M z := fun z h1 h2 => by rw [h3, x_up_other h2, x_up_other h1, ho z h1 h2]
      have p1 : SGp (M (a + 4)) (N3 (a + 4)) (M (a + 3) k) := SGs_e s1 (by rw [h3, x_up_other (by omega), u_at]) (fun j hj => by rw [h3, x_up_other (by omega), u_ne hj])
      have p2 : SGp (M (a + 5)) (N3 (a + 5)) (M a 5) := SGs_e s2 (by rw [h3, u_at, x_up_other (by omega), na]) (fun j hj => by rw [h3, u_ne hj, x_up_other (by omega)])
      have na3 : N3 a = M a := z a (by omega) (by omega)
      rw [na3]
      refine ⟨v7, fun v => v = (if (12 : Int32) ≤ M a 7 then 12 else M a 7 + 1), ⟨fun q => by rw [if_pos q], fun q => ⟨v7, by rw [if_neg q]⟩⟩, ?_⟩
      rintro j5 rfl
      refine ⟨v7, 1000 + (q_s E - 0), by omega, 0, by omega, rfl, rfl, rfl, rfl, rfl, fun j => ?_, ?_, ?_, ?_, fun z1 h1 h2 h4 h5 => by rw [x_up_other h1]; exact z z1 h4 h5⟩
      · by_cases e : j = 7
        · subst e
          rw [u_at, if_pos rfl]
        · rw [u_ne e, if_neg e, na3]
      · rw [x_up_other (by omega), z (a + 1) (by omega) (by omega)]
        exact SGb_0 _ _ _
      · rw [x_up_other (by omega)]
        exact p1
      · rw [x_up_other (by omega)]
        exact p2
    · have i0 : i ≠ 0 := fun e => q (by rw [e]; exact Int32.le_refl _)
      obtain ⟨m, rfl⟩ : ∃ m, i = m + 1 := ⟨i - 1, by omega⟩
      rw [nI_pred, x_cl (by omega), x_cl (by omega)]
      have va : vp_in (nI m) 12 := x_vi (by omega) (by omega)
      have vb : vp_in (nI (m + 1)) 12 := x_vi (by omega) (by omega)
      refine ⟨va, vb, va, vb, ?_⟩
      intro N6 h6
      refine ⟨10000 + m, by omega, m, by omega, rfl, pk_m1 m, rfl, rfl, rfl, rfl, SGs_s (by omega) s1 (by rw [h6, x_up_other (by omega), u_at]) (fun j hj => by rw [h6, x_up_other (by omega), u_ne hj]), SGs_s (by omega) s2 (by rw [h6, u_at, x_up_other (by omega)]) (fun j hj => by rw [h6, u_ne hj, x_up_other (by omega)]), fun z h1 h2 => by rw [h6, x_up_other h2, x_up_other h1, ho z h1 h2]⟩
  · rintro n x0 x8 x9 x10 N ⟨s, hs, rfl, rfl, rfl, rfl, rfl, ca, cb, ce, cf, ho⟩
    unfold vc_L_sing_2
    have nc : N (a + 2) = M (a + 2) := ho _ (by omega) (by omega) (by omega) (by omega)
    have nd : N (a + 3) = M (a + 3) := ho _ (by omega) (by omega) (by omega) (by omega)
    rw [l_n0, l_n4, l_n5, l_n6, l_43, l_42, l_42, l_43, ca 0, if_neg (by decide), a0, h12.2, x_le (by omega) (by omega), x_cl (show 4 * cc + 3 < 5000 by omega), x_cl (show 4 * cc + 2 < 5000 by omega), x_cl (show 4 * s + 2 < 5000 by omega), x_cl (show 4 * s + 3 < 5000 by omega)]
    refine ⟨v0, fun q => ?_, fun q => ?_⟩
    · have : s = q_s E := by omega
      subst this
      refine ⟨c3, c3, ?_⟩
      intro N7 h7
      refine ⟨v4, v5, c2, v5, ?_⟩
      intro N8 h8
      refine ⟨v6, v6, q_w E - k, by omega, k, Nat.le_refl _, hk, rfl, rfl, fun j => ?_, ?_, fun j => ?_, ?_, ?_, ?_, fun z hz => ?_⟩
      · have e7 : N7 a = N a := by rw [h7, x_up_other (by omega)]
        have e72 : N7 (a + 2) (4 * cc + 2) = E 9 cc := by rw [h7, u_ne (by omega), nc, e9]
        by_cases q6 : j = 6
        · subst q6
          rw [u_at, h8, u_ne (by decide), u_ne (by decide), e7, ca 6]
          simp
        · rw [u_ne q6, h8]
          by_cases q5 : j = 5
          · subst q5
            rw [u_at, u_ne (by decide), x_up_other (by omega), e72, e7, ca 5]
            simp
          · rw [u_ne q5]
            by_cases q4 : j = 4
            · subst q4
              rw [u_at]
              simp
            · rw [u_ne q4, e7, ca j, if_neg q4, if_neg q5, if_neg q6]
      · rw [x_up_other (by omega), h8, x_up_other (by omega), x_up_other (by omega), h7, x_up_other (by omega)]
        exact cb
      · rw [x_up_other (by omega), h8, x_up_other (by omega), x_up_other (by omega), h7]
        by_cases e : j = 4 * cc + 3
        · subst e
          rw [u_at, if_pos rfl, nc]
        · rw [u_ne e, if_neg e, nc]
      · rw [x_up_other (by omega), h8, x_up_other (by omega), x_up_other (by omega), h7, x_up_other (by omega), nd]
        exact SGd_0 _ _
      · rw [x_up_other (by omega), h8, x_up_other (by omega), x_up_other (by omega), h7, x_up_other (by omega)]
        exact ce
      · rw [x_up_other (by omega), h8, x_up_other (by omega), x_up_other (by omega), h7, x_up_other (by omega)]
        exact cf
      · rw [x_up_other (by omega), h8, x_up_other (by omega), x_up_other (by omega), h7, x_up_other (by omega)]
        exact ho z (by omega) (by omega) (by omega) (by omega)
    · have d2 : vp_in (nI (4 * s + 2)) 48 := x_vi (by omega) (by omega)
      have d3 : vp_in (nI (4 * s + 3)) 48 := x_vi (by omega) (by omega)
      refine ⟨d2, d2, ?_⟩
      intro N9 h9
      refine ⟨d3, c2, d3, ?_⟩
      intro N10 h10
      have e92 : N9 (a + 2) (4 * cc + 2) = E 9 cc := by rw [h9, x_up_other (by omega), nc, e9]
      have z : ∀ z, z ≠ a + 1 → N10 z = N z := fun z hz => by rw [h10, x_up_other hz, h9, x_up_other hz]
      refine ⟨1000 + (q_s E - (s + 1)), by omega, s + 1, by omega, rfl, nI_1 s, rfl, rfl, rfl, ?_, SGb_s (by omega) cb ?_ ?_ ?_, ?_, ?_, fun z1 h1 h2 h4 h5 => by rw [z z1 h2]; exact ho z1 h1 h2 h4 h5⟩
      · rw [z a (by omega)]
        exact ca
      · rw [h10, u_ne (by omega), h9, u_at]
        rfl
      · rw [h10, u_at, e92, h9, u_ne (by omega)]
        rfl
      · intro j h1 h2
        rw [h10, u_ne h2, h9, u_ne h1]
      · rw [z _ (by omega)]
        exact ce
      · rw [z _ (by omega)]
        exact cf
  · rintro n x10 N ⟨i, hi, hi2, rfl, rfl, ca, cb, cc', cd, ce, cf, ho⟩
    unfold vc_L_sing_3
    rw [l_n2, ca 2, if_neg (by decide), if_neg (by decide), if_neg (by decide), if_neg (by decide), a2, h20.2, nI_1, x_le (by omega) (by omega), x_cl (by omega), x_cl (by omega)]
    refine ⟨v2, fun q => ⟨v2, v2, ?_⟩, fun q => ⟨x_vi (by omega) (by omega), x_vi (by omega) (by omega), q_w E - (i + 1), by omega, i + 1, by omega, by omega, rfl, rfl, ?_, ?_, ?_, ?_, ?_, ?_, fun z hz => ?_⟩⟩
    · have : i = q_w E - 1 := by omega
      subst this
      refine ⟨fun j hj => ?_, ?_, ?_, ?_, ?_, ?_, fun z hz => ?_⟩
      · by_cases e : j = 2
        · subst e
          rw [u_at, if_pos rfl, a2, h20.2]
        · rw [u_ne e, if_neg e, ca j]
      · rw [x_up_other (by omega)]; exact cb
      · rw [x_up_other (by omega)]; exact cc'
      · rw [x_up_other (by omega)]; exact cd
      · rw [x_up_other (by omega)]; exact ce
      · rw [x_up_other (by omega)]; exact cf
      · rw [x_up_other (by omega)]; exact ho z hz
    · rw [x_up_other (by omega)]; exact ca
    · rw [x_up_other (by omega)]; exact cb
    · rw [x_up_other (by omega)]; exact cc'
    · exact SGd_s hi cd u_at (fun j hj => u_ne hj)
    · rw [x_up_other (by omega)]; exact ce
    · rw [x_up_other (by omega)]; exact cf
    · rw [x_up_other (by omega)]; exact ho z hz
