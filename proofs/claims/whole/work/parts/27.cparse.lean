/-! texts: a text of n characters tx; what a number, a wish, a row of wishes is -/
def q_dg (tx : Nat → Nat) (n a : Nat) : Option Nat := if a < n ∧ 48 ≤ tx a ∧ tx a ≤ 57 then some (tx a - 48) else none
def q_nm (tx : Nat → Nat) (n most : Nat) : Nat → Nat → Nat → Nat × Nat
  | 0, v, a => (v, a)
  | f + 1, v, a => if v = 0 then (v, a) else match q_dg tx n a with
    | none => (v, a)
    | some d => if v * 10 + d ≤ most then q_nm tx n most f (v * 10 + d) (a + 1) else (v, a)
def q_nb (tx : Nat → Nat) (n most a : Nat) : Option (Nat × Nat) := match q_dg tx n a with
  | none => none
  | some d => some (q_nm tx n most 60 d (a + 1))
abbrev q_Wi : Type := Nat × Option Nat × Nat
def q_w2 (tx : Nat → Nat) (n f : Nat) (o : Option Nat) (a : Nat) : Nat ⊕ (q_Wi × Nat) := if a < n ∧ tx a = 58 then (match q_nb tx n 15 (a + 1) with
    | none => .inl (a + 1)
    | some q => .inr ((f, o, q.1), q.2)) else .inl a
def q_wi (tx : Nat → Nat) (n a : Nat) : Nat ⊕ (q_Wi × Nat) := match q_nb tx n 11 a with
  | none => .inl a
  | some q => if q.2 < n ∧ tx q.2 = 43 then (match q_nb tx n 11 (q.2 + 1) with
      | none => .inl (q.2 + 1)
      | some q2 => q_w2 tx n q.1 (some q2.1) q2.2) else q_w2 tx n q.1 none q.2
def q_pa (tx : Nat → Nat) (n : Nat) : Nat → Nat → Option Nat × List q_Wi
  | 0, a => (some a, [])
  | f + 1, a => match q_wi tx n a with
    | .inl p => (some p, [])
    | .inr q => if q.2 = n then (none, [q.1]) else if q.2 < n ∧ tx q.2 = 59 then ((q_pa tx n f (q.2 + 1)).1, q.1 :: (q_pa tx n f (q.2 + 1)).2) else (some q.2, [q.1])
theorem q_dg_lt {tx : Nat → Nat} {n a d : Nat} (h : q_dg tx n a = some d) : a < n ∧ d ≤ 9 := by
  unfold q_dg at h
  split at h
  · cases h
    omega
  · cases h
theorem q_nm_in {tx : Nat → Nat} {n most : Nat} : ∀ {f v a : Nat}, v ≤ most → a ≤ n → (q_nm tx n most f v a).1 ≤ most ∧ a ≤ (q_nm tx n most f v a).2 ∧ (q_nm tx n most f v a).2 ≤ n
  | 0, v, a, hv, ha => ⟨hv, Nat.le_refl _, ha⟩
  | f + 1, v, a, hv, ha => by
    unfold q_nm
    split
    · exact ⟨hv, Nat.le_refl _, ha⟩
    · cases hd : q_dg tx n a with
      | none => exact ⟨hv, Nat.le_refl _, ha⟩
      | some d =>
        simp only
        split
        · rename_i h
          have hl := q_dg_lt hd
          have ih := q_nm_in (tx := tx) (n := n) (most := most) (f := f) h (show a + 1 ≤ n by omega)
          exact ⟨ih.1, by omega, ih.2.2⟩
        · exact ⟨hv, Nat.le_refl _, ha⟩
theorem q_nb_in {tx : Nat → Nat} {n most a v b : Nat} (hm : 9 ≤ most) (h : q_nb tx n most a = some (v, b)) : v ≤ most ∧ a < b ∧ b ≤ n := by
  unfold q_nb at h
  cases hd : q_dg tx n a with
  | none => rw [hd] at h; cases h
  | some d =>
    rw [hd] at h
    have hl := q_dg_lt hd
    have := q_nm_in (tx := tx) (n := n) (most := most) (f := 60) (v := d) (a := a + 1) (by omega) (by omega)
    rw [Option.some.inj h] at this
    exact ⟨this.1, by omega, this.2.2⟩
/-- the pad holds the text -/
def q_pd (M : xM) (tx : Nat → Nat) (n : Nat) : Prop := M 185 1 = nI n ∧ n ≤ 60 ∧ ∀ k, k < n → M 186 k = nI (tx k) ∧ 33 ≤ tx k ∧ tx k ≤ 126
theorem q_pd_row {M N : xM} {tx : Nat → Nat} {n : Nat} (h : q_pd M tx n) (h1 : N 185 = M 185) (h2 : N 186 = M 186) : q_pd N tx n := by
  unfold q_pd at h ⊢
  rw [h1, h2]
  exact h
theorem ok_X3_digitAt {g : xG} (M : xM) (tx : Nat → Nat) (n a : Nat) (h : q_pd M tx n) (ha : M 187 4 = nI a) (hn : a ≤ n) : mi_X3_digitAt g M (fun r N => r = q_on (q_dg tx n a) ∧ N = M) := by
  obtain ⟨h1, h2, h3⟩ := h
  refine wk_X3_digitAt M _ ?_
  unfold vc_X3_digitAt
  rw [h1, ha, x_le (by omega) (by omega), x_cl (by omega)]
  refine ⟨fun q => ?_, fun q => ?_⟩
  · have : q_dg tx n a = none := by
      unfold q_dg
      rw [if_neg (by omega)]
    rw [this]
    exact ⟨rfl, rfl⟩
  · obtain ⟨e, l1, l2⟩ := h3 a (by omega)
    have v : vp_in (nI a) 60 := x_vi (by omega) (by omega)
    refine ⟨v, ?_⟩
    refine mo_X9_isBetween (ok_X9_isBetween _ _ _ _) ?_
    rintro r M ⟨rfl, rfl⟩
    rw [ha, x_cl (by omega), e]
    have eq : ((48 : Int32) ≤ nI (tx a) ∧ nI (tx a) ≤ (57 : Int32)) ↔ (48 ≤ tx a ∧ tx a ≤ 57) := by
      rw [show (48 : Int32) = nI 48 from rfl, show (57 : Int32) = nI 57 from rfl, x_le (by omega) (by omega), x_le (by omega) (by omega)]
    rw [x_b_iff eq]
    refine ⟨fun z => ⟨v, ?_, rfl⟩, fun z => ⟨?_, rfl⟩⟩
    · have z := x_b_ne.mp z
      unfold q_dg
      rw [if_pos ⟨by omega, z⟩, show (48 : Int32) = nI 48 from rfl, pk_sub z.1]
      rfl
    · have z := x_b_eq.mp z
      unfold q_dg
      rw [if_neg (fun w => z w.2)]
      rfl
theorem x_up_up {M : xM} {a k : Nat} {u v : Int32} : x_up (x_up M a k u) a k v = x_up M a k v := by
  funext b j
  simp only [x_up]
  grind
theorem x_up_id {M : xM} {a k : Nat} {v : Int32} (h : M a k = v) : x_up M a k v = M := by
  funext b j
  simp only [x_up]
  grind
theorem ok_X3_readNumber {g : xG} (M : xM) (tx : Nat → Nat) (n a most : Nat) (hm : most ≤ 15) (hm9 : 9 ≤ most) (h : q_pd M tx n) (ha : M 187 4 = nI a) (hn : a ≤ n) : mi_X3_readNumber g (nI most) M (fun r N => (q_nb tx n most a = none ∧ r = -6 ∧ N = M) ∨ ∃ v b, q_nb tx n most a = some (v, b) ∧ r = nI v ∧ N = x_up M 187 4 (nI b)) := by
  have hn60 : n ≤ 60 := h.2.1
  refine wk_X3_readNumber _ M _ (fun k v2 v3 N => ∃ v b f, v ≤ most ∧ a < b ∧ b ≤ n ∧ k = n - b ∧ n - b ≤ f ∧ v2 = nI most ∧ v3 = nI v ∧ N = x_up M 187 4 (nI b) ∧ q_nb tx n most a = some (q_nm tx n most f v b)) ?_ ?_
  · unfold vc_X3_readNumber
    refine mo_X3_digitAt (ok_X3_digitAt M tx n a h ha hn) ?_
    rintro r M ⟨rfl, rfl⟩
    have lt : ∀ i, q_dg tx n a = some i → i < 5000 := fun i hi => by have := q_dg_lt hi; omega
    rw [q_on_none lt]
    refine ⟨fun z => ?_, fun z => Or.inl ⟨by unfold q_nb; rw [z], rfl, rfl⟩⟩
    cases hd : q_dg tx n a with
    | none => exact absurd hd z
    | some d =>
      have := q_dg_lt hd
      refine ⟨n - (a + 1), d, a + 1, 60, by omega, by omega, by omega, rfl, by omega, rfl, rfl, ?_, ?_⟩
      · rw [ha, nI_1]
      · unfold q_nb
        rw [hd]
  · rintro k v2 v3 N ⟨v, b, f, hv, hab, hb, rfl, hf, rfl, rfl, rfl, e⟩
    unfold vc_X3_readNumber_1
    have hp2 : q_pd (x_up M 187 4 (nI b)) tx n := q_pd_row h (x_up_other (by decide)) (x_up_other (by decide))
    have e4 : x_up M 187 4 (nI b) 187 4 = nI b := by simp [x_up]
    have done : ∀ f' : Nat, (q_nm tx n most f v b = (v, b)) → (q_nb tx n most a = none ∧ nI v = -6 ∧ x_up M 187 4 (nI b) = M) ∨ ∃ v' b', q_nb tx n most a = some (v', b') ∧ nI v = nI v' ∧ x_up M 187 4 (nI b) = x_up M 187 4 (nI b') := fun _ w => Or.inr ⟨v, b, by rw [e, w], rfl, rfl⟩
    refine ⟨fun z => ?_, fun z => ⟨fun q => ?_, fun q => ?_⟩⟩
    · rw [← nI_0, x_eq (by omega) (by omega)] at z
      refine done 0 ?_
      cases f with
      | zero => rfl
      | succ f => rw [q_nm, if_pos z]
    · rw [hp2.1, e4, x_le (by omega) (by omega)] at q
      refine done 0 ?_
      cases f with
      | zero => rfl
      | succ f =>
        have : q_dg tx n b = none := by
          unfold q_dg
          rw [if_neg (by omega)]
        unfold q_nm
        rw [this]
        split <;> rfl
    · rw [hp2.1, e4, x_le (by omega) (by omega)] at q
      obtain ⟨f, rfl⟩ : ∃ f', f = f' + 1 := ⟨f - 1, by omega⟩
      rw [← nI_0, x_eq (by omega) (by omega)] at z
      have es : q_nm tx n most (f + 1) v b = match q_dg tx n b with
          | none => (v, b)
          | some d => if v * 10 + d ≤ most then q_nm tx n most f (v * 10 + d) (b + 1) else (v, b) := by
        rw [q_nm, if_neg z]
      refine mo_X3_digitAt (ok_X3_digitAt _ tx n b hp2 e4 hb) ?_
      rintro r N ⟨rfl, rfl⟩
      have lt : ∀ i, q_dg tx n b = some i → i < 5000 := fun i hi => by have := q_dg_lt hi; omega
      rw [q_on_none lt]
      cases hd : q_dg tx n b with
      | none =>
        rw [hd] at es
        exact ⟨fun _ => done 0 es, fun w => absurd rfl w⟩
      | some d =>
        rw [hd] at es
        simp only at es
        have hd9 := q_dg_lt hd
        have ev : nI v * 10 + q_on (some d) = nI (v * 10 + d) := by
          show nI v * nI 10 + nI d = _
          rw [pk_mul, nI_add]
        rw [ev, x_le (by omega) (by omega)]
        refine ⟨fun w => (by cases w), fun _ => ⟨fun w => ?_, fun w => ?_⟩⟩
        · rw [if_pos w] at es
          refine ⟨n - (b + 1), by omega, v * 10 + d, b + 1, f, w, by omega, by omega, rfl, by omega, rfl, rfl, ?_, by rw [e, es]⟩
          rw [e4, nI_1, x_up_up]
        · rw [if_neg w] at es
          exact done 0 es
theorem ok_X3_readSign {g : xG} (M : xM) (tx : Nat → Nat) (n a c : Nat) (hc : c < 5000) (h : q_pd M tx n) (ha : M 187 4 = nI a) (hn : a ≤ n) : mi_X3_readSign g (nI c) M (fun r N => ((a < n ∧ tx a = c) ∧ r = 1 ∧ N = x_up M 187 4 (nI (a + 1))) ∨ (¬ (a < n ∧ tx a = c) ∧ r = 0 ∧ N = M)) := by
  obtain ⟨h1, h2, h3⟩ := h
  refine wk_X3_readSign _ M _ ?_
  unfold vc_X3_readSign
  rw [h1, ha, x_le (by omega) (by omega), x_cl (by omega), nI_1]
  refine ⟨fun q => Or.inr ⟨by omega, rfl, rfl⟩, fun q => ⟨x_vi (by omega) (by omega), ?_⟩⟩
  obtain ⟨e, l1, l2⟩ := h3 a (by omega)
  rw [e, x_eq (by omega) hc]
  exact ⟨fun z => Or.inl ⟨⟨by omega, z⟩, rfl, rfl⟩, fun z => Or.inr ⟨fun w => z w.2, rfl, rfl⟩⟩
/-- what a wish that was read leaves behind -/
def q_st1 (M N : xM) (z b : Nat) (w : q_Wi) : Prop := N 187 3 = nI (z + 1) ∧ N 187 4 = nI b ∧ N 188 z = nI w.1 ∧ N 189 z = q_on w.2.1 ∧ N 190 z = nI w.2.2 ∧ (∀ k, k ≠ z → N 188 k = M 188 k ∧ N 189 k = M 189 k ∧ N 190 k = M 190 k) ∧ ∀ c, c ≠ 187 → c ≠ 188 → c ≠ 189 → c ≠ 190 → N c = M c
def q_wok (w : q_Wi) : Prop := w.1 ≤ 11 ∧ (∀ o, w.2.1 = some o → o ≤ 11) ∧ w.2.2 ≤ 15
theorem ok_X3_readWish {g : xG} (M : xM) (tx : Nat → Nat) (n a z : Nat) (hz : z < 15) (h3 : M 187 3 = nI z) (h : q_pd M tx n) (ha : M 187 4 = nI a) (hn : a ≤ n) : mi_X3_readWish g M (fun r N => (∃ p, q_wi tx n a = .inl p ∧ r = 0 ∧ p ≤ n ∧ N = x_up M 187 4 (nI p)) ∨ ∃ w b, q_wi tx n a = .inr (w, b) ∧ q_wok w ∧ a + 3 ≤ b ∧ b ≤ n ∧ r = 1 ∧ q_st1 M N z b w) := by
  have pdu : ∀ b, q_pd (x_up M 187 4 (nI b)) tx n := fun b => q_pd_row h (x_up_other (by decide)) (x_up_other (by decide))
  have e4 : ∀ b, x_up M 187 4 (nI b) 187 4 = nI b := fun b => by simp [x_up]
  have vz : vp_in (nI z) 15 := x_vi hz (by omega)
  refine wk_X3_readWish M _ ?_
  unfold vc_X3_readWish
  -- what stands behind the singers
  have tail : ∀ (f : Nat) (o : Option Nat) (b : Nat), f ≤ 11 → (∀ i, o = some i → i ≤ 11) → a < b → b ≤ n → q_wi tx n a = q_w2 tx n f o b → ∀ r1 : Int32, r1 = nI f → ∀ r2 : Int32, r2 = q_on o → ∀ N4 : xM, N4 = x_up M 187 4 (nI b) → mi_X3_readSign g (58 : Int32) N4 (fun r5 N6 => ((¬ r5 = 0 → (mi_X3_readNumber g (15 : Int32) N6 (fun r7 N8 => ((¬ r7 = (-6 : Int32) → (vp_in (N8 187 3) 15 ∧ (vp_in ((x_up N8 188 ((N8 187 3)).toNatClampNeg r1) 187 3) 15 ∧ (∀ N9 : xM, N9 = (x_up (x_up N8 188 ((N8 187 3)).toNatClampNeg r1) 189 (((x_up N8 188 ((N8 187 3)).toNatClampNeg r1) 187 3)).toNatClampNeg r2) → (vp_in (N9 187 3) 15 ∧ (∀ N10 : xM, N10 = (x_up (x_up N9 190 ((N9 187 3)).toNatClampNeg r7) 187 3 (((x_up N9 190 ((N9 187 3)).toNatClampNeg r7) 187 3) + (1 : Int32))) → ((∃ p, q_wi tx n a = .inl p ∧ (1 : Int32) = 0 ∧ p ≤ n ∧ N10 = x_up M 187 4 (nI p)) ∨ ∃ w b, q_wi tx n a = .inr (w, b) ∧ q_wok w ∧ a + 3 ≤ b ∧ b ≤ n ∧ (1 : Int32) = 1 ∧ q_st1 M N10 z b w))))))) ∧ (r7 = (-6 : Int32) → ((∃ p, q_wi tx n a = .inl p ∧ (0 : Int32) = 0 ∧ p ≤ n ∧ N8 = x_up M 187 4 (nI p)) ∨ ∃ w b, q_wi tx n a = .inr (w, b) ∧ q_wok w ∧ a + 3 ≤ b ∧ b ≤ n ∧ (0 : Int32) = 1 ∧ q_st1 M N8 z b w)))))) ∧ (r5 = 0 → ((∃ p, q_wi tx n a = .inl p ∧ (0 : Int32) = 0 ∧ p ≤ n ∧ N6 = x_up M 187 4 (nI p)) ∨ ∃ w b, q_wi tx n a = .inr (w, b) ∧ q_wok w ∧ a + 3 ≤ b ∧ b ≤ n ∧ (0 : Int32) = 1 ∧ q_st1 M N6 z b w)))) := by
    rintro f o b hf ho hab hb ew r1 rfl r2 rfl N4 rfl
    refine mo_X3_readSign (ok_X3_readSign _ tx n b 58 (by omega) (pdu b) (e4 b) hb) ?_
    rintro r N (⟨hc, rfl, rfl⟩ | ⟨hc, rfl, rfl⟩)
    · refine ⟨fun _ => ?_, fun q => absurd q (by decide)⟩
      rw [x_up_up]
      refine mo_X3_readNumber (ok_X3_readNumber _ tx n (b + 1) 15 (by omega) (by omega) (pdu _) (e4 _) (by omega)) ?_
      rintro r N (⟨hd, rfl, rfl⟩ | ⟨v, b2, hd, rfl, rfl⟩)
      · refine ⟨fun q => absurd rfl q, fun _ => Or.inl ⟨b + 1, ?_, rfl, by omega, rfl⟩⟩
        rw [ew, q_w2, if_pos hc, hd]
      · have hin := q_nb_in (by omega) hd
        rw [x_up_up]
        refine ⟨fun _ => ?_, fun q => absurd q (x_nm6 (by omega))⟩
        have e3 : x_up M 187 4 (nI b2) 187 3 = nI z := by simp [x_up, h3]
        rw [e3, x_cl (by omega), x_up_other (M := x_up M 187 4 (nI b2)) (show 187 ≠ 188 by decide), e3, x_cl (by omega)]
        refine ⟨vz, vz, ?_⟩
        rintro N9 rfl
        have e39 : x_up (x_up (x_up M 187 4 (nI b2)) 188 z (nI f)) 189 z (q_on o) 187 3 = nI z := by
          rw [x_up_other (by decide), x_up_other (by decide), e3]
        rw [e39, x_cl (by omega)]
        refine ⟨vz, ?_⟩
        rintro N10 rfl
        refine Or.inr ⟨(f, o, v), b2, ?_, ⟨hf, ho, hin.1⟩, by omega, hin.2.2, rfl, ?_⟩
        · rw [ew, q_w2, if_pos hc, hd]
        · refine ⟨?_, ?_, ?_, ?_, ?_, ?_, ?_⟩
          · simp [x_up, h3, nI_1]
          · simp [x_up]
          · simp [x_up]
          · simp [x_up]
          · simp [x_up]
          · intro k hk
            simp [x_up, hk]
          · intro c c1 c2 c3 c4
            rw [x_up_other c1, x_up_other c4, x_up_other c3, x_up_other c2, x_up_other c1]
    · refine ⟨fun q => absurd rfl q, fun _ => Or.inl ⟨b, ?_, rfl, hb, rfl⟩⟩
      rw [ew, q_w2, if_neg hc]
  refine mo_X3_readNumber (ok_X3_readNumber M tx n a 11 (by omega) (by omega) h ha hn) ?_
  rintro r N (⟨hd, rfl, rfl⟩ | ⟨f, b, hd, rfl, rfl⟩)
  · refine ⟨fun q => absurd rfl q, fun _ => Or.inl ⟨a, ?_, rfl, hn, (x_up_id ha).symm⟩⟩
    rw [q_wi, hd]
  · have hin := q_nb_in (by omega) hd
    refine ⟨fun _ => ?_, fun q => absurd q (x_nm6 (by omega))⟩
    refine mo_X3_readSign (ok_X3_readSign _ tx n b 43 (by omega) (pdu b) (e4 b) hin.2.2) ?_
    rintro r N (⟨hc, rfl, rfl⟩ | ⟨hc, rfl, rfl⟩)
    · refine ⟨fun q => absurd q (by decide), fun _ => ?_⟩
      rw [x_up_up]
      refine mo_X3_readNumber (ok_X3_readNumber _ tx n (b + 1) 11 (by omega) (by omega) (pdu _) (e4 _) (by omega)) ?_
      rintro r N (⟨hd2, rfl, rfl⟩ | ⟨v, b2, hd2, rfl, rfl⟩)
      · refine ⟨fun q => absurd rfl q, fun _ => Or.inl ⟨b + 1, ?_, rfl, by omega, rfl⟩⟩
        rw [q_wi, hd]
        simp only
        rw [if_pos hc, hd2]
      · have hin2 := q_nb_in (by omega) hd2
        rw [x_up_up]
        refine ⟨fun _ => ?_, fun q => absurd q (x_nm6 (by omega))⟩
        refine tail f (some v) b2 hin.1 (fun i hi => by cases hi; exact hin2.1) (by omega) hin2.2.2 ?_ _ rfl _ rfl _ rfl
        rw [q_wi, hd]
        simp only
        rw [if_pos hc, hd2]
    · refine ⟨fun _ => ?_, fun q => absurd rfl q⟩
      refine tail f none b hin.1 (fun i hi => by cases hi) hin.2.1 hin.2.2 ?_ _ rfl _ rfl _ rfl
      rw [q_wi, hd]
      simp only
      rw [if_neg hc]
