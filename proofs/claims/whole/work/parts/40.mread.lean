/-! the reference: a wish is read; the fault -/
def q_rwP (tx : Nat → Nat) (n a : Nat) (M : xM) (r : Int32) (N : xM) : Prop := (∃ p, q_wi tx n a = .inl p ∧ r = 0 ∧ p ≤ n ∧ N 193 8 = nI p ∧ q_sc M N) ∨ ∃ w b, q_wi tx n a = .inr (w, b) ∧ q_wok w ∧ a + 3 ≤ b ∧ b ≤ n ∧ r = 1 ∧ N 193 8 = nI b ∧ N 193 9 = nI w.1 ∧ N 193 10 = q_on w.2.1 ∧ N 193 11 = nI w.2.2 ∧ q_sc M N
theorem q_on_nm1 {o : Option Nat} (h : ∀ i, o = some i → i < 5000) : ¬ q_on o = (-1 : Int32) := by
  cases o with
  | none => exact fun q => absurd q (by decide)
  | some i => exact x_nm1 (h i rfl)
theorem ok_X10_readsWish {g : xG} (M : xM) (tx : Nat → Nat) (n a : Nat) (h : q_pm M tx n) (ha : M 193 8 = nI a) (hn : a ≤ n) : mi_X10_readsWish g M (q_rwP tx n a M) := by
  have h60 := h.2.1
  refine wk_X10_readsWish M _ ?_
  unfold vc_X10_readsWish
  have k910 : (9 : Nat) ≠ 10 := by decide
  simp only [x_gs, x_gn k910]
  -- what stands behind the singers
  have tail : ∀ (f : Nat) (o : Option Nat) (b : Nat) (A : xM), f ≤ 11 → (∀ i, o = some i → i ≤ 11) → a < b → b ≤ n → q_wi tx n a = q_w2 tx n f o b → A 193 8 = nI b → A 193 9 = nI f → A 193 10 = q_on o → q_sc M A → mi_X10_isNext g (58 : Int32) A (fun r3 N4 => ((r3 = 0 → (((-1 : Int32) < 0 → q_rwP tx n a M (0 : Int32) (x_up N4 193 11 (-1 : Int32))) ∧ (¬ ((-1 : Int32) < 0) → q_rwP tx n a M (1 : Int32) (x_up N4 193 11 (-1 : Int32))))) ∧ (¬ (r3 = 0) → (mi_X10_takeNumber g (15 : Int32) N4 (fun r5 N6 => ((r5 < 0 → q_rwP tx n a M (0 : Int32) (x_up N6 193 11 r5)) ∧ (¬ (r5 < 0) → q_rwP tx n a M (1 : Int32) (x_up N6 193 11 r5)))))))) := by
    intro f o b A hf ho hab hb ew a8 a9 a10 hsc
    have pA := q_pm_sc h hsc
    refine mo_X10_isNext (ok_X10_isNext A tx n b 58 (by omega) pA a8 hb) ?_
    rintro r N (⟨hc, rfl, rfl⟩ | ⟨hc, rfl, rfl⟩)
    · refine ⟨fun q => absurd q (by decide), fun _ => ?_⟩
      have sc1 : q_sc M (x_up A 193 8 (nI (b + 1))) := q_sc_up hsc (Or.inl rfl) _
      refine mo_X10_takeNumber (ok_X10_takeNumber _ tx n (b + 1) 15 (by omega) (by omega) (q_pm_sc h sc1) x_gs (by omega)) ?_
      rintro r N (⟨hd, rfl, rfl⟩ | ⟨v, b2, hd, rfl, rfl⟩)
      · refine ⟨fun _ => Or.inl ⟨b + 1, ?_, rfl, by omega, ?_, q_sc_up sc1 (by omega) _⟩, fun q => absurd (by decide) q⟩
        · rw [ew, q_w2, if_pos hc, hd]
        · rw [x_gn (by decide), x_gs]
      · have hin := q_nb_in (by omega) hd
        refine ⟨fun q => absurd q (x_neg (by omega)), fun _ => Or.inr ⟨(f, o, v), b2, ?_, ⟨hf, ho, hin.1⟩, by omega, hin.2.2, rfl, ?_, ?_, ?_, ?_, q_sc_up (q_sc_up sc1 (by omega) _) (by omega) _⟩⟩
        · rw [ew, q_w2, if_pos hc, hd]
        · rw [x_gn (by decide), x_gs]
        · rw [x_gn (by decide), x_gn (by decide), x_gn (by decide), a9]
        · rw [x_gn (by decide), x_gn (by decide), x_gn (by decide), a10]
        · rw [x_gs]
    · refine ⟨fun _ => ⟨fun _ => Or.inl ⟨b, ?_, rfl, hb, ?_, q_sc_up hsc (by omega) _⟩, fun q => absurd (by decide) q⟩, fun q => absurd rfl q⟩
      · rw [ew, q_w2, if_neg hc]
      · rw [x_gn (by decide), a8]
  refine mo_X10_takeNumber (ok_X10_takeNumber M tx n a 11 (by omega) (by omega) h ha hn) ?_
  rintro r N (⟨hd, rfl, rfl⟩ | ⟨f, b, hd, rfl, rfl⟩)
  · refine ⟨fun _ => ⟨fun _ => Or.inl ⟨a, ?_, rfl, hn, ?_, q_sc_up (q_sc_up q_sc_rf (by omega) _) (by omega) _⟩, fun q => absurd (by decide) q⟩, fun q => absurd (by decide) q⟩
    · rw [q_wi, hd]
    · rw [x_gn (by decide), x_gn (by decide), ha]
  · have hin := q_nb_in (by omega) hd
    have sc0 : q_sc M (x_up (x_up M 193 8 (nI b)) 193 9 (nI f)) := q_sc_up (q_sc_up q_sc_rf (by omega) _) (by omega) _
    have b8 : x_up (x_up M 193 8 (nI b)) 193 9 (nI f) 193 8 = nI b := by rw [x_gn (by decide), x_gs]
    refine ⟨fun q => absurd q (x_neg (by omega)), fun _ => ?_⟩
    refine mo_X10_isNext (ok_X10_isNext _ tx n b 43 (by omega) (q_pm_sc h sc0) b8 hin.2.2) ?_
    rintro r N (⟨hc, rfl, rfl⟩ | ⟨hc, rfl, rfl⟩)
    · refine ⟨fun q => absurd q (by decide), fun _ => ?_⟩
      have sc1 : q_sc M (x_up (x_up (x_up M 193 8 (nI b)) 193 9 (nI f)) 193 8 (nI (b + 1))) := q_sc_up sc0 (by omega) _
      refine mo_X10_takeNumber (ok_X10_takeNumber _ tx n (b + 1) 11 (by omega) (by omega) (q_pm_sc h sc1) x_gs (by omega)) ?_
      rintro r N (⟨hd2, rfl, rfl⟩ | ⟨v, b2, hd2, rfl, rfl⟩)
      · have n9 : x_up (x_up (x_up M 193 8 (nI b)) 193 9 (nI f)) 193 8 (nI (b + 1)) 193 9 = nI f := by rw [x_gn (by decide), x_gs]
        rw [n9]
        refine ⟨fun q => absurd q (x_neg (by omega)), fun _ => ⟨fun q => absurd rfl q, fun _ => Or.inl ⟨b + 1, ?_, rfl, by omega, ?_, q_sc_up sc1 (by omega) _⟩⟩⟩
        · rw [q_wi, hd]
          simp only
          rw [if_pos hc, hd2]
        · rw [x_gn (by decide), x_gs]
      · have hin2 := q_nb_in (by omega) hd2
        have n9 : x_up (x_up (x_up (x_up M 193 8 (nI b)) 193 9 (nI f)) 193 8 (nI (b + 1))) 193 8 (nI b2) 193 9 = nI f := by rw [x_gn (by decide), x_gn (by decide), x_gs]
        rw [n9]
        refine ⟨fun q => absurd q (x_neg (by omega)), fun _ => ⟨fun _ => ?_, fun q => absurd q (x_nm1 (by omega))⟩⟩
        refine tail f (some v) b2 _ hin.1 (fun i hi => by cases hi; exact hin2.1) (by omega) hin2.2.2 ?_ ?_ ?_ ?_ (q_sc_up (q_sc_up sc1 (by omega) _) (by omega) _)
        · rw [q_wi, hd]
          simp only
          rw [if_pos hc, hd2]
        · rw [x_gn (by decide), x_gs]
        · rw [x_gn (by decide), n9]
        · rw [x_gs]
          rfl
    · have n9 : x_up (x_up M 193 8 (nI b)) 193 9 (nI f) 193 9 = nI f := x_gs
      rw [n9]
      refine ⟨fun _ => ⟨fun q => absurd q (x_neg (by omega)), fun _ => ⟨fun _ => ?_, fun q => absurd q (by decide)⟩⟩, fun q => absurd rfl q⟩
      refine tail f none b _ hin.1 (fun i hi => by cases hi) hin.2.1 hin.2.2 ?_ ?_ ?_ ?_ (q_sc_up sc0 (by omega) _)
      · rw [q_wi, hd]
        simp only
        rw [if_neg hc]
      · rw [x_gn (by decide), b8]
      · rw [x_gn (by decide), n9]
      · rw [x_gs]
        rfl
theorem q_wi_end {tx : Nat → Nat} {n a : Nat} (h : n ≤ a) : q_wi tx n a = .inl a := by
  have : q_nb tx n 11 a = none := by
    unfold q_nb q_dg
    rw [if_neg (by omega)]
  rw [q_wi, this]
theorem ok_X10_findFault {g : xG} (M : xM) (tx : Nat → Nat) (n : Nat) (h : q_pm M tx n) : mi_X10_findFault g M (fun r N => r = q_on (q_pa tx n 15 0).1 ∧ q_sc M N) := by
  have h60 := h.2.1
  refine wk_X10_findFault M _ (fun k N => ∃ z a, z ≤ 15 ∧ 4 * z ≤ a ∧ a ≤ n ∧ k = 100 - a ∧ N 193 8 = nI a ∧ q_sc M N ∧ (q_pa tx n 15 0).1 = (q_pa tx n (15 - z) a).1) ?_ ?_
  · unfold vc_X10_findFault
    exact ⟨100, 0, 0, by omega, by omega, by omega, rfl, x_gs, q_sc_up q_sc_rf (by omega) _, rfl⟩
  · rintro k N ⟨z, a, hz, hza, han, rfl, h8, hsc, e⟩
    unfold vc_X10_findFault_1
    refine mo_X10_readsWish (ok_X10_readsWish N tx n a (q_pm_sc h hsc) h8 han) ?_
    rintro r N2 (⟨p, hp, rfl, hpn, p8, psc⟩ | ⟨w, b, hw, hok, hab, hbn, rfl, b8, b9, b10, b11, bsc⟩)
    · refine ⟨fun q => absurd rfl q, fun _ => ⟨?_, q_sc_tr hsc psc⟩⟩
      rw [p8, e]
      have : (q_pa tx n (15 - z) a).1 = some p := by
        cases hf : 15 - z with
        | zero =>
          have : q_wi tx n a = .inl a := q_wi_end (by omega)
          rw [this] at hp
          cases hp
          rfl
        | succ f => rw [q_pa, hp]
      rw [this]
      rfl
    · refine ⟨fun _ => ?_, fun q => absurd q (by decide)⟩
      obtain ⟨f, hf⟩ : ∃ f, 15 - z = f + 1 := by
        cases hf : 15 - z with
        | zero => omega
        | succ f => exact ⟨f, rfl⟩
      rw [hf] at e
      have sc2 := q_sc_tr hsc bsc
      have pm2 := q_pm_sc h sc2
      rw [b8, pm2.1, x_eq (by omega) (by omega)]
      refine ⟨fun q => ?_, fun q => ⟨?_, sc2⟩⟩
      · refine mo_X10_isNext (ok_X10_isNext N2 tx n b 59 (by omega) pm2 b8 hbn) ?_
        rintro r N3 (⟨hc, rfl, rfl⟩ | ⟨hc, rfl, rfl⟩)
        · refine ⟨fun _ => ⟨100 - (b + 1), by omega, z + 1, b + 1, by omega, by omega, by omega, rfl, x_gs, q_sc_up sc2 (by omega) _, ?_⟩, fun q => absurd q (by decide)⟩
          rw [e, q_pa, hw]
          simp only
          rw [if_neg q, if_pos hc]
          have : 15 - (z + 1) = f := by omega
          rw [this]
        · refine ⟨fun q => absurd rfl q, fun _ => ⟨?_, sc2⟩⟩
          rw [e, q_pa, hw]
          simp only
          rw [if_neg q, if_neg hc, b8]
          rfl
      · rw [e, q_pa, hw]
        simp only
        rw [if_pos q]
        rfl
