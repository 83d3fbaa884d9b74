/-! the history's constructor -/
theorem y_ndN : ∀ l : List Nat, l.Nodup → va_nd l = true
  | [], _ => rfl
  | a :: l, h => by
    rw [List.nodup_cons] at h
    show (decide (a ∉ l) && va_nd l) = true
    rw [y_ndN l h.2, decide_eq_true h.1]
    rfl
theorem y_ndR (n : Nat) : va_nd (List.range n) = true := y_ndN _ List.nodup_range
def rmi_X1 : Room := { frames := 3, cells := 121, slots := 1488, locals := 120 }
variable {x : xX} {g : xG} {Q : State → Prop}
theorem y_hist (hC : x_cx x g rmi_X1 cX1_init RX1 2 wsX1_init) (hY : y_new x g) (h0 qa i : Nat) (hi : i < 6) (X : va_W) (f : Nat → Option Nat) (ce sl : Nat) (hce : ce + 20 ≤ 121) (hsl : sl + 247 ≤ 1488)
    (kk : ∀ a : Nat → Nat, y_W x g 2 Q ((h0, .inr (1, [.ref qa, .int 0, .int 0])) :: (qa, .inl (x_k g 3, 6, .inr (.inr (.inr (.inr (va_up f i (some (a 0)))))))) :: (X ++ y_evl g a)) (ce + 1 + 19) (sl + 6 + 241) 15 [(1, .int (nI (i + 1))), (0, .ref h0)] []) :
    y_W x g 2 Q ((h0, .inr (1, [.ref qa, .int 0, .int 0])) :: (qa, .inl (x_k g 3, 6, .inr (.inr (.inr (.inr f))))) :: X) ce sl 15 [(1, .int (nI i)), (0, .ref h0)] [] := by
  refine y_iload_n (i := 1) (q := 0) hC dX1_init_15 rfl rfl ?_
  refine y_bipush (v := 6) hC dX1_init_16 (by decide) ?_
  refine y_icmp_ge (t := 40) hC dX1_init_18 (by decide) (fun h => ?_) (fun _ => ?_)
  · rw [show (6 : Int32) = nI 6 from rfl, x_le (by omega) (by omega)] at h
    exact absurd h (by omega)
  · refine y_aload_n (i := 0) (q := 1) hC dX1_init_21 rfl rfl ?_
    refine y_get (q0 := 0) (ci := 1) (k := 0) (q := (RX1, TX1, 3)) hC rfl rfl (by decide +kernel) rfl dX1_init_22 ?_
    refine y_iload_n (i := 1) (q := 0) hC dX1_init_25 rfl rfl ?_
    refine y_newO (ci := 0) (fs := [.null, .null, .null, .null, .int 0, .int 0]) hC hY rfl (by decide +kernel) tyX0 tyX0_ok (by decide +kernel) (by decide +kernel) (by decide +kernel) (fun j hj => by rcases (show j = 0 ∨ j = 1 ∨ j = 2 ∨ j = 3 ∨ j = 4 ∨ j = 5 by omega) with rfl | rfl | rfl | rfl | rfl | rfl <;> rfl) (by show _ ≤ 121; omega) (by show _ ≤ 1488; omega) dX1_init_26 (fun v => ?_)
    refine y_dup hC dX1_init_29 rfl ?_
    refine y_callN (host := RX9) hC hY (ci_X0 _) gX1_init_X0_init_n17 rfl rfl rfl (by decide +kernel) (by decide +kernel) (by decide +kernel) rfl ⟨by decide, by decide, by decide +kernel⟩ ⟨Nat.le_of_ble_eq_true rfl, Nat.le_of_ble_eq_true rfl⟩ ⟨by show _ ≤ 121; omega, by show _ ≤ 1488; omega⟩ (Nat.le_of_ble_eq_true rfl) rfl (y_ndR _) dX1_init_30 (fun u hu => ?_)
    obtain ⟨a, rfl, rfl⟩ := hu
    refine y_astq (q0 := 1) (qk := 2 + X.length) (N := 6) (f := f) (vs := [.ref (a 1), .ref (a 6), .ref (a 11), .ref (a 15), .int 0, .int 0]) hC rfl ?_ (x_vi hi (by omega)) dX1_init_33 ?_
    · show ((h0, _) :: (qa, _) :: (X ++ y_evl _ a))[2 + X.length]? = _
      rw [show 2 + X.length = X.length + 1 + 1 by omega, List.getElem?_cons_succ, List.getElem?_cons_succ, List.getElem?_append_right (Nat.le_refl _), Nat.sub_self]
      rfl
    · rw [x_cl (by omega)]
      refine y_iinc (k := 0) (v' := nI (i + 1)) (ls' := [(1, .int (nI (i + 1))), (0, .ref h0)]) hC dX1_init_34 rfl (nI_1 i) (by decide) rfl ?_
      refine y_goto (t := 15) hC dX1_init_37 (by decide) ?_
      exact kk a
def y_hf (a : Nat → Nat → Nat) (m : Nat) : Nat → Option Nat := match m with
  | 0 => fun _ => none
  | m + 1 => va_up (y_hf a m) m (some (a m 0))
def wd_X1 (g : xG) : Nat → va_W → Prop := fun h0 u => ∃ (qa : Nat) (a0 a1 a2 a3 a4 a5 : Nat → Nat), u = (h0, .inr (1, [.ref qa, .int 0, .int 0])) :: (qa, .inl (x_k g 3, 6, .inr (.inr (.inr (.inr (va_up (va_up (va_up (va_up (va_up (va_up (fun _ => none) 0 (some (a0 0))) 1 (some (a1 0))) 2 (some (a2 0))) 3 (some (a3 0))) 4 (some (a4 0))) 5 (some (a5 0)))))))) :: (((((([] ++ y_evl g a0) ++ y_evl g a1) ++ y_evl g a2) ++ y_evl g a3) ++ y_evl g a4) ++ y_evl g a5)
theorem ci_X1 (g : xG) : y_MV g yX1_init wsX1_init rmi_X1 1 [.null, .int 0, .int 0] 121 1488 (wd_X1 g) := by
  refine y_start (cc := cX1_init) (n := 2) (own := RX1) (by decide) rfl rfl rfl (by decide) (fun h0 sz x hC hr hY hM => ?_)
  refine y_aload_n (i := 0) (q := 0) hC dX1_init_0 rfl rfl ?_
  refine y_objInit hC (List.mem_of_getElem? (i := 1) rfl) (List.mem_of_getElem? (i := 2) rfl) (List.mem_of_getElem? (i := 3) rfl) (by decide) (by decide) dX1_init_1 ?_
  refine y_aload_n (i := 0) (q := 0) hC dX1_init_4 rfl rfl ?_
  refine y_bipush (v := 6) hC dX1_init_5 (by decide) ?_
  refine y_anew (N := 6) hC hY (by decide +kernel) rfl (by decide) (Nat.le_of_ble_eq_true rfl) (Nat.le_of_ble_eq_true rfl) dX1_init_7 (fun qa => ?_)
  refine y_putF (q0 := 0) (ci := 1) (k := 0) (q := (RX1, TX1, 3)) hC hM rfl rfl (by decide +kernel) rfl rfl rfl rfl rfl (Nat.le_of_ble_eq_true rfl) dX1_init_10 ?_
  refine y_iconst (v := 0) hC dX1_init_13 (by decide) ?_
  refine y_istore_n (i := 1) (ls' := [(1, .int (nI 0)), (0, .ref h0)]) hC dX1_init_14 rfl (by decide) rfl ?_
  refine y_hist hC hY h0 qa 0 (by omega) [] (fun _ => none) _ _ (Nat.le_of_ble_eq_true rfl) (Nat.le_of_ble_eq_true rfl) (fun a0 => ?_)
  refine y_hist hC hY h0 qa 1 (by omega) _ _ _ _ (Nat.le_of_ble_eq_true rfl) (Nat.le_of_ble_eq_true rfl) (fun a1 => ?_)
  refine y_hist hC hY h0 qa 2 (by omega) _ _ _ _ (Nat.le_of_ble_eq_true rfl) (Nat.le_of_ble_eq_true rfl) (fun a2 => ?_)
  refine y_hist hC hY h0 qa 3 (by omega) _ _ _ _ (Nat.le_of_ble_eq_true rfl) (Nat.le_of_ble_eq_true rfl) (fun a3 => ?_)
  refine y_hist hC hY h0 qa 4 (by omega) _ _ _ _ (Nat.le_of_ble_eq_true rfl) (Nat.le_of_ble_eq_true rfl) (fun a4 => ?_)
  refine y_hist hC hY h0 qa 5 (by omega) _ _ _ _ (Nat.le_of_ble_eq_true rfl) (Nat.le_of_ble_eq_true rfl) (fun a5 => ?_)
  refine y_iload_n (i := 1) (q := 0) hC dX1_init_15 rfl rfl ?_
  refine y_bipush (v := 6) hC dX1_init_16 (by decide) ?_
  refine y_icmp_ge (t := 40) hC dX1_init_18 (by decide) (fun _ => ?_) (fun h => absurd (by decide) h)
  exact y_vret hC hr dX1_init_40 ⟨qa, a0, a1, a2, a3, a4, a5, rfl⟩
