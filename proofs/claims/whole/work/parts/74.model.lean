/-! the reference's constructor -/
def wd_X10 (g : xG) : Nat → va_W → Prop := fun h0 u => ∃ q1 q2 q3 q4 q5 q6 : Nat, u = [(h0, .inr (10, [.ref q1, .ref q2, .ref q3, .int 0, .ref q4, .ref q5, .ref q6, .int 0, .int 0, .int 0, .int 0, .int 0])), (q1, .inl (x_k g 0, 239, .inl (fun _ => 0))), (q2, .inl (x_k g 0, 239, .inl (fun _ => 0))), (q3, .inl (x_k g 0, 1434, .inl (fun _ => 0))), (q4, .inl (x_k g 0, 478, .inl (fun _ => 0))), (q5, .inl (x_k g 0, 2, .inl (fun _ => 0))), (q6, .inl (x_k g 0, 60, .inl (fun _ => 0)))]
def rmi_X10 : Room := { frames := 1, cells := 6, slots := 2452, locals := 40 }
theorem ci_X10 (g : xG) : y_MV g yX10_init wsX10_init rmi_X10 10 [.null, .null, .null, .int 0, .null, .null, .null, .int 0, .int 0, .int 0, .int 0, .int 0] 6 2452 (wd_X10 g) := by
  refine y_start (cc := cX10_init) (n := 1) (own := RX10) (by decide) rfl rfl rfl (by decide) (fun h0 sz x hC hr hY hM => ?_)
  refine y_aload_n (i := 0) (q := 0) hC dX10_init_0 rfl rfl ?_
  refine y_objInit hC (List.mem_of_getElem? (i := 1) rfl) (List.mem_of_getElem? (i := 2) rfl) (List.mem_of_getElem? (i := 3) rfl) (by decide) (by decide) dX10_init_1 ?_
  refine y_aload_n (i := 0) (q := 0) hC dX10_init_4 rfl rfl ?_
  refine y_sipush (v := 239) hC dX10_init_5 (by decide) ?_
  refine y_newa (t := 0) (N := 239) (ty := .int) hC hY (List.mem_of_getElem? (i := 4) rfl) rfl rfl (by simp) rfl (by decide) (Nat.le_of_ble_eq_true rfl) (Nat.le_of_ble_eq_true rfl) dX10_init_8 (fun q1 => ?_)
  refine y_putF (q0 := 0) (ci := 10) (k := 0) (q := (RX10, TX10, 12)) hC hM rfl rfl (by decide +kernel) rfl rfl rfl rfl rfl (Nat.le_of_ble_eq_true rfl) dX10_init_10 ?_
  refine y_eq (w' := [(h0, .inr (10, [.ref q1, .null, .null, .int 0, .null, .null, .null, .int 0, .int 0, .int 0, .int 0, .int 0])), (q1, .inl (x_k g 0, 239, .inl (fun _ => 0)))]) rfl ?_
  refine y_aload_n (i := 0) (q := 0) hC dX10_init_13 rfl rfl ?_
  refine y_sipush (v := 239) hC dX10_init_14 (by decide) ?_
  refine y_newa (t := 0) (N := 239) (ty := .int) hC hY (List.mem_of_getElem? (i := 4) rfl) rfl rfl (by simp) rfl (by decide) (Nat.le_of_ble_eq_true rfl) (Nat.le_of_ble_eq_true rfl) dX10_init_17 (fun q2 => ?_)
  refine y_putF (q0 := 0) (ci := 10) (k := 1) (q := (RX10, TX10, 12)) hC hM rfl rfl (by decide +kernel) rfl rfl rfl rfl rfl (Nat.le_of_ble_eq_true rfl) dX10_init_19 ?_
  refine y_eq (w' := [(h0, .inr (10, [.ref q1, .ref q2, .null, .int 0, .null, .null, .null, .int 0, .int 0, .int 0, .int 0, .int 0])), (q1, .inl (x_k g 0, 239, .inl (fun _ => 0))), (q2, .inl (x_k g 0, 239, .inl (fun _ => 0)))]) rfl ?_
  refine y_aload_n (i := 0) (q := 0) hC dX10_init_22 rfl rfl ?_
  refine y_sipush (v := 1434) hC dX10_init_23 (by decide) ?_
  refine y_newa (t := 0) (N := 1434) (ty := .int) hC hY (List.mem_of_getElem? (i := 4) rfl) rfl rfl (by simp) rfl (by decide) (Nat.le_of_ble_eq_true rfl) (Nat.le_of_ble_eq_true rfl) dX10_init_26 (fun q3 => ?_)
  refine y_putF (q0 := 0) (ci := 10) (k := 2) (q := (RX10, TX10, 12)) hC hM rfl rfl (by decide +kernel) rfl rfl rfl rfl rfl (Nat.le_of_ble_eq_true rfl) dX10_init_28 ?_
  refine y_eq (w' := [(h0, .inr (10, [.ref q1, .ref q2, .ref q3, .int 0, .null, .null, .null, .int 0, .int 0, .int 0, .int 0, .int 0])), (q1, .inl (x_k g 0, 239, .inl (fun _ => 0))), (q2, .inl (x_k g 0, 239, .inl (fun _ => 0))), (q3, .inl (x_k g 0, 1434, .inl (fun _ => 0)))]) rfl ?_
  refine y_aload_n (i := 0) (q := 0) hC dX10_init_31 rfl rfl ?_
  refine y_sipush (v := 478) hC dX10_init_32 (by decide) ?_
  refine y_newa (t := 0) (N := 478) (ty := .int) hC hY (List.mem_of_getElem? (i := 4) rfl) rfl rfl (by simp) rfl (by decide) (Nat.le_of_ble_eq_true rfl) (Nat.le_of_ble_eq_true rfl) dX10_init_35 (fun q4 => ?_)
  refine y_putF (q0 := 0) (ci := 10) (k := 4) (q := (RX10, TX10, 12)) hC hM rfl rfl (by decide +kernel) rfl rfl rfl rfl rfl (Nat.le_of_ble_eq_true rfl) dX10_init_37 ?_
  refine y_eq (w' := [(h0, .inr (10, [.ref q1, .ref q2, .ref q3, .int 0, .ref q4, .null, .null, .int 0, .int 0, .int 0, .int 0, .int 0])), (q1, .inl (x_k g 0, 239, .inl (fun _ => 0))), (q2, .inl (x_k g 0, 239, .inl (fun _ => 0))), (q3, .inl (x_k g 0, 1434, .inl (fun _ => 0))), (q4, .inl (x_k g 0, 478, .inl (fun _ => 0)))]) rfl ?_
  refine y_aload_n (i := 0) (q := 0) hC dX10_init_40 rfl rfl ?_
  refine y_iconst (v := 2) hC dX10_init_41 (by decide) ?_
  refine y_newa (t := 0) (N := 2) (ty := .int) hC hY (List.mem_of_getElem? (i := 4) rfl) rfl rfl (by simp) rfl (by decide) (Nat.le_of_ble_eq_true rfl) (Nat.le_of_ble_eq_true rfl) dX10_init_42 (fun q5 => ?_)
  refine y_putF (q0 := 0) (ci := 10) (k := 5) (q := (RX10, TX10, 12)) hC hM rfl rfl (by decide +kernel) rfl rfl rfl rfl rfl (Nat.le_of_ble_eq_true rfl) dX10_init_44 ?_
  refine y_eq (w' := [(h0, .inr (10, [.ref q1, .ref q2, .ref q3, .int 0, .ref q4, .ref q5, .null, .int 0, .int 0, .int 0, .int 0, .int 0])), (q1, .inl (x_k g 0, 239, .inl (fun _ => 0))), (q2, .inl (x_k g 0, 239, .inl (fun _ => 0))), (q3, .inl (x_k g 0, 1434, .inl (fun _ => 0))), (q4, .inl (x_k g 0, 478, .inl (fun _ => 0))), (q5, .inl (x_k g 0, 2, .inl (fun _ => 0)))]) rfl ?_
  refine y_aload_n (i := 0) (q := 0) hC dX10_init_47 rfl rfl ?_
  refine y_bipush (v := 60) hC dX10_init_48 (by decide) ?_
  refine y_newa (t := 0) (N := 60) (ty := .int) hC hY (List.mem_of_getElem? (i := 4) rfl) rfl rfl (by simp) rfl (by decide) (Nat.le_of_ble_eq_true rfl) (Nat.le_of_ble_eq_true rfl) dX10_init_50 (fun q6 => ?_)
  refine y_putF (q0 := 0) (ci := 10) (k := 6) (q := (RX10, TX10, 12)) hC hM rfl rfl (by decide +kernel) rfl rfl rfl rfl rfl (Nat.le_of_ble_eq_true rfl) dX10_init_52 ?_
  refine y_eq (w' := [(h0, .inr (10, [.ref q1, .ref q2, .ref q3, .int 0, .ref q4, .ref q5, .ref q6, .int 0, .int 0, .int 0, .int 0, .int 0])), (q1, .inl (x_k g 0, 239, .inl (fun _ => 0))), (q2, .inl (x_k g 0, 239, .inl (fun _ => 0))), (q3, .inl (x_k g 0, 1434, .inl (fun _ => 0))), (q4, .inl (x_k g 0, 478, .inl (fun _ => 0))), (q5, .inl (x_k g 0, 2, .inl (fun _ => 0))), (q6, .inl (x_k g 0, 60, .inl (fun _ => 0)))]) rfl ?_
  refine y_aload_n (i := 0) (q := 0) hC dX10_init_55 rfl rfl ?_
  refine y_get (q0 := 0) (ci := 10) (k := 0) (q := (RX10, TX10, 12)) hC rfl rfl (by decide +kernel) rfl dX10_init_56 ?_
  refine y_iconst (v := 4) hC dX10_init_59 (by decide) ?_
  refine y_iconst (v := 0) hC dX10_init_60 (by decide) ?_
  refine y_iast (q0 := 1) (N := 239) hC rfl (x_vi (n := 4) (by omega) (by omega)) dX10_init_61 ?_
  rw [y_upd0]
  refine y_eq (w' := [(h0, .inr (10, [.ref q1, .ref q2, .ref q3, .int 0, .ref q4, .ref q5, .ref q6, .int 0, .int 0, .int 0, .int 0, .int 0])), (q1, .inl (x_k g 0, 239, .inl (fun _ => 0))), (q2, .inl (x_k g 0, 239, .inl (fun _ => 0))), (q3, .inl (x_k g 0, 1434, .inl (fun _ => 0))), (q4, .inl (x_k g 0, 478, .inl (fun _ => 0))), (q5, .inl (x_k g 0, 2, .inl (fun _ => 0))), (q6, .inl (x_k g 0, 60, .inl (fun _ => 0)))]) rfl ?_
  exact y_vret hC hr dX10_init_62 ⟨q1, q2, q3, q4, q5, q6, rfl⟩
