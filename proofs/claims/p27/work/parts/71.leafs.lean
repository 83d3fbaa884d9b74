/-! constructors of the parts -/
def wd_X6 (g : xG) : Nat → va_W → Prop := fun h0 u => ∃ q1 q2 q3 q4 : Nat, u = [(h0, .inr (6, [.int 0, .int 0, .int 0, .ref q1, .ref q2, .ref q3, .ref q4])), (q1, .inl (x_k g 0, 12, .inl (fun _ => 0))), (q2, .inl (x_k g 0, 12, .inl (fun _ => 0))), (q3, .inl (x_k g 0, 12, .inl (fun _ => 0))), (q4, .inl (x_k g 0, 12, .inl (fun _ => 0)))]
def rmi_X6 : Room := { frames := 1, cells := 4, slots := 48, locals := 40 }
theorem ci_X6 (g : xG) : y_MV g yX6_init wsX6_init rmi_X6 6 [.int 0, .int 0, .int 0, .null, .null, .null, .null] 4 48 (wd_X6 g) := by
  refine y_start (cc := cX6_init) (n := 1) (own := RX6) (by decide) rfl rfl rfl (by decide) (fun h0 sz x hC hr hY hM => ?_)
  refine y_aload_n (i := 0) (q := 0) hC dX6_init_0 rfl rfl ?_
  refine y_objInit hC (List.mem_of_getElem? (i := 1) rfl) (List.mem_of_getElem? (i := 2) rfl) (List.mem_of_getElem? (i := 3) rfl) (by decide) (by decide) dX6_init_1 ?_
  refine y_aload_n (i := 0) (q := 0) hC dX6_init_4 rfl rfl ?_
  refine y_bipush (v := 12) hC dX6_init_5 (by decide) ?_
  refine y_newa (t := 0) (N := 12) (ty := .int) hC hY (List.mem_of_getElem? (i := 4) rfl) rfl rfl (by simp) rfl (by decide) (Nat.le_of_ble_eq_true rfl) (Nat.le_of_ble_eq_true rfl) dX6_init_7 (fun q1 => ?_)
  refine y_putF (q0 := 0) (ci := 6) (k := 3) (q := (RX6, TX6, 7)) hC hM rfl rfl (by decide +kernel) rfl rfl rfl rfl rfl (Nat.le_of_ble_eq_true rfl) dX6_init_9 ?_
  refine y_eq (w' := [(h0, .inr (6, [.int 0, .int 0, .int 0, .ref q1, .null, .null, .null])), (q1, .inl (x_k g 0, 12, .inl (fun _ => 0)))]) rfl ?_
  refine y_aload_n (i := 0) (q := 0) hC dX6_init_12 rfl rfl ?_
  refine y_bipush (v := 12) hC dX6_init_13 (by decide) ?_
  refine y_newa (t := 0) (N := 12) (ty := .int) hC hY (List.mem_of_getElem? (i := 4) rfl) rfl rfl (by simp) rfl (by decide) (Nat.le_of_ble_eq_true rfl) (Nat.le_of_ble_eq_true rfl) dX6_init_15 (fun q2 => ?_)
  refine y_putF (q0 := 0) (ci := 6) (k := 4) (q := (RX6, TX6, 7)) hC hM rfl rfl (by decide +kernel) rfl rfl rfl rfl rfl (Nat.le_of_ble_eq_true rfl) dX6_init_17 ?_
  refine y_eq (w' := [(h0, .inr (6, [.int 0, .int 0, .int 0, .ref q1, .ref q2, .null, .null])), (q1, .inl (x_k g 0, 12, .inl (fun _ => 0))), (q2, .inl (x_k g 0, 12, .inl (fun _ => 0)))]) rfl ?_
  refine y_aload_n (i := 0) (q := 0) hC dX6_init_20 rfl rfl ?_
  refine y_bipush (v := 12) hC dX6_init_21 (by decide) ?_
  refine y_newa (t := 0) (N := 12) (ty := .int) hC hY (List.mem_of_getElem? (i := 4) rfl) rfl rfl (by simp) rfl (by decide) (Nat.le_of_ble_eq_true rfl) (Nat.le_of_ble_eq_true rfl) dX6_init_23 (fun q3 => ?_)
  refine y_putF (q0 := 0) (ci := 6) (k := 5) (q := (RX6, TX6, 7)) hC hM rfl rfl (by decide +kernel) rfl rfl rfl rfl rfl (Nat.le_of_ble_eq_true rfl) dX6_init_25 ?_
  refine y_eq (w' := [(h0, .inr (6, [.int 0, .int 0, .int 0, .ref q1, .ref q2, .ref q3, .null])), (q1, .inl (x_k g 0, 12, .inl (fun _ => 0))), (q2, .inl (x_k g 0, 12, .inl (fun _ => 0))), (q3, .inl (x_k g 0, 12, .inl (fun _ => 0)))]) rfl ?_
  refine y_aload_n (i := 0) (q := 0) hC dX6_init_28 rfl rfl ?_
  refine y_bipush (v := 12) hC dX6_init_29 (by decide) ?_
  refine y_newa (t := 0) (N := 12) (ty := .int) hC hY (List.mem_of_getElem? (i := 4) rfl) rfl rfl (by simp) rfl (by decide) (Nat.le_of_ble_eq_true rfl) (Nat.le_of_ble_eq_true rfl) dX6_init_31 (fun q4 => ?_)
  refine y_putF (q0 := 0) (ci := 6) (k := 6) (q := (RX6, TX6, 7)) hC hM rfl rfl (by decide +kernel) rfl rfl rfl rfl rfl (Nat.le_of_ble_eq_true rfl) dX6_init_33 ?_
  refine y_eq (w' := [(h0, .inr (6, [.int 0, .int 0, .int 0, .ref q1, .ref q2, .ref q3, .ref q4])), (q1, .inl (x_k g 0, 12, .inl (fun _ => 0))), (q2, .inl (x_k g 0, 12, .inl (fun _ => 0))), (q3, .inl (x_k g 0, 12, .inl (fun _ => 0))), (q4, .inl (x_k g 0, 12, .inl (fun _ => 0)))]) rfl ?_
  exact y_vret hC hr dX6_init_36 ⟨q1, q2, q3, q4, rfl⟩
def wd_X7 (g : xG) : Nat → va_W → Prop := fun h0 u => ∃ q1 q2 q3 q4 : Nat, u = [(h0, .inr (7, [.int 0, .ref q1, .ref q2, .ref q3, .ref q4])), (q1, .inl (x_k g 0, 16, .inl (fun _ => 0))), (q2, .inl (x_k g 0, 16, .inl (fun _ => 0))), (q3, .inl (x_k g 0, 16, .inl (fun _ => 0))), (q4, .inl (x_k g 0, 16, .inl (fun _ => 0)))]
def rmi_X7 : Room := { frames := 1, cells := 4, slots := 64, locals := 40 }
theorem ci_X7 (g : xG) : y_MV g yX7_init wsX7_init rmi_X7 7 [.int 0, .null, .null, .null, .null] 4 64 (wd_X7 g) := by
  refine y_start (cc := cX7_init) (n := 1) (own := RX7) (by decide) rfl rfl rfl (by decide) (fun h0 sz x hC hr hY hM => ?_)
  refine y_aload_n (i := 0) (q := 0) hC dX7_init_0 rfl rfl ?_
  refine y_objInit hC (List.mem_of_getElem? (i := 1) rfl) (List.mem_of_getElem? (i := 2) rfl) (List.mem_of_getElem? (i := 3) rfl) (by decide) (by decide) dX7_init_1 ?_
  refine y_aload_n (i := 0) (q := 0) hC dX7_init_4 rfl rfl ?_
  refine y_bipush (v := 16) hC dX7_init_5 (by decide) ?_
  refine y_newa (t := 0) (N := 16) (ty := .int) hC hY (List.mem_of_getElem? (i := 4) rfl) rfl rfl (by simp) rfl (by decide) (Nat.le_of_ble_eq_true rfl) (Nat.le_of_ble_eq_true rfl) dX7_init_7 (fun q1 => ?_)
  refine y_putF (q0 := 0) (ci := 7) (k := 1) (q := (RX7, TX7, 5)) hC hM rfl rfl (by decide +kernel) rfl rfl rfl rfl rfl (Nat.le_of_ble_eq_true rfl) dX7_init_9 ?_
  refine y_eq (w' := [(h0, .inr (7, [.int 0, .ref q1, .null, .null, .null])), (q1, .inl (x_k g 0, 16, .inl (fun _ => 0)))]) rfl ?_
  refine y_aload_n (i := 0) (q := 0) hC dX7_init_12 rfl rfl ?_
  refine y_bipush (v := 16) hC dX7_init_13 (by decide) ?_
  refine y_newa (t := 0) (N := 16) (ty := .int) hC hY (List.mem_of_getElem? (i := 4) rfl) rfl rfl (by simp) rfl (by decide) (Nat.le_of_ble_eq_true rfl) (Nat.le_of_ble_eq_true rfl) dX7_init_15 (fun q2 => ?_)
  refine y_putF (q0 := 0) (ci := 7) (k := 2) (q := (RX7, TX7, 5)) hC hM rfl rfl (by decide +kernel) rfl rfl rfl rfl rfl (Nat.le_of_ble_eq_true rfl) dX7_init_17 ?_
  refine y_eq (w' := [(h0, .inr (7, [.int 0, .ref q1, .ref q2, .null, .null])), (q1, .inl (x_k g 0, 16, .inl (fun _ => 0))), (q2, .inl (x_k g 0, 16, .inl (fun _ => 0)))]) rfl ?_
  refine y_aload_n (i := 0) (q := 0) hC dX7_init_20 rfl rfl ?_
  refine y_bipush (v := 16) hC dX7_init_21 (by decide) ?_
  refine y_newa (t := 0) (N := 16) (ty := .int) hC hY (List.mem_of_getElem? (i := 4) rfl) rfl rfl (by simp) rfl (by decide) (Nat.le_of_ble_eq_true rfl) (Nat.le_of_ble_eq_true rfl) dX7_init_23 (fun q3 => ?_)
  refine y_putF (q0 := 0) (ci := 7) (k := 3) (q := (RX7, TX7, 5)) hC hM rfl rfl (by decide +kernel) rfl rfl rfl rfl rfl (Nat.le_of_ble_eq_true rfl) dX7_init_25 ?_
  refine y_eq (w' := [(h0, .inr (7, [.int 0, .ref q1, .ref q2, .ref q3, .null])), (q1, .inl (x_k g 0, 16, .inl (fun _ => 0))), (q2, .inl (x_k g 0, 16, .inl (fun _ => 0))), (q3, .inl (x_k g 0, 16, .inl (fun _ => 0)))]) rfl ?_
  refine y_aload_n (i := 0) (q := 0) hC dX7_init_28 rfl rfl ?_
  refine y_bipush (v := 16) hC dX7_init_29 (by decide) ?_
  refine y_newa (t := 0) (N := 16) (ty := .int) hC hY (List.mem_of_getElem? (i := 4) rfl) rfl rfl (by simp) rfl (by decide) (Nat.le_of_ble_eq_true rfl) (Nat.le_of_ble_eq_true rfl) dX7_init_31 (fun q4 => ?_)
  refine y_putF (q0 := 0) (ci := 7) (k := 4) (q := (RX7, TX7, 5)) hC hM rfl rfl (by decide +kernel) rfl rfl rfl rfl rfl (Nat.le_of_ble_eq_true rfl) dX7_init_33 ?_
  refine y_eq (w' := [(h0, .inr (7, [.int 0, .ref q1, .ref q2, .ref q3, .ref q4])), (q1, .inl (x_k g 0, 16, .inl (fun _ => 0))), (q2, .inl (x_k g 0, 16, .inl (fun _ => 0))), (q3, .inl (x_k g 0, 16, .inl (fun _ => 0))), (q4, .inl (x_k g 0, 16, .inl (fun _ => 0)))]) rfl ?_
  exact y_vret hC hr dX7_init_36 ⟨q1, q2, q3, q4, rfl⟩
def wd_X8 (g : xG) : Nat → va_W → Prop := fun h0 u => ∃ q1 q2 q3 : Nat, u = [(h0, .inr (8, [.int 0, .ref q1, .ref q2, .ref q3])), (q1, .inl (x_k g 0, 20, .inl (fun _ => 0))), (q2, .inl (x_k g 0, 20, .inl (fun _ => 0))), (q3, .inl (x_k g 0, 20, .inl (fun _ => 0)))]
def rmi_X8 : Room := { frames := 1, cells := 3, slots := 60, locals := 40 }
theorem ci_X8 (g : xG) : y_MV g yX8_init wsX8_init rmi_X8 8 [.int 0, .null, .null, .null] 3 60 (wd_X8 g) := by
  refine y_start (cc := cX8_init) (n := 1) (own := RX8) (by decide) rfl rfl rfl (by decide) (fun h0 sz x hC hr hY hM => ?_)
  refine y_aload_n (i := 0) (q := 0) hC dX8_init_0 rfl rfl ?_
  refine y_objInit hC (List.mem_of_getElem? (i := 1) rfl) (List.mem_of_getElem? (i := 2) rfl) (List.mem_of_getElem? (i := 3) rfl) (by decide) (by decide) dX8_init_1 ?_
  refine y_aload_n (i := 0) (q := 0) hC dX8_init_4 rfl rfl ?_
  refine y_bipush (v := 20) hC dX8_init_5 (by decide) ?_
  refine y_newa (t := 0) (N := 20) (ty := .int) hC hY (List.mem_of_getElem? (i := 4) rfl) rfl rfl (by simp) rfl (by decide) (Nat.le_of_ble_eq_true rfl) (Nat.le_of_ble_eq_true rfl) dX8_init_7 (fun q1 => ?_)
  refine y_putF (q0 := 0) (ci := 8) (k := 1) (q := (RX8, TX8, 4)) hC hM rfl rfl (by decide +kernel) rfl rfl rfl rfl rfl (Nat.le_of_ble_eq_true rfl) dX8_init_9 ?_
  refine y_eq (w' := [(h0, .inr (8, [.int 0, .ref q1, .null, .null])), (q1, .inl (x_k g 0, 20, .inl (fun _ => 0)))]) rfl ?_
  refine y_aload_n (i := 0) (q := 0) hC dX8_init_12 rfl rfl ?_
  refine y_bipush (v := 20) hC dX8_init_13 (by decide) ?_
  refine y_newa (t := 0) (N := 20) (ty := .int) hC hY (List.mem_of_getElem? (i := 4) rfl) rfl rfl (by simp) rfl (by decide) (Nat.le_of_ble_eq_true rfl) (Nat.le_of_ble_eq_true rfl) dX8_init_15 (fun q2 => ?_)
  refine y_putF (q0 := 0) (ci := 8) (k := 2) (q := (RX8, TX8, 4)) hC hM rfl rfl (by decide +kernel) rfl rfl rfl rfl rfl (Nat.le_of_ble_eq_true rfl) dX8_init_17 ?_
  refine y_eq (w' := [(h0, .inr (8, [.int 0, .ref q1, .ref q2, .null])), (q1, .inl (x_k g 0, 20, .inl (fun _ => 0))), (q2, .inl (x_k g 0, 20, .inl (fun _ => 0)))]) rfl ?_
  refine y_aload_n (i := 0) (q := 0) hC dX8_init_20 rfl rfl ?_
  refine y_bipush (v := 20) hC dX8_init_21 (by decide) ?_
  refine y_newa (t := 0) (N := 20) (ty := .int) hC hY (List.mem_of_getElem? (i := 4) rfl) rfl rfl (by simp) rfl (by decide) (Nat.le_of_ble_eq_true rfl) (Nat.le_of_ble_eq_true rfl) dX8_init_23 (fun q3 => ?_)
  refine y_putF (q0 := 0) (ci := 8) (k := 3) (q := (RX8, TX8, 4)) hC hM rfl rfl (by decide +kernel) rfl rfl rfl rfl rfl (Nat.le_of_ble_eq_true rfl) dX8_init_25 ?_
  refine y_eq (w' := [(h0, .inr (8, [.int 0, .ref q1, .ref q2, .ref q3])), (q1, .inl (x_k g 0, 20, .inl (fun _ => 0))), (q2, .inl (x_k g 0, 20, .inl (fun _ => 0))), (q3, .inl (x_k g 0, 20, .inl (fun _ => 0)))]) rfl ?_
  exact y_vret hC hr dX8_init_28 ⟨q1, q2, q3, rfl⟩
def wd_X4 (g : xG) : Nat → va_W → Prop := fun h0 u => ∃ q1 q2 q3 q4 : Nat, u = [(h0, .inr (4, [.int 0, .ref q1, .ref q2, .ref q3, .ref q4])), (q1, .inl (x_k g 0, 12, .inl (fun _ => 0))), (q2, .inl (x_k g 0, 12, .inl (fun _ => 0))), (q3, .inl (x_k g 0, 12, .inl (fun _ => 0))), (q4, .inl (x_k g 0, 12, .inl (fun _ => 0)))]
def rmi_X4 : Room := { frames := 1, cells := 4, slots := 48, locals := 40 }
theorem ci_X4 (g : xG) : y_MV g yX4_init wsX4_init rmi_X4 4 [.int 0, .null, .null, .null, .null] 4 48 (wd_X4 g) := by
  refine y_start (cc := cX4_init) (n := 1) (own := RX4) (by decide) rfl rfl rfl (by decide) (fun h0 sz x hC hr hY hM => ?_)
  refine y_aload_n (i := 0) (q := 0) hC dX4_init_0 rfl rfl ?_
  refine y_objInit hC (List.mem_of_getElem? (i := 1) rfl) (List.mem_of_getElem? (i := 2) rfl) (List.mem_of_getElem? (i := 3) rfl) (by decide) (by decide) dX4_init_1 ?_
  refine y_aload_n (i := 0) (q := 0) hC dX4_init_4 rfl rfl ?_
  refine y_bipush (v := 12) hC dX4_init_5 (by decide) ?_
  refine y_newa (t := 0) (N := 12) (ty := .int) hC hY (List.mem_of_getElem? (i := 4) rfl) rfl rfl (by simp) rfl (by decide) (Nat.le_of_ble_eq_true rfl) (Nat.le_of_ble_eq_true rfl) dX4_init_7 (fun q1 => ?_)
  refine y_putF (q0 := 0) (ci := 4) (k := 1) (q := (RX4, TX4, 5)) hC hM rfl rfl (by decide +kernel) rfl rfl rfl rfl rfl (Nat.le_of_ble_eq_true rfl) dX4_init_9 ?_
  refine y_eq (w' := [(h0, .inr (4, [.int 0, .ref q1, .null, .null, .null])), (q1, .inl (x_k g 0, 12, .inl (fun _ => 0)))]) rfl ?_
  refine y_aload_n (i := 0) (q := 0) hC dX4_init_12 rfl rfl ?_
  refine y_bipush (v := 12) hC dX4_init_13 (by decide) ?_
  refine y_newa (t := 0) (N := 12) (ty := .int) hC hY (List.mem_of_getElem? (i := 4) rfl) rfl rfl (by simp) rfl (by decide) (Nat.le_of_ble_eq_true rfl) (Nat.le_of_ble_eq_true rfl) dX4_init_15 (fun q2 => ?_)
  refine y_putF (q0 := 0) (ci := 4) (k := 2) (q := (RX4, TX4, 5)) hC hM rfl rfl (by decide +kernel) rfl rfl rfl rfl rfl (Nat.le_of_ble_eq_true rfl) dX4_init_17 ?_
  refine y_eq (w' := [(h0, .inr (4, [.int 0, .ref q1, .ref q2, .null, .null])), (q1, .inl (x_k g 0, 12, .inl (fun _ => 0))), (q2, .inl (x_k g 0, 12, .inl (fun _ => 0)))]) rfl ?_
  refine y_aload_n (i := 0) (q := 0) hC dX4_init_20 rfl rfl ?_
  refine y_bipush (v := 12) hC dX4_init_21 (by decide) ?_
  refine y_newa (t := 0) (N := 12) (ty := .int) hC hY (List.mem_of_getElem? (i := 4) rfl) rfl rfl (by simp) rfl (by decide) (Nat.le_of_ble_eq_true rfl) (Nat.le_of_ble_eq_true rfl) dX4_init_23 (fun q3 => ?_)
  refine y_putF (q0 := 0) (ci := 4) (k := 3) (q := (RX4, TX4, 5)) hC hM rfl rfl (by decide +kernel) rfl rfl rfl rfl rfl (Nat.le_of_ble_eq_true rfl) dX4_init_25 ?_
  refine y_eq (w' := [(h0, .inr (4, [.int 0, .ref q1, .ref q2, .ref q3, .null])), (q1, .inl (x_k g 0, 12, .inl (fun _ => 0))), (q2, .inl (x_k g 0, 12, .inl (fun _ => 0))), (q3, .inl (x_k g 0, 12, .inl (fun _ => 0)))]) rfl ?_
  refine y_aload_n (i := 0) (q := 0) hC dX4_init_28 rfl rfl ?_
  refine y_bipush (v := 12) hC dX4_init_29 (by decide) ?_
  refine y_newa (t := 0) (N := 12) (ty := .int) hC hY (List.mem_of_getElem? (i := 4) rfl) rfl rfl (by simp) rfl (by decide) (Nat.le_of_ble_eq_true rfl) (Nat.le_of_ble_eq_true rfl) dX4_init_31 (fun q4 => ?_)
  refine y_putF (q0 := 0) (ci := 4) (k := 4) (q := (RX4, TX4, 5)) hC hM rfl rfl (by decide +kernel) rfl rfl rfl rfl rfl (Nat.le_of_ble_eq_true rfl) dX4_init_33 ?_
  refine y_eq (w' := [(h0, .inr (4, [.int 0, .ref q1, .ref q2, .ref q3, .ref q4])), (q1, .inl (x_k g 0, 12, .inl (fun _ => 0))), (q2, .inl (x_k g 0, 12, .inl (fun _ => 0))), (q3, .inl (x_k g 0, 12, .inl (fun _ => 0))), (q4, .inl (x_k g 0, 12, .inl (fun _ => 0)))]) rfl ?_
  exact y_vret hC hr dX4_init_36 ⟨q1, q2, q3, q4, rfl⟩
def wd_X2 (g : xG) : Nat → va_W → Prop := fun h0 u => ∃ q1 : Nat, u = [(h0, .inr (2, [.ref q1, .int 0])), (q1, .inl (x_k g 2, 60, .inl (fun _ => 0)))]
def rmi_X2 : Room := { frames := 1, cells := 1, slots := 60, locals := 40 }
theorem ci_X2 (g : xG) : y_MV g yX2_init wsX2_init rmi_X2 2 [.null, .int 0] 1 60 (wd_X2 g) := by
  refine y_start (cc := cX2_init) (n := 1) (own := RX2) (by decide) rfl rfl rfl (by decide) (fun h0 sz x hC hr hY hM => ?_)
  refine y_aload_n (i := 0) (q := 0) hC dX2_init_0 rfl rfl ?_
  refine y_objInit hC (List.mem_of_getElem? (i := 1) rfl) (List.mem_of_getElem? (i := 2) rfl) (List.mem_of_getElem? (i := 3) rfl) (by decide) (by decide) dX2_init_1 ?_
  refine y_aload_n (i := 0) (q := 0) hC dX2_init_4 rfl rfl ?_
  refine y_bipush (v := 60) hC dX2_init_5 (by decide) ?_
  refine y_newa (t := 2) (N := 60) (ty := .char) hC hY (List.mem_of_getElem? (i := 4) rfl) rfl rfl (by simp) rfl (by decide) (Nat.le_of_ble_eq_true rfl) (Nat.le_of_ble_eq_true rfl) dX2_init_7 (fun q1 => ?_)
  refine y_putF (q0 := 0) (ci := 2) (k := 0) (q := (RX2, TX2, 2)) hC hM rfl rfl (by decide +kernel) rfl rfl rfl rfl rfl (Nat.le_of_ble_eq_true rfl) dX2_init_9 ?_
  refine y_eq (w' := [(h0, .inr (2, [.ref q1, .int 0])), (q1, .inl (x_k g 2, 60, .inl (fun _ => 0)))]) rfl ?_
  exact y_vret hC hr dX2_init_12 ⟨q1, rfl⟩
def wd_X3 (g : xG) : Nat → va_W → Prop := fun h0 u => ∃ q1 q2 q3 : Nat, u = [(h0, .inr (3, [.ref q1, .ref q2, .ref q3, .int 0, .int 0])), (q1, .inl (x_k g 0, 15, .inl (fun _ => 0))), (q2, .inl (x_k g 0, 15, .inl (fun _ => 0))), (q3, .inl (x_k g 0, 15, .inl (fun _ => 0)))]
def rmi_X3 : Room := { frames := 1, cells := 3, slots := 45, locals := 40 }
theorem ci_X3 (g : xG) : y_MV g yX3_init wsX3_init rmi_X3 3 [.null, .null, .null, .int 0, .int 0] 3 45 (wd_X3 g) := by
  refine y_start (cc := cX3_init) (n := 1) (own := RX3) (by decide) rfl rfl rfl (by decide) (fun h0 sz x hC hr hY hM => ?_)
  refine y_aload_n (i := 0) (q := 0) hC dX3_init_0 rfl rfl ?_
  refine y_objInit hC (List.mem_of_getElem? (i := 1) rfl) (List.mem_of_getElem? (i := 2) rfl) (List.mem_of_getElem? (i := 3) rfl) (by decide) (by decide) dX3_init_1 ?_
  refine y_aload_n (i := 0) (q := 0) hC dX3_init_4 rfl rfl ?_
  refine y_bipush (v := 15) hC dX3_init_5 (by decide) ?_
  refine y_newa (t := 0) (N := 15) (ty := .int) hC hY (List.mem_of_getElem? (i := 4) rfl) rfl rfl (by simp) rfl (by decide) (Nat.le_of_ble_eq_true rfl) (Nat.le_of_ble_eq_true rfl) dX3_init_7 (fun q1 => ?_)
  refine y_putF (q0 := 0) (ci := 3) (k := 0) (q := (RX3, TX3, 5)) hC hM rfl rfl (by decide +kernel) rfl rfl rfl rfl rfl (Nat.le_of_ble_eq_true rfl) dX3_init_9 ?_
  refine y_eq (w' := [(h0, .inr (3, [.ref q1, .null, .null, .int 0, .int 0])), (q1, .inl (x_k g 0, 15, .inl (fun _ => 0)))]) rfl ?_
  refine y_aload_n (i := 0) (q := 0) hC dX3_init_12 rfl rfl ?_
  refine y_bipush (v := 15) hC dX3_init_13 (by decide) ?_
  refine y_newa (t := 0) (N := 15) (ty := .int) hC hY (List.mem_of_getElem? (i := 4) rfl) rfl rfl (by simp) rfl (by decide) (Nat.le_of_ble_eq_true rfl) (Nat.le_of_ble_eq_true rfl) dX3_init_15 (fun q2 => ?_)
  refine y_putF (q0 := 0) (ci := 3) (k := 1) (q := (RX3, TX3, 5)) hC hM rfl rfl (by decide +kernel) rfl rfl rfl rfl rfl (Nat.le_of_ble_eq_true rfl) dX3_init_17 ?_
  refine y_eq (w' := [(h0, .inr (3, [.ref q1, .ref q2, .null, .int 0, .int 0])), (q1, .inl (x_k g 0, 15, .inl (fun _ => 0))), (q2, .inl (x_k g 0, 15, .inl (fun _ => 0)))]) rfl ?_
  refine y_aload_n (i := 0) (q := 0) hC dX3_init_20 rfl rfl ?_
  refine y_bipush (v := 15) hC dX3_init_21 (by decide) ?_
  refine y_newa (t := 0) (N := 15) (ty := .int) hC hY (List.mem_of_getElem? (i := 4) rfl) rfl rfl (by simp) rfl (by decide) (Nat.le_of_ble_eq_true rfl) (Nat.le_of_ble_eq_true rfl) dX3_init_23 (fun q3 => ?_)
  refine y_putF (q0 := 0) (ci := 3) (k := 2) (q := (RX3, TX3, 5)) hC hM rfl rfl (by decide +kernel) rfl rfl rfl rfl rfl (Nat.le_of_ble_eq_true rfl) dX3_init_25 ?_
  refine y_eq (w' := [(h0, .inr (3, [.ref q1, .ref q2, .ref q3, .int 0, .int 0])), (q1, .inl (x_k g 0, 15, .inl (fun _ => 0))), (q2, .inl (x_k g 0, 15, .inl (fun _ => 0))), (q3, .inl (x_k g 0, 15, .inl (fun _ => 0)))]) rfl ?_
  exact y_vret hC hr dX3_init_28 ⟨q1, q2, q3, rfl⟩
def wd_X5 (g : xG) : Nat → va_W → Prop := fun h0 u => ∃ q1 : Nat, u = [(h0, .inr (5, [.ref q1, .int 0, .int 0])), (q1, .inl (x_k g 0, 12, .inl (fun _ => 0)))]
def rmi_X5 : Room := { frames := 1, cells := 1, slots := 12, locals := 40 }
theorem ci_X5 (g : xG) : y_MV g yX5_init wsX5_init rmi_X5 5 [.null, .int 0, .int 0] 1 12 (wd_X5 g) := by
  refine y_start (cc := cX5_init) (n := 1) (own := RX5) (by decide) rfl rfl rfl (by decide) (fun h0 sz x hC hr hY hM => ?_)
  refine y_aload_n (i := 0) (q := 0) hC dX5_init_0 rfl rfl ?_
  refine y_objInit hC (List.mem_of_getElem? (i := 1) rfl) (List.mem_of_getElem? (i := 2) rfl) (List.mem_of_getElem? (i := 3) rfl) (by decide) (by decide) dX5_init_1 ?_
  refine y_aload_n (i := 0) (q := 0) hC dX5_init_4 rfl rfl ?_
  refine y_bipush (v := 12) hC dX5_init_5 (by decide) ?_
  refine y_newa (t := 0) (N := 12) (ty := .int) hC hY (List.mem_of_getElem? (i := 4) rfl) rfl rfl (by simp) rfl (by decide) (Nat.le_of_ble_eq_true rfl) (Nat.le_of_ble_eq_true rfl) dX5_init_7 (fun q1 => ?_)
  refine y_putF (q0 := 0) (ci := 5) (k := 0) (q := (RX5, TX5, 3)) hC hM rfl rfl (by decide +kernel) rfl rfl rfl rfl rfl (Nat.le_of_ble_eq_true rfl) dX5_init_9 ?_
  refine y_eq (w' := [(h0, .inr (5, [.ref q1, .int 0, .int 0])), (q1, .inl (x_k g 0, 12, .inl (fun _ => 0)))]) rfl ?_
  exact y_vret hC hr dX5_init_12 ⟨q1, rfl⟩
