theorem kf_X8_copyFrom_21 : x_okf wsX8_copyFrom RX8 21 8 0 = true := by decide +kernel
theorem kf_X8_copyFrom_9 : x_okf wsX8_copyFrom RX8 9 8 1 = true := by decide +kernel
theorem kf_X8_copyFrom_15 : x_okf wsX8_copyFrom RX8 15 8 2 = true := by decide +kernel
theorem kf_X8_copyFrom_18 : x_okf wsX8_copyFrom RX8 18 8 3 = true := by decide +kernel
def vc_X8_copyFrom (g : xG) (e : Nat) (f : Nat) (M : xM) (P : xM → Prop) : Prop := (mi_X9_copyRow g (20 * f + 12) (20 * e + 12) (x_up M (20 * e + 11) 0 (M (20 * f + 11) 0)) (fun N1 => (mi_X9_copyRow g (20 * f + 13) (20 * e + 13) N1 (fun N2 => (mi_X9_copyRow g (20 * f + 14) (20 * e + 14) N2 (fun N3 => P N3))))))
set_option maxRecDepth 100000 in
set_option maxHeartbeats 4000000 in
theorem wk_X8_copyFrom {g : xG} (e : Nat) (f : Nat) (he : e < 9) (hf : f < 9) (M : xM) (P : xM → Prop) (h0 : vc_X8_copyFrom g e f M P ) : mi_X8_copyFrom g e f M P := by
  refine x_startV (as := [.ref (x_a g (20 * e + 11)), .ref (x_a g (20 * f + 11))]) (cc := cX8_copyFrom) (n := 2) (ret := none) (own := RX8) (by decide) rfl rfl (Nat.le_of_ble_eq_true rfl) (fun x hC hr => ?_)
  have h := h0
  unfold vc_X8_copyFrom at h
  refine x_aload_n (i := 0) (q := 0) hC dX8_copyFrom_0 rfl rfl ?_
  refine x_aload_n (i := 1) (q := 1) hC dX8_copyFrom_1 rfl rfl ?_
  refine x_geti (k := 0) hC (x_objE (j := 11) hf (by decide) rfl) rfl kf_X8_copyFrom_21 dX8_copyFrom_2 ?_
  refine x_puti (k := 0) hC (x_objE (j := 11) he (by decide) rfl) rfl kf_X8_copyFrom_21 kp_8_0 dX8_copyFrom_5 ?_
  refine x_aload_n (i := 1) (q := 1) hC dX8_copyFrom_8 rfl rfl ?_
  refine x_getr (k := 1) (r := (20 * f + 12)) hC (x_objE (j := 11) hf (by decide) rfl) rfl kf_X8_copyFrom_9 dX8_copyFrom_9 ?_
  refine x_aload_n (i := 0) (q := 0) hC dX8_copyFrom_12 rfl rfl ?_
  refine x_getr (k := 1) (r := (20 * e + 12)) hC (x_objE (j := 11) he (by decide) rfl) rfl kf_X8_copyFrom_9 dX8_copyFrom_13 ?_
  refine x_callNv (host := RX9) (As := [.ref (x_a g (20 * f + 12)), .ref (x_a g (20 * e + 12))]) hC h gX8_copyFrom_X9_copyRow_n56 rfl rfl rfl (by decide +kernel) (by decide +kernel) (by decide +kernel) hy_X9_copyRow.2 ⟨Nat.le_of_ble_eq_true rfl, Nat.le_of_ble_eq_true rfl⟩ rfl (Nat.le_of_ble_eq_true rfl) rfl dX8_copyFrom_16 (fun N1 h => ?_)
  refine x_aload_n (i := 1) (q := 1) hC dX8_copyFrom_19 rfl rfl ?_
  refine x_getr (k := 2) (r := (20 * f + 13)) hC (x_objE (j := 11) hf (by decide) rfl) rfl kf_X8_copyFrom_15 dX8_copyFrom_20 ?_
  refine x_aload_n (i := 0) (q := 0) hC dX8_copyFrom_23 rfl rfl ?_
  refine x_getr (k := 2) (r := (20 * e + 13)) hC (x_objE (j := 11) he (by decide) rfl) rfl kf_X8_copyFrom_15 dX8_copyFrom_24 ?_
  refine x_callNv (host := RX9) (As := [.ref (x_a g (20 * f + 13)), .ref (x_a g (20 * e + 13))]) hC h gX8_copyFrom_X9_copyRow_n56 rfl rfl rfl (by decide +kernel) (by decide +kernel) (by decide +kernel) hy_X9_copyRow.2 ⟨Nat.le_of_ble_eq_true rfl, Nat.le_of_ble_eq_true rfl⟩ rfl (Nat.le_of_ble_eq_true rfl) rfl dX8_copyFrom_27 (fun N2 h => ?_)
  refine x_aload_n (i := 1) (q := 1) hC dX8_copyFrom_30 rfl rfl ?_
  refine x_getr (k := 3) (r := (20 * f + 14)) hC (x_objE (j := 11) hf (by decide) rfl) rfl kf_X8_copyFrom_18 dX8_copyFrom_31 ?_
  refine x_aload_n (i := 0) (q := 0) hC dX8_copyFrom_34 rfl rfl ?_
  refine x_getr (k := 3) (r := (20 * e + 14)) hC (x_objE (j := 11) he (by decide) rfl) rfl kf_X8_copyFrom_18 dX8_copyFrom_35 ?_
  refine x_callNv (host := RX9) (As := [.ref (x_a g (20 * f + 14)), .ref (x_a g (20 * e + 14))]) hC h gX8_copyFrom_X9_copyRow_n56 rfl rfl rfl (by decide +kernel) (by decide +kernel) (by decide +kernel) hy_X9_copyRow.2 ⟨Nat.le_of_ble_eq_true rfl, Nat.le_of_ble_eq_true rfl⟩ rfl (Nat.le_of_ble_eq_true rfl) rfl dX8_copyFrom_38 (fun N3 h => ?_)
  exact x_vret hC hr dX8_copyFrom_41 h
theorem kf_X0_copyFrom_12 : x_okf wsX0_copyFrom RX0 12 0 0 = true := by decide +kernel
theorem kf_X0_copyFrom_21 : x_okf wsX0_copyFrom RX0 21 0 1 = true := by decide +kernel
theorem kf_X0_copyFrom_28 : x_okf wsX0_copyFrom RX0 28 0 2 = true := by decide +kernel
theorem kf_X0_copyFrom_35 : x_okf wsX0_copyFrom RX0 35 0 3 = true := by decide +kernel
theorem kf_X0_copyFrom_110 : x_okf wsX0_copyFrom RX0 110 0 4 = true := by decide +kernel
theorem kf_X0_copyFrom_127 : x_okf wsX0_copyFrom RX0 127 0 5 = true := by decide +kernel
def vc_X0_copyFrom (g : xG) (e : Nat) (f : Nat) (M : xM) (P : xM → Prop) : Prop := (mi_X6_copyFrom g e f M (fun N1 => (mi_X7_copyFrom g e f N1 (fun N2 => (mi_X8_copyFrom g e f N2 (fun N3 => (mi_X4_copyFrom g e f N3 (fun N4 => P (x_up (x_up N4 (20 * e) 4 (N4 (20 * f) 4)) (20 * e) 5 ((x_up N4 (20 * e) 4 (N4 (20 * f) 4)) (20 * f) 5))))))))))
set_option maxRecDepth 100000 in
set_option maxHeartbeats 4000000 in
theorem wk_X0_copyFrom {g : xG} (e : Nat) (f : Nat) (he : e < 9) (hf : f < 9) (M : xM) (P : xM → Prop) (h0 : vc_X0_copyFrom g e f M P ) : mi_X0_copyFrom g e f M P := by
  refine x_startV (as := [.ref (x_a g (20 * e)), .ref (x_a g (20 * f))]) (cc := cX0_copyFrom) (n := 2) (ret := none) (own := RX0) (by decide) rfl rfl (Nat.le_of_ble_eq_true rfl) (fun x hC hr => ?_)
  have h := h0
  unfold vc_X0_copyFrom at h
  refine x_aload_n (i := 0) (q := 0) hC dX0_copyFrom_0 rfl rfl ?_
  refine x_getr (k := 0) (r := (20 * e + 1)) hC (x_objE0 (e := e) he rfl) rfl kf_X0_copyFrom_12 dX0_copyFrom_1 ?_
  refine x_aload_n (i := 1) (q := 1) hC dX0_copyFrom_4 rfl rfl ?_
  refine x_getr (k := 0) (r := (20 * f + 1)) hC (x_objE0 (e := f) hf rfl) rfl kf_X0_copyFrom_12 dX0_copyFrom_5 ?_
  refine x_callVv (q := (RX6, TX6, 7)) (As := [.ref (x_a g (20 * f + 1))]) hC (x_objE (j := 1) he (by decide) rfl) rfl h gX0_copyFrom_X6_copyFrom rfl rfl rfl hy_X6_copyFrom ⟨Nat.le_of_ble_eq_true rfl, Nat.le_of_ble_eq_true rfl⟩ rfl (Nat.le_of_ble_eq_true rfl) rfl dX0_copyFrom_8 (fun N1 h => ?_)
  refine x_aload_n (i := 0) (q := 0) hC dX0_copyFrom_11 rfl rfl ?_
  refine x_getr (k := 1) (r := (20 * e + 6)) hC (x_objE0 (e := e) he rfl) rfl kf_X0_copyFrom_21 dX0_copyFrom_12 ?_
  refine x_aload_n (i := 1) (q := 1) hC dX0_copyFrom_15 rfl rfl ?_
  refine x_getr (k := 1) (r := (20 * f + 6)) hC (x_objE0 (e := f) hf rfl) rfl kf_X0_copyFrom_21 dX0_copyFrom_16 ?_
  refine x_callVv (q := (RX7, TX7, 5)) (As := [.ref (x_a g (20 * f + 6))]) hC (x_objE (j := 6) he (by decide) rfl) rfl h gX0_copyFrom_X7_copyFrom rfl rfl rfl hy_X7_copyFrom ⟨Nat.le_of_ble_eq_true rfl, Nat.le_of_ble_eq_true rfl⟩ rfl (Nat.le_of_ble_eq_true rfl) rfl dX0_copyFrom_19 (fun N2 h => ?_)
  refine x_aload_n (i := 0) (q := 0) hC dX0_copyFrom_22 rfl rfl ?_
  refine x_getr (k := 2) (r := (20 * e + 11)) hC (x_objE0 (e := e) he rfl) rfl kf_X0_copyFrom_28 dX0_copyFrom_23 ?_
  refine x_aload_n (i := 1) (q := 1) hC dX0_copyFrom_26 rfl rfl ?_
  refine x_getr (k := 2) (r := (20 * f + 11)) hC (x_objE0 (e := f) hf rfl) rfl kf_X0_copyFrom_28 dX0_copyFrom_27 ?_
  refine x_callVv (q := (RX8, TX8, 4)) (As := [.ref (x_a g (20 * f + 11))]) hC (x_objE (j := 11) he (by decide) rfl) rfl h gX0_copyFrom_X8_copyFrom rfl rfl rfl hy_X8_copyFrom ⟨Nat.le_of_ble_eq_true rfl, Nat.le_of_ble_eq_true rfl⟩ rfl (Nat.le_of_ble_eq_true rfl) rfl dX0_copyFrom_30 (fun N3 h => ?_)
  refine x_aload_n (i := 0) (q := 0) hC dX0_copyFrom_33 rfl rfl ?_
  refine x_getr (k := 3) (r := (20 * e + 15)) hC (x_objE0 (e := e) he rfl) rfl kf_X0_copyFrom_35 dX0_copyFrom_34 ?_
  refine x_aload_n (i := 1) (q := 1) hC dX0_copyFrom_37 rfl rfl ?_
  refine x_getr (k := 3) (r := (20 * f + 15)) hC (x_objE0 (e := f) hf rfl) rfl kf_X0_copyFrom_35 dX0_copyFrom_38 ?_
  refine x_callVv (q := (RX4, TX4, 5)) (As := [.ref (x_a g (20 * f + 15))]) hC (x_objE (j := 15) he (by decide) rfl) rfl h gX0_copyFrom_X4_copyFrom rfl rfl rfl hy_X4_copyFrom ⟨Nat.le_of_ble_eq_true rfl, Nat.le_of_ble_eq_true rfl⟩ rfl (Nat.le_of_ble_eq_true rfl) rfl dX0_copyFrom_41 (fun N4 h => ?_)
  refine x_aload_n (i := 0) (q := 0) hC dX0_copyFrom_44 rfl rfl ?_
  refine x_aload_n (i := 1) (q := 1) hC dX0_copyFrom_45 rfl rfl ?_
  refine x_geti (k := 4) hC (x_objE0 (e := f) hf rfl) rfl kf_X0_copyFrom_110 dX0_copyFrom_46 ?_
  refine x_puti (k := 4) hC (x_objE0 (e := e) he rfl) rfl kf_X0_copyFrom_110 kp_0_4 dX0_copyFrom_49 ?_
  refine x_aload_n (i := 0) (q := 0) hC dX0_copyFrom_52 rfl rfl ?_
  refine x_aload_n (i := 1) (q := 1) hC dX0_copyFrom_53 rfl rfl ?_
  refine x_geti (k := 5) hC (x_objE0 (e := f) hf rfl) rfl kf_X0_copyFrom_127 dX0_copyFrom_54 ?_
  refine x_puti (k := 5) hC (x_objE0 (e := e) he rfl) rfl kf_X0_copyFrom_127 kp_0_5 dX0_copyFrom_57 ?_
  exact x_vret hC hr dX0_copyFrom_60 h
theorem kf_X1_keep_11 : x_okf wsX1_keep RX1 11 1 0 = true := by decide +kernel
theorem kf_X1_keep_18 : x_okf wsX1_keep RX1 18 1 2 = true := by decide +kernel
theorem kf_X1_keep_26 : x_okf wsX1_keep RX1 26 1 1 = true := by decide +kernel
def vc_X1_keep (g : xG) (M : xM) (P : xM → Prop) : Prop := (vp_in (M 181 2) 6 ∧ (mi_X0_copyFrom g (1 + ((M 181 2)).toNatClampNeg) 0 M (fun N1 => ((¬ (N1 181 2) = (5 : Int32) → (∀ N2 : xM, N2 = (x_up (x_up N1 181 2 ((N1 181 2) + (1 : Int32))) 181 1 (if (6 : Int32) < (((x_up N1 181 2 ((N1 181 2) + (1 : Int32))) 181 1) + (1 : Int32)) then (6 : Int32) else (((x_up N1 181 2 ((N1 181 2) + (1 : Int32))) 181 1) + (1 : Int32)))) → P N2)) ∧ ((N1 181 2) = (5 : Int32) → (∀ N3 : xM, N3 = (x_up (x_up N1 181 2 (0 : Int32)) 181 1 (if (6 : Int32) < (((x_up N1 181 2 (0 : Int32)) 181 1) + (1 : Int32)) then (6 : Int32) else (((x_up N1 181 2 (0 : Int32)) 181 1) + (1 : Int32)))) → P N3))))))
set_option maxRecDepth 100000 in
set_option maxHeartbeats 4000000 in
theorem wk_X1_keep {g : xG}  (M : xM) (P : xM → Prop) (h0 : vc_X1_keep g M P ) : mi_X1_keep g M P := by
  refine x_startV (as := [.ref (x_a g 181), .ref (x_a g 0)]) (cc := cX1_keep) (n := 2) (ret := none) (own := RX1) (by decide) rfl rfl (Nat.le_of_ble_eq_true rfl) (fun x hC hr => ?_)
  have h := h0
  unfold vc_X1_keep at h
  refine x_aload_n (i := 0) (q := 0) hC dX1_keep_0 rfl rfl ?_
  refine x_getr (k := 0) (r := 182) hC xo_181 rfl kf_X1_keep_11 dX1_keep_1 ?_
  refine x_aload_n (i := 0) (q := 0) hC dX1_keep_4 rfl rfl ?_
  refine x_geti (k := 2) hC xo_181 rfl kf_X1_keep_18 dX1_keep_5 ?_
  refine x_aald (len := 6) (b := 1) hC xr_182 h.1 dX1_keep_8 ?_
  have hx_8 := x_inE (b := 1) h.1 (by decide)
  replace h := h.2
  refine x_aload_n (i := 1) (q := 1) hC dX1_keep_9 rfl rfl ?_
  refine x_callVv (q := (RX0, TX0, 6)) (As := [.ref (x_a g 0)]) hC (x_objE0 (e := (1 + ((M 181 2)).toNatClampNeg)) hx_8 rfl) rfl h gX1_keep_X0_copyFrom rfl rfl rfl hy_X0_copyFrom ⟨Nat.le_of_ble_eq_true rfl, Nat.le_of_ble_eq_true rfl⟩ rfl (Nat.le_of_ble_eq_true rfl) rfl dX1_keep_10 (fun N1 h => ?_)
  refine x_aload_n (i := 0) (q := 0) hC dX1_keep_13 rfl rfl ?_
  refine x_aload_n (i := 0) (q := 0) hC dX1_keep_14 rfl rfl ?_
  refine x_geti (k := 2) hC xo_181 rfl kf_X1_keep_18 dX1_keep_15 ?_
  refine x_iconst (v := 5) hC dX1_keep_18 (by decide) ?_
  refine x_icmp_ne (t := 26) hC dX1_keep_19 (by decide) (fun q => ?_) (fun q => ?_)
  · replace h := h.1 q
    refine x_aload_n (i := 0) (q := 0) hC dX1_keep_26 rfl rfl ?_
    refine x_geti (k := 2) hC xo_181 rfl kf_X1_keep_18 dX1_keep_27 ?_
    refine x_iconst (v := 1) hC dX1_keep_30 (by decide) ?_
    refine x_iadd hC dX1_keep_31 ?_
    refine x_puti (k := 2) hC xo_181 rfl kf_X1_keep_18 kp_1_2 dX1_keep_32 ?_
    refine x_aload_n (i := 0) (q := 0) hC dX1_keep_35 rfl rfl ?_
    refine x_aload_n (i := 0) (q := 0) hC dX1_keep_36 rfl rfl ?_
    refine x_geti (k := 1) hC xo_181 rfl kf_X1_keep_26 dX1_keep_37 ?_
    refine x_iconst (v := 1) hC dX1_keep_40 (by decide) ?_
    refine x_iadd hC dX1_keep_41 ?_
    refine x_bipush (v := 6) hC dX1_keep_42 (by decide) ?_
    refine x_mmin (idx := 29) hC (by decide +kernel) (by decide +kernel) (by decide +kernel) (by decide +kernel) (Nat.le_of_ble_eq_true rfl) (Nat.le_of_ble_eq_true rfl) dX1_keep_44 ?_
    refine x_puti (k := 1) hC xo_181 rfl kf_X1_keep_26 kp_1_1 dX1_keep_47 ?_
    refine x_topM (fun N2 qN2 => ?_)
    replace h := h N2 qN2
    exact x_vret hC hr dX1_keep_50 h
  · replace h := h.2 q
    refine x_iconst (v := 0) hC dX1_keep_22 (by decide) ?_
    refine x_goto (t := 32) hC dX1_keep_23 (by decide) ?_
    refine x_puti (k := 2) hC xo_181 rfl kf_X1_keep_18 kp_1_2 dX1_keep_32 ?_
    refine x_aload_n (i := 0) (q := 0) hC dX1_keep_35 rfl rfl ?_
    refine x_aload_n (i := 0) (q := 0) hC dX1_keep_36 rfl rfl ?_
    refine x_geti (k := 1) hC xo_181 rfl kf_X1_keep_26 dX1_keep_37 ?_
    refine x_iconst (v := 1) hC dX1_keep_40 (by decide) ?_
    refine x_iadd hC dX1_keep_41 ?_
    refine x_bipush (v := 6) hC dX1_keep_42 (by decide) ?_
    refine x_mmin (idx := 29) hC (by decide +kernel) (by decide +kernel) (by decide +kernel) (by decide +kernel) (Nat.le_of_ble_eq_true rfl) (Nat.le_of_ble_eq_true rfl) dX1_keep_44 ?_
    refine x_puti (k := 1) hC xo_181 rfl kf_X1_keep_26 kp_1_1 dX1_keep_47 ?_
    refine x_topM (fun N3 qN3 => ?_)
    replace h := h N3 qN3
    exact x_vret hC hr dX1_keep_50 h
theorem kf_X0_errorOfNames_12 : x_okf wsX0_errorOfNames RX0 12 0 0 = true := by decide +kernel
theorem kf_X0_errorOfNames_21 : x_okf wsX0_errorOfNames RX0 21 0 1 = true := by decide +kernel
def vc_X0_errorOfNames (g : xG) (v1 : Int32) (v2 : Int32) (v3 : Int32) (M : xM) (P : Int32 → xM → Prop) : Prop := (mi_X6_has g v1 M (fun r1 N2 => ((r1 = 0 → P (-1 : Int32) N2) ∧ (¬ (r1 = 0) → ((v2 = (-6 : Int32) → (mi_X7_has g v3 N2 (fun r3 N4 => ((¬ r3 = 0 → ((¬ v1 = v2 → P (0 : Int32) N4) ∧ (v1 = v2 → P (-2 : Int32) N4))) ∧ (r3 = 0 → P (-1 : Int32) N4))))) ∧ (¬ (v2 = (-6 : Int32)) → (mi_X6_has g v2 N2 (fun r5 N6 => ((r5 = 0 → P (-1 : Int32) N6) ∧ (¬ (r5 = 0) → (mi_X7_has g v3 N6 (fun r7 N8 => ((¬ r7 = 0 → ((¬ v1 = v2 → P (0 : Int32) N8) ∧ (v1 = v2 → P (-2 : Int32) N8))) ∧ (r7 = 0 → P (-1 : Int32) N8))))))))))))))
set_option maxRecDepth 100000 in
set_option maxHeartbeats 4000000 in
theorem wk_X0_errorOfNames {g : xG} (v1 : Int32) (v2 : Int32) (v3 : Int32) (M : xM) (P : Int32 → xM → Prop) (h0 : vc_X0_errorOfNames g v1 v2 v3 M P ) : mi_X0_errorOfNames g v1 v2 v3 M P := by
  refine x_startI (as := [.ref (x_a g 0), .int v1, .int v2, .int v3]) (cc := cX0_errorOfNames) (n := 4) (ret := (some .int)) (own := RX0) (by decide) rfl rfl (Nat.le_of_ble_eq_true rfl) (fun x hC hr => ?_)
  have h := h0
  unfold vc_X0_errorOfNames at h
  refine x_aload_n (i := 0) (q := 0) hC dX0_errorOfNames_0 rfl rfl ?_
  refine x_getr (k := 0) (r := 1) hC xo_0 rfl kf_X0_errorOfNames_12 dX0_errorOfNames_1 ?_
  refine x_iload_n (i := 1) (q := 1) hC dX0_errorOfNames_4 rfl rfl ?_
  refine x_callVi (q := (RX6, TX6, 7)) (As := [.int v1]) hC xo_1 rfl h gX0_errorOfNames_X6_has rfl rfl rfl hy_X6_has ⟨Nat.le_of_ble_eq_true rfl, Nat.le_of_ble_eq_true rfl⟩ rfl (Nat.le_of_ble_eq_true rfl) rfl dX0_errorOfNames_5 (fun r1 N2 h => ?_)
  refine x_if_eq (t := 39) hC dX0_errorOfNames_8 (by decide) (fun q => ?_) (fun q => ?_)
  · replace h := h.1 q
    refine x_iconst (v := -1) hC dX0_errorOfNames_39 (by decide) ?_
    exact x_iret hC hr dX0_errorOfNames_40 h
  · replace h := h.2 q
    refine x_iload_n (i := 2) (q := 2) hC dX0_errorOfNames_11 rfl rfl ?_
    refine x_bipush (v := -6) hC dX0_errorOfNames_12 (by decide) ?_
    refine x_icmp_eq (t := 28) hC dX0_errorOfNames_14 (by decide) (fun q => ?_) (fun q => ?_)
    · replace h := h.1 q
      refine x_aload_n (i := 0) (q := 0) hC dX0_errorOfNames_28 rfl rfl ?_
      refine x_getr (k := 1) (r := 6) hC xo_0 rfl kf_X0_errorOfNames_21 dX0_errorOfNames_29 ?_
      refine x_iload_n (i := 3) (q := 3) hC dX0_errorOfNames_32 rfl rfl ?_
      refine x_callVi (q := (RX7, TX7, 5)) (As := [.int v3]) hC xo_6 rfl h gX0_errorOfNames_X7_has rfl rfl rfl hy_X7_has ⟨Nat.le_of_ble_eq_true rfl, Nat.le_of_ble_eq_true rfl⟩ rfl (Nat.le_of_ble_eq_true rfl) rfl dX0_errorOfNames_33 (fun r3 N4 h => ?_)
      refine x_if_ne (t := 41) hC dX0_errorOfNames_36 (by decide) (fun q => ?_) (fun q => ?_)
      · replace h := h.1 q
        refine x_iload_n (i := 1) (q := 1) hC dX0_errorOfNames_41 rfl rfl ?_
        refine x_iload_n (i := 2) (q := 2) hC dX0_errorOfNames_42 rfl rfl ?_
        refine x_icmp_ne (t := 51) hC dX0_errorOfNames_43 (by decide) (fun q => ?_) (fun q => ?_)
        · replace h := h.1 q
          refine x_iconst (v := 0) hC dX0_errorOfNames_51 (by decide) ?_
          exact x_iret hC hr dX0_errorOfNames_52 h
        · replace h := h.2 q
          refine x_bipush (v := -2) hC dX0_errorOfNames_46 (by decide) ?_
          refine x_goto (t := 52) hC dX0_errorOfNames_48 (by decide) ?_
          exact x_iret hC hr dX0_errorOfNames_52 h
      · replace h := h.2 q
        refine x_iconst (v := -1) hC dX0_errorOfNames_39 (by decide) ?_
        exact x_iret hC hr dX0_errorOfNames_40 h
    · replace h := h.2 q
      refine x_aload_n (i := 0) (q := 0) hC dX0_errorOfNames_17 rfl rfl ?_
      refine x_getr (k := 0) (r := 1) hC xo_0 rfl kf_X0_errorOfNames_12 dX0_errorOfNames_18 ?_
      refine x_iload_n (i := 2) (q := 2) hC dX0_errorOfNames_21 rfl rfl ?_
      refine x_callVi (q := (RX6, TX6, 7)) (As := [.int v2]) hC xo_1 rfl h gX0_errorOfNames_X6_has rfl rfl rfl hy_X6_has ⟨Nat.le_of_ble_eq_true rfl, Nat.le_of_ble_eq_true rfl⟩ rfl (Nat.le_of_ble_eq_true rfl) rfl dX0_errorOfNames_22 (fun r5 N6 h => ?_)
      refine x_if_eq (t := 39) hC dX0_errorOfNames_25 (by decide) (fun q => ?_) (fun q => ?_)
      · replace h := h.1 q
        refine x_iconst (v := -1) hC dX0_errorOfNames_39 (by decide) ?_
        exact x_iret hC hr dX0_errorOfNames_40 h
      · replace h := h.2 q
        refine x_aload_n (i := 0) (q := 0) hC dX0_errorOfNames_28 rfl rfl ?_
        refine x_getr (k := 1) (r := 6) hC xo_0 rfl kf_X0_errorOfNames_21 dX0_errorOfNames_29 ?_
        refine x_iload_n (i := 3) (q := 3) hC dX0_errorOfNames_32 rfl rfl ?_
        refine x_callVi (q := (RX7, TX7, 5)) (As := [.int v3]) hC xo_6 rfl h gX0_errorOfNames_X7_has rfl rfl rfl hy_X7_has ⟨Nat.le_of_ble_eq_true rfl, Nat.le_of_ble_eq_true rfl⟩ rfl (Nat.le_of_ble_eq_true rfl) rfl dX0_errorOfNames_33 (fun r7 N8 h => ?_)
        refine x_if_ne (t := 41) hC dX0_errorOfNames_36 (by decide) (fun q => ?_) (fun q => ?_)
        · replace h := h.1 q
          refine x_iload_n (i := 1) (q := 1) hC dX0_errorOfNames_41 rfl rfl ?_
          refine x_iload_n (i := 2) (q := 2) hC dX0_errorOfNames_42 rfl rfl ?_
          refine x_icmp_ne (t := 51) hC dX0_errorOfNames_43 (by decide) (fun q => ?_) (fun q => ?_)
          · replace h := h.1 q
            refine x_iconst (v := 0) hC dX0_errorOfNames_51 (by decide) ?_
            exact x_iret hC hr dX0_errorOfNames_52 h
          · replace h := h.2 q
            refine x_bipush (v := -2) hC dX0_errorOfNames_46 (by decide) ?_
            refine x_goto (t := 52) hC dX0_errorOfNames_48 (by decide) ?_
            exact x_iret hC hr dX0_errorOfNames_52 h
        · replace h := h.2 q
          refine x_iconst (v := -1) hC dX0_errorOfNames_39 (by decide) ?_
          exact x_iret hC hr dX0_errorOfNames_40 h
theorem kf_X0_keyAndTen_12 : x_okf wsX0_keyAndTen RX0 12 0 0 = true := by decide +kernel
theorem kf_X0_keyAndTen_51 : x_okf wsX0_keyAndTen RX0 51 6 3 = true := by decide +kernel
theorem kf_X0_keyAndTen_55 : x_okf wsX0_keyAndTen RX0 55 6 4 = true := by decide +kernel
theorem kf_X0_keyAndTen_21 : x_okf wsX0_keyAndTen RX0 21 0 1 = true := by decide +kernel
def vc_X0_keyAndTen (g : xG) (v1 : Int32) (v2 : Int32) (v3 : Int32) (M : xM) (P : Int32 → xM → Prop) : Prop := (vp_in v1 12 ∧ (vp_in v1 12 ∧ ((v2 = (-6 : Int32) → (mi_X7_keyAndTenBetween g (M 2 (v1).toNatClampNeg) (M 3 (v1).toNatClampNeg) v3 M (fun r1 N2 => P r1 N2))) ∧ (¬ (v2 = (-6 : Int32)) → (vp_in v2 12 ∧ (∀ y3 : Int32, y3 = (if (M 2 (v1).toNatClampNeg) < (M 2 (v2).toNatClampNeg) then (M 2 (v2).toNatClampNeg) else (M 2 (v1).toNatClampNeg)) → (vp_in v2 12 ∧ (∀ y4 : Int32, y4 = (if (M 3 (v2).toNatClampNeg) < (M 3 (v1).toNatClampNeg) then (M 3 (v2).toNatClampNeg) else (M 3 (v1).toNatClampNeg)) → (mi_X7_keyAndTenBetween g y3 y4 v3 M (fun r5 N6 => P r5 N6))))))))))
set_option maxRecDepth 100000 in
set_option maxHeartbeats 4000000 in
theorem wk_X0_keyAndTen {g : xG} (v1 : Int32) (v2 : Int32) (v3 : Int32) (M : xM) (P : Int32 → xM → Prop) (h0 : vc_X0_keyAndTen g v1 v2 v3 M P ) : mi_X0_keyAndTen g v1 v2 v3 M P := by
  refine x_startI (as := [.ref (x_a g 0), .int v1, .int v2, .int v3]) (cc := cX0_keyAndTen) (n := 6) (ret := (some .int)) (own := RX0) (by decide) rfl rfl (Nat.le_of_ble_eq_true rfl) (fun x hC hr => ?_)
  have h := h0
  unfold vc_X0_keyAndTen at h
  refine x_aload_n (i := 0) (q := 0) hC dX0_keyAndTen_0 rfl rfl ?_
  refine x_getr (k := 0) (r := 1) hC xo_0 rfl kf_X0_keyAndTen_12 dX0_keyAndTen_1 ?_
  refine x_getr (k := 3) (r := 2) hC xo_1 rfl kf_X0_keyAndTen_51 dX0_keyAndTen_4 ?_
  refine x_iload_n (i := 1) (q := 1) hC dX0_keyAndTen_7 rfl rfl ?_
  refine x_iald (len := 12) hC xa_2 h.1 dX0_keyAndTen_8 ?_
  replace h := h.2
  refine x_istore (ls' := [(4, .int (M 2 (v1).toNatClampNeg)), (0, .ref (x_a g 0)), (1, .int v1), (2, .int v2), (3, .int v3)]) hC dX0_keyAndTen_9 (by decide) rfl ?_
  refine x_aload_n (i := 0) (q := 1) hC dX0_keyAndTen_11 rfl rfl ?_
  refine x_getr (k := 0) (r := 1) hC xo_0 rfl kf_X0_keyAndTen_12 dX0_keyAndTen_12 ?_
  refine x_getr (k := 4) (r := 3) hC xo_1 rfl kf_X0_keyAndTen_55 dX0_keyAndTen_15 ?_
  refine x_iload_n (i := 1) (q := 2) hC dX0_keyAndTen_18 rfl rfl ?_
  refine x_iald (len := 12) hC xa_3 h.1 dX0_keyAndTen_19 ?_
  replace h := h.2
  refine x_istore (ls' := [(5, .int (M 3 (v1).toNatClampNeg)), (4, .int (M 2 (v1).toNatClampNeg)), (0, .ref (x_a g 0)), (1, .int v1), (2, .int v2), (3, .int v3)]) hC dX0_keyAndTen_20 (by decide) rfl ?_
  refine x_iload_n (i := 2) (q := 4) hC dX0_keyAndTen_22 rfl rfl ?_
  refine x_bipush (v := -6) hC dX0_keyAndTen_23 (by decide) ?_
  refine x_icmp_eq (t := 60) hC dX0_keyAndTen_25 (by decide) (fun q => ?_) (fun q => ?_)
  · replace h := h.1 q
    refine x_aload_n (i := 0) (q := 2) hC dX0_keyAndTen_60 rfl rfl ?_
    refine x_getr (k := 1) (r := 6) hC xo_0 rfl kf_X0_keyAndTen_21 dX0_keyAndTen_61 ?_
    refine x_iload (q := 1) hC dX0_keyAndTen_64 rfl ?_
    refine x_iload (q := 0) hC dX0_keyAndTen_66 rfl ?_
    refine x_iload_n (i := 3) (q := 5) hC dX0_keyAndTen_68 rfl rfl ?_
    refine x_callVi (q := (RX7, TX7, 5)) (As := [.int (M 2 (v1).toNatClampNeg), .int (M 3 (v1).toNatClampNeg), .int v3]) hC xo_6 rfl h gX0_keyAndTen_X7_keyAndTenBetween rfl rfl rfl hy_X7_keyAndTenBetween ⟨Nat.le_of_ble_eq_true rfl, Nat.le_of_ble_eq_true rfl⟩ rfl (Nat.le_of_ble_eq_true rfl) rfl dX0_keyAndTen_69 (fun r1 N2 h => ?_)
    exact x_iret hC hr dX0_keyAndTen_72 h
  · replace h := h.2 q
    refine x_iload (q := 1) hC dX0_keyAndTen_28 rfl ?_
    refine x_aload_n (i := 0) (q := 2) hC dX0_keyAndTen_30 rfl rfl ?_
    refine x_getr (k := 0) (r := 1) hC xo_0 rfl kf_X0_keyAndTen_12 dX0_keyAndTen_31 ?_
    refine x_getr (k := 3) (r := 2) hC xo_1 rfl kf_X0_keyAndTen_51 dX0_keyAndTen_34 ?_
    refine x_iload_n (i := 2) (q := 4) hC dX0_keyAndTen_37 rfl rfl ?_
    refine x_iald (len := 12) hC xa_2 h.1 dX0_keyAndTen_38 ?_
    replace h := h.2
    refine x_mmax (idx := 58) hC (by decide +kernel) (by decide +kernel) (by decide +kernel) (by decide +kernel) (Nat.le_of_ble_eq_true rfl) (Nat.le_of_ble_eq_true rfl) dX0_keyAndTen_39 ?_
    refine x_topi (fun y3 qy3 => ?_)
    replace h := h y3 qy3
    refine x_istore (ls' := [(4, .int y3), (5, .int (M 3 (v1).toNatClampNeg)), (0, .ref (x_a g 0)), (1, .int v1), (2, .int v2), (3, .int v3)]) hC dX0_keyAndTen_42 (by decide) rfl ?_
    refine x_iload (q := 1) hC dX0_keyAndTen_44 rfl ?_
    refine x_aload_n (i := 0) (q := 2) hC dX0_keyAndTen_46 rfl rfl ?_
    refine x_getr (k := 0) (r := 1) hC xo_0 rfl kf_X0_keyAndTen_12 dX0_keyAndTen_47 ?_
    refine x_getr (k := 4) (r := 3) hC xo_1 rfl kf_X0_keyAndTen_55 dX0_keyAndTen_50 ?_
    refine x_iload_n (i := 2) (q := 4) hC dX0_keyAndTen_53 rfl rfl ?_
    refine x_iald (len := 12) hC xa_3 h.1 dX0_keyAndTen_54 ?_
    replace h := h.2
    refine x_mmin (idx := 64) hC (by decide +kernel) (by decide +kernel) (by decide +kernel) (by decide +kernel) (Nat.le_of_ble_eq_true rfl) (Nat.le_of_ble_eq_true rfl) dX0_keyAndTen_55 ?_
    refine x_topi (fun y4 qy4 => ?_)
    replace h := h y4 qy4
    refine x_istore (ls' := [(5, .int y4), (4, .int y3), (0, .ref (x_a g 0)), (1, .int v1), (2, .int v2), (3, .int v3)]) hC dX0_keyAndTen_58 (by decide) rfl ?_
    refine x_aload_n (i := 0) (q := 2) hC dX0_keyAndTen_60 rfl rfl ?_
    refine x_getr (k := 1) (r := 6) hC xo_0 rfl kf_X0_keyAndTen_21 dX0_keyAndTen_61 ?_
    refine x_iload (q := 1) hC dX0_keyAndTen_64 rfl ?_
    refine x_iload (q := 0) hC dX0_keyAndTen_66 rfl ?_
    refine x_iload_n (i := 3) (q := 5) hC dX0_keyAndTen_68 rfl rfl ?_
    refine x_callVi (q := (RX7, TX7, 5)) (As := [.int y3, .int y4, .int v3]) hC xo_6 rfl h gX0_keyAndTen_X7_keyAndTenBetween rfl rfl rfl hy_X7_keyAndTenBetween ⟨Nat.le_of_ble_eq_true rfl, Nat.le_of_ble_eq_true rfl⟩ rfl (Nat.le_of_ble_eq_true rfl) rfl dX0_keyAndTen_69 (fun r5 N6 h => ?_)
    exact x_iret hC hr dX0_keyAndTen_72 h
def vc_X0_errorOfWish (g : xG) (v1 : Int32) (v2 : Int32) (v3 : Int32) (v4 : Int32) (M : xM) (P : Int32 → xM → Prop) : Prop := (mi_X0_errorOfNames g v1 v2 v3 M (fun r1 N2 => ((r1 = 0 → ((v4 < (20 : Int32) → (mi_X0_keyAndTen g v1 v2 v3 N2 (fun r3 N4 => ((¬ r3 = (-6 : Int32) → P (0 : Int32) N4) ∧ (r3 = (-6 : Int32) → P (-5 : Int32) N4))))) ∧ (¬ (v4 < (20 : Int32)) → P (-4 : Int32) N2))) ∧ (¬ (r1 = 0) → P r1 N2))))
set_option maxRecDepth 100000 in
set_option maxHeartbeats 4000000 in
theorem wk_X0_errorOfWish {g : xG} (v1 : Int32) (v2 : Int32) (v3 : Int32) (v4 : Int32) (M : xM) (P : Int32 → xM → Prop) (h0 : vc_X0_errorOfWish g v1 v2 v3 v4 M P ) : mi_X0_errorOfWish g v1 v2 v3 v4 M P := by
  refine x_startI (as := [.ref (x_a g 0), .int v1, .int v2, .int v3, .int v4]) (cc := cX0_errorOfWish) (n := 6) (ret := (some .int)) (own := RX0) (by decide) rfl rfl (Nat.le_of_ble_eq_true rfl) (fun x hC hr => ?_)
  have h := h0
  unfold vc_X0_errorOfWish at h
  refine x_aload_n (i := 0) (q := 0) hC dX0_errorOfWish_0 rfl rfl ?_
  refine x_iload_n (i := 1) (q := 1) hC dX0_errorOfWish_1 rfl rfl ?_
  refine x_iload_n (i := 2) (q := 2) hC dX0_errorOfWish_2 rfl rfl ?_
  refine x_iload_n (i := 3) (q := 3) hC dX0_errorOfWish_3 rfl rfl ?_
  refine x_callVi (q := (RX0, TX0, 6)) (As := [.int v1, .int v2, .int v3]) hC xo_0 rfl h gX0_errorOfWish_X0_errorOfNames rfl rfl rfl hy_X0_errorOfNames ⟨Nat.le_of_ble_eq_true rfl, Nat.le_of_ble_eq_true rfl⟩ rfl (Nat.le_of_ble_eq_true rfl) rfl dX0_errorOfWish_4 (fun r1 N2 h => ?_)
  refine x_istore (ls' := [(5, .int r1), (0, .ref (x_a g 0)), (1, .int v1), (2, .int v2), (3, .int v3), (4, .int v4)]) hC dX0_errorOfWish_7 (by decide) rfl ?_
  refine x_iload (q := 0) hC dX0_errorOfWish_9 rfl ?_
  refine x_if_eq (t := 17) hC dX0_errorOfWish_11 (by decide) (fun q => ?_) (fun q => ?_)
  · replace h := h.1 q
    refine x_iload (q := 5) hC dX0_errorOfWish_17 rfl ?_
    refine x_bipush (v := 20) hC dX0_errorOfWish_19 (by decide) ?_
    refine x_icmp_lt (t := 27) hC dX0_errorOfWish_21 (by decide) (fun q => ?_) (fun q => ?_)
    · replace h := h.1 q
      refine x_aload_n (i := 0) (q := 1) hC dX0_errorOfWish_27 rfl rfl ?_
      refine x_iload_n (i := 1) (q := 2) hC dX0_errorOfWish_28 rfl rfl ?_
      refine x_iload_n (i := 2) (q := 3) hC dX0_errorOfWish_29 rfl rfl ?_
      refine x_iload_n (i := 3) (q := 4) hC dX0_errorOfWish_30 rfl rfl ?_
      refine x_callVi (q := (RX0, TX0, 6)) (As := [.int v1, .int v2, .int v3]) hC xo_0 rfl h gX0_errorOfWish_X0_keyAndTen rfl rfl rfl hy_X0_keyAndTen ⟨Nat.le_of_ble_eq_true rfl, Nat.le_of_ble_eq_true rfl⟩ rfl (Nat.le_of_ble_eq_true rfl) rfl dX0_errorOfWish_31 (fun r3 N4 h => ?_)
      refine x_bipush (v := -6) hC dX0_errorOfWish_34 (by decide) ?_
      refine x_icmp_ne (t := 44) hC dX0_errorOfWish_36 (by decide) (fun q => ?_) (fun q => ?_)
      · replace h := h.1 q
        refine x_iconst (v := 0) hC dX0_errorOfWish_44 (by decide) ?_
        exact x_iret hC hr dX0_errorOfWish_45 h
      · replace h := h.2 q
        refine x_bipush (v := -5) hC dX0_errorOfWish_39 (by decide) ?_
        refine x_goto (t := 45) hC dX0_errorOfWish_41 (by decide) ?_
        exact x_iret hC hr dX0_errorOfWish_45 h
    · replace h := h.2 q
      refine x_bipush (v := -4) hC dX0_errorOfWish_24 (by decide) ?_
      exact x_iret hC hr dX0_errorOfWish_26 h
  · replace h := h.2 q
    refine x_iload (q := 0) hC dX0_errorOfWish_14 rfl ?_
    exact x_iret hC hr dX0_errorOfWish_16 h
theorem kf_X8_add_21 : x_okf wsX8_add RX8 21 8 0 = true := by decide +kernel
theorem kf_X8_add_9 : x_okf wsX8_add RX8 9 8 1 = true := by decide +kernel
theorem kf_X8_add_15 : x_okf wsX8_add RX8 15 8 2 = true := by decide +kernel
theorem kf_X8_add_18 : x_okf wsX8_add RX8 18 8 3 = true := by decide +kernel
def vc_X8_add (g : xG) (v1 : Int32) (v2 : Int32) (v3 : Int32) (M : xM) (P : Int32 → xM → Prop) : Prop := (vp_in (M 11 0) 20 ∧ (vp_in (M 11 0) 20 ∧ (vp_in (M 11 0) 20 ∧ (∀ N1 : xM, N1 = (x_up (x_up (x_up (x_up M 12 ((M 11 0)).toNatClampNeg v1) 13 ((M 11 0)).toNatClampNeg v2) 14 ((M 11 0)).toNatClampNeg v3) 11 0 (((x_up (x_up (x_up M 12 ((M 11 0)).toNatClampNeg v1) 13 ((M 11 0)).toNatClampNeg v2) 14 ((M 11 0)).toNatClampNeg v3) 11 0) + (1 : Int32))) → P (M 11 0) N1))))
set_option maxRecDepth 100000 in
set_option maxHeartbeats 4000000 in
theorem wk_X8_add {g : xG} (v1 : Int32) (v2 : Int32) (v3 : Int32) (M : xM) (P : Int32 → xM → Prop) (h0 : vc_X8_add g v1 v2 v3 M P ) : mi_X8_add g v1 v2 v3 M P := by
  refine x_startI (as := [.ref (x_a g 11), .int v1, .int v2, .int v3]) (cc := cX8_add) (n := 5) (ret := (some .int)) (own := RX8) (by decide) rfl rfl (Nat.le_of_ble_eq_true rfl) (fun x hC hr => ?_)
  have h := h0
  unfold vc_X8_add at h
  refine x_aload_n (i := 0) (q := 0) hC dX8_add_0 rfl rfl ?_
  refine x_geti (k := 0) hC xo_11 rfl kf_X8_add_21 dX8_add_1 ?_
  refine x_istore (ls' := [(4, .int (M 11 0)), (0, .ref (x_a g 11)), (1, .int v1), (2, .int v2), (3, .int v3)]) hC dX8_add_4 (by decide) rfl ?_
  refine x_aload_n (i := 0) (q := 1) hC dX8_add_6 rfl rfl ?_
  refine x_getr (k := 1) (r := 12) hC xo_11 rfl kf_X8_add_9 dX8_add_7 ?_
  refine x_iload (q := 0) hC dX8_add_10 rfl ?_
  refine x_iload_n (i := 1) (q := 2) hC dX8_add_12 rfl rfl ?_
  refine x_iast (len := 20) hC xa_12 h.1 dX8_add_13 ?_
  replace h := h.2
  refine x_aload_n (i := 0) (q := 1) hC dX8_add_14 rfl rfl ?_
  refine x_getr (k := 2) (r := 13) hC xo_11 rfl kf_X8_add_15 dX8_add_15 ?_
  refine x_iload (q := 0) hC dX8_add_18 rfl ?_
  refine x_iload_n (i := 2) (q := 3) hC dX8_add_20 rfl rfl ?_
  refine x_iast (len := 20) hC xa_13 h.1 dX8_add_21 ?_
  replace h := h.2
  refine x_aload_n (i := 0) (q := 1) hC dX8_add_22 rfl rfl ?_
  refine x_getr (k := 3) (r := 14) hC xo_11 rfl kf_X8_add_18 dX8_add_23 ?_
  refine x_iload (q := 0) hC dX8_add_26 rfl ?_
  refine x_iload_n (i := 3) (q := 4) hC dX8_add_28 rfl rfl ?_
  refine x_iast (len := 20) hC xa_14 h.1 dX8_add_29 ?_
  replace h := h.2
  refine x_aload_n (i := 0) (q := 1) hC dX8_add_30 rfl rfl ?_
  refine x_dup hC dX8_add_31 rfl ?_
  refine x_geti (k := 0) hC xo_11 rfl kf_X8_add_21 dX8_add_32 ?_
  refine x_iconst (v := 1) hC dX8_add_35 (by decide) ?_
  refine x_iadd hC dX8_add_36 ?_
  refine x_puti (k := 0) hC xo_11 rfl kf_X8_add_21 kp_8_0 dX8_add_37 ?_
  refine x_topM (fun N1 qN1 => ?_)
  replace h := h N1 qN1
  refine x_iload (q := 0) hC dX8_add_40 rfl ?_
  exact x_iret hC hr dX8_add_42 h
theorem kf_X8_has_21 : x_okf wsX8_has RX8 21 8 0 = true := by decide +kernel
def vc_X8_has (g : xG) (v1 : Int32) (M : xM) (P : Int32 → xM → Prop) : Prop := (mi_X9_isBetween g v1 (0 : Int32) ((M 11 0) - (1 : Int32)) M (fun r1 N2 => (narrow .boolean (.int r1) = .int r1 ∧ P r1 N2)))
set_option maxRecDepth 100000 in
set_option maxHeartbeats 4000000 in
theorem wk_X8_has {g : xG} (v1 : Int32) (M : xM) (P : Int32 → xM → Prop) (h0 : vc_X8_has g v1 M P ) : mi_X8_has g v1 M P := by
  refine x_startI (as := [.ref (x_a g 11), .int v1]) (cc := cX8_has) (n := 2) (ret := (some .boolean)) (own := RX8) (by decide) rfl rfl (Nat.le_of_ble_eq_true rfl) (fun x hC hr => ?_)
  have h := h0
  unfold vc_X8_has at h
  refine x_iload_n (i := 1) (q := 1) hC dX8_has_0 rfl rfl ?_
  refine x_iconst (v := 0) hC dX8_has_1 (by decide) ?_
  refine x_aload_n (i := 0) (q := 0) hC dX8_has_2 rfl rfl ?_
  refine x_geti (k := 0) hC xo_11 rfl kf_X8_has_21 dX8_has_3 ?_
  refine x_iconst (v := 1) hC dX8_has_6 (by decide) ?_
  refine x_isub hC dX8_has_7 ?_
  refine x_callNi (host := RX9) (As := [.int v1, .int (0 : Int32), .int ((M 11 0) - (1 : Int32))]) hC h gX8_has_X9_isBetween_n25 rfl rfl rfl (by decide +kernel) (by decide +kernel) (by decide +kernel) hy_X9_isBetween.2 ⟨Nat.le_of_ble_eq_true rfl, Nat.le_of_ble_eq_true rfl⟩ rfl (Nat.le_of_ble_eq_true rfl) rfl dX8_has_8 (fun r1 N2 h => ?_)
  exact x_zret hC hr dX8_has_11 h.1 h.2
theorem kf_X8_removeAt_21 : x_okf wsX8_removeAt RX8 21 8 0 = true := by decide +kernel
theorem kf_X8_removeAt_9 : x_okf wsX8_removeAt RX8 9 8 1 = true := by decide +kernel
theorem kf_X8_removeAt_15 : x_okf wsX8_removeAt RX8 15 8 2 = true := by decide +kernel
theorem kf_X8_removeAt_18 : x_okf wsX8_removeAt RX8 18 8 3 = true := by decide +kernel
def vc_X8_removeAt (g : xG) (v1 : Int32) (M : xM) (P : xM → Prop) (K1 : Int32 → xM → Prop) : Prop := K1 v1 M
def vc_X8_removeAt_1 (g : xG) (v2 : Int32) (M : xM) (P : xM → Prop) (K1 : Int32 → xM → Prop) : Prop := ((((M 11 0) - (1 : Int32)) ≤ v2 → P (x_up M 11 0 ((M 11 0) - (1 : Int32)))) ∧ (¬ (((M 11 0) - (1 : Int32)) ≤ v2) → (vp_in (v2 + (1 : Int32)) 20 ∧ (vp_in v2 20 ∧ (vp_in (v2 + (1 : Int32)) 20 ∧ (vp_in v2 20 ∧ (∀ N1 : xM, N1 = (x_up (x_up M 12 (v2).toNatClampNeg (M 12 ((v2 + (1 : Int32))).toNatClampNeg)) 13 (v2).toNatClampNeg ((x_up M 12 (v2).toNatClampNeg (M 12 ((v2 + (1 : Int32))).toNatClampNeg)) 13 ((v2 + (1 : Int32))).toNatClampNeg)) → (vp_in (v2 + (1 : Int32)) 20 ∧ (vp_in v2 20 ∧ K1 (v2 + (1 : Int32)) (x_up N1 14 (v2).toNatClampNeg (N1 14 ((v2 + (1 : Int32))).toNatClampNeg)))))))))))
set_option maxRecDepth 100000 in
set_option maxHeartbeats 4000000 in
theorem wk_X8_removeAt {g : xG} (v1 : Int32) (M : xM) (P : xM → Prop) (I1 : Nat → Int32 → xM → Prop) (h0 : vc_X8_removeAt g v1 M P (fun v2 N => ∃ k, I1 k v2 N)) (h1 : ∀ (n : Nat) (v2 : Int32) (N : xM), I1 n v2 N → vc_X8_removeAt_1 g v2 N P (fun v2 N => ∃ k, k < n ∧ I1 k v2 N)) : mi_X8_removeAt g v1 M P := by
  refine x_startV (as := [.ref (x_a g 11), .int v1]) (cc := cX8_removeAt) (n := 3) (ret := none) (own := RX8) (by decide) rfl rfl (Nat.le_of_ble_eq_true rfl) (fun x hC hr => ?_)
  have L : ∀ n : Nat, (∀ (v2 : Int32) (N : xM), I1 n v2 N → x_W x g 3 (x_Qv x g P) N 2 [(0, .ref (x_a g 11)), (2, .int v2)] []) := by
    intro n
    induction n using Nat.strongRecOn with
    | ind n ih =>
      intro v2 M hI
      have h := h1 n v2 M hI
      unfold vc_X8_removeAt_1 at h
      refine x_iload_n (i := 2) (q := 1) hC dX8_removeAt_2 rfl rfl ?_
      refine x_aload_n (i := 0) (q := 0) hC dX8_removeAt_3 rfl rfl ?_
      refine x_geti (k := 0) hC xo_11 rfl kf_X8_removeAt_21 dX8_removeAt_4 ?_
      refine x_iconst (v := 1) hC dX8_removeAt_7 (by decide) ?_
      refine x_isub hC dX8_removeAt_8 ?_
      refine x_icmp_ge (t := 60) hC dX8_removeAt_9 (by decide) (fun q => ?_) (fun q => ?_)
      · replace h := h.1 q
        refine x_aload_n (i := 0) (q := 0) hC dX8_removeAt_60 rfl rfl ?_
        refine x_dup hC dX8_removeAt_61 rfl ?_
        refine x_geti (k := 0) hC xo_11 rfl kf_X8_removeAt_21 dX8_removeAt_62 ?_
        refine x_iconst (v := 1) hC dX8_removeAt_65 (by decide) ?_
        refine x_isub hC dX8_removeAt_66 ?_
        refine x_puti (k := 0) hC xo_11 rfl kf_X8_removeAt_21 kp_8_0 dX8_removeAt_67 ?_
        exact x_vret hC hr dX8_removeAt_70 h
      · replace h := h.2 q
        refine x_aload_n (i := 0) (q := 0) hC dX8_removeAt_12 rfl rfl ?_
        refine x_getr (k := 1) (r := 12) hC xo_11 rfl kf_X8_removeAt_9 dX8_removeAt_13 ?_
        refine x_iload_n (i := 2) (q := 1) hC dX8_removeAt_16 rfl rfl ?_
        refine x_aload_n (i := 0) (q := 0) hC dX8_removeAt_17 rfl rfl ?_
        refine x_getr (k := 1) (r := 12) hC xo_11 rfl kf_X8_removeAt_9 dX8_removeAt_18 ?_
        refine x_iload_n (i := 2) (q := 1) hC dX8_removeAt_21 rfl rfl ?_
        refine x_iconst (v := 1) hC dX8_removeAt_22 (by decide) ?_
        refine x_iadd hC dX8_removeAt_23 ?_
        refine x_iald (len := 20) hC xa_12 h.1 dX8_removeAt_24 ?_
        replace h := h.2
        refine x_iast (len := 20) hC xa_12 h.1 dX8_removeAt_25 ?_
        replace h := h.2
        refine x_aload_n (i := 0) (q := 0) hC dX8_removeAt_26 rfl rfl ?_
        refine x_getr (k := 2) (r := 13) hC xo_11 rfl kf_X8_removeAt_15 dX8_removeAt_27 ?_
        refine x_iload_n (i := 2) (q := 1) hC dX8_removeAt_30 rfl rfl ?_
        refine x_aload_n (i := 0) (q := 0) hC dX8_removeAt_31 rfl rfl ?_
        refine x_getr (k := 2) (r := 13) hC xo_11 rfl kf_X8_removeAt_15 dX8_removeAt_32 ?_
        refine x_iload_n (i := 2) (q := 1) hC dX8_removeAt_35 rfl rfl ?_
        refine x_iconst (v := 1) hC dX8_removeAt_36 (by decide) ?_
        refine x_iadd hC dX8_removeAt_37 ?_
        refine x_iald (len := 20) hC xa_13 h.1 dX8_removeAt_38 ?_
        replace h := h.2
        refine x_iast (len := 20) hC xa_13 h.1 dX8_removeAt_39 ?_
        replace h := h.2
        refine x_topM (fun N1 qN1 => ?_)
        replace h := h N1 qN1
        refine x_aload_n (i := 0) (q := 0) hC dX8_removeAt_40 rfl rfl ?_
        refine x_getr (k := 3) (r := 14) hC xo_11 rfl kf_X8_removeAt_18 dX8_removeAt_41 ?_
        refine x_iload_n (i := 2) (q := 1) hC dX8_removeAt_44 rfl rfl ?_
        refine x_aload_n (i := 0) (q := 0) hC dX8_removeAt_45 rfl rfl ?_
        refine x_getr (k := 3) (r := 14) hC xo_11 rfl kf_X8_removeAt_18 dX8_removeAt_46 ?_
        refine x_iload_n (i := 2) (q := 1) hC dX8_removeAt_49 rfl rfl ?_
        refine x_iconst (v := 1) hC dX8_removeAt_50 (by decide) ?_
        refine x_iadd hC dX8_removeAt_51 ?_
        refine x_iald (len := 20) hC xa_14 h.1 dX8_removeAt_52 ?_
        replace h := h.2
        refine x_iast (len := 20) hC xa_14 h.1 dX8_removeAt_53 ?_
        replace h := h.2
        refine x_iinc (k := 1) (v' := (v2 + (1 : Int32))) (ls' := [(2, .int (v2 + (1 : Int32))), (0, .ref (x_a g 11))]) hC dX8_removeAt_54 rfl rfl (by decide) rfl ?_
        refine x_goto (t := 2) hC dX8_removeAt_57 (by decide) ?_
        obtain ⟨n_1, hn, h⟩ := h
        exact x_sub [1, 0] rfl ((ih n_1 hn) _ _ h)
  have h := h0
  unfold vc_X8_removeAt at h
  refine x_iload_n (i := 1) (q := 1) hC dX8_removeAt_0 rfl rfl ?_
  refine x_istore_n (i := 2) (ls' := [(2, .int v1), (0, .ref (x_a g 11)), (1, .int v1)]) hC dX8_removeAt_1 rfl (by decide) rfl ?_
  obtain ⟨n_1, h⟩ := h
  exact x_sub [1, 0] rfl ((L n_1) _ _ h)
theorem kf_X8_singersOf_9 : x_okf wsX8_singersOf RX8 9 8 1 = true := by decide +kernel
theorem kf_X8_singersOf_15 : x_okf wsX8_singersOf RX8 15 8 2 = true := by decide +kernel
def vc_X8_singersOf (g : xG) (v1 : Int32) (M : xM) (P : Int32 → xM → Prop) : Prop := (vp_in v1 20 ∧ (vp_in v1 20 ∧ ((¬ (M 13 (v1).toNatClampNeg) = (-6 : Int32) → (vp_in v1 20 ∧ P (((1 : Int32) <<< ((M 12 (v1).toNatClampNeg) &&& 31)) ||| ((1 : Int32) <<< ((M 13 (v1).toNatClampNeg) &&& 31))) M)) ∧ ((M 13 (v1).toNatClampNeg) = (-6 : Int32) → P ((1 : Int32) <<< ((M 12 (v1).toNatClampNeg) &&& 31)) M))))
set_option maxRecDepth 100000 in
set_option maxHeartbeats 4000000 in
theorem wk_X8_singersOf {g : xG} (v1 : Int32) (M : xM) (P : Int32 → xM → Prop) (h0 : vc_X8_singersOf g v1 M P ) : mi_X8_singersOf g v1 M P := by
  refine x_startI (as := [.ref (x_a g 11), .int v1]) (cc := cX8_singersOf) (n := 3) (ret := (some .int)) (own := RX8) (by decide) rfl rfl (Nat.le_of_ble_eq_true rfl) (fun x hC hr => ?_)
  have h := h0
  unfold vc_X8_singersOf at h
  refine x_iconst (v := 1) hC dX8_singersOf_0 (by decide) ?_
  refine x_aload_n (i := 0) (q := 0) hC dX8_singersOf_1 rfl rfl ?_
  refine x_getr (k := 1) (r := 12) hC xo_11 rfl kf_X8_singersOf_9 dX8_singersOf_2 ?_
  refine x_iload_n (i := 1) (q := 1) hC dX8_singersOf_5 rfl rfl ?_
  refine x_iald (len := 20) hC xa_12 h.1 dX8_singersOf_6 ?_
  replace h := h.2
  refine x_ishl hC dX8_singersOf_7 ?_
  refine x_istore_n (i := 2) (ls' := [(2, .int ((1 : Int32) <<< ((M 12 (v1).toNatClampNeg) &&& 31))), (0, .ref (x_a g 11)), (1, .int v1)]) hC dX8_singersOf_8 rfl (by decide) rfl ?_
  refine x_aload_n (i := 0) (q := 1) hC dX8_singersOf_9 rfl rfl ?_
  refine x_getr (k := 2) (r := 13) hC xo_11 rfl kf_X8_singersOf_15 dX8_singersOf_10 ?_
  refine x_iload_n (i := 1) (q := 2) hC dX8_singersOf_13 rfl rfl ?_
  refine x_iald (len := 20) hC xa_13 h.1 dX8_singersOf_14 ?_
  replace h := h.2
  refine x_bipush (v := -6) hC dX8_singersOf_15 (by decide) ?_
  refine x_icmp_ne (t := 24) hC dX8_singersOf_17 (by decide) (fun q => ?_) (fun q => ?_)
  · replace h := h.1 q
    refine x_iload_n (i := 2) (q := 0) hC dX8_singersOf_24 rfl rfl ?_
    refine x_iconst (v := 1) hC dX8_singersOf_25 (by decide) ?_
    refine x_aload_n (i := 0) (q := 1) hC dX8_singersOf_26 rfl rfl ?_
    refine x_getr (k := 2) (r := 13) hC xo_11 rfl kf_X8_singersOf_15 dX8_singersOf_27 ?_
    refine x_iload_n (i := 1) (q := 2) hC dX8_singersOf_30 rfl rfl ?_
    refine x_iald (len := 20) hC xa_13 h.1 dX8_singersOf_31 ?_
    replace h := h.2
    refine x_ishl hC dX8_singersOf_32 ?_
    refine x_ior hC dX8_singersOf_33 ?_
    exact x_iret hC hr dX8_singersOf_34 h
  · replace h := h.2 q
    refine x_iload_n (i := 2) (q := 0) hC dX8_singersOf_20 rfl rfl ?_
    refine x_goto (t := 34) hC dX8_singersOf_21 (by decide) ?_
    exact x_iret hC hr dX8_singersOf_34 h
theorem kf_X8_onesWithout_21 : x_okf wsX8_onesWithout RX8 21 8 0 = true := by decide +kernel
def vc_X8_onesWithout (g : xG) (v1 : Int32) (M : xM) (P : Int32 → xM → Prop) (K1 : Int32 → Int32 → Int32 → xM → Prop) : Prop := K1 v1 (0 : Int32) (0 : Int32) M
def vc_X8_onesWithout_1 (g : xG) (v1 : Int32) (v2 : Int32) (v3 : Int32) (M : xM) (P : Int32 → xM → Prop) (K1 : Int32 → Int32 → Int32 → xM → Prop) : Prop := (((M 11 0) ≤ v3 → P v2 M) ∧ (¬ ((M 11 0) ≤ v3) → (mi_X8_singersOf g v3 M (fun r1 N2 => ((¬ (r1 &&& v1) = 0 → K1 v1 v2 (v3 + (1 : Int32)) N2) ∧ ((r1 &&& v1) = 0 → K1 v1 (v2 ||| ((1 : Int32) <<< (v3 &&& 31))) (v3 + (1 : Int32)) N2))))))
set_option maxRecDepth 100000 in
set_option maxHeartbeats 4000000 in
theorem wk_X8_onesWithout {g : xG} (v1 : Int32) (M : xM) (P : Int32 → xM → Prop) (I1 : Nat → Int32 → Int32 → Int32 → xM → Prop) (h0 : vc_X8_onesWithout g v1 M P (fun v1 v2 v3 N => ∃ k, I1 k v1 v2 v3 N)) (h1 : ∀ (n : Nat) (v1 : Int32) (v2 : Int32) (v3 : Int32) (N : xM), I1 n v1 v2 v3 N → vc_X8_onesWithout_1 g v1 v2 v3 N P (fun v1 v2 v3 N => ∃ k, k < n ∧ I1 k v1 v2 v3 N)) : mi_X8_onesWithout g v1 M P := by
  refine x_startI (as := [.ref (x_a g 11), .int v1]) (cc := cX8_onesWithout) (n := 4) (ret := (some .int)) (own := RX8) (by decide) rfl rfl (Nat.le_of_ble_eq_true rfl) (fun x hC hr => ?_)
  have L : ∀ n : Nat, (∀ (v1 : Int32) (v2 : Int32) (v3 : Int32) (N : xM), I1 n v1 v2 v3 N → x_W x g 4 (x_Qi x g P) N 4 [(0, .ref (x_a g 11)), (1, .int v1), (2, .int v2), (3, .int v3)] []) := by
    intro n
    induction n using Nat.strongRecOn with
    | ind n ih =>
      intro v1 v2 v3 M hI
      have h := h1 n v1 v2 v3 M hI
      unfold vc_X8_onesWithout_1 at h
      refine x_iload_n (i := 3) (q := 3) hC dX8_onesWithout_4 rfl rfl ?_
      refine x_aload_n (i := 0) (q := 0) hC dX8_onesWithout_5 rfl rfl ?_
      refine x_geti (k := 0) hC xo_11 rfl kf_X8_onesWithout_21 dX8_onesWithout_6 ?_
      refine x_icmp_ge (t := 34) hC dX8_onesWithout_9 (by decide) (fun q => ?_) (fun q => ?_)
      · replace h := h.1 q
        refine x_iload_n (i := 2) (q := 2) hC dX8_onesWithout_34 rfl rfl ?_
        exact x_iret hC hr dX8_onesWithout_35 h
      · replace h := h.2 q
        refine x_aload_n (i := 0) (q := 0) hC dX8_onesWithout_12 rfl rfl ?_
        refine x_iload_n (i := 3) (q := 3) hC dX8_onesWithout_13 rfl rfl ?_
        refine x_callVi (q := (RX8, TX8, 4)) (As := [.int v3]) hC xo_11 rfl h gX8_onesWithout_X8_singersOf rfl rfl rfl hy_X8_singersOf ⟨Nat.le_of_ble_eq_true rfl, Nat.le_of_ble_eq_true rfl⟩ rfl (Nat.le_of_ble_eq_true rfl) rfl dX8_onesWithout_14 (fun r1 N2 h => ?_)
        refine x_iload_n (i := 1) (q := 1) hC dX8_onesWithout_17 rfl rfl ?_
        refine x_iand hC dX8_onesWithout_18 ?_
        refine x_if_ne (t := 28) hC dX8_onesWithout_19 (by decide) (fun q => ?_) (fun q => ?_)
        · replace h := h.1 q
          refine x_iinc (k := 3) (v' := (v3 + (1 : Int32))) (ls' := [(3, .int (v3 + (1 : Int32))), (0, .ref (x_a g 11)), (1, .int v1), (2, .int v2)]) hC dX8_onesWithout_28 rfl rfl (by decide) rfl ?_
          refine x_goto (t := 4) hC dX8_onesWithout_31 (by decide) ?_
          obtain ⟨n_1, hn, h⟩ := h
          exact x_sub [1, 2, 3, 0] rfl ((ih n_1 hn) _ _ _ _ h)
        · replace h := h.2 q
          refine x_iload_n (i := 2) (q := 2) hC dX8_onesWithout_22 rfl rfl ?_
          refine x_iconst (v := 1) hC dX8_onesWithout_23 (by decide) ?_
          refine x_iload_n (i := 3) (q := 3) hC dX8_onesWithout_24 rfl rfl ?_
          refine x_ishl hC dX8_onesWithout_25 ?_
          refine x_ior hC dX8_onesWithout_26 ?_
          refine x_istore_n (i := 2) (ls' := [(2, .int (v2 ||| ((1 : Int32) <<< (v3 &&& 31)))), (0, .ref (x_a g 11)), (1, .int v1), (3, .int v3)]) hC dX8_onesWithout_27 rfl (by decide) rfl ?_
          refine x_iinc (k := 3) (v' := (v3 + (1 : Int32))) (ls' := [(3, .int (v3 + (1 : Int32))), (2, .int (v2 ||| ((1 : Int32) <<< (v3 &&& 31)))), (0, .ref (x_a g 11)), (1, .int v1)]) hC dX8_onesWithout_28 rfl rfl (by decide) rfl ?_
          refine x_goto (t := 4) hC dX8_onesWithout_31 (by decide) ?_
          obtain ⟨n_1, hn, h⟩ := h
          exact x_sub [2, 3, 1, 0] rfl ((ih n_1 hn) _ _ _ _ h)
  have h := h0
  unfold vc_X8_onesWithout at h
  refine x_iconst (v := 0) hC dX8_onesWithout_0 (by decide) ?_
  refine x_istore_n (i := 2) (ls' := [(2, .int (0 : Int32)), (0, .ref (x_a g 11)), (1, .int v1)]) hC dX8_onesWithout_1 rfl (by decide) rfl ?_
  refine x_iconst (v := 0) hC dX8_onesWithout_2 (by decide) ?_
  refine x_istore_n (i := 3) (ls' := [(3, .int (0 : Int32)), (2, .int (0 : Int32)), (0, .ref (x_a g 11)), (1, .int v1)]) hC dX8_onesWithout_3 rfl (by decide) rfl ?_
  obtain ⟨n_1, h⟩ := h
  exact x_sub [2, 3, 1, 0] rfl ((L n_1) _ _ _ _ h)
def vc_X8_readyOnes (g : xG) (v1 : Int32) (M : xM) (P : Int32 → xM → Prop) : Prop := (mi_X8_onesWithout g (v1 ^^^ (-1 : Int32)) M (fun r1 N2 => P r1 N2))
set_option maxRecDepth 100000 in
set_option maxHeartbeats 4000000 in
theorem wk_X8_readyOnes {g : xG} (v1 : Int32) (M : xM) (P : Int32 → xM → Prop) (h0 : vc_X8_readyOnes g v1 M P ) : mi_X8_readyOnes g v1 M P := by
  refine x_startI (as := [.ref (x_a g 11), .int v1]) (cc := cX8_readyOnes) (n := 2) (ret := (some .int)) (own := RX8) (by decide) rfl rfl (Nat.le_of_ble_eq_true rfl) (fun x hC hr => ?_)
  have h := h0
  unfold vc_X8_readyOnes at h
  refine x_aload_n (i := 0) (q := 0) hC dX8_readyOnes_0 rfl rfl ?_
  refine x_iload_n (i := 1) (q := 1) hC dX8_readyOnes_1 rfl rfl ?_
  refine x_iconst (v := -1) hC dX8_readyOnes_2 (by decide) ?_
  refine x_ixor hC dX8_readyOnes_3 ?_
  refine x_callVi (q := (RX8, TX8, 4)) (As := [.int (v1 ^^^ (-1 : Int32))]) hC xo_11 rfl h gX8_readyOnes_X8_onesWithout rfl rfl rfl hy_X8_onesWithout ⟨Nat.le_of_ble_eq_true rfl, Nat.le_of_ble_eq_true rfl⟩ rfl (Nat.le_of_ble_eq_true rfl) rfl dX8_readyOnes_4 (fun r1 N2 h => ?_)
  exact x_iret hC hr dX8_readyOnes_7 h
def vc_X8_freshOnes (g : xG) (v1 : Int32) (M : xM) (P : Int32 → xM → Prop) : Prop := (mi_X8_onesWithout g v1 M (fun r1 N2 => P r1 N2))
set_option maxRecDepth 100000 in
set_option maxHeartbeats 4000000 in
theorem wk_X8_freshOnes {g : xG} (v1 : Int32) (M : xM) (P : Int32 → xM → Prop) (h0 : vc_X8_freshOnes g v1 M P ) : mi_X8_freshOnes g v1 M P := by
  refine x_startI (as := [.ref (x_a g 11), .int v1]) (cc := cX8_freshOnes) (n := 2) (ret := (some .int)) (own := RX8) (by decide) rfl rfl (Nat.le_of_ble_eq_true rfl) (fun x hC hr => ?_)
  have h := h0
  unfold vc_X8_freshOnes at h
  refine x_aload_n (i := 0) (q := 0) hC dX8_freshOnes_0 rfl rfl ?_
  refine x_iload_n (i := 1) (q := 1) hC dX8_freshOnes_1 rfl rfl ?_
  refine x_callVi (q := (RX8, TX8, 4)) (As := [.int v1]) hC xo_11 rfl h gX8_freshOnes_X8_onesWithout rfl rfl rfl hy_X8_onesWithout ⟨Nat.le_of_ble_eq_true rfl, Nat.le_of_ble_eq_true rfl⟩ rfl (Nat.le_of_ble_eq_true rfl) rfl dX8_freshOnes_2 (fun r1 N2 h => ?_)
  exact x_iret hC hr dX8_freshOnes_5 h
theorem kf_X8_turnsFor_9 : x_okf wsX8_turnsFor RX8 9 8 1 = true := by decide +kernel
theorem kf_X8_turnsFor_15 : x_okf wsX8_turnsFor RX8 15 8 2 = true := by decide +kernel
def vc_X8_turnsFor (g : xG) (v1 : Int32) (t : Nat) (M : xM) (P : Int32 → xM → Prop) : Prop := (vp_in v1 20 ∧ (vp_in (M 12 (v1).toNatClampNeg) 12 ∧ (vp_in v1 20 ∧ ((¬ (M 13 (v1).toNatClampNeg) = (-6 : Int32) → (vp_in v1 20 ∧ (vp_in (M 13 (v1).toNatClampNeg) 12 ∧ P (if (M t ((M 12 (v1).toNatClampNeg)).toNatClampNeg) < (M t ((M 13 (v1).toNatClampNeg)).toNatClampNeg) then (M t ((M 13 (v1).toNatClampNeg)).toNatClampNeg) else (M t ((M 12 (v1).toNatClampNeg)).toNatClampNeg)) M))) ∧ ((M 13 (v1).toNatClampNeg) = (-6 : Int32) → P (M t ((M 12 (v1).toNatClampNeg)).toNatClampNeg) M)))))
set_option maxRecDepth 100000 in
set_option maxHeartbeats 4000000 in
theorem wk_X8_turnsFor {g : xG} (v1 : Int32) (t : Nat) (ht : x_isA t 0 12) (M : xM) (P : Int32 → xM → Prop) (h0 : vc_X8_turnsFor g v1 t M P ) : mi_X8_turnsFor g v1 t M P := by
  refine x_startI (as := [.ref (x_a g 11), .int v1, .ref (x_a g t)]) (cc := cX8_turnsFor) (n := 4) (ret := (some .int)) (own := RX8) (by decide) rfl rfl (Nat.le_of_ble_eq_true rfl) (fun x hC hr => ?_)
  have h := h0
  unfold vc_X8_turnsFor at h
  refine x_aload_n (i := 2) (q := 2) hC dX8_turnsFor_0 rfl rfl ?_
  refine x_aload_n (i := 0) (q := 0) hC dX8_turnsFor_1 rfl rfl ?_
  refine x_getr (k := 1) (r := 12) hC xo_11 rfl kf_X8_turnsFor_9 dX8_turnsFor_2 ?_
  refine x_iload_n (i := 1) (q := 1) hC dX8_turnsFor_5 rfl rfl ?_
  refine x_iald (len := 20) hC xa_12 h.1 dX8_turnsFor_6 ?_
  replace h := h.2
  refine x_iald (len := 12) hC ht h.1 dX8_turnsFor_7 ?_
  replace h := h.2
  refine x_istore_n (i := 3) (ls' := [(3, .int (M t ((M 12 (v1).toNatClampNeg)).toNatClampNeg)), (0, .ref (x_a g 11)), (1, .int v1), (2, .ref (x_a g t))]) hC dX8_turnsFor_8 rfl (by decide) rfl ?_
  refine x_aload_n (i := 0) (q := 1) hC dX8_turnsFor_9 rfl rfl ?_
  refine x_getr (k := 2) (r := 13) hC xo_11 rfl kf_X8_turnsFor_15 dX8_turnsFor_10 ?_
  refine x_iload_n (i := 1) (q := 2) hC dX8_turnsFor_13 rfl rfl ?_
  refine x_iald (len := 20) hC xa_13 h.1 dX8_turnsFor_14 ?_
  replace h := h.2
  refine x_bipush (v := -6) hC dX8_turnsFor_15 (by decide) ?_
  refine x_icmp_ne (t := 24) hC dX8_turnsFor_17 (by decide) (fun q => ?_) (fun q => ?_)
  · replace h := h.1 q
    refine x_iload_n (i := 3) (q := 0) hC dX8_turnsFor_24 rfl rfl ?_
    refine x_aload_n (i := 2) (q := 3) hC dX8_turnsFor_25 rfl rfl ?_
    refine x_aload_n (i := 0) (q := 1) hC dX8_turnsFor_26 rfl rfl ?_
    refine x_getr (k := 2) (r := 13) hC xo_11 rfl kf_X8_turnsFor_15 dX8_turnsFor_27 ?_
    refine x_iload_n (i := 1) (q := 2) hC dX8_turnsFor_30 rfl rfl ?_
    refine x_iald (len := 20) hC xa_13 h.1 dX8_turnsFor_31 ?_
    replace h := h.2
    refine x_iald (len := 12) hC ht h.1 dX8_turnsFor_32 ?_
    replace h := h.2
    refine x_mmax (idx := 40) hC (by decide +kernel) (by decide +kernel) (by decide +kernel) (by decide +kernel) (Nat.le_of_ble_eq_true rfl) (Nat.le_of_ble_eq_true rfl) dX8_turnsFor_33 ?_
    exact x_iret hC hr dX8_turnsFor_36 h
  · replace h := h.2 q
    refine x_iload_n (i := 3) (q := 0) hC dX8_turnsFor_20 rfl rfl ?_
    refine x_goto (t := 36) hC dX8_turnsFor_21 (by decide) ?_
    exact x_iret hC hr dX8_turnsFor_36 h
theorem kf_X8_fewestTurnsAmong_21 : x_okf wsX8_fewestTurnsAmong RX8 21 8 0 = true := by decide +kernel
def vc_X8_fewestTurnsAmong (g : xG) (v1 : Int32) (t : Nat) (M : xM) (P : Int32 → xM → Prop) (K1 : Int32 → Int32 → Int32 → xM → Prop) : Prop := K1 v1 (-6 : Int32) (0 : Int32) M
def vc_X8_fewestTurnsAmong_1 (g : xG) (t : Nat) (v1 : Int32) (v3 : Int32) (v4 : Int32) (M : xM) (P : Int32 → xM → Prop) (K1 : Int32 → Int32 → Int32 → xM → Prop) : Prop := (((M 11 0) ≤ v4 → P v3 M) ∧ (¬ ((M 11 0) ≤ v4) → (mi_X9_isIn g v1 v4 M (fun r1 N2 => ((r1 = 0 → K1 v1 v3 (v4 + (1 : Int32)) N2) ∧ (¬ (r1 = 0) → ((v3 = (-6 : Int32) → K1 v1 v4 (v4 + (1 : Int32)) N2) ∧ (¬ (v3 = (-6 : Int32)) → (mi_X8_turnsFor g v4 t N2 (fun r3 N4 => (mi_X8_turnsFor g v3 t N4 (fun r5 N6 => ((r5 ≤ r3 → K1 v1 v3 (v4 + (1 : Int32)) N6) ∧ (¬ (r5 ≤ r3) → K1 v1 v4 (v4 + (1 : Int32)) N6))))))))))))))
set_option maxRecDepth 100000 in
set_option maxHeartbeats 4000000 in
theorem wk_X8_fewestTurnsAmong {g : xG} (v1 : Int32) (t : Nat) (ht : x_isA t 0 12) (M : xM) (P : Int32 → xM → Prop) (I1 : Nat → Int32 → Int32 → Int32 → xM → Prop) (h0 : vc_X8_fewestTurnsAmong g v1 t M P (fun v1 v3 v4 N => ∃ k, I1 k v1 v3 v4 N)) (h1 : ∀ (n : Nat) (v1 : Int32) (v3 : Int32) (v4 : Int32) (N : xM), I1 n v1 v3 v4 N → vc_X8_fewestTurnsAmong_1 g t v1 v3 v4 N P (fun v1 v3 v4 N => ∃ k, k < n ∧ I1 k v1 v3 v4 N)) : mi_X8_fewestTurnsAmong g v1 t M P := by
  refine x_startI (as := [.ref (x_a g 11), .int v1, .ref (x_a g t)]) (cc := cX8_fewestTurnsAmong) (n := 5) (ret := (some .int)) (own := RX8) (by decide) rfl rfl (Nat.le_of_ble_eq_true rfl) (fun x hC hr => ?_)
  have L : ∀ n : Nat, (∀ (v1 : Int32) (v3 : Int32) (v4 : Int32) (N : xM), I1 n v1 v3 v4 N → x_W x g 5 (x_Qi x g P) N 6 [(0, .ref (x_a g 11)), (1, .int v1), (2, .ref (x_a g t)), (3, .int v3), (4, .int v4)] []) := by
    intro n
    induction n using Nat.strongRecOn with
    | ind n ih =>
      intro v1 v3 v4 M hI
      have h := h1 n v1 v3 v4 M hI
      unfold vc_X8_fewestTurnsAmong_1 at h
      refine x_iload (q := 4) hC dX8_fewestTurnsAmong_6 rfl ?_
      refine x_aload_n (i := 0) (q := 0) hC dX8_fewestTurnsAmong_8 rfl rfl ?_
      refine x_geti (k := 0) hC xo_11 rfl kf_X8_fewestTurnsAmong_21 dX8_fewestTurnsAmong_9 ?_
      refine x_icmp_ge (t := 55) hC dX8_fewestTurnsAmong_12 (by decide) (fun q => ?_) (fun q => ?_)
      · replace h := h.1 q
        refine x_iload_n (i := 3) (q := 3) hC dX8_fewestTurnsAmong_55 rfl rfl ?_
        exact x_iret hC hr dX8_fewestTurnsAmong_56 h
      · replace h := h.2 q
        refine x_iload_n (i := 1) (q := 1) hC dX8_fewestTurnsAmong_15 rfl rfl ?_
        refine x_iload (q := 4) hC dX8_fewestTurnsAmong_16 rfl ?_
        refine x_callNi (host := RX9) (As := [.int v1, .int v4]) hC h gX8_fewestTurnsAmong_X9_isIn_n33 rfl rfl rfl (by decide +kernel) (by decide +kernel) (by decide +kernel) hy_X9_isIn.2 ⟨Nat.le_of_ble_eq_true rfl, Nat.le_of_ble_eq_true rfl⟩ rfl (Nat.le_of_ble_eq_true rfl) rfl dX8_fewestTurnsAmong_18 (fun r1 N2 h => ?_)
        refine x_if_eq (t := 49) hC dX8_fewestTurnsAmong_21 (by decide) (fun q => ?_) (fun q => ?_)
        · replace h := h.1 q
          refine x_iinc (k := 4) (v' := (v4 + (1 : Int32))) (ls' := [(4, .int (v4 + (1 : Int32))), (0, .ref (x_a g 11)), (1, .int v1), (2, .ref (x_a g t)), (3, .int v3)]) hC dX8_fewestTurnsAmong_49 rfl rfl (by decide) rfl ?_
          refine x_goto (t := 6) hC dX8_fewestTurnsAmong_52 (by decide) ?_
          obtain ⟨n_1, hn, h⟩ := h
          exact x_sub [1, 2, 3, 4, 0] rfl ((ih n_1 hn) _ _ _ _ h)
        · replace h := h.2 q
          refine x_iload_n (i := 3) (q := 3) hC dX8_fewestTurnsAmong_24 rfl rfl ?_
          refine x_bipush (v := -6) hC dX8_fewestTurnsAmong_25 (by decide) ?_
          refine x_icmp_eq (t := 46) hC dX8_fewestTurnsAmong_27 (by decide) (fun q => ?_) (fun q => ?_)
          · replace h := h.1 q
            refine x_iload (q := 4) hC dX8_fewestTurnsAmong_46 rfl ?_
            refine x_istore_n (i := 3) (ls' := [(3, .int v4), (0, .ref (x_a g 11)), (1, .int v1), (2, .ref (x_a g t)), (4, .int v4)]) hC dX8_fewestTurnsAmong_48 rfl (by decide) rfl ?_
            refine x_iinc (k := 4) (v' := (v4 + (1 : Int32))) (ls' := [(4, .int (v4 + (1 : Int32))), (3, .int v4), (0, .ref (x_a g 11)), (1, .int v1), (2, .ref (x_a g t))]) hC dX8_fewestTurnsAmong_49 rfl rfl (by decide) rfl ?_
            refine x_goto (t := 6) hC dX8_fewestTurnsAmong_52 (by decide) ?_
            obtain ⟨n_1, hn, h⟩ := h
            exact x_sub [2, 3, 4, 1, 0] rfl ((ih n_1 hn) _ _ _ _ h)
          · replace h := h.2 q
            refine x_aload_n (i := 0) (q := 0) hC dX8_fewestTurnsAmong_30 rfl rfl ?_
            refine x_iload (q := 4) hC dX8_fewestTurnsAmong_31 rfl ?_
            refine x_aload_n (i := 2) (q := 2) hC dX8_fewestTurnsAmong_33 rfl rfl ?_
            refine x_callVi (q := (RX8, TX8, 4)) (As := [.int v4, .ref (x_a g t)]) hC xo_11 rfl h gX8_fewestTurnsAmong_X8_turnsFor rfl rfl rfl hy_X8_turnsFor ⟨Nat.le_of_ble_eq_true rfl, Nat.le_of_ble_eq_true rfl⟩ rfl (Nat.le_of_ble_eq_true rfl) rfl dX8_fewestTurnsAmong_34 (fun r3 N4 h => ?_)
            refine x_aload_n (i := 0) (q := 0) hC dX8_fewestTurnsAmong_37 rfl rfl ?_
            refine x_iload_n (i := 3) (q := 3) hC dX8_fewestTurnsAmong_38 rfl rfl ?_
            refine x_aload_n (i := 2) (q := 2) hC dX8_fewestTurnsAmong_39 rfl rfl ?_
            refine x_callVi (q := (RX8, TX8, 4)) (As := [.int v3, .ref (x_a g t)]) hC xo_11 rfl h gX8_fewestTurnsAmong_X8_turnsFor rfl rfl rfl hy_X8_turnsFor ⟨Nat.le_of_ble_eq_true rfl, Nat.le_of_ble_eq_true rfl⟩ rfl (Nat.le_of_ble_eq_true rfl) rfl dX8_fewestTurnsAmong_40 (fun r5 N6 h => ?_)
            refine x_icmp_ge (t := 49) hC dX8_fewestTurnsAmong_43 (by decide) (fun q => ?_) (fun q => ?_)
            · replace h := h.1 q
              refine x_iinc (k := 4) (v' := (v4 + (1 : Int32))) (ls' := [(4, .int (v4 + (1 : Int32))), (0, .ref (x_a g 11)), (1, .int v1), (2, .ref (x_a g t)), (3, .int v3)]) hC dX8_fewestTurnsAmong_49 rfl rfl (by decide) rfl ?_
              refine x_goto (t := 6) hC dX8_fewestTurnsAmong_52 (by decide) ?_
              obtain ⟨n_1, hn, h⟩ := h
              exact x_sub [1, 2, 3, 4, 0] rfl ((ih n_1 hn) _ _ _ _ h)
            · replace h := h.2 q
              refine x_iload (q := 4) hC dX8_fewestTurnsAmong_46 rfl ?_
              refine x_istore_n (i := 3) (ls' := [(3, .int v4), (0, .ref (x_a g 11)), (1, .int v1), (2, .ref (x_a g t)), (4, .int v4)]) hC dX8_fewestTurnsAmong_48 rfl (by decide) rfl ?_
              refine x_iinc (k := 4) (v' := (v4 + (1 : Int32))) (ls' := [(4, .int (v4 + (1 : Int32))), (3, .int v4), (0, .ref (x_a g 11)), (1, .int v1), (2, .ref (x_a g t))]) hC dX8_fewestTurnsAmong_49 rfl rfl (by decide) rfl ?_
              refine x_goto (t := 6) hC dX8_fewestTurnsAmong_52 (by decide) ?_
              obtain ⟨n_1, hn, h⟩ := h
              exact x_sub [2, 3, 4, 1, 0] rfl ((ih n_1 hn) _ _ _ _ h)
  have h := h0
  unfold vc_X8_fewestTurnsAmong at h
  refine x_bipush (v := -6) hC dX8_fewestTurnsAmong_0 (by decide) ?_
  refine x_istore_n (i := 3) (ls' := [(3, .int (-6 : Int32)), (0, .ref (x_a g 11)), (1, .int v1), (2, .ref (x_a g t))]) hC dX8_fewestTurnsAmong_2 rfl (by decide) rfl ?_
  refine x_iconst (v := 0) hC dX8_fewestTurnsAmong_3 (by decide) ?_
  refine x_istore (ls' := [(4, .int (0 : Int32)), (3, .int (-6 : Int32)), (0, .ref (x_a g 11)), (1, .int v1), (2, .ref (x_a g t))]) hC dX8_fewestTurnsAmong_4 (by decide) rfl ?_
  obtain ⟨n_1, h⟩ := h
  exact x_sub [2, 3, 4, 1, 0] rfl ((L n_1) _ _ _ _ h)
def vc_X8_nextAmong (g : xG) (v1 : Int32) (v2 : Int32) (t : Nat) (M : xM) (P : Int32 → xM → Prop) : Prop := (mi_X8_freshOnes g v2 M (fun r1 N2 => (mi_X8_fewestTurnsAmong g (v1 &&& r1) t N2 (fun r3 N4 => ((r3 = (-6 : Int32) → (mi_X8_fewestTurnsAmong g v1 t N4 (fun r5 N6 => P r5 N6))) ∧ (¬ (r3 = (-6 : Int32)) → P r3 N4))))))
set_option maxRecDepth 100000 in
set_option maxHeartbeats 4000000 in
theorem wk_X8_nextAmong {g : xG} (v1 : Int32) (v2 : Int32) (t : Nat) (ht : x_isA t 0 12) (M : xM) (P : Int32 → xM → Prop) (h0 : vc_X8_nextAmong g v1 v2 t M P ) : mi_X8_nextAmong g v1 v2 t M P := by
  refine x_startI (as := [.ref (x_a g 11), .int v1, .int v2, .ref (x_a g t)]) (cc := cX8_nextAmong) (n := 5) (ret := (some .int)) (own := RX8) (by decide) rfl rfl (Nat.le_of_ble_eq_true rfl) (fun x hC hr => ?_)
  have h := h0
  unfold vc_X8_nextAmong at h
  refine x_aload_n (i := 0) (q := 0) hC dX8_nextAmong_0 rfl rfl ?_
  refine x_iload_n (i := 1) (q := 1) hC dX8_nextAmong_1 rfl rfl ?_
  refine x_aload_n (i := 0) (q := 0) hC dX8_nextAmong_2 rfl rfl ?_
  refine x_iload_n (i := 2) (q := 2) hC dX8_nextAmong_3 rfl rfl ?_
  refine x_callVi (q := (RX8, TX8, 4)) (As := [.int v2]) hC xo_11 rfl h gX8_nextAmong_X8_freshOnes rfl rfl rfl hy_X8_freshOnes ⟨Nat.le_of_ble_eq_true rfl, Nat.le_of_ble_eq_true rfl⟩ rfl (Nat.le_of_ble_eq_true rfl) rfl dX8_nextAmong_4 (fun r1 N2 h => ?_)
  refine x_iand hC dX8_nextAmong_7 ?_
  refine x_aload_n (i := 3) (q := 3) hC dX8_nextAmong_8 rfl rfl ?_
  refine x_callVi (q := (RX8, TX8, 4)) (As := [.int (v1 &&& r1), .ref (x_a g t)]) hC xo_11 rfl h gX8_nextAmong_X8_fewestTurnsAmong rfl rfl rfl hy_X8_fewestTurnsAmong ⟨Nat.le_of_ble_eq_true rfl, Nat.le_of_ble_eq_true rfl⟩ rfl (Nat.le_of_ble_eq_true rfl) rfl dX8_nextAmong_9 (fun r3 N4 h => ?_)
  refine x_istore (ls' := [(4, .int r3), (0, .ref (x_a g 11)), (1, .int v1), (2, .int v2), (3, .ref (x_a g t))]) hC dX8_nextAmong_12 (by decide) rfl ?_
  refine x_iload (q := 0) hC dX8_nextAmong_14 rfl ?_
  refine x_bipush (v := -6) hC dX8_nextAmong_16 (by decide) ?_
  refine x_icmp_eq (t := 26) hC dX8_nextAmong_18 (by decide) (fun q => ?_) (fun q => ?_)
  · replace h := h.1 q
    refine x_aload_n (i := 0) (q := 1) hC dX8_nextAmong_26 rfl rfl ?_
    refine x_iload_n (i := 1) (q := 2) hC dX8_nextAmong_27 rfl rfl ?_
    refine x_aload_n (i := 3) (q := 4) hC dX8_nextAmong_28 rfl rfl ?_
    refine x_callVi (q := (RX8, TX8, 4)) (As := [.int v1, .ref (x_a g t)]) hC xo_11 rfl h gX8_nextAmong_X8_fewestTurnsAmong rfl rfl rfl hy_X8_fewestTurnsAmong ⟨Nat.le_of_ble_eq_true rfl, Nat.le_of_ble_eq_true rfl⟩ rfl (Nat.le_of_ble_eq_true rfl) rfl dX8_nextAmong_29 (fun r5 N6 h => ?_)
    exact x_iret hC hr dX8_nextAmong_32 h
  · replace h := h.2 q
    refine x_iload (q := 0) hC dX8_nextAmong_21 rfl ?_
    refine x_goto (t := 32) hC dX8_nextAmong_23 (by decide) ?_
    exact x_iret hC hr dX8_nextAmong_32 h
theorem kf_X0_nextWish_28 : x_okf wsX0_nextWish RX0 28 0 2 = true := by decide +kernel
theorem kf_X0_nextWish_12 : x_okf wsX0_nextWish RX0 12 0 0 = true := by decide +kernel
theorem kf_X0_nextWish_74 : x_okf wsX0_nextWish RX0 74 6 1 = true := by decide +kernel
theorem kf_X0_nextWish_91 : x_okf wsX0_nextWish RX0 91 6 2 = true := by decide +kernel
theorem kf_X0_nextWish_94 : x_okf wsX0_nextWish RX0 94 6 5 = true := by decide +kernel
def vc_X0_nextWish (g : xG) (M : xM) (P : Int32 → xM → Prop) : Prop := (mi_X8_readyOnes g (M 1 1) M (fun r1 N2 => (mi_X8_nextAmong g r1 (N2 1 2) 4 N2 (fun r3 N4 => P r3 N4))))
set_option maxRecDepth 100000 in
set_option maxHeartbeats 4000000 in
theorem wk_X0_nextWish {g : xG}  (M : xM) (P : Int32 → xM → Prop) (h0 : vc_X0_nextWish g M P ) : mi_X0_nextWish g M P := by
  refine x_startI (as := [.ref (x_a g 0)]) (cc := cX0_nextWish) (n := 1) (ret := (some .int)) (own := RX0) (by decide) rfl rfl (Nat.le_of_ble_eq_true rfl) (fun x hC hr => ?_)
  have h := h0
  unfold vc_X0_nextWish at h
  refine x_aload_n (i := 0) (q := 0) hC dX0_nextWish_0 rfl rfl ?_
  refine x_getr (k := 2) (r := 11) hC xo_0 rfl kf_X0_nextWish_28 dX0_nextWish_1 ?_
  refine x_aload_n (i := 0) (q := 0) hC dX0_nextWish_4 rfl rfl ?_
  refine x_getr (k := 2) (r := 11) hC xo_0 rfl kf_X0_nextWish_28 dX0_nextWish_5 ?_
  refine x_aload_n (i := 0) (q := 0) hC dX0_nextWish_8 rfl rfl ?_
  refine x_getr (k := 0) (r := 1) hC xo_0 rfl kf_X0_nextWish_12 dX0_nextWish_9 ?_
  refine x_geti (k := 1) hC xo_1 rfl kf_X0_nextWish_74 dX0_nextWish_12 ?_
  refine x_callVi (q := (RX8, TX8, 4)) (As := [.int (M 1 1)]) hC xo_11 rfl h gX0_nextWish_X8_readyOnes rfl rfl rfl hy_X8_readyOnes ⟨Nat.le_of_ble_eq_true rfl, Nat.le_of_ble_eq_true rfl⟩ rfl (Nat.le_of_ble_eq_true rfl) rfl dX0_nextWish_15 (fun r1 N2 h => ?_)
  refine x_aload_n (i := 0) (q := 0) hC dX0_nextWish_18 rfl rfl ?_
  refine x_getr (k := 0) (r := 1) hC xo_0 rfl kf_X0_nextWish_12 dX0_nextWish_19 ?_
  refine x_geti (k := 2) hC xo_1 rfl kf_X0_nextWish_91 dX0_nextWish_22 ?_
  refine x_aload_n (i := 0) (q := 0) hC dX0_nextWish_25 rfl rfl ?_
  refine x_getr (k := 0) (r := 1) hC xo_0 rfl kf_X0_nextWish_12 dX0_nextWish_26 ?_
  refine x_getr (k := 5) (r := 4) hC xo_1 rfl kf_X0_nextWish_94 dX0_nextWish_29 ?_
  refine x_callVi (q := (RX8, TX8, 4)) (As := [.int r1, .int (N2 1 2), .ref (x_a g 4)]) hC xo_11 rfl h gX0_nextWish_X8_nextAmong rfl rfl rfl hy_X8_nextAmong ⟨Nat.le_of_ble_eq_true rfl, Nat.le_of_ble_eq_true rfl⟩ rfl (Nat.le_of_ble_eq_true rfl) rfl dX0_nextWish_32 (fun r3 N4 h => ?_)
  exact x_iret hC hr dX0_nextWish_35 h
theorem kf_X0_lengthOfWish_21 : x_okf wsX0_lengthOfWish RX0 21 0 1 = true := by decide +kernel
theorem kf_X0_lengthOfWish_85 : x_okf wsX0_lengthOfWish RX0 85 7 3 = true := by decide +kernel
theorem kf_X0_lengthOfWish_28 : x_okf wsX0_lengthOfWish RX0 28 0 2 = true := by decide +kernel
theorem kf_X0_lengthOfWish_88 : x_okf wsX0_lengthOfWish RX0 88 8 3 = true := by decide +kernel
def vc_X0_lengthOfWish (g : xG) (v1 : Int32) (M : xM) (P : Int32 → xM → Prop) : Prop := (vp_in v1 20 ∧ (vp_in (M 14 (v1).toNatClampNeg) 16 ∧ P (M 9 ((M 14 (v1).toNatClampNeg)).toNatClampNeg) M))
set_option maxRecDepth 100000 in
set_option maxHeartbeats 4000000 in
theorem wk_X0_lengthOfWish {g : xG} (v1 : Int32) (M : xM) (P : Int32 → xM → Prop) (h0 : vc_X0_lengthOfWish g v1 M P ) : mi_X0_lengthOfWish g v1 M P := by
  refine x_startI (as := [.ref (x_a g 0), .int v1]) (cc := cX0_lengthOfWish) (n := 2) (ret := (some .int)) (own := RX0) (by decide) rfl rfl (Nat.le_of_ble_eq_true rfl) (fun x hC hr => ?_)
  have h := h0
  unfold vc_X0_lengthOfWish at h
  refine x_aload_n (i := 0) (q := 0) hC dX0_lengthOfWish_0 rfl rfl ?_
  refine x_getr (k := 1) (r := 6) hC xo_0 rfl kf_X0_lengthOfWish_21 dX0_lengthOfWish_1 ?_
  refine x_getr (k := 3) (r := 9) hC xo_6 rfl kf_X0_lengthOfWish_85 dX0_lengthOfWish_4 ?_
  refine x_aload_n (i := 0) (q := 0) hC dX0_lengthOfWish_7 rfl rfl ?_
  refine x_getr (k := 2) (r := 11) hC xo_0 rfl kf_X0_lengthOfWish_28 dX0_lengthOfWish_8 ?_
  refine x_getr (k := 3) (r := 14) hC xo_11 rfl kf_X0_lengthOfWish_88 dX0_lengthOfWish_11 ?_
  refine x_iload_n (i := 1) (q := 1) hC dX0_lengthOfWish_14 rfl rfl ?_
  refine x_iald (len := 20) hC xa_14 h.1 dX0_lengthOfWish_15 ?_
  replace h := h.2
  refine x_iald (len := 16) hC xa_9 h.1 dX0_lengthOfWish_16 ?_
  replace h := h.2
  exact x_iret hC hr dX0_lengthOfWish_17 h
theorem kf_X0_singTurn_28 : x_okf wsX0_singTurn RX0 28 0 2 = true := by decide +kernel
theorem kf_X0_singTurn_88 : x_okf wsX0_singTurn RX0 88 8 3 = true := by decide +kernel
theorem kf_X0_singTurn_35 : x_okf wsX0_singTurn RX0 35 0 3 = true := by decide +kernel
theorem kf_X0_singTurn_104 : x_okf wsX0_singTurn RX0 104 8 1 = true := by decide +kernel
theorem kf_X0_singTurn_107 : x_okf wsX0_singTurn RX0 107 8 2 = true := by decide +kernel
theorem kf_X0_singTurn_110 : x_okf wsX0_singTurn RX0 110 0 4 = true := by decide +kernel
theorem kf_X0_singTurn_12 : x_okf wsX0_singTurn RX0 12 0 0 = true := by decide +kernel
theorem kf_X0_singTurn_21 : x_okf wsX0_singTurn RX0 21 0 1 = true := by decide +kernel
theorem kf_X0_singTurn_124 : x_okf wsX0_singTurn RX0 124 7 4 = true := by decide +kernel
theorem kf_X0_singTurn_127 : x_okf wsX0_singTurn RX0 127 0 5 = true := by decide +kernel
def vc_X0_singTurn (g : xG) (v1 : Int32) (M : xM) (P : xM → Prop) : Prop := (mi_X0_lengthOfWish g v1 M (fun r1 N2 => (vp_in v1 20 ∧ (vp_in v1 20 ∧ (vp_in v1 20 ∧ (mi_X4_remember g (N2 12 (v1).toNatClampNeg) (N2 13 (v1).toNatClampNeg) (N2 14 (v1).toNatClampNeg) (N2 0 4) N2 (fun N3 => (mi_X8_singersOf g v1 N3 (fun r4 N5 => (mi_X6_singTurn g r4 r1 N5 (fun N6 => (vp_in (N2 14 (v1).toNatClampNeg) 16 ∧ (vp_in (N2 14 (v1).toNatClampNeg) 16 ∧ (∀ N7 : xM, N7 = (x_up N6 10 ((N2 14 (v1).toNatClampNeg)).toNatClampNeg ((N6 10 ((N2 14 (v1).toNatClampNeg)).toNatClampNeg) + (1 : Int32))) → (mi_X8_removeAt g v1 (x_up (x_up N7 0 4 ((N7 0 4) + r1)) 0 5 (((x_up N7 0 4 ((N7 0 4) + r1)) 0 5) + (1 : Int32))) (fun N8 => P N8))))))))))))))))
set_option maxRecDepth 100000 in
set_option maxHeartbeats 4000000 in
theorem wk_X0_singTurn {g : xG} (v1 : Int32) (M : xM) (P : xM → Prop) (h0 : vc_X0_singTurn g v1 M P ) : mi_X0_singTurn g v1 M P := by
  refine x_startV (as := [.ref (x_a g 0), .int v1]) (cc := cX0_singTurn) (n := 4) (ret := none) (own := RX0) (by decide) rfl rfl (Nat.le_of_ble_eq_true rfl) (fun x hC hr => ?_)
  have h := h0
  unfold vc_X0_singTurn at h
  refine x_aload_n (i := 0) (q := 0) hC dX0_singTurn_0 rfl rfl ?_
  refine x_iload_n (i := 1) (q := 1) hC dX0_singTurn_1 rfl rfl ?_
  refine x_callVi (q := (RX0, TX0, 6)) (As := [.int v1]) hC xo_0 rfl h gX0_singTurn_X0_lengthOfWish rfl rfl rfl hy_X0_lengthOfWish ⟨Nat.le_of_ble_eq_true rfl, Nat.le_of_ble_eq_true rfl⟩ rfl (Nat.le_of_ble_eq_true rfl) rfl dX0_singTurn_2 (fun r1 N2 h => ?_)
  refine x_istore_n (i := 2) (ls' := [(2, .int r1), (0, .ref (x_a g 0)), (1, .int v1)]) hC dX0_singTurn_5 rfl (by decide) rfl ?_
  refine x_aload_n (i := 0) (q := 1) hC dX0_singTurn_6 rfl rfl ?_
  refine x_getr (k := 2) (r := 11) hC xo_0 rfl kf_X0_singTurn_28 dX0_singTurn_7 ?_
  refine x_getr (k := 3) (r := 14) hC xo_11 rfl kf_X0_singTurn_88 dX0_singTurn_10 ?_
  refine x_iload_n (i := 1) (q := 2) hC dX0_singTurn_13 rfl rfl ?_
  refine x_iald (len := 20) hC xa_14 h.1 dX0_singTurn_14 ?_
  replace h := h.2
  refine x_istore_n (i := 3) (ls' := [(3, .int (N2 14 (v1).toNatClampNeg)), (2, .int r1), (0, .ref (x_a g 0)), (1, .int v1)]) hC dX0_singTurn_15 rfl (by decide) rfl ?_
  refine x_aload_n (i := 0) (q := 2) hC dX0_singTurn_16 rfl rfl ?_
  refine x_getr (k := 3) (r := 15) hC xo_0 rfl kf_X0_singTurn_35 dX0_singTurn_17 ?_
  refine x_aload_n (i := 0) (q := 2) hC dX0_singTurn_20 rfl rfl ?_
  refine x_getr (k := 2) (r := 11) hC xo_0 rfl kf_X0_singTurn_28 dX0_singTurn_21 ?_
  refine x_getr (k := 1) (r := 12) hC xo_11 rfl kf_X0_singTurn_104 dX0_singTurn_24 ?_
  refine x_iload_n (i := 1) (q := 3) hC dX0_singTurn_27 rfl rfl ?_
  refine x_iald (len := 20) hC xa_12 h.1 dX0_singTurn_28 ?_
  replace h := h.2
  refine x_aload_n (i := 0) (q := 2) hC dX0_singTurn_29 rfl rfl ?_
  refine x_getr (k := 2) (r := 11) hC xo_0 rfl kf_X0_singTurn_28 dX0_singTurn_30 ?_
  refine x_getr (k := 2) (r := 13) hC xo_11 rfl kf_X0_singTurn_107 dX0_singTurn_33 ?_
  refine x_iload_n (i := 1) (q := 3) hC dX0_singTurn_36 rfl rfl ?_
  refine x_iald (len := 20) hC xa_13 h.1 dX0_singTurn_37 ?_
  replace h := h.2
  refine x_iload_n (i := 3) (q := 0) hC dX0_singTurn_38 rfl rfl ?_
  refine x_aload_n (i := 0) (q := 2) hC dX0_singTurn_39 rfl rfl ?_
  refine x_geti (k := 4) hC xo_0 rfl kf_X0_singTurn_110 dX0_singTurn_40 ?_
  refine x_callVv (q := (RX4, TX4, 5)) (As := [.int (N2 12 (v1).toNatClampNeg), .int (N2 13 (v1).toNatClampNeg), .int (N2 14 (v1).toNatClampNeg), .int (N2 0 4)]) hC xo_15 rfl h gX0_singTurn_X4_remember rfl rfl rfl hy_X4_remember ⟨Nat.le_of_ble_eq_true rfl, Nat.le_of_ble_eq_true rfl⟩ rfl (Nat.le_of_ble_eq_true rfl) rfl dX0_singTurn_43 (fun N3 h => ?_)
  refine x_aload_n (i := 0) (q := 2) hC dX0_singTurn_46 rfl rfl ?_
  refine x_getr (k := 0) (r := 1) hC xo_0 rfl kf_X0_singTurn_12 dX0_singTurn_47 ?_
  refine x_aload_n (i := 0) (q := 2) hC dX0_singTurn_50 rfl rfl ?_
  refine x_getr (k := 2) (r := 11) hC xo_0 rfl kf_X0_singTurn_28 dX0_singTurn_51 ?_
  refine x_iload_n (i := 1) (q := 3) hC dX0_singTurn_54 rfl rfl ?_
  refine x_callVi (q := (RX8, TX8, 4)) (As := [.int v1]) hC xo_11 rfl h gX0_singTurn_X8_singersOf rfl rfl rfl hy_X8_singersOf ⟨Nat.le_of_ble_eq_true rfl, Nat.le_of_ble_eq_true rfl⟩ rfl (Nat.le_of_ble_eq_true rfl) rfl dX0_singTurn_55 (fun r4 N5 h => ?_)
  refine x_iload_n (i := 2) (q := 1) hC dX0_singTurn_58 rfl rfl ?_
  refine x_callVv (q := (RX6, TX6, 7)) (As := [.int r4, .int r1]) hC xo_1 rfl h gX0_singTurn_X6_singTurn rfl rfl rfl hy_X6_singTurn ⟨Nat.le_of_ble_eq_true rfl, Nat.le_of_ble_eq_true rfl⟩ rfl (Nat.le_of_ble_eq_true rfl) rfl dX0_singTurn_59 (fun N6 h => ?_)
  refine x_aload_n (i := 0) (q := 2) hC dX0_singTurn_62 rfl rfl ?_
  refine x_getr (k := 1) (r := 6) hC xo_0 rfl kf_X0_singTurn_21 dX0_singTurn_63 ?_
  refine x_getr (k := 4) (r := 10) hC xo_6 rfl kf_X0_singTurn_124 dX0_singTurn_66 ?_
  refine x_iload_n (i := 3) (q := 0) hC dX0_singTurn_69 rfl rfl ?_
  refine x_dup2 hC dX0_singTurn_70 rfl rfl ?_
  refine x_iald (len := 16) hC xa_10 h.1 dX0_singTurn_71 ?_
  replace h := h.2
  refine x_iconst (v := 1) hC dX0_singTurn_72 (by decide) ?_
  refine x_iadd hC dX0_singTurn_73 ?_
  refine x_iast (len := 16) hC xa_10 h.1 dX0_singTurn_74 ?_
  replace h := h.2
  refine x_topM (fun N7 qN7 => ?_)
  replace h := h N7 qN7
  refine x_aload_n (i := 0) (q := 2) hC dX0_singTurn_75 rfl rfl ?_
  refine x_dup hC dX0_singTurn_76 rfl ?_
  refine x_geti (k := 4) hC xo_0 rfl kf_X0_singTurn_110 dX0_singTurn_77 ?_
  refine x_iload_n (i := 2) (q := 1) hC dX0_singTurn_80 rfl rfl ?_
  refine x_iadd hC dX0_singTurn_81 ?_
  refine x_puti (k := 4) hC xo_0 rfl kf_X0_singTurn_110 kp_0_4 dX0_singTurn_82 ?_
  refine x_aload_n (i := 0) (q := 2) hC dX0_singTurn_85 rfl rfl ?_
  refine x_dup hC dX0_singTurn_86 rfl ?_
  refine x_geti (k := 5) hC xo_0 rfl kf_X0_singTurn_127 dX0_singTurn_87 ?_
  refine x_iconst (v := 1) hC dX0_singTurn_90 (by decide) ?_
  refine x_iadd hC dX0_singTurn_91 ?_
  refine x_puti (k := 5) hC xo_0 rfl kf_X0_singTurn_127 kp_0_5 dX0_singTurn_92 ?_
  refine x_aload_n (i := 0) (q := 2) hC dX0_singTurn_95 rfl rfl ?_
  refine x_getr (k := 2) (r := 11) hC xo_0 rfl kf_X0_singTurn_28 dX0_singTurn_96 ?_
  refine x_iload_n (i := 1) (q := 3) hC dX0_singTurn_99 rfl rfl ?_
  refine x_callVv (q := (RX8, TX8, 4)) (As := [.int v1]) hC xo_11 rfl h gX0_singTurn_X8_removeAt rfl rfl rfl hy_X8_removeAt ⟨Nat.le_of_ble_eq_true rfl, Nat.le_of_ble_eq_true rfl⟩ rfl (Nat.le_of_ble_eq_true rfl) rfl dX0_singTurn_100 (fun N8 h => ?_)
  exact x_vret hC hr dX0_singTurn_103 h
theorem kf_X8_numberWith_21 : x_okf wsX8_numberWith RX8 21 8 0 = true := by decide +kernel
def vc_X8_numberWith (g : xG) (v1 : Int32) (M : xM) (P : Int32 → xM → Prop) (K1 : Int32 → Int32 → Int32 → xM → Prop) : Prop := K1 v1 (0 : Int32) (0 : Int32) M
def vc_X8_numberWith_1 (g : xG) (v1 : Int32) (v2 : Int32) (v3 : Int32) (M : xM) (P : Int32 → xM → Prop) (K1 : Int32 → Int32 → Int32 → xM → Prop) : Prop := (((M 11 0) ≤ v3 → P v2 M) ∧ (¬ ((M 11 0) ≤ v3) → (mi_X8_singersOf g v3 M (fun r1 N2 => (mi_X9_isIn g r1 v1 N2 (fun r3 N4 => ((r3 = 0 → K1 v1 v2 (v3 + (1 : Int32)) N4) ∧ (¬ (r3 = 0) → K1 v1 (v2 + (1 : Int32)) (v3 + (1 : Int32)) N4))))))))
set_option maxRecDepth 100000 in
set_option maxHeartbeats 4000000 in
theorem wk_X8_numberWith {g : xG} (v1 : Int32) (M : xM) (P : Int32 → xM → Prop) (I1 : Nat → Int32 → Int32 → Int32 → xM → Prop) (h0 : vc_X8_numberWith g v1 M P (fun v1 v2 v3 N => ∃ k, I1 k v1 v2 v3 N)) (h1 : ∀ (n : Nat) (v1 : Int32) (v2 : Int32) (v3 : Int32) (N : xM), I1 n v1 v2 v3 N → vc_X8_numberWith_1 g v1 v2 v3 N P (fun v1 v2 v3 N => ∃ k, k < n ∧ I1 k v1 v2 v3 N)) : mi_X8_numberWith g v1 M P := by
  refine x_startI (as := [.ref (x_a g 11), .int v1]) (cc := cX8_numberWith) (n := 4) (ret := (some .int)) (own := RX8) (by decide) rfl rfl (Nat.le_of_ble_eq_true rfl) (fun x hC hr => ?_)
  have L : ∀ n : Nat, (∀ (v1 : Int32) (v2 : Int32) (v3 : Int32) (N : xM), I1 n v1 v2 v3 N → x_W x g 4 (x_Qi x g P) N 4 [(0, .ref (x_a g 11)), (1, .int v1), (2, .int v2), (3, .int v3)] []) := by
    intro n
    induction n using Nat.strongRecOn with
    | ind n ih =>
      intro v1 v2 v3 M hI
      have h := h1 n v1 v2 v3 M hI
      unfold vc_X8_numberWith_1 at h
      refine x_iload_n (i := 3) (q := 3) hC dX8_numberWith_4 rfl rfl ?_
      refine x_aload_n (i := 0) (q := 0) hC dX8_numberWith_5 rfl rfl ?_
      refine x_geti (k := 0) hC xo_11 rfl kf_X8_numberWith_21 dX8_numberWith_6 ?_
      refine x_icmp_ge (t := 33) hC dX8_numberWith_9 (by decide) (fun q => ?_) (fun q => ?_)
      · replace h := h.1 q
        refine x_iload_n (i := 2) (q := 2) hC dX8_numberWith_33 rfl rfl ?_
        exact x_iret hC hr dX8_numberWith_34 h
      · replace h := h.2 q
        refine x_aload_n (i := 0) (q := 0) hC dX8_numberWith_12 rfl rfl ?_
        refine x_iload_n (i := 3) (q := 3) hC dX8_numberWith_13 rfl rfl ?_
        refine x_callVi (q := (RX8, TX8, 4)) (As := [.int v3]) hC xo_11 rfl h gX8_numberWith_X8_singersOf rfl rfl rfl hy_X8_singersOf ⟨Nat.le_of_ble_eq_true rfl, Nat.le_of_ble_eq_true rfl⟩ rfl (Nat.le_of_ble_eq_true rfl) rfl dX8_numberWith_14 (fun r1 N2 h => ?_)
        refine x_iload_n (i := 1) (q := 1) hC dX8_numberWith_17 rfl rfl ?_
        refine x_callNi (host := RX9) (As := [.int r1, .int v1]) hC h gX8_numberWith_X9_isIn_n33 rfl rfl rfl (by decide +kernel) (by decide +kernel) (by decide +kernel) hy_X9_isIn.2 ⟨Nat.le_of_ble_eq_true rfl, Nat.le_of_ble_eq_true rfl⟩ rfl (Nat.le_of_ble_eq_true rfl) rfl dX8_numberWith_18 (fun r3 N4 h => ?_)
        refine x_if_eq (t := 27) hC dX8_numberWith_21 (by decide) (fun q => ?_) (fun q => ?_)
        · replace h := h.1 q
          refine x_iinc (k := 3) (v' := (v3 + (1 : Int32))) (ls' := [(3, .int (v3 + (1 : Int32))), (0, .ref (x_a g 11)), (1, .int v1), (2, .int v2)]) hC dX8_numberWith_27 rfl rfl (by decide) rfl ?_
          refine x_goto (t := 4) hC dX8_numberWith_30 (by decide) ?_
          obtain ⟨n_1, hn, h⟩ := h
          exact x_sub [1, 2, 3, 0] rfl ((ih n_1 hn) _ _ _ _ h)
        · replace h := h.2 q
          refine x_iinc (k := 2) (v' := (v2 + (1 : Int32))) (ls' := [(2, .int (v2 + (1 : Int32))), (0, .ref (x_a g 11)), (1, .int v1), (3, .int v3)]) hC dX8_numberWith_24 rfl rfl (by decide) rfl ?_
          refine x_iinc (k := 3) (v' := (v3 + (1 : Int32))) (ls' := [(3, .int (v3 + (1 : Int32))), (2, .int (v2 + (1 : Int32))), (0, .ref (x_a g 11)), (1, .int v1)]) hC dX8_numberWith_27 rfl rfl (by decide) rfl ?_
          refine x_goto (t := 4) hC dX8_numberWith_30 (by decide) ?_
          obtain ⟨n_1, hn, h⟩ := h
          exact x_sub [2, 3, 1, 0] rfl ((ih n_1 hn) _ _ _ _ h)
  have h := h0
  unfold vc_X8_numberWith at h
  refine x_iconst (v := 0) hC dX8_numberWith_0 (by decide) ?_
  refine x_istore_n (i := 2) (ls' := [(2, .int (0 : Int32)), (0, .ref (x_a g 11)), (1, .int v1)]) hC dX8_numberWith_1 rfl (by decide) rfl ?_
  refine x_iconst (v := 0) hC dX8_numberWith_2 (by decide) ?_
  refine x_istore_n (i := 3) (ls' := [(3, .int (0 : Int32)), (2, .int (0 : Int32)), (0, .ref (x_a g 11)), (1, .int v1)]) hC dX8_numberWith_3 rfl (by decide) rfl ?_
  obtain ⟨n_1, h⟩ := h
  exact x_sub [2, 3, 1, 0] rfl ((L n_1) _ _ _ _ h)
theorem kf_X0_singersWithKey_12 : x_okf wsX0_singersWithKey RX0 12 0 0 = true := by decide +kernel
theorem kf_X0_singersWithKey_70 : x_okf wsX0_singersWithKey RX0 70 6 0 = true := by decide +kernel
def vc_X0_singersWithKey (g : xG) (v1 : Int32) (M : xM) (P : Int32 → xM → Prop) (K1 : Int32 → Int32 → Int32 → xM → Prop) : Prop := K1 v1 (0 : Int32) (0 : Int32) M
def vc_X0_singersWithKey_1 (g : xG) (v1 : Int32) (v2 : Int32) (v3 : Int32) (M : xM) (P : Int32 → xM → Prop) (K1 : Int32 → Int32 → Int32 → xM → Prop) : Prop := (((M 1 0) ≤ v3 → P v2 M) ∧ (¬ ((M 1 0) ≤ v3) → (mi_X0_keyAndTen g v3 (-6 : Int32) v1 M (fun r1 N2 => ((r1 = (-6 : Int32) → K1 v1 v2 (v3 + (1 : Int32)) N2) ∧ (¬ (r1 = (-6 : Int32)) → K1 v1 (v2 ||| ((1 : Int32) <<< (v3 &&& 31))) (v3 + (1 : Int32)) N2))))))
set_option maxRecDepth 100000 in
set_option maxHeartbeats 4000000 in
theorem wk_X0_singersWithKey {g : xG} (v1 : Int32) (M : xM) (P : Int32 → xM → Prop) (I1 : Nat → Int32 → Int32 → Int32 → xM → Prop) (h0 : vc_X0_singersWithKey g v1 M P (fun v1 v2 v3 N => ∃ k, I1 k v1 v2 v3 N)) (h1 : ∀ (n : Nat) (v1 : Int32) (v2 : Int32) (v3 : Int32) (N : xM), I1 n v1 v2 v3 N → vc_X0_singersWithKey_1 g v1 v2 v3 N P (fun v1 v2 v3 N => ∃ k, k < n ∧ I1 k v1 v2 v3 N)) : mi_X0_singersWithKey g v1 M P := by
  refine x_startI (as := [.ref (x_a g 0), .int v1]) (cc := cX0_singersWithKey) (n := 4) (ret := (some .int)) (own := RX0) (by decide) rfl rfl (Nat.le_of_ble_eq_true rfl) (fun x hC hr => ?_)
  have L : ∀ n : Nat, (∀ (v1 : Int32) (v2 : Int32) (v3 : Int32) (N : xM), I1 n v1 v2 v3 N → x_W x g 4 (x_Qi x g P) N 4 [(0, .ref (x_a g 0)), (1, .int v1), (2, .int v2), (3, .int v3)] []) := by
    intro n
    induction n using Nat.strongRecOn with
    | ind n ih =>
      intro v1 v2 v3 M hI
      have h := h1 n v1 v2 v3 M hI
      unfold vc_X0_singersWithKey_1 at h
      refine x_iload_n (i := 3) (q := 3) hC dX0_singersWithKey_4 rfl rfl ?_
      refine x_aload_n (i := 0) (q := 0) hC dX0_singersWithKey_5 rfl rfl ?_
      refine x_getr (k := 0) (r := 1) hC xo_0 rfl kf_X0_singersWithKey_12 dX0_singersWithKey_6 ?_
      refine x_geti (k := 0) hC xo_1 rfl kf_X0_singersWithKey_70 dX0_singersWithKey_9 ?_
      refine x_icmp_ge (t := 40) hC dX0_singersWithKey_12 (by decide) (fun q => ?_) (fun q => ?_)
      · replace h := h.1 q
        refine x_iload_n (i := 2) (q := 2) hC dX0_singersWithKey_40 rfl rfl ?_
        exact x_iret hC hr dX0_singersWithKey_41 h
      · replace h := h.2 q
        refine x_aload_n (i := 0) (q := 0) hC dX0_singersWithKey_15 rfl rfl ?_
        refine x_iload_n (i := 3) (q := 3) hC dX0_singersWithKey_16 rfl rfl ?_
        refine x_bipush (v := -6) hC dX0_singersWithKey_17 (by decide) ?_
        refine x_iload_n (i := 1) (q := 1) hC dX0_singersWithKey_19 rfl rfl ?_
        refine x_callVi (q := (RX0, TX0, 6)) (As := [.int v3, .int (-6 : Int32), .int v1]) hC xo_0 rfl h gX0_singersWithKey_X0_keyAndTen rfl rfl rfl hy_X0_keyAndTen ⟨Nat.le_of_ble_eq_true rfl, Nat.le_of_ble_eq_true rfl⟩ rfl (Nat.le_of_ble_eq_true rfl) rfl dX0_singersWithKey_20 (fun r1 N2 h => ?_)
        refine x_bipush (v := -6) hC dX0_singersWithKey_23 (by decide) ?_
        refine x_icmp_eq (t := 34) hC dX0_singersWithKey_25 (by decide) (fun q => ?_) (fun q => ?_)
        · replace h := h.1 q
          refine x_iinc (k := 3) (v' := (v3 + (1 : Int32))) (ls' := [(3, .int (v3 + (1 : Int32))), (0, .ref (x_a g 0)), (1, .int v1), (2, .int v2)]) hC dX0_singersWithKey_34 rfl rfl (by decide) rfl ?_
          refine x_goto (t := 4) hC dX0_singersWithKey_37 (by decide) ?_
          obtain ⟨n_1, hn, h⟩ := h
          exact x_sub [1, 2, 3, 0] rfl ((ih n_1 hn) _ _ _ _ h)
        · replace h := h.2 q
          refine x_iload_n (i := 2) (q := 2) hC dX0_singersWithKey_28 rfl rfl ?_
          refine x_iconst (v := 1) hC dX0_singersWithKey_29 (by decide) ?_
          refine x_iload_n (i := 3) (q := 3) hC dX0_singersWithKey_30 rfl rfl ?_
          refine x_ishl hC dX0_singersWithKey_31 ?_
          refine x_ior hC dX0_singersWithKey_32 ?_
          refine x_istore_n (i := 2) (ls' := [(2, .int (v2 ||| ((1 : Int32) <<< (v3 &&& 31)))), (0, .ref (x_a g 0)), (1, .int v1), (3, .int v3)]) hC dX0_singersWithKey_33 rfl (by decide) rfl ?_
          refine x_iinc (k := 3) (v' := (v3 + (1 : Int32))) (ls' := [(3, .int (v3 + (1 : Int32))), (2, .int (v2 ||| ((1 : Int32) <<< (v3 &&& 31)))), (0, .ref (x_a g 0)), (1, .int v1)]) hC dX0_singersWithKey_34 rfl rfl (by decide) rfl ?_
          refine x_goto (t := 4) hC dX0_singersWithKey_37 (by decide) ?_
          obtain ⟨n_1, hn, h⟩ := h
          exact x_sub [2, 3, 1, 0] rfl ((ih n_1 hn) _ _ _ _ h)
  have h := h0
  unfold vc_X0_singersWithKey at h
  refine x_iconst (v := 0) hC dX0_singersWithKey_0 (by decide) ?_
  refine x_istore_n (i := 2) (ls' := [(2, .int (0 : Int32)), (0, .ref (x_a g 0)), (1, .int v1)]) hC dX0_singersWithKey_1 rfl (by decide) rfl ?_
  refine x_iconst (v := 0) hC dX0_singersWithKey_2 (by decide) ?_
  refine x_istore_n (i := 3) (ls' := [(3, .int (0 : Int32)), (2, .int (0 : Int32)), (0, .ref (x_a g 0)), (1, .int v1)]) hC dX0_singersWithKey_3 rfl (by decide) rfl ?_
  obtain ⟨n_1, h⟩ := h
  exact x_sub [2, 3, 1, 0] rfl ((L n_1) _ _ _ _ h)
theorem kf_X0_isReady_28 : x_okf wsX0_isReady RX0 28 0 2 = true := by decide +kernel
theorem kf_X0_isReady_12 : x_okf wsX0_isReady RX0 12 0 0 = true := by decide +kernel
theorem kf_X0_isReady_74 : x_okf wsX0_isReady RX0 74 6 1 = true := by decide +kernel
def vc_X0_isReady (g : xG) (v1 : Int32) (M : xM) (P : Int32 → xM → Prop) : Prop := (mi_X8_readyOnes g (M 1 1) M (fun r1 N2 => (mi_X9_isIn g r1 v1 N2 (fun r3 N4 => (narrow .boolean (.int r3) = .int r3 ∧ P r3 N4)))))
set_option maxRecDepth 100000 in
set_option maxHeartbeats 4000000 in
theorem wk_X0_isReady {g : xG} (v1 : Int32) (M : xM) (P : Int32 → xM → Prop) (h0 : vc_X0_isReady g v1 M P ) : mi_X0_isReady g v1 M P := by
  refine x_startI (as := [.ref (x_a g 0), .int v1]) (cc := cX0_isReady) (n := 2) (ret := (some .boolean)) (own := RX0) (by decide) rfl rfl (Nat.le_of_ble_eq_true rfl) (fun x hC hr => ?_)
  have h := h0
  unfold vc_X0_isReady at h
  refine x_aload_n (i := 0) (q := 0) hC dX0_isReady_0 rfl rfl ?_
  refine x_getr (k := 2) (r := 11) hC xo_0 rfl kf_X0_isReady_28 dX0_isReady_1 ?_
  refine x_aload_n (i := 0) (q := 0) hC dX0_isReady_4 rfl rfl ?_
  refine x_getr (k := 0) (r := 1) hC xo_0 rfl kf_X0_isReady_12 dX0_isReady_5 ?_
  refine x_geti (k := 1) hC xo_1 rfl kf_X0_isReady_74 dX0_isReady_8 ?_
  refine x_callVi (q := (RX8, TX8, 4)) (As := [.int (M 1 1)]) hC xo_11 rfl h gX0_isReady_X8_readyOnes rfl rfl rfl hy_X8_readyOnes ⟨Nat.le_of_ble_eq_true rfl, Nat.le_of_ble_eq_true rfl⟩ rfl (Nat.le_of_ble_eq_true rfl) rfl dX0_isReady_11 (fun r1 N2 h => ?_)
  refine x_iload_n (i := 1) (q := 1) hC dX0_isReady_14 rfl rfl ?_
  refine x_callNi (host := RX9) (As := [.int r1, .int v1]) hC h gX0_isReady_X9_isIn_n81 rfl rfl rfl (by decide +kernel) (by decide +kernel) (by decide +kernel) hy_X9_isIn.2 ⟨Nat.le_of_ble_eq_true rfl, Nat.le_of_ble_eq_true rfl⟩ rfl (Nat.le_of_ble_eq_true rfl) rfl dX0_isReady_15 (fun r3 N4 h => ?_)
  exact x_zret hC hr dX0_isReady_18 h.1 h.2
theorem kf_X5_addTurn_9 : x_okf wsX5_addTurn RX5 9 5 0 = true := by decide +kernel
def vc_X5_addTurn (g : xG) (v1 : Int32) (M : xM) (P : xM → Prop) (K1 : Int32 → Int32 → xM → Prop) : Prop := K1 v1 (0 : Int32) M
def vc_X5_addTurn_1 (g : xG) (v1 : Int32) (v2 : Int32) (M : xM) (P : xM → Prop) (K1 : Int32 → Int32 → xM → Prop) : Prop := (((12 : Int32) ≤ v2 → P M) ∧ (¬ ((12 : Int32) ≤ v2) → (mi_X9_isIn g v1 v2 M (fun r1 N2 => ((r1 = 0 → K1 v1 (v2 + (1 : Int32)) N2) ∧ (¬ (r1 = 0) → (vp_in v2 12 ∧ (vp_in v2 12 ∧ K1 v1 (v2 + (1 : Int32)) (x_up N2 192 (v2).toNatClampNeg ((N2 192 (v2).toNatClampNeg) + (1 : Int32)))))))))))
set_option maxRecDepth 100000 in
set_option maxHeartbeats 4000000 in
theorem wk_X5_addTurn {g : xG} (v1 : Int32) (M : xM) (P : xM → Prop) (I1 : Nat → Int32 → Int32 → xM → Prop) (h0 : vc_X5_addTurn g v1 M P (fun v1 v2 N => ∃ k, I1 k v1 v2 N)) (h1 : ∀ (n : Nat) (v1 : Int32) (v2 : Int32) (N : xM), I1 n v1 v2 N → vc_X5_addTurn_1 g v1 v2 N P (fun v1 v2 N => ∃ k, k < n ∧ I1 k v1 v2 N)) : mi_X5_addTurn g v1 M P := by
  refine x_startV (as := [.ref (x_a g 191), .int v1]) (cc := cX5_addTurn) (n := 3) (ret := none) (own := RX5) (by decide) rfl rfl (Nat.le_of_ble_eq_true rfl) (fun x hC hr => ?_)
  have L : ∀ n : Nat, (∀ (v1 : Int32) (v2 : Int32) (N : xM), I1 n v1 v2 N → x_W x g 3 (x_Qv x g P) N 2 [(0, .ref (x_a g 191)), (1, .int v1), (2, .int v2)] []) := by
    intro n
    induction n using Nat.strongRecOn with
    | ind n ih =>
      intro v1 v2 M hI
      have h := h1 n v1 v2 M hI
      unfold vc_X5_addTurn_1 at h
      refine x_iload_n (i := 2) (q := 2) hC dX5_addTurn_2 rfl rfl ?_
      refine x_bipush (v := 12) hC dX5_addTurn_3 (by decide) ?_
      refine x_icmp_ge (t := 32) hC dX5_addTurn_5 (by decide) (fun q => ?_) (fun q => ?_)
      · replace h := h.1 q
        exact x_vret hC hr dX5_addTurn_32 h
      · replace h := h.2 q
        refine x_iload_n (i := 1) (q := 1) hC dX5_addTurn_8 rfl rfl ?_
        refine x_iload_n (i := 2) (q := 2) hC dX5_addTurn_9 rfl rfl ?_
        refine x_callNi (host := RX9) (As := [.int v1, .int v2]) hC h gX5_addTurn_X9_isIn_n66 rfl rfl rfl (by decide +kernel) (by decide +kernel) (by decide +kernel) hy_X9_isIn.2 ⟨Nat.le_of_ble_eq_true rfl, Nat.le_of_ble_eq_true rfl⟩ rfl (Nat.le_of_ble_eq_true rfl) rfl dX5_addTurn_10 (fun r1 N2 h => ?_)
        refine x_if_eq (t := 26) hC dX5_addTurn_13 (by decide) (fun q => ?_) (fun q => ?_)
        · replace h := h.1 q
          refine x_iinc (k := 2) (v' := (v2 + (1 : Int32))) (ls' := [(2, .int (v2 + (1 : Int32))), (0, .ref (x_a g 191)), (1, .int v1)]) hC dX5_addTurn_26 rfl rfl (by decide) rfl ?_
          refine x_goto (t := 2) hC dX5_addTurn_29 (by decide) ?_
          obtain ⟨n_1, hn, h⟩ := h
          exact x_sub [1, 2, 0] rfl ((ih n_1 hn) _ _ _ h)
        · replace h := h.2 q
          refine x_aload_n (i := 0) (q := 0) hC dX5_addTurn_16 rfl rfl ?_
          refine x_getr (k := 0) (r := 192) hC xo_191 rfl kf_X5_addTurn_9 dX5_addTurn_17 ?_
          refine x_iload_n (i := 2) (q := 2) hC dX5_addTurn_20 rfl rfl ?_
          refine x_dup2 hC dX5_addTurn_21 rfl rfl ?_
          refine x_iald (len := 12) hC xa_192 h.1 dX5_addTurn_22 ?_
          replace h := h.2
          refine x_iconst (v := 1) hC dX5_addTurn_23 (by decide) ?_
          refine x_iadd hC dX5_addTurn_24 ?_
          refine x_iast (len := 12) hC xa_192 h.1 dX5_addTurn_25 ?_
          replace h := h.2
          refine x_iinc (k := 2) (v' := (v2 + (1 : Int32))) (ls' := [(2, .int (v2 + (1 : Int32))), (0, .ref (x_a g 191)), (1, .int v1)]) hC dX5_addTurn_26 rfl rfl (by decide) rfl ?_
          refine x_goto (t := 2) hC dX5_addTurn_29 (by decide) ?_
          obtain ⟨n_1, hn, h⟩ := h
          exact x_sub [1, 2, 0] rfl ((ih n_1 hn) _ _ _ h)
  have h := h0
  unfold vc_X5_addTurn at h
  refine x_iconst (v := 0) hC dX5_addTurn_0 (by decide) ?_
  refine x_istore_n (i := 2) (ls' := [(2, .int (0 : Int32)), (0, .ref (x_a g 191)), (1, .int v1)]) hC dX5_addTurn_1 rfl (by decide) rfl ?_
  obtain ⟨n_1, h⟩ := h
  exact x_sub [1, 2, 0] rfl ((L n_1) _ _ _ h)
theorem kf_X5_lookAhead_15 : x_okf wsX5_lookAhead RX5 15 0 2 = true := by decide +kernel
theorem kf_X5_lookAhead_21 : x_okf wsX5_lookAhead RX5 21 0 0 = true := by decide +kernel
theorem kf_X5_lookAhead_25 : x_okf wsX5_lookAhead RX5 25 6 5 = true := by decide +kernel
theorem kf_X5_lookAhead_9 : x_okf wsX5_lookAhead RX5 9 5 0 = true := by decide +kernel
theorem kf_X5_lookAhead_32 : x_okf wsX5_lookAhead RX5 32 6 1 = true := by decide +kernel
theorem kf_X5_lookAhead_42 : x_okf wsX5_lookAhead RX5 42 6 2 = true := by decide +kernel
theorem kf_X5_lookAhead_45 : x_okf wsX5_lookAhead RX5 45 0 4 = true := by decide +kernel
theorem kf_X5_lookAhead_48 : x_okf wsX5_lookAhead RX5 48 5 2 = true := by decide +kernel
theorem kf_X5_lookAhead_49 : x_okf wsX5_lookAhead RX5 49 5 1 = true := by decide +kernel
def vc_X5_lookAhead (g : xG) (v2 : Int32) (v3 : Int32) (M : xM) (P : xM → Prop) (K1 : Int32 → Int32 → Int32 → xM → Prop) : Prop := (mi_X9_copyRow g 4 192 M (fun N1 => (mi_X8_readyOnes g (N1 1 1) N1 (fun r2 N3 => ((v3 = (-6 : Int32) → K1 v2 r2 (N3 1 2) (x_up (x_up N3 191 2 (N3 0 4)) 191 1 (0 : Int32))) ∧ (¬ (v3 = (-6 : Int32)) → K1 v2 (r2 &&& (((1 : Int32) <<< (v3 &&& 31)) ^^^ (-1 : Int32))) (N3 1 2) (x_up (x_up N3 191 2 (N3 0 4)) 191 1 (0 : Int32))))))))
def vc_X5_lookAhead_1 (g : xG) (v2 : Int32) (v5 : Int32) (v6 : Int32) (M : xM) (P : xM → Prop) (K1 : Int32 → Int32 → Int32 → xM → Prop) : Prop := (((20 : Int32) ≤ (M 191 1) → P M) ∧ (¬ ((20 : Int32) ≤ (M 191 1)) → (mi_X8_nextAmong g v5 v6 192 M (fun r4 N5 => ((r4 = v2 → P N5) ∧ (¬ (r4 = v2) → ((¬ r4 = (-6 : Int32) → (mi_X0_lengthOfWish g r4 N5 (fun r6 N7 => (mi_X8_singersOf g r4 (x_up N7 191 2 ((N5 191 2) + r6)) (fun r8 N9 => (mi_X5_addTurn g r8 N9 (fun N10 => K1 v2 (v5 &&& (((1 : Int32) <<< (r4 &&& 31)) ^^^ (-1 : Int32))) r8 (x_up N10 191 1 ((N10 191 1) + (1 : Int32)))))))))) ∧ (r4 = (-6 : Int32) → P N5))))))))
set_option maxRecDepth 100000 in
set_option maxHeartbeats 4000000 in
theorem wk_X5_lookAhead {g : xG} (v2 : Int32) (v3 : Int32) (M : xM) (P : xM → Prop) (I1 : Nat → Int32 → Int32 → Int32 → xM → Prop) (h0 : vc_X5_lookAhead g v2 v3 M P (fun v2 v5 v6 N => ∃ k, I1 k v2 v5 v6 N)) (h1 : ∀ (n : Nat) (v2 : Int32) (v5 : Int32) (v6 : Int32) (N : xM), I1 n v2 v5 v6 N → vc_X5_lookAhead_1 g v2 v5 v6 N P (fun v2 v5 v6 N => ∃ k, k < n ∧ I1 k v2 v5 v6 N)) : mi_X5_lookAhead g v2 v3 M P := by
  refine x_startV (as := [.ref (x_a g 191), .ref (x_a g 0), .int v2, .int v3]) (cc := cX5_lookAhead) (n := 8) (ret := none) (own := RX5) (by decide) rfl rfl (Nat.le_of_ble_eq_true rfl) (fun x hC hr => ?_)
  have L : ∀ n : Nat, (∀ (v2 : Int32) (v5 : Int32) (v6 : Int32) (N : xM), I1 n v2 v5 v6 N → x_W x g 8 (x_Qv x g P) N 72 [(0, .ref (x_a g 191)), (1, .ref (x_a g 0)), (2, .int v2), (4, .ref (x_a g 11)), (5, .int v5), (6, .int v6)] []) := by
    intro n
    induction n using Nat.strongRecOn with
    | ind n ih =>
      intro v2 v5 v6 M hI
      have h := h1 n v2 v5 v6 M hI
      unfold vc_X5_lookAhead_1 at h
      refine x_aload_n (i := 0) (q := 0) hC dX5_lookAhead_72 rfl rfl ?_
      refine x_geti (k := 1) hC xo_191 rfl kf_X5_lookAhead_49 dX5_lookAhead_73 ?_
      refine x_bipush (v := 20) hC dX5_lookAhead_76 (by decide) ?_
      refine x_icmp_ge (t := 164) hC dX5_lookAhead_78 (by decide) (fun q => ?_) (fun q => ?_)
      · replace h := h.1 q
        exact x_vret hC hr dX5_lookAhead_164 h
      · replace h := h.2 q
        refine x_aload (q := 3) hC dX5_lookAhead_81 rfl ?_
        refine x_iload (q := 4) hC dX5_lookAhead_83 rfl ?_
        refine x_iload (q := 5) hC dX5_lookAhead_85 rfl ?_
        refine x_aload_n (i := 0) (q := 0) hC dX5_lookAhead_87 rfl rfl ?_
        refine x_getr (k := 0) (r := 192) hC xo_191 rfl kf_X5_lookAhead_9 dX5_lookAhead_88 ?_
        refine x_callVi (q := (RX8, TX8, 4)) (As := [.int v5, .int v6, .ref (x_a g 192)]) hC xo_11 rfl h gX5_lookAhead_X8_nextAmong rfl rfl rfl hy_X8_nextAmong ⟨Nat.le_of_ble_eq_true rfl, Nat.le_of_ble_eq_true rfl⟩ rfl (Nat.le_of_ble_eq_true rfl) rfl dX5_lookAhead_91 (fun r4 N5 h => ?_)
        refine x_istore (ls' := [(7, .int r4), (0, .ref (x_a g 191)), (1, .ref (x_a g 0)), (2, .int v2), (4, .ref (x_a g 11)), (5, .int v5), (6, .int v6)]) hC dX5_lookAhead_94 (by decide) rfl ?_
        refine x_iload (q := 0) hC dX5_lookAhead_96 rfl ?_
        refine x_iload_n (i := 2) (q := 3) hC dX5_lookAhead_98 rfl rfl ?_
        refine x_icmp_eq (t := 109) hC dX5_lookAhead_99 (by decide) (fun q => ?_) (fun q => ?_)
        · replace h := h.1 q
          exact x_vret hC hr dX5_lookAhead_109 h
        · replace h := h.2 q
          refine x_iload (q := 0) hC dX5_lookAhead_102 rfl ?_
          refine x_bipush (v := -6) hC dX5_lookAhead_104 (by decide) ?_
          refine x_icmp_ne (t := 110) hC dX5_lookAhead_106 (by decide) (fun q => ?_) (fun q => ?_)
          · replace h := h.1 q
            refine x_iload (q := 5) hC dX5_lookAhead_110 rfl ?_
            refine x_iconst (v := 1) hC dX5_lookAhead_112 (by decide) ?_
            refine x_iload (q := 0) hC dX5_lookAhead_113 rfl ?_
            refine x_ishl hC dX5_lookAhead_115 ?_
            refine x_iconst (v := -1) hC dX5_lookAhead_116 (by decide) ?_
            refine x_ixor hC dX5_lookAhead_117 ?_
            refine x_iand hC dX5_lookAhead_118 ?_
            refine x_istore (ls' := [(5, .int (v5 &&& (((1 : Int32) <<< (r4 &&& 31)) ^^^ (-1 : Int32)))), (7, .int r4), (0, .ref (x_a g 191)), (1, .ref (x_a g 0)), (2, .int v2), (4, .ref (x_a g 11)), (6, .int v6)]) hC dX5_lookAhead_119 (by decide) rfl ?_
            refine x_aload_n (i := 0) (q := 2) hC dX5_lookAhead_121 rfl rfl ?_
            refine x_dup hC dX5_lookAhead_122 rfl ?_
            refine x_geti (k := 2) hC xo_191 rfl kf_X5_lookAhead_48 dX5_lookAhead_123 ?_
            refine x_aload_n (i := 1) (q := 3) hC dX5_lookAhead_126 rfl rfl ?_
            refine x_iload (q := 1) hC dX5_lookAhead_127 rfl ?_
            refine x_callVi (q := (RX0, TX0, 6)) (As := [.int r4]) hC xo_0 rfl h gX5_lookAhead_X0_lengthOfWish rfl rfl rfl hy_X0_lengthOfWish ⟨Nat.le_of_ble_eq_true rfl, Nat.le_of_ble_eq_true rfl⟩ rfl (Nat.le_of_ble_eq_true rfl) rfl dX5_lookAhead_129 (fun r6 N7 h => ?_)
            refine x_iadd hC dX5_lookAhead_132 ?_
            refine x_puti (k := 2) hC xo_191 rfl kf_X5_lookAhead_48 kp_5_2 dX5_lookAhead_133 ?_
            refine x_aload (q := 5) hC dX5_lookAhead_136 rfl ?_
            refine x_iload (q := 1) hC dX5_lookAhead_138 rfl ?_
            refine x_callVi (q := (RX8, TX8, 4)) (As := [.int r4]) hC xo_11 rfl h gX5_lookAhead_X8_singersOf rfl rfl rfl hy_X8_singersOf ⟨Nat.le_of_ble_eq_true rfl, Nat.le_of_ble_eq_true rfl⟩ rfl (Nat.le_of_ble_eq_true rfl) rfl dX5_lookAhead_140 (fun r8 N9 h => ?_)
            refine x_istore (ls' := [(6, .int r8), (5, .int (v5 &&& (((1 : Int32) <<< (r4 &&& 31)) ^^^ (-1 : Int32)))), (7, .int r4), (0, .ref (x_a g 191)), (1, .ref (x_a g 0)), (2, .int v2), (4, .ref (x_a g 11))]) hC dX5_lookAhead_143 (by decide) rfl ?_
            refine x_aload_n (i := 0) (q := 3) hC dX5_lookAhead_145 rfl rfl ?_
            refine x_iload (q := 0) hC dX5_lookAhead_146 rfl ?_
            refine x_callVv (q := (RX5, TX5, 3)) (As := [.int r8]) hC xo_191 rfl h gX5_lookAhead_X5_addTurn rfl rfl rfl hy_X5_addTurn ⟨Nat.le_of_ble_eq_true rfl, Nat.le_of_ble_eq_true rfl⟩ rfl (Nat.le_of_ble_eq_true rfl) rfl dX5_lookAhead_148 (fun N10 h => ?_)
            refine x_aload_n (i := 0) (q := 3) hC dX5_lookAhead_151 rfl rfl ?_
            refine x_dup hC dX5_lookAhead_152 rfl ?_
            refine x_geti (k := 1) hC xo_191 rfl kf_X5_lookAhead_49 dX5_lookAhead_153 ?_
            refine x_iconst (v := 1) hC dX5_lookAhead_156 (by decide) ?_
            refine x_iadd hC dX5_lookAhead_157 ?_
            refine x_puti (k := 1) hC xo_191 rfl kf_X5_lookAhead_49 kp_5_1 dX5_lookAhead_158 ?_
            refine x_goto (t := 72) hC dX5_lookAhead_161 (by decide) ?_
            obtain ⟨n_1, hn, h⟩ := h
            exact x_sub [3, 4, 5, 6, 1, 0] rfl ((ih n_1 hn) _ _ _ _ h)
          · replace h := h.2 q
            exact x_vret hC hr dX5_lookAhead_109 h
  have h := h0
  unfold vc_X5_lookAhead at h
  refine x_aload_n (i := 1) (q := 1) hC dX5_lookAhead_0 rfl rfl ?_
  refine x_getr (k := 2) (r := 11) hC xo_0 rfl kf_X5_lookAhead_15 dX5_lookAhead_1 ?_
  refine x_astore (ls' := [(4, .ref (x_a g 11)), (0, .ref (x_a g 191)), (1, .ref (x_a g 0)), (2, .int v2), (3, .int v3)]) hC dX5_lookAhead_4 (by decide) rfl ?_
  refine x_aload_n (i := 1) (q := 2) hC dX5_lookAhead_6 rfl rfl ?_
  refine x_getr (k := 0) (r := 1) hC xo_0 rfl kf_X5_lookAhead_21 dX5_lookAhead_7 ?_
  refine x_getr (k := 5) (r := 4) hC xo_1 rfl kf_X5_lookAhead_25 dX5_lookAhead_10 ?_
  refine x_aload_n (i := 0) (q := 1) hC dX5_lookAhead_13 rfl rfl ?_
  refine x_getr (k := 0) (r := 192) hC xo_191 rfl kf_X5_lookAhead_9 dX5_lookAhead_14 ?_
  refine x_callNv (host := RX9) (As := [.ref (x_a g 4), .ref (x_a g 192)]) hC h gX5_lookAhead_X9_copyRow_n28 rfl rfl rfl (by decide +kernel) (by decide +kernel) (by decide +kernel) hy_X9_copyRow.2 ⟨Nat.le_of_ble_eq_true rfl, Nat.le_of_ble_eq_true rfl⟩ rfl (Nat.le_of_ble_eq_true rfl) rfl dX5_lookAhead_17 (fun N1 h => ?_)
  refine x_aload (q := 0) hC dX5_lookAhead_20 rfl ?_
  refine x_aload_n (i := 1) (q := 2) hC dX5_lookAhead_22 rfl rfl ?_
  refine x_getr (k := 0) (r := 1) hC xo_0 rfl kf_X5_lookAhead_21 dX5_lookAhead_23 ?_
  refine x_geti (k := 1) hC xo_1 rfl kf_X5_lookAhead_32 dX5_lookAhead_26 ?_
  refine x_callVi (q := (RX8, TX8, 4)) (As := [.int (N1 1 1)]) hC xo_11 rfl h gX5_lookAhead_X8_readyOnes rfl rfl rfl hy_X8_readyOnes ⟨Nat.le_of_ble_eq_true rfl, Nat.le_of_ble_eq_true rfl⟩ rfl (Nat.le_of_ble_eq_true rfl) rfl dX5_lookAhead_29 (fun r2 N3 h => ?_)
  refine x_istore (ls' := [(5, .int r2), (4, .ref (x_a g 11)), (0, .ref (x_a g 191)), (1, .ref (x_a g 0)), (2, .int v2), (3, .int v3)]) hC dX5_lookAhead_32 (by decide) rfl ?_
  refine x_iload_n (i := 3) (q := 5) hC dX5_lookAhead_34 rfl rfl ?_
  refine x_bipush (v := -6) hC dX5_lookAhead_35 (by decide) ?_
  refine x_icmp_eq (t := 50) hC dX5_lookAhead_37 (by decide) (fun q => ?_) (fun q => ?_)
  · replace h := h.1 q
    refine x_aload_n (i := 1) (q := 3) hC dX5_lookAhead_50 rfl rfl ?_
    refine x_getr (k := 0) (r := 1) hC xo_0 rfl kf_X5_lookAhead_21 dX5_lookAhead_51 ?_
    refine x_geti (k := 2) hC xo_1 rfl kf_X5_lookAhead_42 dX5_lookAhead_54 ?_
    refine x_istore (ls' := [(6, .int (N3 1 2)), (5, .int r2), (4, .ref (x_a g 11)), (0, .ref (x_a g 191)), (1, .ref (x_a g 0)), (2, .int v2), (3, .int v3)]) hC dX5_lookAhead_57 (by decide) rfl ?_
    refine x_aload_n (i := 0) (q := 3) hC dX5_lookAhead_59 rfl rfl ?_
    refine x_aload_n (i := 1) (q := 4) hC dX5_lookAhead_60 rfl rfl ?_
    refine x_geti (k := 4) hC xo_0 rfl kf_X5_lookAhead_45 dX5_lookAhead_61 ?_
    refine x_puti (k := 2) hC xo_191 rfl kf_X5_lookAhead_48 kp_5_2 dX5_lookAhead_64 ?_
    refine x_aload_n (i := 0) (q := 3) hC dX5_lookAhead_67 rfl rfl ?_
    refine x_iconst (v := 0) hC dX5_lookAhead_68 (by decide) ?_
    refine x_puti (k := 1) hC xo_191 rfl kf_X5_lookAhead_49 kp_5_1 dX5_lookAhead_69 ?_
    obtain ⟨n_1, h⟩ := h
    exact x_sub [3, 4, 5, 2, 1, 0] rfl ((L n_1) _ _ _ _ h)
  · replace h := h.2 q
    refine x_iload (q := 0) hC dX5_lookAhead_40 rfl ?_
    refine x_iconst (v := 1) hC dX5_lookAhead_42 (by decide) ?_
    refine x_iload_n (i := 3) (q := 5) hC dX5_lookAhead_43 rfl rfl ?_
    refine x_ishl hC dX5_lookAhead_44 ?_
    refine x_iconst (v := -1) hC dX5_lookAhead_45 (by decide) ?_
    refine x_ixor hC dX5_lookAhead_46 ?_
    refine x_iand hC dX5_lookAhead_47 ?_
    refine x_istore (ls' := [(5, .int (r2 &&& (((1 : Int32) <<< (v3 &&& 31)) ^^^ (-1 : Int32)))), (4, .ref (x_a g 11)), (0, .ref (x_a g 191)), (1, .ref (x_a g 0)), (2, .int v2), (3, .int v3)]) hC dX5_lookAhead_48 (by decide) rfl ?_
    refine x_aload_n (i := 1) (q := 3) hC dX5_lookAhead_50 rfl rfl ?_
    refine x_getr (k := 0) (r := 1) hC xo_0 rfl kf_X5_lookAhead_21 dX5_lookAhead_51 ?_
    refine x_geti (k := 2) hC xo_1 rfl kf_X5_lookAhead_42 dX5_lookAhead_54 ?_
    refine x_istore (ls' := [(6, .int (N3 1 2)), (5, .int (r2 &&& (((1 : Int32) <<< (v3 &&& 31)) ^^^ (-1 : Int32)))), (4, .ref (x_a g 11)), (0, .ref (x_a g 191)), (1, .ref (x_a g 0)), (2, .int v2), (3, .int v3)]) hC dX5_lookAhead_57 (by decide) rfl ?_
    refine x_aload_n (i := 0) (q := 3) hC dX5_lookAhead_59 rfl rfl ?_
    refine x_aload_n (i := 1) (q := 4) hC dX5_lookAhead_60 rfl rfl ?_
    refine x_geti (k := 4) hC xo_0 rfl kf_X5_lookAhead_45 dX5_lookAhead_61 ?_
    refine x_puti (k := 2) hC xo_191 rfl kf_X5_lookAhead_48 kp_5_2 dX5_lookAhead_64 ?_
    refine x_aload_n (i := 0) (q := 3) hC dX5_lookAhead_67 rfl rfl ?_
    refine x_iconst (v := 0) hC dX5_lookAhead_68 (by decide) ?_
    refine x_puti (k := 1) hC xo_191 rfl kf_X5_lookAhead_49 kp_5_1 dX5_lookAhead_69 ?_
    obtain ⟨n_1, h⟩ := h
    exact x_sub [3, 4, 5, 2, 1, 0] rfl ((L n_1) _ _ _ _ h)
