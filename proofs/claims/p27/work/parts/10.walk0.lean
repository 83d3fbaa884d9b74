theorem kf_X6_copyFrom_24 : x_okf wsX6_copyFrom RX6 24 6 0 = true := by decide +kernel
theorem kf_X6_copyFrom_32 : x_okf wsX6_copyFrom RX6 32 6 1 = true := by decide +kernel
theorem kf_X6_copyFrom_43 : x_okf wsX6_copyFrom RX6 43 6 2 = true := by decide +kernel
theorem kf_X6_copyFrom_9 : x_okf wsX6_copyFrom RX6 9 6 3 = true := by decide +kernel
theorem kf_X6_copyFrom_15 : x_okf wsX6_copyFrom RX6 15 6 4 = true := by decide +kernel
theorem kf_X6_copyFrom_18 : x_okf wsX6_copyFrom RX6 18 6 5 = true := by decide +kernel
theorem kf_X6_copyFrom_21 : x_okf wsX6_copyFrom RX6 21 6 6 = true := by decide +kernel
def vc_X6_copyFrom (g : xG) (e : Nat) (f : Nat) (M : xM) (P : xM → Prop) : Prop := (∀ N1 : xM, N1 = (x_up (x_up M (20 * e + 1) 0 (M (20 * f + 1) 0)) (20 * e + 1) 1 ((x_up M (20 * e + 1) 0 (M (20 * f + 1) 0)) (20 * f + 1) 1)) → (mi_X9_copyRow g (20 * f + 2) (20 * e + 2) (x_up N1 (20 * e + 1) 2 (N1 (20 * f + 1) 2)) (fun N2 => (mi_X9_copyRow g (20 * f + 3) (20 * e + 3) N2 (fun N3 => (mi_X9_copyRow g (20 * f + 4) (20 * e + 4) N3 (fun N4 => (mi_X9_copyRow g (20 * f + 5) (20 * e + 5) N4 (fun N5 => P N5)))))))))
set_option maxRecDepth 100000 in
set_option maxHeartbeats 4000000 in
theorem wk_X6_copyFrom {g : xG} (e : Nat) (f : Nat) (he : e < 9) (hf : f < 9) (M : xM) (P : xM → Prop) (h0 : vc_X6_copyFrom g e f M P ) : mi_X6_copyFrom g e f M P := by
  refine x_startV (as := [.ref (x_a g (20 * e + 1)), .ref (x_a g (20 * f + 1))]) (cc := cX6_copyFrom) (n := 2) (ret := none) (own := RX6) (by decide) rfl rfl (Nat.le_of_ble_eq_true rfl) (fun x hC hr => ?_)
  have h := h0
  unfold vc_X6_copyFrom at h
  refine x_aload_n (i := 0) (q := 0) hC dX6_copyFrom_0 rfl rfl ?_
  refine x_aload_n (i := 1) (q := 1) hC dX6_copyFrom_1 rfl rfl ?_
  refine x_geti (k := 0) hC (x_objE (j := 1) hf (by decide) rfl) rfl kf_X6_copyFrom_24 dX6_copyFrom_2 ?_
  refine x_puti (k := 0) hC (x_objE (j := 1) he (by decide) rfl) rfl kf_X6_copyFrom_24 kp_6_0 dX6_copyFrom_5 ?_
  refine x_aload_n (i := 0) (q := 0) hC dX6_copyFrom_8 rfl rfl ?_
  refine x_aload_n (i := 1) (q := 1) hC dX6_copyFrom_9 rfl rfl ?_
  refine x_geti (k := 1) hC (x_objE (j := 1) hf (by decide) rfl) rfl kf_X6_copyFrom_32 dX6_copyFrom_10 ?_
  refine x_puti (k := 1) hC (x_objE (j := 1) he (by decide) rfl) rfl kf_X6_copyFrom_32 kp_6_1 dX6_copyFrom_13 ?_
  refine x_topM (fun N1 qN1 => ?_)
  replace h := h N1 qN1
  refine x_aload_n (i := 0) (q := 0) hC dX6_copyFrom_16 rfl rfl ?_
  refine x_aload_n (i := 1) (q := 1) hC dX6_copyFrom_17 rfl rfl ?_
  refine x_geti (k := 2) hC (x_objE (j := 1) hf (by decide) rfl) rfl kf_X6_copyFrom_43 dX6_copyFrom_18 ?_
  refine x_puti (k := 2) hC (x_objE (j := 1) he (by decide) rfl) rfl kf_X6_copyFrom_43 kp_6_2 dX6_copyFrom_21 ?_
  refine x_aload_n (i := 1) (q := 1) hC dX6_copyFrom_24 rfl rfl ?_
  refine x_getr (k := 3) (r := (20 * f + 2)) hC (x_objE (j := 1) hf (by decide) rfl) rfl kf_X6_copyFrom_9 dX6_copyFrom_25 ?_
  refine x_aload_n (i := 0) (q := 0) hC dX6_copyFrom_28 rfl rfl ?_
  refine x_getr (k := 3) (r := (20 * e + 2)) hC (x_objE (j := 1) he (by decide) rfl) rfl kf_X6_copyFrom_9 dX6_copyFrom_29 ?_
  refine x_callNv (host := RX9) (As := [.ref (x_a g (20 * f + 2)), .ref (x_a g (20 * e + 2))]) hC h gX6_copyFrom_X9_copyRow_n46 rfl rfl rfl (by decide +kernel) (by decide +kernel) (by decide +kernel) hy_X9_copyRow.2 ⟨Nat.le_of_ble_eq_true rfl, Nat.le_of_ble_eq_true rfl⟩ rfl (Nat.le_of_ble_eq_true rfl) rfl dX6_copyFrom_32 (fun N2 h => ?_)
  refine x_aload_n (i := 1) (q := 1) hC dX6_copyFrom_35 rfl rfl ?_
  refine x_getr (k := 4) (r := (20 * f + 3)) hC (x_objE (j := 1) hf (by decide) rfl) rfl kf_X6_copyFrom_15 dX6_copyFrom_36 ?_
  refine x_aload_n (i := 0) (q := 0) hC dX6_copyFrom_39 rfl rfl ?_
  refine x_getr (k := 4) (r := (20 * e + 3)) hC (x_objE (j := 1) he (by decide) rfl) rfl kf_X6_copyFrom_15 dX6_copyFrom_40 ?_
  refine x_callNv (host := RX9) (As := [.ref (x_a g (20 * f + 3)), .ref (x_a g (20 * e + 3))]) hC h gX6_copyFrom_X9_copyRow_n46 rfl rfl rfl (by decide +kernel) (by decide +kernel) (by decide +kernel) hy_X9_copyRow.2 ⟨Nat.le_of_ble_eq_true rfl, Nat.le_of_ble_eq_true rfl⟩ rfl (Nat.le_of_ble_eq_true rfl) rfl dX6_copyFrom_43 (fun N3 h => ?_)
  refine x_aload_n (i := 1) (q := 1) hC dX6_copyFrom_46 rfl rfl ?_
  refine x_getr (k := 5) (r := (20 * f + 4)) hC (x_objE (j := 1) hf (by decide) rfl) rfl kf_X6_copyFrom_18 dX6_copyFrom_47 ?_
  refine x_aload_n (i := 0) (q := 0) hC dX6_copyFrom_50 rfl rfl ?_
  refine x_getr (k := 5) (r := (20 * e + 4)) hC (x_objE (j := 1) he (by decide) rfl) rfl kf_X6_copyFrom_18 dX6_copyFrom_51 ?_
  refine x_callNv (host := RX9) (As := [.ref (x_a g (20 * f + 4)), .ref (x_a g (20 * e + 4))]) hC h gX6_copyFrom_X9_copyRow_n46 rfl rfl rfl (by decide +kernel) (by decide +kernel) (by decide +kernel) hy_X9_copyRow.2 ⟨Nat.le_of_ble_eq_true rfl, Nat.le_of_ble_eq_true rfl⟩ rfl (Nat.le_of_ble_eq_true rfl) rfl dX6_copyFrom_54 (fun N4 h => ?_)
  refine x_aload_n (i := 1) (q := 1) hC dX6_copyFrom_57 rfl rfl ?_
  refine x_getr (k := 6) (r := (20 * f + 5)) hC (x_objE (j := 1) hf (by decide) rfl) rfl kf_X6_copyFrom_21 dX6_copyFrom_58 ?_
  refine x_aload_n (i := 0) (q := 0) hC dX6_copyFrom_61 rfl rfl ?_
  refine x_getr (k := 6) (r := (20 * e + 5)) hC (x_objE (j := 1) he (by decide) rfl) rfl kf_X6_copyFrom_21 dX6_copyFrom_62 ?_
  refine x_callNv (host := RX9) (As := [.ref (x_a g (20 * f + 5)), .ref (x_a g (20 * e + 5))]) hC h gX6_copyFrom_X9_copyRow_n46 rfl rfl rfl (by decide +kernel) (by decide +kernel) (by decide +kernel) hy_X9_copyRow.2 ⟨Nat.le_of_ble_eq_true rfl, Nat.le_of_ble_eq_true rfl⟩ rfl (Nat.le_of_ble_eq_true rfl) rfl dX6_copyFrom_65 (fun N5 h => ?_)
  exact x_vret hC hr dX6_copyFrom_68 h
theorem kf_X7_copyFrom_24 : x_okf wsX7_copyFrom RX7 24 7 0 = true := by decide +kernel
theorem kf_X7_copyFrom_9 : x_okf wsX7_copyFrom RX7 9 7 1 = true := by decide +kernel
theorem kf_X7_copyFrom_15 : x_okf wsX7_copyFrom RX7 15 7 2 = true := by decide +kernel
theorem kf_X7_copyFrom_18 : x_okf wsX7_copyFrom RX7 18 7 3 = true := by decide +kernel
theorem kf_X7_copyFrom_21 : x_okf wsX7_copyFrom RX7 21 7 4 = true := by decide +kernel
def vc_X7_copyFrom (g : xG) (e : Nat) (f : Nat) (M : xM) (P : xM → Prop) : Prop := (mi_X9_copyRow g (20 * f + 7) (20 * e + 7) (x_up M (20 * e + 6) 0 (M (20 * f + 6) 0)) (fun N1 => (mi_X9_copyRow g (20 * f + 8) (20 * e + 8) N1 (fun N2 => (mi_X9_copyRow g (20 * f + 9) (20 * e + 9) N2 (fun N3 => (mi_X9_copyRow g (20 * f + 10) (20 * e + 10) N3 (fun N4 => P N4))))))))
set_option maxRecDepth 100000 in
set_option maxHeartbeats 4000000 in
theorem wk_X7_copyFrom {g : xG} (e : Nat) (f : Nat) (he : e < 9) (hf : f < 9) (M : xM) (P : xM → Prop) (h0 : vc_X7_copyFrom g e f M P ) : mi_X7_copyFrom g e f M P := by
  refine x_startV (as := [.ref (x_a g (20 * e + 6)), .ref (x_a g (20 * f + 6))]) (cc := cX7_copyFrom) (n := 2) (ret := none) (own := RX7) (by decide) rfl rfl (Nat.le_of_ble_eq_true rfl) (fun x hC hr => ?_)
  have h := h0
  unfold vc_X7_copyFrom at h
  refine x_aload_n (i := 0) (q := 0) hC dX7_copyFrom_0 rfl rfl ?_
  refine x_aload_n (i := 1) (q := 1) hC dX7_copyFrom_1 rfl rfl ?_
  refine x_geti (k := 0) hC (x_objE (j := 6) hf (by decide) rfl) rfl kf_X7_copyFrom_24 dX7_copyFrom_2 ?_
  refine x_puti (k := 0) hC (x_objE (j := 6) he (by decide) rfl) rfl kf_X7_copyFrom_24 kp_7_0 dX7_copyFrom_5 ?_
  refine x_aload_n (i := 1) (q := 1) hC dX7_copyFrom_8 rfl rfl ?_
  refine x_getr (k := 1) (r := (20 * f + 7)) hC (x_objE (j := 6) hf (by decide) rfl) rfl kf_X7_copyFrom_9 dX7_copyFrom_9 ?_
  refine x_aload_n (i := 0) (q := 0) hC dX7_copyFrom_12 rfl rfl ?_
  refine x_getr (k := 1) (r := (20 * e + 7)) hC (x_objE (j := 6) he (by decide) rfl) rfl kf_X7_copyFrom_9 dX7_copyFrom_13 ?_
  refine x_callNv (host := RX9) (As := [.ref (x_a g (20 * f + 7)), .ref (x_a g (20 * e + 7))]) hC h gX7_copyFrom_X9_copyRow_n36 rfl rfl rfl (by decide +kernel) (by decide +kernel) (by decide +kernel) hy_X9_copyRow.2 ⟨Nat.le_of_ble_eq_true rfl, Nat.le_of_ble_eq_true rfl⟩ rfl (Nat.le_of_ble_eq_true rfl) rfl dX7_copyFrom_16 (fun N1 h => ?_)
  refine x_aload_n (i := 1) (q := 1) hC dX7_copyFrom_19 rfl rfl ?_
  refine x_getr (k := 2) (r := (20 * f + 8)) hC (x_objE (j := 6) hf (by decide) rfl) rfl kf_X7_copyFrom_15 dX7_copyFrom_20 ?_
  refine x_aload_n (i := 0) (q := 0) hC dX7_copyFrom_23 rfl rfl ?_
  refine x_getr (k := 2) (r := (20 * e + 8)) hC (x_objE (j := 6) he (by decide) rfl) rfl kf_X7_copyFrom_15 dX7_copyFrom_24 ?_
  refine x_callNv (host := RX9) (As := [.ref (x_a g (20 * f + 8)), .ref (x_a g (20 * e + 8))]) hC h gX7_copyFrom_X9_copyRow_n36 rfl rfl rfl (by decide +kernel) (by decide +kernel) (by decide +kernel) hy_X9_copyRow.2 ⟨Nat.le_of_ble_eq_true rfl, Nat.le_of_ble_eq_true rfl⟩ rfl (Nat.le_of_ble_eq_true rfl) rfl dX7_copyFrom_27 (fun N2 h => ?_)
  refine x_aload_n (i := 1) (q := 1) hC dX7_copyFrom_30 rfl rfl ?_
  refine x_getr (k := 3) (r := (20 * f + 9)) hC (x_objE (j := 6) hf (by decide) rfl) rfl kf_X7_copyFrom_18 dX7_copyFrom_31 ?_
  refine x_aload_n (i := 0) (q := 0) hC dX7_copyFrom_34 rfl rfl ?_
  refine x_getr (k := 3) (r := (20 * e + 9)) hC (x_objE (j := 6) he (by decide) rfl) rfl kf_X7_copyFrom_18 dX7_copyFrom_35 ?_
  refine x_callNv (host := RX9) (As := [.ref (x_a g (20 * f + 9)), .ref (x_a g (20 * e + 9))]) hC h gX7_copyFrom_X9_copyRow_n36 rfl rfl rfl (by decide +kernel) (by decide +kernel) (by decide +kernel) hy_X9_copyRow.2 ⟨Nat.le_of_ble_eq_true rfl, Nat.le_of_ble_eq_true rfl⟩ rfl (Nat.le_of_ble_eq_true rfl) rfl dX7_copyFrom_38 (fun N3 h => ?_)
  refine x_aload_n (i := 1) (q := 1) hC dX7_copyFrom_41 rfl rfl ?_
  refine x_getr (k := 4) (r := (20 * f + 10)) hC (x_objE (j := 6) hf (by decide) rfl) rfl kf_X7_copyFrom_21 dX7_copyFrom_42 ?_
  refine x_aload_n (i := 0) (q := 0) hC dX7_copyFrom_45 rfl rfl ?_
  refine x_getr (k := 4) (r := (20 * e + 10)) hC (x_objE (j := 6) he (by decide) rfl) rfl kf_X7_copyFrom_21 dX7_copyFrom_46 ?_
  refine x_callNv (host := RX9) (As := [.ref (x_a g (20 * f + 10)), .ref (x_a g (20 * e + 10))]) hC h gX7_copyFrom_X9_copyRow_n36 rfl rfl rfl (by decide +kernel) (by decide +kernel) (by decide +kernel) hy_X9_copyRow.2 ⟨Nat.le_of_ble_eq_true rfl, Nat.le_of_ble_eq_true rfl⟩ rfl (Nat.le_of_ble_eq_true rfl) rfl dX7_copyFrom_49 (fun N4 h => ?_)
  exact x_vret hC hr dX7_copyFrom_52 h
theorem kf_X4_copyFrom_24 : x_okf wsX4_copyFrom RX4 24 4 0 = true := by decide +kernel
theorem kf_X4_copyFrom_9 : x_okf wsX4_copyFrom RX4 9 4 1 = true := by decide +kernel
theorem kf_X4_copyFrom_15 : x_okf wsX4_copyFrom RX4 15 4 2 = true := by decide +kernel
theorem kf_X4_copyFrom_18 : x_okf wsX4_copyFrom RX4 18 4 3 = true := by decide +kernel
theorem kf_X4_copyFrom_21 : x_okf wsX4_copyFrom RX4 21 4 4 = true := by decide +kernel
def vc_X4_copyFrom (g : xG) (e : Nat) (f : Nat) (M : xM) (P : xM → Prop) : Prop := (mi_X9_copyRow g (20 * f + 16) (20 * e + 16) (x_up M (20 * e + 15) 0 (M (20 * f + 15) 0)) (fun N1 => (mi_X9_copyRow g (20 * f + 17) (20 * e + 17) N1 (fun N2 => (mi_X9_copyRow g (20 * f + 18) (20 * e + 18) N2 (fun N3 => (mi_X9_copyRow g (20 * f + 19) (20 * e + 19) N3 (fun N4 => P N4))))))))
set_option maxRecDepth 100000 in
set_option maxHeartbeats 4000000 in
theorem wk_X4_copyFrom {g : xG} (e : Nat) (f : Nat) (he : e < 9) (hf : f < 9) (M : xM) (P : xM → Prop) (h0 : vc_X4_copyFrom g e f M P ) : mi_X4_copyFrom g e f M P := by
  refine x_startV (as := [.ref (x_a g (20 * e + 15)), .ref (x_a g (20 * f + 15))]) (cc := cX4_copyFrom) (n := 2) (ret := none) (own := RX4) (by decide) rfl rfl (Nat.le_of_ble_eq_true rfl) (fun x hC hr => ?_)
  have h := h0
  unfold vc_X4_copyFrom at h
  refine x_aload_n (i := 0) (q := 0) hC dX4_copyFrom_0 rfl rfl ?_
  refine x_aload_n (i := 1) (q := 1) hC dX4_copyFrom_1 rfl rfl ?_
  refine x_geti (k := 0) hC (x_objE (j := 15) hf (by decide) rfl) rfl kf_X4_copyFrom_24 dX4_copyFrom_2 ?_
  refine x_puti (k := 0) hC (x_objE (j := 15) he (by decide) rfl) rfl kf_X4_copyFrom_24 kp_4_0 dX4_copyFrom_5 ?_
  refine x_aload_n (i := 1) (q := 1) hC dX4_copyFrom_8 rfl rfl ?_
  refine x_getr (k := 1) (r := (20 * f + 16)) hC (x_objE (j := 15) hf (by decide) rfl) rfl kf_X4_copyFrom_9 dX4_copyFrom_9 ?_
  refine x_aload_n (i := 0) (q := 0) hC dX4_copyFrom_12 rfl rfl ?_
  refine x_getr (k := 1) (r := (20 * e + 16)) hC (x_objE (j := 15) he (by decide) rfl) rfl kf_X4_copyFrom_9 dX4_copyFrom_13 ?_
  refine x_callNv (host := RX9) (As := [.ref (x_a g (20 * f + 16)), .ref (x_a g (20 * e + 16))]) hC h gX4_copyFrom_X9_copyRow_n34 rfl rfl rfl (by decide +kernel) (by decide +kernel) (by decide +kernel) hy_X9_copyRow.2 ⟨Nat.le_of_ble_eq_true rfl, Nat.le_of_ble_eq_true rfl⟩ rfl (Nat.le_of_ble_eq_true rfl) rfl dX4_copyFrom_16 (fun N1 h => ?_)
  refine x_aload_n (i := 1) (q := 1) hC dX4_copyFrom_19 rfl rfl ?_
  refine x_getr (k := 2) (r := (20 * f + 17)) hC (x_objE (j := 15) hf (by decide) rfl) rfl kf_X4_copyFrom_15 dX4_copyFrom_20 ?_
  refine x_aload_n (i := 0) (q := 0) hC dX4_copyFrom_23 rfl rfl ?_
  refine x_getr (k := 2) (r := (20 * e + 17)) hC (x_objE (j := 15) he (by decide) rfl) rfl kf_X4_copyFrom_15 dX4_copyFrom_24 ?_
  refine x_callNv (host := RX9) (As := [.ref (x_a g (20 * f + 17)), .ref (x_a g (20 * e + 17))]) hC h gX4_copyFrom_X9_copyRow_n34 rfl rfl rfl (by decide +kernel) (by decide +kernel) (by decide +kernel) hy_X9_copyRow.2 ⟨Nat.le_of_ble_eq_true rfl, Nat.le_of_ble_eq_true rfl⟩ rfl (Nat.le_of_ble_eq_true rfl) rfl dX4_copyFrom_27 (fun N2 h => ?_)
  refine x_aload_n (i := 1) (q := 1) hC dX4_copyFrom_30 rfl rfl ?_
  refine x_getr (k := 3) (r := (20 * f + 18)) hC (x_objE (j := 15) hf (by decide) rfl) rfl kf_X4_copyFrom_18 dX4_copyFrom_31 ?_
  refine x_aload_n (i := 0) (q := 0) hC dX4_copyFrom_34 rfl rfl ?_
  refine x_getr (k := 3) (r := (20 * e + 18)) hC (x_objE (j := 15) he (by decide) rfl) rfl kf_X4_copyFrom_18 dX4_copyFrom_35 ?_
  refine x_callNv (host := RX9) (As := [.ref (x_a g (20 * f + 18)), .ref (x_a g (20 * e + 18))]) hC h gX4_copyFrom_X9_copyRow_n34 rfl rfl rfl (by decide +kernel) (by decide +kernel) (by decide +kernel) hy_X9_copyRow.2 ⟨Nat.le_of_ble_eq_true rfl, Nat.le_of_ble_eq_true rfl⟩ rfl (Nat.le_of_ble_eq_true rfl) rfl dX4_copyFrom_38 (fun N3 h => ?_)
  refine x_aload_n (i := 1) (q := 1) hC dX4_copyFrom_41 rfl rfl ?_
  refine x_getr (k := 4) (r := (20 * f + 19)) hC (x_objE (j := 15) hf (by decide) rfl) rfl kf_X4_copyFrom_21 dX4_copyFrom_42 ?_
  refine x_aload_n (i := 0) (q := 0) hC dX4_copyFrom_45 rfl rfl ?_
  refine x_getr (k := 4) (r := (20 * e + 19)) hC (x_objE (j := 15) he (by decide) rfl) rfl kf_X4_copyFrom_21 dX4_copyFrom_46 ?_
  refine x_callNv (host := RX9) (As := [.ref (x_a g (20 * f + 19)), .ref (x_a g (20 * e + 19))]) hC h gX4_copyFrom_X9_copyRow_n34 rfl rfl rfl (by decide +kernel) (by decide +kernel) (by decide +kernel) hy_X9_copyRow.2 ⟨Nat.le_of_ble_eq_true rfl, Nat.le_of_ble_eq_true rfl⟩ rfl (Nat.le_of_ble_eq_true rfl) rfl dX4_copyFrom_49 (fun N4 h => ?_)
  exact x_vret hC hr dX4_copyFrom_52 h
theorem kf_X6_setThere_32 : x_okf wsX6_setThere RX6 32 6 1 = true := by decide +kernel
def vc_X6_setThere (g : xG) (v1 : Int32) (v2 : Int32) (M : xM) (P : xM → Prop) : Prop := ((v2 = 0 → P (x_up M 1 1 ((M 1 1) &&& (((1 : Int32) <<< (v1 &&& 31)) ^^^ (-1 : Int32))))) ∧ (¬ (v2 = 0) → P (x_up M 1 1 ((M 1 1) ||| ((1 : Int32) <<< (v1 &&& 31))))))
set_option maxRecDepth 100000 in
set_option maxHeartbeats 4000000 in
theorem wk_X6_setThere {g : xG} (v1 : Int32) (v2 : Int32) (M : xM) (P : xM → Prop) (h0 : vc_X6_setThere g v1 v2 M P ) : mi_X6_setThere g v1 v2 M P := by
  refine x_startV (as := [.ref (x_a g 1), .int v1, .int v2]) (cc := cX6_setThere) (n := 4) (ret := none) (own := RX6) (by decide) rfl rfl (Nat.le_of_ble_eq_true rfl) (fun x hC hr => ?_)
  have h := h0
  unfold vc_X6_setThere at h
  refine x_iconst (v := 1) hC dX6_setThere_0 (by decide) ?_
  refine x_iload_n (i := 1) (q := 1) hC dX6_setThere_1 rfl rfl ?_
  refine x_ishl hC dX6_setThere_2 ?_
  refine x_istore_n (i := 3) (ls' := [(3, .int ((1 : Int32) <<< (v1 &&& 31))), (0, .ref (x_a g 1)), (1, .int v1), (2, .int v2)]) hC dX6_setThere_3 rfl (by decide) rfl ?_
  refine x_aload_n (i := 0) (q := 1) hC dX6_setThere_4 rfl rfl ?_
  refine x_iload_n (i := 2) (q := 3) hC dX6_setThere_5 rfl rfl ?_
  refine x_if_eq (t := 18) hC dX6_setThere_6 (by decide) (fun q => ?_) (fun q => ?_)
  · replace h := h.1 q
    refine x_aload_n (i := 0) (q := 1) hC dX6_setThere_18 rfl rfl ?_
    refine x_geti (k := 1) hC xo_1 rfl kf_X6_setThere_32 dX6_setThere_19 ?_
    refine x_iload_n (i := 3) (q := 0) hC dX6_setThere_22 rfl rfl ?_
    refine x_iconst (v := -1) hC dX6_setThere_23 (by decide) ?_
    refine x_ixor hC dX6_setThere_24 ?_
    refine x_iand hC dX6_setThere_25 ?_
    refine x_puti (k := 1) hC xo_1 rfl kf_X6_setThere_32 kp_6_1 dX6_setThere_26 ?_
    exact x_vret hC hr dX6_setThere_29 h
  · replace h := h.2 q
    refine x_aload_n (i := 0) (q := 1) hC dX6_setThere_9 rfl rfl ?_
    refine x_geti (k := 1) hC xo_1 rfl kf_X6_setThere_32 dX6_setThere_10 ?_
    refine x_iload_n (i := 3) (q := 0) hC dX6_setThere_13 rfl rfl ?_
    refine x_ior hC dX6_setThere_14 ?_
    refine x_goto (t := 26) hC dX6_setThere_15 (by decide) ?_
    refine x_puti (k := 1) hC xo_1 rfl kf_X6_setThere_32 kp_6_1 dX6_setThere_26 ?_
    exact x_vret hC hr dX6_setThere_29 h
theorem kf_X6_add_24 : x_okf wsX6_add RX6 24 6 0 = true := by decide +kernel
theorem kf_X6_add_9 : x_okf wsX6_add RX6 9 6 3 = true := by decide +kernel
theorem kf_X6_add_15 : x_okf wsX6_add RX6 15 6 4 = true := by decide +kernel
def vc_X6_add (g : xG) (v1 : Int32) (v2 : Int32) (M : xM) (P : Int32 → xM → Prop) : Prop := (vp_in (M 1 0) 12 ∧ (vp_in (M 1 0) 12 ∧ (mi_X6_setThere g (M 1 0) (1 : Int32) (x_up (x_up M 2 ((M 1 0)).toNatClampNeg v1) 3 ((M 1 0)).toNatClampNeg v2) (fun N1 => P (M 1 0) (x_up N1 1 0 ((N1 1 0) + (1 : Int32)))))))
set_option maxRecDepth 100000 in
set_option maxHeartbeats 4000000 in
theorem wk_X6_add {g : xG} (v1 : Int32) (v2 : Int32) (M : xM) (P : Int32 → xM → Prop) (h0 : vc_X6_add g v1 v2 M P ) : mi_X6_add g v1 v2 M P := by
  refine x_startI (as := [.ref (x_a g 1), .int v1, .int v2]) (cc := cX6_add) (n := 4) (ret := (some .int)) (own := RX6) (by decide) rfl rfl (Nat.le_of_ble_eq_true rfl) (fun x hC hr => ?_)
  have h := h0
  unfold vc_X6_add at h
  refine x_aload_n (i := 0) (q := 0) hC dX6_add_0 rfl rfl ?_
  refine x_geti (k := 0) hC xo_1 rfl kf_X6_add_24 dX6_add_1 ?_
  refine x_istore_n (i := 3) (ls' := [(3, .int (M 1 0)), (0, .ref (x_a g 1)), (1, .int v1), (2, .int v2)]) hC dX6_add_4 rfl (by decide) rfl ?_
  refine x_aload_n (i := 0) (q := 1) hC dX6_add_5 rfl rfl ?_
  refine x_getr (k := 3) (r := 2) hC xo_1 rfl kf_X6_add_9 dX6_add_6 ?_
  refine x_iload_n (i := 3) (q := 0) hC dX6_add_9 rfl rfl ?_
  refine x_iload_n (i := 1) (q := 2) hC dX6_add_10 rfl rfl ?_
  refine x_iast (len := 12) hC xa_2 h.1 dX6_add_11 ?_
  replace h := h.2
  refine x_aload_n (i := 0) (q := 1) hC dX6_add_12 rfl rfl ?_
  refine x_getr (k := 4) (r := 3) hC xo_1 rfl kf_X6_add_15 dX6_add_13 ?_
  refine x_iload_n (i := 3) (q := 0) hC dX6_add_16 rfl rfl ?_
  refine x_iload_n (i := 2) (q := 3) hC dX6_add_17 rfl rfl ?_
  refine x_iast (len := 12) hC xa_3 h.1 dX6_add_18 ?_
  replace h := h.2
  refine x_aload_n (i := 0) (q := 1) hC dX6_add_19 rfl rfl ?_
  refine x_iload_n (i := 3) (q := 0) hC dX6_add_20 rfl rfl ?_
  refine x_iconst (v := 1) hC dX6_add_21 (by decide) ?_
  refine x_callVv (q := (RX6, TX6, 7)) (As := [.int (M 1 0), .int (1 : Int32)]) hC xo_1 rfl h gX6_add_X6_setThere rfl rfl rfl hy_X6_setThere ⟨Nat.le_of_ble_eq_true rfl, Nat.le_of_ble_eq_true rfl⟩ rfl (Nat.le_of_ble_eq_true rfl) rfl dX6_add_22 (fun N1 h => ?_)
  refine x_aload_n (i := 0) (q := 1) hC dX6_add_25 rfl rfl ?_
  refine x_dup hC dX6_add_26 rfl ?_
  refine x_geti (k := 0) hC xo_1 rfl kf_X6_add_24 dX6_add_27 ?_
  refine x_iconst (v := 1) hC dX6_add_30 (by decide) ?_
  refine x_iadd hC dX6_add_31 ?_
  refine x_puti (k := 0) hC xo_1 rfl kf_X6_add_24 kp_6_0 dX6_add_32 ?_
  refine x_iload_n (i := 3) (q := 0) hC dX6_add_35 rfl rfl ?_
  exact x_iret hC hr dX6_add_36 h
theorem kf_X7_add_24 : x_okf wsX7_add RX7 24 7 0 = true := by decide +kernel
theorem kf_X7_add_9 : x_okf wsX7_add RX7 9 7 1 = true := by decide +kernel
theorem kf_X7_add_15 : x_okf wsX7_add RX7 15 7 2 = true := by decide +kernel
theorem kf_X7_add_18 : x_okf wsX7_add RX7 18 7 3 = true := by decide +kernel
def vc_X7_add (g : xG) (v1 : Int32) (v2 : Int32) (v3 : Int32) (M : xM) (P : Int32 → xM → Prop) : Prop := (vp_in (M 6 0) 16 ∧ (vp_in (M 6 0) 16 ∧ (vp_in (M 6 0) 16 ∧ (∀ N1 : xM, N1 = (x_up (x_up (x_up (x_up M 7 ((M 6 0)).toNatClampNeg v1) 8 ((M 6 0)).toNatClampNeg v2) 9 ((M 6 0)).toNatClampNeg v3) 6 0 (((x_up (x_up (x_up M 7 ((M 6 0)).toNatClampNeg v1) 8 ((M 6 0)).toNatClampNeg v2) 9 ((M 6 0)).toNatClampNeg v3) 6 0) + (1 : Int32))) → P (M 6 0) N1))))
set_option maxRecDepth 100000 in
set_option maxHeartbeats 4000000 in
theorem wk_X7_add {g : xG} (v1 : Int32) (v2 : Int32) (v3 : Int32) (M : xM) (P : Int32 → xM → Prop) (h0 : vc_X7_add g v1 v2 v3 M P ) : mi_X7_add g v1 v2 v3 M P := by
  refine x_startI (as := [.ref (x_a g 6), .int v1, .int v2, .int v3]) (cc := cX7_add) (n := 5) (ret := (some .int)) (own := RX7) (by decide) rfl rfl (Nat.le_of_ble_eq_true rfl) (fun x hC hr => ?_)
  have h := h0
  unfold vc_X7_add at h
  refine x_aload_n (i := 0) (q := 0) hC dX7_add_0 rfl rfl ?_
  refine x_geti (k := 0) hC xo_6 rfl kf_X7_add_24 dX7_add_1 ?_
  refine x_istore (ls' := [(4, .int (M 6 0)), (0, .ref (x_a g 6)), (1, .int v1), (2, .int v2), (3, .int v3)]) hC dX7_add_4 (by decide) rfl ?_
  refine x_aload_n (i := 0) (q := 1) hC dX7_add_6 rfl rfl ?_
  refine x_getr (k := 1) (r := 7) hC xo_6 rfl kf_X7_add_9 dX7_add_7 ?_
  refine x_iload (q := 0) hC dX7_add_10 rfl ?_
  refine x_iload_n (i := 1) (q := 2) hC dX7_add_12 rfl rfl ?_
  refine x_iast (len := 16) hC xa_7 h.1 dX7_add_13 ?_
  replace h := h.2
  refine x_aload_n (i := 0) (q := 1) hC dX7_add_14 rfl rfl ?_
  refine x_getr (k := 2) (r := 8) hC xo_6 rfl kf_X7_add_15 dX7_add_15 ?_
  refine x_iload (q := 0) hC dX7_add_18 rfl ?_
  refine x_iload_n (i := 2) (q := 3) hC dX7_add_20 rfl rfl ?_
  refine x_iast (len := 16) hC xa_8 h.1 dX7_add_21 ?_
  replace h := h.2
  refine x_aload_n (i := 0) (q := 1) hC dX7_add_22 rfl rfl ?_
  refine x_getr (k := 3) (r := 9) hC xo_6 rfl kf_X7_add_18 dX7_add_23 ?_
  refine x_iload (q := 0) hC dX7_add_26 rfl ?_
  refine x_iload_n (i := 3) (q := 4) hC dX7_add_28 rfl rfl ?_
  refine x_iast (len := 16) hC xa_9 h.1 dX7_add_29 ?_
  replace h := h.2
  refine x_aload_n (i := 0) (q := 1) hC dX7_add_30 rfl rfl ?_
  refine x_dup hC dX7_add_31 rfl ?_
  refine x_geti (k := 0) hC xo_6 rfl kf_X7_add_24 dX7_add_32 ?_
  refine x_iconst (v := 1) hC dX7_add_35 (by decide) ?_
  refine x_iadd hC dX7_add_36 ?_
  refine x_puti (k := 0) hC xo_6 rfl kf_X7_add_24 kp_7_0 dX7_add_37 ?_
  refine x_topM (fun N1 qN1 => ?_)
  replace h := h N1 qN1
  refine x_iload (q := 0) hC dX7_add_40 rfl ?_
  exact x_iret hC hr dX7_add_42 h
theorem kf_X6_has_24 : x_okf wsX6_has RX6 24 6 0 = true := by decide +kernel
def vc_X6_has (g : xG) (v1 : Int32) (M : xM) (P : Int32 → xM → Prop) : Prop := (mi_X9_isBetween g v1 (0 : Int32) ((M 1 0) - (1 : Int32)) M (fun r1 N2 => (narrow .boolean (.int r1) = .int r1 ∧ P r1 N2)))
set_option maxRecDepth 100000 in
set_option maxHeartbeats 4000000 in
theorem wk_X6_has {g : xG} (v1 : Int32) (M : xM) (P : Int32 → xM → Prop) (h0 : vc_X6_has g v1 M P ) : mi_X6_has g v1 M P := by
  refine x_startI (as := [.ref (x_a g 1), .int v1]) (cc := cX6_has) (n := 2) (ret := (some .boolean)) (own := RX6) (by decide) rfl rfl (Nat.le_of_ble_eq_true rfl) (fun x hC hr => ?_)
  have h := h0
  unfold vc_X6_has at h
  refine x_iload_n (i := 1) (q := 1) hC dX6_has_0 rfl rfl ?_
  refine x_iconst (v := 0) hC dX6_has_1 (by decide) ?_
  refine x_aload_n (i := 0) (q := 0) hC dX6_has_2 rfl rfl ?_
  refine x_geti (k := 0) hC xo_1 rfl kf_X6_has_24 dX6_has_3 ?_
  refine x_iconst (v := 1) hC dX6_has_6 (by decide) ?_
  refine x_isub hC dX6_has_7 ?_
  refine x_callNi (host := RX9) (As := [.int v1, .int (0 : Int32), .int ((M 1 0) - (1 : Int32))]) hC h gX6_has_X9_isBetween_n28 rfl rfl rfl (by decide +kernel) (by decide +kernel) (by decide +kernel) hy_X9_isBetween.2 ⟨Nat.le_of_ble_eq_true rfl, Nat.le_of_ble_eq_true rfl⟩ rfl (Nat.le_of_ble_eq_true rfl) rfl dX6_has_8 (fun r1 N2 h => ?_)
  exact x_zret hC hr dX6_has_11 h.1 h.2
theorem kf_X6_isThere_32 : x_okf wsX6_isThere RX6 32 6 1 = true := by decide +kernel
def vc_X6_isThere (g : xG) (v1 : Int32) (M : xM) (P : Int32 → xM → Prop) : Prop := (mi_X9_isIn g (M 1 1) v1 M (fun r1 N2 => (narrow .boolean (.int r1) = .int r1 ∧ P r1 N2)))
set_option maxRecDepth 100000 in
set_option maxHeartbeats 4000000 in
theorem wk_X6_isThere {g : xG} (v1 : Int32) (M : xM) (P : Int32 → xM → Prop) (h0 : vc_X6_isThere g v1 M P ) : mi_X6_isThere g v1 M P := by
  refine x_startI (as := [.ref (x_a g 1), .int v1]) (cc := cX6_isThere) (n := 2) (ret := (some .boolean)) (own := RX6) (by decide) rfl rfl (Nat.le_of_ble_eq_true rfl) (fun x hC hr => ?_)
  have h := h0
  unfold vc_X6_isThere at h
  refine x_aload_n (i := 0) (q := 0) hC dX6_isThere_0 rfl rfl ?_
  refine x_geti (k := 1) hC xo_1 rfl kf_X6_isThere_32 dX6_isThere_1 ?_
  refine x_iload_n (i := 1) (q := 1) hC dX6_isThere_4 rfl rfl ?_
  refine x_callNi (host := RX9) (As := [.int (M 1 1), .int v1]) hC h gX6_isThere_X9_isIn_n35 rfl rfl rfl (by decide +kernel) (by decide +kernel) (by decide +kernel) hy_X9_isIn.2 ⟨Nat.le_of_ble_eq_true rfl, Nat.le_of_ble_eq_true rfl⟩ rfl (Nat.le_of_ble_eq_true rfl) rfl dX6_isThere_5 (fun r1 N2 h => ?_)
  exact x_zret hC hr dX6_isThere_8 h.1 h.2
def vc_J6_bitCount_0f7a4 (g : xG) (v0 : Int32) (M : xM) (P : Int32 → xM → Prop) : Prop := (∀ y1 : Int32, y1 = (v0 - (((v0).toUInt32 >>> (((1 : Int32)).toUInt32 &&& Int32.toUInt32 31)).toInt32 &&& (1431655765 : Int32))) → (∀ y2 : Int32, y2 = ((y1 &&& (858993459 : Int32)) + (((y1).toUInt32 >>> (((2 : Int32)).toUInt32 &&& Int32.toUInt32 31)).toInt32 &&& (858993459 : Int32))) → (∀ y3 : Int32, y3 = ((y2 + ((y2).toUInt32 >>> (((4 : Int32)).toUInt32 &&& Int32.toUInt32 31)).toInt32) &&& (252645135 : Int32)) → (∀ y4 : Int32, y4 = (y3 + ((y3).toUInt32 >>> (((8 : Int32)).toUInt32 &&& Int32.toUInt32 31)).toInt32) → (∀ y5 : Int32, y5 = (y4 + ((y4).toUInt32 >>> (((16 : Int32)).toUInt32 &&& Int32.toUInt32 31)).toInt32) → P (y5 &&& (63 : Int32)) M)))))
set_option maxRecDepth 100000 in
set_option maxHeartbeats 4000000 in
theorem wk_J6_bitCount_0f7a4 {g : xG} (v0 : Int32) (M : xM) (P : Int32 → xM → Prop) (h0 : vc_J6_bitCount_0f7a4 g v0 M P ) : mi_J6_bitCount_0f7a4 g v0 M P := by
  refine x_startI (as := [.int v0]) (cc := cJ6_bitCount_0f7a4) (n := 1) (ret := (some .int)) (own := RJ6) (by decide) rfl rfl (Nat.le_of_ble_eq_true rfl) (fun x hC hr => ?_)
  have h := h0
  unfold vc_J6_bitCount_0f7a4 at h
  refine x_iload_n (i := 0) (q := 0) hC dJ6_bitCount_0f7a4_0 rfl rfl ?_
  refine x_iload_n (i := 0) (q := 0) hC dJ6_bitCount_0f7a4_1 rfl rfl ?_
  refine x_iconst (v := 1) hC dJ6_bitCount_0f7a4_2 (by decide) ?_
  refine x_iushr hC dJ6_bitCount_0f7a4_3 ?_
  refine x_ldcw (i := 265) (v := 1431655765) hC (by decide +kernel) dJ6_bitCount_0f7a4_4 ?_
  refine x_iand hC dJ6_bitCount_0f7a4_7 ?_
  refine x_isub hC dJ6_bitCount_0f7a4_8 ?_
  refine x_topi (fun y1 qy1 => ?_)
  replace h := h y1 qy1
  refine x_istore_n (i := 0) (ls' := [(0, .int y1)]) hC dJ6_bitCount_0f7a4_9 rfl (by decide) rfl ?_
  refine x_iload_n (i := 0) (q := 0) hC dJ6_bitCount_0f7a4_10 rfl rfl ?_
  refine x_ldcw (i := 266) (v := 858993459) hC (by decide +kernel) dJ6_bitCount_0f7a4_11 ?_
  refine x_iand hC dJ6_bitCount_0f7a4_14 ?_
  refine x_iload_n (i := 0) (q := 0) hC dJ6_bitCount_0f7a4_15 rfl rfl ?_
  refine x_iconst (v := 2) hC dJ6_bitCount_0f7a4_16 (by decide) ?_
  refine x_iushr hC dJ6_bitCount_0f7a4_17 ?_
  refine x_ldcw (i := 266) (v := 858993459) hC (by decide +kernel) dJ6_bitCount_0f7a4_18 ?_
  refine x_iand hC dJ6_bitCount_0f7a4_21 ?_
  refine x_iadd hC dJ6_bitCount_0f7a4_22 ?_
  refine x_topi (fun y2 qy2 => ?_)
  replace h := h y2 qy2
  refine x_istore_n (i := 0) (ls' := [(0, .int y2)]) hC dJ6_bitCount_0f7a4_23 rfl (by decide) rfl ?_
  refine x_iload_n (i := 0) (q := 0) hC dJ6_bitCount_0f7a4_24 rfl rfl ?_
  refine x_iload_n (i := 0) (q := 0) hC dJ6_bitCount_0f7a4_25 rfl rfl ?_
  refine x_iconst (v := 4) hC dJ6_bitCount_0f7a4_26 (by decide) ?_
  refine x_iushr hC dJ6_bitCount_0f7a4_27 ?_
  refine x_iadd hC dJ6_bitCount_0f7a4_28 ?_
  refine x_ldcw (i := 267) (v := 252645135) hC (by decide +kernel) dJ6_bitCount_0f7a4_29 ?_
  refine x_iand hC dJ6_bitCount_0f7a4_32 ?_
  refine x_topi (fun y3 qy3 => ?_)
  replace h := h y3 qy3
  refine x_istore_n (i := 0) (ls' := [(0, .int y3)]) hC dJ6_bitCount_0f7a4_33 rfl (by decide) rfl ?_
  refine x_iload_n (i := 0) (q := 0) hC dJ6_bitCount_0f7a4_34 rfl rfl ?_
  refine x_iload_n (i := 0) (q := 0) hC dJ6_bitCount_0f7a4_35 rfl rfl ?_
  refine x_bipush (v := 8) hC dJ6_bitCount_0f7a4_36 (by decide) ?_
  refine x_iushr hC dJ6_bitCount_0f7a4_38 ?_
  refine x_iadd hC dJ6_bitCount_0f7a4_39 ?_
  refine x_topi (fun y4 qy4 => ?_)
  replace h := h y4 qy4
  refine x_istore_n (i := 0) (ls' := [(0, .int y4)]) hC dJ6_bitCount_0f7a4_40 rfl (by decide) rfl ?_
  refine x_iload_n (i := 0) (q := 0) hC dJ6_bitCount_0f7a4_41 rfl rfl ?_
  refine x_iload_n (i := 0) (q := 0) hC dJ6_bitCount_0f7a4_42 rfl rfl ?_
  refine x_bipush (v := 16) hC dJ6_bitCount_0f7a4_43 (by decide) ?_
  refine x_iushr hC dJ6_bitCount_0f7a4_45 ?_
  refine x_iadd hC dJ6_bitCount_0f7a4_46 ?_
  refine x_topi (fun y5 qy5 => ?_)
  replace h := h y5 qy5
  refine x_istore_n (i := 0) (ls' := [(0, .int y5)]) hC dJ6_bitCount_0f7a4_47 rfl (by decide) rfl ?_
  refine x_iload_n (i := 0) (q := 0) hC dJ6_bitCount_0f7a4_48 rfl rfl ?_
  refine x_bipush (v := 63) hC dJ6_bitCount_0f7a4_49 (by decide) ?_
  refine x_iand hC dJ6_bitCount_0f7a4_51 ?_
  exact x_iret hC hr dJ6_bitCount_0f7a4_52 h
theorem kf_X7_has_24 : x_okf wsX7_has RX7 24 7 0 = true := by decide +kernel
def vc_X7_has (g : xG) (v1 : Int32) (M : xM) (P : Int32 → xM → Prop) : Prop := (mi_X9_isBetween g v1 (0 : Int32) ((M 6 0) - (1 : Int32)) M (fun r1 N2 => (narrow .boolean (.int r1) = .int r1 ∧ P r1 N2)))
set_option maxRecDepth 100000 in
set_option maxHeartbeats 4000000 in
theorem wk_X7_has {g : xG} (v1 : Int32) (M : xM) (P : Int32 → xM → Prop) (h0 : vc_X7_has g v1 M P ) : mi_X7_has g v1 M P := by
  refine x_startI (as := [.ref (x_a g 6), .int v1]) (cc := cX7_has) (n := 2) (ret := (some .boolean)) (own := RX7) (by decide) rfl rfl (Nat.le_of_ble_eq_true rfl) (fun x hC hr => ?_)
  have h := h0
  unfold vc_X7_has at h
  refine x_iload_n (i := 1) (q := 1) hC dX7_has_0 rfl rfl ?_
  refine x_iconst (v := 0) hC dX7_has_1 (by decide) ?_
  refine x_aload_n (i := 0) (q := 0) hC dX7_has_2 rfl rfl ?_
  refine x_geti (k := 0) hC xo_6 rfl kf_X7_has_24 dX7_has_3 ?_
  refine x_iconst (v := 1) hC dX7_has_6 (by decide) ?_
  refine x_isub hC dX7_has_7 ?_
  refine x_callNi (host := RX9) (As := [.int v1, .int (0 : Int32), .int ((M 6 0) - (1 : Int32))]) hC h gX7_has_X9_isBetween_n28 rfl rfl rfl (by decide +kernel) (by decide +kernel) (by decide +kernel) hy_X9_isBetween.2 ⟨Nat.le_of_ble_eq_true rfl, Nat.le_of_ble_eq_true rfl⟩ rfl (Nat.le_of_ble_eq_true rfl) rfl dX7_has_8 (fun r1 N2 h => ?_)
  exact x_zret hC hr dX7_has_11 h.1 h.2
theorem kf_X7_fits_9 : x_okf wsX7_fits RX7 9 7 1 = true := by decide +kernel
theorem kf_X7_fits_15 : x_okf wsX7_fits RX7 15 7 2 = true := by decide +kernel
def vc_X7_fits (g : xG) (v1 : Int32) (v2 : Int32) (v3 : Int32) (v4 : Int32) (M : xM) (P : Int32 → xM → Prop) : Prop := (vp_in v3 16 ∧ ((((M 7 (v3).toNatClampNeg) + v4) < v1 → P (0 : Int32) M) ∧ (¬ (((M 7 (v3).toNatClampNeg) + v4) < v1) → (vp_in v3 16 ∧ ((v2 < ((M 8 (v3).toNatClampNeg) + v4) → P (0 : Int32) M) ∧ (¬ (v2 < ((M 8 (v3).toNatClampNeg) + v4)) → P (1 : Int32) M))))))
set_option maxRecDepth 100000 in
set_option maxHeartbeats 4000000 in
theorem wk_X7_fits {g : xG} (v1 : Int32) (v2 : Int32) (v3 : Int32) (v4 : Int32) (M : xM) (P : Int32 → xM → Prop) (h0 : vc_X7_fits g v1 v2 v3 v4 M P ) : mi_X7_fits g v1 v2 v3 v4 M P := by
  refine x_startI (as := [.ref (x_a g 6), .int v1, .int v2, .int v3, .int v4]) (cc := cX7_fits) (n := 5) (ret := (some .boolean)) (own := RX7) (by decide) rfl rfl (Nat.le_of_ble_eq_true rfl) (fun x hC hr => ?_)
  have h := h0
  unfold vc_X7_fits at h
  refine x_aload_n (i := 0) (q := 0) hC dX7_fits_0 rfl rfl ?_
  refine x_getr (k := 1) (r := 7) hC xo_6 rfl kf_X7_fits_9 dX7_fits_1 ?_
  refine x_iload_n (i := 3) (q := 3) hC dX7_fits_4 rfl rfl ?_
  refine x_iald (len := 16) hC xa_7 h.1 dX7_fits_5 ?_
  replace h := h.2
  refine x_iload (q := 4) hC dX7_fits_6 rfl ?_
  refine x_iadd hC dX7_fits_8 ?_
  refine x_iload_n (i := 1) (q := 1) hC dX7_fits_9 rfl rfl ?_
  refine x_icmp_lt (t := 30) hC dX7_fits_10 (by decide) (fun q => ?_) (fun q => ?_)
  · replace h := h.1 q
    refine x_iconst (v := 0) hC dX7_fits_30 (by decide) ?_
    exact x_zret hC hr dX7_fits_31 rfl h
  · replace h := h.2 q
    refine x_aload_n (i := 0) (q := 0) hC dX7_fits_13 rfl rfl ?_
    refine x_getr (k := 2) (r := 8) hC xo_6 rfl kf_X7_fits_15 dX7_fits_14 ?_
    refine x_iload_n (i := 3) (q := 3) hC dX7_fits_17 rfl rfl ?_
    refine x_iald (len := 16) hC xa_8 h.1 dX7_fits_18 ?_
    replace h := h.2
    refine x_iload (q := 4) hC dX7_fits_19 rfl ?_
    refine x_iadd hC dX7_fits_21 ?_
    refine x_iload_n (i := 2) (q := 2) hC dX7_fits_22 rfl rfl ?_
    refine x_icmp_gt (t := 30) hC dX7_fits_23 (by decide) (fun q => ?_) (fun q => ?_)
    · replace h := h.1 q
      refine x_iconst (v := 0) hC dX7_fits_30 (by decide) ?_
      exact x_zret hC hr dX7_fits_31 rfl h
    · replace h := h.2 q
      refine x_iconst (v := 1) hC dX7_fits_26 (by decide) ?_
      refine x_goto (t := 31) hC dX7_fits_27 (by decide) ?_
      exact x_zret hC hr dX7_fits_31 rfl h
def vc_X7_keyAndTenBetween (g : xG) (v1 : Int32) (v2 : Int32) (v3 : Int32) (M : xM) (P : Int32 → xM → Prop) (K1 : Int32 → Int32 → Int32 → Int32 → xM → Prop) : Prop := K1 v1 v2 v3 (0 : Int32) M
def vc_X7_keyAndTenBetween_1 (g : xG) (v1 : Int32) (v2 : Int32) (v3 : Int32) (v4 : Int32) (M : xM) (P : Int32 → xM → Prop) (K1 : Int32 → Int32 → Int32 → Int32 → xM → Prop) : Prop := (((6 : Int32) < v4 → P (-6 : Int32) M) ∧ (¬ ((6 : Int32) < v4) → (mi_X7_fits g v1 v2 v3 v4 M (fun r1 N2 => ((r1 = 0 → (mi_X7_fits g v1 v2 v3 (-v4) N2 (fun r3 N4 => ((r3 = 0 → K1 v1 v2 v3 (v4 + (1 : Int32)) N4) ∧ (¬ (r3 = 0) → P ((10 : Int32) - v4) N4))))) ∧ (¬ (r1 = 0) → P ((10 : Int32) + v4) N2))))))
set_option maxRecDepth 100000 in
set_option maxHeartbeats 4000000 in
theorem wk_X7_keyAndTenBetween {g : xG} (v1 : Int32) (v2 : Int32) (v3 : Int32) (M : xM) (P : Int32 → xM → Prop) (I1 : Nat → Int32 → Int32 → Int32 → Int32 → xM → Prop) (h0 : vc_X7_keyAndTenBetween g v1 v2 v3 M P (fun v1 v2 v3 v4 N => ∃ k, I1 k v1 v2 v3 v4 N)) (h1 : ∀ (n : Nat) (v1 : Int32) (v2 : Int32) (v3 : Int32) (v4 : Int32) (N : xM), I1 n v1 v2 v3 v4 N → vc_X7_keyAndTenBetween_1 g v1 v2 v3 v4 N P (fun v1 v2 v3 v4 N => ∃ k, k < n ∧ I1 k v1 v2 v3 v4 N)) : mi_X7_keyAndTenBetween g v1 v2 v3 M P := by
  refine x_startI (as := [.ref (x_a g 6), .int v1, .int v2, .int v3]) (cc := cX7_keyAndTenBetween) (n := 5) (ret := (some .int)) (own := RX7) (by decide) rfl rfl (Nat.le_of_ble_eq_true rfl) (fun x hC hr => ?_)
  have L : ∀ n : Nat, (∀ (v1 : Int32) (v2 : Int32) (v3 : Int32) (v4 : Int32) (N : xM), I1 n v1 v2 v3 v4 N → x_W x g 5 (x_Qi x g P) N 3 [(0, .ref (x_a g 6)), (1, .int v1), (2, .int v2), (3, .int v3), (4, .int v4)] []) := by
    intro n
    induction n using Nat.strongRecOn with
    | ind n ih =>
      intro v1 v2 v3 v4 M hI
      have h := h1 n v1 v2 v3 v4 M hI
      unfold vc_X7_keyAndTenBetween_1 at h
      refine x_iload (q := 4) hC dX7_keyAndTenBetween_3 rfl ?_
      refine x_bipush (v := 6) hC dX7_keyAndTenBetween_5 (by decide) ?_
      refine x_icmp_gt (t := 53) hC dX7_keyAndTenBetween_7 (by decide) (fun q => ?_) (fun q => ?_)
      · replace h := h.1 q
        refine x_bipush (v := -6) hC dX7_keyAndTenBetween_53 (by decide) ?_
        exact x_iret hC hr dX7_keyAndTenBetween_55 h
      · replace h := h.2 q
        refine x_aload_n (i := 0) (q := 0) hC dX7_keyAndTenBetween_10 rfl rfl ?_
        refine x_iload_n (i := 1) (q := 1) hC dX7_keyAndTenBetween_11 rfl rfl ?_
        refine x_iload_n (i := 2) (q := 2) hC dX7_keyAndTenBetween_12 rfl rfl ?_
        refine x_iload_n (i := 3) (q := 3) hC dX7_keyAndTenBetween_13 rfl rfl ?_
        refine x_iload (q := 4) hC dX7_keyAndTenBetween_14 rfl ?_
        refine x_callVi (q := (RX7, TX7, 5)) (As := [.int v1, .int v2, .int v3, .int v4]) hC xo_6 rfl h gX7_keyAndTenBetween_X7_fits rfl rfl rfl hy_X7_fits ⟨Nat.le_of_ble_eq_true rfl, Nat.le_of_ble_eq_true rfl⟩ rfl (Nat.le_of_ble_eq_true rfl) rfl dX7_keyAndTenBetween_16 (fun r1 N2 h => ?_)
        refine x_if_eq (t := 28) hC dX7_keyAndTenBetween_19 (by decide) (fun q => ?_) (fun q => ?_)
        · replace h := h.1 q
          refine x_aload_n (i := 0) (q := 0) hC dX7_keyAndTenBetween_28 rfl rfl ?_
          refine x_iload_n (i := 1) (q := 1) hC dX7_keyAndTenBetween_29 rfl rfl ?_
          refine x_iload_n (i := 2) (q := 2) hC dX7_keyAndTenBetween_30 rfl rfl ?_
          refine x_iload_n (i := 3) (q := 3) hC dX7_keyAndTenBetween_31 rfl rfl ?_
          refine x_iload (q := 4) hC dX7_keyAndTenBetween_32 rfl ?_
          refine x_ineg hC dX7_keyAndTenBetween_34 ?_
          refine x_callVi (q := (RX7, TX7, 5)) (As := [.int v1, .int v2, .int v3, .int (-v4)]) hC xo_6 rfl h gX7_keyAndTenBetween_X7_fits rfl rfl rfl hy_X7_fits ⟨Nat.le_of_ble_eq_true rfl, Nat.le_of_ble_eq_true rfl⟩ rfl (Nat.le_of_ble_eq_true rfl) rfl dX7_keyAndTenBetween_35 (fun r3 N4 h => ?_)
          refine x_if_eq (t := 47) hC dX7_keyAndTenBetween_38 (by decide) (fun q => ?_) (fun q => ?_)
          · replace h := h.1 q
            refine x_iinc (k := 4) (v' := (v4 + (1 : Int32))) (ls' := [(4, .int (v4 + (1 : Int32))), (0, .ref (x_a g 6)), (1, .int v1), (2, .int v2), (3, .int v3)]) hC dX7_keyAndTenBetween_47 rfl rfl (by decide) rfl ?_
            refine x_goto (t := 3) hC dX7_keyAndTenBetween_50 (by decide) ?_
            obtain ⟨n_1, hn, h⟩ := h
            exact x_sub [1, 2, 3, 4, 0] rfl ((ih n_1 hn) _ _ _ _ _ h)
          · replace h := h.2 q
            refine x_bipush (v := 10) hC dX7_keyAndTenBetween_41 (by decide) ?_
            refine x_iload (q := 4) hC dX7_keyAndTenBetween_43 rfl ?_
            refine x_isub hC dX7_keyAndTenBetween_45 ?_
            exact x_iret hC hr dX7_keyAndTenBetween_46 h
        · replace h := h.2 q
          refine x_bipush (v := 10) hC dX7_keyAndTenBetween_22 (by decide) ?_
          refine x_iload (q := 4) hC dX7_keyAndTenBetween_24 rfl ?_
          refine x_iadd hC dX7_keyAndTenBetween_26 ?_
          exact x_iret hC hr dX7_keyAndTenBetween_27 h
  have h := h0
  unfold vc_X7_keyAndTenBetween at h
  refine x_iconst (v := 0) hC dX7_keyAndTenBetween_0 (by decide) ?_
  refine x_istore (ls' := [(4, .int (0 : Int32)), (0, .ref (x_a g 6)), (1, .int v1), (2, .int v2), (3, .int v3)]) hC dX7_keyAndTenBetween_1 (by decide) rfl ?_
  obtain ⟨n_1, h⟩ := h
  exact x_sub [1, 2, 3, 4, 0] rfl ((L n_1) _ _ _ _ _ h)
theorem kf_X4_remember_24 : x_okf wsX4_remember RX4 24 4 0 = true := by decide +kernel
theorem kf_X4_remember_9 : x_okf wsX4_remember RX4 9 4 1 = true := by decide +kernel
theorem kf_X4_remember_15 : x_okf wsX4_remember RX4 15 4 2 = true := by decide +kernel
theorem kf_X4_remember_18 : x_okf wsX4_remember RX4 18 4 3 = true := by decide +kernel
theorem kf_X4_remember_21 : x_okf wsX4_remember RX4 21 4 4 = true := by decide +kernel
def vc_X4_remember (g : xG) (v1 : Int32) (v2 : Int32) (v3 : Int32) (v4 : Int32) (M : xM) (P : xM → Prop) (K1 : Int32 → Int32 → Int32 → Int32 → Int32 → xM → Prop) : Prop := (∀ y1 : Int32, y1 = (((x_up M 15 0 (if (12 : Int32) < ((M 15 0) + (1 : Int32)) then (12 : Int32) else ((M 15 0) + (1 : Int32)))) 15 0) - (1 : Int32)) → K1 v1 v2 v3 v4 y1 (x_up M 15 0 (if (12 : Int32) < ((M 15 0) + (1 : Int32)) then (12 : Int32) else ((M 15 0) + (1 : Int32)))))
def vc_X4_remember_1 (g : xG) (v1 : Int32) (v2 : Int32) (v3 : Int32) (v4 : Int32) (v5 : Int32) (M : xM) (P : xM → Prop) (K1 : Int32 → Int32 → Int32 → Int32 → Int32 → xM → Prop) : Prop := ((v5 ≤ 0 → (vp_in (0 : Int32) 12 ∧ (vp_in (0 : Int32) 12 ∧ (vp_in (0 : Int32) 12 ∧ (∀ N2 : xM, N2 = (x_up (x_up (x_up M 16 ((0 : Int32)).toNatClampNeg v1) 17 ((0 : Int32)).toNatClampNeg v2) 18 ((0 : Int32)).toNatClampNeg v3) → (vp_in (0 : Int32) 12 ∧ P (x_up N2 19 ((0 : Int32)).toNatClampNeg v4))))))) ∧ (¬ (v5 ≤ 0) → (vp_in (v5 - (1 : Int32)) 12 ∧ (vp_in v5 12 ∧ (vp_in (v5 - (1 : Int32)) 12 ∧ (vp_in v5 12 ∧ (∀ N3 : xM, N3 = (x_up (x_up M 16 (v5).toNatClampNeg (M 16 ((v5 - (1 : Int32))).toNatClampNeg)) 17 (v5).toNatClampNeg ((x_up M 16 (v5).toNatClampNeg (M 16 ((v5 - (1 : Int32))).toNatClampNeg)) 17 ((v5 - (1 : Int32))).toNatClampNeg)) → (vp_in (v5 - (1 : Int32)) 12 ∧ (vp_in v5 12 ∧ (vp_in (v5 - (1 : Int32)) 12 ∧ (vp_in v5 12 ∧ (∀ N4 : xM, N4 = (x_up (x_up N3 18 (v5).toNatClampNeg (N3 18 ((v5 - (1 : Int32))).toNatClampNeg)) 19 (v5).toNatClampNeg ((x_up N3 18 (v5).toNatClampNeg (N3 18 ((v5 - (1 : Int32))).toNatClampNeg)) 19 ((v5 - (1 : Int32))).toNatClampNeg)) → K1 v1 v2 v3 v4 (v5 + (-1 : Int32)) N4))))))))))))
set_option maxRecDepth 100000 in
set_option maxHeartbeats 4000000 in
theorem wk_X4_remember {g : xG} (v1 : Int32) (v2 : Int32) (v3 : Int32) (v4 : Int32) (M : xM) (P : xM → Prop) (I1 : Nat → Int32 → Int32 → Int32 → Int32 → Int32 → xM → Prop) (h0 : vc_X4_remember g v1 v2 v3 v4 M P (fun v1 v2 v3 v4 v5 N => ∃ k, I1 k v1 v2 v3 v4 v5 N)) (h1 : ∀ (n : Nat) (v1 : Int32) (v2 : Int32) (v3 : Int32) (v4 : Int32) (v5 : Int32) (N : xM), I1 n v1 v2 v3 v4 v5 N → vc_X4_remember_1 g v1 v2 v3 v4 v5 N P (fun v1 v2 v3 v4 v5 N => ∃ k, k < n ∧ I1 k v1 v2 v3 v4 v5 N)) : mi_X4_remember g v1 v2 v3 v4 M P := by
  refine x_startV (as := [.ref (x_a g 15), .int v1, .int v2, .int v3, .int v4]) (cc := cX4_remember) (n := 6) (ret := none) (own := RX4) (by decide) rfl rfl (Nat.le_of_ble_eq_true rfl) (fun x hC hr => ?_)
  have L : ∀ n : Nat, (∀ (v1 : Int32) (v2 : Int32) (v3 : Int32) (v4 : Int32) (v5 : Int32) (N : xM), I1 n v1 v2 v3 v4 v5 N → x_W x g 6 (x_Qv x g P) N 23 [(0, .ref (x_a g 15)), (1, .int v1), (2, .int v2), (3, .int v3), (4, .int v4), (5, .int v5)] []) := by
    intro n
    induction n using Nat.strongRecOn with
    | ind n ih =>
      intro v1 v2 v3 v4 v5 M hI
      have h := h1 n v1 v2 v3 v4 v5 M hI
      unfold vc_X4_remember_1 at h
      refine x_iload (q := 5) hC dX4_remember_23 rfl ?_
      refine x_if_le (t := 98) hC dX4_remember_25 (by decide) (fun q => ?_) (fun q => ?_)
      · replace h := h.1 q
        refine x_aload_n (i := 0) (q := 0) hC dX4_remember_98 rfl rfl ?_
        refine x_getr (k := 1) (r := 16) hC xo_15 rfl kf_X4_remember_9 dX4_remember_99 ?_
        refine x_iconst (v := 0) hC dX4_remember_102 (by decide) ?_
        refine x_iload_n (i := 1) (q := 1) hC dX4_remember_103 rfl rfl ?_
        refine x_iast (len := 12) hC xa_16 h.1 dX4_remember_104 ?_
        replace h := h.2
        refine x_aload_n (i := 0) (q := 0) hC dX4_remember_105 rfl rfl ?_
        refine x_getr (k := 2) (r := 17) hC xo_15 rfl kf_X4_remember_15 dX4_remember_106 ?_
        refine x_iconst (v := 0) hC dX4_remember_109 (by decide) ?_
        refine x_iload_n (i := 2) (q := 2) hC dX4_remember_110 rfl rfl ?_
        refine x_iast (len := 12) hC xa_17 h.1 dX4_remember_111 ?_
        replace h := h.2
        refine x_aload_n (i := 0) (q := 0) hC dX4_remember_112 rfl rfl ?_
        refine x_getr (k := 3) (r := 18) hC xo_15 rfl kf_X4_remember_18 dX4_remember_113 ?_
        refine x_iconst (v := 0) hC dX4_remember_116 (by decide) ?_
        refine x_iload_n (i := 3) (q := 3) hC dX4_remember_117 rfl rfl ?_
        refine x_iast (len := 12) hC xa_18 h.1 dX4_remember_118 ?_
        replace h := h.2
        refine x_topM (fun N2 qN2 => ?_)
        replace h := h N2 qN2
        refine x_aload_n (i := 0) (q := 0) hC dX4_remember_119 rfl rfl ?_
        refine x_getr (k := 4) (r := 19) hC xo_15 rfl kf_X4_remember_21 dX4_remember_120 ?_
        refine x_iconst (v := 0) hC dX4_remember_123 (by decide) ?_
        refine x_iload (q := 4) hC dX4_remember_124 rfl ?_
        refine x_iast (len := 12) hC xa_19 h.1 dX4_remember_126 ?_
        replace h := h.2
        exact x_vret hC hr dX4_remember_127 h
      · replace h := h.2 q
        refine x_aload_n (i := 0) (q := 0) hC dX4_remember_28 rfl rfl ?_
        refine x_getr (k := 1) (r := 16) hC xo_15 rfl kf_X4_remember_9 dX4_remember_29 ?_
        refine x_iload (q := 5) hC dX4_remember_32 rfl ?_
        refine x_aload_n (i := 0) (q := 0) hC dX4_remember_34 rfl rfl ?_
        refine x_getr (k := 1) (r := 16) hC xo_15 rfl kf_X4_remember_9 dX4_remember_35 ?_
        refine x_iload (q := 5) hC dX4_remember_38 rfl ?_
        refine x_iconst (v := 1) hC dX4_remember_40 (by decide) ?_
        refine x_isub hC dX4_remember_41 ?_
        refine x_iald (len := 12) hC xa_16 h.1 dX4_remember_42 ?_
        replace h := h.2
        refine x_iast (len := 12) hC xa_16 h.1 dX4_remember_43 ?_
        replace h := h.2
        refine x_aload_n (i := 0) (q := 0) hC dX4_remember_44 rfl rfl ?_
        refine x_getr (k := 2) (r := 17) hC xo_15 rfl kf_X4_remember_15 dX4_remember_45 ?_
        refine x_iload (q := 5) hC dX4_remember_48 rfl ?_
        refine x_aload_n (i := 0) (q := 0) hC dX4_remember_50 rfl rfl ?_
        refine x_getr (k := 2) (r := 17) hC xo_15 rfl kf_X4_remember_15 dX4_remember_51 ?_
        refine x_iload (q := 5) hC dX4_remember_54 rfl ?_
        refine x_iconst (v := 1) hC dX4_remember_56 (by decide) ?_
        refine x_isub hC dX4_remember_57 ?_
        refine x_iald (len := 12) hC xa_17 h.1 dX4_remember_58 ?_
        replace h := h.2
        refine x_iast (len := 12) hC xa_17 h.1 dX4_remember_59 ?_
        replace h := h.2
        refine x_topM (fun N3 qN3 => ?_)
        replace h := h N3 qN3
        refine x_aload_n (i := 0) (q := 0) hC dX4_remember_60 rfl rfl ?_
        refine x_getr (k := 3) (r := 18) hC xo_15 rfl kf_X4_remember_18 dX4_remember_61 ?_
        refine x_iload (q := 5) hC dX4_remember_64 rfl ?_
        refine x_aload_n (i := 0) (q := 0) hC dX4_remember_66 rfl rfl ?_
        refine x_getr (k := 3) (r := 18) hC xo_15 rfl kf_X4_remember_18 dX4_remember_67 ?_
        refine x_iload (q := 5) hC dX4_remember_70 rfl ?_
        refine x_iconst (v := 1) hC dX4_remember_72 (by decide) ?_
        refine x_isub hC dX4_remember_73 ?_
        refine x_iald (len := 12) hC xa_18 h.1 dX4_remember_74 ?_
        replace h := h.2
        refine x_iast (len := 12) hC xa_18 h.1 dX4_remember_75 ?_
        replace h := h.2
        refine x_aload_n (i := 0) (q := 0) hC dX4_remember_76 rfl rfl ?_
        refine x_getr (k := 4) (r := 19) hC xo_15 rfl kf_X4_remember_21 dX4_remember_77 ?_
        refine x_iload (q := 5) hC dX4_remember_80 rfl ?_
        refine x_aload_n (i := 0) (q := 0) hC dX4_remember_82 rfl rfl ?_
        refine x_getr (k := 4) (r := 19) hC xo_15 rfl kf_X4_remember_21 dX4_remember_83 ?_
        refine x_iload (q := 5) hC dX4_remember_86 rfl ?_
        refine x_iconst (v := 1) hC dX4_remember_88 (by decide) ?_
        refine x_isub hC dX4_remember_89 ?_
        refine x_iald (len := 12) hC xa_19 h.1 dX4_remember_90 ?_
        replace h := h.2
        refine x_iast (len := 12) hC xa_19 h.1 dX4_remember_91 ?_
        replace h := h.2
        refine x_topM (fun N4 qN4 => ?_)
        replace h := h N4 qN4
        refine x_iinc (k := 5) (v' := (v5 + (-1 : Int32))) (ls' := [(5, .int (v5 + (-1 : Int32))), (0, .ref (x_a g 15)), (1, .int v1), (2, .int v2), (3, .int v3), (4, .int v4)]) hC dX4_remember_92 rfl rfl (by decide) rfl ?_
        refine x_goto (t := 23) hC dX4_remember_95 (by decide) ?_
        obtain ⟨n_1, hn, h⟩ := h
        exact x_sub [1, 2, 3, 4, 5, 0] rfl ((ih n_1 hn) _ _ _ _ _ _ h)
  have h := h0
  unfold vc_X4_remember at h
  refine x_aload_n (i := 0) (q := 0) hC dX4_remember_0 rfl rfl ?_
  refine x_aload_n (i := 0) (q := 0) hC dX4_remember_1 rfl rfl ?_
  refine x_geti (k := 0) hC xo_15 rfl kf_X4_remember_24 dX4_remember_2 ?_
  refine x_iconst (v := 1) hC dX4_remember_5 (by decide) ?_
  refine x_iadd hC dX4_remember_6 ?_
  refine x_bipush (v := 12) hC dX4_remember_7 (by decide) ?_
  refine x_mmin (idx := 28) hC (by decide +kernel) (by decide +kernel) (by decide +kernel) (by decide +kernel) (Nat.le_of_ble_eq_true rfl) (Nat.le_of_ble_eq_true rfl) dX4_remember_9 ?_
  refine x_puti (k := 0) hC xo_15 rfl kf_X4_remember_24 kp_4_0 dX4_remember_12 ?_
  refine x_aload_n (i := 0) (q := 0) hC dX4_remember_15 rfl rfl ?_
  refine x_geti (k := 0) hC xo_15 rfl kf_X4_remember_24 dX4_remember_16 ?_
  refine x_iconst (v := 1) hC dX4_remember_19 (by decide) ?_
  refine x_isub hC dX4_remember_20 ?_
  refine x_topi (fun y1 qy1 => ?_)
  replace h := h y1 qy1
  refine x_istore (ls' := [(5, .int y1), (0, .ref (x_a g 15)), (1, .int v1), (2, .int v2), (3, .int v3), (4, .int v4)]) hC dX4_remember_21 (by decide) rfl ?_
  obtain ⟨n_1, h⟩ := h
  exact x_sub [1, 2, 3, 4, 5, 0] rfl ((L n_1) _ _ _ _ _ _ h)
theorem kf_X6_singTurn_24 : x_okf wsX6_singTurn RX6 24 6 0 = true := by decide +kernel
theorem kf_X6_singTurn_43 : x_okf wsX6_singTurn RX6 43 6 2 = true := by decide +kernel
theorem kf_X6_singTurn_18 : x_okf wsX6_singTurn RX6 18 6 5 = true := by decide +kernel
theorem kf_X6_singTurn_21 : x_okf wsX6_singTurn RX6 21 6 6 = true := by decide +kernel
def vc_X6_singTurn (g : xG) (v1 : Int32) (v2 : Int32) (M : xM) (P : xM → Prop) (K1 : Int32 → Int32 → Int32 → xM → Prop) : Prop := K1 v1 v2 (0 : Int32) M
def vc_X6_singTurn_1 (g : xG) (v1 : Int32) (v2 : Int32) (v3 : Int32) (M : xM) (P : xM → Prop) (K1 : Int32 → Int32 → Int32 → xM → Prop) : Prop := (((M 1 0) ≤ v3 → P (x_up M 1 2 v1)) ∧ (¬ ((M 1 0) ≤ v3) → (mi_X9_isIn g v1 v3 M (fun r1 N2 => ((r1 = 0 → K1 v1 v2 (v3 + (1 : Int32)) N2) ∧ (¬ (r1 = 0) → (vp_in v3 12 ∧ (vp_in v3 12 ∧ (vp_in v3 12 ∧ (vp_in v3 12 ∧ (∀ N3 : xM, N3 = (x_up (x_up N2 4 (v3).toNatClampNeg ((N2 4 (v3).toNatClampNeg) + (1 : Int32))) 5 (v3).toNatClampNeg (((x_up N2 4 (v3).toNatClampNeg ((N2 4 (v3).toNatClampNeg) + (1 : Int32))) 5 (v3).toNatClampNeg) + v2)) → K1 v1 v2 (v3 + (1 : Int32)) N3)))))))))))
set_option maxRecDepth 100000 in
set_option maxHeartbeats 4000000 in
theorem wk_X6_singTurn {g : xG} (v1 : Int32) (v2 : Int32) (M : xM) (P : xM → Prop) (I1 : Nat → Int32 → Int32 → Int32 → xM → Prop) (h0 : vc_X6_singTurn g v1 v2 M P (fun v1 v2 v3 N => ∃ k, I1 k v1 v2 v3 N)) (h1 : ∀ (n : Nat) (v1 : Int32) (v2 : Int32) (v3 : Int32) (N : xM), I1 n v1 v2 v3 N → vc_X6_singTurn_1 g v1 v2 v3 N P (fun v1 v2 v3 N => ∃ k, k < n ∧ I1 k v1 v2 v3 N)) : mi_X6_singTurn g v1 v2 M P := by
  refine x_startV (as := [.ref (x_a g 1), .int v1, .int v2]) (cc := cX6_singTurn) (n := 4) (ret := none) (own := RX6) (by decide) rfl rfl (Nat.le_of_ble_eq_true rfl) (fun x hC hr => ?_)
  have L : ∀ n : Nat, (∀ (v1 : Int32) (v2 : Int32) (v3 : Int32) (N : xM), I1 n v1 v2 v3 N → x_W x g 4 (x_Qv x g P) N 2 [(0, .ref (x_a g 1)), (1, .int v1), (2, .int v2), (3, .int v3)] []) := by
    intro n
    induction n using Nat.strongRecOn with
    | ind n ih =>
      intro v1 v2 v3 M hI
      have h := h1 n v1 v2 v3 M hI
      unfold vc_X6_singTurn_1 at h
      refine x_iload_n (i := 3) (q := 3) hC dX6_singTurn_2 rfl rfl ?_
      refine x_aload_n (i := 0) (q := 0) hC dX6_singTurn_3 rfl rfl ?_
      refine x_geti (k := 0) hC xo_1 rfl kf_X6_singTurn_24 dX6_singTurn_4 ?_
      refine x_icmp_ge (t := 44) hC dX6_singTurn_7 (by decide) (fun q => ?_) (fun q => ?_)
      · replace h := h.1 q
        refine x_aload_n (i := 0) (q := 0) hC dX6_singTurn_44 rfl rfl ?_
        refine x_iload_n (i := 1) (q := 1) hC dX6_singTurn_45 rfl rfl ?_
        refine x_puti (k := 2) hC xo_1 rfl kf_X6_singTurn_43 kp_6_2 dX6_singTurn_46 ?_
        exact x_vret hC hr dX6_singTurn_49 h
      · replace h := h.2 q
        refine x_iload_n (i := 1) (q := 1) hC dX6_singTurn_10 rfl rfl ?_
        refine x_iload_n (i := 3) (q := 3) hC dX6_singTurn_11 rfl rfl ?_
        refine x_callNi (host := RX9) (As := [.int v1, .int v3]) hC h gX6_singTurn_X9_isIn_n35 rfl rfl rfl (by decide +kernel) (by decide +kernel) (by decide +kernel) hy_X9_isIn.2 ⟨Nat.le_of_ble_eq_true rfl, Nat.le_of_ble_eq_true rfl⟩ rfl (Nat.le_of_ble_eq_true rfl) rfl dX6_singTurn_12 (fun r1 N2 h => ?_)
        refine x_if_eq (t := 38) hC dX6_singTurn_15 (by decide) (fun q => ?_) (fun q => ?_)
        · replace h := h.1 q
          refine x_iinc (k := 3) (v' := (v3 + (1 : Int32))) (ls' := [(3, .int (v3 + (1 : Int32))), (0, .ref (x_a g 1)), (1, .int v1), (2, .int v2)]) hC dX6_singTurn_38 rfl rfl (by decide) rfl ?_
          refine x_goto (t := 2) hC dX6_singTurn_41 (by decide) ?_
          obtain ⟨n_1, hn, h⟩ := h
          exact x_sub [1, 2, 3, 0] rfl ((ih n_1 hn) _ _ _ _ h)
        · replace h := h.2 q
          refine x_aload_n (i := 0) (q := 0) hC dX6_singTurn_18 rfl rfl ?_
          refine x_getr (k := 5) (r := 4) hC xo_1 rfl kf_X6_singTurn_18 dX6_singTurn_19 ?_
          refine x_iload_n (i := 3) (q := 3) hC dX6_singTurn_22 rfl rfl ?_
          refine x_dup2 hC dX6_singTurn_23 rfl rfl ?_
          refine x_iald (len := 12) hC xa_4 h.1 dX6_singTurn_24 ?_
          replace h := h.2
          refine x_iconst (v := 1) hC dX6_singTurn_25 (by decide) ?_
          refine x_iadd hC dX6_singTurn_26 ?_
          refine x_iast (len := 12) hC xa_4 h.1 dX6_singTurn_27 ?_
          replace h := h.2
          refine x_aload_n (i := 0) (q := 0) hC dX6_singTurn_28 rfl rfl ?_
          refine x_getr (k := 6) (r := 5) hC xo_1 rfl kf_X6_singTurn_21 dX6_singTurn_29 ?_
          refine x_iload_n (i := 3) (q := 3) hC dX6_singTurn_32 rfl rfl ?_
          refine x_dup2 hC dX6_singTurn_33 rfl rfl ?_
          refine x_iald (len := 12) hC xa_5 h.1 dX6_singTurn_34 ?_
          replace h := h.2
          refine x_iload_n (i := 2) (q := 2) hC dX6_singTurn_35 rfl rfl ?_
          refine x_iadd hC dX6_singTurn_36 ?_
          refine x_iast (len := 12) hC xa_5 h.1 dX6_singTurn_37 ?_
          replace h := h.2
          refine x_topM (fun N3 qN3 => ?_)
          replace h := h N3 qN3
          refine x_iinc (k := 3) (v' := (v3 + (1 : Int32))) (ls' := [(3, .int (v3 + (1 : Int32))), (0, .ref (x_a g 1)), (1, .int v1), (2, .int v2)]) hC dX6_singTurn_38 rfl rfl (by decide) rfl ?_
          refine x_goto (t := 2) hC dX6_singTurn_41 (by decide) ?_
          obtain ⟨n_1, hn, h⟩ := h
          exact x_sub [1, 2, 3, 0] rfl ((ih n_1 hn) _ _ _ _ h)
  have h := h0
  unfold vc_X6_singTurn at h
  refine x_iconst (v := 0) hC dX6_singTurn_0 (by decide) ?_
  refine x_istore_n (i := 3) (ls' := [(3, .int (0 : Int32)), (0, .ref (x_a g 1)), (1, .int v1), (2, .int v2)]) hC dX6_singTurn_1 rfl (by decide) rfl ?_
  obtain ⟨n_1, h⟩ := h
  exact x_sub [1, 2, 3, 0] rfl ((L n_1) _ _ _ _ h)
