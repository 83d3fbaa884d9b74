theorem kf_X6_copyFrom_24 : x_okf wsX6_copyFrom RX6 24 6 0 = true := by decide +kernel
theorem kf_X6_copyFrom_32 : x_okf wsX6_copyFrom RX6 32 6 1 = true := by decide +kernel
theorem kf_X6_copyFrom_43 : x_okf wsX6_copyFrom RX6 43 6 2 = true := by decide +kernel
theorem kf_X6_copyFrom_9 : x_okf wsX6_copyFrom RX6 9 6 3 = true := by decide +kernel
theorem kf_X6_copyFrom_15 : x_okf wsX6_copyFrom RX6 15 6 4 = true := by decide +kernel
theorem kf_X6_copyFrom_18 : x_okf wsX6_copyFrom RX6 18 6 5 = true := by decide +kernel
theorem kf_X6_copyFrom_21 : x_okf wsX6_copyFrom RX6 21 6 6 = true := by decide +kernel
def vc_X6_copyFrom (g : xG) (e : Nat) (f : Nat) (M : xM) (P : xM → Prop) : Prop := (∀ N1 : xM, N1 = (x_up (x_up M (20 * e + 1) 0 (M (20 * f + 1) 0)) (20 * e + 1) 1 ((x_up M (20 * e + 1) 0 (M (20 * f + 1) 0)) (20 * f + 1) 1)) → (mi_X9_copyRow g (20 * f + 2) (20 * e + 2) (x_up N1 (20 * e + 1) 2 (N1 (20 * f + 1) 2)) (fun N2 => (mi_X9_copyRow g (20 * f + 3) (20 * e + 3) N2 (fun N3 => (mi_X9_copyRow g (20 * f + 4) (20 * e + 4) N3 (fun N4 => (mi_X9_copyRow g (20 * f + 5) (20 * e + 5) N4 (fun N5 => P N5)))))))))
set_option maxRecDepth 100000 in
set_option maxHeartbeats 4000000 in
theorem wk_X6_copyFrom {g : xG} (e : Nat) (f : Nat) (he : e < 9) (hf : f < 9) (M : xM) (P : xM → Prop) (h0 : vc_X6_copyFrom g e f M P ) : mi_X6_copyFrom g e f M P := by
  refine x_startV (as := [.ref (x_a g (20 * e + 1)), .ref (x_a g (20 * f + 1))]) (cc := cX6_copyFrom) (n := 2) (ret := none) (own := RX6) (by decide) rfl rfl (Nat.le_of_ble_eq_true rfl) (fun x hC hr => ?_)
  have h := h0
  unfold vc_X6_copyFrom at h
  refine x_aload_n (i := 0) (q := 0) hC dX6_copyFrom_0 rfl rfl ?_
  refine x_aload_n (i := 1) (q := 1) hC dX6_copyFrom_1 rfl rfl ?_
  refine x_geti (k := 0) hC (x_objE (j := 1) hf (by decide) rfl) rfl kf_X6_copyFrom_24 dX6_copyFrom_2 ?_
  refine x_puti (k := 0) hC (x_objE (j := 1) he (by decide) rfl) rfl kf_X6_copyFrom_24 kp_6_0 dX6_copyFrom_5 ?_
  refine x_aload_n (i := 0) (q := 0) hC dX6_copyFrom_8 rfl rfl ?_
  refine x_aload_n (i := 1) (q := 1) hC dX6_copyFrom_9 rfl rfl ?_
  refine x_geti (k := 1) hC (x_objE (j := 1) hf (by decide) rfl) rfl kf_X6_copyFrom_32 dX6_copyFrom_10 ?_
  refine x_puti (k := 1) hC (x_objE (j := 1) he (by decide) rfl) rfl kf_X6_copyFrom_32 kp_6_1 dX6_copyFrom_13 ?_
  refine x_topM (fun N1 qN1 => ?_)
  replace h := h N1 qN1
  refine x_aload_n (i := 0) (q := 0) hC dX6_copyFrom_16 rfl rfl ?_
  refine x_aload_n (i := 1) (q := 1) hC dX6_copyFrom_17 rfl rfl ?_
  refine x_geti (k := 2) hC (x_objE (j := 1) hf (by decide) rfl) rfl kf_X6_copyFrom_43 dX6_copyFrom_18 ?_
  refine x_puti (k := 2) hC (x_objE (j := 1) he (by decide) rfl) rfl kf_X6_copyFrom_43 kp_6_2 dX6_copyFrom_21 ?_
  refine x_aload_n (i := 1) (q := 1) hC dX6_copyFrom_24 rfl rfl ?_
  refine x_getr (k := 3) (r := (20 * f + 2)) hC (x_objE (j := 1) hf (by decide) rfl) rfl kf_X6_copyFrom_9 dX6_copyFrom_25 ?_
  refine x_aload_n (i := 0) (q := 0) hC dX6_copyFrom_28 rfl rfl ?_
  refine x_getr (k := 3) (r := (20 * e + 2)) hC (x_objE (j := 1) he (by decide) rfl) rfl kf_X6_copyFrom_9 dX6_copyFrom_29 ?_
  refine x_callNv (host := RX9) (As := [.ref (x_a g (20 * f + 2)), .ref (x_a g (20 * e + 2))]) hC h gX6_copyFrom_X9_copyRow_n46 rfl rfl rfl (by decide +kernel) (by decide +kernel) (by decide +kernel) hy_X9_copyRow.2 ⟨Nat.le_of_ble_eq_true rfl, Nat.le_of_ble_eq_true rfl⟩ rfl (Nat.le_of_ble_eq_true rfl) rfl dX6_copyFrom_32 (fun N2 h => ?_)
  refine x_aload_n (i := 1) (q := 1) hC dX6_copyFrom_35 rfl rfl ?_
  refine x_getr (k := 4) (r := (20 * f + 3)) hC (x_objE (j := 1) hf (by decide) rfl) rfl kf_X6_copyFrom_15 dX6_copyFrom_36 ?_
  refine x_aload_n (i := 0) (q := 0) hC dX6_copyFrom_39 rfl rfl ?_
  refine x_getr (k := 4) (r := (20 * e + 3)) hC (x_objE (j := 1) he (by decide) rfl) rfl kf_X6_copyFrom_15 dX6_copyFrom_40 ?_
  refine x_callNv (host := RX9) (As := [.ref (x_a g (20 * f + 3)), .ref (x_a g (20 * e + 3))]) hC h gX6_copyFrom_X9_copyRow_n46 rfl rfl rfl (by decide +kernel) (by decide +kernel) (by decide +kernel) hy_X9_copyRow.2 ⟨Nat.le_of_ble_eq_true rfl, Nat.le_of_ble_eq_true rfl⟩ rfl (Nat.le_of_ble_eq_true rfl) rfl dX6_copyFrom_43 (fun N3 h => ?_)
  refine x_aload_n (i := 1) (q := 1) hC dX6_copyFrom_46 rfl rfl ?_
  refine x_getr (k := 5) (r := (20 * f + 4)) hC (x_objE (j := 1) hf (by decide) rfl) rfl kf_X6_copyFrom_18 dX6_copyFrom_47 ?_
  refine x_aload_n (i := 0) (q := 0) hC dX6_copyFrom_50 rfl rfl ?_
  refine x_getr (k := 5) (r := (20 * e + 4)) hC (x_objE (j := 1) he (by decide) rfl) rfl kf_X6_copyFrom_18 dX6_copyFrom_51 ?_
  refine x_callNv (host := RX9) (As := [.ref (x_a g (20 * f + 4)), .ref (x_a g (20 * e + 4))]) hC h gX6_copyFrom_X9_copyRow_n46 rfl rfl rfl (by decide +kernel) (by decide +kernel) (by decide +kernel) hy_X9_copyRow.2 ⟨Nat.le_of_ble_eq_true rfl, Nat.le_of_ble_eq_true rfl⟩ rfl (Nat.le_of_ble_eq_true rfl) rfl dX6_copyFrom_54 (fun N4 h => ?_)
  refine x_aload_n (i := 1) (q := 1) hC dX6_copyFrom_57 rfl rfl ?_
  refine x_getr (k := 6) (r := (20 * f + 5)) hC (x_objE (j := 1) hf (by decide) rfl) rfl kf_X6_copyFrom_21 dX6_copyFrom_58 ?_
  refine x_aload_n (i := 0) (q := 0) hC dX6_copyFrom_61 rfl rfl ?_
  refine x_getr (k := 6) (r := (20 * e + 5)) hC (x_objE (j := 1) he (by decide) rfl) rfl kf_X6_copyFrom_21 dX6_copyFrom_62 ?_
  refine x_callNv (host := RX9) (As := [.ref (x_a g (20 * f + 5)), .ref (x_a g (20 * e + 5))]) hC h gX6_copyFrom_X9_copyRow_n46 rfl rfl rfl (by decide +kernel) (by decide +kernel) (by decide +kernel) hy_X9_copyRow.2 ⟨Nat.le_of_ble_eq_true rfl, Nat.le_of_ble_eq_true rfl⟩ rfl (Nat.le_of_ble_eq_true rfl) rfl dX6_copyFrom_65 (fun N5 h => ?_)
  exact x_vret hC hr dX6_copyFrom_68 h
theorem kf_X7_copyFrom_24 : x_okf wsX7_copyFrom RX7 24 7 0 = true := by decide +kernel
theorem kf_X7_copyFrom_9 : x_okf wsX7_copyFrom RX7 9 7 1 = true := by decide +kernel
theorem kf_X7_copyFrom_15 : x_okf wsX7_copyFrom RX7 15 7 2 = true := by decide +kernel
theorem kf_X7_copyFrom_18 : x_okf wsX7_copyFrom RX7 18 7 3 = true := by decide +kernel
theorem kf_X7_copyFrom_21 : x_okf wsX7_copyFrom RX7 21 7 4 = true := by decide +kernel
def vc_X7_copyFrom (g : xG) (e : Nat) (f : Nat) (M : xM) (P : xM → Prop) : Prop := (mi_X9_copyRow g (20 * f + 7) (20 * e + 7) (x_up M (20 * e + 6) 0 (M (20 * f + 6) 0)) (fun N1 => (mi_X9_copyRow g (20 * f + 8) (20 * e + 8) N1 (fun N2 => (mi_X9_copyRow g (20 * f + 9) (20 * e + 9) N2 (fun N3 => (mi_X9_copyRow g (20 * f + 10) (20 * e + 10) N3 (fun N4 => P N4))))))))
set_option maxRecDepth 100000 in
set_option maxHeartbeats 4000000 in
theorem wk_X7_copyFrom {g : xG} (e : Nat) (f : Nat) (he : e < 9) (hf : f < 9) (M : xM) (P : xM → Prop) (h0 : vc_X7_copyFrom g e f M P ) : mi_X7_copyFrom g e f M P := by
  refine x_startV (as := [.ref (x_a g (20 * e + 6)), .ref (x_a g (20 * f + 6))]) (cc := cX7_copyFrom) (n := 2) (ret := none) (own := RX7) (by decide) rfl rfl (Nat.le_of_ble_eq_true rfl) (fun x hC hr => ?_)
  have h := h0
  unfold vc_X7_copyFrom at h
  refine x_aload_n (i := 0) (q := 0) hC dX7_copyFrom_0 rfl rfl ?_
  refine x_aload_n (i := 1) (q := 1) hC dX7_copyFrom_1 rfl rfl ?_
  refine x_geti (k := 0) hC (x_objE (j := 6) hf (by decide) rfl) rfl kf_X7_copyFrom_24 dX7_copyFrom_2 ?_
  refine x_puti (k := 0) hC (x_objE (j := 6) he (by decide) rfl) rfl kf_X7_copyFrom_24 kp_7_0 dX7_copyFrom_5 ?_
  refine x_aload_n (i := 1) (q := 1) hC dX7_copyFrom_8 rfl rfl ?_
  refine x_getr (k := 1) (r := (20 * f + 7)) hC (x_objE (j := 6) hf (by decide) rfl) rfl kf_X7_copyFrom_9 dX7_copyFrom_9 ?_
  refine x_aload_n (i := 0) (q := 0) hC dX7_copyFrom_12 rfl rfl ?_
  refine x_getr (k := 1) (r := (20 * e + 7)) hC (x_objE (j := 6) he (by decide) rfl) rfl kf_X7_copyFrom_9 dX7_copyFrom_13 ?_
  refine x_callNv (host := RX9) (As := [.ref (x_a g (20 * f + 7)), .ref (x_a g (20 * e + 7))]) hC h gX7_copyFrom_X9_copyRow_n36 rfl rfl rfl (by decide +kernel) (by decide +kernel) (by decide +kernel) hy_X9_copyRow.2 ⟨Nat.le_of_ble_eq_true rfl, Nat.le_of_ble_eq_true rfl⟩ rfl (Nat.le_of_ble_eq_true rfl) rfl dX7_copyFrom_16 (fun N1 h => ?_)
  refine x_aload_n (i := 1) (q := 1) hC dX7_copyFrom_19 rfl rfl ?_
  refine x_getr (k := 2) (r := (20 * f + 8)) hC (x_objE (j := 6) hf (by decide) rfl) rfl kf_X7_copyFrom_15 dX7_copyFrom_20 ?_
  refine x_aload_n (i := 0) (q := 0) hC dX7_copyFrom_23 rfl rfl ?_
  refine x_getr (k := 2) (r := (20 * e + 8)) hC (x_objE (j := 6) he (by decide) rfl) rfl kf_X7_copyFrom_15 dX7_copyFrom_24 ?_
  refine x_callNv (host := RX9) (As := [.ref (x_a g (20 * f + 8)), .ref (x_a g (20 * e + 8))]) hC h gX7_copyFrom_X9_copyRow_n36 rfl rfl rfl (by decide +kernel) (by decide +kernel) (by decide +kernel) hy_X9_copyRow.2 ⟨Nat.le_of_ble_eq_true rfl, Nat.le_of_ble_eq_true rfl⟩ rfl (Nat.le_of_ble_eq_true rfl) rfl dX7_copyFrom_27 (fun N2 h => ?_)
  refine x_aload_n (i := 1) (q := 1) hC dX7_copyFrom_30 rfl rfl ?_
  refine x_getr (k := 3) (r := (20 * f + 9)) hC (x_objE (j := 6) hf (by decide) rfl) rfl kf_X7_copyFrom_18 dX7_copyFrom_31 ?_
  refine x_aload_n (i := 0) (q := 0) hC dX7_copyFrom_34 rfl rfl ?_
  refine x_getr (k := 3) (r := (20 * e + 9)) hC (x_objE (j := 6) he (by decide) rfl) rfl kf_X7_copyFrom_18 dX7_copyFrom_35 ?_
  refine x_callNv (host := RX9) (As := [.ref (x_a g (20 * f + 9)), .ref (x_a g (20 * e + 9))]) hC h gX7_copyFrom_X9_copyRow_n36 rfl rfl rfl (by decide +kernel) (by decide +kernel) (by decide +kernel) hy_X9_copyRow.2 ⟨Nat.le_of_ble_eq_true rfl, Nat.le_of_ble_eq_true rfl⟩ rfl (Nat.le_of_ble_eq_true rfl) rfl dX7_copyFrom_38 (fun N3 h => ?_)
  refine x_aload_n (i := 1) (q := 1) hC dX7_copyFrom_41 rfl rfl ?_
  refine x_getr (k := 4) (r := (20 * f + 10)) hC (x_objE (j := 6) hf (by decide) rfl) rfl kf_X7_copyFrom_21 dX7_copyFrom_42 ?_
  refine x_aload_n (i := 0) (q := 0) hC dX7_copyFrom_45 rfl rfl ?_
  refine x_getr (k := 4) (r := (20 * e + 10)) hC (x_objE (j := 6) he (by decide) rfl) rfl kf_X7_copyFrom_21 dX7_copyFrom_46 ?_
  refine x_callNv (host := RX9) (As := [.ref (x_a g (20 * f + 10)), .ref (x_a g (20 * e + 10))]) hC h gX7_copyFrom_X9_copyRow_n36 rfl rfl rfl (by decide +kernel) (by decide +kernel) (by decide +kernel) hy_X9_copyRow.2 ⟨Nat.le_of_ble_eq_true rfl, Nat.le_of_ble_eq_true rfl⟩ rfl (Nat.le_of_ble_eq_true rfl) rfl dX7_copyFrom_49 (fun N4 h => ?_)
  exact x_vret hC hr dX7_copyFrom_52 h
theorem kf_X4_copyFrom_24 : x_okf wsX4_copyFrom RX4 24 4 0 = true := by decide +kernel
theorem kf_X4_copyFrom_9 : x_okf wsX4_copyFrom RX4 9 4 1 = true := by decide +kernel
theorem kf_X4_copyFrom_15 : x_okf wsX4_copyFrom RX4 15 4 2 = true := by decide +kernel
theorem kf_X4_copyFrom_18 : x_okf wsX4_copyFrom RX4 18 4 3 = true := by decide +kernel
theorem kf_X4_copyFrom_21 : x_okf wsX4_copyFrom RX4 21 4 4 = true := by decide +kernel
def vc_X4_copyFrom (g : xG) (e : Nat) (f : Nat) (M : xM) (P : xM → Prop) : Prop := (mi_X9_copyRow g (20 * f + 16) (20 * e + 16) (x_up M (20 * e + 15) 0 (M (20 * f + 15) 0)) (fun N1 => (mi_X9_copyRow g (20 * f + 17) (20 * e + 17) N1 (fun N2 => (mi_X9_copyRow g (20 * f + 18) (20 * e + 18) N2 (fun N3 => (mi_X9_copyRow g (20 * f + 19) (20 * e + 19) N3 (fun N4 => P N4))))))))
set_option maxRecDepth 100000 in
set_option maxHeartbeats 4000000 in
theorem wk_X4_copyFrom {g : xG} (e : Nat) (f : Nat) (he : e < 9) (hf : f < 9) (M : xM) (P : xM → Prop) (h0 : vc_X4_copyFrom g e f M P ) : mi_X4_copyFrom g e f M P := by
  refine x_startV (as := [.ref (x_a g (20 * e + 15)), .ref (x_a g (20 * f + 15))]) (cc := cX4_copyFrom) (n := 2) (ret := none) (own := RX4) (by decide) rfl rfl (Nat.le_of_ble_eq_true rfl) (fun x hC hr => ?_)
  have h := h0
  unfold vc_X4_copyFrom at h
  refine x_aload_n (i := 0) (q := 0) hC dX4_copyFrom_0 rfl rfl ?_
  refine x_aload_n (i := 1) (q := 1) hC dX4_copyFrom_1 rfl rfl ?_
  refine x_geti (k := 0) hC (x_objE (j := 15) hf (by decide) rfl) rfl kf_X4_copyFrom_24 dX4_copyFrom_2 ?_
  refine x_puti (k := 0) hC (x_objE (j := 15) he (by decide) rfl) rfl kf_X4_copyFrom_24 kp_4_0 dX4_copyFrom_5 ?_
  refine x_aload_n (i := 1) (q := 1) hC dX4_copyFrom_8 rfl rfl ?_
  refine x_getr (k := 1) (r := (20 * f + 16)) hC (x_objE (j := 15) hf (by decide) rfl) rfl kf_X4_copyFrom_9 dX4_copyFrom_9 ?_
  refine x_aload_n (i := 0) (q := 0) hC dX4_copyFrom_12 rfl rfl ?_
  refine x_getr (k := 1) (r := (20 * e + 16)) hC (x_objE (j := 15) he (by decide) rfl) rfl kf_X4_copyFrom_9 dX4_copyFrom_13 ?_
  refine x_callNv (host := RX9) (As := [.ref (x_a g (20 * f + 16)), .ref (x_a g (20 * e + 16))]) hC h gX4_copyFrom_X9_copyRow_n34 rfl rfl rfl (by decide +kernel) (by decide +kernel) (by decide +kernel) hy_X9_copyRow.2 ⟨Nat.le_of_ble_eq_true rfl, Nat.le_of_ble_eq_true rfl⟩ rfl (Nat.le_of_ble_eq_true rfl) rfl dX4_copyFrom_16 (fun N1 h => ?_)
  refine x_aload_n (i := 1) (q := 1) hC dX4_copyFrom_19 rfl rfl ?_
  refine x_getr (k := 2) (r := (20 * f + 17)) hC (x_objE (j := 15) hf (by decide) rfl) rfl kf_X4_copyFrom_15 dX4_copyFrom_20 ?_
  refine x_aload_n (i := 0) (q := 0) hC dX4_copyFrom_23 rfl rfl ?_
  refine x_getr (k := 2) (r := (20 * e + 17)) hC (x_objE (j := 15) he (by decide) rfl) rfl kf_X4_copyFrom_15 dX4_copyFrom_24 ?_
  refine x_callNv (host := RX9) (As := [.ref (x_a g (20 * f + 17)), .ref (x_a g (20 * e + 17))]) hC h gX4_copyFrom_X9_copyRow_n34 rfl rfl rfl (by decide +kernel) (by decide +kernel) (by decide +kernel) hy_X9_copyRow.2 ⟨Nat.le_of_ble_eq_true rfl, Nat.le_of_ble_eq_true rfl⟩ rfl (Nat.le_of_ble_eq_true rfl) rfl dX4_copyFrom_27 (fun N2 h => ?_)
  refine x_aload_n (i := 1) (q := 1) hC dX4_copyFrom_30 rfl rfl ?_
  refine x_getr (k := 3) (r := (20 * f + 18)) hC (x_objE (j := 15) hf (by decide) rfl) rfl kf_X4_copyFrom_18 dX4_copyFrom_31 ?_
  refine x_aload_n (i := 0) (q := 0) hC dX4_copyFrom_34 rfl rfl ?_
  refine x_getr (k := 3) (r := (20 * e + 18)) hC (x_objE (j := 15) he (by decide) rfl) rfl kf_X4_copyFrom_18 dX4_copyFrom_35 ?_
  refine x_callNv (host := RX9) (As := [.ref (x_a g (20 * f + 18)), .ref (x_a g (20 * e + 18))]) hC h gX4_copyFrom_X9_copyRow_n34 rfl rfl rfl (by decide +kernel) (by decide +kernel) (by decide +kernel) hy_X9_copyRow.2 ⟨Nat.le_of_ble_eq_true rfl, Nat.le_of_ble_eq_true rfl⟩ rfl (Nat.le_of_ble_eq_true rfl) rfl dX4_copyFrom_38 (fun N3 h => ?_)
  refine x_aload_n (i := 1) (q := 1) hC dX4_copyFrom_41 rfl rfl ?_
  refine x_getr (k := 4) (r := (20 * f + 19)) hC (x_objE (j := 15) hf (by decide) rfl) rfl kf_X4_copyFrom_21 dX4_copyFrom_42 ?_
  refine x_aload_n (i := 0) (q := 0) hC dX4_copyFrom_45 rfl rfl ?_
  refine x_getr (k := 4) (r := (20 * e + 19)) hC (x_objE (j := 15) he (by decide) rfl) rfl kf_X4_copyFrom_21 dX4_copyFrom_46 ?_
  refine x_callNv (host := RX9) (As := [.ref (x_a g (20 * f + 19)), .ref (x_a g (20 * e + 19))]) hC h gX4_copyFrom_X9_copyRow_n34 rfl rfl rfl (by decide +kernel) (by decide +kernel) (by decide +kernel) hy_X9_copyRow.2 ⟨Nat.le_of_ble_eq_true rfl, Nat.le_of_ble_eq_true rfl⟩ rfl (Nat.le_of_ble_eq_true rfl) rfl dX4_copyFrom_49 (fun N4 h => ?_)
  exact x_vret hC hr dX4_copyFrom_52 h
theorem kf_X6_setThere_32 : x_okf wsX6_setThere RX6 32 6 1 = true := by decide +kernel
def vc_X6_setThere (g : xG) (v1 : Int32) (v2 : Int32) (M : xM) (P : xM → Prop) : Prop := ((v2 = 0 → P (x_up M 1 1 ((M 1 1) &&& (((1 : Int32) <<< (v1 &&& 31)) ^^^ (-1 : Int32))))) ∧ (¬ (v2 = 0) → P (x_up M 1 1 ((M 1 1) ||| ((1 : Int32) <<< (v1 &&& 31))))))
set_option maxRecDepth 100000 in
set_option maxHeartbeats 4000000 in
theorem wk_X6_setThere {g : xG} (v1 : Int32) (v2 : Int32) (M : xM) (P : xM → Prop) (h0 : vc_X6_setThere g v1 v2 M P ) : mi_X6_setThere g v1 v2 M P := by
  refine x_startV (as := [.ref (x_a g 1), .int v1, .int v2]) (cc := cX6_setThere) (n := 4) (ret := none) (own := RX6) (by decide) rfl rfl (Nat.le_of_ble_eq_true rfl) (fun x hC hr => ?_)
  have h := h0
  unfold vc_X6_setThere at h
  refine x_iconst (v := 1) hC dX6_setThere_0 (by decide) ?_
  refine x_iload_n (i := 1) (q := 1) hC dX6_setThere_1 rfl rfl ?_
  refine x_ishl hC dX6_setThere_2 ?_
  refine x_istore_n (i := 3) (ls' := [(3, .int ((1 : Int32) <<< (v1 &&& 31))), (0, .ref (x_a g 1)), (1, .int v1), (2, .int v2)]) hC dX6_setThere_3 rfl (by decide) rfl ?_
  refine x_aload_n (i := 0) (q := 1) hC dX6_setThere_4 rfl rfl ?_
  refine x_iload_n (i := 2) (q := 3) hC dX6_setThere_5 rfl rfl ?_
  refine x_if_eq (t := 18) hC dX6_setThere_6 (by decide) (fun q => ?_) (fun q => ?_)
  · replace h := h.1 q
    refine x_aload_n (i := 0) (q := 1) hC dX6_setThere_18 rfl rfl ?_
    refine x_geti (k := 1) hC xo_1 rfl kf_X6_setThere_32 dX6_setThere_19 ?_
    refine x_iload_n (i := 3) (q := 0) hC dX6_setThere_22 rfl rfl ?_
    refine x_iconst (v := -1) hC dX6_setThere_23 (by decide) ?_
    refine x_ixor hC dX6_setThere_24 ?_
    refine x_iand hC dX6_setThere_25 ?_
    refine x_puti (k := 1) hC xo_1 rfl kf_X6_setThere_32 kp_6_1 dX6_setThere_26 ?_
    exact x_vret hC hr dX6_setThere_29 h
  · replace h := h.2 q
    refine x_aload_n (i := 0) (q := 1) hC dX6_setThere_9 rfl rfl ?_
    refine x_geti (k := 1) hC xo_1 rfl kf_X6_setThere_32 dX6_setThere_10 ?_
    refine x_iload_n (i := 3) (q := 0) hC dX6_setThere_13 rfl rfl ?_
    refine x_ior hC dX6_setThere_14 ?_
    refine x_goto (t := 26) hC dX6_setThere_15 (by decide) ?_
    refine x_puti (k := 1) hC xo_1 rfl kf_X6_setThere_32 kp_6_1 dX6_setThere_26 ?_
    exact x_vret hC hr dX6_setThere_29 h
theorem kf_X6_add_24 : x_okf wsX6_add RX6 24 6 0 = true := by decide +kernel
theorem kf_X6_add_9 : x_okf wsX6_add RX6 9 6 3 = true := by decide +kernel
theorem kf_X6_add_15 : x_okf wsX6_add RX6 15 6 4 = true := by decide +kernel
def vc_X6_add (g : xG) (v1 : Int32) (v2 : Int32) (M : xM) (P : Int32 → xM → Prop) : Prop := (vp_in (M 1 0) 12 ∧ (vp_in (M 1 0) 12 ∧ (mi_X6_setThere g (M 1 0) (1 : Int32) (x_up (x_up M 2 ((M 1 0)).toNatClampNeg v1) 3 ((M 1 0)).toNatClampNeg v2) (fun N1 => P (M 1 0) (x_up N1 1 0 ((N1 1 0) + (1 : Int32)))))))
set_option maxRecDepth 100000 in
set_option maxHeartbeats 4000000 in
theorem wk_X6_add {g : xG} (v1 : Int32) (v2 : Int32) (M : xM) (P : Int32 → xM → Prop) (h0 : vc_X6_add g v1 v2 M P ) : mi_X6_add g v1 v2 M P := by
  refine x_startI (as := [.ref (x_a g 1), .int v1, .int v2]) (cc := cX6_add) (n := 4) (ret := (some .int)) (own := RX6) (by decide) rfl rfl (Nat.le_of_ble_eq_true rfl) (fun x hC hr => ?_)
  have h := h0
  unfold vc_X6_add at h
  refine x_aload_n (i := 0) (q := 0) hC dX6_add_0 rfl rfl ?_
  refine x_geti (k := 0) hC xo_1 rfl kf_X6_add_24 dX6_add_1 ?_
  refine x_istore_n (i := 3) (ls' := [(3, .int (M 1 0)), (0, .ref (x_a g 1)), (1, .int v1), (2, .int v2)]) hC dX6_add_4 rfl (by decide) rfl ?_
  refine x_aload_n (i := 0) (q := 1) hC dX6_add_5 rfl rfl ?_
  refine x_getr (k := 3) (r := 2) hC xo_1 rfl kf_X6_add_9 dX6_add_6 ?_
  refine x_iload_n (i := 3) (q := 0) hC dX6_add_9 rfl rfl ?_
  refine x_iload_n (i := 1) (q := 2) hC dX6_add_10 rfl rfl ?_
  refine x_iast (len := 12) hC xa_2 h.1 dX6_add_11 ?_
  replace h := h.2
  refine x_aload_n (i := 0) (q := 1) hC dX6_add_12 rfl rfl ?_
  refine x_getr (k := 4) (r := 3) hC xo_1 rfl kf_X6_add_15 dX6_add_13 ?_
  refine x_iload_n (i := 3) (q := 0) hC dX6_add_16 rfl rfl ?_
  refine x_iload_n (i := 2) (q := 3) hC dX6_add_17 rfl rfl ?_
  refine x_iast (len := 12) hC xa_3 h.1 dX6_add_18 ?_
  replace h := h.2
  refine x_aload_n (i := 0) (q := 1) hC dX6_add_19 rfl rfl ?_
  refine x_iload_n (i := 3) (q := 0) hC dX6_add_20 rfl rfl ?_
  refine x_iconst (v := 1) hC dX6_add_21 (by decide) ?_
  refine x_callVv (q := (RX6, TX6, 7)) (As := [.int (M 1 0), .int (1 : Int32)]) hC xo_1 rfl h gX6_add_X6_setThere rfl rfl rfl hy_X6_setThere ⟨Nat.le_of_ble_eq_true rfl, Nat.le_of_ble_eq_true rfl⟩ rfl (Nat.le_of_ble_eq_true rfl) rfl dX6_add_22 (fun N1 h => ?_)
  refine x_aload_n (i := 0) (q := 1) hC dX6_add_25 rfl rfl ?_
  refine x_dup hC dX6_add_26 rfl ?_
  refine x_geti (k := 0) hC xo_1 rfl kf_X6_add_24 dX6_add_27 ?_
  refine x_iconst (v := 1) hC dX6_add_30 (by decide) ?_
  refine x_iadd hC dX6_add_31 ?_
  refine x_puti (k := 0) hC xo_1 rfl kf_X6_add_24 kp_6_0 dX6_add_32 ?_
  refine x_iload_n (i := 3) (q := 0) hC dX6_add_35 rfl rfl ?_
  exact x_iret hC hr dX6_add_36 h
theorem kf_X7_add_24 : x_okf wsX7_add RX7 24 7 0 = true := by decide +kernel
theorem kf_X7_add_9 : x_okf wsX7_add RX7 9 7 1 = true := by decide +kernel
theorem kf_X7_add_15 : x_okf wsX7_add RX7 15 7 2 = true := by decide +kernel
theorem kf_X7_add_18 : x_okf wsX7_add RX7 18 7 3 = true := by decide +kernel
def vc_X7_add (g : xG) (v1 : Int32) (v2 : Int32) (v3 : Int32) (M : xM) (P : Int32 → xM → Prop) : Prop := (vp_in (M 6 0) 16 ∧ (vp_in (M 6 0) 16 ∧ (vp_in (M 6 0) 16 ∧ (∀ N1 : xM, N1 = (x_up (x_up (x_up (x_up M 7 ((M 6 0)).toNatClampNeg v1) 8 ((M 6 0)).toNatClampNeg v2) 9 ((M 6 0)).toNatClampNeg v3) 6 0 (((x_up (x_up (x_up M 7 ((M 6 0)).toNatClampNeg v1) 8 ((M 6 0)).toNatClampNeg v2) 9 ((M 6 0)).toNatClampNeg v3) 6 0) + (1 : Int32))) → P (M 6 0) N1))))
set_option maxRecDepth 100000 in
set_option maxHeartbeats 4000000 in
theorem wk_X7_add {g : xG} (v1 : Int32) (v2 : Int32) (v3 : Int32) (M : xM) (P : Int32 → xM → Prop) (h0 : vc_X7_add g v1 v2 v3 M P ) : mi_X7_add g v1 v2 v3 M P := by
  refine x_startI (as := [.ref (x_a g 6), .int v1, .int v2, .int v3]) (cc := cX7_add) (n := 5) (ret := (some .int)) (own := RX7) (by decide) rfl rfl (Nat.le_of_ble_eq_true rfl) (fun x hC hr => ?_)
  have h := h0
  unfold vc_X7_add at h
  refine x_aload_n (i := 0) (q := 0) hC dX7_add_0 rfl rfl ?_
  refine x_geti (k := 0) hC xo_6 rfl kf_X7_add_24 dX7_add_1 ?_
  refine x_istore (ls' := [(4, .int (M 6 0)), (0, .ref (x_a g 6)), (1, .int v1), (2, .int v2), (3, .int v3)]) hC dX7_add_4 (by decide) rfl ?_
  refine x_aload_n (i := 0) (q := 1) hC dX7_add_6 rfl rfl ?_
  refine x_getr (k := 1) (r := 7) hC xo_6 rfl kf_X7_add_9 dX7_add_7 ?_
  refine x_iload (q := 0) hC dX7_add_10 rfl ?_
  refine x_iload_n (i := 1) (q := 2) hC dX7_add_12 rfl rfl ?_
  refine x_iast (len := 16) hC xa_7 h.1 dX7_add_13 ?_
  replace h := h.2
  refine x_aload_n (i := 0) (q := 1) hC dX7_add_14 rfl rfl ?_
  refine x_getr (k := 2) (r := 8) hC xo_6 rfl kf_X7_add_15 dX7_add_15 ?_
  refine x_iload (q := 0) hC dX7_add_18 rfl ?_
  refine x_iload_n (i := 2) (q := 3) hC dX7_add_20 rfl rfl ?_
  refine x_iast (len := 16) hC xa_8 h.1 dX7_add_21 ?_
  replace h := h.2
  refine x_aload_n (i := 0) (q := 1) hC dX7_add_22 rfl rfl ?_
  refine x_getr (k := 3) (r := 9) hC xo_6 rfl kf_X7_add_18 dX7_add_23 ?_
  refine x_iload (q := 0) hC dX7_add_26 rfl ?_
  refine x_iload_n (i := 3) (q := 4) hC dX7_add_28 rfl rfl ?_
  refine x_iast (len := 16) hC xa_9 h.1 dX7_add_29 ?_
  replace h := h.2
  refine x_aload_n (i := 0) (q := 1) hC dX7_add_30 rfl rfl ?_
  refine x_dup hC dX7_add_31 rfl ?_
  refine x_geti (k := 0) hC xo_6 rfl kf_X7_add_24 dX7_add_32 ?_
  refine x_iconst (v := 1) hC dX7_add_35 (by decide) ?_
  refine x_iadd hC dX7_add_36 ?_
  refine x_puti (k := 0) hC xo_6 rfl kf_X7_add_24 kp_7_0 dX7_add_37 ?_
  refine x_topM (fun N1 qN1 => ?_)
  replace h := h N1 qN1
  refine x_iload (q := 0) hC dX7_add_40 rfl ?_
  exact x_iret hC hr dX7_add_42 h
theorem kf_X6_has_24 : x_okf wsX6_has RX6 24 6 0 = true := by decide +kernel
def vc_X6_has (g : xG) (v1 : Int32) (M : xM) (P : Int32 → xM → Prop) : Prop := (mi_X9_isBetween g v1 (0 : Int32) ((M 1 0) - (1 : Int32)) M (fun r1 N2 => (narrow .boolean (.int r1) = .int r1 ∧ P r1 N2)))
set_option maxRecDepth 100000 in
set_option maxHeartbeats 4000000 in
theorem wk_X6_has {g : xG} (v1 : Int32) (M : xM) (P : Int32 → xM → Prop) (h0 : vc_X6_has g v1 M P ) : mi_X6_has g v1 M P := by
  refine x_startI (as := [.ref (x_a g 1), .int v1]) (cc := cX6_has) (n := 2) (ret := (some .boolean)) (own := RX6) (by decide) rfl rfl (Nat.le_of_ble_eq_true rfl) (fun x hC hr => ?_)
  have h := h0
  unfold vc_X6_has at h
  refine x_iload_n (i := 1) (q := 1) hC dX6_has_0 rfl rfl ?_
  refine x_iconst (v := 0) hC dX6_has_1 (by decide) ?_
  refine x_aload_n (i := 0) (q := 0) hC dX6_has_2 rfl rfl ?_
  refine x_geti (k := 0) hC xo_1 rfl kf_X6_has_24 dX6_has_3 ?_
  refine x_iconst (v := 1) hC dX6_has_6 (by decide) ?_
  refine x_isub hC dX6_has_7 ?_
  refine x_callNi (host := RX9) (As := [.int v1, .int (0 : Int32), .int ((M 1 0) - (1 : Int32))]) hC h gX6_has_X9_isBetween_n28 rfl rfl rfl (by decide +kernel) (by decide +kernel) (by decide +kernel) hy_X9_isBetween.2 ⟨Nat.le_of_ble_eq_true rfl, Nat.le_of_ble_eq_true rfl⟩ rfl (Nat.le_of_ble_eq_true rfl) rfl dX6_has_8 (fun r1 N2 h => ?_)
  exact x_zret hC hr dX6_has_11 h.1 h.2
theorem kf_X6_isThere_32 : x_okf wsX6_isThere RX6 32 6 1 = true := by decide +kernel
def vc_X6_isThere (g : xG) (v1 : Int32) (M : xM) (P : Int32 → xM → Prop) : Prop := (mi_X9_isIn g (M 1 1) v1 M (fun r1 N2 => (narrow .boolean (.int r1) = .int r1 ∧ P r1 N2)))
set_option maxRecDepth 100000 in
set_option maxHeartbeats 4000000 in
theorem wk_X6_isThere {g : xG} (v1 : Int32) (M : xM) (P : Int32 → xM → Prop) (h0 : vc_X6_isThere g v1 M P ) : mi_X6_isThere g v1 M P := by
  refine x_startI (as := [.ref (x_a g 1), .int v1]) (cc := cX6_isThere) (n := 2) (ret := (some .boolean)) (own := RX6) (by decide) rfl rfl (Nat.le_of_ble_eq_true rfl) (fun x hC hr => ?_)
  have h := h0
  unfold vc_X6_isThere at h
  refine x_aload_n (i := 0) (q := 0) hC dX6_isThere_0 rfl rfl ?_
  refine x_geti (k := 1) hC xo_1 rfl kf_X6_isThere_32 dX6_isThere_1 ?_
  refine x_iload_n (i := 1) (q := 1) hC dX6_isThere_4 rfl rfl ?_
  refine x_callNi (host := RX9) (As := [.int (M 1 1), .int v1]) hC h gX6_isThere_X9_isIn_n35 rfl rfl rfl (by decide +kernel) (by decide +kernel) (by decide +kernel) hy_X9_isIn.2 ⟨Nat.le_of_ble_eq_true rfl, Nat.le_of_ble_eq_true rfl⟩ rfl (Nat.le_of_ble_eq_true rfl) rfl dX6_isThere_5 (fun r1 N2 h => ?_)
  exact x_zret hC hr dX6_isThere_8 h.1 h.2
def vc_J6_bitCount_0f7a4 (g : xG) (v0 : Int32) (M : xM) (P : Int32 → xM → Prop) : Prop := (∀ y1 : Int32, y1 = (v0 - (((v0).toUInt32 >>> (((1 : Int32)).toUInt32 &&& Int32.toUInt32 31)).toInt32 &&& (1431655765 : Int32))) → (∀ y2 : Int32, y2 = ((y1 &&& (858993459 : Int32)) + (((y1).toUInt32 >>> (((2 : Int32)).toUInt32 &&& Int32.toUInt32 31)).toInt32 &&& (858993459 : Int32))) → (∀ y3 : Int32, y3 = ((y2 + ((y2).toUInt32 >>> (((4 : Int32)).toUInt32 &&& Int32.toUInt32 31)).toInt32) &&& (252645135 : Int32)) → (∀ y4 : Int32, y4 = (y3 + ((y3).toUInt32 >>> (((8 : Int32)).toUInt32 &&& Int32.toUInt32 31)).toInt32) → (∀ y5 : Int32, y5 = (y4 + ((y4).toUInt32 >>> (((16 : Int32)).toUInt32 &&& Int32.toUInt32 31)).toInt32) → P (y5 &&& (63 : Int32)) M)))))
set_option maxRecDepth 100000 in
set_option maxHeartbeats 4000000 in
theorem wk_J6_bitCount_0f7a4 {g : xG} (v0 : Int32) (M : xM) (P : Int32 → xM → Prop) (h0 : vc_J6_bitCount_0f7a4 g v0 M P ) : mi_J6_bitCount_0f7a4 g v0 M P := by
  refine x_startI (as := [.int v0]) (cc := cJ6_bitCount_0f7a4) (n := 1) (ret := (some .int)) (own := RJ6) (by decide) rfl rfl (Nat.le_of_ble_eq_true rfl) (fun x hC hr => ?_)
  have h := h0
  unfold vc_J6_bitCount_0f7a4 at h
  refine x_iload_n (i := 0) (q := 0) hC dJ6_bitCount_0f7a4_0 rfl rfl ?_
  refine x_iload_n (i := 0) (q := 0) hC dJ6_bitCount_0f7a4_1 rfl rfl ?_
  refine x_iconst (v := 1) hC dJ6_bitCount_0f7a4_2 (by decide) ?_
  refine x_iushr hC dJ6_bitCount_0f7a4_3 ?_
  refine x_ldcw (i := 265) (v := 1431655765) hC (by decide +kernel) dJ6_bitCount_0f7a4_4 ?_
  refine x_iand hC dJ6_bitCount_0f7a4_7 ?_
  refine x_isub hC dJ6_bitCount_0f7a4_8 ?_
  refine x_topi (fun y1 qy1 => ?_)
  replace h := h y1 qy1
  refine x_istore_n (i := 0) (ls' := [(0, .int y1)]) hC dJ6_bitCount_0f7a4_9 rfl (by decide) rfl ?_
  refine x_iload_n (i := 0) (q := 0) hC dJ6_bitCount_0f7a4_10 rfl rfl ?_
  refine x_ldcw (i := 266) (v := 858993459) hC (by decide +kernel) dJ6_bitCount_0f7a4_11 ?_
  refine x_iand hC dJ6_bitCount_0f7a4_14 ?_
  refine x_iload_n (i := 0) (q := 0) hC dJ6_bitCount_0f7a4_15 rfl rfl ?_
  refine x_iconst (v := 2) hC dJ6_bitCount_0f7a4_16 (by decide) ?_
  refine x_iushr hC dJ6_bitCount_0f7a4_17 ?_
  refine x_ldcw (i := 266) (v := 858993459) hC (by decide +kernel) dJ6_bitCount_0f7a4_18 ?_
  refine x_iand hC dJ6_bitCount_0f7a4_21 ?_
  refine x_iadd hC dJ6_bitCount_0f7a4_22 ?_
  refine x_topi (fun y2 qy2 => ?_)
  replace h := h y2 qy2
  refine x_istore_n (i := 0) (ls' := [(0, .int y2)]) hC dJ6_bitCount_0f7a4_23 rfl (by decide) rfl ?_
  refine x_iload_n (i := 0) (q := 0) hC dJ6_bitCount_0f7a4_24 rfl rfl ?_
  refine x_iload_n (i := 0) (q := 0) hC dJ6_bitCount_0f7a4_25 rfl rfl ?_
  refine x_iconst (v := 4) hC dJ6_bitCount_0f7a4_26 (by decide) ?_
  refine x_iushr hC dJ6_bitCount_0f7a4_27 ?_
  refine x_iadd hC dJ6_bitCount_0f7a4_28 ?_
  refine x_ldcw (i := 267) (v := 252645135) hC (by decide +kernel) dJ6_bitCount_0f7a4_29 ?_
  refine x_iand hC dJ6_bitCount_0f7a4_32 ?_
  refine x_topi (fun y3 qy3 => ?_)
  replace h := h y3 qy3
  refine x_istore_n (i := 0) (ls' := [(0, .int y3)]) hC dJ6_bitCount_0f7a4_33 rfl (by decide) rfl ?_
  refine x_iload_n (i := 0) (q := 0) hC dJ6_bitCount_0f7a4_34 rfl rfl ?_
  refine x_iload_n (i := 0) (q := 0) hC dJ6_bitCount_0f7a4_35 rfl rfl ?_
  refine x_bipush (v := 8) hC dJ6_bitCount_0f7a4_36 (by decide) ?_
  refine x_iushr hC dJ6_bitCount_0f7a4_38 ?_
  refine x_iadd hC dJ6_bitCount_0f7a4_39 ?_
  refine x_topi (fun y4 qy4 => ?_)
  replace h := h y4 qy4
  refine x_istore_n (i := 0) (ls' := [(0, .int y4)]) hC dJ6_bitCount_0f7a4_40 rfl (by decide) rfl ?_
  refine x_iload_n (i := 0) (q := 0) hC dJ6_bitCount_0f7a4_41 rfl rfl ?_
  refine x_iload_n (i := 0) (q := 0) hC dJ6_bitCount_0f7a4_42 rfl rfl ?_
  refine x_bipush (v := 16) hC dJ6_bitCount_0f7a4_43 (by decide) ?_
  refine x_iushr hC dJ6_bitCount_0f7a4_45 ?_
  refine x_iadd hC dJ6_bitCount_0f7a4_46 ?_
  refine x_topi (fun y5 qy5 => ?_)
  replace h := h y5 qy5
  refine x_istore_n (i := 0) (ls' := [(0, .int y5)]) hC dJ6_bitCount_0f7a4_47 rfl (by decide) rfl ?_
  refine x_iload_n (i := 0) (q := 0) hC dJ6_bitCount_0f7a4_48 rfl rfl ?_
  refine x_bipush (v := 63) hC dJ6_bitCount_0f7a4_49 (by decide) ?_
  refine x_iand hC dJ6_bitCount_0f7a4_51 ?_
  exact x_iret hC hr dJ6_bitCount_0f7a4_52 h
theorem kf_X7_has_24 : x_okf wsX7_has RX7 24 7 0 = true := by decide +kernel
def vc_X7_has (g : xG) (v1 : Int32) (M : xM) (P : Int32 → xM → Prop) : Prop := (mi_X9_isBetween g v1 (0 : Int32) ((M 6 0) - (1 : Int32)) M (fun r1 N2 => (narrow .boolean (.int r1) = .int r1 ∧ P r1 N2)))
set_option maxRecDepth 100000 in
set_option maxHeartbeats 4000000 in
theorem wk_X7_has {g : xG} (v1 : Int32) (M : xM) (P : Int32 → xM → Prop) (h0 : vc_X7_has g v1 M P ) : mi_X7_has g v1 M P := by
  refine x_startI (as := [.ref (x_a g 6), .int v1]) (cc := cX7_has) (n := 2) (ret := (some .boolean)) (own := RX7) (by decide) rfl rfl (Nat.le_of_ble_eq_true rfl) (fun x hC hr => ?_)
  have h := h0
  unfold vc_X7_has at h
  refine x_iload_n (i := 1) (q := 1) hC dX7_has_0 rfl rfl ?_
  refine x_iconst (v := 0) hC dX7_has_1 (by decide) ?_
  refine x_aload_n (i := 0) (q := 0) hC dX7_has_2 rfl rfl ?_
  refine x_geti (k := 0) hC xo_6 rfl kf_X7_has_24 dX7_has_3 ?_
  refine x_iconst (v := 1) hC dX7_has_6 (by decide) ?_
  refine x_isub hC dX7_has_7 ?_
  refine x_callNi (host := RX9) (As := [.int v1, .int (0 : Int32), .int ((M 6 0) - (1 : Int32))]) hC h gX7_has_X9_isBetween_n28 rfl rfl rfl (by decide +kernel) (by decide +kernel) (by decide +kernel) hy_X9_isBetween.2 ⟨Nat.le_of_ble_eq_true rfl, Nat.le_of_ble_eq_true rfl⟩ rfl (Nat.le_of_ble_eq_true rfl) rfl dX7_has_8 (fun r1 N2 h => ?_)
  exact x_zret hC hr dX7_has_11 h.1 h.2
theorem kf_X7_fits_9 : x_okf wsX7_fits RX7 9 7 1 = true := by decide +kernel
theorem kf_X7_fits_15 : x_okf wsX7_fits RX7 15 7 2 = true := by decide +kernel
def vc_X7_fits (g : xG) (v1 : Int32) (v2 : Int32) (v3 : Int32) (v4 : Int32) (M : xM) (P : Int32 → xM → Prop) : Prop := (vp_in v3 16 ∧ ((((M 7 (v3).toNatClampNeg) + v4) < v1 → P (0 : Int32) M) ∧ (¬ (((M 7 (v3).toNatClampNeg) + v4) < v1) → (vp_in v3 16 ∧ ((v2 < ((M 8 (v3).toNatClampNeg) + v4) → P (0 : Int32) M) ∧ (¬ (v2 < ((M 8 (v3).toNatClampNeg) + v4)) → P (1 : Int32) M))))))
set_option maxRecDepth 100000 in
set_option maxHeartbeats 4000000 in
theorem wk_X7_fits {g : xG} (v1 : Int32) (v2 : Int32) (v3 : Int32) (v4 : Int32) (M : xM) (P : Int32 → xM → Prop) (h0 : vc_X7_fits g v1 v2 v3 v4 M P ) : mi_X7_fits g v1 v2 v3 v4 M P := by
  refine x_startI (as := [.ref (x_a g 6), .int v1, .int v2, .int v3, .int v4]) (cc := cX7_fits) (n := 5) (ret := (some .boolean)) (own := RX7) (by decide) rfl rfl (Nat.le_of_ble_eq_true rfl) (fun x hC hr => ?_)
  have h := h0
  unfold vc_X7_fits at h
  refine x_aload_n (i := 0) (q := 0) hC dX7_fits_0 rfl rfl ?_
  refine x_getr (k := 1) (r := 7) hC xo_6 rfl kf_X7_fits_9 dX7_fits_1 ?_
  refine x_iload_n (i := 3) (q := 3) hC dX7_fits_4 rfl rfl ?_
  refine x_iald (len := 16) hC xa_7 h.1 dX7_fits_5 ?_
  replace h := h.2
  refine x_iload (q := 4) hC dX7_fits_6 rfl ?_
  refine x_iadd hC dX7_fits_8 ?_
  refine x_iload_n (i := 1) (q := 1) hC dX7_fits_9 rfl rfl ?_
  refine x_icmp_lt (t := 30) hC dX7_fits_10 (by decide) (fun q => ?_) (fun q => ?_)
  · replace h := h.1 q
    refine x_iconst (v := 0) hC dX7_fits_30 (by decide) ?_
    exact x_zret hC hr dX7_fits_31 rfl h
  · replace h := h.2 q
    refine x_aload_n (i := 0) (q := 0) hC dX7_fits_13 rfl rfl ?_
    refine x_getr (k := 2) (r := 8) hC xo_6 rfl kf_X7_fits_15 dX7_fits_14 ?_
    refine x_iload_n (i := 3) (q := 3) hC dX7_fits_17 rfl rfl ?_
    refine x_iald (len := 16) hC xa_8 h.1 dX7_fits_18 ?_
    replace h := h.2
    refine x_iload (q := 4) hC dX7_fits_19 rfl ?_
    refine x_iadd hC dX7_fits_21 ?_
    refine x_iload_n (i := 2) (q := 2) hC dX7_fits_22 rfl rfl ?_
    refine x_icmp_gt (t := 30) hC dX7_fits_23 (by decide) (fun q => ?_) (fun q => ?_)
    · replace h := h.1 q
      refine x_iconst (v := 0) hC dX7_fits_30 (by decide) ?_
      exact x_zret hC hr dX7_fits_31 rfl h
    · replace h := h.2 q
      refine x_iconst (v := 1) hC dX7_fits_26 (by decide) ?_
      refine x_goto (t := 31) hC dX7_fits_27 (by decide) ?_
      exact x_zret hC hr dX7_fits_31 rfl h
def vc_X7_keyAndTenBetween (g : xG) (v1 : Int32) (v2 : Int32) (v3 : Int32) (M : xM) (P : Int32 → xM → Prop) (K1 : Int32 → Int32 → Int32 → Int32 → xM → Prop) : Prop := K1 v1 v2 v3 (0 : Int32) M
def vc_X7_keyAndTenBetween_1 (g : xG) (v1 : Int32) (v2 : Int32) (v3 : Int32) (v4 : Int32) (M : xM) (P : Int32 → xM → Prop) (K1 : Int32 → Int32 → Int32 → Int32 → xM → Prop) : Prop := (((6 : Int32) < v4 → P (-6 : Int32) M) ∧ (¬ ((6 : Int32) < v4) → (mi_X7_fits g v1 v2 v3 v4 M (fun r1 N2 => ((r1 = 0 → (mi_X7_fits g v1 v2 v3 (-v4) N2 (fun r3 N4 => ((r3 = 0 → K1 v1 v2 v3 (v4 + (1 : Int32)) N4) ∧ (¬ (r3 = 0) → P ((10 : Int32) - v4) N4))))) ∧ (¬ (r1 = 0) → P ((10 : Int32) + v4) N2))))))
set_option maxRecDepth 100000 in
set_option maxHeartbeats 4000000 in
theorem wk_X7_keyAndTenBetween {g : xG} (v1 : Int32) (v2 : Int32) (v3 : Int32) (M : xM) (P : Int32 → xM → Prop) (I1 : Nat → Int32 → Int32 → Int32 → Int32 → xM → Prop) (h0 : vc_X7_keyAndTenBetween g v1 v2 v3 M P (fun v1 v2 v3 v4 N => ∃ k, I1 k v1 v2 v3 v4 N)) (h1 : ∀ (n : Nat) (v1 : Int32) (v2 : Int32) (v3 : Int32) (v4 : Int32) (N : xM), I1 n v1 v2 v3 v4 N → vc_X7_keyAndTenBetween_1 g v1 v2 v3 v4 N P (fun v1 v2 v3 v4 N => ∃ k, k < n ∧ I1 k v1 v2 v3 v4 N)) : mi_X7_keyAndTenBetween g v1 v2 v3 M P := by
  refine x_startI (as := [.ref (x_a g 6), .int v1, .int v2, .int v3]) (cc := cX7_keyAndTenBetween) (n := 5) (ret := (some .int)) (own := RX7) (by decide) rfl rfl (Nat.le_of_ble_eq_true rfl) (fun x hC hr => ?_)
  have L : ∀ n : Nat, (∀ (v1 : Int32) (v2 : Int32) (v3 : Int32) (v4 : Int32) (N : xM), I1 n v1 v2 v3 v4 N → x_W x g 5 (x_Qi x g P) N 3 [(0, .ref (x_a g 6)), (1, .int v1), (2, .int v2), (3, .int v3), (4, .int v4)] []) := by
    intro n
    induction n using Nat.strongRecOn with
    | ind n ih =>
      intro v1 v2 v3 v4 M hI
      have h := h1 n v1 v2 v3 v4 M hI
      unfold vc_X7_keyAndTenBetween_1 at h
      refine x_iload (q := 4) hC dX7_keyAndTenBetween_3 rfl ?_
      refine x_bipush (v := 6) hC dX7_keyAndTenBetween_5 (by decide) ?_
      refine x_icmp_gt (t := 53) hC dX7_keyAndTenBetween_7 (by decide) (fun q => ?_) (fun q => ?_)
      · replace h := h.1 q
        refine x_bipush (v := -6) hC dX7_keyAndTenBetween_53 (by decide) ?_
        exact x_iret hC hr dX7_keyAndTenBetween_55 h
      · replace h := h.2 q
        refine x_aload_n (i := 0) (q := 0) hC dX7_keyAndTenBetween_10 rfl rfl ?_
        refine x_iload_n (i := 1) (q := 1) hC dX7_keyAndTenBetween_11 rfl rfl ?_
        refine x_iload_n (i := 2) (q := 2) hC dX7_keyAndTenBetween_12 rfl rfl ?_
        refine x_iload_n (i := 3) (q := 3) hC dX7_keyAndTenBetween_13 rfl rfl ?_
        refine x_iload (q := 4) hC dX7_keyAndTenBetween_14 rfl ?_
        refine x_callVi (q := (RX7, TX7, 5)) (As := [.int v1, .int v2, .int v3, .int v4]) hC xo_6 rfl h gX7_keyAndTenBetween_X7_fits rfl rfl rfl hy_X7_fits ⟨Nat.le_of_ble_eq_true rfl, Nat.le_of_ble_eq_true rfl⟩ rfl (Nat.le_of_ble_eq_true rfl) rfl dX7_keyAndTenBetween_16 (fun r1 N2 h => ?_)
        refine x_if_eq (t := 28) hC dX7_keyAndTenBetween_19 (by decide) (fun q => ?_) (fun q => ?_)
        · replace h := h.1 q
          refine x_aload_n (i := 0) (q := 0) hC dX7_keyAndTenBetween_28 rfl rfl ?_
          refine x_iload_n (i := 1) (q := 1) hC dX7_keyAndTenBetween_29 rfl rfl ?_
          refine x_iload_n (i := 2) (q := 2) hC dX7_keyAndTenBetween_30 rfl rfl ?_
          refine x_iload_n (i := 3) (q := 3) hC dX7_keyAndTenBetween_31 rfl rfl ?_
          refine x_iload (q := 4) hC dX7_keyAndTenBetween_32 rfl ?_
          refine x_ineg hC dX7_keyAndTenBetween_34 ?_
          refine x_callVi (q := (RX7, TX7, 5)) (As := [.int v1, .int v2, .int v3, .int (-v4)]) hC xo_6 rfl h gX7_keyAndTenBetween_X7_fits rfl rfl rfl hy_X7_fits ⟨Nat.le_of_ble_eq_true rfl, Nat.le_of_ble_eq_true rfl⟩ rfl (Nat.le_of_ble_eq_true rfl) rfl dX7_keyAndTenBetween_35 (fun r3 N4 h => ?_)
          refine x_if_eq (t := 47) hC dX7_keyAndTenBetween_38 (by decide) (fun q => ?_) (fun q => ?_)
          · replace h := h.1 q
            refine x_iinc (k := 4) (v' := (v4 + (1 : Int32))) (ls' := [(4, .int (v4 + (1 : Int32))), (0, .ref (x_a g 6)), (1, .int v1), (2, .int v2), (3, .int v3)]) hC dX7_keyAndTenBetween_47 rfl rfl (by decide) rfl ?_
            refine x_goto (t := 3) hC dX7_keyAndTenBetween_50 (by decide) ?_
            obtain ⟨n_1, hn, h⟩ := h
            exact x_sub [1, 2, 3, 4, 0] rfl ((ih n_1 hn) _ _ _ _ _ h)
          · replace h := h.2 q
            refine x_bipush (v := 10) hC dX7_keyAndTenBetween_41 (by decide) ?_
            refine x_iload (q := 4) hC dX7_keyAndTenBetween_43 rfl ?_
            refine x_isub hC dX7_keyAndTenBetween_45 ?_
            exact x_iret hC hr dX7_keyAndTenBetween_46 h
        · replace h := h.2 q
          refine x_bipush (v := 10) hC dX7_keyAndTenBetween_22 (by decide) ?_
          refine x_iload (q := 4) hC dX7_keyAndTenBetween_24 rfl ?_
          refine x_iadd hC dX7_keyAndTenBetween_26 ?_
          exact x_iret hC hr dX7_keyAndTenBetween_27 h
  have h := h0
  unfold vc_X7_keyAndTenBetween at h
  refine x_iconst (v := 0) hC dX7_keyAndTenBetween_0 (by decide) ?_
  refine x_istore (ls' := [(4, .int (0 : Int32)), (0, .ref (x_a g 6)), (1, .int v1), (2, .int v2), (3, .int v3)]) hC dX7_keyAndTenBetween_1 (by decide) rfl ?_
  obtain ⟨n_1, h⟩ := h
  exact x_sub [1, 2, 3, 4, 0] rfl ((L n_1) _ _ _ _ _ h)
theorem kf_X4_remember_24 : x_okf wsX4_remember RX4 24 4 0 = true := by decide +kernel
theorem kf_X4_remember_9 : x_okf wsX4_remember RX4 9 4 1 = true := by decide +kernel
theorem kf_X4_remember_15 : x_okf wsX4_remember RX4 15 4 2 = true := by decide +kernel
theorem kf_X4_remember_18 : x_okf wsX4_remember RX4 18 4 3 = true := by decide +kernel
theorem kf_X4_remember_21 : x_okf wsX4_remember RX4 21 4 4 = true := by decide +kernel
def vc_X4_remember (g : xG) (v1 : Int32) (v2 : Int32) (v3 : Int32) (v4 : Int32) (M : xM) (P : xM → Prop) (K1 : Int32 → Int32 → Int32 → Int32 → Int32 → xM → Prop) : Prop := (∀ y1 : Int32, y1 = (((x_up M 15 0 (if (12 : Int32) < ((M 15 0) + (1 : Int32)) then (12 : Int32) else ((M 15 0) + (1 : Int32)))) 15 0) - (1 : Int32)) → K1 v1 v2 v3 v4 y1 (x_up M 15 0 (if (12 : Int32) < ((M 15 0) + (1 : Int32)) then (12 : Int32) else ((M 15 0) + (1 : Int32)))))
def vc_X4_remember_1 (g : xG) (v1 : Int32) (v2 : Int32) (v3 : Int32) (v4 : Int32) (v5 : Int32) (M : xM) (P : xM → Prop) (K1 : Int32 → Int32 → Int32 → Int32 → Int32 → xM → Prop) : Prop := ((v5 ≤ 0 → (vp_in (0 : Int32) 12 ∧ (vp_in (0 : Int32) 12 ∧ (vp_in (0 : Int32) 12 ∧ (∀ N2 : xM, N2 = (x_up (x_up (x_up M 16 ((0 : Int32)).toNatClampNeg v1) 17 ((0 : Int32)).toNatClampNeg v2) 18 ((0 : Int32)).toNatClampNeg v3) → (vp_in (0 : Int32) 12 ∧ P (x_up N2 19 ((0 : Int32)).toNatClampNeg v4))))))) ∧ (¬ (v5 ≤ 0) → (vp_in (v5 - (1 : Int32)) 12 ∧ (vp_in v5 12 ∧ (vp_in (v5 - (1 : Int32)) 12 ∧ (vp_in v5 12 ∧ (∀ N3 : xM, N3 = (x_up (x_up M 16 (v5).toNatClampNeg (M 16 ((v5 - (1 : Int32))).toNatClampNeg)) 17 (v5).toNatClampNeg ((x_up M 16 (v5).toNatClampNeg (M 16 ((v5 - (1 : Int32))).toNatClampNeg)) 17 ((v5 - (1 : Int32))).toNatClampNeg)) → (vp_in (v5 - (1 : Int32)) 12 ∧ (vp_in v5 12 ∧ (vp_in (v5 - (1 : Int32)) 12 ∧ (vp_in v5 12 ∧ (∀ N4 : xM, N4 = (x_up (x_up N3 18 (v5).toNatClampNeg (N3 18 ((v5 - (1 : Int32))).toNatClampNeg)) 19 (v5).toNatClampNeg ((x_up N3 18 (v5).toNatClampNeg (N3 18 ((v5 - (1 : Int32))).toNatClampNeg)) 19 ((v5 - (1 : Int32))).toNatClampNeg)) → K1 v1 v2 v3 v4 (v5 + (-1 : Int32)) N4))))))))))))
set_option maxRecDepth 100000 in
set_option maxHeartbeats 4000000 in
theorem wk_X4_remember {g : xG} (v1 : Int32) (v2 : Int32) (v3 : Int32) (v4 : Int32) (M : xM) (P : xM → Prop) (I1 : Nat → Int32 → Int32 → Int32 → Int32 → Int32 → xM → Prop) (h0 : vc_X4_remember g v1 v2 v3 v4 M P (fun v1 v2 v3 v4 v5 N => ∃ k, I1 k v1 v2 v3 v4 v5 N)) (h1 : ∀ (n : Nat) (v1 : Int32) (v2 : Int32) (v3 : Int32) (v4 : Int32) (v5 : Int32) (N : xM), I1 n v1 v2 v3 v4 v5 N → vc_X4_remember_1 g v1 v2 v3 v4 v5 N P (fun v1 v2 v3 v4 v5 N => ∃ k, k < n ∧ I1 k v1 v2 v3 v4 v5 N)) : mi_X4_remember g v1 v2 v3 v4 M P := by
  refine x_startV (as := [.ref (x_a g 15), .int v1, .int v2, .int v3, .int v4]) (cc := cX4_remember) (n := 6) (ret := none) (own := RX4) (by decide) rfl rfl (Nat.le_of_ble_eq_true rfl) (fun x hC hr => ?_)
  have L : ∀ n : Nat, (∀ (v1 : Int32) (v2 : Int32) (v3 : Int32) (v4 : Int32) (v5 : Int32) (N : xM), I1 n v1 v2 v3 v4 v5 N → x_W x g 6 (x_Qv x g P) N 23 [(0, .ref (x_a g 15)), (1, .int v1), (2, .int v2), (3, .int v3), (4, .int v4), (5, .int v5)] []) := by
    intro n
    induction n using Nat.strongRecOn with
    | ind n ih =>
      intro v1 v2 v3 v4 v5 M hI
      have h := h1 n v1 v2 v3 v4 v5 M hI
      unfold vc_X4_remember_1 at h
      refine x_iload (q := 5) hC dX4_remember_23 rfl ?_
      refine x_if_le (t := 98) hC dX4_remember_25 (by decide) (fun q => ?_) (fun q => ?_)
      · replace h := h.1 q
        refine x_aload_n (i := 0) (q := 0) hC dX4_remember_98 rfl rfl ?_
        refine x_getr (k := 1) (r := 16) hC xo_15 rfl kf_X4_remember_9 dX4_remember_99 ?_
        refine x_iconst (v := 0) hC dX4_remember_102 (by decide) ?_
        refine x_iload_n (i := 1) (q := 1) hC dX4_remember_103 rfl rfl ?_
        refine x_iast (len := 12) hC xa_16 h.1 dX4_remember_104 ?_
        replace h := h.2
        refine x_aload_n (i := 0) (q := 0) hC dX4_remember_105 rfl rfl ?_
        refine x_getr (k := 2) (r := 17) hC xo_15 rfl kf_X4_remember_15 dX4_remember_106 ?_
        refine x_iconst (v := 0) hC dX4_remember_109 (by decide) ?_
        refine x_iload_n (i := 2) (q := 2) hC dX4_remember_110 rfl rfl ?_
        refine x_iast (len := 12) hC xa_17 h.1 dX4_remember_111 ?_
        replace h := h.2
        refine x_aload_n (i := 0) (q := 0) hC dX4_remember_112 rfl rfl ?_
        refine x_getr (k := 3) (r := 18) hC xo_15 rfl kf_X4_remember_18 dX4_remember_113 ?_
        refine x_iconst (v := 0) hC dX4_remember_116 (by decide) ?_
        refine x_iload_n (i := 3) (q := 3) hC dX4_remember_117 rfl rfl ?_
        refine x_iast (len := 12) hC xa_18 h.1 dX4_remember_118 ?_
        replace h := h.2
        refine x_topM (fun N2 qN2 => ?_)
        replace h := h N2 qN2
        refine x_aload_n (i := 0) (q := 0) hC dX4_remember_119 rfl rfl ?_
        refine x_getr (k := 4) (r := 19) hC xo_15 rfl kf_X4_remember_21 dX4_remember_120 ?_
        refine x_iconst (v := 0) hC dX4_remember_123 (by decide) ?_
        refine x_iload (q := 4) hC dX4_remember_124 rfl ?_
        refine x_iast (len := 12) hC xa_19 h.1 dX4_remember_126 ?_
        replace h := h.2
        exact x_vret hC hr dX4_remember_127 h
      · replace h := h.2 q
        refine x_aload_n (i := 0) (q := 0) hC dX4_remember_28 rfl rfl ?_
        refine x_getr (k := 1) (r := 16) hC xo_15 rfl kf_X4_remember_9 dX4_remember_29 ?_
        refine x_iload (q := 5) hC dX4_remember_32 rfl ?_
        refine x_aload_n (i := 0) (q := 0) hC dX4_remember_34 rfl rfl ?_
        refine x_getr (k := 1) (r := 16) hC xo_15 rfl kf_X4_remember_9 dX4_remember_35 ?_
        refine x_iload (q := 5) hC dX4_remember_38 rfl ?_
        refine x_iconst (v := 1) hC dX4_remember_40 (by decide) ?_
        refine x_isub hC dX4_remember_41 ?_
        refine x_iald (len := 12) hC xa_16 h.1 dX4_remember_42 ?_
        replace h := h.2
        refine x_iast (len := 12) hC xa_16 h.1 dX4_remember_43 ?_
        replace h := h.2
        refine x_aload_n (i := 0) (q := 0) hC dX4_remember_44 rfl rfl ?_
        refine x_getr (k := 2) (r := 17) hC xo_15 rfl kf_X4_remember_15 dX4_remember_45 ?_
        refine x_iload (q := 5) hC dX4_remember_48 rfl ?_
        refine x_aload_n (i := 0) (q := 0) hC dX4_remember_50 rfl rfl ?_
        refine x_getr (k := 2) (r := 17) hC xo_15 rfl kf_X4_remember_15 dX4_remember_51 ?_
        refine x_iload (q := 5) hC dX4_remember_54 rfl ?_
        refine x_iconst (v := 1) hC dX4_remember_56 (by decide) ?_
        refine x_isub hC dX4_remember_57 ?_
        refine x_iald (len := 12) hC xa_17 h.1 dX4_remember_58 ?_
        replace h := h.2
        refine x_iast (len := 12) hC xa_17 h.1 dX4_remember_59 ?_
        replace h := h.2
        refine x_topM (fun N3 qN3 => ?_)
        replace h := h N3 qN3
        refine x_aload_n (i := 0) (q := 0) hC dX4_remember_60 rfl rfl ?_
        refine x_getr (k := 3) (r := 18) hC xo_15 rfl kf_X4_remember_18 dX4_remember_61 ?_
        refine x_iload (q := 5) hC dX4_remember_64 rfl ?_
        refine x_aload_n (i := 0) (q := 0) hC dX4_remember_66 rfl rfl ?_
        refine x_getr (k := 3) (r := 18) hC xo_15 rfl kf_X4_remember_18 dX4_remember_67 ?_
        refine x_iload (q := 5) hC dX4_remember_70 rfl ?_
        refine x_iconst (v := 1) hC dX4_remember_72 (by decide) ?_
        refine x_isub hC dX4_remember_73 ?_
        refine x_iald (len := 12) hC xa_18 h.1 dX4_remember_74 ?_
        replace h := h.2
        refine x_iast (len := 12) hC xa_18 h.1 dX4_remember_75 ?_
        replace h := h.2
        refine x_aload_n (i := 0) (q := 0) hC dX4_remember_76 rfl rfl ?_
        refine x_getr (k := 4) (r := 19) hC xo_15 rfl kf_X4_remember_21 dX4_remember_77 ?_
        refine x_iload (q := 5) hC dX4_remember_80 rfl ?_
        refine x_aload_n (i := 0) (q := 0) hC dX4_remember_82 rfl rfl ?_
        refine x_getr (k := 4) (r := 19) hC xo_15 rfl kf_X4_remember_21 dX4_remember_83 ?_
        refine x_iload (q := 5) hC dX4_remember_86 rfl ?_
        refine x_iconst (v := 1) hC dX4_remember_88 (by decide) ?_
        refine x_isub hC dX4_remember_89 ?_
        refine x_iald (len := 12) hC xa_19 h.1 dX4_remember_90 ?_
        replace h := h.2
        refine x_iast (len := 12) hC xa_19 h.1 dX4_remember_91 ?_
        replace h := h.2
        refine x_topM (fun N4 qN4 => ?_)
        replace h := h N4 qN4
        refine x_iinc (k := 5) (v' := (v5 + (-1 : Int32))) (ls' := [(5, .int (v5 + (-1 : Int32))), (0, .ref (x_a g 15)), (1, .int v1), (2, .int v2), (3, .int v3), (4, .int v4)]) hC dX4_remember_92 rfl rfl (by decide) rfl ?_
        refine x_goto (t := 23) hC dX4_remember_95 (by decide) ?_
        obtain ⟨n_1, hn, h⟩ := h
        exact x_sub [1, 2, 3, 4, 5, 0] rfl ((ih n_1 hn) _ _ _ _ _ _ h)
  have h := h0
  unfold vc_X4_remember at h
  refine x_aload_n (i := 0) (q := 0) hC dX4_remember_0 rfl rfl ?_
  refine x_aload_n (i := 0) (q := 0) hC dX4_remember_1 rfl rfl ?_
  refine x_geti (k := 0) hC xo_15 rfl kf_X4_remember_24 dX4_remember_2 ?_
  refine x_iconst (v := 1) hC dX4_remember_5 (by decide) ?_
  refine x_iadd hC dX4_remember_6 ?_
  refine x_bipush (v := 12) hC dX4_remember_7 (by decide) ?_
  refine x_mmin (idx := 28) hC (by decide +kernel) (by decide +kernel) (by decide +kernel) (by decide +kernel) (Nat.le_of_ble_eq_true rfl) (Nat.le_of_ble_eq_true rfl) dX4_remember_9 ?_
  refine x_puti (k := 0) hC xo_15 rfl kf_X4_remember_24 kp_4_0 dX4_remember_12 ?_
  refine x_aload_n (i := 0) (q := 0) hC dX4_remember_15 rfl rfl ?_
  refine x_geti (k := 0) hC xo_15 rfl kf_X4_remember_24 dX4_remember_16 ?_
  refine x_iconst (v := 1) hC dX4_remember_19 (by decide) ?_
  refine x_isub hC dX4_remember_20 ?_
  refine x_topi (fun y1 qy1 => ?_)
  replace h := h y1 qy1
  refine x_istore (ls' := [(5, .int y1), (0, .ref (x_a g 15)), (1, .int v1), (2, .int v2), (3, .int v3), (4, .int v4)]) hC dX4_remember_21 (by decide) rfl ?_
  obtain ⟨n_1, h⟩ := h
  exact x_sub [1, 2, 3, 4, 5, 0] rfl ((L n_1) _ _ _ _ _ _ h)
theorem kf_X6_singTurn_24 : x_okf wsX6_singTurn RX6 24 6 0 = true := by decide +kernel
theorem kf_X6_singTurn_43 : x_okf wsX6_singTurn RX6 43 6 2 = true := by decide +kernel
theorem kf_X6_singTurn_18 : x_okf wsX6_singTurn RX6 18 6 5 = true := by decide +kernel
theorem kf_X6_singTurn_21 : x_okf wsX6_singTurn RX6 21 6 6 = true := by decide +kernel
def vc_X6_singTurn (g : xG) (v1 : Int32) (v2 : Int32) (M : xM) (P : xM → Prop) (K1 : Int32 → Int32 → Int32 → xM → Prop) : Prop := K1 v1 v2 (0 : Int32) M
def vc_X6_singTurn_1 (g : xG) (v1 : Int32) (v2 : Int32) (v3 : Int32) (M : xM) (P : xM → Prop) (K1 : Int32 → Int32 → Int32 → xM → Prop) : Prop := (((M 1 0) ≤ v3 → P (x_up M 1 2 v1)) ∧ (¬ ((M 1 0) ≤ v3) → (mi_X9_isIn g v1 v3 M (fun r1 N2 => ((r1 = 0 → K1 v1 v2 (v3 + (1 : Int32)) N2) ∧ (¬ (r1 = 0) → (vp_in v3 12 ∧ (vp_in v3 12 ∧ (vp_in v3 12 ∧ (vp_in v3 12 ∧ (∀ N3 : xM, N3 = (x_up (x_up N2 4 (v3).toNatClampNeg ((N2 4 (v3).toNatClampNeg) + (1 : Int32))) 5 (v3).toNatClampNeg (((x_up N2 4 (v3).toNatClampNeg ((N2 4 (v3).toNatClampNeg) + (1 : Int32))) 5 (v3).toNatClampNeg) + v2)) → K1 v1 v2 (v3 + (1 : Int32)) N3)))))))))))
set_option maxRecDepth 100000 in
set_option maxHeartbeats 4000000 in
theorem wk_X6_singTurn {g : xG} (v1 : Int32) (v2 : Int32) (M : xM) (P : xM → Prop) (I1 : Nat → Int32 → Int32 → Int32 → xM → Prop) (h0 : vc_X6_singTurn g v1 v2 M P (fun v1 v2 v3 N => ∃ k, I1 k v1 v2 v3 N)) (h1 : ∀ (n : Nat) (v1 : Int32) (v2 : Int32) (v3 : Int32) (N : xM), I1 n v1 v2 v3 N → vc_X6_singTurn_1 g v1 v2 v3 N P (fun v1 v2 v3 N => ∃ k, k < n ∧ I1 k v1 v2 v3 N)) : mi_X6_singTurn g v1 v2 M P := by
  refine x_startV (as := [.ref (x_a g 1), .int v1, .int v2]) (cc := cX6_singTurn) (n := 4) (ret := none) (own := RX6) (by decide) rfl rfl (Nat.le_of_ble_eq_true rfl) (fun x hC hr => ?_)
  have L : ∀ n : Nat, (∀ (v1 : Int32) (v2 : Int32) (v3 : Int32) (N : xM), I1 n v1 v2 v3 N → x_W x g 4 (x_Qv x g P) N 2 [(0, .ref (x_a g 1)), (1, .int v1), (2, .int v2), (3, .int v3)] []) := by
    intro n
    induction n using Nat.strongRecOn with
    | ind n ih =>
      intro v1 v2 v3 M hI
      have h := h1 n v1 v2 v3 M hI
      unfold vc_X6_singTurn_1 at h
      refine x_iload_n (i := 3) (q := 3) hC dX6_singTurn_2 rfl rfl ?_
      refine x_aload_n (i := 0) (q := 0) hC dX6_singTurn_3 rfl rfl ?_
      refine x_geti (k := 0) hC xo_1 rfl kf_X6_singTurn_24 dX6_singTurn_4 ?_
      refine x_icmp_ge (t := 44) hC dX6_singTurn_7 (by decide) (fun q => ?_) (fun q => ?_)
      · replace h := h.1 q
        refine x_aload_n (i := 0) (q := 0) hC dX6_singTurn_44 rfl rfl ?_
        refine x_iload_n (i := 1) (q := 1) hC dX6_singTurn_45 rfl rfl ?_
        refine x_puti (k := 2) hC xo_1 rfl kf_X6_singTurn_43 kp_6_2 dX6_singTurn_46 ?_
        exact x_vret hC hr dX6_singTurn_49 h
      · replace h := h.2 q
        refine x_iload_n (i := 1) (q := 1) hC dX6_singTurn_10 rfl rfl ?_
        refine x_iload_n (i := 3) (q := 3) hC dX6_singTurn_11 rfl rfl ?_
        refine x_callNi (host := RX9) (As := [.int v1, .int v3]) hC h gX6_singTurn_X9_isIn_n35 rfl rfl rfl (by decide +kernel) (by decide +kernel) (by decide +kernel) hy_X9_isIn.2 ⟨Nat.le_of_ble_eq_true rfl, Nat.le_of_ble_eq_true rfl⟩ rfl (Nat.le_of_ble_eq_true rfl) rfl dX6_singTurn_12 (fun r1 N2 h => ?_)
        refine x_if_eq (t := 38) hC dX6_singTurn_15 (by decide) (fun q => ?_) (fun q => ?_)
        · replace h := h.1 q
          refine x_iinc (k := 3) (v' := (v3 + (1 : Int32))) (ls' := [(3, .int (v3 + (1 : Int32))), (0, .ref (x_a g 1)), (1, .int v1), (2, .int v2)]) hC dX6_singTurn_38 rfl rfl (by decide) rfl ?_
          refine x_goto (t := 2) hC dX6_singTurn_41 (by decide) ?_
          obtain ⟨n_1, hn, h⟩ := h
          exact x_sub [1, 2, 3, 0] rfl ((ih n_1 hn) _ _ _ _ h)
        · replace h := h.2 q
          refine x_aload_n (i := 0) (q := 0) hC dX6_singTurn_18 rfl rfl ?_
          refine x_getr (k := 5) (r := 4) hC xo_1 rfl kf_X6_singTurn_18 dX6_singTurn_19 ?_
          refine x_iload_n (i := 3) (q := 3) hC dX6_singTurn_22 rfl rfl ?_
          refine x_dup2 hC dX6_singTurn_23 rfl rfl ?_
          refine x_iald (len := 12) hC xa_4 h.1 dX6_singTurn_24 ?_
          replace h := h.2
          refine x_iconst (v := 1) hC dX6_singTurn_25 (by decide) ?_
          refine x_iadd hC dX6_singTurn_26 ?_
          refine x_iast (len := 12) hC xa_4 h.1 dX6_singTurn_27 ?_
          replace h := h.2
          refine x_aload_n (i := 0) (q := 0) hC dX6_singTurn_28 rfl rfl ?_
          refine x_getr (k := 6) (r := 5) hC xo_1 rfl kf_X6_singTurn_21 dX6_singTurn_29 ?_
          refine x_iload_n (i := 3) (q := 3) hC dX6_singTurn_32 rfl rfl ?_
          refine x_dup2 hC dX6_singTurn_33 rfl rfl ?_
          refine x_iald (len := 12) hC xa_5 h.1 dX6_singTurn_34 ?_
          replace h := h.2
          refine x_iload_n (i := 2) (q := 2) hC dX6_singTurn_35 rfl rfl ?_
          refine x_iadd hC dX6_singTurn_36 ?_
          refine x_iast (len := 12) hC xa_5 h.1 dX6_singTurn_37 ?_
          replace h := h.2
          refine x_topM (fun N3 qN3 => ?_)
          replace h := h N3 qN3
          refine x_iinc (k := 3) (v' := (v3 + (1 : Int32))) (ls' := [(3, .int (v3 + (1 : Int32))), (0, .ref (x_a g 1)), (1, .int v1), (2, .int v2)]) hC dX6_singTurn_38 rfl rfl (by decide) rfl ?_
          refine x_goto (t := 2) hC dX6_singTurn_41 (by decide) ?_
          obtain ⟨n_1, hn, h⟩ := h
          exact x_sub [1, 2, 3, 0] rfl ((ih n_1 hn) _ _ _ _ h)
  have h := h0
  unfold vc_X6_singTurn at h
  refine x_iconst (v := 0) hC dX6_singTurn_0 (by decide) ?_
  refine x_istore_n (i := 3) (ls' := [(3, .int (0 : Int32)), (0, .ref (x_a g 1)), (1, .int v1), (2, .int v2)]) hC dX6_singTurn_1 rfl (by decide) rfl ?_
  obtain ⟨n_1, h⟩ := h
  exact x_sub [1, 2, 3, 0] rfl ((L n_1) _ _ _ _ h)
theorem kf_X3_digitAt_21 : x_okf wsX3_digitAt RX3 21 3 4 = true := by decide +kernel
theorem kf_X3_digitAt_32 : x_okf wsX3_digitAt RX3 32 2 1 = true := by decide +kernel
theorem kf_X3_digitAt_45 : x_okf wsX3_digitAt RX3 45 2 0 = true := by decide +kernel
def vc_X3_digitAt (g : xG) (M : xM) (P : Int32 → xM → Prop) : Prop := (((M 185 1) ≤ (M 187 4) → P (-6 : Int32) M) ∧ (¬ ((M 185 1) ≤ (M 187 4)) → (vp_in (M 187 4) 60 ∧ (mi_X9_isBetween g (M 186 ((M 187 4)).toNatClampNeg) (48 : Int32) (57 : Int32) M (fun r1 N2 => ((¬ r1 = 0 → (vp_in (N2 187 4) 60 ∧ P ((N2 186 ((N2 187 4)).toNatClampNeg) - (48 : Int32)) N2)) ∧ (r1 = 0 → P (-6 : Int32) N2)))))))
set_option maxRecDepth 100000 in
set_option maxHeartbeats 4000000 in
theorem wk_X3_digitAt {g : xG}  (M : xM) (P : Int32 → xM → Prop) (h0 : vc_X3_digitAt g M P ) : mi_X3_digitAt g M P := by
  refine x_startI (as := [.ref (x_a g 187), .ref (x_a g 185)]) (cc := cX3_digitAt) (n := 2) (ret := (some .int)) (own := RX3) (by decide) rfl rfl (Nat.le_of_ble_eq_true rfl) (fun x hC hr => ?_)
  have h := h0
  unfold vc_X3_digitAt at h
  refine x_aload_n (i := 0) (q := 0) hC dX3_digitAt_0 rfl rfl ?_
  refine x_geti (k := 4) hC xo_187 rfl kf_X3_digitAt_21 dX3_digitAt_1 ?_
  refine x_aload_n (i := 1) (q := 1) hC dX3_digitAt_4 rfl rfl ?_
  refine x_geti (k := 1) hC xo_185 rfl kf_X3_digitAt_32 dX3_digitAt_5 ?_
  refine x_icmp_ge (t := 30) hC dX3_digitAt_8 (by decide) (fun q => ?_) (fun q => ?_)
  · replace h := h.1 q
    refine x_bipush (v := -6) hC dX3_digitAt_30 (by decide) ?_
    exact x_iret hC hr dX3_digitAt_32 h
  · replace h := h.2 q
    refine x_aload_n (i := 1) (q := 1) hC dX3_digitAt_11 rfl rfl ?_
    refine x_getr (k := 0) (r := 186) hC xo_185 rfl kf_X3_digitAt_45 dX3_digitAt_12 ?_
    refine x_aload_n (i := 0) (q := 0) hC dX3_digitAt_15 rfl rfl ?_
    refine x_geti (k := 4) hC xo_187 rfl kf_X3_digitAt_21 dX3_digitAt_16 ?_
    refine x_cald (len := 60) hC xa_186 h.1 dX3_digitAt_19 ?_
    replace h := h.2
    refine x_bipush (v := 48) hC dX3_digitAt_20 (by decide) ?_
    refine x_bipush (v := 57) hC dX3_digitAt_22 (by decide) ?_
    refine x_callNi (host := RX9) (As := [.int (M 186 ((M 187 4)).toNatClampNeg), .int (48 : Int32), .int (57 : Int32)]) hC h gX3_digitAt_X9_isBetween_n53 rfl rfl rfl (by decide +kernel) (by decide +kernel) (by decide +kernel) hy_X9_isBetween.2 ⟨Nat.le_of_ble_eq_true rfl, Nat.le_of_ble_eq_true rfl⟩ rfl (Nat.le_of_ble_eq_true rfl) rfl dX3_digitAt_24 (fun r1 N2 h => ?_)
    refine x_if_ne (t := 33) hC dX3_digitAt_27 (by decide) (fun q => ?_) (fun q => ?_)
    · replace h := h.1 q
      refine x_aload_n (i := 1) (q := 1) hC dX3_digitAt_33 rfl rfl ?_
      refine x_getr (k := 0) (r := 186) hC xo_185 rfl kf_X3_digitAt_45 dX3_digitAt_34 ?_
      refine x_aload_n (i := 0) (q := 0) hC dX3_digitAt_37 rfl rfl ?_
      refine x_geti (k := 4) hC xo_187 rfl kf_X3_digitAt_21 dX3_digitAt_38 ?_
      refine x_cald (len := 60) hC xa_186 h.1 dX3_digitAt_41 ?_
      replace h := h.2
      refine x_bipush (v := 48) hC dX3_digitAt_42 (by decide) ?_
      refine x_isub hC dX3_digitAt_44 ?_
      exact x_iret hC hr dX3_digitAt_45 h
    · replace h := h.2 q
      refine x_bipush (v := -6) hC dX3_digitAt_30 (by decide) ?_
      exact x_iret hC hr dX3_digitAt_32 h
theorem kf_X3_readNumber_21 : x_okf wsX3_readNumber RX3 21 3 4 = true := by decide +kernel
theorem kf_X3_readNumber_32 : x_okf wsX3_readNumber RX3 32 2 1 = true := by decide +kernel
def vc_X3_readNumber (g : xG) (v2 : Int32) (M : xM) (P : Int32 → xM → Prop) (K1 : Int32 → Int32 → xM → Prop) : Prop := (mi_X3_digitAt g M (fun r1 N2 => ((¬ r1 = (-6 : Int32) → K1 v2 r1 (x_up N2 187 4 ((N2 187 4) + (1 : Int32)))) ∧ (r1 = (-6 : Int32) → P (-6 : Int32) N2))))
def vc_X3_readNumber_1 (g : xG) (v2 : Int32) (v3 : Int32) (M : xM) (P : Int32 → xM → Prop) (K1 : Int32 → Int32 → xM → Prop) : Prop := ((v3 = 0 → P v3 M) ∧ (¬ (v3 = 0) → (((M 185 1) ≤ (M 187 4) → P v3 M) ∧ (¬ ((M 185 1) ≤ (M 187 4)) → (mi_X3_digitAt g M (fun r3 N4 => ((r3 = (-6 : Int32) → P v3 N4) ∧ (¬ (r3 = (-6 : Int32)) → ((((v3 * (10 : Int32)) + r3) ≤ v2 → K1 v2 ((v3 * (10 : Int32)) + r3) (x_up N4 187 4 ((N4 187 4) + (1 : Int32)))) ∧ (¬ (((v3 * (10 : Int32)) + r3) ≤ v2) → P v3 N4))))))))))
set_option maxRecDepth 100000 in
set_option maxHeartbeats 4000000 in
theorem wk_X3_readNumber {g : xG} (v2 : Int32) (M : xM) (P : Int32 → xM → Prop) (I1 : Nat → Int32 → Int32 → xM → Prop) (h0 : vc_X3_readNumber g v2 M P (fun v2 v3 N => ∃ k, I1 k v2 v3 N)) (h1 : ∀ (n : Nat) (v2 : Int32) (v3 : Int32) (N : xM), I1 n v2 v3 N → vc_X3_readNumber_1 g v2 v3 N P (fun v2 v3 N => ∃ k, k < n ∧ I1 k v2 v3 N)) : mi_X3_readNumber g v2 M P := by
  refine x_startI (as := [.ref (x_a g 187), .ref (x_a g 185), .int v2]) (cc := cX3_readNumber) (n := 5) (ret := (some .int)) (own := RX3) (by decide) rfl rfl (Nat.le_of_ble_eq_true rfl) (fun x hC hr => ?_)
  have L : ∀ n : Nat, (∀ (v2 : Int32) (v3 : Int32) (N : xM), I1 n v2 v3 N → x_W x g 5 (x_Qi x g P) N 25 [(0, .ref (x_a g 187)), (1, .ref (x_a g 185)), (2, .int v2), (3, .int v3)] []) := by
    intro n
    induction n using Nat.strongRecOn with
    | ind n ih =>
      intro v2 v3 M hI
      have h := h1 n v2 v3 M hI
      unfold vc_X3_readNumber_1 at h
      refine x_iload_n (i := 3) (q := 3) hC dX3_readNumber_25 rfl rfl ?_
      refine x_if_eq (t := 88) hC dX3_readNumber_26 (by decide) (fun q => ?_) (fun q => ?_)
      · replace h := h.1 q
        refine x_iload_n (i := 3) (q := 3) hC dX3_readNumber_88 rfl rfl ?_
        exact x_iret hC hr dX3_readNumber_89 h
      · replace h := h.2 q
        refine x_aload_n (i := 0) (q := 0) hC dX3_readNumber_29 rfl rfl ?_
        refine x_geti (k := 4) hC xo_187 rfl kf_X3_readNumber_21 dX3_readNumber_30 ?_
        refine x_aload_n (i := 1) (q := 1) hC dX3_readNumber_33 rfl rfl ?_
        refine x_geti (k := 1) hC xo_185 rfl kf_X3_readNumber_32 dX3_readNumber_34 ?_
        refine x_icmp_ge (t := 88) hC dX3_readNumber_37 (by decide) (fun q => ?_) (fun q => ?_)
        · replace h := h.1 q
          refine x_iload_n (i := 3) (q := 3) hC dX3_readNumber_88 rfl rfl ?_
          exact x_iret hC hr dX3_readNumber_89 h
        · replace h := h.2 q
          refine x_aload_n (i := 0) (q := 0) hC dX3_readNumber_40 rfl rfl ?_
          refine x_aload_n (i := 1) (q := 1) hC dX3_readNumber_41 rfl rfl ?_
          refine x_callVi (q := (RX3, TX3, 5)) (As := [.ref (x_a g 185)]) hC xo_187 rfl h gX3_readNumber_X3_digitAt rfl rfl rfl hy_X3_digitAt ⟨Nat.le_of_ble_eq_true rfl, Nat.le_of_ble_eq_true rfl⟩ rfl (Nat.le_of_ble_eq_true rfl) rfl dX3_readNumber_42 (fun r3 N4 h => ?_)
          refine x_istore (ls' := [(4, .int r3), (0, .ref (x_a g 187)), (1, .ref (x_a g 185)), (2, .int v2), (3, .int v3)]) hC dX3_readNumber_45 (by decide) rfl ?_
          refine x_iload (q := 0) hC dX3_readNumber_47 rfl ?_
          refine x_bipush (v := -6) hC dX3_readNumber_49 (by decide) ?_
          refine x_icmp_eq (t := 65) hC dX3_readNumber_51 (by decide) (fun q => ?_) (fun q => ?_)
          · replace h := h.1 q
            refine x_iload_n (i := 3) (q := 4) hC dX3_readNumber_65 rfl rfl ?_
            exact x_iret hC hr dX3_readNumber_66 h
          · replace h := h.2 q
            refine x_iload_n (i := 3) (q := 4) hC dX3_readNumber_54 rfl rfl ?_
            refine x_bipush (v := 10) hC dX3_readNumber_55 (by decide) ?_
            refine x_imul hC dX3_readNumber_57 ?_
            refine x_iload (q := 0) hC dX3_readNumber_58 rfl ?_
            refine x_iadd hC dX3_readNumber_60 ?_
            refine x_iload_n (i := 2) (q := 3) hC dX3_readNumber_61 rfl rfl ?_
            refine x_icmp_le (t := 67) hC dX3_readNumber_62 (by decide) (fun q => ?_) (fun q => ?_)
            · replace h := h.1 q
              refine x_iload_n (i := 3) (q := 4) hC dX3_readNumber_67 rfl rfl ?_
              refine x_bipush (v := 10) hC dX3_readNumber_68 (by decide) ?_
              refine x_imul hC dX3_readNumber_70 ?_
              refine x_iload (q := 0) hC dX3_readNumber_71 rfl ?_
              refine x_iadd hC dX3_readNumber_73 ?_
              refine x_istore_n (i := 3) (ls' := [(3, .int ((v3 * (10 : Int32)) + r3)), (4, .int r3), (0, .ref (x_a g 187)), (1, .ref (x_a g 185)), (2, .int v2)]) hC dX3_readNumber_74 rfl (by decide) rfl ?_
              refine x_aload_n (i := 0) (q := 2) hC dX3_readNumber_75 rfl rfl ?_
              refine x_dup hC dX3_readNumber_76 rfl ?_
              refine x_geti (k := 4) hC xo_187 rfl kf_X3_readNumber_21 dX3_readNumber_77 ?_
              refine x_iconst (v := 1) hC dX3_readNumber_80 (by decide) ?_
              refine x_iadd hC dX3_readNumber_81 ?_
              refine x_puti (k := 4) hC xo_187 rfl kf_X3_readNumber_21 kp_3_4 dX3_readNumber_82 ?_
              refine x_goto (t := 25) hC dX3_readNumber_85 (by decide) ?_
              obtain ⟨n_1, hn, h⟩ := h
              exact x_sub [2, 3, 4, 0] rfl ((ih n_1 hn) _ _ _ h)
            · replace h := h.2 q
              refine x_iload_n (i := 3) (q := 4) hC dX3_readNumber_65 rfl rfl ?_
              exact x_iret hC hr dX3_readNumber_66 h
  have h := h0
  unfold vc_X3_readNumber at h
  refine x_aload_n (i := 0) (q := 0) hC dX3_readNumber_0 rfl rfl ?_
  refine x_aload_n (i := 1) (q := 1) hC dX3_readNumber_1 rfl rfl ?_
  refine x_callVi (q := (RX3, TX3, 5)) (As := [.ref (x_a g 185)]) hC xo_187 rfl h gX3_readNumber_X3_digitAt rfl rfl rfl hy_X3_digitAt ⟨Nat.le_of_ble_eq_true rfl, Nat.le_of_ble_eq_true rfl⟩ rfl (Nat.le_of_ble_eq_true rfl) rfl dX3_readNumber_2 (fun r1 N2 h => ?_)
  refine x_istore_n (i := 3) (ls' := [(3, .int r1), (0, .ref (x_a g 187)), (1, .ref (x_a g 185)), (2, .int v2)]) hC dX3_readNumber_5 rfl (by decide) rfl ?_
  refine x_iload_n (i := 3) (q := 0) hC dX3_readNumber_6 rfl rfl ?_
  refine x_bipush (v := -6) hC dX3_readNumber_7 (by decide) ?_
  refine x_icmp_ne (t := 15) hC dX3_readNumber_9 (by decide) (fun q => ?_) (fun q => ?_)
  · replace h := h.1 q
    refine x_aload_n (i := 0) (q := 1) hC dX3_readNumber_15 rfl rfl ?_
    refine x_dup hC dX3_readNumber_16 rfl ?_
    refine x_geti (k := 4) hC xo_187 rfl kf_X3_readNumber_21 dX3_readNumber_17 ?_
    refine x_iconst (v := 1) hC dX3_readNumber_20 (by decide) ?_
    refine x_iadd hC dX3_readNumber_21 ?_
    refine x_puti (k := 4) hC xo_187 rfl kf_X3_readNumber_21 kp_3_4 dX3_readNumber_22 ?_
    obtain ⟨n_1, h⟩ := h
    exact x_sub [1, 2, 3, 0] rfl ((L n_1) _ _ _ h)
  · replace h := h.2 q
    refine x_bipush (v := -6) hC dX3_readNumber_12 (by decide) ?_
    exact x_iret hC hr dX3_readNumber_14 h
theorem kf_X3_readSign_21 : x_okf wsX3_readSign RX3 21 3 4 = true := by decide +kernel
theorem kf_X3_readSign_32 : x_okf wsX3_readSign RX3 32 2 1 = true := by decide +kernel
theorem kf_X3_readSign_45 : x_okf wsX3_readSign RX3 45 2 0 = true := by decide +kernel
def vc_X3_readSign (g : xG) (v2 : Int32) (M : xM) (P : Int32 → xM → Prop) : Prop := (((M 185 1) ≤ (M 187 4) → P (0 : Int32) M) ∧ (¬ ((M 185 1) ≤ (M 187 4)) → (vp_in (M 187 4) 60 ∧ (((M 186 ((M 187 4)).toNatClampNeg) = v2 → P (1 : Int32) (x_up M 187 4 ((M 187 4) + (1 : Int32)))) ∧ (¬ ((M 186 ((M 187 4)).toNatClampNeg) = v2) → P (0 : Int32) M)))))
set_option maxRecDepth 100000 in
set_option maxHeartbeats 4000000 in
theorem wk_X3_readSign {g : xG} (v2 : Int32) (M : xM) (P : Int32 → xM → Prop) (h0 : vc_X3_readSign g v2 M P ) : mi_X3_readSign g v2 M P := by
  refine x_startI (as := [.ref (x_a g 187), .ref (x_a g 185), .int v2]) (cc := cX3_readSign) (n := 3) (ret := (some .boolean)) (own := RX3) (by decide) rfl rfl (Nat.le_of_ble_eq_true rfl) (fun x hC hr => ?_)
  have h := h0
  unfold vc_X3_readSign at h
  refine x_aload_n (i := 0) (q := 0) hC dX3_readSign_0 rfl rfl ?_
  refine x_geti (k := 4) hC xo_187 rfl kf_X3_readSign_21 dX3_readSign_1 ?_
  refine x_aload_n (i := 1) (q := 1) hC dX3_readSign_4 rfl rfl ?_
  refine x_geti (k := 1) hC xo_185 rfl kf_X3_readSign_32 dX3_readSign_5 ?_
  refine x_icmp_ge (t := 24) hC dX3_readSign_8 (by decide) (fun q => ?_) (fun q => ?_)
  · replace h := h.1 q
    refine x_iconst (v := 0) hC dX3_readSign_24 (by decide) ?_
    exact x_zret hC hr dX3_readSign_25 rfl h
  · replace h := h.2 q
    refine x_aload_n (i := 1) (q := 1) hC dX3_readSign_11 rfl rfl ?_
    refine x_getr (k := 0) (r := 186) hC xo_185 rfl kf_X3_readSign_45 dX3_readSign_12 ?_
    refine x_aload_n (i := 0) (q := 0) hC dX3_readSign_15 rfl rfl ?_
    refine x_geti (k := 4) hC xo_187 rfl kf_X3_readSign_21 dX3_readSign_16 ?_
    refine x_cald (len := 60) hC xa_186 h.1 dX3_readSign_19 ?_
    replace h := h.2
    refine x_iload_n (i := 2) (q := 2) hC dX3_readSign_20 rfl rfl ?_
    refine x_icmp_eq (t := 26) hC dX3_readSign_21 (by decide) (fun q => ?_) (fun q => ?_)
    · replace h := h.1 q
      refine x_aload_n (i := 0) (q := 0) hC dX3_readSign_26 rfl rfl ?_
      refine x_dup hC dX3_readSign_27 rfl ?_
      refine x_geti (k := 4) hC xo_187 rfl kf_X3_readSign_21 dX3_readSign_28 ?_
      refine x_iconst (v := 1) hC dX3_readSign_31 (by decide) ?_
      refine x_iadd hC dX3_readSign_32 ?_
      refine x_puti (k := 4) hC xo_187 rfl kf_X3_readSign_21 kp_3_4 dX3_readSign_33 ?_
      refine x_iconst (v := 1) hC dX3_readSign_36 (by decide) ?_
      exact x_zret hC hr dX3_readSign_37 rfl h
    · replace h := h.2 q
      refine x_iconst (v := 0) hC dX3_readSign_24 (by decide) ?_
      exact x_zret hC hr dX3_readSign_25 rfl h
theorem kf_X3_readWish_9 : x_okf wsX3_readWish RX3 9 3 0 = true := by decide +kernel
theorem kf_X3_readWish_25 : x_okf wsX3_readWish RX3 25 3 3 = true := by decide +kernel
theorem kf_X3_readWish_15 : x_okf wsX3_readWish RX3 15 3 1 = true := by decide +kernel
theorem kf_X3_readWish_18 : x_okf wsX3_readWish RX3 18 3 2 = true := by decide +kernel
def vc_X3_readWish (g : xG) (M : xM) (P : Int32 → xM → Prop) : Prop := (mi_X3_readNumber g (11 : Int32) M (fun r1 N2 => ((¬ r1 = (-6 : Int32) → (mi_X3_readSign g (43 : Int32) N2 (fun r3 N4 => ((r3 = 0 → (mi_X3_readSign g (58 : Int32) N4 (fun r5 N6 => ((¬ r5 = 0 → (mi_X3_readNumber g (15 : Int32) N6 (fun r7 N8 => ((¬ r7 = (-6 : Int32) → (vp_in (N8 187 3) 15 ∧ (vp_in ((x_up N8 188 ((N8 187 3)).toNatClampNeg r1) 187 3) 15 ∧ (∀ N9 : xM, N9 = (x_up (x_up N8 188 ((N8 187 3)).toNatClampNeg r1) 189 (((x_up N8 188 ((N8 187 3)).toNatClampNeg r1) 187 3)).toNatClampNeg (-6 : Int32)) → (vp_in (N9 187 3) 15 ∧ (∀ N10 : xM, N10 = (x_up (x_up N9 190 ((N9 187 3)).toNatClampNeg r7) 187 3 (((x_up N9 190 ((N9 187 3)).toNatClampNeg r7) 187 3) + (1 : Int32))) → P (1 : Int32) N10)))))) ∧ (r7 = (-6 : Int32) → P (0 : Int32) N8))))) ∧ (r5 = 0 → P (0 : Int32) N6))))) ∧ (¬ (r3 = 0) → (mi_X3_readNumber g (11 : Int32) N4 (fun r11 N12 => ((¬ r11 = (-6 : Int32) → (mi_X3_readSign g (58 : Int32) N12 (fun r13 N14 => ((¬ r13 = 0 → (mi_X3_readNumber g (15 : Int32) N14 (fun r15 N16 => ((¬ r15 = (-6 : Int32) → (vp_in (N16 187 3) 15 ∧ (vp_in ((x_up N16 188 ((N16 187 3)).toNatClampNeg r1) 187 3) 15 ∧ (∀ N17 : xM, N17 = (x_up (x_up N16 188 ((N16 187 3)).toNatClampNeg r1) 189 (((x_up N16 188 ((N16 187 3)).toNatClampNeg r1) 187 3)).toNatClampNeg r11) → (vp_in (N17 187 3) 15 ∧ (∀ N18 : xM, N18 = (x_up (x_up N17 190 ((N17 187 3)).toNatClampNeg r15) 187 3 (((x_up N17 190 ((N17 187 3)).toNatClampNeg r15) 187 3) + (1 : Int32))) → P (1 : Int32) N18)))))) ∧ (r15 = (-6 : Int32) → P (0 : Int32) N16))))) ∧ (r13 = 0 → P (0 : Int32) N14))))) ∧ (r11 = (-6 : Int32) → P (0 : Int32) N12))))))))) ∧ (r1 = (-6 : Int32) → P (0 : Int32) N2))))
set_option maxRecDepth 100000 in
set_option maxHeartbeats 4000000 in
theorem wk_X3_readWish {g : xG}  (M : xM) (P : Int32 → xM → Prop) (h0 : vc_X3_readWish g M P ) : mi_X3_readWish g M P := by
  refine x_startI (as := [.ref (x_a g 187), .ref (x_a g 185)]) (cc := cX3_readWish) (n := 5) (ret := (some .boolean)) (own := RX3) (by decide) rfl rfl (Nat.le_of_ble_eq_true rfl) (fun x hC hr => ?_)
  have h := h0
  unfold vc_X3_readWish at h
  refine x_aload_n (i := 0) (q := 0) hC dX3_readWish_0 rfl rfl ?_
  refine x_aload_n (i := 1) (q := 1) hC dX3_readWish_1 rfl rfl ?_
  refine x_bipush (v := 11) hC dX3_readWish_2 (by decide) ?_
  refine x_callVi (q := (RX3, TX3, 5)) (As := [.ref (x_a g 185), .int (11 : Int32)]) hC xo_187 rfl h gX3_readWish_X3_readNumber rfl rfl rfl hy_X3_readNumber ⟨Nat.le_of_ble_eq_true rfl, Nat.le_of_ble_eq_true rfl⟩ rfl (Nat.le_of_ble_eq_true rfl) rfl dX3_readWish_4 (fun r1 N2 h => ?_)
  refine x_istore_n (i := 2) (ls' := [(2, .int r1), (0, .ref (x_a g 187)), (1, .ref (x_a g 185))]) hC dX3_readWish_7 rfl (by decide) rfl ?_
  refine x_iload_n (i := 2) (q := 0) hC dX3_readWish_8 rfl rfl ?_
  refine x_bipush (v := -6) hC dX3_readWish_9 (by decide) ?_
  refine x_icmp_ne (t := 16) hC dX3_readWish_11 (by decide) (fun q => ?_) (fun q => ?_)
  · replace h := h.1 q
    refine x_bipush (v := -6) hC dX3_readWish_16 (by decide) ?_
    refine x_istore_n (i := 3) (ls' := [(3, .int (-6 : Int32)), (2, .int r1), (0, .ref (x_a g 187)), (1, .ref (x_a g 185))]) hC dX3_readWish_18 rfl (by decide) rfl ?_
    refine x_aload_n (i := 0) (q := 2) hC dX3_readWish_19 rfl rfl ?_
    refine x_aload_n (i := 1) (q := 3) hC dX3_readWish_20 rfl rfl ?_
    refine x_bipush (v := 43) hC dX3_readWish_21 (by decide) ?_
    refine x_callVi (q := (RX3, TX3, 5)) (As := [.ref (x_a g 185), .int (43 : Int32)]) hC xo_187 rfl h gX3_readWish_X3_readSign rfl rfl rfl hy_X3_readSign ⟨Nat.le_of_ble_eq_true rfl, Nat.le_of_ble_eq_true rfl⟩ rfl (Nat.le_of_ble_eq_true rfl) rfl dX3_readWish_23 (fun r3 N4 h => ?_)
    refine x_if_eq (t := 45) hC dX3_readWish_26 (by decide) (fun q => ?_) (fun q => ?_)
    · replace h := h.1 q
      refine x_aload_n (i := 0) (q := 2) hC dX3_readWish_45 rfl rfl ?_
      refine x_aload_n (i := 1) (q := 3) hC dX3_readWish_46 rfl rfl ?_
      refine x_bipush (v := 58) hC dX3_readWish_47 (by decide) ?_
      refine x_callVi (q := (RX3, TX3, 5)) (As := [.ref (x_a g 185), .int (58 : Int32)]) hC xo_187 rfl h gX3_readWish_X3_readSign rfl rfl rfl hy_X3_readSign ⟨Nat.le_of_ble_eq_true rfl, Nat.le_of_ble_eq_true rfl⟩ rfl (Nat.le_of_ble_eq_true rfl) rfl dX3_readWish_49 (fun r5 N6 h => ?_)
      refine x_if_ne (t := 57) hC dX3_readWish_52 (by decide) (fun q => ?_) (fun q => ?_)
      · replace h := h.1 q
        refine x_aload_n (i := 0) (q := 2) hC dX3_readWish_57 rfl rfl ?_
        refine x_aload_n (i := 1) (q := 3) hC dX3_readWish_58 rfl rfl ?_
        refine x_bipush (v := 15) hC dX3_readWish_59 (by decide) ?_
        refine x_callVi (q := (RX3, TX3, 5)) (As := [.ref (x_a g 185), .int (15 : Int32)]) hC xo_187 rfl h gX3_readWish_X3_readNumber rfl rfl rfl hy_X3_readNumber ⟨Nat.le_of_ble_eq_true rfl, Nat.le_of_ble_eq_true rfl⟩ rfl (Nat.le_of_ble_eq_true rfl) rfl dX3_readWish_61 (fun r7 N8 h => ?_)
        refine x_istore (ls' := [(4, .int r7), (3, .int (-6 : Int32)), (2, .int r1), (0, .ref (x_a g 187)), (1, .ref (x_a g 185))]) hC dX3_readWish_64 (by decide) rfl ?_
        refine x_iload (q := 0) hC dX3_readWish_66 rfl ?_
        refine x_bipush (v := -6) hC dX3_readWish_68 (by decide) ?_
        refine x_icmp_ne (t := 75) hC dX3_readWish_70 (by decide) (fun q => ?_) (fun q => ?_)
        · replace h := h.1 q
          refine x_aload_n (i := 0) (q := 3) hC dX3_readWish_75 rfl rfl ?_
          refine x_getr (k := 0) (r := 188) hC xo_187 rfl kf_X3_readWish_9 dX3_readWish_76 ?_
          refine x_aload_n (i := 0) (q := 3) hC dX3_readWish_79 rfl rfl ?_
          refine x_geti (k := 3) hC xo_187 rfl kf_X3_readWish_25 dX3_readWish_80 ?_
          refine x_iload_n (i := 2) (q := 2) hC dX3_readWish_83 rfl rfl ?_
          refine x_iast (len := 15) hC xa_188 h.1 dX3_readWish_84 ?_
          replace h := h.2
          refine x_aload_n (i := 0) (q := 3) hC dX3_readWish_85 rfl rfl ?_
          refine x_getr (k := 1) (r := 189) hC xo_187 rfl kf_X3_readWish_15 dX3_readWish_86 ?_
          refine x_aload_n (i := 0) (q := 3) hC dX3_readWish_89 rfl rfl ?_
          refine x_geti (k := 3) hC xo_187 rfl kf_X3_readWish_25 dX3_readWish_90 ?_
          refine x_iload_n (i := 3) (q := 1) hC dX3_readWish_93 rfl rfl ?_
          refine x_iast (len := 15) hC xa_189 h.1 dX3_readWish_94 ?_
          replace h := h.2
          refine x_topM (fun N9 qN9 => ?_)
          replace h := h N9 qN9
          refine x_aload_n (i := 0) (q := 3) hC dX3_readWish_95 rfl rfl ?_
          refine x_getr (k := 2) (r := 190) hC xo_187 rfl kf_X3_readWish_18 dX3_readWish_96 ?_
          refine x_aload_n (i := 0) (q := 3) hC dX3_readWish_99 rfl rfl ?_
          refine x_geti (k := 3) hC xo_187 rfl kf_X3_readWish_25 dX3_readWish_100 ?_
          refine x_iload (q := 0) hC dX3_readWish_103 rfl ?_
          refine x_iast (len := 15) hC xa_190 h.1 dX3_readWish_105 ?_
          replace h := h.2
          refine x_aload_n (i := 0) (q := 3) hC dX3_readWish_106 rfl rfl ?_
          refine x_dup hC dX3_readWish_107 rfl ?_
          refine x_geti (k := 3) hC xo_187 rfl kf_X3_readWish_25 dX3_readWish_108 ?_
          refine x_iconst (v := 1) hC dX3_readWish_111 (by decide) ?_
          refine x_iadd hC dX3_readWish_112 ?_
          refine x_puti (k := 3) hC xo_187 rfl kf_X3_readWish_25 kp_3_3 dX3_readWish_113 ?_
          refine x_topM (fun N10 qN10 => ?_)
          replace h := h N10 qN10
          refine x_iconst (v := 1) hC dX3_readWish_116 (by decide) ?_
          exact x_zret hC hr dX3_readWish_117 rfl h
        · replace h := h.2 q
          refine x_iconst (v := 0) hC dX3_readWish_73 (by decide) ?_
          exact x_zret hC hr dX3_readWish_74 rfl h
      · replace h := h.2 q
        refine x_iconst (v := 0) hC dX3_readWish_55 (by decide) ?_
        exact x_zret hC hr dX3_readWish_56 rfl h
    · replace h := h.2 q
      refine x_aload_n (i := 0) (q := 2) hC dX3_readWish_29 rfl rfl ?_
      refine x_aload_n (i := 1) (q := 3) hC dX3_readWish_30 rfl rfl ?_
      refine x_bipush (v := 11) hC dX3_readWish_31 (by decide) ?_
      refine x_callVi (q := (RX3, TX3, 5)) (As := [.ref (x_a g 185), .int (11 : Int32)]) hC xo_187 rfl h gX3_readWish_X3_readNumber rfl rfl rfl hy_X3_readNumber ⟨Nat.le_of_ble_eq_true rfl, Nat.le_of_ble_eq_true rfl⟩ rfl (Nat.le_of_ble_eq_true rfl) rfl dX3_readWish_33 (fun r11 N12 h => ?_)
      refine x_istore_n (i := 3) (ls' := [(3, .int r11), (2, .int r1), (0, .ref (x_a g 187)), (1, .ref (x_a g 185))]) hC dX3_readWish_36 rfl (by decide) rfl ?_
      refine x_iload_n (i := 3) (q := 0) hC dX3_readWish_37 rfl rfl ?_
      refine x_bipush (v := -6) hC dX3_readWish_38 (by decide) ?_
      refine x_icmp_ne (t := 45) hC dX3_readWish_40 (by decide) (fun q => ?_) (fun q => ?_)
      · replace h := h.1 q
        refine x_aload_n (i := 0) (q := 2) hC dX3_readWish_45 rfl rfl ?_
        refine x_aload_n (i := 1) (q := 3) hC dX3_readWish_46 rfl rfl ?_
        refine x_bipush (v := 58) hC dX3_readWish_47 (by decide) ?_
        refine x_callVi (q := (RX3, TX3, 5)) (As := [.ref (x_a g 185), .int (58 : Int32)]) hC xo_187 rfl h gX3_readWish_X3_readSign rfl rfl rfl hy_X3_readSign ⟨Nat.le_of_ble_eq_true rfl, Nat.le_of_ble_eq_true rfl⟩ rfl (Nat.le_of_ble_eq_true rfl) rfl dX3_readWish_49 (fun r13 N14 h => ?_)
        refine x_if_ne (t := 57) hC dX3_readWish_52 (by decide) (fun q => ?_) (fun q => ?_)
        · replace h := h.1 q
          refine x_aload_n (i := 0) (q := 2) hC dX3_readWish_57 rfl rfl ?_
          refine x_aload_n (i := 1) (q := 3) hC dX3_readWish_58 rfl rfl ?_
          refine x_bipush (v := 15) hC dX3_readWish_59 (by decide) ?_
          refine x_callVi (q := (RX3, TX3, 5)) (As := [.ref (x_a g 185), .int (15 : Int32)]) hC xo_187 rfl h gX3_readWish_X3_readNumber rfl rfl rfl hy_X3_readNumber ⟨Nat.le_of_ble_eq_true rfl, Nat.le_of_ble_eq_true rfl⟩ rfl (Nat.le_of_ble_eq_true rfl) rfl dX3_readWish_61 (fun r15 N16 h => ?_)
          refine x_istore (ls' := [(4, .int r15), (3, .int r11), (2, .int r1), (0, .ref (x_a g 187)), (1, .ref (x_a g 185))]) hC dX3_readWish_64 (by decide) rfl ?_
          refine x_iload (q := 0) hC dX3_readWish_66 rfl ?_
          refine x_bipush (v := -6) hC dX3_readWish_68 (by decide) ?_
          refine x_icmp_ne (t := 75) hC dX3_readWish_70 (by decide) (fun q => ?_) (fun q => ?_)
          · replace h := h.1 q
            refine x_aload_n (i := 0) (q := 3) hC dX3_readWish_75 rfl rfl ?_
            refine x_getr (k := 0) (r := 188) hC xo_187 rfl kf_X3_readWish_9 dX3_readWish_76 ?_
            refine x_aload_n (i := 0) (q := 3) hC dX3_readWish_79 rfl rfl ?_
            refine x_geti (k := 3) hC xo_187 rfl kf_X3_readWish_25 dX3_readWish_80 ?_
            refine x_iload_n (i := 2) (q := 2) hC dX3_readWish_83 rfl rfl ?_
            refine x_iast (len := 15) hC xa_188 h.1 dX3_readWish_84 ?_
            replace h := h.2
            refine x_aload_n (i := 0) (q := 3) hC dX3_readWish_85 rfl rfl ?_
            refine x_getr (k := 1) (r := 189) hC xo_187 rfl kf_X3_readWish_15 dX3_readWish_86 ?_
            refine x_aload_n (i := 0) (q := 3) hC dX3_readWish_89 rfl rfl ?_
            refine x_geti (k := 3) hC xo_187 rfl kf_X3_readWish_25 dX3_readWish_90 ?_
            refine x_iload_n (i := 3) (q := 1) hC dX3_readWish_93 rfl rfl ?_
            refine x_iast (len := 15) hC xa_189 h.1 dX3_readWish_94 ?_
            replace h := h.2
            refine x_topM (fun N17 qN17 => ?_)
            replace h := h N17 qN17
            refine x_aload_n (i := 0) (q := 3) hC dX3_readWish_95 rfl rfl ?_
            refine x_getr (k := 2) (r := 190) hC xo_187 rfl kf_X3_readWish_18 dX3_readWish_96 ?_
            refine x_aload_n (i := 0) (q := 3) hC dX3_readWish_99 rfl rfl ?_
            refine x_geti (k := 3) hC xo_187 rfl kf_X3_readWish_25 dX3_readWish_100 ?_
            refine x_iload (q := 0) hC dX3_readWish_103 rfl ?_
            refine x_iast (len := 15) hC xa_190 h.1 dX3_readWish_105 ?_
            replace h := h.2
            refine x_aload_n (i := 0) (q := 3) hC dX3_readWish_106 rfl rfl ?_
            refine x_dup hC dX3_readWish_107 rfl ?_
            refine x_geti (k := 3) hC xo_187 rfl kf_X3_readWish_25 dX3_readWish_108 ?_
            refine x_iconst (v := 1) hC dX3_readWish_111 (by decide) ?_
            refine x_iadd hC dX3_readWish_112 ?_
            refine x_puti (k := 3) hC xo_187 rfl kf_X3_readWish_25 kp_3_3 dX3_readWish_113 ?_
            refine x_topM (fun N18 qN18 => ?_)
            replace h := h N18 qN18
            refine x_iconst (v := 1) hC dX3_readWish_116 (by decide) ?_
            exact x_zret hC hr dX3_readWish_117 rfl h
          · replace h := h.2 q
            refine x_iconst (v := 0) hC dX3_readWish_73 (by decide) ?_
            exact x_zret hC hr dX3_readWish_74 rfl h
        · replace h := h.2 q
          refine x_iconst (v := 0) hC dX3_readWish_55 (by decide) ?_
          exact x_zret hC hr dX3_readWish_56 rfl h
      · replace h := h.2 q
        refine x_iconst (v := 0) hC dX3_readWish_43 (by decide) ?_
        exact x_zret hC hr dX3_readWish_44 rfl h
  · replace h := h.2 q
    refine x_iconst (v := 0) hC dX3_readWish_14 (by decide) ?_
    exact x_zret hC hr dX3_readWish_15 rfl h
theorem kf_X3_faultOn_21 : x_okf wsX3_faultOn RX3 21 3 4 = true := by decide +kernel
theorem kf_X3_faultOn_25 : x_okf wsX3_faultOn RX3 25 3 3 = true := by decide +kernel
theorem kf_X3_faultOn_32 : x_okf wsX3_faultOn RX3 32 2 1 = true := by decide +kernel
def vc_X3_faultOn (g : xG) (M : xM) (P : Int32 → xM → Prop) (K1 : Int32 → xM → Prop) : Prop := K1 (0 : Int32) (x_up (x_up M 187 4 (0 : Int32)) 187 3 (0 : Int32))
def vc_X3_faultOn_1 (g : xG) (v2 : Int32) (M : xM) (P : Int32 → xM → Prop) (K1 : Int32 → xM → Prop) : Prop := (((15 : Int32) ≤ v2 → P (M 187 4) M) ∧ (¬ ((15 : Int32) ≤ v2) → (mi_X3_readWish g M (fun r1 N2 => ((¬ r1 = 0 → ((¬ (N2 187 4) = (N2 185 1) → (mi_X3_readSign g (59 : Int32) N2 (fun r3 N4 => ((¬ r3 = 0 → K1 (v2 + (1 : Int32)) N4) ∧ (r3 = 0 → P (N4 187 4) N4))))) ∧ ((N2 187 4) = (N2 185 1) → P (-6 : Int32) N2))) ∧ (r1 = 0 → P (N2 187 4) N2))))))
set_option maxRecDepth 100000 in
set_option maxHeartbeats 4000000 in
theorem wk_X3_faultOn {g : xG}  (M : xM) (P : Int32 → xM → Prop) (I1 : Nat → Int32 → xM → Prop) (h0 : vc_X3_faultOn g M P (fun v2 N => ∃ k, I1 k v2 N)) (h1 : ∀ (n : Nat) (v2 : Int32) (N : xM), I1 n v2 N → vc_X3_faultOn_1 g v2 N P (fun v2 N => ∃ k, k < n ∧ I1 k v2 N)) : mi_X3_faultOn g M P := by
  refine x_startI (as := [.ref (x_a g 187), .ref (x_a g 185)]) (cc := cX3_faultOn) (n := 3) (ret := (some .int)) (own := RX3) (by decide) rfl rfl (Nat.le_of_ble_eq_true rfl) (fun x hC hr => ?_)
  have L : ∀ n : Nat, (∀ (v2 : Int32) (N : xM), I1 n v2 N → x_W x g 3 (x_Qi x g P) N 12 [(0, .ref (x_a g 187)), (1, .ref (x_a g 185)), (2, .int v2)] []) := by
    intro n
    induction n using Nat.strongRecOn with
    | ind n ih =>
      intro v2 M hI
      have h := h1 n v2 M hI
      unfold vc_X3_faultOn_1 at h
      refine x_iload_n (i := 2) (q := 2) hC dX3_faultOn_12 rfl rfl ?_
      refine x_bipush (v := 15) hC dX3_faultOn_13 (by decide) ?_
      refine x_icmp_ge (t := 66) hC dX3_faultOn_15 (by decide) (fun q => ?_) (fun q => ?_)
      · replace h := h.1 q
        refine x_aload_n (i := 0) (q := 0) hC dX3_faultOn_66 rfl rfl ?_
        refine x_geti (k := 4) hC xo_187 rfl kf_X3_faultOn_21 dX3_faultOn_67 ?_
        exact x_iret hC hr dX3_faultOn_70 h
      · replace h := h.2 q
        refine x_aload_n (i := 0) (q := 0) hC dX3_faultOn_18 rfl rfl ?_
        refine x_aload_n (i := 1) (q := 1) hC dX3_faultOn_19 rfl rfl ?_
        refine x_callVi (q := (RX3, TX3, 5)) (As := [.ref (x_a g 185)]) hC xo_187 rfl h gX3_faultOn_X3_readWish rfl rfl rfl hy_X3_readWish ⟨Nat.le_of_ble_eq_true rfl, Nat.le_of_ble_eq_true rfl⟩ rfl (Nat.le_of_ble_eq_true rfl) rfl dX3_faultOn_20 (fun r1 N2 h => ?_)
        refine x_if_ne (t := 31) hC dX3_faultOn_23 (by decide) (fun q => ?_) (fun q => ?_)
        · replace h := h.1 q
          refine x_aload_n (i := 0) (q := 0) hC dX3_faultOn_31 rfl rfl ?_
          refine x_geti (k := 4) hC xo_187 rfl kf_X3_faultOn_21 dX3_faultOn_32 ?_
          refine x_aload_n (i := 1) (q := 1) hC dX3_faultOn_35 rfl rfl ?_
          refine x_geti (k := 1) hC xo_185 rfl kf_X3_faultOn_32 dX3_faultOn_36 ?_
          refine x_icmp_ne (t := 45) hC dX3_faultOn_39 (by decide) (fun q => ?_) (fun q => ?_)
          · replace h := h.1 q
            refine x_aload_n (i := 0) (q := 0) hC dX3_faultOn_45 rfl rfl ?_
            refine x_aload_n (i := 1) (q := 1) hC dX3_faultOn_46 rfl rfl ?_
            refine x_bipush (v := 59) hC dX3_faultOn_47 (by decide) ?_
            refine x_callVi (q := (RX3, TX3, 5)) (As := [.ref (x_a g 185), .int (59 : Int32)]) hC xo_187 rfl h gX3_faultOn_X3_readSign rfl rfl rfl hy_X3_readSign ⟨Nat.le_of_ble_eq_true rfl, Nat.le_of_ble_eq_true rfl⟩ rfl (Nat.le_of_ble_eq_true rfl) rfl dX3_faultOn_49 (fun r3 N4 h => ?_)
            refine x_if_ne (t := 60) hC dX3_faultOn_52 (by decide) (fun q => ?_) (fun q => ?_)
            · replace h := h.1 q
              refine x_iinc (k := 2) (v' := (v2 + (1 : Int32))) (ls' := [(2, .int (v2 + (1 : Int32))), (0, .ref (x_a g 187)), (1, .ref (x_a g 185))]) hC dX3_faultOn_60 rfl rfl (by decide) rfl ?_
              refine x_goto (t := 12) hC dX3_faultOn_63 (by decide) ?_
              obtain ⟨n_1, hn, h⟩ := h
              exact x_sub [1, 2, 0] rfl ((ih n_1 hn) _ _ h)
            · replace h := h.2 q
              refine x_aload_n (i := 0) (q := 0) hC dX3_faultOn_55 rfl rfl ?_
              refine x_geti (k := 4) hC xo_187 rfl kf_X3_faultOn_21 dX3_faultOn_56 ?_
              exact x_iret hC hr dX3_faultOn_59 h
          · replace h := h.2 q
            refine x_bipush (v := -6) hC dX3_faultOn_42 (by decide) ?_
            exact x_iret hC hr dX3_faultOn_44 h
        · replace h := h.2 q
          refine x_aload_n (i := 0) (q := 0) hC dX3_faultOn_26 rfl rfl ?_
          refine x_geti (k := 4) hC xo_187 rfl kf_X3_faultOn_21 dX3_faultOn_27 ?_
          exact x_iret hC hr dX3_faultOn_30 h
  have h := h0
  unfold vc_X3_faultOn at h
  refine x_aload_n (i := 0) (q := 0) hC dX3_faultOn_0 rfl rfl ?_
  refine x_iconst (v := 0) hC dX3_faultOn_1 (by decide) ?_
  refine x_puti (k := 4) hC xo_187 rfl kf_X3_faultOn_21 kp_3_4 dX3_faultOn_2 ?_
  refine x_aload_n (i := 0) (q := 0) hC dX3_faultOn_5 rfl rfl ?_
  refine x_iconst (v := 0) hC dX3_faultOn_6 (by decide) ?_
  refine x_puti (k := 3) hC xo_187 rfl kf_X3_faultOn_25 kp_3_3 dX3_faultOn_7 ?_
  refine x_iconst (v := 0) hC dX3_faultOn_10 (by decide) ?_
  refine x_istore_n (i := 2) (ls' := [(2, .int (0 : Int32)), (0, .ref (x_a g 187)), (1, .ref (x_a g 185))]) hC dX3_faultOn_11 rfl (by decide) rfl ?_
  obtain ⟨n_1, h⟩ := h
  exact x_sub [1, 2, 0] rfl ((L n_1) _ _ h)
def vc_X2_numberOf (g : xG) (v0 : Int64) (M : xM) (P : Int32 → xM → Prop) (K1 : Int32 → Int64 → xM → Prop) : Prop := K1 (0 : Int32) v0 M
def vc_X2_numberOf_1 (g : xG) (v2 : Int32) (v3 : Int64) (M : xM) (P : Int32 → xM → Prop) (K1 : Int32 → Int64 → xM → Prop) : Prop := (((lg_cmp v3 (0 : Int64)) = 0 → ((¬ v2 = 0 → P v2 M) ∧ (v2 = 0 → P (-2 : Int32) M))) ∧ (¬ ((lg_cmp v3 (0 : Int64)) = 0) → (((8 : Int32) ≤ v2 → ((¬ v2 = 0 → P v2 M) ∧ (v2 = 0 → P (-2 : Int32) M))) ∧ (¬ ((8 : Int32) ≤ v2) → (mi_X9_isBetween g (((v3 &&& (255 : Int64))).toInt32) (33 : Int32) (126 : Int32) M (fun r1 N2 => ((¬ r1 = 0 → (∀ y3 : Int64, y3 = ((v3).toUInt64 >>> (((8 : Int32)).toInt64.toUInt64 &&& Int64.toUInt64 63)).toInt64 → K1 (v2 + (1 : Int32)) y3 N2)) ∧ (r1 = 0 → P (-2 : Int32) N2))))))))
set_option maxRecDepth 100000 in
set_option maxHeartbeats 4000000 in
theorem wk_X2_numberOf {g : xG} (v0 : Int64) (M : xM) (P : Int32 → xM → Prop) (I1 : Nat → Int32 → Int64 → xM → Prop) (h0 : vc_X2_numberOf g v0 M P (fun v2 v3 N => ∃ k, I1 k v2 v3 N)) (h1 : ∀ (n : Nat) (v2 : Int32) (v3 : Int64) (N : xM), I1 n v2 v3 N → vc_X2_numberOf_1 g v2 v3 N P (fun v2 v3 N => ∃ k, k < n ∧ I1 k v2 v3 N)) : mi_X2_numberOf g v0 M P := by
  refine x_startI (as := [.long v0]) (cc := cX2_numberOf) (n := 5) (ret := (some .int)) (own := RX2) (by decide) rfl rfl (Nat.le_of_ble_eq_true rfl) (fun x hC hr => ?_)
  have L : ∀ n : Nat, (∀ (v2 : Int32) (v3 : Int64) (N : xM), I1 n v2 v3 N → x_W x g 5 (x_Qi x g P) N 4 [(2, .int v2), (3, .long v3)] []) := by
    intro n
    induction n using Nat.strongRecOn with
    | ind n ih =>
      intro v2 v3 M hI
      have h := h1 n v2 v3 M hI
      unfold vc_X2_numberOf_1 at h
      refine x_lload_n (i := 3) (q := 1) hC dX2_numberOf_4 rfl rfl ?_
      refine x_lconst (v := 0) hC dX2_numberOf_5 (by decide) ?_
      refine x_lcmp hC dX2_numberOf_6 ?_
      refine x_if_eq (t := 46) hC dX2_numberOf_7 (by decide) (fun q => ?_) (fun q => ?_)
      · replace h := h.1 q
        refine x_iload_n (i := 2) (q := 0) hC dX2_numberOf_46 rfl rfl ?_
        refine x_if_ne (t := 55) hC dX2_numberOf_47 (by decide) (fun q => ?_) (fun q => ?_)
        · replace h := h.1 q
          refine x_iload_n (i := 2) (q := 0) hC dX2_numberOf_55 rfl rfl ?_
          exact x_iret hC hr dX2_numberOf_56 h
        · replace h := h.2 q
          refine x_bipush (v := -2) hC dX2_numberOf_50 (by decide) ?_
          refine x_goto (t := 56) hC dX2_numberOf_52 (by decide) ?_
          exact x_iret hC hr dX2_numberOf_56 h
      · replace h := h.2 q
        refine x_iload_n (i := 2) (q := 0) hC dX2_numberOf_10 rfl rfl ?_
        refine x_bipush (v := 8) hC dX2_numberOf_11 (by decide) ?_
        refine x_icmp_ge (t := 46) hC dX2_numberOf_13 (by decide) (fun q => ?_) (fun q => ?_)
        · replace h := h.1 q
          refine x_iload_n (i := 2) (q := 0) hC dX2_numberOf_46 rfl rfl ?_
          refine x_if_ne (t := 55) hC dX2_numberOf_47 (by decide) (fun q => ?_) (fun q => ?_)
          · replace h := h.1 q
            refine x_iload_n (i := 2) (q := 0) hC dX2_numberOf_55 rfl rfl ?_
            exact x_iret hC hr dX2_numberOf_56 h
          · replace h := h.2 q
            refine x_bipush (v := -2) hC dX2_numberOf_50 (by decide) ?_
            refine x_goto (t := 56) hC dX2_numberOf_52 (by decide) ?_
            exact x_iret hC hr dX2_numberOf_56 h
        · replace h := h.2 q
          refine x_lload_n (i := 3) (q := 1) hC dX2_numberOf_16 rfl rfl ?_
          refine x_ldc2 (i := 15) (v := 255) hC (by decide +kernel) dX2_numberOf_17 ?_
          refine x_land hC dX2_numberOf_20 ?_
          refine x_l2i hC dX2_numberOf_21 ?_
          refine x_bipush (v := 33) hC dX2_numberOf_22 (by decide) ?_
          refine x_bipush (v := 126) hC dX2_numberOf_24 (by decide) ?_
          refine x_callNi (host := RX9) (As := [.int (((v3 &&& (255 : Int64))).toInt32), .int (33 : Int32), .int (126 : Int32)]) hC h gX2_numberOf_X9_isBetween_n17 rfl rfl rfl (by decide +kernel) (by decide +kernel) (by decide +kernel) hy_X9_isBetween.2 ⟨Nat.le_of_ble_eq_true rfl, Nat.le_of_ble_eq_true rfl⟩ rfl (Nat.le_of_ble_eq_true rfl) rfl dX2_numberOf_26 (fun r1 N2 h => ?_)
          refine x_if_ne (t := 35) hC dX2_numberOf_29 (by decide) (fun q => ?_) (fun q => ?_)
          · replace h := h.1 q
            refine x_lload_n (i := 3) (q := 1) hC dX2_numberOf_35 rfl rfl ?_
            refine x_bipush (v := 8) hC dX2_numberOf_36 (by decide) ?_
            refine x_lushr hC dX2_numberOf_38 ?_
            refine x_topl (fun y3 qy3 => ?_)
            replace h := h y3 qy3
            refine x_lstore_n (i := 3) (ls' := [(3, .long y3), (2, .int v2)]) hC dX2_numberOf_39 rfl (by decide) rfl ?_
            refine x_iinc (k := 1) (v' := (v2 + (1 : Int32))) (ls' := [(2, .int (v2 + (1 : Int32))), (3, .long y3)]) hC dX2_numberOf_40 rfl rfl (by decide) rfl ?_
            refine x_goto (t := 4) hC dX2_numberOf_43 (by decide) ?_
            obtain ⟨n_1, hn, h⟩ := h
            exact x_sub [0, 1] rfl ((ih n_1 hn) _ _ _ h)
          · replace h := h.2 q
            refine x_bipush (v := -2) hC dX2_numberOf_32 (by decide) ?_
            exact x_iret hC hr dX2_numberOf_34 h
  have h := h0
  unfold vc_X2_numberOf at h
  refine x_iconst (v := 0) hC dX2_numberOf_0 (by decide) ?_
  refine x_istore_n (i := 2) (ls' := [(2, .int (0 : Int32)), (0, .long v0)]) hC dX2_numberOf_1 rfl (by decide) rfl ?_
  refine x_lload_n (i := 0) (q := 1) hC dX2_numberOf_2 rfl rfl ?_
  refine x_lstore_n (i := 3) (ls' := [(3, .long v0), (2, .int (0 : Int32)), (0, .long v0)]) hC dX2_numberOf_3 rfl (by decide) rfl ?_
  obtain ⟨n_1, h⟩ := h
  exact x_sub [1, 0] rfl ((L n_1) _ _ _ h)
theorem kf_X2_append_9 : x_okf wsX2_append RX2 9 2 0 = true := by decide +kernel
theorem kf_X2_append_21 : x_okf wsX2_append RX2 21 2 1 = true := by decide +kernel
def vc_X2_append (g : xG) (v1 : Int64) (v3 : Int32) (M : xM) (P : xM → Prop) (K1 : Int64 → Int32 → xM → Prop) : Prop := K1 v1 (v3 - (1 : Int32)) M
def vc_X2_append_1 (g : xG) (v1 : Int64) (v4 : Int32) (M : xM) (P : xM → Prop) (K1 : Int64 → Int32 → xM → Prop) : Prop := ((v4 < 0 → P M) ∧ (¬ (v4 < 0) → (vp_in (M 185 1) 60 ∧ (∀ N1 : xM, N1 = (x_up M 186 ((M 185 1)).toNatClampNeg (vp_nar .char (((((((v1).toUInt64 >>> ((((8 : Int32) * v4)).toInt64.toUInt64 &&& Int64.toUInt64 63)).toInt64 &&& (255 : Int64))).toInt32).toUInt32 % 65536).toInt32))) → K1 v1 (v4 + (-1 : Int32)) (x_up N1 185 1 ((N1 185 1) + (1 : Int32)))))))
set_option maxRecDepth 100000 in
set_option maxHeartbeats 4000000 in
theorem wk_X2_append {g : xG} (v1 : Int64) (v3 : Int32) (M : xM) (P : xM → Prop) (I1 : Nat → Int64 → Int32 → xM → Prop) (h0 : vc_X2_append g v1 v3 M P (fun v1 v4 N => ∃ k, I1 k v1 v4 N)) (h1 : ∀ (n : Nat) (v1 : Int64) (v4 : Int32) (N : xM), I1 n v1 v4 N → vc_X2_append_1 g v1 v4 N P (fun v1 v4 N => ∃ k, k < n ∧ I1 k v1 v4 N)) : mi_X2_append g v1 v3 M P := by
  refine x_startV (as := [.ref (x_a g 185), .long v1, .int v3]) (cc := cX2_append) (n := 5) (ret := none) (own := RX2) (by decide) rfl rfl (Nat.le_of_ble_eq_true rfl) (fun x hC hr => ?_)
  have L : ∀ n : Nat, (∀ (v1 : Int64) (v4 : Int32) (N : xM), I1 n v1 v4 N → x_W x g 5 (x_Qv x g P) N 5 [(0, .ref (x_a g 185)), (1, .long v1), (4, .int v4)] []) := by
    intro n
    induction n using Nat.strongRecOn with
    | ind n ih =>
      intro v1 v4 M hI
      have h := h1 n v1 v4 M hI
      unfold vc_X2_append_1 at h
      refine x_iload (q := 2) hC dX2_append_5 rfl ?_
      refine x_if_lt (t := 48) hC dX2_append_7 (by decide) (fun q => ?_) (fun q => ?_)
      · replace h := h.1 q
        exact x_vret hC hr dX2_append_48 h
      · replace h := h.2 q
        refine x_aload_n (i := 0) (q := 0) hC dX2_append_10 rfl rfl ?_
        refine x_getr (k := 0) (r := 186) hC xo_185 rfl kf_X2_append_9 dX2_append_11 ?_
        refine x_aload_n (i := 0) (q := 0) hC dX2_append_14 rfl rfl ?_
        refine x_geti (k := 1) hC xo_185 rfl kf_X2_append_21 dX2_append_15 ?_
        refine x_lload_n (i := 1) (q := 1) hC dX2_append_18 rfl rfl ?_
        refine x_bipush (v := 8) hC dX2_append_19 (by decide) ?_
        refine x_iload (q := 2) hC dX2_append_21 rfl ?_
        refine x_imul hC dX2_append_23 ?_
        refine x_lushr hC dX2_append_24 ?_
        refine x_ldc2 (i := 15) (v := 255) hC (by decide +kernel) dX2_append_25 ?_
        refine x_land hC dX2_append_28 ?_
        refine x_l2i hC dX2_append_29 ?_
        refine x_i2c hC dX2_append_30 ?_
        refine x_cast (len := 60) hC xa_186 h.1 dX2_append_31 ?_
        replace h := h.2
        refine x_topM (fun N1 qN1 => ?_)
        replace h := h N1 qN1
        refine x_aload_n (i := 0) (q := 0) hC dX2_append_32 rfl rfl ?_
        refine x_dup hC dX2_append_33 rfl ?_
        refine x_geti (k := 1) hC xo_185 rfl kf_X2_append_21 dX2_append_34 ?_
        refine x_iconst (v := 1) hC dX2_append_37 (by decide) ?_
        refine x_iadd hC dX2_append_38 ?_
        refine x_puti (k := 1) hC xo_185 rfl kf_X2_append_21 kp_2_1 dX2_append_39 ?_
        refine x_iinc (k := 2) (v' := (v4 + (-1 : Int32))) (ls' := [(4, .int (v4 + (-1 : Int32))), (0, .ref (x_a g 185)), (1, .long v1)]) hC dX2_append_42 rfl rfl (by decide) rfl ?_
        refine x_goto (t := 5) hC dX2_append_45 (by decide) ?_
        obtain ⟨n_1, hn, h⟩ := h
        exact x_sub [1, 2, 0] rfl ((ih n_1 hn) _ _ _ h)
  have h := h0
  unfold vc_X2_append at h
  refine x_iload_n (i := 3) (q := 2) hC dX2_append_0 rfl rfl ?_
  refine x_iconst (v := 1) hC dX2_append_1 (by decide) ?_
  refine x_isub hC dX2_append_2 ?_
  refine x_istore (ls' := [(4, .int (v3 - (1 : Int32))), (0, .ref (x_a g 185)), (1, .long v1), (3, .int v3)]) hC dX2_append_3 (by decide) rfl ?_
  obtain ⟨n_1, h⟩ := h
  exact x_sub [1, 2, 0] rfl ((L n_1) _ _ _ h)
