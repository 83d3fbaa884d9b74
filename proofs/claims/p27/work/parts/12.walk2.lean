def vc_X9_isBetween (g : xG) (v0 : Int32) (v1 : Int32) (v2 : Int32) (M : xM) (P : Int32 → xM → Prop) : Prop := ((v0 < v1 → P (0 : Int32) M) ∧ (¬ (v0 < v1) → ((v2 < v0 → P (0 : Int32) M) ∧ (¬ (v2 < v0) → P (1 : Int32) M))))
set_option maxRecDepth 100000 in
set_option maxHeartbeats 4000000 in
theorem wk_X9_isBetween {g : xG} (v0 : Int32) (v1 : Int32) (v2 : Int32) (M : xM) (P : Int32 → xM → Prop) (h0 : vc_X9_isBetween g v0 v1 v2 M P ) : mi_X9_isBetween g v0 v1 v2 M P := by
  refine x_startI (as := [.int v0, .int v1, .int v2]) (cc := cX9_isBetween) (n := 3) (ret := (some .boolean)) (own := RX9) (by decide) rfl rfl (Nat.le_of_ble_eq_true rfl) (fun x hC hr => ?_)
  have h := h0
  unfold vc_X9_isBetween at h
  refine x_iload_n (i := 0) (q := 0) hC dX9_isBetween_0 rfl rfl ?_
  refine x_iload_n (i := 1) (q := 1) hC dX9_isBetween_1 rfl rfl ?_
  refine x_icmp_lt (t := 14) hC dX9_isBetween_2 (by decide) (fun q => ?_) (fun q => ?_)
  · replace h := h.1 q
    refine x_iconst (v := 0) hC dX9_isBetween_14 (by decide) ?_
    exact x_zret hC hr dX9_isBetween_15 rfl h
  · replace h := h.2 q
    refine x_iload_n (i := 0) (q := 0) hC dX9_isBetween_5 rfl rfl ?_
    refine x_iload_n (i := 2) (q := 2) hC dX9_isBetween_6 rfl rfl ?_
    refine x_icmp_gt (t := 14) hC dX9_isBetween_7 (by decide) (fun q => ?_) (fun q => ?_)
    · replace h := h.1 q
      refine x_iconst (v := 0) hC dX9_isBetween_14 (by decide) ?_
      exact x_zret hC hr dX9_isBetween_15 rfl h
    · replace h := h.2 q
      refine x_iconst (v := 1) hC dX9_isBetween_10 (by decide) ?_
      refine x_goto (t := 15) hC dX9_isBetween_11 (by decide) ?_
      exact x_zret hC hr dX9_isBetween_15 rfl h
def vc_X9_isToneRange (g : xG) (v0 : Int32) (v1 : Int32) (M : xM) (P : Int32 → xM → Prop) : Prop := (mi_X9_isBetween g v0 (0 : Int32) (60 : Int32) M (fun r1 N2 => ((r1 = 0 → P (0 : Int32) N2) ∧ (¬ (r1 = 0) → (mi_X9_isBetween g v1 v0 (60 : Int32) N2 (fun r3 N4 => ((r3 = 0 → P (0 : Int32) N4) ∧ (¬ (r3 = 0) → P (1 : Int32) N4))))))))
set_option maxRecDepth 100000 in
set_option maxHeartbeats 4000000 in
theorem wk_X9_isToneRange {g : xG} (v0 : Int32) (v1 : Int32) (M : xM) (P : Int32 → xM → Prop) (h0 : vc_X9_isToneRange g v0 v1 M P ) : mi_X9_isToneRange g v0 v1 M P := by
  refine x_startI (as := [.int v0, .int v1]) (cc := cX9_isToneRange) (n := 2) (ret := (some .boolean)) (own := RX9) (by decide) rfl rfl (Nat.le_of_ble_eq_true rfl) (fun x hC hr => ?_)
  have h := h0
  unfold vc_X9_isToneRange at h
  refine x_iload_n (i := 0) (q := 0) hC dX9_isToneRange_0 rfl rfl ?_
  refine x_iconst (v := 0) hC dX9_isToneRange_1 (by decide) ?_
  refine x_bipush (v := 60) hC dX9_isToneRange_2 (by decide) ?_
  refine x_callSi (As := [.int v0, .int (0 : Int32), .int (60 : Int32)]) hC h gX9_isToneRange_X9_isBetween rfl rfl rfl hy_X9_isBetween.2 ⟨Nat.le_of_ble_eq_true rfl, Nat.le_of_ble_eq_true rfl⟩ rfl (Nat.le_of_ble_eq_true rfl) rfl dX9_isToneRange_4 (fun r1 N2 h => ?_)
  refine x_if_eq (t := 24) hC dX9_isToneRange_7 (by decide) (fun q => ?_) (fun q => ?_)
  · replace h := h.1 q
    refine x_iconst (v := 0) hC dX9_isToneRange_24 (by decide) ?_
    exact x_zret hC hr dX9_isToneRange_25 rfl h
  · replace h := h.2 q
    refine x_iload_n (i := 1) (q := 1) hC dX9_isToneRange_10 rfl rfl ?_
    refine x_iload_n (i := 0) (q := 0) hC dX9_isToneRange_11 rfl rfl ?_
    refine x_bipush (v := 60) hC dX9_isToneRange_12 (by decide) ?_
    refine x_callSi (As := [.int v1, .int v0, .int (60 : Int32)]) hC h gX9_isToneRange_X9_isBetween rfl rfl rfl hy_X9_isBetween.2 ⟨Nat.le_of_ble_eq_true rfl, Nat.le_of_ble_eq_true rfl⟩ rfl (Nat.le_of_ble_eq_true rfl) rfl dX9_isToneRange_14 (fun r3 N4 h => ?_)
    refine x_if_eq (t := 24) hC dX9_isToneRange_17 (by decide) (fun q => ?_) (fun q => ?_)
    · replace h := h.1 q
      refine x_iconst (v := 0) hC dX9_isToneRange_24 (by decide) ?_
      exact x_zret hC hr dX9_isToneRange_25 rfl h
    · replace h := h.2 q
      refine x_iconst (v := 1) hC dX9_isToneRange_20 (by decide) ?_
      refine x_goto (t := 25) hC dX9_isToneRange_21 (by decide) ?_
      exact x_zret hC hr dX9_isToneRange_25 rfl h
def vc_X9_copyRow (g : xG) (n : Nat) (a : Nat) (b : Nat) (M : xM) (P : xM → Prop) : Prop := (¬ (0 : Int32) < 0 ∧ ¬ (0 : Int32) < 0 ∧ ¬ (if (nI n) < (nI n) then (nI n) else (nI n)) < 0 ∧ ((0 : Int32)).toNatClampNeg + ((if (nI n) < (nI n) then (nI n) else (nI n))).toNatClampNeg ≤ n ∧ ((0 : Int32)).toNatClampNeg + ((if (nI n) < (nI n) then (nI n) else (nI n))).toNatClampNeg ≤ n ∧ P (x_row M b (va_cpy (M a) (M b) ((0 : Int32)).toNatClampNeg ((0 : Int32)).toNatClampNeg ((if (nI n) < (nI n) then (nI n) else (nI n))).toNatClampNeg)))
set_option maxRecDepth 100000 in
set_option maxHeartbeats 4000000 in
theorem wk_X9_copyRow {g : xG} (a : Nat) (b : Nat) {n : Nat} (ha : x_isA a 0 n) (hb : x_isA b 0 n) (M : xM) (P : xM → Prop) (h0 : vc_X9_copyRow g n a b M P ) : mi_X9_copyRow g a b M P := by
  refine x_startV (as := [.ref (x_a g a), .ref (x_a g b)]) (cc := cX9_copyRow) (n := 2) (ret := none) (own := RX9) (by decide) rfl rfl (Nat.le_of_ble_eq_true rfl) (fun x hC hr => ?_)
  have h := h0
  unfold vc_X9_copyRow at h
  refine x_aload_n (i := 0) (q := 0) hC dX9_copyRow_0 rfl rfl ?_
  refine x_iconst (v := 0) hC dX9_copyRow_1 (by decide) ?_
  refine x_aload_n (i := 1) (q := 1) hC dX9_copyRow_2 rfl rfl ?_
  refine x_iconst (v := 0) hC dX9_copyRow_3 (by decide) ?_
  refine x_aload_n (i := 0) (q := 0) hC dX9_copyRow_4 rfl rfl ?_
  refine x_alen (len := n) hC ha dX9_copyRow_5 ?_
  refine x_aload_n (i := 1) (q := 1) hC dX9_copyRow_6 rfl rfl ?_
  refine x_alen (len := n) hC hb dX9_copyRow_7 ?_
  refine x_mmin (idx := 259) hC (by decide +kernel) (by decide +kernel) (by decide +kernel) (by decide +kernel) (Nat.le_of_ble_eq_true rfl) (Nat.le_of_ble_eq_true rfl) dX9_copyRow_8 ?_
  refine x_copy (idx := 264) hC (by decide +kernel) (by decide +kernel) (by decide +kernel) (by decide +kernel) ha hb h.1 h.2.1 h.2.2.1 h.2.2.2.1 h.2.2.2.2.1 (Nat.le_of_ble_eq_true rfl) (Nat.le_of_ble_eq_true rfl) dX9_copyRow_11 ?_
  replace h := h.2.2.2.2.2
  exact x_vret hC hr dX9_copyRow_14 h
theorem kf_X9_singer_12 : x_okf wsX9_singer RX9 12 9 0 = true := by decide +kernel
theorem kf_X9_singer_56 : x_okf wsX9_singer RX9 56 0 0 = true := by decide +kernel
theorem kf_X9_singer_60 : x_okf wsX9_singer RX9 60 6 0 = true := by decide +kernel
theorem kf_X9_singer_19 : x_okf wsX9_singer RX9 19 9 1 = true := by decide +kernel
def vc_X9_singer (g : xG) (v1 : Int32) (v2 : Int32) (M : xM) (P : Int32 → xM → Prop) : Prop := (mi_X9_isToneRange g v1 v2 M (fun r1 N2 => ((¬ r1 = 0 → (((N2 1 0) < (12 : Int32) → (mi_X1_keep g N2 (fun N3 => (mi_X6_add g v1 v2 N3 (fun r4 N5 => P r4 N5))))) ∧ (¬ ((N2 1 0) < (12 : Int32)) → P (-4 : Int32) N2))) ∧ (r1 = 0 → P (-2 : Int32) N2))))
set_option maxRecDepth 100000 in
set_option maxHeartbeats 4000000 in
theorem wk_X9_singer {g : xG} (v1 : Int32) (v2 : Int32) (M : xM) (P : Int32 → xM → Prop) (h0 : vc_X9_singer g v1 v2 M P ) : mi_X9_singer g v1 v2 M P := by
  refine x_startI (as := [.ref (x_a g 180), .int v1, .int v2]) (cc := cX9_singer) (n := 3) (ret := (some .int)) (own := RX9) (by decide) rfl rfl (Nat.le_of_ble_eq_true rfl) (fun x hC hr => ?_)
  have h := h0
  unfold vc_X9_singer at h
  refine x_iload_n (i := 1) (q := 1) hC dX9_singer_0 rfl rfl ?_
  refine x_iload_n (i := 2) (q := 2) hC dX9_singer_1 rfl rfl ?_
  refine x_callSi (As := [.int v1, .int v2]) hC h gX9_singer_X9_isToneRange rfl rfl rfl hy_X9_isToneRange.2 ⟨Nat.le_of_ble_eq_true rfl, Nat.le_of_ble_eq_true rfl⟩ rfl (Nat.le_of_ble_eq_true rfl) rfl dX9_singer_2 (fun r1 N2 h => ?_)
  refine x_if_ne (t := 11) hC dX9_singer_5 (by decide) (fun q => ?_) (fun q => ?_)
  · replace h := h.1 q
    refine x_aload_n (i := 0) (q := 0) hC dX9_singer_11 rfl rfl ?_
    refine x_getr (k := 0) (r := 0) hC xo_180 rfl kf_X9_singer_12 dX9_singer_12 ?_
    refine x_getr (k := 0) (r := 1) hC xo_0 rfl kf_X9_singer_56 dX9_singer_15 ?_
    refine x_geti (k := 0) hC xo_1 rfl kf_X9_singer_60 dX9_singer_18 ?_
    refine x_bipush (v := 12) hC dX9_singer_21 (by decide) ?_
    refine x_icmp_lt (t := 29) hC dX9_singer_23 (by decide) (fun q => ?_) (fun q => ?_)
    · replace h := h.1 q
      refine x_aload_n (i := 0) (q := 0) hC dX9_singer_29 rfl rfl ?_
      refine x_getr (k := 1) (r := 181) hC xo_180 rfl kf_X9_singer_19 dX9_singer_30 ?_
      refine x_aload_n (i := 0) (q := 0) hC dX9_singer_33 rfl rfl ?_
      refine x_getr (k := 0) (r := 0) hC xo_180 rfl kf_X9_singer_12 dX9_singer_34 ?_
      refine x_callVv (q := (RX1, TX1, 3)) (As := [.ref (x_a g 0)]) hC xo_181 rfl h gX9_singer_X1_keep rfl rfl rfl hy_X1_keep ⟨Nat.le_of_ble_eq_true rfl, Nat.le_of_ble_eq_true rfl⟩ rfl (Nat.le_of_ble_eq_true rfl) rfl dX9_singer_37 (fun N3 h => ?_)
      refine x_aload_n (i := 0) (q := 0) hC dX9_singer_40 rfl rfl ?_
      refine x_getr (k := 0) (r := 0) hC xo_180 rfl kf_X9_singer_12 dX9_singer_41 ?_
      refine x_getr (k := 0) (r := 1) hC xo_0 rfl kf_X9_singer_56 dX9_singer_44 ?_
      refine x_iload_n (i := 1) (q := 1) hC dX9_singer_47 rfl rfl ?_
      refine x_iload_n (i := 2) (q := 2) hC dX9_singer_48 rfl rfl ?_
      refine x_callVi (q := (RX6, TX6, 7)) (As := [.int v1, .int v2]) hC xo_1 rfl h gX9_singer_X6_add rfl rfl rfl hy_X6_add ⟨Nat.le_of_ble_eq_true rfl, Nat.le_of_ble_eq_true rfl⟩ rfl (Nat.le_of_ble_eq_true rfl) rfl dX9_singer_49 (fun r4 N5 h => ?_)
      exact x_iret hC hr dX9_singer_52 h
    · replace h := h.2 q
      refine x_bipush (v := -4) hC dX9_singer_26 (by decide) ?_
      exact x_iret hC hr dX9_singer_28 h
  · replace h := h.2 q
    refine x_bipush (v := -2) hC dX9_singer_8 (by decide) ?_
    exact x_iret hC hr dX9_singer_10 h
def vc_X9_isIn (g : xG) (v0 : Int32) (v1 : Int32) (M : xM) (P : Int32 → xM → Prop) : Prop := ((¬ ((v0 >>> (v1 &&& 31)) &&& (1 : Int32)) = (1 : Int32) → P (0 : Int32) M) ∧ (((v0 >>> (v1 &&& 31)) &&& (1 : Int32)) = (1 : Int32) → P (1 : Int32) M))
set_option maxRecDepth 100000 in
set_option maxHeartbeats 4000000 in
theorem wk_X9_isIn {g : xG} (v0 : Int32) (v1 : Int32) (M : xM) (P : Int32 → xM → Prop) (h0 : vc_X9_isIn g v0 v1 M P ) : mi_X9_isIn g v0 v1 M P := by
  refine x_startI (as := [.int v0, .int v1]) (cc := cX9_isIn) (n := 2) (ret := (some .boolean)) (own := RX9) (by decide) rfl rfl (Nat.le_of_ble_eq_true rfl) (fun x hC hr => ?_)
  have h := h0
  unfold vc_X9_isIn at h
  refine x_iload_n (i := 0) (q := 0) hC dX9_isIn_0 rfl rfl ?_
  refine x_iload_n (i := 1) (q := 1) hC dX9_isIn_1 rfl rfl ?_
  refine x_ishr hC dX9_isIn_2 ?_
  refine x_iconst (v := 1) hC dX9_isIn_3 (by decide) ?_
  refine x_iand hC dX9_isIn_4 ?_
  refine x_iconst (v := 1) hC dX9_isIn_5 (by decide) ?_
  refine x_icmp_ne (t := 13) hC dX9_isIn_6 (by decide) (fun q => ?_) (fun q => ?_)
  · replace h := h.1 q
    refine x_iconst (v := 0) hC dX9_isIn_13 (by decide) ?_
    exact x_zret hC hr dX9_isIn_14 rfl h
  · replace h := h.2 q
    refine x_iconst (v := 1) hC dX9_isIn_9 (by decide) ?_
    refine x_goto (t := 14) hC dX9_isIn_10 (by decide) ?_
    exact x_zret hC hr dX9_isIn_14 rfl h
theorem kf_X9_wish_12 : x_okf wsX9_wish RX9 12 9 0 = true := by decide +kernel
theorem kf_X9_wish_108 : x_okf wsX9_wish RX9 108 0 2 = true := by decide +kernel
theorem kf_X9_wish_112 : x_okf wsX9_wish RX9 112 8 0 = true := by decide +kernel
theorem kf_X9_wish_19 : x_okf wsX9_wish RX9 19 9 1 = true := by decide +kernel
def vc_X9_wish (g : xG) (v1 : Int32) (v2 : Int32) (v3 : Int32) (M : xM) (P : Int32 → xM → Prop) : Prop := (mi_X0_errorOfWish g v1 v2 v3 (M 11 0) M (fun r1 N2 => ((r1 = 0 → (mi_X1_keep g N2 (fun N3 => (mi_X8_add g v1 v2 v3 N3 (fun r4 N5 => P r4 N5))))) ∧ (¬ (r1 = 0) → P r1 N2))))
set_option maxRecDepth 100000 in
set_option maxHeartbeats 4000000 in
theorem wk_X9_wish {g : xG} (v1 : Int32) (v2 : Int32) (v3 : Int32) (M : xM) (P : Int32 → xM → Prop) (h0 : vc_X9_wish g v1 v2 v3 M P ) : mi_X9_wish g v1 v2 v3 M P := by
  refine x_startI (as := [.ref (x_a g 180), .int v1, .int v2, .int v3]) (cc := cX9_wish) (n := 5) (ret := (some .int)) (own := RX9) (by decide) rfl rfl (Nat.le_of_ble_eq_true rfl) (fun x hC hr => ?_)
  have h := h0
  unfold vc_X9_wish at h
  refine x_aload_n (i := 0) (q := 0) hC dX9_wish_0 rfl rfl ?_
  refine x_getr (k := 0) (r := 0) hC xo_180 rfl kf_X9_wish_12 dX9_wish_1 ?_
  refine x_iload_n (i := 1) (q := 1) hC dX9_wish_4 rfl rfl ?_
  refine x_iload_n (i := 2) (q := 2) hC dX9_wish_5 rfl rfl ?_
  refine x_iload_n (i := 3) (q := 3) hC dX9_wish_6 rfl rfl ?_
  refine x_aload_n (i := 0) (q := 0) hC dX9_wish_7 rfl rfl ?_
  refine x_getr (k := 0) (r := 0) hC xo_180 rfl kf_X9_wish_12 dX9_wish_8 ?_
  refine x_getr (k := 2) (r := 11) hC xo_0 rfl kf_X9_wish_108 dX9_wish_11 ?_
  refine x_geti (k := 0) hC xo_11 rfl kf_X9_wish_112 dX9_wish_14 ?_
  refine x_callVi (q := (RX0, TX0, 6)) (As := [.int v1, .int v2, .int v3, .int (M 11 0)]) hC xo_0 rfl h gX9_wish_X0_errorOfWish rfl rfl rfl hy_X0_errorOfWish ⟨Nat.le_of_ble_eq_true rfl, Nat.le_of_ble_eq_true rfl⟩ rfl (Nat.le_of_ble_eq_true rfl) rfl dX9_wish_17 (fun r1 N2 h => ?_)
  refine x_istore (ls' := [(4, .int r1), (0, .ref (x_a g 180)), (1, .int v1), (2, .int v2), (3, .int v3)]) hC dX9_wish_20 (by decide) rfl ?_
  refine x_iload (q := 0) hC dX9_wish_22 rfl ?_
  refine x_if_eq (t := 30) hC dX9_wish_24 (by decide) (fun q => ?_) (fun q => ?_)
  · replace h := h.1 q
    refine x_aload_n (i := 0) (q := 1) hC dX9_wish_30 rfl rfl ?_
    refine x_getr (k := 1) (r := 181) hC xo_180 rfl kf_X9_wish_19 dX9_wish_31 ?_
    refine x_aload_n (i := 0) (q := 1) hC dX9_wish_34 rfl rfl ?_
    refine x_getr (k := 0) (r := 0) hC xo_180 rfl kf_X9_wish_12 dX9_wish_35 ?_
    refine x_callVv (q := (RX1, TX1, 3)) (As := [.ref (x_a g 0)]) hC xo_181 rfl h gX9_wish_X1_keep rfl rfl rfl hy_X1_keep ⟨Nat.le_of_ble_eq_true rfl, Nat.le_of_ble_eq_true rfl⟩ rfl (Nat.le_of_ble_eq_true rfl) rfl dX9_wish_38 (fun N3 h => ?_)
    refine x_aload_n (i := 0) (q := 1) hC dX9_wish_41 rfl rfl ?_
    refine x_getr (k := 0) (r := 0) hC xo_180 rfl kf_X9_wish_12 dX9_wish_42 ?_
    refine x_getr (k := 2) (r := 11) hC xo_0 rfl kf_X9_wish_108 dX9_wish_45 ?_
    refine x_iload_n (i := 1) (q := 2) hC dX9_wish_48 rfl rfl ?_
    refine x_iload_n (i := 2) (q := 3) hC dX9_wish_49 rfl rfl ?_
    refine x_iload_n (i := 3) (q := 4) hC dX9_wish_50 rfl rfl ?_
    refine x_callVi (q := (RX8, TX8, 4)) (As := [.int v1, .int v2, .int v3]) hC xo_11 rfl h gX9_wish_X8_add rfl rfl rfl hy_X8_add ⟨Nat.le_of_ble_eq_true rfl, Nat.le_of_ble_eq_true rfl⟩ rfl (Nat.le_of_ble_eq_true rfl) rfl dX9_wish_51 (fun r4 N5 h => ?_)
    exact x_iret hC hr dX9_wish_54 h
  · replace h := h.2 q
    refine x_iload (q := 0) hC dX9_wish_27 rfl ?_
    exact x_iret hC hr dX9_wish_29 h
theorem kf_X9_takeBack_12 : x_okf wsX9_takeBack RX9 12 9 0 = true := by decide +kernel
theorem kf_X9_takeBack_108 : x_okf wsX9_takeBack RX9 108 0 2 = true := by decide +kernel
theorem kf_X9_takeBack_19 : x_okf wsX9_takeBack RX9 19 9 1 = true := by decide +kernel
theorem kf_X9_takeBack_112 : x_okf wsX9_takeBack RX9 112 8 0 = true := by decide +kernel
def vc_X9_takeBack (g : xG) (v1 : Int32) (M : xM) (P : Int32 → xM → Prop) : Prop := (mi_X8_has g v1 M (fun r1 N2 => ((¬ r1 = 0 → (mi_X1_keep g N2 (fun N3 => (mi_X8_removeAt g v1 N3 (fun N4 => P (N4 11 0) N4))))) ∧ (r1 = 0 → P (-1 : Int32) N2))))
set_option maxRecDepth 100000 in
set_option maxHeartbeats 4000000 in
theorem wk_X9_takeBack {g : xG} (v1 : Int32) (M : xM) (P : Int32 → xM → Prop) (h0 : vc_X9_takeBack g v1 M P ) : mi_X9_takeBack g v1 M P := by
  refine x_startI (as := [.ref (x_a g 180), .int v1]) (cc := cX9_takeBack) (n := 2) (ret := (some .int)) (own := RX9) (by decide) rfl rfl (Nat.le_of_ble_eq_true rfl) (fun x hC hr => ?_)
  have h := h0
  unfold vc_X9_takeBack at h
  refine x_aload_n (i := 0) (q := 0) hC dX9_takeBack_0 rfl rfl ?_
  refine x_getr (k := 0) (r := 0) hC xo_180 rfl kf_X9_takeBack_12 dX9_takeBack_1 ?_
  refine x_getr (k := 2) (r := 11) hC xo_0 rfl kf_X9_takeBack_108 dX9_takeBack_4 ?_
  refine x_iload_n (i := 1) (q := 1) hC dX9_takeBack_7 rfl rfl ?_
  refine x_callVi (q := (RX8, TX8, 4)) (As := [.int v1]) hC xo_11 rfl h gX9_takeBack_X8_has rfl rfl rfl hy_X8_has ⟨Nat.le_of_ble_eq_true rfl, Nat.le_of_ble_eq_true rfl⟩ rfl (Nat.le_of_ble_eq_true rfl) rfl dX9_takeBack_8 (fun r1 N2 h => ?_)
  refine x_if_ne (t := 16) hC dX9_takeBack_11 (by decide) (fun q => ?_) (fun q => ?_)
  · replace h := h.1 q
    refine x_aload_n (i := 0) (q := 0) hC dX9_takeBack_16 rfl rfl ?_
    refine x_getr (k := 1) (r := 181) hC xo_180 rfl kf_X9_takeBack_19 dX9_takeBack_17 ?_
    refine x_aload_n (i := 0) (q := 0) hC dX9_takeBack_20 rfl rfl ?_
    refine x_getr (k := 0) (r := 0) hC xo_180 rfl kf_X9_takeBack_12 dX9_takeBack_21 ?_
    refine x_callVv (q := (RX1, TX1, 3)) (As := [.ref (x_a g 0)]) hC xo_181 rfl h gX9_takeBack_X1_keep rfl rfl rfl hy_X1_keep ⟨Nat.le_of_ble_eq_true rfl, Nat.le_of_ble_eq_true rfl⟩ rfl (Nat.le_of_ble_eq_true rfl) rfl dX9_takeBack_24 (fun N3 h => ?_)
    refine x_aload_n (i := 0) (q := 0) hC dX9_takeBack_27 rfl rfl ?_
    refine x_getr (k := 0) (r := 0) hC xo_180 rfl kf_X9_takeBack_12 dX9_takeBack_28 ?_
    refine x_getr (k := 2) (r := 11) hC xo_0 rfl kf_X9_takeBack_108 dX9_takeBack_31 ?_
    refine x_iload_n (i := 1) (q := 1) hC dX9_takeBack_34 rfl rfl ?_
    refine x_callVv (q := (RX8, TX8, 4)) (As := [.int v1]) hC xo_11 rfl h gX9_takeBack_X8_removeAt rfl rfl rfl hy_X8_removeAt ⟨Nat.le_of_ble_eq_true rfl, Nat.le_of_ble_eq_true rfl⟩ rfl (Nat.le_of_ble_eq_true rfl) rfl dX9_takeBack_35 (fun N4 h => ?_)
    refine x_aload_n (i := 0) (q := 0) hC dX9_takeBack_38 rfl rfl ?_
    refine x_getr (k := 0) (r := 0) hC xo_180 rfl kf_X9_takeBack_12 dX9_takeBack_39 ?_
    refine x_getr (k := 2) (r := 11) hC xo_0 rfl kf_X9_takeBack_108 dX9_takeBack_42 ?_
    refine x_geti (k := 0) hC xo_11 rfl kf_X9_takeBack_112 dX9_takeBack_45 ?_
    exact x_iret hC hr dX9_takeBack_48 h
  · replace h := h.2 q
    refine x_iconst (v := -1) hC dX9_takeBack_14 (by decide) ?_
    exact x_iret hC hr dX9_takeBack_15 h
def vc_X9_asNumber (g : xG) (v0 : Int32) (M : xM) (P : Int32 → xM → Prop) : Prop := ((v0 = 0 → P (0 : Int32) M) ∧ (¬ (v0 = 0) → P (1 : Int32) M))
set_option maxRecDepth 100000 in
set_option maxHeartbeats 4000000 in
theorem wk_X9_asNumber {g : xG} (v0 : Int32) (M : xM) (P : Int32 → xM → Prop) (h0 : vc_X9_asNumber g v0 M P ) : mi_X9_asNumber g v0 M P := by
  refine x_startI (as := [.int v0]) (cc := cX9_asNumber) (n := 1) (ret := (some .int)) (own := RX9) (by decide) rfl rfl (Nat.le_of_ble_eq_true rfl) (fun x hC hr => ?_)
  have h := h0
  unfold vc_X9_asNumber at h
  refine x_iload_n (i := 0) (q := 0) hC dX9_asNumber_0 rfl rfl ?_
  refine x_if_eq (t := 8) hC dX9_asNumber_1 (by decide) (fun q => ?_) (fun q => ?_)
  · replace h := h.1 q
    refine x_iconst (v := 0) hC dX9_asNumber_8 (by decide) ?_
    exact x_iret hC hr dX9_asNumber_9 h
  · replace h := h.2 q
    refine x_iconst (v := 1) hC dX9_asNumber_4 (by decide) ?_
    refine x_goto (t := 9) hC dX9_asNumber_5 (by decide) ?_
    exact x_iret hC hr dX9_asNumber_9 h
theorem kf_X9_key_12 : x_okf wsX9_key RX9 12 9 0 = true := by decide +kernel
def vc_X9_key (g : xG) (v1 : Int32) (v2 : Int32) (v3 : Int32) (M : xM) (P : Int32 → xM → Prop) : Prop := (mi_X0_errorOfNames g v1 v2 v3 M (fun r1 N2 => ((r1 = 0 → (mi_X0_keyAndTen g v1 v2 v3 N2 (fun r3 N4 => P r3 N4))) ∧ (¬ (r1 = 0) → P r1 N2))))
set_option maxRecDepth 100000 in
set_option maxHeartbeats 4000000 in
theorem wk_X9_key {g : xG} (v1 : Int32) (v2 : Int32) (v3 : Int32) (M : xM) (P : Int32 → xM → Prop) (h0 : vc_X9_key g v1 v2 v3 M P ) : mi_X9_key g v1 v2 v3 M P := by
  refine x_startI (as := [.ref (x_a g 180), .int v1, .int v2, .int v3]) (cc := cX9_key) (n := 5) (ret := (some .int)) (own := RX9) (by decide) rfl rfl (Nat.le_of_ble_eq_true rfl) (fun x hC hr => ?_)
  have h := h0
  unfold vc_X9_key at h
  refine x_aload_n (i := 0) (q := 0) hC dX9_key_0 rfl rfl ?_
  refine x_getr (k := 0) (r := 0) hC xo_180 rfl kf_X9_key_12 dX9_key_1 ?_
  refine x_iload_n (i := 1) (q := 1) hC dX9_key_4 rfl rfl ?_
  refine x_iload_n (i := 2) (q := 2) hC dX9_key_5 rfl rfl ?_
  refine x_iload_n (i := 3) (q := 3) hC dX9_key_6 rfl rfl ?_
  refine x_callVi (q := (RX0, TX0, 6)) (As := [.int v1, .int v2, .int v3]) hC xo_0 rfl h gX9_key_X0_errorOfNames rfl rfl rfl hy_X0_errorOfNames ⟨Nat.le_of_ble_eq_true rfl, Nat.le_of_ble_eq_true rfl⟩ rfl (Nat.le_of_ble_eq_true rfl) rfl dX9_key_7 (fun r1 N2 h => ?_)
  refine x_istore (ls' := [(4, .int r1), (0, .ref (x_a g 180)), (1, .int v1), (2, .int v2), (3, .int v3)]) hC dX9_key_10 (by decide) rfl ?_
  refine x_iload (q := 0) hC dX9_key_12 rfl ?_
  refine x_if_eq (t := 20) hC dX9_key_14 (by decide) (fun q => ?_) (fun q => ?_)
  · replace h := h.1 q
    refine x_aload_n (i := 0) (q := 1) hC dX9_key_20 rfl rfl ?_
    refine x_getr (k := 0) (r := 0) hC xo_180 rfl kf_X9_key_12 dX9_key_21 ?_
    refine x_iload_n (i := 1) (q := 2) hC dX9_key_24 rfl rfl ?_
    refine x_iload_n (i := 2) (q := 3) hC dX9_key_25 rfl rfl ?_
    refine x_iload_n (i := 3) (q := 4) hC dX9_key_26 rfl rfl ?_
    refine x_callVi (q := (RX0, TX0, 6)) (As := [.int v1, .int v2, .int v3]) hC xo_0 rfl h gX9_key_X0_keyAndTen rfl rfl rfl hy_X0_keyAndTen ⟨Nat.le_of_ble_eq_true rfl, Nat.le_of_ble_eq_true rfl⟩ rfl (Nat.le_of_ble_eq_true rfl) rfl dX9_key_27 (fun r3 N4 h => ?_)
    exact x_iret hC hr dX9_key_30 h
  · replace h := h.2 q
    refine x_iload (q := 0) hC dX9_key_17 rfl ?_
    exact x_iret hC hr dX9_key_19 h
theorem kf_X9_beginWithout_48 : x_okf wsX9_beginWithout RX9 48 9 6 = true := by decide +kernel
theorem kf_X9_beginWithout_12 : x_okf wsX9_beginWithout RX9 12 9 0 = true := by decide +kernel
theorem kf_X9_beginWithout_238 : x_okf wsX9_beginWithout RX9 238 5 2 = true := by decide +kernel
def vc_X9_beginWithout (g : xG) (v1 : Int32) (v2 : Int32) (M : xM) (P : Int32 → xM → Prop) : Prop := (mi_X5_lookAhead g v1 v2 M (fun N1 => P (N1 191 2) N1))
set_option maxRecDepth 100000 in
set_option maxHeartbeats 4000000 in
theorem wk_X9_beginWithout {g : xG} (v1 : Int32) (v2 : Int32) (M : xM) (P : Int32 → xM → Prop) (h0 : vc_X9_beginWithout g v1 v2 M P ) : mi_X9_beginWithout g v1 v2 M P := by
  refine x_startI (as := [.ref (x_a g 180), .int v1, .int v2]) (cc := cX9_beginWithout) (n := 3) (ret := (some .int)) (own := RX9) (by decide) rfl rfl (Nat.le_of_ble_eq_true rfl) (fun x hC hr => ?_)
  have h := h0
  unfold vc_X9_beginWithout at h
  refine x_aload_n (i := 0) (q := 0) hC dX9_beginWithout_0 rfl rfl ?_
  refine x_getr (k := 6) (r := 191) hC xo_180 rfl kf_X9_beginWithout_48 dX9_beginWithout_1 ?_
  refine x_aload_n (i := 0) (q := 0) hC dX9_beginWithout_4 rfl rfl ?_
  refine x_getr (k := 0) (r := 0) hC xo_180 rfl kf_X9_beginWithout_12 dX9_beginWithout_5 ?_
  refine x_iload_n (i := 1) (q := 1) hC dX9_beginWithout_8 rfl rfl ?_
  refine x_iload_n (i := 2) (q := 2) hC dX9_beginWithout_9 rfl rfl ?_
  refine x_callVv (q := (RX5, TX5, 3)) (As := [.ref (x_a g 0), .int v1, .int v2]) hC xo_191 rfl h gX9_beginWithout_X5_lookAhead rfl rfl rfl hy_X5_lookAhead ⟨Nat.le_of_ble_eq_true rfl, Nat.le_of_ble_eq_true rfl⟩ rfl (Nat.le_of_ble_eq_true rfl) rfl dX9_beginWithout_10 (fun N1 h => ?_)
  refine x_aload_n (i := 0) (q := 0) hC dX9_beginWithout_13 rfl rfl ?_
  refine x_getr (k := 6) (r := 191) hC xo_180 rfl kf_X9_beginWithout_48 dX9_beginWithout_14 ?_
  refine x_geti (k := 2) hC xo_191 rfl kf_X9_beginWithout_238 dX9_beginWithout_17 ?_
  exact x_iret hC hr dX9_beginWithout_20 h
