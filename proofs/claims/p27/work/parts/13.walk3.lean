theorem kf_X9_song_12 : x_okf wsX9_song RX9 12 9 0 = true := by decide +kernel
theorem kf_X9_song_78 : x_okf wsX9_song RX9 78 0 1 = true := by decide +kernel
theorem kf_X9_song_82 : x_okf wsX9_song RX9 82 7 0 = true := by decide +kernel
theorem kf_X9_song_19 : x_okf wsX9_song RX9 19 9 1 = true := by decide +kernel
def vc_X9_song (g : xG) (v1 : Int32) (v2 : Int32) (v3 : Int32) (M : xM) (P : Int32 → xM → Prop) : Prop := (mi_X9_isToneRange g v1 v2 M (fun r1 N2 => ((r1 = 0 → P (-2 : Int32) N2) ∧ (¬ (r1 = 0) → (mi_X9_isBetween g v3 (1 : Int32) (9 : Int32) N2 (fun r3 N4 => ((¬ r3 = 0 → (((N4 6 0) < (16 : Int32) → (mi_X1_keep g N4 (fun N5 => (mi_X7_add g v1 v2 v3 N5 (fun r6 N7 => P r6 N7))))) ∧ (¬ ((N4 6 0) < (16 : Int32)) → P (-4 : Int32) N4))) ∧ (r3 = 0 → P (-2 : Int32) N4))))))))
set_option maxRecDepth 100000 in
set_option maxHeartbeats 4000000 in
theorem wk_X9_song {g : xG} (v1 : Int32) (v2 : Int32) (v3 : Int32) (M : xM) (P : Int32 → xM → Prop) (h0 : vc_X9_song g v1 v2 v3 M P ) : mi_X9_song g v1 v2 v3 M P := by
  refine x_startI (as := [.ref (x_a g 180), .int v1, .int v2, .int v3]) (cc := cX9_song) (n := 4) (ret := (some .int)) (own := RX9) (by decide) rfl rfl (Nat.le_of_ble_eq_true rfl) (fun x hC hr => ?_)
  have h := h0
  unfold vc_X9_song at h
  refine x_iload_n (i := 1) (q := 1) hC dX9_song_0 rfl rfl ?_
  refine x_iload_n (i := 2) (q := 2) hC dX9_song_1 rfl rfl ?_
  refine x_callSi (As := [.int v1, .int v2]) hC h gX9_song_X9_isToneRange rfl rfl rfl hy_X9_isToneRange.2 ⟨Nat.le_of_ble_eq_true rfl, Nat.le_of_ble_eq_true rfl⟩ rfl (Nat.le_of_ble_eq_true rfl) rfl dX9_song_2 (fun r1 N2 h => ?_)
  refine x_if_eq (t := 18) hC dX9_song_5 (by decide) (fun q => ?_) (fun q => ?_)
  · replace h := h.1 q
    refine x_bipush (v := -2) hC dX9_song_18 (by decide) ?_
    exact x_iret hC hr dX9_song_20 h
  · replace h := h.2 q
    refine x_iload_n (i := 3) (q := 3) hC dX9_song_8 rfl rfl ?_
    refine x_iconst (v := 1) hC dX9_song_9 (by decide) ?_
    refine x_bipush (v := 9) hC dX9_song_10 (by decide) ?_
    refine x_callSi (As := [.int v3, .int (1 : Int32), .int (9 : Int32)]) hC h gX9_song_X9_isBetween rfl rfl rfl hy_X9_isBetween.2 ⟨Nat.le_of_ble_eq_true rfl, Nat.le_of_ble_eq_true rfl⟩ rfl (Nat.le_of_ble_eq_true rfl) rfl dX9_song_12 (fun r3 N4 h => ?_)
    refine x_if_ne (t := 21) hC dX9_song_15 (by decide) (fun q => ?_) (fun q => ?_)
    · replace h := h.1 q
      refine x_aload_n (i := 0) (q := 0) hC dX9_song_21 rfl rfl ?_
      refine x_getr (k := 0) (r := 0) hC xo_180 rfl kf_X9_song_12 dX9_song_22 ?_
      refine x_getr (k := 1) (r := 6) hC xo_0 rfl kf_X9_song_78 dX9_song_25 ?_
      refine x_geti (k := 0) hC xo_6 rfl kf_X9_song_82 dX9_song_28 ?_
      refine x_bipush (v := 16) hC dX9_song_31 (by decide) ?_
      refine x_icmp_lt (t := 39) hC dX9_song_33 (by decide) (fun q => ?_) (fun q => ?_)
      · replace h := h.1 q
        refine x_aload_n (i := 0) (q := 0) hC dX9_song_39 rfl rfl ?_
        refine x_getr (k := 1) (r := 181) hC xo_180 rfl kf_X9_song_19 dX9_song_40 ?_
        refine x_aload_n (i := 0) (q := 0) hC dX9_song_43 rfl rfl ?_
        refine x_getr (k := 0) (r := 0) hC xo_180 rfl kf_X9_song_12 dX9_song_44 ?_
        refine x_callVv (q := (RX1, TX1, 3)) (As := [.ref (x_a g 0)]) hC xo_181 rfl h gX9_song_X1_keep rfl rfl rfl hy_X1_keep ⟨Nat.le_of_ble_eq_true rfl, Nat.le_of_ble_eq_true rfl⟩ rfl (Nat.le_of_ble_eq_true rfl) rfl dX9_song_47 (fun N5 h => ?_)
        refine x_aload_n (i := 0) (q := 0) hC dX9_song_50 rfl rfl ?_
        refine x_getr (k := 0) (r := 0) hC xo_180 rfl kf_X9_song_12 dX9_song_51 ?_
        refine x_getr (k := 1) (r := 6) hC xo_0 rfl kf_X9_song_78 dX9_song_54 ?_
        refine x_iload_n (i := 1) (q := 1) hC dX9_song_57 rfl rfl ?_
        refine x_iload_n (i := 2) (q := 2) hC dX9_song_58 rfl rfl ?_
        refine x_iload_n (i := 3) (q := 3) hC dX9_song_59 rfl rfl ?_
        refine x_callVi (q := (RX7, TX7, 5)) (As := [.int v1, .int v2, .int v3]) hC xo_6 rfl h gX9_song_X7_add rfl rfl rfl hy_X7_add ⟨Nat.le_of_ble_eq_true rfl, Nat.le_of_ble_eq_true rfl⟩ rfl (Nat.le_of_ble_eq_true rfl) rfl dX9_song_60 (fun r6 N7 h => ?_)
        exact x_iret hC hr dX9_song_63 h
      · replace h := h.2 q
        refine x_bipush (v := -4) hC dX9_song_36 (by decide) ?_
        exact x_iret hC hr dX9_song_38 h
    · replace h := h.2 q
      refine x_bipush (v := -2) hC dX9_song_18 (by decide) ?_
      exact x_iret hC hr dX9_song_20 h
theorem kf_X9_leave_12 : x_okf wsX9_leave RX9 12 9 0 = true := by decide +kernel
theorem kf_X9_leave_56 : x_okf wsX9_leave RX9 56 0 0 = true := by decide +kernel
theorem kf_X9_leave_19 : x_okf wsX9_leave RX9 19 9 1 = true := by decide +kernel
theorem kf_X9_leave_99 : x_okf wsX9_leave RX9 99 6 1 = true := by decide +kernel
def vc_X9_leave (g : xG) (v1 : Int32) (v2 : Int32) (M : xM) (P : Int32 → xM → Prop) : Prop := (mi_X6_has g v1 M (fun r1 N2 => ((¬ r1 = 0 → (mi_X6_isThere g v1 N2 (fun r3 N4 => ((v2 = r3 → (mi_X1_keep g N4 (fun N5 => ((¬ v2 = 0 → (mi_X6_setThere g v1 (0 : Int32) N5 (fun N6 => (mi_J6_bitCount_0f7a4 g (N6 1 1) N6 (fun r7 N8 => P r7 N8))))) ∧ (v2 = 0 → (mi_X6_setThere g v1 (1 : Int32) N5 (fun N9 => (mi_J6_bitCount_0f7a4 g (N9 1 1) N9 (fun r10 N11 => P r10 N11))))))))) ∧ (¬ (v2 = r3) → P (-5 : Int32) N4))))) ∧ (r1 = 0 → P (-1 : Int32) N2))))
set_option maxRecDepth 100000 in
set_option maxHeartbeats 4000000 in
theorem wk_X9_leave {g : xG} (v1 : Int32) (v2 : Int32) (M : xM) (P : Int32 → xM → Prop) (h0 : vc_X9_leave g v1 v2 M P ) : mi_X9_leave g v1 v2 M P := by
  refine x_startI (as := [.ref (x_a g 180), .int v1, .int v2]) (cc := cX9_leave) (n := 3) (ret := (some .int)) (own := RX9) (by decide) rfl rfl (Nat.le_of_ble_eq_true rfl) (fun x hC hr => ?_)
  have h := h0
  unfold vc_X9_leave at h
  refine x_aload_n (i := 0) (q := 0) hC dX9_leave_0 rfl rfl ?_
  refine x_getr (k := 0) (r := 0) hC xo_180 rfl kf_X9_leave_12 dX9_leave_1 ?_
  refine x_getr (k := 0) (r := 1) hC xo_0 rfl kf_X9_leave_56 dX9_leave_4 ?_
  refine x_iload_n (i := 1) (q := 1) hC dX9_leave_7 rfl rfl ?_
  refine x_callVi (q := (RX6, TX6, 7)) (As := [.int v1]) hC xo_1 rfl h gX9_leave_X6_has rfl rfl rfl hy_X6_has ⟨Nat.le_of_ble_eq_true rfl, Nat.le_of_ble_eq_true rfl⟩ rfl (Nat.le_of_ble_eq_true rfl) rfl dX9_leave_8 (fun r1 N2 h => ?_)
  refine x_if_ne (t := 16) hC dX9_leave_11 (by decide) (fun q => ?_) (fun q => ?_)
  · replace h := h.1 q
    refine x_iload_n (i := 2) (q := 2) hC dX9_leave_16 rfl rfl ?_
    refine x_aload_n (i := 0) (q := 0) hC dX9_leave_17 rfl rfl ?_
    refine x_getr (k := 0) (r := 0) hC xo_180 rfl kf_X9_leave_12 dX9_leave_18 ?_
    refine x_getr (k := 0) (r := 1) hC xo_0 rfl kf_X9_leave_56 dX9_leave_21 ?_
    refine x_iload_n (i := 1) (q := 1) hC dX9_leave_24 rfl rfl ?_
    refine x_callVi (q := (RX6, TX6, 7)) (As := [.int v1]) hC xo_1 rfl h gX9_leave_X6_isThere rfl rfl rfl hy_X6_isThere ⟨Nat.le_of_ble_eq_true rfl, Nat.le_of_ble_eq_true rfl⟩ rfl (Nat.le_of_ble_eq_true rfl) rfl dX9_leave_25 (fun r3 N4 h => ?_)
    refine x_icmp_eq (t := 34) hC dX9_leave_28 (by decide) (fun q => ?_) (fun q => ?_)
    · replace h := h.1 q
      refine x_aload_n (i := 0) (q := 0) hC dX9_leave_34 rfl rfl ?_
      refine x_getr (k := 1) (r := 181) hC xo_180 rfl kf_X9_leave_19 dX9_leave_35 ?_
      refine x_aload_n (i := 0) (q := 0) hC dX9_leave_38 rfl rfl ?_
      refine x_getr (k := 0) (r := 0) hC xo_180 rfl kf_X9_leave_12 dX9_leave_39 ?_
      refine x_callVv (q := (RX1, TX1, 3)) (As := [.ref (x_a g 0)]) hC xo_181 rfl h gX9_leave_X1_keep rfl rfl rfl hy_X1_keep ⟨Nat.le_of_ble_eq_true rfl, Nat.le_of_ble_eq_true rfl⟩ rfl (Nat.le_of_ble_eq_true rfl) rfl dX9_leave_42 (fun N5 h => ?_)
      refine x_aload_n (i := 0) (q := 0) hC dX9_leave_45 rfl rfl ?_
      refine x_getr (k := 0) (r := 0) hC xo_180 rfl kf_X9_leave_12 dX9_leave_46 ?_
      refine x_getr (k := 0) (r := 1) hC xo_0 rfl kf_X9_leave_56 dX9_leave_49 ?_
      refine x_iload_n (i := 1) (q := 1) hC dX9_leave_52 rfl rfl ?_
      refine x_iload_n (i := 2) (q := 2) hC dX9_leave_53 rfl rfl ?_
      refine x_if_ne (t := 61) hC dX9_leave_54 (by decide) (fun q => ?_) (fun q => ?_)
      · replace h := h.1 q
        refine x_iconst (v := 0) hC dX9_leave_61 (by decide) ?_
        refine x_callVv (q := (RX6, TX6, 7)) (As := [.int v1, .int (0 : Int32)]) hC xo_1 rfl h gX9_leave_X6_setThere rfl rfl rfl hy_X6_setThere ⟨Nat.le_of_ble_eq_true rfl, Nat.le_of_ble_eq_true rfl⟩ rfl (Nat.le_of_ble_eq_true rfl) rfl dX9_leave_62 (fun N6 h => ?_)
        refine x_aload_n (i := 0) (q := 0) hC dX9_leave_65 rfl rfl ?_
        refine x_getr (k := 0) (r := 0) hC xo_180 rfl kf_X9_leave_12 dX9_leave_66 ?_
        refine x_getr (k := 0) (r := 1) hC xo_0 rfl kf_X9_leave_56 dX9_leave_69 ?_
        refine x_geti (k := 1) hC xo_1 rfl kf_X9_leave_99 dX9_leave_72 ?_
        refine x_callSi (As := [.int (N6 1 1)]) hC h gX9_leave_J6_bitCount_0f7a4 rfl rfl rfl hy_J6_bitCount_0f7a4.2 ⟨Nat.le_of_ble_eq_true rfl, Nat.le_of_ble_eq_true rfl⟩ rfl (Nat.le_of_ble_eq_true rfl) rfl dX9_leave_75 (fun r7 N8 h => ?_)
        exact x_iret hC hr dX9_leave_78 h
      · replace h := h.2 q
        refine x_iconst (v := 1) hC dX9_leave_57 (by decide) ?_
        refine x_goto (t := 62) hC dX9_leave_58 (by decide) ?_
        refine x_callVv (q := (RX6, TX6, 7)) (As := [.int v1, .int (1 : Int32)]) hC xo_1 rfl h gX9_leave_X6_setThere rfl rfl rfl hy_X6_setThere ⟨Nat.le_of_ble_eq_true rfl, Nat.le_of_ble_eq_true rfl⟩ rfl (Nat.le_of_ble_eq_true rfl) rfl dX9_leave_62 (fun N9 h => ?_)
        refine x_aload_n (i := 0) (q := 0) hC dX9_leave_65 rfl rfl ?_
        refine x_getr (k := 0) (r := 0) hC xo_180 rfl kf_X9_leave_12 dX9_leave_66 ?_
        refine x_getr (k := 0) (r := 1) hC xo_0 rfl kf_X9_leave_56 dX9_leave_69 ?_
        refine x_geti (k := 1) hC xo_1 rfl kf_X9_leave_99 dX9_leave_72 ?_
        refine x_callSi (As := [.int (N9 1 1)]) hC h gX9_leave_J6_bitCount_0f7a4 rfl rfl rfl hy_J6_bitCount_0f7a4.2 ⟨Nat.le_of_ble_eq_true rfl, Nat.le_of_ble_eq_true rfl⟩ rfl (Nat.le_of_ble_eq_true rfl) rfl dX9_leave_75 (fun r10 N11 h => ?_)
        exact x_iret hC hr dX9_leave_78 h
    · replace h := h.2 q
      refine x_bipush (v := -5) hC dX9_leave_31 (by decide) ?_
      exact x_iret hC hr dX9_leave_33 h
  · replace h := h.2 q
    refine x_iconst (v := -1) hC dX9_leave_14 (by decide) ?_
    exact x_iret hC hr dX9_leave_15 h
theorem kf_X9_sing_19 : x_okf wsX9_sing RX9 19 9 1 = true := by decide +kernel
theorem kf_X9_sing_12 : x_okf wsX9_sing RX9 12 9 0 = true := by decide +kernel
def vc_X9_sing (g : xG) (v1 : Int32) (M : xM) (P : Int32 → xM → Prop) (K1 : Int32 → Int32 → xM → Prop) : Prop := (mi_X9_isBetween g v1 (1 : Int32) (20 : Int32) M (fun r1 N2 => ((¬ r1 = 0 → (mi_X1_keep g N2 (fun N3 => K1 v1 (0 : Int32) N3))) ∧ (r1 = 0 → P (-2 : Int32) N2))))
def vc_X9_sing_1 (g : xG) (v1 : Int32) (v2 : Int32) (M : xM) (P : Int32 → xM → Prop) (K1 : Int32 → Int32 → xM → Prop) : Prop := ((v1 ≤ v2 → P v1 M) ∧ (¬ (v1 ≤ v2) → (mi_X0_nextWish g M (fun r4 N5 => ((¬ r4 = (-6 : Int32) → (mi_X0_singTurn g r4 N5 (fun N6 => K1 v1 (v2 + (1 : Int32)) N6))) ∧ (r4 = (-6 : Int32) → P v2 N5))))))
set_option maxRecDepth 100000 in
set_option maxHeartbeats 4000000 in
theorem wk_X9_sing {g : xG} (v1 : Int32) (M : xM) (P : Int32 → xM → Prop) (I1 : Nat → Int32 → Int32 → xM → Prop) (h0 : vc_X9_sing g v1 M P (fun v1 v2 N => ∃ k, I1 k v1 v2 N)) (h1 : ∀ (n : Nat) (v1 : Int32) (v2 : Int32) (N : xM), I1 n v1 v2 N → vc_X9_sing_1 g v1 v2 N P (fun v1 v2 N => ∃ k, k < n ∧ I1 k v1 v2 N)) : mi_X9_sing g v1 M P := by
  refine x_startI (as := [.ref (x_a g 180), .int v1]) (cc := cX9_sing) (n := 4) (ret := (some .int)) (own := RX9) (by decide) rfl rfl (Nat.le_of_ble_eq_true rfl) (fun x hC hr => ?_)
  have L : ∀ n : Nat, (∀ (v1 : Int32) (v2 : Int32) (N : xM), I1 n v1 v2 N → x_W x g 4 (x_Qi x g P) N 26 [(0, .ref (x_a g 180)), (1, .int v1), (2, .int v2)] []) := by
    intro n
    induction n using Nat.strongRecOn with
    | ind n ih =>
      intro v1 v2 M hI
      have h := h1 n v1 v2 M hI
      unfold vc_X9_sing_1 at h
      refine x_iload_n (i := 2) (q := 2) hC dX9_sing_26 rfl rfl ?_
      refine x_iload_n (i := 1) (q := 1) hC dX9_sing_27 rfl rfl ?_
      refine x_icmp_ge (t := 61) hC dX9_sing_28 (by decide) (fun q => ?_) (fun q => ?_)
      · replace h := h.1 q
        refine x_iload_n (i := 1) (q := 1) hC dX9_sing_61 rfl rfl ?_
        exact x_iret hC hr dX9_sing_62 h
      · replace h := h.2 q
        refine x_aload_n (i := 0) (q := 0) hC dX9_sing_31 rfl rfl ?_
        refine x_getr (k := 0) (r := 0) hC xo_180 rfl kf_X9_sing_12 dX9_sing_32 ?_
        refine x_callVi (q := (RX0, TX0, 6)) (As := []) hC xo_0 rfl h gX9_sing_X0_nextWish rfl rfl rfl hy_X0_nextWish ⟨Nat.le_of_ble_eq_true rfl, Nat.le_of_ble_eq_true rfl⟩ rfl (Nat.le_of_ble_eq_true rfl) rfl dX9_sing_35 (fun r4 N5 h => ?_)
        refine x_istore_n (i := 3) (ls' := [(3, .int r4), (0, .ref (x_a g 180)), (1, .int v1), (2, .int v2)]) hC dX9_sing_38 rfl (by decide) rfl ?_
        refine x_iload_n (i := 3) (q := 0) hC dX9_sing_39 rfl rfl ?_
        refine x_bipush (v := -6) hC dX9_sing_40 (by decide) ?_
        refine x_icmp_ne (t := 47) hC dX9_sing_42 (by decide) (fun q => ?_) (fun q => ?_)
        · replace h := h.1 q
          refine x_aload_n (i := 0) (q := 1) hC dX9_sing_47 rfl rfl ?_
          refine x_getr (k := 0) (r := 0) hC xo_180 rfl kf_X9_sing_12 dX9_sing_48 ?_
          refine x_iload_n (i := 3) (q := 0) hC dX9_sing_51 rfl rfl ?_
          refine x_callVv (q := (RX0, TX0, 6)) (As := [.int r4]) hC xo_0 rfl h gX9_sing_X0_singTurn rfl rfl rfl hy_X0_singTurn ⟨Nat.le_of_ble_eq_true rfl, Nat.le_of_ble_eq_true rfl⟩ rfl (Nat.le_of_ble_eq_true rfl) rfl dX9_sing_52 (fun N6 h => ?_)
          refine x_iinc (k := 3) (v' := (v2 + (1 : Int32))) (ls' := [(2, .int (v2 + (1 : Int32))), (3, .int r4), (0, .ref (x_a g 180)), (1, .int v1)]) hC dX9_sing_55 rfl rfl (by decide) rfl ?_
          refine x_goto (t := 26) hC dX9_sing_58 (by decide) ?_
          obtain ⟨n_1, hn, h⟩ := h
          exact x_sub [2, 3, 0] rfl ((ih n_1 hn) _ _ _ h)
        · replace h := h.2 q
          refine x_iload_n (i := 2) (q := 3) hC dX9_sing_45 rfl rfl ?_
          exact x_iret hC hr dX9_sing_46 h
  have h := h0
  unfold vc_X9_sing at h
  refine x_iload_n (i := 1) (q := 1) hC dX9_sing_0 rfl rfl ?_
  refine x_iconst (v := 1) hC dX9_sing_1 (by decide) ?_
  refine x_bipush (v := 20) hC dX9_sing_2 (by decide) ?_
  refine x_callSi (As := [.int v1, .int (1 : Int32), .int (20 : Int32)]) hC h gX9_sing_X9_isBetween rfl rfl rfl hy_X9_isBetween.2 ⟨Nat.le_of_ble_eq_true rfl, Nat.le_of_ble_eq_true rfl⟩ rfl (Nat.le_of_ble_eq_true rfl) rfl dX9_sing_4 (fun r1 N2 h => ?_)
  refine x_if_ne (t := 13) hC dX9_sing_7 (by decide) (fun q => ?_) (fun q => ?_)
  · replace h := h.1 q
    refine x_aload_n (i := 0) (q := 0) hC dX9_sing_13 rfl rfl ?_
    refine x_getr (k := 1) (r := 181) hC xo_180 rfl kf_X9_sing_19 dX9_sing_14 ?_
    refine x_aload_n (i := 0) (q := 0) hC dX9_sing_17 rfl rfl ?_
    refine x_getr (k := 0) (r := 0) hC xo_180 rfl kf_X9_sing_12 dX9_sing_18 ?_
    refine x_callVv (q := (RX1, TX1, 3)) (As := [.ref (x_a g 0)]) hC xo_181 rfl h gX9_sing_X1_keep rfl rfl rfl hy_X1_keep ⟨Nat.le_of_ble_eq_true rfl, Nat.le_of_ble_eq_true rfl⟩ rfl (Nat.le_of_ble_eq_true rfl) rfl dX9_sing_21 (fun N3 h => ?_)
    refine x_iconst (v := 0) hC dX9_sing_24 (by decide) ?_
    refine x_istore_n (i := 2) (ls' := [(2, .int (0 : Int32)), (0, .ref (x_a g 180)), (1, .int v1)]) hC dX9_sing_25 rfl (by decide) rfl ?_
    obtain ⟨n_1, h⟩ := h
    exact x_sub [1, 2, 0] rfl ((L n_1) _ _ _ h)
  · replace h := h.2 q
    refine x_bipush (v := -2) hC dX9_sing_10 (by decide) ?_
    exact x_iret hC hr dX9_sing_12 h
theorem kf_X9_of_12 : x_okf wsX9_of RX9 12 9 0 = true := by decide +kernel
theorem kf_X9_of_56 : x_okf wsX9_of RX9 56 0 0 = true := by decide +kernel
theorem kf_X9_of_153 : x_okf wsX9_of RX9 153 6 3 = true := by decide +kernel
theorem kf_X9_of_156 : x_okf wsX9_of RX9 156 6 4 = true := by decide +kernel
theorem kf_X9_of_163 : x_okf wsX9_of RX9 163 6 5 = true := by decide +kernel
theorem kf_X9_of_166 : x_okf wsX9_of RX9 166 6 2 = true := by decide +kernel
theorem kf_X9_of_108 : x_okf wsX9_of RX9 108 0 2 = true := by decide +kernel
theorem kf_X9_of_175 : x_okf wsX9_of RX9 175 6 6 = true := by decide +kernel
def vc_X9_of (g : xG) (v1 : Int32) (v2 : Int32) (M : xM) (P : Int32 → xM → Prop) : Prop := (mi_X6_has g v1 M (fun r1 N2 => ((¬ r1 = 0 → ((((v2).toInt < 0 ∨ 6 < (v2).toInt) → P (-2 : Int32) N2) ∧ (v2 = (0 : Int32) → (vp_in v1 12 ∧ P (N2 2 (v1).toNatClampNeg) N2)) ∧ (v2 = (1 : Int32) → (vp_in v1 12 ∧ P (N2 3 (v1).toNatClampNeg) N2)) ∧ (v2 = (2 : Int32) → (mi_X6_isThere g v1 N2 (fun r3 N4 => (mi_X9_asNumber g r3 N4 (fun r5 N6 => P r5 N6))))) ∧ (v2 = (3 : Int32) → (vp_in v1 12 ∧ P (N2 4 (v1).toNatClampNeg) N2)) ∧ (v2 = (4 : Int32) → (mi_X9_isIn g (N2 1 2) v1 N2 (fun r7 N8 => (mi_X9_asNumber g r7 N8 (fun r9 N10 => P r9 N10))))) ∧ (v2 = (5 : Int32) → (mi_X8_numberWith g v1 N2 (fun r11 N12 => P r11 N12))) ∧ (v2 = (6 : Int32) → (vp_in v1 12 ∧ P (N2 5 (v1).toNatClampNeg) N2)))) ∧ (r1 = 0 → P (-1 : Int32) N2))))
set_option maxRecDepth 100000 in
set_option maxHeartbeats 4000000 in
theorem wk_X9_of {g : xG} (v1 : Int32) (v2 : Int32) (M : xM) (P : Int32 → xM → Prop) (h0 : vc_X9_of g v1 v2 M P ) : mi_X9_of g v1 v2 M P := by
  refine x_startI (as := [.ref (x_a g 180), .int v1, .int v2]) (cc := cX9_of) (n := 4) (ret := (some .int)) (own := RX9) (by decide) rfl rfl (Nat.le_of_ble_eq_true rfl) (fun x hC hr => ?_)
  have h := h0
  unfold vc_X9_of at h
  refine x_aload_n (i := 0) (q := 0) hC dX9_of_0 rfl rfl ?_
  refine x_getr (k := 0) (r := 0) hC xo_180 rfl kf_X9_of_12 dX9_of_1 ?_
  refine x_getr (k := 0) (r := 1) hC xo_0 rfl kf_X9_of_56 dX9_of_4 ?_
  refine x_astore_n (i := 3) (ls' := [(3, .ref (x_a g 1)), (0, .ref (x_a g 180)), (1, .int v1), (2, .int v2)]) hC dX9_of_7 rfl (by decide) rfl ?_
  refine x_aload_n (i := 3) (q := 0) hC dX9_of_8 rfl rfl ?_
  refine x_iload_n (i := 1) (q := 2) hC dX9_of_9 rfl rfl ?_
  refine x_callVi (q := (RX6, TX6, 7)) (As := [.int v1]) hC xo_1 rfl h gX9_of_X6_has rfl rfl rfl hy_X6_has ⟨Nat.le_of_ble_eq_true rfl, Nat.le_of_ble_eq_true rfl⟩ rfl (Nat.le_of_ble_eq_true rfl) rfl dX9_of_10 (fun r1 N2 h => ?_)
  refine x_if_ne (t := 18) hC dX9_of_13 (by decide) (fun q => ?_) (fun q => ?_)
  · replace h := h.1 q
    refine x_iload_n (i := 2) (q := 3) hC dX9_of_18 rfl rfl ?_
    rcases Classical.em ((v2).toInt < 0 ∨ 6 < (v2).toInt) with q | q
    · refine x_tsOut (t := 121) hC dX9_of_19 q (by decide) ?_
      replace h := h.1 q
      refine x_bipush (v := -2) hC dX9_of_121 (by decide) ?_
      exact x_iret hC hr dX9_of_123 h
    · have q2 : (v2).toInt = 0 ∨ (v2).toInt = 1 ∨ (v2).toInt = 2 ∨ (v2).toInt = 3 ∨ (v2).toInt = 4 ∨ (v2).toInt = 5 ∨ (v2).toInt = 6 := by omega
      rcases q2 with q2 | q2 | q2 | q2 | q2 | q2 | q2
      · replace q2 : v2 = (0 : Int32) := x_ofInt q2
        refine x_tsIn (o := 41) (t := 60) hC dX9_of_19 (by rw [q2]; decide) (by rw [q2]; decide) (by rw [q2]; rfl) (by decide) ?_
        replace h := h.2.1 q2
        refine x_aload_n (i := 3) (q := 0) hC dX9_of_60 rfl rfl ?_
        refine x_getr (k := 3) (r := 2) hC xo_1 rfl kf_X9_of_153 dX9_of_61 ?_
        refine x_iload_n (i := 1) (q := 2) hC dX9_of_64 rfl rfl ?_
        refine x_iald (len := 12) hC xa_2 h.1 dX9_of_65 ?_
        replace h := h.2
        exact x_iret hC hr dX9_of_66 h
      · replace q2 : v2 = (1 : Int32) := x_ofInt q2
        refine x_tsIn (o := 48) (t := 67) hC dX9_of_19 (by rw [q2]; decide) (by rw [q2]; decide) (by rw [q2]; rfl) (by decide) ?_
        replace h := h.2.2.1 q2
        refine x_aload_n (i := 3) (q := 0) hC dX9_of_67 rfl rfl ?_
        refine x_getr (k := 4) (r := 3) hC xo_1 rfl kf_X9_of_156 dX9_of_68 ?_
        refine x_iload_n (i := 1) (q := 2) hC dX9_of_71 rfl rfl ?_
        refine x_iald (len := 12) hC xa_3 h.1 dX9_of_72 ?_
        replace h := h.2
        exact x_iret hC hr dX9_of_73 h
      · replace q2 : v2 = (2 : Int32) := x_ofInt q2
        refine x_tsIn (o := 55) (t := 74) hC dX9_of_19 (by rw [q2]; decide) (by rw [q2]; decide) (by rw [q2]; rfl) (by decide) ?_
        replace h := h.2.2.2.1 q2
        refine x_aload_n (i := 3) (q := 0) hC dX9_of_74 rfl rfl ?_
        refine x_iload_n (i := 1) (q := 2) hC dX9_of_75 rfl rfl ?_
        refine x_callVi (q := (RX6, TX6, 7)) (As := [.int v1]) hC xo_1 rfl h gX9_of_X6_isThere rfl rfl rfl hy_X6_isThere ⟨Nat.le_of_ble_eq_true rfl, Nat.le_of_ble_eq_true rfl⟩ rfl (Nat.le_of_ble_eq_true rfl) rfl dX9_of_76 (fun r3 N4 h => ?_)
        refine x_callSi (As := [.int r3]) hC h gX9_of_X9_asNumber rfl rfl rfl hy_X9_asNumber.2 ⟨Nat.le_of_ble_eq_true rfl, Nat.le_of_ble_eq_true rfl⟩ rfl (Nat.le_of_ble_eq_true rfl) rfl dX9_of_79 (fun r5 N6 h => ?_)
        exact x_iret hC hr dX9_of_82 h
      · replace q2 : v2 = (3 : Int32) := x_ofInt q2
        refine x_tsIn (o := 64) (t := 83) hC dX9_of_19 (by rw [q2]; decide) (by rw [q2]; decide) (by rw [q2]; rfl) (by decide) ?_
        replace h := h.2.2.2.2.1 q2
        refine x_aload_n (i := 3) (q := 0) hC dX9_of_83 rfl rfl ?_
        refine x_getr (k := 5) (r := 4) hC xo_1 rfl kf_X9_of_163 dX9_of_84 ?_
        refine x_iload_n (i := 1) (q := 2) hC dX9_of_87 rfl rfl ?_
        refine x_iald (len := 12) hC xa_4 h.1 dX9_of_88 ?_
        replace h := h.2
        exact x_iret hC hr dX9_of_89 h
      · replace q2 : v2 = (4 : Int32) := x_ofInt q2
        refine x_tsIn (o := 71) (t := 90) hC dX9_of_19 (by rw [q2]; decide) (by rw [q2]; decide) (by rw [q2]; rfl) (by decide) ?_
        replace h := h.2.2.2.2.2.1 q2
        refine x_aload_n (i := 3) (q := 0) hC dX9_of_90 rfl rfl ?_
        refine x_geti (k := 2) hC xo_1 rfl kf_X9_of_166 dX9_of_91 ?_
        refine x_iload_n (i := 1) (q := 2) hC dX9_of_94 rfl rfl ?_
        refine x_callSi (As := [.int (N2 1 2), .int v1]) hC h gX9_of_X9_isIn rfl rfl rfl hy_X9_isIn.2 ⟨Nat.le_of_ble_eq_true rfl, Nat.le_of_ble_eq_true rfl⟩ rfl (Nat.le_of_ble_eq_true rfl) rfl dX9_of_95 (fun r7 N8 h => ?_)
        refine x_callSi (As := [.int r7]) hC h gX9_of_X9_asNumber rfl rfl rfl hy_X9_asNumber.2 ⟨Nat.le_of_ble_eq_true rfl, Nat.le_of_ble_eq_true rfl⟩ rfl (Nat.le_of_ble_eq_true rfl) rfl dX9_of_98 (fun r9 N10 h => ?_)
        exact x_iret hC hr dX9_of_101 h
      · replace q2 : v2 = (5 : Int32) := x_ofInt q2
        refine x_tsIn (o := 83) (t := 102) hC dX9_of_19 (by rw [q2]; decide) (by rw [q2]; decide) (by rw [q2]; rfl) (by decide) ?_
        replace h := h.2.2.2.2.2.2.1 q2
        refine x_aload_n (i := 0) (q := 1) hC dX9_of_102 rfl rfl ?_
        refine x_getr (k := 0) (r := 0) hC xo_180 rfl kf_X9_of_12 dX9_of_103 ?_
        refine x_getr (k := 2) (r := 11) hC xo_0 rfl kf_X9_of_108 dX9_of_106 ?_
        refine x_iload_n (i := 1) (q := 2) hC dX9_of_109 rfl rfl ?_
        refine x_callVi (q := (RX8, TX8, 4)) (As := [.int v1]) hC xo_11 rfl h gX9_of_X8_numberWith rfl rfl rfl hy_X8_numberWith ⟨Nat.le_of_ble_eq_true rfl, Nat.le_of_ble_eq_true rfl⟩ rfl (Nat.le_of_ble_eq_true rfl) rfl dX9_of_110 (fun r11 N12 h => ?_)
        exact x_iret hC hr dX9_of_113 h
      · replace q2 : v2 = (6 : Int32) := x_ofInt q2
        refine x_tsIn (o := 95) (t := 114) hC dX9_of_19 (by rw [q2]; decide) (by rw [q2]; decide) (by rw [q2]; rfl) (by decide) ?_
        replace h := h.2.2.2.2.2.2.2 q2
        refine x_aload_n (i := 3) (q := 0) hC dX9_of_114 rfl rfl ?_
        refine x_getr (k := 6) (r := 5) hC xo_1 rfl kf_X9_of_175 dX9_of_115 ?_
        refine x_iload_n (i := 1) (q := 2) hC dX9_of_118 rfl rfl ?_
        refine x_iald (len := 12) hC xa_5 h.1 dX9_of_119 ?_
        replace h := h.2
        exact x_iret hC hr dX9_of_120 h
  · replace h := h.2 q
    refine x_iconst (v := -1) hC dX9_of_16 (by decide) ?_
    exact x_iret hC hr dX9_of_17 h
theorem kf_X9_inQueue_12 : x_okf wsX9_inQueue RX9 12 9 0 = true := by decide +kernel
theorem kf_X9_inQueue_108 : x_okf wsX9_inQueue RX9 108 0 2 = true := by decide +kernel
theorem kf_X9_inQueue_178 : x_okf wsX9_inQueue RX9 178 8 1 = true := by decide +kernel
theorem kf_X9_inQueue_179 : x_okf wsX9_inQueue RX9 179 8 2 = true := by decide +kernel
theorem kf_X9_inQueue_180 : x_okf wsX9_inQueue RX9 180 8 3 = true := by decide +kernel
theorem kf_X9_inQueue_56 : x_okf wsX9_inQueue RX9 56 0 0 = true := by decide +kernel
theorem kf_X9_inQueue_99 : x_okf wsX9_inQueue RX9 99 6 1 = true := by decide +kernel
theorem kf_X9_inQueue_166 : x_okf wsX9_inQueue RX9 166 6 2 = true := by decide +kernel
theorem kf_X9_inQueue_163 : x_okf wsX9_inQueue RX9 163 6 5 = true := by decide +kernel
def vc_X9_inQueue (g : xG) (v1 : Int32) (v2 : Int32) (M : xM) (P : Int32 → xM → Prop) : Prop := (mi_X8_has g v1 M (fun r1 N2 => ((¬ r1 = 0 → ((((v2).toInt < 0 ∨ 6 < (v2).toInt) → P (-2 : Int32) N2) ∧ (v2 = (0 : Int32) → (vp_in v1 20 ∧ P (N2 12 (v1).toNatClampNeg) N2)) ∧ (v2 = (1 : Int32) → (vp_in v1 20 ∧ P (N2 13 (v1).toNatClampNeg) N2)) ∧ (v2 = (2 : Int32) → (vp_in v1 20 ∧ P (N2 14 (v1).toNatClampNeg) N2)) ∧ (v2 = (3 : Int32) → (vp_in v1 20 ∧ (vp_in v1 20 ∧ (vp_in v1 20 ∧ (mi_X0_keyAndTen g (N2 12 (v1).toNatClampNeg) (N2 13 (v1).toNatClampNeg) (N2 14 (v1).toNatClampNeg) N2 (fun r3 N4 => P r3 N4)))))) ∧ (v2 = (4 : Int32) → (mi_X8_readyOnes g (N2 1 1) N2 (fun r5 N6 => (mi_X9_isIn g r5 v1 N6 (fun r7 N8 => (mi_X9_asNumber g r7 N8 (fun r9 N10 => P r9 N10))))))) ∧ (v2 = (5 : Int32) → (mi_X8_freshOnes g (N2 1 2) N2 (fun r11 N12 => (mi_X9_isIn g r11 v1 N12 (fun r13 N14 => (mi_X9_asNumber g r13 N14 (fun r15 N16 => P r15 N16))))))) ∧ (v2 = (6 : Int32) → (mi_X8_turnsFor g v1 4 N2 (fun r17 N18 => P r17 N18))))) ∧ (r1 = 0 → P (-1 : Int32) N2))))
set_option maxRecDepth 100000 in
set_option maxHeartbeats 4000000 in
theorem wk_X9_inQueue {g : xG} (v1 : Int32) (v2 : Int32) (M : xM) (P : Int32 → xM → Prop) (h0 : vc_X9_inQueue g v1 v2 M P ) : mi_X9_inQueue g v1 v2 M P := by
  refine x_startI (as := [.ref (x_a g 180), .int v1, .int v2]) (cc := cX9_inQueue) (n := 4) (ret := (some .int)) (own := RX9) (by decide) rfl rfl (Nat.le_of_ble_eq_true rfl) (fun x hC hr => ?_)
  have h := h0
  unfold vc_X9_inQueue at h
  refine x_aload_n (i := 0) (q := 0) hC dX9_inQueue_0 rfl rfl ?_
  refine x_getr (k := 0) (r := 0) hC xo_180 rfl kf_X9_inQueue_12 dX9_inQueue_1 ?_
  refine x_getr (k := 2) (r := 11) hC xo_0 rfl kf_X9_inQueue_108 dX9_inQueue_4 ?_
  refine x_astore_n (i := 3) (ls' := [(3, .ref (x_a g 11)), (0, .ref (x_a g 180)), (1, .int v1), (2, .int v2)]) hC dX9_inQueue_7 rfl (by decide) rfl ?_
  refine x_aload_n (i := 3) (q := 0) hC dX9_inQueue_8 rfl rfl ?_
  refine x_iload_n (i := 1) (q := 2) hC dX9_inQueue_9 rfl rfl ?_
  refine x_callVi (q := (RX8, TX8, 4)) (As := [.int v1]) hC xo_11 rfl h gX9_inQueue_X8_has rfl rfl rfl hy_X8_has ⟨Nat.le_of_ble_eq_true rfl, Nat.le_of_ble_eq_true rfl⟩ rfl (Nat.le_of_ble_eq_true rfl) rfl dX9_inQueue_10 (fun r1 N2 h => ?_)
  refine x_if_ne (t := 18) hC dX9_inQueue_13 (by decide) (fun q => ?_) (fun q => ?_)
  · replace h := h.1 q
    refine x_iload_n (i := 2) (q := 3) hC dX9_inQueue_18 rfl rfl ?_
    rcases Classical.em ((v2).toInt < 0 ∨ 6 < (v2).toInt) with q | q
    · refine x_tsOut (t := 167) hC dX9_inQueue_19 q (by decide) ?_
      replace h := h.1 q
      refine x_bipush (v := -2) hC dX9_inQueue_167 (by decide) ?_
      exact x_iret hC hr dX9_inQueue_169 h
    · have q2 : (v2).toInt = 0 ∨ (v2).toInt = 1 ∨ (v2).toInt = 2 ∨ (v2).toInt = 3 ∨ (v2).toInt = 4 ∨ (v2).toInt = 5 ∨ (v2).toInt = 6 := by omega
      rcases q2 with q2 | q2 | q2 | q2 | q2 | q2 | q2
      · replace q2 : v2 = (0 : Int32) := x_ofInt q2
        refine x_tsIn (o := 41) (t := 60) hC dX9_inQueue_19 (by rw [q2]; decide) (by rw [q2]; decide) (by rw [q2]; rfl) (by decide) ?_
        replace h := h.2.1 q2
        refine x_aload_n (i := 3) (q := 0) hC dX9_inQueue_60 rfl rfl ?_
        refine x_getr (k := 1) (r := 12) hC xo_11 rfl kf_X9_inQueue_178 dX9_inQueue_61 ?_
        refine x_iload_n (i := 1) (q := 2) hC dX9_inQueue_64 rfl rfl ?_
        refine x_iald (len := 20) hC xa_12 h.1 dX9_inQueue_65 ?_
        replace h := h.2
        exact x_iret hC hr dX9_inQueue_66 h
      · replace q2 : v2 = (1 : Int32) := x_ofInt q2
        refine x_tsIn (o := 48) (t := 67) hC dX9_inQueue_19 (by rw [q2]; decide) (by rw [q2]; decide) (by rw [q2]; rfl) (by decide) ?_
        replace h := h.2.2.1 q2
        refine x_aload_n (i := 3) (q := 0) hC dX9_inQueue_67 rfl rfl ?_
        refine x_getr (k := 2) (r := 13) hC xo_11 rfl kf_X9_inQueue_179 dX9_inQueue_68 ?_
        refine x_iload_n (i := 1) (q := 2) hC dX9_inQueue_71 rfl rfl ?_
        refine x_iald (len := 20) hC xa_13 h.1 dX9_inQueue_72 ?_
        replace h := h.2
        exact x_iret hC hr dX9_inQueue_73 h
      · replace q2 : v2 = (2 : Int32) := x_ofInt q2
        refine x_tsIn (o := 55) (t := 74) hC dX9_inQueue_19 (by rw [q2]; decide) (by rw [q2]; decide) (by rw [q2]; rfl) (by decide) ?_
        replace h := h.2.2.2.1 q2
        refine x_aload_n (i := 3) (q := 0) hC dX9_inQueue_74 rfl rfl ?_
        refine x_getr (k := 3) (r := 14) hC xo_11 rfl kf_X9_inQueue_180 dX9_inQueue_75 ?_
        refine x_iload_n (i := 1) (q := 2) hC dX9_inQueue_78 rfl rfl ?_
        refine x_iald (len := 20) hC xa_14 h.1 dX9_inQueue_79 ?_
        replace h := h.2
        exact x_iret hC hr dX9_inQueue_80 h
      · replace q2 : v2 = (3 : Int32) := x_ofInt q2
        refine x_tsIn (o := 62) (t := 81) hC dX9_inQueue_19 (by rw [q2]; decide) (by rw [q2]; decide) (by rw [q2]; rfl) (by decide) ?_
        replace h := h.2.2.2.2.1 q2
        refine x_aload_n (i := 0) (q := 1) hC dX9_inQueue_81 rfl rfl ?_
        refine x_getr (k := 0) (r := 0) hC xo_180 rfl kf_X9_inQueue_12 dX9_inQueue_82 ?_
        refine x_aload_n (i := 3) (q := 0) hC dX9_inQueue_85 rfl rfl ?_
        refine x_getr (k := 1) (r := 12) hC xo_11 rfl kf_X9_inQueue_178 dX9_inQueue_86 ?_
        refine x_iload_n (i := 1) (q := 2) hC dX9_inQueue_89 rfl rfl ?_
        refine x_iald (len := 20) hC xa_12 h.1 dX9_inQueue_90 ?_
        replace h := h.2
        refine x_aload_n (i := 3) (q := 0) hC dX9_inQueue_91 rfl rfl ?_
        refine x_getr (k := 2) (r := 13) hC xo_11 rfl kf_X9_inQueue_179 dX9_inQueue_92 ?_
        refine x_iload_n (i := 1) (q := 2) hC dX9_inQueue_95 rfl rfl ?_
        refine x_iald (len := 20) hC xa_13 h.1 dX9_inQueue_96 ?_
        replace h := h.2
        refine x_aload_n (i := 3) (q := 0) hC dX9_inQueue_97 rfl rfl ?_
        refine x_getr (k := 3) (r := 14) hC xo_11 rfl kf_X9_inQueue_180 dX9_inQueue_98 ?_
        refine x_iload_n (i := 1) (q := 2) hC dX9_inQueue_101 rfl rfl ?_
        refine x_iald (len := 20) hC xa_14 h.1 dX9_inQueue_102 ?_
        replace h := h.2
        refine x_callVi (q := (RX0, TX0, 6)) (As := [.int (N2 12 (v1).toNatClampNeg), .int (N2 13 (v1).toNatClampNeg), .int (N2 14 (v1).toNatClampNeg)]) hC xo_0 rfl h gX9_inQueue_X0_keyAndTen rfl rfl rfl hy_X0_keyAndTen ⟨Nat.le_of_ble_eq_true rfl, Nat.le_of_ble_eq_true rfl⟩ rfl (Nat.le_of_ble_eq_true rfl) rfl dX9_inQueue_103 (fun r3 N4 h => ?_)
        exact x_iret hC hr dX9_inQueue_106 h
      · replace q2 : v2 = (4 : Int32) := x_ofInt q2
        refine x_tsIn (o := 88) (t := 107) hC dX9_inQueue_19 (by rw [q2]; decide) (by rw [q2]; decide) (by rw [q2]; rfl) (by decide) ?_
        replace h := h.2.2.2.2.2.1 q2
        refine x_aload_n (i := 3) (q := 0) hC dX9_inQueue_107 rfl rfl ?_
        refine x_aload_n (i := 0) (q := 1) hC dX9_inQueue_108 rfl rfl ?_
        refine x_getr (k := 0) (r := 0) hC xo_180 rfl kf_X9_inQueue_12 dX9_inQueue_109 ?_
        refine x_getr (k := 0) (r := 1) hC xo_0 rfl kf_X9_inQueue_56 dX9_inQueue_112 ?_
        refine x_geti (k := 1) hC xo_1 rfl kf_X9_inQueue_99 dX9_inQueue_115 ?_
        refine x_callVi (q := (RX8, TX8, 4)) (As := [.int (N2 1 1)]) hC xo_11 rfl h gX9_inQueue_X8_readyOnes rfl rfl rfl hy_X8_readyOnes ⟨Nat.le_of_ble_eq_true rfl, Nat.le_of_ble_eq_true rfl⟩ rfl (Nat.le_of_ble_eq_true rfl) rfl dX9_inQueue_118 (fun r5 N6 h => ?_)
        refine x_iload_n (i := 1) (q := 2) hC dX9_inQueue_121 rfl rfl ?_
        refine x_callSi (As := [.int r5, .int v1]) hC h gX9_inQueue_X9_isIn rfl rfl rfl hy_X9_isIn.2 ⟨Nat.le_of_ble_eq_true rfl, Nat.le_of_ble_eq_true rfl⟩ rfl (Nat.le_of_ble_eq_true rfl) rfl dX9_inQueue_122 (fun r7 N8 h => ?_)
        refine x_callSi (As := [.int r7]) hC h gX9_inQueue_X9_asNumber rfl rfl rfl hy_X9_asNumber.2 ⟨Nat.le_of_ble_eq_true rfl, Nat.le_of_ble_eq_true rfl⟩ rfl (Nat.le_of_ble_eq_true rfl) rfl dX9_inQueue_125 (fun r9 N10 h => ?_)
        exact x_iret hC hr dX9_inQueue_128 h
      · replace q2 : v2 = (5 : Int32) := x_ofInt q2
        refine x_tsIn (o := 110) (t := 129) hC dX9_inQueue_19 (by rw [q2]; decide) (by rw [q2]; decide) (by rw [q2]; rfl) (by decide) ?_
        replace h := h.2.2.2.2.2.2.1 q2
        refine x_aload_n (i := 3) (q := 0) hC dX9_inQueue_129 rfl rfl ?_
        refine x_aload_n (i := 0) (q := 1) hC dX9_inQueue_130 rfl rfl ?_
        refine x_getr (k := 0) (r := 0) hC xo_180 rfl kf_X9_inQueue_12 dX9_inQueue_131 ?_
        refine x_getr (k := 0) (r := 1) hC xo_0 rfl kf_X9_inQueue_56 dX9_inQueue_134 ?_
        refine x_geti (k := 2) hC xo_1 rfl kf_X9_inQueue_166 dX9_inQueue_137 ?_
        refine x_callVi (q := (RX8, TX8, 4)) (As := [.int (N2 1 2)]) hC xo_11 rfl h gX9_inQueue_X8_freshOnes rfl rfl rfl hy_X8_freshOnes ⟨Nat.le_of_ble_eq_true rfl, Nat.le_of_ble_eq_true rfl⟩ rfl (Nat.le_of_ble_eq_true rfl) rfl dX9_inQueue_140 (fun r11 N12 h => ?_)
        refine x_iload_n (i := 1) (q := 2) hC dX9_inQueue_143 rfl rfl ?_
        refine x_callSi (As := [.int r11, .int v1]) hC h gX9_inQueue_X9_isIn rfl rfl rfl hy_X9_isIn.2 ⟨Nat.le_of_ble_eq_true rfl, Nat.le_of_ble_eq_true rfl⟩ rfl (Nat.le_of_ble_eq_true rfl) rfl dX9_inQueue_144 (fun r13 N14 h => ?_)
        refine x_callSi (As := [.int r13]) hC h gX9_inQueue_X9_asNumber rfl rfl rfl hy_X9_asNumber.2 ⟨Nat.le_of_ble_eq_true rfl, Nat.le_of_ble_eq_true rfl⟩ rfl (Nat.le_of_ble_eq_true rfl) rfl dX9_inQueue_147 (fun r15 N16 h => ?_)
        exact x_iret hC hr dX9_inQueue_150 h
      · replace q2 : v2 = (6 : Int32) := x_ofInt q2
        refine x_tsIn (o := 132) (t := 151) hC dX9_inQueue_19 (by rw [q2]; decide) (by rw [q2]; decide) (by rw [q2]; rfl) (by decide) ?_
        replace h := h.2.2.2.2.2.2.2 q2
        refine x_aload_n (i := 3) (q := 0) hC dX9_inQueue_151 rfl rfl ?_
        refine x_iload_n (i := 1) (q := 2) hC dX9_inQueue_152 rfl rfl ?_
        refine x_aload_n (i := 0) (q := 1) hC dX9_inQueue_153 rfl rfl ?_
        refine x_getr (k := 0) (r := 0) hC xo_180 rfl kf_X9_inQueue_12 dX9_inQueue_154 ?_
        refine x_getr (k := 0) (r := 1) hC xo_0 rfl kf_X9_inQueue_56 dX9_inQueue_157 ?_
        refine x_getr (k := 5) (r := 4) hC xo_1 rfl kf_X9_inQueue_163 dX9_inQueue_160 ?_
        refine x_callVi (q := (RX8, TX8, 4)) (As := [.int v1, .ref (x_a g 4)]) hC xo_11 rfl h gX9_inQueue_X8_turnsFor rfl rfl rfl hy_X8_turnsFor ⟨Nat.le_of_ble_eq_true rfl, Nat.le_of_ble_eq_true rfl⟩ rfl (Nat.le_of_ble_eq_true rfl) rfl dX9_inQueue_163 (fun r17 N18 h => ?_)
        exact x_iret hC hr dX9_inQueue_166 h
  · replace h := h.2 q
    refine x_iconst (v := -1) hC dX9_inQueue_16 (by decide) ?_
    exact x_iret hC hr dX9_inQueue_17 h
theorem kf_X9_ofSong_12 : x_okf wsX9_ofSong RX9 12 9 0 = true := by decide +kernel
theorem kf_X9_ofSong_78 : x_okf wsX9_ofSong RX9 78 0 1 = true := by decide +kernel
theorem kf_X9_ofSong_198 : x_okf wsX9_ofSong RX9 198 7 1 = true := by decide +kernel
theorem kf_X9_ofSong_199 : x_okf wsX9_ofSong RX9 199 7 2 = true := by decide +kernel
theorem kf_X9_ofSong_200 : x_okf wsX9_ofSong RX9 200 7 3 = true := by decide +kernel
theorem kf_X9_ofSong_205 : x_okf wsX9_ofSong RX9 205 7 4 = true := by decide +kernel
def vc_X9_ofSong (g : xG) (v1 : Int32) (v2 : Int32) (M : xM) (P : Int32 → xM → Prop) : Prop := (mi_X7_has g v1 M (fun r1 N2 => ((¬ r1 = 0 → ((((v2).toInt < 0 ∨ 4 < (v2).toInt) → P (-2 : Int32) N2) ∧ (v2 = (0 : Int32) → (vp_in v1 16 ∧ P (N2 7 (v1).toNatClampNeg) N2)) ∧ (v2 = (1 : Int32) → (vp_in v1 16 ∧ P (N2 8 (v1).toNatClampNeg) N2)) ∧ (v2 = (2 : Int32) → (vp_in v1 16 ∧ P (N2 9 (v1).toNatClampNeg) N2)) ∧ (v2 = (3 : Int32) → (mi_X0_singersWithKey g v1 N2 (fun r3 N4 => P r3 N4))) ∧ (v2 = (4 : Int32) → (vp_in v1 16 ∧ P (N2 10 (v1).toNatClampNeg) N2)))) ∧ (r1 = 0 → P (-1 : Int32) N2))))
set_option maxRecDepth 100000 in
set_option maxHeartbeats 4000000 in
theorem wk_X9_ofSong {g : xG} (v1 : Int32) (v2 : Int32) (M : xM) (P : Int32 → xM → Prop) (h0 : vc_X9_ofSong g v1 v2 M P ) : mi_X9_ofSong g v1 v2 M P := by
  refine x_startI (as := [.ref (x_a g 180), .int v1, .int v2]) (cc := cX9_ofSong) (n := 4) (ret := (some .int)) (own := RX9) (by decide) rfl rfl (Nat.le_of_ble_eq_true rfl) (fun x hC hr => ?_)
  have h := h0
  unfold vc_X9_ofSong at h
  refine x_aload_n (i := 0) (q := 0) hC dX9_ofSong_0 rfl rfl ?_
  refine x_getr (k := 0) (r := 0) hC xo_180 rfl kf_X9_ofSong_12 dX9_ofSong_1 ?_
  refine x_getr (k := 1) (r := 6) hC xo_0 rfl kf_X9_ofSong_78 dX9_ofSong_4 ?_
  refine x_astore_n (i := 3) (ls' := [(3, .ref (x_a g 6)), (0, .ref (x_a g 180)), (1, .int v1), (2, .int v2)]) hC dX9_ofSong_7 rfl (by decide) rfl ?_
  refine x_aload_n (i := 3) (q := 0) hC dX9_ofSong_8 rfl rfl ?_
  refine x_iload_n (i := 1) (q := 2) hC dX9_ofSong_9 rfl rfl ?_
  refine x_callVi (q := (RX7, TX7, 5)) (As := [.int v1]) hC xo_6 rfl h gX9_ofSong_X7_has rfl rfl rfl hy_X7_has ⟨Nat.le_of_ble_eq_true rfl, Nat.le_of_ble_eq_true rfl⟩ rfl (Nat.le_of_ble_eq_true rfl) rfl dX9_ofSong_10 (fun r1 N2 h => ?_)
  refine x_if_ne (t := 18) hC dX9_ofSong_13 (by decide) (fun q => ?_) (fun q => ?_)
  · replace h := h.1 q
    refine x_iload_n (i := 2) (q := 3) hC dX9_ofSong_18 rfl rfl ?_
    rcases Classical.em ((v2).toInt < 0 ∨ 4 < (v2).toInt) with q | q
    · refine x_tsOut (t := 89) hC dX9_ofSong_19 q (by decide) ?_
      replace h := h.1 q
      refine x_bipush (v := -2) hC dX9_ofSong_89 (by decide) ?_
      exact x_iret hC hr dX9_ofSong_91 h
    · have q2 : (v2).toInt = 0 ∨ (v2).toInt = 1 ∨ (v2).toInt = 2 ∨ (v2).toInt = 3 ∨ (v2).toInt = 4 := by omega
      rcases q2 with q2 | q2 | q2 | q2 | q2
      · replace q2 : v2 = (0 : Int32) := x_ofInt q2
        refine x_tsIn (o := 33) (t := 52) hC dX9_ofSong_19 (by rw [q2]; decide) (by rw [q2]; decide) (by rw [q2]; rfl) (by decide) ?_
        replace h := h.2.1 q2
        refine x_aload_n (i := 3) (q := 0) hC dX9_ofSong_52 rfl rfl ?_
        refine x_getr (k := 1) (r := 7) hC xo_6 rfl kf_X9_ofSong_198 dX9_ofSong_53 ?_
        refine x_iload_n (i := 1) (q := 2) hC dX9_ofSong_56 rfl rfl ?_
        refine x_iald (len := 16) hC xa_7 h.1 dX9_ofSong_57 ?_
        replace h := h.2
        exact x_iret hC hr dX9_ofSong_58 h
      · replace q2 : v2 = (1 : Int32) := x_ofInt q2
        refine x_tsIn (o := 40) (t := 59) hC dX9_ofSong_19 (by rw [q2]; decide) (by rw [q2]; decide) (by rw [q2]; rfl) (by decide) ?_
        replace h := h.2.2.1 q2
        refine x_aload_n (i := 3) (q := 0) hC dX9_ofSong_59 rfl rfl ?_
        refine x_getr (k := 2) (r := 8) hC xo_6 rfl kf_X9_ofSong_199 dX9_ofSong_60 ?_
        refine x_iload_n (i := 1) (q := 2) hC dX9_ofSong_63 rfl rfl ?_
        refine x_iald (len := 16) hC xa_8 h.1 dX9_ofSong_64 ?_
        replace h := h.2
        exact x_iret hC hr dX9_ofSong_65 h
      · replace q2 : v2 = (2 : Int32) := x_ofInt q2
        refine x_tsIn (o := 47) (t := 66) hC dX9_ofSong_19 (by rw [q2]; decide) (by rw [q2]; decide) (by rw [q2]; rfl) (by decide) ?_
        replace h := h.2.2.2.1 q2
        refine x_aload_n (i := 3) (q := 0) hC dX9_ofSong_66 rfl rfl ?_
        refine x_getr (k := 3) (r := 9) hC xo_6 rfl kf_X9_ofSong_200 dX9_ofSong_67 ?_
        refine x_iload_n (i := 1) (q := 2) hC dX9_ofSong_70 rfl rfl ?_
        refine x_iald (len := 16) hC xa_9 h.1 dX9_ofSong_71 ?_
        replace h := h.2
        exact x_iret hC hr dX9_ofSong_72 h
      · replace q2 : v2 = (3 : Int32) := x_ofInt q2
        refine x_tsIn (o := 54) (t := 73) hC dX9_ofSong_19 (by rw [q2]; decide) (by rw [q2]; decide) (by rw [q2]; rfl) (by decide) ?_
        replace h := h.2.2.2.2.1 q2
        refine x_aload_n (i := 0) (q := 1) hC dX9_ofSong_73 rfl rfl ?_
        refine x_getr (k := 0) (r := 0) hC xo_180 rfl kf_X9_ofSong_12 dX9_ofSong_74 ?_
        refine x_iload_n (i := 1) (q := 2) hC dX9_ofSong_77 rfl rfl ?_
        refine x_callVi (q := (RX0, TX0, 6)) (As := [.int v1]) hC xo_0 rfl h gX9_ofSong_X0_singersWithKey rfl rfl rfl hy_X0_singersWithKey ⟨Nat.le_of_ble_eq_true rfl, Nat.le_of_ble_eq_true rfl⟩ rfl (Nat.le_of_ble_eq_true rfl) rfl dX9_ofSong_78 (fun r3 N4 h => ?_)
        exact x_iret hC hr dX9_ofSong_81 h
      · replace q2 : v2 = (4 : Int32) := x_ofInt q2
        refine x_tsIn (o := 63) (t := 82) hC dX9_ofSong_19 (by rw [q2]; decide) (by rw [q2]; decide) (by rw [q2]; rfl) (by decide) ?_
        replace h := h.2.2.2.2.2 q2
        refine x_aload_n (i := 3) (q := 0) hC dX9_ofSong_82 rfl rfl ?_
        refine x_getr (k := 4) (r := 10) hC xo_6 rfl kf_X9_ofSong_205 dX9_ofSong_83 ?_
        refine x_iload_n (i := 1) (q := 2) hC dX9_ofSong_86 rfl rfl ?_
        refine x_iald (len := 16) hC xa_10 h.1 dX9_ofSong_87 ?_
        replace h := h.2
        exact x_iret hC hr dX9_ofSong_88 h
  · replace h := h.2 q
    refine x_iconst (v := -1) hC dX9_ofSong_16 (by decide) ?_
    exact x_iret hC hr dX9_ofSong_17 h
theorem kf_X9_past_12 : x_okf wsX9_past RX9 12 9 0 = true := by decide +kernel
theorem kf_X9_past_208 : x_okf wsX9_past RX9 208 0 3 = true := by decide +kernel
theorem kf_X9_past_212 : x_okf wsX9_past RX9 212 4 0 = true := by decide +kernel
theorem kf_X9_past_215 : x_okf wsX9_past RX9 215 4 1 = true := by decide +kernel
theorem kf_X9_past_216 : x_okf wsX9_past RX9 216 4 2 = true := by decide +kernel
theorem kf_X9_past_217 : x_okf wsX9_past RX9 217 4 3 = true := by decide +kernel
theorem kf_X9_past_218 : x_okf wsX9_past RX9 218 4 4 = true := by decide +kernel
def vc_X9_past (g : xG) (v1 : Int32) (v2 : Int32) (M : xM) (P : Int32 → xM → Prop) : Prop := (mi_X9_isBetween g v1 (0 : Int32) ((M 15 0) - (1 : Int32)) M (fun r1 N2 => ((¬ r1 = 0 → ((((v2).toInt < 0 ∨ 3 < (v2).toInt) → P (-2 : Int32) N2) ∧ (v2 = (0 : Int32) → (vp_in v1 12 ∧ P (N2 16 (v1).toNatClampNeg) N2)) ∧ (v2 = (1 : Int32) → (vp_in v1 12 ∧ P (N2 17 (v1).toNatClampNeg) N2)) ∧ (v2 = (2 : Int32) → (vp_in v1 12 ∧ P (N2 18 (v1).toNatClampNeg) N2)) ∧ (v2 = (3 : Int32) → (vp_in v1 12 ∧ P (N2 19 (v1).toNatClampNeg) N2)))) ∧ (r1 = 0 → P (-1 : Int32) N2))))
set_option maxRecDepth 100000 in
set_option maxHeartbeats 4000000 in
theorem wk_X9_past {g : xG} (v1 : Int32) (v2 : Int32) (M : xM) (P : Int32 → xM → Prop) (h0 : vc_X9_past g v1 v2 M P ) : mi_X9_past g v1 v2 M P := by
  refine x_startI (as := [.ref (x_a g 180), .int v1, .int v2]) (cc := cX9_past) (n := 4) (ret := (some .int)) (own := RX9) (by decide) rfl rfl (Nat.le_of_ble_eq_true rfl) (fun x hC hr => ?_)
  have h := h0
  unfold vc_X9_past at h
  refine x_aload_n (i := 0) (q := 0) hC dX9_past_0 rfl rfl ?_
  refine x_getr (k := 0) (r := 0) hC xo_180 rfl kf_X9_past_12 dX9_past_1 ?_
  refine x_getr (k := 3) (r := 15) hC xo_0 rfl kf_X9_past_208 dX9_past_4 ?_
  refine x_astore_n (i := 3) (ls' := [(3, .ref (x_a g 15)), (0, .ref (x_a g 180)), (1, .int v1), (2, .int v2)]) hC dX9_past_7 rfl (by decide) rfl ?_
  refine x_iload_n (i := 1) (q := 2) hC dX9_past_8 rfl rfl ?_
  refine x_iconst (v := 0) hC dX9_past_9 (by decide) ?_
  refine x_aload_n (i := 3) (q := 0) hC dX9_past_10 rfl rfl ?_
  refine x_geti (k := 0) hC xo_15 rfl kf_X9_past_212 dX9_past_11 ?_
  refine x_iconst (v := 1) hC dX9_past_14 (by decide) ?_
  refine x_isub hC dX9_past_15 ?_
  refine x_callSi (As := [.int v1, .int (0 : Int32), .int ((M 15 0) - (1 : Int32))]) hC h gX9_past_X9_isBetween rfl rfl rfl hy_X9_isBetween.2 ⟨Nat.le_of_ble_eq_true rfl, Nat.le_of_ble_eq_true rfl⟩ rfl (Nat.le_of_ble_eq_true rfl) rfl dX9_past_16 (fun r1 N2 h => ?_)
  refine x_if_ne (t := 24) hC dX9_past_19 (by decide) (fun q => ?_) (fun q => ?_)
  · replace h := h.1 q
    refine x_iload_n (i := 2) (q := 3) hC dX9_past_24 rfl rfl ?_
    rcases Classical.em ((v2).toInt < 0 ∨ 3 < (v2).toInt) with q | q
    · refine x_tsOut (t := 84) hC dX9_past_25 q (by decide) ?_
      replace h := h.1 q
      refine x_bipush (v := -2) hC dX9_past_84 (by decide) ?_
      exact x_iret hC hr dX9_past_86 h
    · have q2 : (v2).toInt = 0 ∨ (v2).toInt = 1 ∨ (v2).toInt = 2 ∨ (v2).toInt = 3 := by omega
      rcases q2 with q2 | q2 | q2 | q2
      · replace q2 : v2 = (0 : Int32) := x_ofInt q2
        refine x_tsIn (o := 31) (t := 56) hC dX9_past_25 (by rw [q2]; decide) (by rw [q2]; decide) (by rw [q2]; rfl) (by decide) ?_
        replace h := h.2.1 q2
        refine x_aload_n (i := 3) (q := 0) hC dX9_past_56 rfl rfl ?_
        refine x_getr (k := 1) (r := 16) hC xo_15 rfl kf_X9_past_215 dX9_past_57 ?_
        refine x_iload_n (i := 1) (q := 2) hC dX9_past_60 rfl rfl ?_
        refine x_iald (len := 12) hC xa_16 h.1 dX9_past_61 ?_
        replace h := h.2
        exact x_iret hC hr dX9_past_62 h
      · replace q2 : v2 = (1 : Int32) := x_ofInt q2
        refine x_tsIn (o := 38) (t := 63) hC dX9_past_25 (by rw [q2]; decide) (by rw [q2]; decide) (by rw [q2]; rfl) (by decide) ?_
        replace h := h.2.2.1 q2
        refine x_aload_n (i := 3) (q := 0) hC dX9_past_63 rfl rfl ?_
        refine x_getr (k := 2) (r := 17) hC xo_15 rfl kf_X9_past_216 dX9_past_64 ?_
        refine x_iload_n (i := 1) (q := 2) hC dX9_past_67 rfl rfl ?_
        refine x_iald (len := 12) hC xa_17 h.1 dX9_past_68 ?_
        replace h := h.2
        exact x_iret hC hr dX9_past_69 h
      · replace q2 : v2 = (2 : Int32) := x_ofInt q2
        refine x_tsIn (o := 45) (t := 70) hC dX9_past_25 (by rw [q2]; decide) (by rw [q2]; decide) (by rw [q2]; rfl) (by decide) ?_
        replace h := h.2.2.2.1 q2
        refine x_aload_n (i := 3) (q := 0) hC dX9_past_70 rfl rfl ?_
        refine x_getr (k := 3) (r := 18) hC xo_15 rfl kf_X9_past_217 dX9_past_71 ?_
        refine x_iload_n (i := 1) (q := 2) hC dX9_past_74 rfl rfl ?_
        refine x_iald (len := 12) hC xa_18 h.1 dX9_past_75 ?_
        replace h := h.2
        exact x_iret hC hr dX9_past_76 h
      · replace q2 : v2 = (3 : Int32) := x_ofInt q2
        refine x_tsIn (o := 52) (t := 77) hC dX9_past_25 (by rw [q2]; decide) (by rw [q2]; decide) (by rw [q2]; rfl) (by decide) ?_
        replace h := h.2.2.2.2 q2
        refine x_aload_n (i := 3) (q := 0) hC dX9_past_77 rfl rfl ?_
        refine x_getr (k := 4) (r := 19) hC xo_15 rfl kf_X9_past_218 dX9_past_78 ?_
        refine x_iload_n (i := 1) (q := 2) hC dX9_past_81 rfl rfl ?_
        refine x_iald (len := 12) hC xa_19 h.1 dX9_past_82 ?_
        replace h := h.2
        exact x_iret hC hr dX9_past_83 h
  · replace h := h.2 q
    refine x_iconst (v := -1) hC dX9_past_22 (by decide) ?_
    exact x_iret hC hr dX9_past_23 h
theorem kf_X9_count_12 : x_okf wsX9_count RX9 12 9 0 = true := by decide +kernel
theorem kf_X9_count_56 : x_okf wsX9_count RX9 56 0 0 = true := by decide +kernel
theorem kf_X9_count_60 : x_okf wsX9_count RX9 60 6 0 = true := by decide +kernel
theorem kf_X9_count_99 : x_okf wsX9_count RX9 99 6 1 = true := by decide +kernel
theorem kf_X9_count_78 : x_okf wsX9_count RX9 78 0 1 = true := by decide +kernel
theorem kf_X9_count_82 : x_okf wsX9_count RX9 82 7 0 = true := by decide +kernel
theorem kf_X9_count_108 : x_okf wsX9_count RX9 108 0 2 = true := by decide +kernel
theorem kf_X9_count_112 : x_okf wsX9_count RX9 112 8 0 = true := by decide +kernel
theorem kf_X9_count_221 : x_okf wsX9_count RX9 221 0 4 = true := by decide +kernel
theorem kf_X9_count_224 : x_okf wsX9_count RX9 224 0 5 = true := by decide +kernel
theorem kf_X9_count_166 : x_okf wsX9_count RX9 166 6 2 = true := by decide +kernel
theorem kf_X9_count_34 : x_okf wsX9_count RX9 34 9 4 = true := by decide +kernel
theorem kf_X9_count_150 : x_okf wsX9_count RX9 150 2 1 = true := by decide +kernel
theorem kf_X9_count_19 : x_okf wsX9_count RX9 19 9 1 = true := by decide +kernel
theorem kf_X9_count_227 : x_okf wsX9_count RX9 227 1 1 = true := by decide +kernel
def vc_X9_count (g : xG) (v1 : Int32) (M : xM) (P : Int32 → xM → Prop) : Prop := ((((v1).toInt < 0 ∨ 10 < (v1).toInt) → P (-2 : Int32) M) ∧ (v1 = (0 : Int32) → P (M 1 0) M) ∧ (v1 = (1 : Int32) → P (M 1 1) M) ∧ (v1 = (2 : Int32) → P (M 6 0) M) ∧ (v1 = (3 : Int32) → P (M 11 0) M) ∧ (v1 = (4 : Int32) → (mi_X8_readyOnes g (M 1 1) M (fun r1 N2 => (mi_J6_bitCount_0f7a4 g r1 N2 (fun r3 N4 => P r3 N4))))) ∧ (v1 = (5 : Int32) → (mi_X0_nextWish g M (fun r5 N6 => P r5 N6))) ∧ (v1 = (6 : Int32) → P (M 0 4) M) ∧ (v1 = (7 : Int32) → P (M 0 5) M) ∧ (v1 = (8 : Int32) → P (M 1 2) M) ∧ (v1 = (9 : Int32) → P (M 185 1) M) ∧ (v1 = (10 : Int32) → P (M 181 1) M))
set_option maxRecDepth 100000 in
set_option maxHeartbeats 4000000 in
theorem wk_X9_count {g : xG} (v1 : Int32) (M : xM) (P : Int32 → xM → Prop) (h0 : vc_X9_count g v1 M P ) : mi_X9_count g v1 M P := by
  refine x_startI (as := [.ref (x_a g 180), .int v1]) (cc := cX9_count) (n := 2) (ret := (some .int)) (own := RX9) (by decide) rfl rfl (Nat.le_of_ble_eq_true rfl) (fun x hC hr => ?_)
  have h := h0
  unfold vc_X9_count at h
  refine x_iload_n (i := 1) (q := 1) hC dX9_count_0 rfl rfl ?_
  rcases Classical.em ((v1).toInt < 0 ∨ 10 < (v1).toInt) with q | q
  · refine x_tsOut (t := 179) hC dX9_count_1 q (by decide) ?_
    replace h := h.1 q
    refine x_bipush (v := -2) hC dX9_count_179 (by decide) ?_
    exact x_iret hC hr dX9_count_181 h
  · have q2 : (v1).toInt = 0 ∨ (v1).toInt = 1 ∨ (v1).toInt = 2 ∨ (v1).toInt = 3 ∨ (v1).toInt = 4 ∨ (v1).toInt = 5 ∨ (v1).toInt = 6 ∨ (v1).toInt = 7 ∨ (v1).toInt = 8 ∨ (v1).toInt = 9 ∨ (v1).toInt = 10 := by omega
    rcases q2 with q2 | q2 | q2 | q2 | q2 | q2 | q2 | q2 | q2 | q2 | q2
    · replace q2 : v1 = (0 : Int32) := x_ofInt q2
      refine x_tsIn (o := 59) (t := 60) hC dX9_count_1 (by rw [q2]; decide) (by rw [q2]; decide) (by rw [q2]; rfl) (by decide) ?_
      replace h := h.2.1 q2
      refine x_aload_n (i := 0) (q := 0) hC dX9_count_60 rfl rfl ?_
      refine x_getr (k := 0) (r := 0) hC xo_180 rfl kf_X9_count_12 dX9_count_61 ?_
      refine x_getr (k := 0) (r := 1) hC xo_0 rfl kf_X9_count_56 dX9_count_64 ?_
      refine x_geti (k := 0) hC xo_1 rfl kf_X9_count_60 dX9_count_67 ?_
      exact x_iret hC hr dX9_count_70 h
    · replace q2 : v1 = (1 : Int32) := x_ofInt q2
      refine x_tsIn (o := 70) (t := 71) hC dX9_count_1 (by rw [q2]; decide) (by rw [q2]; decide) (by rw [q2]; rfl) (by decide) ?_
      replace h := h.2.2.1 q2
      refine x_aload_n (i := 0) (q := 0) hC dX9_count_71 rfl rfl ?_
      refine x_getr (k := 0) (r := 0) hC xo_180 rfl kf_X9_count_12 dX9_count_72 ?_
      refine x_getr (k := 0) (r := 1) hC xo_0 rfl kf_X9_count_56 dX9_count_75 ?_
      refine x_geti (k := 1) hC xo_1 rfl kf_X9_count_99 dX9_count_78 ?_
      exact x_iret hC hr dX9_count_81 h
    · replace q2 : v1 = (2 : Int32) := x_ofInt q2
      refine x_tsIn (o := 81) (t := 82) hC dX9_count_1 (by rw [q2]; decide) (by rw [q2]; decide) (by rw [q2]; rfl) (by decide) ?_
      replace h := h.2.2.2.1 q2
      refine x_aload_n (i := 0) (q := 0) hC dX9_count_82 rfl rfl ?_
      refine x_getr (k := 0) (r := 0) hC xo_180 rfl kf_X9_count_12 dX9_count_83 ?_
      refine x_getr (k := 1) (r := 6) hC xo_0 rfl kf_X9_count_78 dX9_count_86 ?_
      refine x_geti (k := 0) hC xo_6 rfl kf_X9_count_82 dX9_count_89 ?_
      exact x_iret hC hr dX9_count_92 h
    · replace q2 : v1 = (3 : Int32) := x_ofInt q2
      refine x_tsIn (o := 92) (t := 93) hC dX9_count_1 (by rw [q2]; decide) (by rw [q2]; decide) (by rw [q2]; rfl) (by decide) ?_
      replace h := h.2.2.2.2.1 q2
      refine x_aload_n (i := 0) (q := 0) hC dX9_count_93 rfl rfl ?_
      refine x_getr (k := 0) (r := 0) hC xo_180 rfl kf_X9_count_12 dX9_count_94 ?_
      refine x_getr (k := 2) (r := 11) hC xo_0 rfl kf_X9_count_108 dX9_count_97 ?_
      refine x_geti (k := 0) hC xo_11 rfl kf_X9_count_112 dX9_count_100 ?_
      exact x_iret hC hr dX9_count_103 h
    · replace q2 : v1 = (4 : Int32) := x_ofInt q2
      refine x_tsIn (o := 103) (t := 104) hC dX9_count_1 (by rw [q2]; decide) (by rw [q2]; decide) (by rw [q2]; rfl) (by decide) ?_
      replace h := h.2.2.2.2.2.1 q2
      refine x_aload_n (i := 0) (q := 0) hC dX9_count_104 rfl rfl ?_
      refine x_getr (k := 0) (r := 0) hC xo_180 rfl kf_X9_count_12 dX9_count_105 ?_
      refine x_getr (k := 2) (r := 11) hC xo_0 rfl kf_X9_count_108 dX9_count_108 ?_
      refine x_aload_n (i := 0) (q := 0) hC dX9_count_111 rfl rfl ?_
      refine x_getr (k := 0) (r := 0) hC xo_180 rfl kf_X9_count_12 dX9_count_112 ?_
      refine x_getr (k := 0) (r := 1) hC xo_0 rfl kf_X9_count_56 dX9_count_115 ?_
      refine x_geti (k := 1) hC xo_1 rfl kf_X9_count_99 dX9_count_118 ?_
      refine x_callVi (q := (RX8, TX8, 4)) (As := [.int (M 1 1)]) hC xo_11 rfl h gX9_count_X8_readyOnes rfl rfl rfl hy_X8_readyOnes ⟨Nat.le_of_ble_eq_true rfl, Nat.le_of_ble_eq_true rfl⟩ rfl (Nat.le_of_ble_eq_true rfl) rfl dX9_count_121 (fun r1 N2 h => ?_)
      refine x_callSi (As := [.int r1]) hC h gX9_count_J6_bitCount_0f7a4 rfl rfl rfl hy_J6_bitCount_0f7a4.2 ⟨Nat.le_of_ble_eq_true rfl, Nat.le_of_ble_eq_true rfl⟩ rfl (Nat.le_of_ble_eq_true rfl) rfl dX9_count_124 (fun r3 N4 h => ?_)
      exact x_iret hC hr dX9_count_127 h
    · replace q2 : v1 = (5 : Int32) := x_ofInt q2
      refine x_tsIn (o := 127) (t := 128) hC dX9_count_1 (by rw [q2]; decide) (by rw [q2]; decide) (by rw [q2]; rfl) (by decide) ?_
      replace h := h.2.2.2.2.2.2.1 q2
      refine x_aload_n (i := 0) (q := 0) hC dX9_count_128 rfl rfl ?_
      refine x_getr (k := 0) (r := 0) hC xo_180 rfl kf_X9_count_12 dX9_count_129 ?_
      refine x_callVi (q := (RX0, TX0, 6)) (As := []) hC xo_0 rfl h gX9_count_X0_nextWish rfl rfl rfl hy_X0_nextWish ⟨Nat.le_of_ble_eq_true rfl, Nat.le_of_ble_eq_true rfl⟩ rfl (Nat.le_of_ble_eq_true rfl) rfl dX9_count_132 (fun r5 N6 h => ?_)
      exact x_iret hC hr dX9_count_135 h
    · replace q2 : v1 = (6 : Int32) := x_ofInt q2
      refine x_tsIn (o := 135) (t := 136) hC dX9_count_1 (by rw [q2]; decide) (by rw [q2]; decide) (by rw [q2]; rfl) (by decide) ?_
      replace h := h.2.2.2.2.2.2.2.1 q2
      refine x_aload_n (i := 0) (q := 0) hC dX9_count_136 rfl rfl ?_
      refine x_getr (k := 0) (r := 0) hC xo_180 rfl kf_X9_count_12 dX9_count_137 ?_
      refine x_geti (k := 4) hC xo_0 rfl kf_X9_count_221 dX9_count_140 ?_
      exact x_iret hC hr dX9_count_143 h
    · replace q2 : v1 = (7 : Int32) := x_ofInt q2
      refine x_tsIn (o := 143) (t := 144) hC dX9_count_1 (by rw [q2]; decide) (by rw [q2]; decide) (by rw [q2]; rfl) (by decide) ?_
      replace h := h.2.2.2.2.2.2.2.2.1 q2
      refine x_aload_n (i := 0) (q := 0) hC dX9_count_144 rfl rfl ?_
      refine x_getr (k := 0) (r := 0) hC xo_180 rfl kf_X9_count_12 dX9_count_145 ?_
      refine x_geti (k := 5) hC xo_0 rfl kf_X9_count_224 dX9_count_148 ?_
      exact x_iret hC hr dX9_count_151 h
    · replace q2 : v1 = (8 : Int32) := x_ofInt q2
      refine x_tsIn (o := 151) (t := 152) hC dX9_count_1 (by rw [q2]; decide) (by rw [q2]; decide) (by rw [q2]; rfl) (by decide) ?_
      replace h := h.2.2.2.2.2.2.2.2.2.1 q2
      refine x_aload_n (i := 0) (q := 0) hC dX9_count_152 rfl rfl ?_
      refine x_getr (k := 0) (r := 0) hC xo_180 rfl kf_X9_count_12 dX9_count_153 ?_
      refine x_getr (k := 0) (r := 1) hC xo_0 rfl kf_X9_count_56 dX9_count_156 ?_
      refine x_geti (k := 2) hC xo_1 rfl kf_X9_count_166 dX9_count_159 ?_
      exact x_iret hC hr dX9_count_162 h
    · replace q2 : v1 = (9 : Int32) := x_ofInt q2
      refine x_tsIn (o := 162) (t := 163) hC dX9_count_1 (by rw [q2]; decide) (by rw [q2]; decide) (by rw [q2]; rfl) (by decide) ?_
      replace h := h.2.2.2.2.2.2.2.2.2.2.1 q2
      refine x_aload_n (i := 0) (q := 0) hC dX9_count_163 rfl rfl ?_
      refine x_getr (k := 4) (r := 185) hC xo_180 rfl kf_X9_count_34 dX9_count_164 ?_
      refine x_geti (k := 1) hC xo_185 rfl kf_X9_count_150 dX9_count_167 ?_
      exact x_iret hC hr dX9_count_170 h
    · replace q2 : v1 = (10 : Int32) := x_ofInt q2
      refine x_tsIn (o := 170) (t := 171) hC dX9_count_1 (by rw [q2]; decide) (by rw [q2]; decide) (by rw [q2]; rfl) (by decide) ?_
      replace h := h.2.2.2.2.2.2.2.2.2.2.2 q2
      refine x_aload_n (i := 0) (q := 0) hC dX9_count_171 rfl rfl ?_
      refine x_getr (k := 1) (r := 181) hC xo_180 rfl kf_X9_count_19 dX9_count_172 ?_
      refine x_geti (k := 1) hC xo_181 rfl kf_X9_count_227 dX9_count_175 ?_
      exact x_iret hC hr dX9_count_178 h
theorem kf_X9_turnOf_12 : x_okf wsX9_turnOf RX9 12 9 0 = true := by decide +kernel
theorem kf_X9_turnOf_108 : x_okf wsX9_turnOf RX9 108 0 2 = true := by decide +kernel
theorem kf_X9_turnOf_48 : x_okf wsX9_turnOf RX9 48 9 6 = true := by decide +kernel
theorem kf_X9_turnOf_238 : x_okf wsX9_turnOf RX9 238 5 2 = true := by decide +kernel
theorem kf_X9_turnOf_235 : x_okf wsX9_turnOf RX9 235 5 1 = true := by decide +kernel
def vc_X9_turnOf (g : xG) (v1 : Int32) (v2 : Int32) (M : xM) (P : Int32 → xM → Prop) : Prop := (mi_X8_has g v1 M (fun r1 N2 => ((¬ r1 = 0 → (mi_X9_isBetween g v2 (0 : Int32) (1 : Int32) N2 (fun r3 N4 => ((¬ r3 = 0 → (mi_X0_isReady g v1 N4 (fun r5 N6 => ((¬ r5 = 0 → (mi_X5_lookAhead g v1 (-6 : Int32) N6 (fun N7 => ((¬ v2 = 0 → P (N7 191 2) N7) ∧ (v2 = 0 → P (N7 191 1) N7))))) ∧ (r5 = 0 → P (-6 : Int32) N6))))) ∧ (r3 = 0 → P (-2 : Int32) N4))))) ∧ (r1 = 0 → P (-1 : Int32) N2))))
set_option maxRecDepth 100000 in
set_option maxHeartbeats 4000000 in
theorem wk_X9_turnOf {g : xG} (v1 : Int32) (v2 : Int32) (M : xM) (P : Int32 → xM → Prop) (h0 : vc_X9_turnOf g v1 v2 M P ) : mi_X9_turnOf g v1 v2 M P := by
  refine x_startI (as := [.ref (x_a g 180), .int v1, .int v2]) (cc := cX9_turnOf) (n := 3) (ret := (some .int)) (own := RX9) (by decide) rfl rfl (Nat.le_of_ble_eq_true rfl) (fun x hC hr => ?_)
  have h := h0
  unfold vc_X9_turnOf at h
  refine x_aload_n (i := 0) (q := 0) hC dX9_turnOf_0 rfl rfl ?_
  refine x_getr (k := 0) (r := 0) hC xo_180 rfl kf_X9_turnOf_12 dX9_turnOf_1 ?_
  refine x_getr (k := 2) (r := 11) hC xo_0 rfl kf_X9_turnOf_108 dX9_turnOf_4 ?_
  refine x_iload_n (i := 1) (q := 1) hC dX9_turnOf_7 rfl rfl ?_
  refine x_callVi (q := (RX8, TX8, 4)) (As := [.int v1]) hC xo_11 rfl h gX9_turnOf_X8_has rfl rfl rfl hy_X8_has ⟨Nat.le_of_ble_eq_true rfl, Nat.le_of_ble_eq_true rfl⟩ rfl (Nat.le_of_ble_eq_true rfl) rfl dX9_turnOf_8 (fun r1 N2 h => ?_)
  refine x_if_ne (t := 16) hC dX9_turnOf_11 (by decide) (fun q => ?_) (fun q => ?_)
  · replace h := h.1 q
    refine x_iload_n (i := 2) (q := 2) hC dX9_turnOf_16 rfl rfl ?_
    refine x_iconst (v := 0) hC dX9_turnOf_17 (by decide) ?_
    refine x_iconst (v := 1) hC dX9_turnOf_18 (by decide) ?_
    refine x_callSi (As := [.int v2, .int (0 : Int32), .int (1 : Int32)]) hC h gX9_turnOf_X9_isBetween rfl rfl rfl hy_X9_isBetween.2 ⟨Nat.le_of_ble_eq_true rfl, Nat.le_of_ble_eq_true rfl⟩ rfl (Nat.le_of_ble_eq_true rfl) rfl dX9_turnOf_19 (fun r3 N4 h => ?_)
    refine x_if_ne (t := 28) hC dX9_turnOf_22 (by decide) (fun q => ?_) (fun q => ?_)
    · replace h := h.1 q
      refine x_aload_n (i := 0) (q := 0) hC dX9_turnOf_28 rfl rfl ?_
      refine x_getr (k := 0) (r := 0) hC xo_180 rfl kf_X9_turnOf_12 dX9_turnOf_29 ?_
      refine x_iload_n (i := 1) (q := 1) hC dX9_turnOf_32 rfl rfl ?_
      refine x_callVi (q := (RX0, TX0, 6)) (As := [.int v1]) hC xo_0 rfl h gX9_turnOf_X0_isReady rfl rfl rfl hy_X0_isReady ⟨Nat.le_of_ble_eq_true rfl, Nat.le_of_ble_eq_true rfl⟩ rfl (Nat.le_of_ble_eq_true rfl) rfl dX9_turnOf_33 (fun r5 N6 h => ?_)
      refine x_if_ne (t := 42) hC dX9_turnOf_36 (by decide) (fun q => ?_) (fun q => ?_)
      · replace h := h.1 q
        refine x_aload_n (i := 0) (q := 0) hC dX9_turnOf_42 rfl rfl ?_
        refine x_getr (k := 6) (r := 191) hC xo_180 rfl kf_X9_turnOf_48 dX9_turnOf_43 ?_
        refine x_aload_n (i := 0) (q := 0) hC dX9_turnOf_46 rfl rfl ?_
        refine x_getr (k := 0) (r := 0) hC xo_180 rfl kf_X9_turnOf_12 dX9_turnOf_47 ?_
        refine x_iload_n (i := 1) (q := 1) hC dX9_turnOf_50 rfl rfl ?_
        refine x_bipush (v := -6) hC dX9_turnOf_51 (by decide) ?_
        refine x_callVv (q := (RX5, TX5, 3)) (As := [.ref (x_a g 0), .int v1, .int (-6 : Int32)]) hC xo_191 rfl h gX9_turnOf_X5_lookAhead rfl rfl rfl hy_X5_lookAhead ⟨Nat.le_of_ble_eq_true rfl, Nat.le_of_ble_eq_true rfl⟩ rfl (Nat.le_of_ble_eq_true rfl) rfl dX9_turnOf_53 (fun N7 h => ?_)
        refine x_iload_n (i := 2) (q := 2) hC dX9_turnOf_56 rfl rfl ?_
        refine x_if_ne (t := 70) hC dX9_turnOf_57 (by decide) (fun q => ?_) (fun q => ?_)
        · replace h := h.1 q
          refine x_aload_n (i := 0) (q := 0) hC dX9_turnOf_70 rfl rfl ?_
          refine x_getr (k := 6) (r := 191) hC xo_180 rfl kf_X9_turnOf_48 dX9_turnOf_71 ?_
          refine x_geti (k := 2) hC xo_191 rfl kf_X9_turnOf_238 dX9_turnOf_74 ?_
          exact x_iret hC hr dX9_turnOf_77 h
        · replace h := h.2 q
          refine x_aload_n (i := 0) (q := 0) hC dX9_turnOf_60 rfl rfl ?_
          refine x_getr (k := 6) (r := 191) hC xo_180 rfl kf_X9_turnOf_48 dX9_turnOf_61 ?_
          refine x_geti (k := 1) hC xo_191 rfl kf_X9_turnOf_235 dX9_turnOf_64 ?_
          refine x_goto (t := 77) hC dX9_turnOf_67 (by decide) ?_
          exact x_iret hC hr dX9_turnOf_77 h
      · replace h := h.2 q
        refine x_bipush (v := -6) hC dX9_turnOf_39 (by decide) ?_
        exact x_iret hC hr dX9_turnOf_41 h
    · replace h := h.2 q
      refine x_bipush (v := -2) hC dX9_turnOf_25 (by decide) ?_
      exact x_iret hC hr dX9_turnOf_27 h
  · replace h := h.2 q
    refine x_iconst (v := -1) hC dX9_turnOf_14 (by decide) ?_
    exact x_iret hC hr dX9_turnOf_15 h
theorem kf_X9_endOfAll_12 : x_okf wsX9_endOfAll RX9 12 9 0 = true := by decide +kernel
theorem kf_X9_endOfAll_108 : x_okf wsX9_endOfAll RX9 108 0 2 = true := by decide +kernel
theorem kf_X9_endOfAll_56 : x_okf wsX9_endOfAll RX9 56 0 0 = true := by decide +kernel
theorem kf_X9_endOfAll_99 : x_okf wsX9_endOfAll RX9 99 6 1 = true := by decide +kernel
theorem kf_X9_endOfAll_221 : x_okf wsX9_endOfAll RX9 221 0 4 = true := by decide +kernel
theorem kf_X9_endOfAll_112 : x_okf wsX9_endOfAll RX9 112 8 0 = true := by decide +kernel
def vc_X9_endOfAll (g : xG) (M : xM) (P : Int32 → xM → Prop) (K1 : Int32 → Int32 → Int32 → xM → Prop) : Prop := (mi_X8_readyOnes g (M 1 1) M (fun r1 N2 => K1 r1 (N2 0 4) (0 : Int32) N2))
def vc_X9_endOfAll_1 (g : xG) (v1 : Int32) (v2 : Int32) (v3 : Int32) (M : xM) (P : Int32 → xM → Prop) (K1 : Int32 → Int32 → Int32 → xM → Prop) : Prop := (((M 11 0) ≤ v3 → P v2 M) ∧ (¬ ((M 11 0) ≤ v3) → (mi_X9_isIn g v1 v3 M (fun r3 N4 => ((r3 = 0 → K1 v1 v2 (v3 + (1 : Int32)) N4) ∧ (¬ (r3 = 0) → (mi_X0_lengthOfWish g v3 N4 (fun r5 N6 => K1 v1 (v2 + r5) (v3 + (1 : Int32)) N6))))))))
set_option maxRecDepth 100000 in
set_option maxHeartbeats 4000000 in
theorem wk_X9_endOfAll {g : xG}  (M : xM) (P : Int32 → xM → Prop) (I1 : Nat → Int32 → Int32 → Int32 → xM → Prop) (h0 : vc_X9_endOfAll g M P (fun v1 v2 v3 N => ∃ k, I1 k v1 v2 v3 N)) (h1 : ∀ (n : Nat) (v1 : Int32) (v2 : Int32) (v3 : Int32) (N : xM), I1 n v1 v2 v3 N → vc_X9_endOfAll_1 g v1 v2 v3 N P (fun v1 v2 v3 N => ∃ k, k < n ∧ I1 k v1 v2 v3 N)) : mi_X9_endOfAll g M P := by
  refine x_startI (as := [.ref (x_a g 180)]) (cc := cX9_endOfAll) (n := 4) (ret := (some .int)) (own := RX9) (by decide) rfl rfl (Nat.le_of_ble_eq_true rfl) (fun x hC hr => ?_)
  have L : ∀ n : Nat, (∀ (v1 : Int32) (v2 : Int32) (v3 : Int32) (N : xM), I1 n v1 v2 v3 N → x_W x g 4 (x_Qi x g P) N 31 [(0, .ref (x_a g 180)), (1, .int v1), (2, .int v2), (3, .int v3)] []) := by
    intro n
    induction n using Nat.strongRecOn with
    | ind n ih =>
      intro v1 v2 v3 M hI
      have h := h1 n v1 v2 v3 M hI
      unfold vc_X9_endOfAll_1 at h
      refine x_iload_n (i := 3) (q := 3) hC dX9_endOfAll_31 rfl rfl ?_
      refine x_aload_n (i := 0) (q := 0) hC dX9_endOfAll_32 rfl rfl ?_
      refine x_getr (k := 0) (r := 0) hC xo_180 rfl kf_X9_endOfAll_12 dX9_endOfAll_33 ?_
      refine x_getr (k := 2) (r := 11) hC xo_0 rfl kf_X9_endOfAll_108 dX9_endOfAll_36 ?_
      refine x_geti (k := 0) hC xo_11 rfl kf_X9_endOfAll_112 dX9_endOfAll_39 ?_
      refine x_icmp_ge (t := 70) hC dX9_endOfAll_42 (by decide) (fun q => ?_) (fun q => ?_)
      · replace h := h.1 q
        refine x_iload_n (i := 2) (q := 2) hC dX9_endOfAll_70 rfl rfl ?_
        exact x_iret hC hr dX9_endOfAll_71 h
      · replace h := h.2 q
        refine x_iload_n (i := 1) (q := 1) hC dX9_endOfAll_45 rfl rfl ?_
        refine x_iload_n (i := 3) (q := 3) hC dX9_endOfAll_46 rfl rfl ?_
        refine x_callSi (As := [.int v1, .int v3]) hC h gX9_endOfAll_X9_isIn rfl rfl rfl hy_X9_isIn.2 ⟨Nat.le_of_ble_eq_true rfl, Nat.le_of_ble_eq_true rfl⟩ rfl (Nat.le_of_ble_eq_true rfl) rfl dX9_endOfAll_47 (fun r3 N4 h => ?_)
        refine x_if_eq (t := 64) hC dX9_endOfAll_50 (by decide) (fun q => ?_) (fun q => ?_)
        · replace h := h.1 q
          refine x_iinc (k := 3) (v' := (v3 + (1 : Int32))) (ls' := [(3, .int (v3 + (1 : Int32))), (0, .ref (x_a g 180)), (1, .int v1), (2, .int v2)]) hC dX9_endOfAll_64 rfl rfl (by decide) rfl ?_
          refine x_goto (t := 31) hC dX9_endOfAll_67 (by decide) ?_
          obtain ⟨n_1, hn, h⟩ := h
          exact x_sub [1, 2, 3, 0] rfl ((ih n_1 hn) _ _ _ _ h)
        · replace h := h.2 q
          refine x_iload_n (i := 2) (q := 2) hC dX9_endOfAll_53 rfl rfl ?_
          refine x_aload_n (i := 0) (q := 0) hC dX9_endOfAll_54 rfl rfl ?_
          refine x_getr (k := 0) (r := 0) hC xo_180 rfl kf_X9_endOfAll_12 dX9_endOfAll_55 ?_
          refine x_iload_n (i := 3) (q := 3) hC dX9_endOfAll_58 rfl rfl ?_
          refine x_callVi (q := (RX0, TX0, 6)) (As := [.int v3]) hC xo_0 rfl h gX9_endOfAll_X0_lengthOfWish rfl rfl rfl hy_X0_lengthOfWish ⟨Nat.le_of_ble_eq_true rfl, Nat.le_of_ble_eq_true rfl⟩ rfl (Nat.le_of_ble_eq_true rfl) rfl dX9_endOfAll_59 (fun r5 N6 h => ?_)
          refine x_iadd hC dX9_endOfAll_62 ?_
          refine x_istore_n (i := 2) (ls' := [(2, .int (v2 + r5)), (0, .ref (x_a g 180)), (1, .int v1), (3, .int v3)]) hC dX9_endOfAll_63 rfl (by decide) rfl ?_
          refine x_iinc (k := 3) (v' := (v3 + (1 : Int32))) (ls' := [(3, .int (v3 + (1 : Int32))), (2, .int (v2 + r5)), (0, .ref (x_a g 180)), (1, .int v1)]) hC dX9_endOfAll_64 rfl rfl (by decide) rfl ?_
          refine x_goto (t := 31) hC dX9_endOfAll_67 (by decide) ?_
          obtain ⟨n_1, hn, h⟩ := h
          exact x_sub [2, 3, 1, 0] rfl ((ih n_1 hn) _ _ _ _ h)
  have h := h0
  unfold vc_X9_endOfAll at h
  refine x_aload_n (i := 0) (q := 0) hC dX9_endOfAll_0 rfl rfl ?_
  refine x_getr (k := 0) (r := 0) hC xo_180 rfl kf_X9_endOfAll_12 dX9_endOfAll_1 ?_
  refine x_getr (k := 2) (r := 11) hC xo_0 rfl kf_X9_endOfAll_108 dX9_endOfAll_4 ?_
  refine x_aload_n (i := 0) (q := 0) hC dX9_endOfAll_7 rfl rfl ?_
  refine x_getr (k := 0) (r := 0) hC xo_180 rfl kf_X9_endOfAll_12 dX9_endOfAll_8 ?_
  refine x_getr (k := 0) (r := 1) hC xo_0 rfl kf_X9_endOfAll_56 dX9_endOfAll_11 ?_
  refine x_geti (k := 1) hC xo_1 rfl kf_X9_endOfAll_99 dX9_endOfAll_14 ?_
  refine x_callVi (q := (RX8, TX8, 4)) (As := [.int (M 1 1)]) hC xo_11 rfl h gX9_endOfAll_X8_readyOnes rfl rfl rfl hy_X8_readyOnes ⟨Nat.le_of_ble_eq_true rfl, Nat.le_of_ble_eq_true rfl⟩ rfl (Nat.le_of_ble_eq_true rfl) rfl dX9_endOfAll_17 (fun r1 N2 h => ?_)
  refine x_istore_n (i := 1) (ls' := [(1, .int r1), (0, .ref (x_a g 180))]) hC dX9_endOfAll_20 rfl (by decide) rfl ?_
  refine x_aload_n (i := 0) (q := 1) hC dX9_endOfAll_21 rfl rfl ?_
  refine x_getr (k := 0) (r := 0) hC xo_180 rfl kf_X9_endOfAll_12 dX9_endOfAll_22 ?_
  refine x_geti (k := 4) hC xo_0 rfl kf_X9_endOfAll_221 dX9_endOfAll_25 ?_
  refine x_istore_n (i := 2) (ls' := [(2, .int (N2 0 4)), (1, .int r1), (0, .ref (x_a g 180))]) hC dX9_endOfAll_28 rfl (by decide) rfl ?_
  refine x_iconst (v := 0) hC dX9_endOfAll_29 (by decide) ?_
  refine x_istore_n (i := 3) (ls' := [(3, .int (0 : Int32)), (2, .int (N2 0 4)), (1, .int r1), (0, .ref (x_a g 180))]) hC dX9_endOfAll_30 rfl (by decide) rfl ?_
  obtain ⟨n_1, h⟩ := h
  exact x_sub [3, 2, 1, 0] rfl ((L n_1) _ _ _ _ h)
theorem kf_X9_ifLeft_12 : x_okf wsX9_ifLeft RX9 12 9 0 = true := by decide +kernel
theorem kf_X9_ifLeft_56 : x_okf wsX9_ifLeft RX9 56 0 0 = true := by decide +kernel
theorem kf_X9_ifLeft_99 : x_okf wsX9_ifLeft RX9 99 6 1 = true := by decide +kernel
theorem kf_X9_ifLeft_108 : x_okf wsX9_ifLeft RX9 108 0 2 = true := by decide +kernel
theorem kf_X9_ifLeft_112 : x_okf wsX9_ifLeft RX9 112 8 0 = true := by decide +kernel
def vc_X9_ifLeft (g : xG) (v1 : Int32) (M : xM) (P : Int32 → xM → Prop) : Prop := (mi_X6_has g v1 M (fun r1 N2 => ((¬ r1 = 0 → (∀ y3 : Int32, y3 = ((N2 1 1) &&& (((1 : Int32) <<< (v1 &&& 31)) ^^^ (-1 : Int32))) → (mi_X8_readyOnes g y3 N2 (fun r4 N5 => (mi_J6_bitCount_0f7a4 g r4 N5 (fun r6 N7 => P ((N2 11 0) - r6) N7)))))) ∧ (r1 = 0 → P (-1 : Int32) N2))))
set_option maxRecDepth 100000 in
set_option maxHeartbeats 4000000 in
theorem wk_X9_ifLeft {g : xG} (v1 : Int32) (M : xM) (P : Int32 → xM → Prop) (h0 : vc_X9_ifLeft g v1 M P ) : mi_X9_ifLeft g v1 M P := by
  refine x_startI (as := [.ref (x_a g 180), .int v1]) (cc := cX9_ifLeft) (n := 3) (ret := (some .int)) (own := RX9) (by decide) rfl rfl (Nat.le_of_ble_eq_true rfl) (fun x hC hr => ?_)
  have h := h0
  unfold vc_X9_ifLeft at h
  refine x_aload_n (i := 0) (q := 0) hC dX9_ifLeft_0 rfl rfl ?_
  refine x_getr (k := 0) (r := 0) hC xo_180 rfl kf_X9_ifLeft_12 dX9_ifLeft_1 ?_
  refine x_getr (k := 0) (r := 1) hC xo_0 rfl kf_X9_ifLeft_56 dX9_ifLeft_4 ?_
  refine x_iload_n (i := 1) (q := 1) hC dX9_ifLeft_7 rfl rfl ?_
  refine x_callVi (q := (RX6, TX6, 7)) (As := [.int v1]) hC xo_1 rfl h gX9_ifLeft_X6_has rfl rfl rfl hy_X6_has ⟨Nat.le_of_ble_eq_true rfl, Nat.le_of_ble_eq_true rfl⟩ rfl (Nat.le_of_ble_eq_true rfl) rfl dX9_ifLeft_8 (fun r1 N2 h => ?_)
  refine x_if_ne (t := 16) hC dX9_ifLeft_11 (by decide) (fun q => ?_) (fun q => ?_)
  · replace h := h.1 q
    refine x_aload_n (i := 0) (q := 0) hC dX9_ifLeft_16 rfl rfl ?_
    refine x_getr (k := 0) (r := 0) hC xo_180 rfl kf_X9_ifLeft_12 dX9_ifLeft_17 ?_
    refine x_getr (k := 0) (r := 1) hC xo_0 rfl kf_X9_ifLeft_56 dX9_ifLeft_20 ?_
    refine x_geti (k := 1) hC xo_1 rfl kf_X9_ifLeft_99 dX9_ifLeft_23 ?_
    refine x_iconst (v := 1) hC dX9_ifLeft_26 (by decide) ?_
    refine x_iload_n (i := 1) (q := 1) hC dX9_ifLeft_27 rfl rfl ?_
    refine x_ishl hC dX9_ifLeft_28 ?_
    refine x_iconst (v := -1) hC dX9_ifLeft_29 (by decide) ?_
    refine x_ixor hC dX9_ifLeft_30 ?_
    refine x_iand hC dX9_ifLeft_31 ?_
    refine x_topi (fun y3 qy3 => ?_)
    replace h := h y3 qy3
    refine x_istore_n (i := 2) (ls' := [(2, .int y3), (0, .ref (x_a g 180)), (1, .int v1)]) hC dX9_ifLeft_32 rfl (by decide) rfl ?_
    refine x_aload_n (i := 0) (q := 1) hC dX9_ifLeft_33 rfl rfl ?_
    refine x_getr (k := 0) (r := 0) hC xo_180 rfl kf_X9_ifLeft_12 dX9_ifLeft_34 ?_
    refine x_getr (k := 2) (r := 11) hC xo_0 rfl kf_X9_ifLeft_108 dX9_ifLeft_37 ?_
    refine x_geti (k := 0) hC xo_11 rfl kf_X9_ifLeft_112 dX9_ifLeft_40 ?_
    refine x_aload_n (i := 0) (q := 1) hC dX9_ifLeft_43 rfl rfl ?_
    refine x_getr (k := 0) (r := 0) hC xo_180 rfl kf_X9_ifLeft_12 dX9_ifLeft_44 ?_
    refine x_getr (k := 2) (r := 11) hC xo_0 rfl kf_X9_ifLeft_108 dX9_ifLeft_47 ?_
    refine x_iload_n (i := 2) (q := 0) hC dX9_ifLeft_50 rfl rfl ?_
    refine x_callVi (q := (RX8, TX8, 4)) (As := [.int y3]) hC xo_11 rfl h gX9_ifLeft_X8_readyOnes rfl rfl rfl hy_X8_readyOnes ⟨Nat.le_of_ble_eq_true rfl, Nat.le_of_ble_eq_true rfl⟩ rfl (Nat.le_of_ble_eq_true rfl) rfl dX9_ifLeft_51 (fun r4 N5 h => ?_)
    refine x_callSi (As := [.int r4]) hC h gX9_ifLeft_J6_bitCount_0f7a4 rfl rfl rfl hy_J6_bitCount_0f7a4.2 ⟨Nat.le_of_ble_eq_true rfl, Nat.le_of_ble_eq_true rfl⟩ rfl (Nat.le_of_ble_eq_true rfl) rfl dX9_ifLeft_54 (fun r6 N7 h => ?_)
    refine x_isub hC dX9_ifLeft_57 ?_
    exact x_iret hC hr dX9_ifLeft_58 h
  · replace h := h.2 q
    refine x_iconst (v := -1) hC dX9_ifLeft_14 (by decide) ?_
    exact x_iret hC hr dX9_ifLeft_15 h
theorem kf_X9_heldUpBy_12 : x_okf wsX9_heldUpBy RX9 12 9 0 = true := by decide +kernel
theorem kf_X9_heldUpBy_108 : x_okf wsX9_heldUpBy RX9 108 0 2 = true := by decide +kernel
theorem kf_X9_heldUpBy_112 : x_okf wsX9_heldUpBy RX9 112 8 0 = true := by decide +kernel
def vc_X9_heldUpBy (g : xG) (v1 : Int32) (v2 : Int32) (M : xM) (P : Int32 → xM → Prop) (K1 : Int32 → Int32 → Int32 → Int32 → Int32 → Int32 → xM → Prop) : Prop := (mi_X8_has g v1 M (fun r1 N2 => ((¬ r1 = 0 → (mi_X9_isBetween g v2 (0 : Int32) (1 : Int32) N2 (fun r3 N4 => ((¬ r3 = 0 → (mi_X0_isReady g v1 N4 (fun r5 N6 => ((r5 = 0 → P (-6 : Int32) N6) ∧ (¬ (r5 = 0) → ((¬ (N6 11 0) = (1 : Int32) → (mi_X9_beginWithout g v1 (-6 : Int32) N6 (fun r7 N8 => K1 v1 v2 r7 (-6 : Int32) (0 : Int32) (0 : Int32) N8))) ∧ ((N6 11 0) = (1 : Int32) → P (-6 : Int32) N6))))))) ∧ (r3 = 0 → P (-2 : Int32) N4))))) ∧ (r1 = 0 → P (-1 : Int32) N2))))
def vc_X9_heldUpBy_1 (g : xG) (v1 : Int32) (v2 : Int32) (v3 : Int32) (v4 : Int32) (v5 : Int32) (v6 : Int32) (M : xM) (P : Int32 → xM → Prop) (K1 : Int32 → Int32 → Int32 → Int32 → Int32 → Int32 → xM → Prop) : Prop := (((M 11 0) ≤ v6 → ((¬ v2 = 0 → P v5 M) ∧ (v2 = 0 → P v4 M))) ∧ (¬ ((M 11 0) ≤ v6) → ((¬ v6 = v1 → (mi_X9_beginWithout g v1 v6 M (fun r9 N10 => ((v4 = (-6 : Int32) → K1 v1 v2 v3 v6 (v3 - r9) (v6 + (1 : Int32)) N10) ∧ (¬ (v4 = (-6 : Int32)) → (((v3 - r9) ≤ v5 → K1 v1 v2 v3 v4 v5 (v6 + (1 : Int32)) N10) ∧ (¬ ((v3 - r9) ≤ v5) → K1 v1 v2 v3 v6 (v3 - r9) (v6 + (1 : Int32)) N10))))))) ∧ (v6 = v1 → K1 v1 v2 v3 v4 v5 (v6 + (1 : Int32)) M))))
set_option maxRecDepth 100000 in
set_option maxHeartbeats 4000000 in
theorem wk_X9_heldUpBy {g : xG} (v1 : Int32) (v2 : Int32) (M : xM) (P : Int32 → xM → Prop) (I1 : Nat → Int32 → Int32 → Int32 → Int32 → Int32 → Int32 → xM → Prop) (h0 : vc_X9_heldUpBy g v1 v2 M P (fun v1 v2 v3 v4 v5 v6 N => ∃ k, I1 k v1 v2 v3 v4 v5 v6 N)) (h1 : ∀ (n : Nat) (v1 : Int32) (v2 : Int32) (v3 : Int32) (v4 : Int32) (v5 : Int32) (v6 : Int32) (N : xM), I1 n v1 v2 v3 v4 v5 v6 N → vc_X9_heldUpBy_1 g v1 v2 v3 v4 v5 v6 N P (fun v1 v2 v3 v4 v5 v6 N => ∃ k, k < n ∧ I1 k v1 v2 v3 v4 v5 v6 N)) : mi_X9_heldUpBy g v1 v2 M P := by
  refine x_startI (as := [.ref (x_a g 180), .int v1, .int v2]) (cc := cX9_heldUpBy) (n := 8) (ret := (some .int)) (own := RX9) (by decide) rfl rfl (Nat.le_of_ble_eq_true rfl) (fun x hC hr => ?_)
  have L : ∀ n : Nat, (∀ (v1 : Int32) (v2 : Int32) (v3 : Int32) (v4 : Int32) (v5 : Int32) (v6 : Int32) (N : xM), I1 n v1 v2 v3 v4 v5 v6 N → x_W x g 8 (x_Qi x g P) N 74 [(0, .ref (x_a g 180)), (1, .int v1), (2, .int v2), (3, .int v3), (4, .int v4), (5, .int v5), (6, .int v6)] []) := by
    intro n
    induction n using Nat.strongRecOn with
    | ind n ih =>
      intro v1 v2 v3 v4 v5 v6 M hI
      have h := h1 n v1 v2 v3 v4 v5 v6 M hI
      unfold vc_X9_heldUpBy_1 at h
      refine x_iload (q := 6) hC dX9_heldUpBy_74 rfl ?_
      refine x_aload_n (i := 0) (q := 0) hC dX9_heldUpBy_76 rfl rfl ?_
      refine x_getr (k := 0) (r := 0) hC xo_180 rfl kf_X9_heldUpBy_12 dX9_heldUpBy_77 ?_
      refine x_getr (k := 2) (r := 11) hC xo_0 rfl kf_X9_heldUpBy_108 dX9_heldUpBy_80 ?_
      refine x_geti (k := 0) hC xo_11 rfl kf_X9_heldUpBy_112 dX9_heldUpBy_83 ?_
      refine x_icmp_ge (t := 137) hC dX9_heldUpBy_86 (by decide) (fun q => ?_) (fun q => ?_)
      · replace h := h.1 q
        refine x_iload_n (i := 2) (q := 2) hC dX9_heldUpBy_137 rfl rfl ?_
        refine x_if_ne (t := 146) hC dX9_heldUpBy_138 (by decide) (fun q => ?_) (fun q => ?_)
        · replace h := h.1 q
          refine x_iload (q := 5) hC dX9_heldUpBy_146 rfl ?_
          exact x_iret hC hr dX9_heldUpBy_148 h
        · replace h := h.2 q
          refine x_iload (q := 4) hC dX9_heldUpBy_141 rfl ?_
          refine x_goto (t := 148) hC dX9_heldUpBy_143 (by decide) ?_
          exact x_iret hC hr dX9_heldUpBy_148 h
      · replace h := h.2 q
        refine x_iload (q := 6) hC dX9_heldUpBy_89 rfl ?_
        refine x_iload_n (i := 1) (q := 1) hC dX9_heldUpBy_91 rfl rfl ?_
        refine x_icmp_ne (t := 98) hC dX9_heldUpBy_92 (by decide) (fun q => ?_) (fun q => ?_)
        · replace h := h.1 q
          refine x_iload_n (i := 3) (q := 3) hC dX9_heldUpBy_98 rfl rfl ?_
          refine x_aload_n (i := 0) (q := 0) hC dX9_heldUpBy_99 rfl rfl ?_
          refine x_iload_n (i := 1) (q := 1) hC dX9_heldUpBy_100 rfl rfl ?_
          refine x_iload (q := 6) hC dX9_heldUpBy_101 rfl ?_
          refine x_callVi (q := (RX9, TX9, 7)) (As := [.int v1, .int v6]) hC xo_180 rfl h gX9_heldUpBy_X9_beginWithout rfl rfl rfl hy_X9_beginWithout ⟨Nat.le_of_ble_eq_true rfl, Nat.le_of_ble_eq_true rfl⟩ rfl (Nat.le_of_ble_eq_true rfl) rfl dX9_heldUpBy_103 (fun r9 N10 h => ?_)
          refine x_isub hC dX9_heldUpBy_106 ?_
          refine x_istore (ls' := [(7, .int (v3 - r9)), (0, .ref (x_a g 180)), (1, .int v1), (2, .int v2), (3, .int v3), (4, .int v4), (5, .int v5), (6, .int v6)]) hC dX9_heldUpBy_107 (by decide) rfl ?_
          refine x_iload (q := 5) hC dX9_heldUpBy_109 rfl ?_
          refine x_bipush (v := -6) hC dX9_heldUpBy_111 (by decide) ?_
          refine x_icmp_eq (t := 123) hC dX9_heldUpBy_113 (by decide) (fun q => ?_) (fun q => ?_)
          · replace h := h.1 q
            refine x_iload (q := 7) hC dX9_heldUpBy_123 rfl ?_
            refine x_istore (ls' := [(4, .int v6), (7, .int (v3 - r9)), (0, .ref (x_a g 180)), (1, .int v1), (2, .int v2), (3, .int v3), (5, .int v5), (6, .int v6)]) hC dX9_heldUpBy_125 (by decide) rfl ?_
            refine x_iload (q := 1) hC dX9_heldUpBy_127 rfl ?_
            refine x_istore (ls' := [(5, .int (v3 - r9)), (4, .int v6), (7, .int (v3 - r9)), (0, .ref (x_a g 180)), (1, .int v1), (2, .int v2), (3, .int v3), (6, .int v6)]) hC dX9_heldUpBy_129 (by decide) rfl ?_
            refine x_iinc (k := 7) (v' := (v6 + (1 : Int32))) (ls' := [(6, .int (v6 + (1 : Int32))), (5, .int (v3 - r9)), (4, .int v6), (7, .int (v3 - r9)), (0, .ref (x_a g 180)), (1, .int v1), (2, .int v2), (3, .int v3)]) hC dX9_heldUpBy_131 rfl rfl (by decide) rfl ?_
            refine x_goto (t := 74) hC dX9_heldUpBy_134 (by decide) ?_
            obtain ⟨n_1, hn, h⟩ := h
            exact x_sub [4, 5, 6, 7, 2, 1, 0] rfl ((ih n_1 hn) _ _ _ _ _ _ _ h)
          · replace h := h.2 q
            refine x_iload (q := 0) hC dX9_heldUpBy_116 rfl ?_
            refine x_iload (q := 6) hC dX9_heldUpBy_118 rfl ?_
            refine x_icmp_le (t := 131) hC dX9_heldUpBy_120 (by decide) (fun q => ?_) (fun q => ?_)
            · replace h := h.1 q
              refine x_iinc (k := 7) (v' := (v6 + (1 : Int32))) (ls' := [(6, .int (v6 + (1 : Int32))), (7, .int (v3 - r9)), (0, .ref (x_a g 180)), (1, .int v1), (2, .int v2), (3, .int v3), (4, .int v4), (5, .int v5)]) hC dX9_heldUpBy_131 rfl rfl (by decide) rfl ?_
              refine x_goto (t := 74) hC dX9_heldUpBy_134 (by decide) ?_
              obtain ⟨n_1, hn, h⟩ := h
              exact x_sub [2, 3, 4, 5, 6, 7, 0] rfl ((ih n_1 hn) _ _ _ _ _ _ _ h)
            · replace h := h.2 q
              refine x_iload (q := 7) hC dX9_heldUpBy_123 rfl ?_
              refine x_istore (ls' := [(4, .int v6), (7, .int (v3 - r9)), (0, .ref (x_a g 180)), (1, .int v1), (2, .int v2), (3, .int v3), (5, .int v5), (6, .int v6)]) hC dX9_heldUpBy_125 (by decide) rfl ?_
              refine x_iload (q := 1) hC dX9_heldUpBy_127 rfl ?_
              refine x_istore (ls' := [(5, .int (v3 - r9)), (4, .int v6), (7, .int (v3 - r9)), (0, .ref (x_a g 180)), (1, .int v1), (2, .int v2), (3, .int v3), (6, .int v6)]) hC dX9_heldUpBy_129 (by decide) rfl ?_
              refine x_iinc (k := 7) (v' := (v6 + (1 : Int32))) (ls' := [(6, .int (v6 + (1 : Int32))), (5, .int (v3 - r9)), (4, .int v6), (7, .int (v3 - r9)), (0, .ref (x_a g 180)), (1, .int v1), (2, .int v2), (3, .int v3)]) hC dX9_heldUpBy_131 rfl rfl (by decide) rfl ?_
              refine x_goto (t := 74) hC dX9_heldUpBy_134 (by decide) ?_
              obtain ⟨n_1, hn, h⟩ := h
              exact x_sub [4, 5, 6, 7, 2, 1, 0] rfl ((ih n_1 hn) _ _ _ _ _ _ _ h)
        · replace h := h.2 q
          refine x_goto (t := 131) hC dX9_heldUpBy_95 (by decide) ?_
          refine x_iinc (k := 6) (v' := (v6 + (1 : Int32))) (ls' := [(6, .int (v6 + (1 : Int32))), (0, .ref (x_a g 180)), (1, .int v1), (2, .int v2), (3, .int v3), (4, .int v4), (5, .int v5)]) hC dX9_heldUpBy_131 rfl rfl (by decide) rfl ?_
          refine x_goto (t := 74) hC dX9_heldUpBy_134 (by decide) ?_
          obtain ⟨n_1, hn, h⟩ := h
          exact x_sub [1, 2, 3, 4, 5, 6, 0] rfl ((ih n_1 hn) _ _ _ _ _ _ _ h)
  have h := h0
  unfold vc_X9_heldUpBy at h
  refine x_aload_n (i := 0) (q := 0) hC dX9_heldUpBy_0 rfl rfl ?_
  refine x_getr (k := 0) (r := 0) hC xo_180 rfl kf_X9_heldUpBy_12 dX9_heldUpBy_1 ?_
  refine x_getr (k := 2) (r := 11) hC xo_0 rfl kf_X9_heldUpBy_108 dX9_heldUpBy_4 ?_
  refine x_iload_n (i := 1) (q := 1) hC dX9_heldUpBy_7 rfl rfl ?_
  refine x_callVi (q := (RX8, TX8, 4)) (As := [.int v1]) hC xo_11 rfl h gX9_heldUpBy_X8_has rfl rfl rfl hy_X8_has ⟨Nat.le_of_ble_eq_true rfl, Nat.le_of_ble_eq_true rfl⟩ rfl (Nat.le_of_ble_eq_true rfl) rfl dX9_heldUpBy_8 (fun r1 N2 h => ?_)
  refine x_if_ne (t := 16) hC dX9_heldUpBy_11 (by decide) (fun q => ?_) (fun q => ?_)
  · replace h := h.1 q
    refine x_iload_n (i := 2) (q := 2) hC dX9_heldUpBy_16 rfl rfl ?_
    refine x_iconst (v := 0) hC dX9_heldUpBy_17 (by decide) ?_
    refine x_iconst (v := 1) hC dX9_heldUpBy_18 (by decide) ?_
    refine x_callSi (As := [.int v2, .int (0 : Int32), .int (1 : Int32)]) hC h gX9_heldUpBy_X9_isBetween rfl rfl rfl hy_X9_isBetween.2 ⟨Nat.le_of_ble_eq_true rfl, Nat.le_of_ble_eq_true rfl⟩ rfl (Nat.le_of_ble_eq_true rfl) rfl dX9_heldUpBy_19 (fun r3 N4 h => ?_)
    refine x_if_ne (t := 28) hC dX9_heldUpBy_22 (by decide) (fun q => ?_) (fun q => ?_)
    · replace h := h.1 q
      refine x_aload_n (i := 0) (q := 0) hC dX9_heldUpBy_28 rfl rfl ?_
      refine x_getr (k := 0) (r := 0) hC xo_180 rfl kf_X9_heldUpBy_12 dX9_heldUpBy_29 ?_
      refine x_iload_n (i := 1) (q := 1) hC dX9_heldUpBy_32 rfl rfl ?_
      refine x_callVi (q := (RX0, TX0, 6)) (As := [.int v1]) hC xo_0 rfl h gX9_heldUpBy_X0_isReady rfl rfl rfl hy_X0_isReady ⟨Nat.le_of_ble_eq_true rfl, Nat.le_of_ble_eq_true rfl⟩ rfl (Nat.le_of_ble_eq_true rfl) rfl dX9_heldUpBy_33 (fun r5 N6 h => ?_)
      refine x_if_eq (t := 53) hC dX9_heldUpBy_36 (by decide) (fun q => ?_) (fun q => ?_)
      · replace h := h.1 q
        refine x_bipush (v := -6) hC dX9_heldUpBy_53 (by decide) ?_
        exact x_iret hC hr dX9_heldUpBy_55 h
      · replace h := h.2 q
        refine x_aload_n (i := 0) (q := 0) hC dX9_heldUpBy_39 rfl rfl ?_
        refine x_getr (k := 0) (r := 0) hC xo_180 rfl kf_X9_heldUpBy_12 dX9_heldUpBy_40 ?_
        refine x_getr (k := 2) (r := 11) hC xo_0 rfl kf_X9_heldUpBy_108 dX9_heldUpBy_43 ?_
        refine x_geti (k := 0) hC xo_11 rfl kf_X9_heldUpBy_112 dX9_heldUpBy_46 ?_
        refine x_iconst (v := 1) hC dX9_heldUpBy_49 (by decide) ?_
        refine x_icmp_ne (t := 56) hC dX9_heldUpBy_50 (by decide) (fun q => ?_) (fun q => ?_)
        · replace h := h.1 q
          refine x_aload_n (i := 0) (q := 0) hC dX9_heldUpBy_56 rfl rfl ?_
          refine x_iload_n (i := 1) (q := 1) hC dX9_heldUpBy_57 rfl rfl ?_
          refine x_bipush (v := -6) hC dX9_heldUpBy_58 (by decide) ?_
          refine x_callVi (q := (RX9, TX9, 7)) (As := [.int v1, .int (-6 : Int32)]) hC xo_180 rfl h gX9_heldUpBy_X9_beginWithout rfl rfl rfl hy_X9_beginWithout ⟨Nat.le_of_ble_eq_true rfl, Nat.le_of_ble_eq_true rfl⟩ rfl (Nat.le_of_ble_eq_true rfl) rfl dX9_heldUpBy_60 (fun r7 N8 h => ?_)
          refine x_istore_n (i := 3) (ls' := [(3, .int r7), (0, .ref (x_a g 180)), (1, .int v1), (2, .int v2)]) hC dX9_heldUpBy_63 rfl (by decide) rfl ?_
          refine x_bipush (v := -6) hC dX9_heldUpBy_64 (by decide) ?_
          refine x_istore (ls' := [(4, .int (-6 : Int32)), (3, .int r7), (0, .ref (x_a g 180)), (1, .int v1), (2, .int v2)]) hC dX9_heldUpBy_66 (by decide) rfl ?_
          refine x_iconst (v := 0) hC dX9_heldUpBy_68 (by decide) ?_
          refine x_istore (ls' := [(5, .int (0 : Int32)), (4, .int (-6 : Int32)), (3, .int r7), (0, .ref (x_a g 180)), (1, .int v1), (2, .int v2)]) hC dX9_heldUpBy_69 (by decide) rfl ?_
          refine x_iconst (v := 0) hC dX9_heldUpBy_71 (by decide) ?_
          refine x_istore (ls' := [(6, .int (0 : Int32)), (5, .int (0 : Int32)), (4, .int (-6 : Int32)), (3, .int r7), (0, .ref (x_a g 180)), (1, .int v1), (2, .int v2)]) hC dX9_heldUpBy_72 (by decide) rfl ?_
          obtain ⟨n_1, h⟩ := h
          exact x_sub [4, 5, 6, 3, 2, 1, 0] rfl ((L n_1) _ _ _ _ _ _ _ h)
        · replace h := h.2 q
          refine x_bipush (v := -6) hC dX9_heldUpBy_53 (by decide) ?_
          exact x_iret hC hr dX9_heldUpBy_55 h
    · replace h := h.2 q
      refine x_bipush (v := -2) hC dX9_heldUpBy_25 (by decide) ?_
      exact x_iret hC hr dX9_heldUpBy_27 h
  · replace h := h.2 q
    refine x_iconst (v := -1) hC dX9_heldUpBy_14 (by decide) ?_
    exact x_iret hC hr dX9_heldUpBy_15 h
theorem kf_X9_together_12 : x_okf wsX9_together RX9 12 9 0 = true := by decide +kernel
theorem kf_X9_together_56 : x_okf wsX9_together RX9 56 0 0 = true := by decide +kernel
theorem kf_X9_together_78 : x_okf wsX9_together RX9 78 0 1 = true := by decide +kernel
theorem kf_X9_together_82 : x_okf wsX9_together RX9 82 7 0 = true := by decide +kernel
def vc_X9_together (g : xG) (v1 : Int32) (v2 : Int32) (M : xM) (P : Int32 → xM → Prop) (K1 : Int32 → Int32 → Int32 → Int32 → xM → Prop) : Prop := (mi_X6_has g v1 M (fun r1 N2 => ((r1 = 0 → P (-1 : Int32) N2) ∧ (¬ (r1 = 0) → (mi_X6_has g v2 N2 (fun r3 N4 => ((¬ r3 = 0 → ((¬ v1 = v2 → K1 v1 v2 (0 : Int32) (0 : Int32) N4) ∧ (v1 = v2 → P (-2 : Int32) N4))) ∧ (r3 = 0 → P (-1 : Int32) N4))))))))
def vc_X9_together_1 (g : xG) (v1 : Int32) (v2 : Int32) (v3 : Int32) (v4 : Int32) (M : xM) (P : Int32 → xM → Prop) (K1 : Int32 → Int32 → Int32 → Int32 → xM → Prop) : Prop := (((M 6 0) ≤ v4 → P v3 M) ∧ (¬ ((M 6 0) ≤ v4) → (mi_X0_keyAndTen g v1 v2 v4 M (fun r5 N6 => ((r5 = (-6 : Int32) → K1 v1 v2 v3 (v4 + (1 : Int32)) N6) ∧ (¬ (r5 = (-6 : Int32)) → K1 v1 v2 (v3 + (1 : Int32)) (v4 + (1 : Int32)) N6))))))
set_option maxRecDepth 100000 in
set_option maxHeartbeats 4000000 in
theorem wk_X9_together {g : xG} (v1 : Int32) (v2 : Int32) (M : xM) (P : Int32 → xM → Prop) (I1 : Nat → Int32 → Int32 → Int32 → Int32 → xM → Prop) (h0 : vc_X9_together g v1 v2 M P (fun v1 v2 v3 v4 N => ∃ k, I1 k v1 v2 v3 v4 N)) (h1 : ∀ (n : Nat) (v1 : Int32) (v2 : Int32) (v3 : Int32) (v4 : Int32) (N : xM), I1 n v1 v2 v3 v4 N → vc_X9_together_1 g v1 v2 v3 v4 N P (fun v1 v2 v3 v4 N => ∃ k, k < n ∧ I1 k v1 v2 v3 v4 N)) : mi_X9_together g v1 v2 M P := by
  refine x_startI (as := [.ref (x_a g 180), .int v1, .int v2]) (cc := cX9_together) (n := 5) (ret := (some .int)) (own := RX9) (by decide) rfl rfl (Nat.le_of_ble_eq_true rfl) (fun x hC hr => ?_)
  have L : ∀ n : Nat, (∀ (v1 : Int32) (v2 : Int32) (v3 : Int32) (v4 : Int32) (N : xM), I1 n v1 v2 v3 v4 N → x_W x g 5 (x_Qi x g P) N 43 [(0, .ref (x_a g 180)), (1, .int v1), (2, .int v2), (3, .int v3), (4, .int v4)] []) := by
    intro n
    induction n using Nat.strongRecOn with
    | ind n ih =>
      intro v1 v2 v3 v4 M hI
      have h := h1 n v1 v2 v3 v4 M hI
      unfold vc_X9_together_1 at h
      refine x_iload (q := 4) hC dX9_together_43 rfl ?_
      refine x_aload_n (i := 0) (q := 0) hC dX9_together_45 rfl rfl ?_
      refine x_getr (k := 0) (r := 0) hC xo_180 rfl kf_X9_together_12 dX9_together_46 ?_
      refine x_getr (k := 1) (r := 6) hC xo_0 rfl kf_X9_together_78 dX9_together_49 ?_
      refine x_geti (k := 0) hC xo_6 rfl kf_X9_together_82 dX9_together_52 ?_
      refine x_icmp_ge (t := 83) hC dX9_together_55 (by decide) (fun q => ?_) (fun q => ?_)
      · replace h := h.1 q
        refine x_iload_n (i := 3) (q := 3) hC dX9_together_83 rfl rfl ?_
        exact x_iret hC hr dX9_together_84 h
      · replace h := h.2 q
        refine x_aload_n (i := 0) (q := 0) hC dX9_together_58 rfl rfl ?_
        refine x_getr (k := 0) (r := 0) hC xo_180 rfl kf_X9_together_12 dX9_together_59 ?_
        refine x_iload_n (i := 1) (q := 1) hC dX9_together_62 rfl rfl ?_
        refine x_iload_n (i := 2) (q := 2) hC dX9_together_63 rfl rfl ?_
        refine x_iload (q := 4) hC dX9_together_64 rfl ?_
        refine x_callVi (q := (RX0, TX0, 6)) (As := [.int v1, .int v2, .int v4]) hC xo_0 rfl h gX9_together_X0_keyAndTen rfl rfl rfl hy_X0_keyAndTen ⟨Nat.le_of_ble_eq_true rfl, Nat.le_of_ble_eq_true rfl⟩ rfl (Nat.le_of_ble_eq_true rfl) rfl dX9_together_66 (fun r5 N6 h => ?_)
        refine x_bipush (v := -6) hC dX9_together_69 (by decide) ?_
        refine x_icmp_eq (t := 77) hC dX9_together_71 (by decide) (fun q => ?_) (fun q => ?_)
        · replace h := h.1 q
          refine x_iinc (k := 4) (v' := (v4 + (1 : Int32))) (ls' := [(4, .int (v4 + (1 : Int32))), (0, .ref (x_a g 180)), (1, .int v1), (2, .int v2), (3, .int v3)]) hC dX9_together_77 rfl rfl (by decide) rfl ?_
          refine x_goto (t := 43) hC dX9_together_80 (by decide) ?_
          obtain ⟨n_1, hn, h⟩ := h
          exact x_sub [1, 2, 3, 4, 0] rfl ((ih n_1 hn) _ _ _ _ _ h)
        · replace h := h.2 q
          refine x_iinc (k := 3) (v' := (v3 + (1 : Int32))) (ls' := [(3, .int (v3 + (1 : Int32))), (0, .ref (x_a g 180)), (1, .int v1), (2, .int v2), (4, .int v4)]) hC dX9_together_74 rfl rfl (by decide) rfl ?_
          refine x_iinc (k := 4) (v' := (v4 + (1 : Int32))) (ls' := [(4, .int (v4 + (1 : Int32))), (3, .int (v3 + (1 : Int32))), (0, .ref (x_a g 180)), (1, .int v1), (2, .int v2)]) hC dX9_together_77 rfl rfl (by decide) rfl ?_
          refine x_goto (t := 43) hC dX9_together_80 (by decide) ?_
          obtain ⟨n_1, hn, h⟩ := h
          exact x_sub [2, 3, 4, 1, 0] rfl ((ih n_1 hn) _ _ _ _ _ h)
  have h := h0
  unfold vc_X9_together at h
  refine x_aload_n (i := 0) (q := 0) hC dX9_together_0 rfl rfl ?_
  refine x_getr (k := 0) (r := 0) hC xo_180 rfl kf_X9_together_12 dX9_together_1 ?_
  refine x_getr (k := 0) (r := 1) hC xo_0 rfl kf_X9_together_56 dX9_together_4 ?_
  refine x_iload_n (i := 1) (q := 1) hC dX9_together_7 rfl rfl ?_
  refine x_callVi (q := (RX6, TX6, 7)) (As := [.int v1]) hC xo_1 rfl h gX9_together_X6_has rfl rfl rfl hy_X6_has ⟨Nat.le_of_ble_eq_true rfl, Nat.le_of_ble_eq_true rfl⟩ rfl (Nat.le_of_ble_eq_true rfl) rfl dX9_together_8 (fun r1 N2 h => ?_)
  refine x_if_eq (t := 28) hC dX9_together_11 (by decide) (fun q => ?_) (fun q => ?_)
  · replace h := h.1 q
    refine x_iconst (v := -1) hC dX9_together_28 (by decide) ?_
    exact x_iret hC hr dX9_together_29 h
  · replace h := h.2 q
    refine x_aload_n (i := 0) (q := 0) hC dX9_together_14 rfl rfl ?_
    refine x_getr (k := 0) (r := 0) hC xo_180 rfl kf_X9_together_12 dX9_together_15 ?_
    refine x_getr (k := 0) (r := 1) hC xo_0 rfl kf_X9_together_56 dX9_together_18 ?_
    refine x_iload_n (i := 2) (q := 2) hC dX9_together_21 rfl rfl ?_
    refine x_callVi (q := (RX6, TX6, 7)) (As := [.int v2]) hC xo_1 rfl h gX9_together_X6_has rfl rfl rfl hy_X6_has ⟨Nat.le_of_ble_eq_true rfl, Nat.le_of_ble_eq_true rfl⟩ rfl (Nat.le_of_ble_eq_true rfl) rfl dX9_together_22 (fun r3 N4 h => ?_)
    refine x_if_ne (t := 30) hC dX9_together_25 (by decide) (fun q => ?_) (fun q => ?_)
    · replace h := h.1 q
      refine x_iload_n (i := 1) (q := 1) hC dX9_together_30 rfl rfl ?_
      refine x_iload_n (i := 2) (q := 2) hC dX9_together_31 rfl rfl ?_
      refine x_icmp_ne (t := 38) hC dX9_together_32 (by decide) (fun q => ?_) (fun q => ?_)
      · replace h := h.1 q
        refine x_iconst (v := 0) hC dX9_together_38 (by decide) ?_
        refine x_istore_n (i := 3) (ls' := [(3, .int (0 : Int32)), (0, .ref (x_a g 180)), (1, .int v1), (2, .int v2)]) hC dX9_together_39 rfl (by decide) rfl ?_
        refine x_iconst (v := 0) hC dX9_together_40 (by decide) ?_
        refine x_istore (ls' := [(4, .int (0 : Int32)), (3, .int (0 : Int32)), (0, .ref (x_a g 180)), (1, .int v1), (2, .int v2)]) hC dX9_together_41 (by decide) rfl ?_
        obtain ⟨n_1, h⟩ := h
        exact x_sub [2, 3, 4, 1, 0] rfl ((L n_1) _ _ _ _ _ h)
      · replace h := h.2 q
        refine x_bipush (v := -2) hC dX9_together_35 (by decide) ?_
        exact x_iret hC hr dX9_together_37 h
    · replace h := h.2 q
      refine x_iconst (v := -1) hC dX9_together_28 (by decide) ?_
      exact x_iret hC hr dX9_together_29 h
