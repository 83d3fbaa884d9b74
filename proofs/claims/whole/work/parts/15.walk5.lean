theorem kf_X10_record_28 : x_okf wsX10_record RX10 28 10 3 = true := by decide +kernel
theorem kf_X10_record_7 : x_okf wsX10_record RX10 7 10 0 = true := by decide +kernel
theorem kf_X10_record_16 : x_okf wsX10_record RX10 16 10 2 = true := by decide +kernel
def vc_X10_record (g : xG) (M : xM) (P : xM → Prop) (K1 : Int32 → xM → Prop) : Prop := ((¬ (M 193 3) = (6 : Int32) → (mi_X10_moves g 194 (0 : Int32) 196 ((M 193 3) * (239 : Int32)) M (fun N1 => P (x_up N1 193 3 ((N1 193 3) + (1 : Int32)))))) ∧ ((M 193 3) = (6 : Int32) → K1 (0 : Int32) M))
def vc_X10_record_1 (g : xG) (v1 : Int32) (M : xM) (P : xM → Prop) (K1 : Int32 → xM → Prop) : Prop := (((1195 : Int32) ≤ v1 → (mi_X10_moves g 194 (0 : Int32) 196 (((x_up M 193 3 ((M 193 3) - (1 : Int32))) 193 3) * (239 : Int32)) (x_up M 193 3 ((M 193 3) - (1 : Int32))) (fun N2 => P (x_up N2 193 3 ((N2 193 3) + (1 : Int32)))))) ∧ (¬ ((1195 : Int32) ≤ v1) → (vp_in (v1 + (239 : Int32)) 1434 ∧ (vp_in v1 1434 ∧ K1 (v1 + (1 : Int32)) (x_up M 196 (v1).toNatClampNeg (M 196 ((v1 + (239 : Int32))).toNatClampNeg))))))
set_option maxRecDepth 100000 in
set_option maxHeartbeats 4000000 in
theorem wk_X10_record {g : xG}  (M : xM) (P : xM → Prop) (I1 : Nat → Int32 → xM → Prop) (h0 : vc_X10_record g M P (fun v1 N => ∃ k, I1 k v1 N)) (h1 : ∀ (n : Nat) (v1 : Int32) (N : xM), I1 n v1 N → vc_X10_record_1 g v1 N P (fun v1 N => ∃ k, k < n ∧ I1 k v1 N)) : mi_X10_record g M P := by
  refine x_startV (as := [.ref (x_a g 193)]) (cc := cX10_record) (n := 2) (ret := none) (own := RX10) (by decide) rfl rfl (Nat.le_of_ble_eq_true rfl) (fun x hC hr => ?_)
  have L : ∀ n : Nat, (∀ (v1 : Int32) (N : xM), I1 n v1 N → x_W x g 2 (x_Qv x g P) N 11 [(0, .ref (x_a g 193)), (1, .int v1)] []) := by
    intro n
    induction n using Nat.strongRecOn with
    | ind n ih =>
      intro v1 M hI
      have h := h1 n v1 M hI
      unfold vc_X10_record_1 at h
      refine x_iload_n (i := 1) (q := 1) hC dX10_record_11 rfl rfl ?_
      refine x_sipush (v := 1195) hC dX10_record_12 (by decide) ?_
      refine x_icmp_ge (t := 40) hC dX10_record_15 (by decide) (fun q => ?_) (fun q => ?_)
      · replace h := h.1 q
        refine x_aload_n (i := 0) (q := 0) hC dX10_record_40 rfl rfl ?_
        refine x_dup hC dX10_record_41 rfl ?_
        refine x_geti (k := 3) hC xo_193 rfl kf_X10_record_28 dX10_record_42 ?_
        refine x_iconst (v := 1) hC dX10_record_45 (by decide) ?_
        refine x_isub hC dX10_record_46 ?_
        refine x_puti (k := 3) hC xo_193 rfl kf_X10_record_28 kp_10_3 dX10_record_47 ?_
        refine x_aload_n (i := 0) (q := 0) hC dX10_record_50 rfl rfl ?_
        refine x_getr (k := 0) (r := 194) hC xo_193 rfl kf_X10_record_7 dX10_record_51 ?_
        refine x_iconst (v := 0) hC dX10_record_54 (by decide) ?_
        refine x_aload_n (i := 0) (q := 0) hC dX10_record_55 rfl rfl ?_
        refine x_getr (k := 2) (r := 196) hC xo_193 rfl kf_X10_record_16 dX10_record_56 ?_
        refine x_aload_n (i := 0) (q := 0) hC dX10_record_59 rfl rfl ?_
        refine x_geti (k := 3) hC xo_193 rfl kf_X10_record_28 dX10_record_60 ?_
        refine x_sipush (v := 239) hC dX10_record_63 (by decide) ?_
        refine x_imul hC dX10_record_66 ?_
        refine x_callSv (As := [.ref (x_a g 194), .int (0 : Int32), .ref (x_a g 196), .int (((x_up M 193 3 ((M 193 3) - (1 : Int32))) 193 3) * (239 : Int32))]) hC h gX10_record_X10_moves rfl rfl rfl hy_X10_moves.2 ⟨Nat.le_of_ble_eq_true rfl, Nat.le_of_ble_eq_true rfl⟩ rfl (Nat.le_of_ble_eq_true rfl) rfl dX10_record_67 (fun N2 h => ?_)
        refine x_aload_n (i := 0) (q := 0) hC dX10_record_70 rfl rfl ?_
        refine x_dup hC dX10_record_71 rfl ?_
        refine x_geti (k := 3) hC xo_193 rfl kf_X10_record_28 dX10_record_72 ?_
        refine x_iconst (v := 1) hC dX10_record_75 (by decide) ?_
        refine x_iadd hC dX10_record_76 ?_
        refine x_puti (k := 3) hC xo_193 rfl kf_X10_record_28 kp_10_3 dX10_record_77 ?_
        exact x_vret hC hr dX10_record_80 h
      · replace h := h.2 q
        refine x_aload_n (i := 0) (q := 0) hC dX10_record_18 rfl rfl ?_
        refine x_getr (k := 2) (r := 196) hC xo_193 rfl kf_X10_record_16 dX10_record_19 ?_
        refine x_iload_n (i := 1) (q := 1) hC dX10_record_22 rfl rfl ?_
        refine x_aload_n (i := 0) (q := 0) hC dX10_record_23 rfl rfl ?_
        refine x_getr (k := 2) (r := 196) hC xo_193 rfl kf_X10_record_16 dX10_record_24 ?_
        refine x_iload_n (i := 1) (q := 1) hC dX10_record_27 rfl rfl ?_
        refine x_sipush (v := 239) hC dX10_record_28 (by decide) ?_
        refine x_iadd hC dX10_record_31 ?_
        refine x_iald (len := 1434) hC xa_196 h.1 dX10_record_32 ?_
        replace h := h.2
        refine x_iast (len := 1434) hC xa_196 h.1 dX10_record_33 ?_
        replace h := h.2
        refine x_iinc (k := 1) (v' := (v1 + (1 : Int32))) (ls' := [(1, .int (v1 + (1 : Int32))), (0, .ref (x_a g 193))]) hC dX10_record_34 rfl rfl (by decide) rfl ?_
        refine x_goto (t := 11) hC dX10_record_37 (by decide) ?_
        obtain ⟨n_1, hn, h⟩ := h
        exact x_sub [1, 0] rfl ((ih n_1 hn) _ _ h)
  have h := h0
  unfold vc_X10_record at h
  refine x_aload_n (i := 0) (q := 0) hC dX10_record_0 rfl rfl ?_
  refine x_geti (k := 3) hC xo_193 rfl kf_X10_record_28 dX10_record_1 ?_
  refine x_bipush (v := 6) hC dX10_record_4 (by decide) ?_
  refine x_icmp_ne (t := 50) hC dX10_record_6 (by decide) (fun q => ?_) (fun q => ?_)
  · replace h := h.1 q
    refine x_aload_n (i := 0) (q := 0) hC dX10_record_50 rfl rfl ?_
    refine x_getr (k := 0) (r := 194) hC xo_193 rfl kf_X10_record_7 dX10_record_51 ?_
    refine x_iconst (v := 0) hC dX10_record_54 (by decide) ?_
    refine x_aload_n (i := 0) (q := 0) hC dX10_record_55 rfl rfl ?_
    refine x_getr (k := 2) (r := 196) hC xo_193 rfl kf_X10_record_16 dX10_record_56 ?_
    refine x_aload_n (i := 0) (q := 0) hC dX10_record_59 rfl rfl ?_
    refine x_geti (k := 3) hC xo_193 rfl kf_X10_record_28 dX10_record_60 ?_
    refine x_sipush (v := 239) hC dX10_record_63 (by decide) ?_
    refine x_imul hC dX10_record_66 ?_
    refine x_callSv (As := [.ref (x_a g 194), .int (0 : Int32), .ref (x_a g 196), .int ((M 193 3) * (239 : Int32))]) hC h gX10_record_X10_moves rfl rfl rfl hy_X10_moves.2 ⟨Nat.le_of_ble_eq_true rfl, Nat.le_of_ble_eq_true rfl⟩ rfl (Nat.le_of_ble_eq_true rfl) rfl dX10_record_67 (fun N1 h => ?_)
    refine x_aload_n (i := 0) (q := 0) hC dX10_record_70 rfl rfl ?_
    refine x_dup hC dX10_record_71 rfl ?_
    refine x_geti (k := 3) hC xo_193 rfl kf_X10_record_28 dX10_record_72 ?_
    refine x_iconst (v := 1) hC dX10_record_75 (by decide) ?_
    refine x_iadd hC dX10_record_76 ?_
    refine x_puti (k := 3) hC xo_193 rfl kf_X10_record_28 kp_10_3 dX10_record_77 ?_
    exact x_vret hC hr dX10_record_80 h
  · replace h := h.2 q
    refine x_iconst (v := 0) hC dX10_record_9 (by decide) ?_
    refine x_istore_n (i := 1) (ls' := [(1, .int (0 : Int32)), (0, .ref (x_a g 193))]) hC dX10_record_10 rfl (by decide) rfl ?_
    obtain ⟨n_1, h⟩ := h
    exact x_sub [1, 0] rfl ((L n_1) _ _ h)
def vc_X10_keyFor (g : xG) (v1 : Int32) (v2 : Int32) (v3 : Int32) (M : xM) (P : Int32 → xM → Prop) (K1 : Int32 → Int32 → Int32 → Int32 → Int32 → xM → Prop) (K2 : Int32 → Int32 → Int32 → Int32 → Int32 → Int32 → xM → Prop) : Prop := K1 v1 v2 v3 (-6 : Int32) (6 : Int32) M
def vc_X10_keyFor_1 (g : xG) (v1 : Int32) (v2 : Int32) (v3 : Int32) (v4 : Int32) (v5 : Int32) (M : xM) (P : Int32 → xM → Prop) (K1 : Int32 → Int32 → Int32 → Int32 → Int32 → xM → Prop) (K2 : Int32 → Int32 → Int32 → Int32 → Int32 → Int32 → xM → Prop) : Prop := ((v5 < 0 → P v4 M) ∧ (¬ (v5 < 0) → K2 v1 v2 v3 v4 v5 (-v5) M))
def vc_X10_keyFor_2 (g : xG) (v1 : Int32) (v2 : Int32) (v3 : Int32) (v4 : Int32) (v5 : Int32) (v6 : Int32) (M : xM) (P : Int32 → xM → Prop) (K1 : Int32 → Int32 → Int32 → Int32 → Int32 → xM → Prop) (K2 : Int32 → Int32 → Int32 → Int32 → Int32 → Int32 → xM → Prop) : Prop := ((v5 < v6 → K1 v1 v2 v3 v4 (v5 + (-1 : Int32)) M) ∧ (¬ (v5 < v6) → (mi_X10_isKeyFor g v1 v3 v6 M (fun r1 N2 => ((r1 = 0 → ((¬ v5 = 0 → K2 v1 v2 v3 v4 v5 (v6 + ((2 : Int32) * v5)) N2) ∧ (v5 = 0 → K2 v1 v2 v3 v4 v5 (v6 + (1 : Int32)) N2))) ∧ (¬ (r1 = 0) → ((v2 = (-6 : Int32) → ((¬ v5 = 0 → K2 v1 v2 v3 (v6 + (10 : Int32)) v5 (v6 + ((2 : Int32) * v5)) N2) ∧ (v5 = 0 → K2 v1 v2 v3 (v6 + (10 : Int32)) v5 (v6 + (1 : Int32)) N2))) ∧ (¬ (v2 = (-6 : Int32)) → (mi_X10_isKeyFor g v2 v3 v6 N2 (fun r3 N4 => ((r3 = 0 → ((¬ v5 = 0 → K2 v1 v2 v3 v4 v5 (v6 + ((2 : Int32) * v5)) N4) ∧ (v5 = 0 → K2 v1 v2 v3 v4 v5 (v6 + (1 : Int32)) N4))) ∧ (¬ (r3 = 0) → ((¬ v5 = 0 → K2 v1 v2 v3 (v6 + (10 : Int32)) v5 (v6 + ((2 : Int32) * v5)) N4) ∧ (v5 = 0 → K2 v1 v2 v3 (v6 + (10 : Int32)) v5 (v6 + (1 : Int32)) N4))))))))))))))
set_option maxRecDepth 100000 in
set_option maxHeartbeats 4000000 in
theorem wk_X10_keyFor {g : xG} (v1 : Int32) (v2 : Int32) (v3 : Int32) (M : xM) (P : Int32 → xM → Prop) (I1 : Nat → Int32 → Int32 → Int32 → Int32 → Int32 → xM → Prop) (I2 : Nat → Int32 → Int32 → Int32 → Int32 → Int32 → Int32 → xM → Prop) (h0 : vc_X10_keyFor g v1 v2 v3 M P (fun v1 v2 v3 v4 v5 N => ∃ k, I1 k v1 v2 v3 v4 v5 N) (fun v1 v2 v3 v4 v5 v6 N => ∃ k, I2 k v1 v2 v3 v4 v5 v6 N)) (h1 : ∀ (n : Nat) (v1 : Int32) (v2 : Int32) (v3 : Int32) (v4 : Int32) (v5 : Int32) (N : xM), I1 n v1 v2 v3 v4 v5 N → vc_X10_keyFor_1 g v1 v2 v3 v4 v5 N P (fun v1 v2 v3 v4 v5 N => ∃ k, k < n ∧ I1 k v1 v2 v3 v4 v5 N) (fun v1 v2 v3 v4 v5 v6 N => ∃ k, k < n ∧ I2 k v1 v2 v3 v4 v5 v6 N)) (h2 : ∀ (n : Nat) (v1 : Int32) (v2 : Int32) (v3 : Int32) (v4 : Int32) (v5 : Int32) (v6 : Int32) (N : xM), I2 n v1 v2 v3 v4 v5 v6 N → vc_X10_keyFor_2 g v1 v2 v3 v4 v5 v6 N P (fun v1 v2 v3 v4 v5 N => ∃ k, k < n ∧ I1 k v1 v2 v3 v4 v5 N) (fun v1 v2 v3 v4 v5 v6 N => ∃ k, k < n ∧ I2 k v1 v2 v3 v4 v5 v6 N)) : mi_X10_keyFor g v1 v2 v3 M P := by
  refine x_startI (as := [.ref (x_a g 193), .int v1, .int v2, .int v3]) (cc := cX10_keyFor) (n := 8) (ret := (some .int)) (own := RX10) (by decide) rfl rfl (Nat.le_of_ble_eq_true rfl) (fun x hC hr => ?_)
  have L : ∀ n : Nat, (∀ (v1 : Int32) (v2 : Int32) (v3 : Int32) (v4 : Int32) (v5 : Int32) (N : xM), I1 n v1 v2 v3 v4 v5 N → x_W x g 8 (x_Qi x g P) N 8 [(0, .ref (x_a g 193)), (1, .int v1), (2, .int v2), (3, .int v3), (4, .int v4), (5, .int v5)] []) ∧ (∀ (v1 : Int32) (v2 : Int32) (v3 : Int32) (v4 : Int32) (v5 : Int32) (v6 : Int32) (N : xM), I2 n v1 v2 v3 v4 v5 v6 N → x_W x g 8 (x_Qi x g P) N 18 [(0, .ref (x_a g 193)), (1, .int v1), (2, .int v2), (3, .int v3), (4, .int v4), (5, .int v5), (6, .int v6)] []) := by
    intro n
    induction n using Nat.strongRecOn with
    | ind n ih =>
      refine ⟨?_, ?_⟩
      · intro v1 v2 v3 v4 v5 M hI
        have h := h1 n v1 v2 v3 v4 v5 M hI
        unfold vc_X10_keyFor_1 at h
        refine x_iload (q := 5) hC dX10_keyFor_8 rfl ?_
        refine x_if_lt (t := 104) hC dX10_keyFor_10 (by decide) (fun q => ?_) (fun q => ?_)
        · replace h := h.1 q
          refine x_iload (q := 4) hC dX10_keyFor_104 rfl ?_
          exact x_iret hC hr dX10_keyFor_106 h
        · replace h := h.2 q
          refine x_iload (q := 5) hC dX10_keyFor_13 rfl ?_
          refine x_ineg hC dX10_keyFor_15 ?_
          refine x_istore (ls' := [(6, .int (-v5)), (0, .ref (x_a g 193)), (1, .int v1), (2, .int v2), (3, .int v3), (4, .int v4), (5, .int v5)]) hC dX10_keyFor_16 (by decide) rfl ?_
          obtain ⟨n_2, hn, h⟩ := h
          exact x_sub [1, 2, 3, 4, 5, 6, 0] rfl ((ih n_2 hn).2 _ _ _ _ _ _ _ h)
      · intro v1 v2 v3 v4 v5 v6 M hI
        have h := h2 n v1 v2 v3 v4 v5 v6 M hI
        unfold vc_X10_keyFor_2 at h
        refine x_iload (q := 6) hC dX10_keyFor_18 rfl ?_
        refine x_iload (q := 5) hC dX10_keyFor_20 rfl ?_
        refine x_icmp_gt (t := 98) hC dX10_keyFor_22 (by decide) (fun q => ?_) (fun q => ?_)
        · replace h := h.1 q
          refine x_iinc (k := 5) (v' := (v5 + (-1 : Int32))) (ls' := [(5, .int (v5 + (-1 : Int32))), (0, .ref (x_a g 193)), (1, .int v1), (2, .int v2), (3, .int v3), (4, .int v4), (6, .int v6)]) hC dX10_keyFor_98 rfl rfl (by decide) rfl ?_
          refine x_goto (t := 8) hC dX10_keyFor_101 (by decide) ?_
          obtain ⟨n_1, hn, h⟩ := h
          exact x_sub [1, 2, 3, 4, 5, 0] rfl ((ih n_1 hn).1 _ _ _ _ _ _ h)
        · replace h := h.2 q
          refine x_aload_n (i := 0) (q := 0) hC dX10_keyFor_25 rfl rfl ?_
          refine x_iload_n (i := 1) (q := 1) hC dX10_keyFor_26 rfl rfl ?_
          refine x_iload_n (i := 3) (q := 3) hC dX10_keyFor_27 rfl rfl ?_
          refine x_iload (q := 6) hC dX10_keyFor_28 rfl ?_
          refine x_callVi (q := (RX10, TX10, 12)) (As := [.int v1, .int v3, .int v6]) hC xo_193 rfl h gX10_keyFor_X10_isKeyFor rfl rfl rfl hy_X10_isKeyFor ⟨Nat.le_of_ble_eq_true rfl, Nat.le_of_ble_eq_true rfl⟩ rfl (Nat.le_of_ble_eq_true rfl) rfl dX10_keyFor_30 (fun r1 N2 h => ?_)
          refine x_if_eq (t := 57) hC dX10_keyFor_33 (by decide) (fun q => ?_) (fun q => ?_)
          · replace h := h.1 q
            refine x_iconst (v := 0) hC dX10_keyFor_57 (by decide) ?_
            refine x_istore (ls' := [(7, .int (0 : Int32)), (0, .ref (x_a g 193)), (1, .int v1), (2, .int v2), (3, .int v3), (4, .int v4), (5, .int v5), (6, .int v6)]) hC dX10_keyFor_58 (by decide) rfl ?_
            refine x_iload (q := 0) hC dX10_keyFor_60 rfl ?_
            refine x_if_eq (t := 73) hC dX10_keyFor_62 (by decide) (fun _ => ?_) (fun q => absurd (by decide) q)
            refine x_iload (q := 5) hC dX10_keyFor_73 rfl ?_
            refine x_istore (ls' := [(4, .int v4), (7, .int (0 : Int32)), (0, .ref (x_a g 193)), (1, .int v1), (2, .int v2), (3, .int v3), (5, .int v5), (6, .int v6)]) hC dX10_keyFor_75 (by decide) rfl ?_
            refine x_iload (q := 7) hC dX10_keyFor_77 rfl ?_
            refine x_iload (q := 6) hC dX10_keyFor_79 rfl ?_
            refine x_if_ne (t := 88) hC dX10_keyFor_81 (by decide) (fun q => ?_) (fun q => ?_)
            · replace h := h.1 q
              refine x_iconst (v := 2) hC dX10_keyFor_88 (by decide) ?_
              refine x_iload (q := 6) hC dX10_keyFor_89 rfl ?_
              refine x_imul hC dX10_keyFor_91 ?_
              refine x_iadd hC dX10_keyFor_92 ?_
              refine x_istore (ls' := [(6, .int (v6 + ((2 : Int32) * v5))), (4, .int v4), (7, .int (0 : Int32)), (0, .ref (x_a g 193)), (1, .int v1), (2, .int v2), (3, .int v3), (5, .int v5)]) hC dX10_keyFor_93 (by decide) rfl ?_
              refine x_goto (t := 18) hC dX10_keyFor_95 (by decide) ?_
              obtain ⟨n_2, hn, h⟩ := h
              exact x_sub [3, 4, 5, 6, 1, 7, 0] rfl ((ih n_2 hn).2 _ _ _ _ _ _ _ h)
            · replace h := h.2 q
              refine x_iconst (v := 1) hC dX10_keyFor_84 (by decide) ?_
              refine x_goto (t := 92) hC dX10_keyFor_85 (by decide) ?_
              refine x_iadd hC dX10_keyFor_92 ?_
              refine x_istore (ls' := [(6, .int (v6 + (1 : Int32))), (4, .int v4), (7, .int (0 : Int32)), (0, .ref (x_a g 193)), (1, .int v1), (2, .int v2), (3, .int v3), (5, .int v5)]) hC dX10_keyFor_93 (by decide) rfl ?_
              refine x_goto (t := 18) hC dX10_keyFor_95 (by decide) ?_
              obtain ⟨n_2, hn, h⟩ := h
              exact x_sub [3, 4, 5, 6, 1, 7, 0] rfl ((ih n_2 hn).2 _ _ _ _ _ _ _ h)
          · replace h := h.2 q
            refine x_iload_n (i := 2) (q := 2) hC dX10_keyFor_36 rfl rfl ?_
            refine x_bipush (v := -6) hC dX10_keyFor_37 (by decide) ?_
            refine x_icmp_eq (t := 53) hC dX10_keyFor_39 (by decide) (fun q => ?_) (fun q => ?_)
            · replace h := h.1 q
              refine x_iconst (v := 1) hC dX10_keyFor_53 (by decide) ?_
              refine x_goto (t := 58) hC dX10_keyFor_54 (by decide) ?_
              refine x_istore (ls' := [(7, .int (1 : Int32)), (0, .ref (x_a g 193)), (1, .int v1), (2, .int v2), (3, .int v3), (4, .int v4), (5, .int v5), (6, .int v6)]) hC dX10_keyFor_58 (by decide) rfl ?_
              refine x_iload (q := 0) hC dX10_keyFor_60 rfl ?_
              refine x_if_eq (t := 73) hC dX10_keyFor_62 (by decide) (fun q => absurd q (by decide)) (fun _ => ?_)
              refine x_iload (q := 7) hC dX10_keyFor_65 rfl ?_
              refine x_bipush (v := 10) hC dX10_keyFor_67 (by decide) ?_
              refine x_iadd hC dX10_keyFor_69 ?_
              refine x_goto (t := 75) hC dX10_keyFor_70 (by decide) ?_
              refine x_istore (ls' := [(4, .int (v6 + (10 : Int32))), (7, .int (1 : Int32)), (0, .ref (x_a g 193)), (1, .int v1), (2, .int v2), (3, .int v3), (5, .int v5), (6, .int v6)]) hC dX10_keyFor_75 (by decide) rfl ?_
              refine x_iload (q := 7) hC dX10_keyFor_77 rfl ?_
              refine x_iload (q := 6) hC dX10_keyFor_79 rfl ?_
              refine x_if_ne (t := 88) hC dX10_keyFor_81 (by decide) (fun q => ?_) (fun q => ?_)
              · replace h := h.1 q
                refine x_iconst (v := 2) hC dX10_keyFor_88 (by decide) ?_
                refine x_iload (q := 6) hC dX10_keyFor_89 rfl ?_
                refine x_imul hC dX10_keyFor_91 ?_
                refine x_iadd hC dX10_keyFor_92 ?_
                refine x_istore (ls' := [(6, .int (v6 + ((2 : Int32) * v5))), (4, .int (v6 + (10 : Int32))), (7, .int (1 : Int32)), (0, .ref (x_a g 193)), (1, .int v1), (2, .int v2), (3, .int v3), (5, .int v5)]) hC dX10_keyFor_93 (by decide) rfl ?_
                refine x_goto (t := 18) hC dX10_keyFor_95 (by decide) ?_
                obtain ⟨n_2, hn, h⟩ := h
                exact x_sub [3, 4, 5, 6, 1, 7, 0] rfl ((ih n_2 hn).2 _ _ _ _ _ _ _ h)
              · replace h := h.2 q
                refine x_iconst (v := 1) hC dX10_keyFor_84 (by decide) ?_
                refine x_goto (t := 92) hC dX10_keyFor_85 (by decide) ?_
                refine x_iadd hC dX10_keyFor_92 ?_
                refine x_istore (ls' := [(6, .int (v6 + (1 : Int32))), (4, .int (v6 + (10 : Int32))), (7, .int (1 : Int32)), (0, .ref (x_a g 193)), (1, .int v1), (2, .int v2), (3, .int v3), (5, .int v5)]) hC dX10_keyFor_93 (by decide) rfl ?_
                refine x_goto (t := 18) hC dX10_keyFor_95 (by decide) ?_
                obtain ⟨n_2, hn, h⟩ := h
                exact x_sub [3, 4, 5, 6, 1, 7, 0] rfl ((ih n_2 hn).2 _ _ _ _ _ _ _ h)
            · replace h := h.2 q
              refine x_aload_n (i := 0) (q := 0) hC dX10_keyFor_42 rfl rfl ?_
              refine x_iload_n (i := 2) (q := 2) hC dX10_keyFor_43 rfl rfl ?_
              refine x_iload_n (i := 3) (q := 3) hC dX10_keyFor_44 rfl rfl ?_
              refine x_iload (q := 6) hC dX10_keyFor_45 rfl ?_
              refine x_callVi (q := (RX10, TX10, 12)) (As := [.int v2, .int v3, .int v6]) hC xo_193 rfl h gX10_keyFor_X10_isKeyFor rfl rfl rfl hy_X10_isKeyFor ⟨Nat.le_of_ble_eq_true rfl, Nat.le_of_ble_eq_true rfl⟩ rfl (Nat.le_of_ble_eq_true rfl) rfl dX10_keyFor_47 (fun r3 N4 h => ?_)
              refine x_if_eq (t := 57) hC dX10_keyFor_50 (by decide) (fun q => ?_) (fun q => ?_)
              · replace h := h.1 q
                refine x_iconst (v := 0) hC dX10_keyFor_57 (by decide) ?_
                refine x_istore (ls' := [(7, .int (0 : Int32)), (0, .ref (x_a g 193)), (1, .int v1), (2, .int v2), (3, .int v3), (4, .int v4), (5, .int v5), (6, .int v6)]) hC dX10_keyFor_58 (by decide) rfl ?_
                refine x_iload (q := 0) hC dX10_keyFor_60 rfl ?_
                refine x_if_eq (t := 73) hC dX10_keyFor_62 (by decide) (fun _ => ?_) (fun q => absurd (by decide) q)
                refine x_iload (q := 5) hC dX10_keyFor_73 rfl ?_
                refine x_istore (ls' := [(4, .int v4), (7, .int (0 : Int32)), (0, .ref (x_a g 193)), (1, .int v1), (2, .int v2), (3, .int v3), (5, .int v5), (6, .int v6)]) hC dX10_keyFor_75 (by decide) rfl ?_
                refine x_iload (q := 7) hC dX10_keyFor_77 rfl ?_
                refine x_iload (q := 6) hC dX10_keyFor_79 rfl ?_
                refine x_if_ne (t := 88) hC dX10_keyFor_81 (by decide) (fun q => ?_) (fun q => ?_)
                · replace h := h.1 q
                  refine x_iconst (v := 2) hC dX10_keyFor_88 (by decide) ?_
                  refine x_iload (q := 6) hC dX10_keyFor_89 rfl ?_
                  refine x_imul hC dX10_keyFor_91 ?_
                  refine x_iadd hC dX10_keyFor_92 ?_
                  refine x_istore (ls' := [(6, .int (v6 + ((2 : Int32) * v5))), (4, .int v4), (7, .int (0 : Int32)), (0, .ref (x_a g 193)), (1, .int v1), (2, .int v2), (3, .int v3), (5, .int v5)]) hC dX10_keyFor_93 (by decide) rfl ?_
                  refine x_goto (t := 18) hC dX10_keyFor_95 (by decide) ?_
                  obtain ⟨n_2, hn, h⟩ := h
                  exact x_sub [3, 4, 5, 6, 1, 7, 0] rfl ((ih n_2 hn).2 _ _ _ _ _ _ _ h)
                · replace h := h.2 q
                  refine x_iconst (v := 1) hC dX10_keyFor_84 (by decide) ?_
                  refine x_goto (t := 92) hC dX10_keyFor_85 (by decide) ?_
                  refine x_iadd hC dX10_keyFor_92 ?_
                  refine x_istore (ls' := [(6, .int (v6 + (1 : Int32))), (4, .int v4), (7, .int (0 : Int32)), (0, .ref (x_a g 193)), (1, .int v1), (2, .int v2), (3, .int v3), (5, .int v5)]) hC dX10_keyFor_93 (by decide) rfl ?_
                  refine x_goto (t := 18) hC dX10_keyFor_95 (by decide) ?_
                  obtain ⟨n_2, hn, h⟩ := h
                  exact x_sub [3, 4, 5, 6, 1, 7, 0] rfl ((ih n_2 hn).2 _ _ _ _ _ _ _ h)
              · replace h := h.2 q
                refine x_iconst (v := 1) hC dX10_keyFor_53 (by decide) ?_
                refine x_goto (t := 58) hC dX10_keyFor_54 (by decide) ?_
                refine x_istore (ls' := [(7, .int (1 : Int32)), (0, .ref (x_a g 193)), (1, .int v1), (2, .int v2), (3, .int v3), (4, .int v4), (5, .int v5), (6, .int v6)]) hC dX10_keyFor_58 (by decide) rfl ?_
                refine x_iload (q := 0) hC dX10_keyFor_60 rfl ?_
                refine x_if_eq (t := 73) hC dX10_keyFor_62 (by decide) (fun q => absurd q (by decide)) (fun _ => ?_)
                refine x_iload (q := 7) hC dX10_keyFor_65 rfl ?_
                refine x_bipush (v := 10) hC dX10_keyFor_67 (by decide) ?_
                refine x_iadd hC dX10_keyFor_69 ?_
                refine x_goto (t := 75) hC dX10_keyFor_70 (by decide) ?_
                refine x_istore (ls' := [(4, .int (v6 + (10 : Int32))), (7, .int (1 : Int32)), (0, .ref (x_a g 193)), (1, .int v1), (2, .int v2), (3, .int v3), (5, .int v5), (6, .int v6)]) hC dX10_keyFor_75 (by decide) rfl ?_
                refine x_iload (q := 7) hC dX10_keyFor_77 rfl ?_
                refine x_iload (q := 6) hC dX10_keyFor_79 rfl ?_
                refine x_if_ne (t := 88) hC dX10_keyFor_81 (by decide) (fun q => ?_) (fun q => ?_)
                · replace h := h.1 q
                  refine x_iconst (v := 2) hC dX10_keyFor_88 (by decide) ?_
                  refine x_iload (q := 6) hC dX10_keyFor_89 rfl ?_
                  refine x_imul hC dX10_keyFor_91 ?_
                  refine x_iadd hC dX10_keyFor_92 ?_
                  refine x_istore (ls' := [(6, .int (v6 + ((2 : Int32) * v5))), (4, .int (v6 + (10 : Int32))), (7, .int (1 : Int32)), (0, .ref (x_a g 193)), (1, .int v1), (2, .int v2), (3, .int v3), (5, .int v5)]) hC dX10_keyFor_93 (by decide) rfl ?_
                  refine x_goto (t := 18) hC dX10_keyFor_95 (by decide) ?_
                  obtain ⟨n_2, hn, h⟩ := h
                  exact x_sub [3, 4, 5, 6, 1, 7, 0] rfl ((ih n_2 hn).2 _ _ _ _ _ _ _ h)
                · replace h := h.2 q
                  refine x_iconst (v := 1) hC dX10_keyFor_84 (by decide) ?_
                  refine x_goto (t := 92) hC dX10_keyFor_85 (by decide) ?_
                  refine x_iadd hC dX10_keyFor_92 ?_
                  refine x_istore (ls' := [(6, .int (v6 + (1 : Int32))), (4, .int (v6 + (10 : Int32))), (7, .int (1 : Int32)), (0, .ref (x_a g 193)), (1, .int v1), (2, .int v2), (3, .int v3), (5, .int v5)]) hC dX10_keyFor_93 (by decide) rfl ?_
                  refine x_goto (t := 18) hC dX10_keyFor_95 (by decide) ?_
                  obtain ⟨n_2, hn, h⟩ := h
                  exact x_sub [3, 4, 5, 6, 1, 7, 0] rfl ((ih n_2 hn).2 _ _ _ _ _ _ _ h)
  have h := h0
  unfold vc_X10_keyFor at h
  refine x_bipush (v := -6) hC dX10_keyFor_0 (by decide) ?_
  refine x_istore (ls' := [(4, .int (-6 : Int32)), (0, .ref (x_a g 193)), (1, .int v1), (2, .int v2), (3, .int v3)]) hC dX10_keyFor_2 (by decide) rfl ?_
  refine x_bipush (v := 6) hC dX10_keyFor_4 (by decide) ?_
  refine x_istore (ls' := [(5, .int (6 : Int32)), (4, .int (-6 : Int32)), (0, .ref (x_a g 193)), (1, .int v1), (2, .int v2), (3, .int v3)]) hC dX10_keyFor_6 (by decide) rfl ?_
  obtain ⟨n_1, h⟩ := h
  exact x_sub [2, 3, 4, 5, 1, 0] rfl ((L n_1).1 _ _ _ _ _ _ h)
theorem kf_X10_nextOf_7 : x_okf wsX10_nextOf RX10 7 10 0 = true := by decide +kernel
def vc_X10_nextOf (g : xG) (v1 : Int32) (M : xM) (P : Int32 → xM → Prop) (K1 : Int32 → Int32 → Int32 → xM → Prop) : Prop := K1 v1 (-6 : Int32) (0 : Int32) M
def vc_X10_nextOf_1 (g : xG) (v1 : Int32) (v2 : Int32) (v3 : Int32) (M : xM) (P : Int32 → xM → Prop) (K1 : Int32 → Int32 → Int32 → xM → Prop) : Prop := (vp_in (2 : Int32) 239 ∧ (((M 194 ((2 : Int32)).toNatClampNeg) ≤ v3 → P v2 M) ∧ (¬ ((M 194 ((2 : Int32)).toNatClampNeg) ≤ v3) → (mi_X10_isReady g v3 M (fun r1 N2 => ((r1 = 0 → K1 v1 v2 (v3 + (1 : Int32)) N2) ∧ (¬ (r1 = 0) → ((v1 = 0 → ((v2 = (-6 : Int32) → K1 v1 v3 (v3 + (1 : Int32)) N2) ∧ (¬ (v2 = (-6 : Int32)) → (mi_X10_turnsFor g v3 N2 (fun r3 N4 => (mi_X10_turnsFor g v2 N4 (fun r5 N6 => ((r5 ≤ r3 → K1 v1 v2 (v3 + (1 : Int32)) N6) ∧ (¬ (r5 ≤ r3) → K1 v1 v3 (v3 + (1 : Int32)) N6))))))))) ∧ (¬ (v1 = 0) → (mi_X10_isFresh g v3 N2 (fun r7 N8 => ((r7 = 0 → K1 v1 v2 (v3 + (1 : Int32)) N8) ∧ (¬ (r7 = 0) → ((v2 = (-6 : Int32) → K1 v1 v3 (v3 + (1 : Int32)) N8) ∧ (¬ (v2 = (-6 : Int32)) → (mi_X10_turnsFor g v3 N8 (fun r9 N10 => (mi_X10_turnsFor g v2 N10 (fun r11 N12 => ((r11 ≤ r9 → K1 v1 v2 (v3 + (1 : Int32)) N12) ∧ (¬ (r11 ≤ r9) → K1 v1 v3 (v3 + (1 : Int32)) N12)))))))))))))))))))))
set_option maxRecDepth 100000 in
set_option maxHeartbeats 4000000 in
theorem wk_X10_nextOf {g : xG} (v1 : Int32) (M : xM) (P : Int32 → xM → Prop) (I1 : Nat → Int32 → Int32 → Int32 → xM → Prop) (h0 : vc_X10_nextOf g v1 M P (fun v1 v2 v3 N => ∃ k, I1 k v1 v2 v3 N)) (h1 : ∀ (n : Nat) (v1 : Int32) (v2 : Int32) (v3 : Int32) (N : xM), I1 n v1 v2 v3 N → vc_X10_nextOf_1 g v1 v2 v3 N P (fun v1 v2 v3 N => ∃ k, k < n ∧ I1 k v1 v2 v3 N)) : mi_X10_nextOf g v1 M P := by
  refine x_startI (as := [.ref (x_a g 193), .int v1]) (cc := cX10_nextOf) (n := 5) (ret := (some .int)) (own := RX10) (by decide) rfl rfl (Nat.le_of_ble_eq_true rfl) (fun x hC hr => ?_)
  have L : ∀ n : Nat, (∀ (v1 : Int32) (v2 : Int32) (v3 : Int32) (N : xM), I1 n v1 v2 v3 N → x_W x g 5 (x_Qi x g P) N 5 [(0, .ref (x_a g 193)), (1, .int v1), (2, .int v2), (3, .int v3)] []) := by
    intro n
    induction n using Nat.strongRecOn with
    | ind n ih =>
      intro v1 v2 v3 M hI
      have h := h1 n v1 v2 v3 M hI
      unfold vc_X10_nextOf_1 at h
      refine x_iload_n (i := 3) (q := 3) hC dX10_nextOf_5 rfl rfl ?_
      refine x_aload_n (i := 0) (q := 0) hC dX10_nextOf_6 rfl rfl ?_
      refine x_getr (k := 0) (r := 194) hC xo_193 rfl kf_X10_nextOf_7 dX10_nextOf_7 ?_
      refine x_iconst (v := 2) hC dX10_nextOf_10 (by decide) ?_
      refine x_iald (len := 239) hC xa_194 h.1 dX10_nextOf_11 ?_
      replace h := h.2
      refine x_icmp_ge (t := 78) hC dX10_nextOf_12 (by decide) (fun q => ?_) (fun q => ?_)
      · replace h := h.1 q
        refine x_iload_n (i := 2) (q := 2) hC dX10_nextOf_78 rfl rfl ?_
        exact x_iret hC hr dX10_nextOf_79 h
      · replace h := h.2 q
        refine x_aload_n (i := 0) (q := 0) hC dX10_nextOf_15 rfl rfl ?_
        refine x_iload_n (i := 3) (q := 3) hC dX10_nextOf_16 rfl rfl ?_
        refine x_callVi (q := (RX10, TX10, 12)) (As := [.int v3]) hC xo_193 rfl h gX10_nextOf_X10_isReady rfl rfl rfl hy_X10_isReady ⟨Nat.le_of_ble_eq_true rfl, Nat.le_of_ble_eq_true rfl⟩ rfl (Nat.le_of_ble_eq_true rfl) rfl dX10_nextOf_17 (fun r1 N2 h => ?_)
        refine x_if_eq (t := 39) hC dX10_nextOf_20 (by decide) (fun q => ?_) (fun q => ?_)
        · replace h := h.1 q
          refine x_iconst (v := 0) hC dX10_nextOf_39 (by decide) ?_
          refine x_istore (ls' := [(4, .int (0 : Int32)), (0, .ref (x_a g 193)), (1, .int v1), (2, .int v2), (3, .int v3)]) hC dX10_nextOf_40 (by decide) rfl ?_
          refine x_iload (q := 0) hC dX10_nextOf_42 rfl ?_
          refine x_if_eq (t := 70) hC dX10_nextOf_44 (by decide) (fun _ => ?_) (fun q => absurd (by decide) q)
          refine x_iload_n (i := 2) (q := 3) hC dX10_nextOf_70 rfl rfl ?_
          refine x_istore_n (i := 2) (ls' := [(2, .int v2), (4, .int (0 : Int32)), (0, .ref (x_a g 193)), (1, .int v1), (3, .int v3)]) hC dX10_nextOf_71 rfl (by decide) rfl ?_
          refine x_iinc (k := 4) (v' := (v3 + (1 : Int32))) (ls' := [(3, .int (v3 + (1 : Int32))), (2, .int v2), (4, .int (0 : Int32)), (0, .ref (x_a g 193)), (1, .int v1)]) hC dX10_nextOf_72 rfl rfl (by decide) rfl ?_
          refine x_goto (t := 5) hC dX10_nextOf_75 (by decide) ?_
          obtain ⟨n_1, hn, h⟩ := h
          exact x_sub [3, 4, 1, 0] rfl ((ih n_1 hn) _ _ _ _ h)
        · replace h := h.2 q
          refine x_iload_n (i := 1) (q := 1) hC dX10_nextOf_23 rfl rfl ?_
          refine x_if_eq (t := 35) hC dX10_nextOf_24 (by decide) (fun q => ?_) (fun q => ?_)
          · replace h := h.1 q
            refine x_iconst (v := 1) hC dX10_nextOf_35 (by decide) ?_
            refine x_goto (t := 40) hC dX10_nextOf_36 (by decide) ?_
            refine x_istore (ls' := [(4, .int (1 : Int32)), (0, .ref (x_a g 193)), (1, .int v1), (2, .int v2), (3, .int v3)]) hC dX10_nextOf_40 (by decide) rfl ?_
            refine x_iload (q := 0) hC dX10_nextOf_42 rfl ?_
            refine x_if_eq (t := 70) hC dX10_nextOf_44 (by decide) (fun q => absurd q (by decide)) (fun _ => ?_)
            refine x_iload_n (i := 2) (q := 3) hC dX10_nextOf_47 rfl rfl ?_
            refine x_bipush (v := -6) hC dX10_nextOf_48 (by decide) ?_
            refine x_icmp_eq (t := 66) hC dX10_nextOf_50 (by decide) (fun q => ?_) (fun q => ?_)
            · replace h := h.1 q
              refine x_iload_n (i := 3) (q := 4) hC dX10_nextOf_66 rfl rfl ?_
              refine x_goto (t := 71) hC dX10_nextOf_67 (by decide) ?_
              refine x_istore_n (i := 2) (ls' := [(2, .int v3), (4, .int (1 : Int32)), (0, .ref (x_a g 193)), (1, .int v1), (3, .int v3)]) hC dX10_nextOf_71 rfl (by decide) rfl ?_
              refine x_iinc (k := 4) (v' := (v3 + (1 : Int32))) (ls' := [(3, .int (v3 + (1 : Int32))), (2, .int v3), (4, .int (1 : Int32)), (0, .ref (x_a g 193)), (1, .int v1)]) hC dX10_nextOf_72 rfl rfl (by decide) rfl ?_
              refine x_goto (t := 5) hC dX10_nextOf_75 (by decide) ?_
              obtain ⟨n_1, hn, h⟩ := h
              exact x_sub [3, 4, 1, 0] rfl ((ih n_1 hn) _ _ _ _ h)
            · replace h := h.2 q
              refine x_aload_n (i := 0) (q := 1) hC dX10_nextOf_53 rfl rfl ?_
              refine x_iload_n (i := 3) (q := 4) hC dX10_nextOf_54 rfl rfl ?_
              refine x_callVi (q := (RX10, TX10, 12)) (As := [.int v3]) hC xo_193 rfl h gX10_nextOf_X10_turnsFor rfl rfl rfl hy_X10_turnsFor ⟨Nat.le_of_ble_eq_true rfl, Nat.le_of_ble_eq_true rfl⟩ rfl (Nat.le_of_ble_eq_true rfl) rfl dX10_nextOf_55 (fun r3 N4 h => ?_)
              refine x_aload_n (i := 0) (q := 1) hC dX10_nextOf_58 rfl rfl ?_
              refine x_iload_n (i := 2) (q := 3) hC dX10_nextOf_59 rfl rfl ?_
              refine x_callVi (q := (RX10, TX10, 12)) (As := [.int v2]) hC xo_193 rfl h gX10_nextOf_X10_turnsFor rfl rfl rfl hy_X10_turnsFor ⟨Nat.le_of_ble_eq_true rfl, Nat.le_of_ble_eq_true rfl⟩ rfl (Nat.le_of_ble_eq_true rfl) rfl dX10_nextOf_60 (fun r5 N6 h => ?_)
              refine x_icmp_ge (t := 70) hC dX10_nextOf_63 (by decide) (fun q => ?_) (fun q => ?_)
              · replace h := h.1 q
                refine x_iload_n (i := 2) (q := 3) hC dX10_nextOf_70 rfl rfl ?_
                refine x_istore_n (i := 2) (ls' := [(2, .int v2), (4, .int (1 : Int32)), (0, .ref (x_a g 193)), (1, .int v1), (3, .int v3)]) hC dX10_nextOf_71 rfl (by decide) rfl ?_
                refine x_iinc (k := 4) (v' := (v3 + (1 : Int32))) (ls' := [(3, .int (v3 + (1 : Int32))), (2, .int v2), (4, .int (1 : Int32)), (0, .ref (x_a g 193)), (1, .int v1)]) hC dX10_nextOf_72 rfl rfl (by decide) rfl ?_
                refine x_goto (t := 5) hC dX10_nextOf_75 (by decide) ?_
                obtain ⟨n_1, hn, h⟩ := h
                exact x_sub [3, 4, 1, 0] rfl ((ih n_1 hn) _ _ _ _ h)
              · replace h := h.2 q
                refine x_iload_n (i := 3) (q := 4) hC dX10_nextOf_66 rfl rfl ?_
                refine x_goto (t := 71) hC dX10_nextOf_67 (by decide) ?_
                refine x_istore_n (i := 2) (ls' := [(2, .int v3), (4, .int (1 : Int32)), (0, .ref (x_a g 193)), (1, .int v1), (3, .int v3)]) hC dX10_nextOf_71 rfl (by decide) rfl ?_
                refine x_iinc (k := 4) (v' := (v3 + (1 : Int32))) (ls' := [(3, .int (v3 + (1 : Int32))), (2, .int v3), (4, .int (1 : Int32)), (0, .ref (x_a g 193)), (1, .int v1)]) hC dX10_nextOf_72 rfl rfl (by decide) rfl ?_
                refine x_goto (t := 5) hC dX10_nextOf_75 (by decide) ?_
                obtain ⟨n_1, hn, h⟩ := h
                exact x_sub [3, 4, 1, 0] rfl ((ih n_1 hn) _ _ _ _ h)
          · replace h := h.2 q
            refine x_aload_n (i := 0) (q := 0) hC dX10_nextOf_27 rfl rfl ?_
            refine x_iload_n (i := 3) (q := 3) hC dX10_nextOf_28 rfl rfl ?_
            refine x_callVi (q := (RX10, TX10, 12)) (As := [.int v3]) hC xo_193 rfl h gX10_nextOf_X10_isFresh rfl rfl rfl hy_X10_isFresh ⟨Nat.le_of_ble_eq_true rfl, Nat.le_of_ble_eq_true rfl⟩ rfl (Nat.le_of_ble_eq_true rfl) rfl dX10_nextOf_29 (fun r7 N8 h => ?_)
            refine x_if_eq (t := 39) hC dX10_nextOf_32 (by decide) (fun q => ?_) (fun q => ?_)
            · replace h := h.1 q
              refine x_iconst (v := 0) hC dX10_nextOf_39 (by decide) ?_
              refine x_istore (ls' := [(4, .int (0 : Int32)), (0, .ref (x_a g 193)), (1, .int v1), (2, .int v2), (3, .int v3)]) hC dX10_nextOf_40 (by decide) rfl ?_
              refine x_iload (q := 0) hC dX10_nextOf_42 rfl ?_
              refine x_if_eq (t := 70) hC dX10_nextOf_44 (by decide) (fun _ => ?_) (fun q => absurd (by decide) q)
              refine x_iload_n (i := 2) (q := 3) hC dX10_nextOf_70 rfl rfl ?_
              refine x_istore_n (i := 2) (ls' := [(2, .int v2), (4, .int (0 : Int32)), (0, .ref (x_a g 193)), (1, .int v1), (3, .int v3)]) hC dX10_nextOf_71 rfl (by decide) rfl ?_
              refine x_iinc (k := 4) (v' := (v3 + (1 : Int32))) (ls' := [(3, .int (v3 + (1 : Int32))), (2, .int v2), (4, .int (0 : Int32)), (0, .ref (x_a g 193)), (1, .int v1)]) hC dX10_nextOf_72 rfl rfl (by decide) rfl ?_
              refine x_goto (t := 5) hC dX10_nextOf_75 (by decide) ?_
              obtain ⟨n_1, hn, h⟩ := h
              exact x_sub [3, 4, 1, 0] rfl ((ih n_1 hn) _ _ _ _ h)
            · replace h := h.2 q
              refine x_iconst (v := 1) hC dX10_nextOf_35 (by decide) ?_
              refine x_goto (t := 40) hC dX10_nextOf_36 (by decide) ?_
              refine x_istore (ls' := [(4, .int (1 : Int32)), (0, .ref (x_a g 193)), (1, .int v1), (2, .int v2), (3, .int v3)]) hC dX10_nextOf_40 (by decide) rfl ?_
              refine x_iload (q := 0) hC dX10_nextOf_42 rfl ?_
              refine x_if_eq (t := 70) hC dX10_nextOf_44 (by decide) (fun q => absurd q (by decide)) (fun _ => ?_)
              refine x_iload_n (i := 2) (q := 3) hC dX10_nextOf_47 rfl rfl ?_
              refine x_bipush (v := -6) hC dX10_nextOf_48 (by decide) ?_
              refine x_icmp_eq (t := 66) hC dX10_nextOf_50 (by decide) (fun q => ?_) (fun q => ?_)
              · replace h := h.1 q
                refine x_iload_n (i := 3) (q := 4) hC dX10_nextOf_66 rfl rfl ?_
                refine x_goto (t := 71) hC dX10_nextOf_67 (by decide) ?_
                refine x_istore_n (i := 2) (ls' := [(2, .int v3), (4, .int (1 : Int32)), (0, .ref (x_a g 193)), (1, .int v1), (3, .int v3)]) hC dX10_nextOf_71 rfl (by decide) rfl ?_
                refine x_iinc (k := 4) (v' := (v3 + (1 : Int32))) (ls' := [(3, .int (v3 + (1 : Int32))), (2, .int v3), (4, .int (1 : Int32)), (0, .ref (x_a g 193)), (1, .int v1)]) hC dX10_nextOf_72 rfl rfl (by decide) rfl ?_
                refine x_goto (t := 5) hC dX10_nextOf_75 (by decide) ?_
                obtain ⟨n_1, hn, h⟩ := h
                exact x_sub [3, 4, 1, 0] rfl ((ih n_1 hn) _ _ _ _ h)
              · replace h := h.2 q
                refine x_aload_n (i := 0) (q := 1) hC dX10_nextOf_53 rfl rfl ?_
                refine x_iload_n (i := 3) (q := 4) hC dX10_nextOf_54 rfl rfl ?_
                refine x_callVi (q := (RX10, TX10, 12)) (As := [.int v3]) hC xo_193 rfl h gX10_nextOf_X10_turnsFor rfl rfl rfl hy_X10_turnsFor ⟨Nat.le_of_ble_eq_true rfl, Nat.le_of_ble_eq_true rfl⟩ rfl (Nat.le_of_ble_eq_true rfl) rfl dX10_nextOf_55 (fun r9 N10 h => ?_)
                refine x_aload_n (i := 0) (q := 1) hC dX10_nextOf_58 rfl rfl ?_
                refine x_iload_n (i := 2) (q := 3) hC dX10_nextOf_59 rfl rfl ?_
                refine x_callVi (q := (RX10, TX10, 12)) (As := [.int v2]) hC xo_193 rfl h gX10_nextOf_X10_turnsFor rfl rfl rfl hy_X10_turnsFor ⟨Nat.le_of_ble_eq_true rfl, Nat.le_of_ble_eq_true rfl⟩ rfl (Nat.le_of_ble_eq_true rfl) rfl dX10_nextOf_60 (fun r11 N12 h => ?_)
                refine x_icmp_ge (t := 70) hC dX10_nextOf_63 (by decide) (fun q => ?_) (fun q => ?_)
                · replace h := h.1 q
                  refine x_iload_n (i := 2) (q := 3) hC dX10_nextOf_70 rfl rfl ?_
                  refine x_istore_n (i := 2) (ls' := [(2, .int v2), (4, .int (1 : Int32)), (0, .ref (x_a g 193)), (1, .int v1), (3, .int v3)]) hC dX10_nextOf_71 rfl (by decide) rfl ?_
                  refine x_iinc (k := 4) (v' := (v3 + (1 : Int32))) (ls' := [(3, .int (v3 + (1 : Int32))), (2, .int v2), (4, .int (1 : Int32)), (0, .ref (x_a g 193)), (1, .int v1)]) hC dX10_nextOf_72 rfl rfl (by decide) rfl ?_
                  refine x_goto (t := 5) hC dX10_nextOf_75 (by decide) ?_
                  obtain ⟨n_1, hn, h⟩ := h
                  exact x_sub [3, 4, 1, 0] rfl ((ih n_1 hn) _ _ _ _ h)
                · replace h := h.2 q
                  refine x_iload_n (i := 3) (q := 4) hC dX10_nextOf_66 rfl rfl ?_
                  refine x_goto (t := 71) hC dX10_nextOf_67 (by decide) ?_
                  refine x_istore_n (i := 2) (ls' := [(2, .int v3), (4, .int (1 : Int32)), (0, .ref (x_a g 193)), (1, .int v1), (3, .int v3)]) hC dX10_nextOf_71 rfl (by decide) rfl ?_
                  refine x_iinc (k := 4) (v' := (v3 + (1 : Int32))) (ls' := [(3, .int (v3 + (1 : Int32))), (2, .int v3), (4, .int (1 : Int32)), (0, .ref (x_a g 193)), (1, .int v1)]) hC dX10_nextOf_72 rfl rfl (by decide) rfl ?_
                  refine x_goto (t := 5) hC dX10_nextOf_75 (by decide) ?_
                  obtain ⟨n_1, hn, h⟩ := h
                  exact x_sub [3, 4, 1, 0] rfl ((ih n_1 hn) _ _ _ _ h)
  have h := h0
  unfold vc_X10_nextOf at h
  refine x_bipush (v := -6) hC dX10_nextOf_0 (by decide) ?_
  refine x_istore_n (i := 2) (ls' := [(2, .int (-6 : Int32)), (0, .ref (x_a g 193)), (1, .int v1)]) hC dX10_nextOf_2 rfl (by decide) rfl ?_
  refine x_iconst (v := 0) hC dX10_nextOf_3 (by decide) ?_
  refine x_istore_n (i := 3) (ls' := [(3, .int (0 : Int32)), (2, .int (-6 : Int32)), (0, .ref (x_a g 193)), (1, .int v1)]) hC dX10_nextOf_4 rfl (by decide) rfl ?_
  obtain ⟨n_1, h⟩ := h
  exact x_sub [2, 3, 1, 0] rfl ((L n_1) _ _ _ _ h)
theorem kf_X10_remove_7 : x_okf wsX10_remove RX10 7 10 0 = true := by decide +kernel
def vc_X10_remove (g : xG) (v1 : Int32) (M : xM) (P : xM → Prop) (K1 : Int32 → xM → Prop) : Prop := K1 ((131 : Int32) + ((3 : Int32) * v1)) M
def vc_X10_remove_1 (g : xG) (v2 : Int32) (M : xM) (P : xM → Prop) (K1 : Int32 → xM → Prop) : Prop := (vp_in (2 : Int32) 239 ∧ ((((131 : Int32) + ((3 : Int32) * ((M 194 ((2 : Int32)).toNatClampNeg) - (1 : Int32)))) ≤ v2 → (vp_in (2 : Int32) 239 ∧ (vp_in (2 : Int32) 239 ∧ P (x_up M 194 ((2 : Int32)).toNatClampNeg ((M 194 ((2 : Int32)).toNatClampNeg) - (1 : Int32)))))) ∧ (¬ (((131 : Int32) + ((3 : Int32) * ((M 194 ((2 : Int32)).toNatClampNeg) - (1 : Int32)))) ≤ v2) → (vp_in (v2 + (3 : Int32)) 239 ∧ (vp_in v2 239 ∧ K1 (v2 + (1 : Int32)) (x_up M 194 (v2).toNatClampNeg (M 194 ((v2 + (3 : Int32))).toNatClampNeg)))))))
set_option maxRecDepth 100000 in
set_option maxHeartbeats 4000000 in
theorem wk_X10_remove {g : xG} (v1 : Int32) (M : xM) (P : xM → Prop) (I1 : Nat → Int32 → xM → Prop) (h0 : vc_X10_remove g v1 M P (fun v2 N => ∃ k, I1 k v2 N)) (h1 : ∀ (n : Nat) (v2 : Int32) (N : xM), I1 n v2 N → vc_X10_remove_1 g v2 N P (fun v2 N => ∃ k, k < n ∧ I1 k v2 N)) : mi_X10_remove g v1 M P := by
  refine x_startV (as := [.ref (x_a g 193), .int v1]) (cc := cX10_remove) (n := 3) (ret := none) (own := RX10) (by decide) rfl rfl (Nat.le_of_ble_eq_true rfl) (fun x hC hr => ?_)
  have L : ∀ n : Nat, (∀ (v2 : Int32) (N : xM), I1 n v2 N → x_W x g 3 (x_Qv x g P) N 8 [(0, .ref (x_a g 193)), (2, .int v2)] []) := by
    intro n
    induction n using Nat.strongRecOn with
    | ind n ih =>
      intro v2 M hI
      have h := h1 n v2 M hI
      unfold vc_X10_remove_1 at h
      refine x_iload_n (i := 2) (q := 1) hC dX10_remove_8 rfl rfl ?_
      refine x_sipush (v := 131) hC dX10_remove_9 (by decide) ?_
      refine x_iconst (v := 3) hC dX10_remove_12 (by decide) ?_
      refine x_aload_n (i := 0) (q := 0) hC dX10_remove_13 rfl rfl ?_
      refine x_getr (k := 0) (r := 194) hC xo_193 rfl kf_X10_remove_7 dX10_remove_14 ?_
      refine x_iconst (v := 2) hC dX10_remove_17 (by decide) ?_
      refine x_iald (len := 239) hC xa_194 h.1 dX10_remove_18 ?_
      replace h := h.2
      refine x_iconst (v := 1) hC dX10_remove_19 (by decide) ?_
      refine x_isub hC dX10_remove_20 ?_
      refine x_imul hC dX10_remove_21 ?_
      refine x_iadd hC dX10_remove_22 ?_
      refine x_icmp_ge (t := 46) hC dX10_remove_23 (by decide) (fun q => ?_) (fun q => ?_)
      · replace h := h.1 q
        refine x_aload_n (i := 0) (q := 0) hC dX10_remove_46 rfl rfl ?_
        refine x_getr (k := 0) (r := 194) hC xo_193 rfl kf_X10_remove_7 dX10_remove_47 ?_
        refine x_iconst (v := 2) hC dX10_remove_50 (by decide) ?_
        refine x_dup2 hC dX10_remove_51 rfl rfl ?_
        refine x_iald (len := 239) hC xa_194 h.1 dX10_remove_52 ?_
        replace h := h.2
        refine x_iconst (v := 1) hC dX10_remove_53 (by decide) ?_
        refine x_isub hC dX10_remove_54 ?_
        refine x_iast (len := 239) hC xa_194 h.1 dX10_remove_55 ?_
        replace h := h.2
        exact x_vret hC hr dX10_remove_56 h
      · replace h := h.2 q
        refine x_aload_n (i := 0) (q := 0) hC dX10_remove_26 rfl rfl ?_
        refine x_getr (k := 0) (r := 194) hC xo_193 rfl kf_X10_remove_7 dX10_remove_27 ?_
        refine x_iload_n (i := 2) (q := 1) hC dX10_remove_30 rfl rfl ?_
        refine x_aload_n (i := 0) (q := 0) hC dX10_remove_31 rfl rfl ?_
        refine x_getr (k := 0) (r := 194) hC xo_193 rfl kf_X10_remove_7 dX10_remove_32 ?_
        refine x_iload_n (i := 2) (q := 1) hC dX10_remove_35 rfl rfl ?_
        refine x_iconst (v := 3) hC dX10_remove_36 (by decide) ?_
        refine x_iadd hC dX10_remove_37 ?_
        refine x_iald (len := 239) hC xa_194 h.1 dX10_remove_38 ?_
        replace h := h.2
        refine x_iast (len := 239) hC xa_194 h.1 dX10_remove_39 ?_
        replace h := h.2
        refine x_iinc (k := 1) (v' := (v2 + (1 : Int32))) (ls' := [(2, .int (v2 + (1 : Int32))), (0, .ref (x_a g 193))]) hC dX10_remove_40 rfl rfl (by decide) rfl ?_
        refine x_goto (t := 8) hC dX10_remove_43 (by decide) ?_
        obtain ⟨n_1, hn, h⟩ := h
        exact x_sub [1, 0] rfl ((ih n_1 hn) _ _ h)
  have h := h0
  unfold vc_X10_remove at h
  refine x_sipush (v := 131) hC dX10_remove_0 (by decide) ?_
  refine x_iconst (v := 3) hC dX10_remove_3 (by decide) ?_
  refine x_iload_n (i := 1) (q := 1) hC dX10_remove_4 rfl rfl ?_
  refine x_imul hC dX10_remove_5 ?_
  refine x_iadd hC dX10_remove_6 ?_
  refine x_istore_n (i := 2) (ls' := [(2, .int ((131 : Int32) + ((3 : Int32) * v1))), (0, .ref (x_a g 193)), (1, .int v1)]) hC dX10_remove_7 rfl (by decide) rfl ?_
  obtain ⟨n_1, h⟩ := h
  exact x_sub [1, 0] rfl ((L n_1) _ _ h)
theorem kf_X10_remember_7 : x_okf wsX10_remember RX10 7 10 0 = true := by decide +kernel
def vc_X10_remember (g : xG) (v1 : Int32) (M : xM) (P : xM → Prop) (K1 : Int32 → Int32 → xM → Prop) : Prop := K1 v1 (238 : Int32) M
def vc_X10_remember_1 (g : xG) (v1 : Int32) (v2 : Int32) (M : xM) (P : xM → Prop) (K1 : Int32 → Int32 → xM → Prop) : Prop := ((v2 < (195 : Int32) → (mi_X10_wishPart g v1 (0 : Int32) M (fun r1 N2 => (vp_in (191 : Int32) 239 ∧ (mi_X10_wishPart g v1 (1 : Int32) (x_up N2 194 ((191 : Int32)).toNatClampNeg r1) (fun r3 N4 => (vp_in (192 : Int32) 239 ∧ (mi_X10_wishPart g v1 (2 : Int32) (x_up N4 194 ((192 : Int32)).toNatClampNeg r3) (fun r5 N6 => (vp_in (193 : Int32) 239 ∧ (vp_in (4 : Int32) 239 ∧ (vp_in (194 : Int32) 239 ∧ (∀ N7 : xM, N7 = (x_up (x_up N6 194 ((193 : Int32)).toNatClampNeg r5) 194 ((194 : Int32)).toNatClampNeg ((x_up N6 194 ((193 : Int32)).toNatClampNeg r5) 194 ((4 : Int32)).toNatClampNeg)) → (vp_in (6 : Int32) 239 ∧ (vp_in (6 : Int32) 239 ∧ (((12 : Int32) ≤ (N7 194 ((6 : Int32)).toNatClampNeg) → (vp_in (6 : Int32) 239 ∧ P (x_up N7 194 ((6 : Int32)).toNatClampNeg ((N7 194 ((6 : Int32)).toNatClampNeg) + (0 : Int32))))) ∧ (¬ ((12 : Int32) ≤ (N7 194 ((6 : Int32)).toNatClampNeg)) → (vp_in (6 : Int32) 239 ∧ P (x_up N7 194 ((6 : Int32)).toNatClampNeg ((N7 194 ((6 : Int32)).toNatClampNeg) + (1 : Int32))))))))))))))))))))) ∧ (¬ (v2 < (195 : Int32)) → (vp_in (v2 - (4 : Int32)) 239 ∧ (vp_in v2 239 ∧ K1 v1 (v2 + (-1 : Int32)) (x_up M 194 (v2).toNatClampNeg (M 194 ((v2 - (4 : Int32))).toNatClampNeg))))))
set_option maxRecDepth 100000 in
set_option maxHeartbeats 4000000 in
theorem wk_X10_remember {g : xG} (v1 : Int32) (M : xM) (P : xM → Prop) (I1 : Nat → Int32 → Int32 → xM → Prop) (h0 : vc_X10_remember g v1 M P (fun v1 v2 N => ∃ k, I1 k v1 v2 N)) (h1 : ∀ (n : Nat) (v1 : Int32) (v2 : Int32) (N : xM), I1 n v1 v2 N → vc_X10_remember_1 g v1 v2 N P (fun v1 v2 N => ∃ k, k < n ∧ I1 k v1 v2 N)) : mi_X10_remember g v1 M P := by
  refine x_startV (as := [.ref (x_a g 193), .int v1]) (cc := cX10_remember) (n := 3) (ret := none) (own := RX10) (by decide) rfl rfl (Nat.le_of_ble_eq_true rfl) (fun x hC hr => ?_)
  have L : ∀ n : Nat, (∀ (v1 : Int32) (v2 : Int32) (N : xM), I1 n v1 v2 N → x_W x g 3 (x_Qv x g P) N 4 [(0, .ref (x_a g 193)), (1, .int v1), (2, .int v2)] []) := by
    intro n
    induction n using Nat.strongRecOn with
    | ind n ih =>
      intro v1 v2 M hI
      have h := h1 n v1 v2 M hI
      unfold vc_X10_remember_1 at h
      refine x_iload_n (i := 2) (q := 2) hC dX10_remember_4 rfl rfl ?_
      refine x_sipush (v := 195) hC dX10_remember_5 (by decide) ?_
      refine x_icmp_lt (t := 31) hC dX10_remember_8 (by decide) (fun q => ?_) (fun q => ?_)
      · replace h := h.1 q
        refine x_aload_n (i := 0) (q := 0) hC dX10_remember_31 rfl rfl ?_
        refine x_getr (k := 0) (r := 194) hC xo_193 rfl kf_X10_remember_7 dX10_remember_32 ?_
        refine x_sipush (v := 191) hC dX10_remember_35 (by decide) ?_
        refine x_aload_n (i := 0) (q := 0) hC dX10_remember_38 rfl rfl ?_
        refine x_iload_n (i := 1) (q := 1) hC dX10_remember_39 rfl rfl ?_
        refine x_iconst (v := 0) hC dX10_remember_40 (by decide) ?_
        refine x_callVi (q := (RX10, TX10, 12)) (As := [.int v1, .int (0 : Int32)]) hC xo_193 rfl h gX10_remember_X10_wishPart rfl rfl rfl hy_X10_wishPart ⟨Nat.le_of_ble_eq_true rfl, Nat.le_of_ble_eq_true rfl⟩ rfl (Nat.le_of_ble_eq_true rfl) rfl dX10_remember_41 (fun r1 N2 h => ?_)
        refine x_iast (len := 239) hC xa_194 h.1 dX10_remember_44 ?_
        replace h := h.2
        refine x_aload_n (i := 0) (q := 0) hC dX10_remember_45 rfl rfl ?_
        refine x_getr (k := 0) (r := 194) hC xo_193 rfl kf_X10_remember_7 dX10_remember_46 ?_
        refine x_sipush (v := 192) hC dX10_remember_49 (by decide) ?_
        refine x_aload_n (i := 0) (q := 0) hC dX10_remember_52 rfl rfl ?_
        refine x_iload_n (i := 1) (q := 1) hC dX10_remember_53 rfl rfl ?_
        refine x_iconst (v := 1) hC dX10_remember_54 (by decide) ?_
        refine x_callVi (q := (RX10, TX10, 12)) (As := [.int v1, .int (1 : Int32)]) hC xo_193 rfl h gX10_remember_X10_wishPart rfl rfl rfl hy_X10_wishPart ⟨Nat.le_of_ble_eq_true rfl, Nat.le_of_ble_eq_true rfl⟩ rfl (Nat.le_of_ble_eq_true rfl) rfl dX10_remember_55 (fun r3 N4 h => ?_)
        refine x_iast (len := 239) hC xa_194 h.1 dX10_remember_58 ?_
        replace h := h.2
        refine x_aload_n (i := 0) (q := 0) hC dX10_remember_59 rfl rfl ?_
        refine x_getr (k := 0) (r := 194) hC xo_193 rfl kf_X10_remember_7 dX10_remember_60 ?_
        refine x_sipush (v := 193) hC dX10_remember_63 (by decide) ?_
        refine x_aload_n (i := 0) (q := 0) hC dX10_remember_66 rfl rfl ?_
        refine x_iload_n (i := 1) (q := 1) hC dX10_remember_67 rfl rfl ?_
        refine x_iconst (v := 2) hC dX10_remember_68 (by decide) ?_
        refine x_callVi (q := (RX10, TX10, 12)) (As := [.int v1, .int (2 : Int32)]) hC xo_193 rfl h gX10_remember_X10_wishPart rfl rfl rfl hy_X10_wishPart ⟨Nat.le_of_ble_eq_true rfl, Nat.le_of_ble_eq_true rfl⟩ rfl (Nat.le_of_ble_eq_true rfl) rfl dX10_remember_69 (fun r5 N6 h => ?_)
        refine x_iast (len := 239) hC xa_194 h.1 dX10_remember_72 ?_
        replace h := h.2
        refine x_aload_n (i := 0) (q := 0) hC dX10_remember_73 rfl rfl ?_
        refine x_getr (k := 0) (r := 194) hC xo_193 rfl kf_X10_remember_7 dX10_remember_74 ?_
        refine x_sipush (v := 194) hC dX10_remember_77 (by decide) ?_
        refine x_aload_n (i := 0) (q := 0) hC dX10_remember_80 rfl rfl ?_
        refine x_getr (k := 0) (r := 194) hC xo_193 rfl kf_X10_remember_7 dX10_remember_81 ?_
        refine x_iconst (v := 4) hC dX10_remember_84 (by decide) ?_
        refine x_iald (len := 239) hC xa_194 h.1 dX10_remember_85 ?_
        replace h := h.2
        refine x_iast (len := 239) hC xa_194 h.1 dX10_remember_86 ?_
        replace h := h.2
        refine x_topM (fun N7 qN7 => ?_)
        replace h := h N7 qN7
        refine x_aload_n (i := 0) (q := 0) hC dX10_remember_87 rfl rfl ?_
        refine x_getr (k := 0) (r := 194) hC xo_193 rfl kf_X10_remember_7 dX10_remember_88 ?_
        refine x_bipush (v := 6) hC dX10_remember_91 (by decide) ?_
        refine x_dup2 hC dX10_remember_93 rfl rfl ?_
        refine x_iald (len := 239) hC xa_194 h.1 dX10_remember_94 ?_
        replace h := h.2
        refine x_aload_n (i := 0) (q := 0) hC dX10_remember_95 rfl rfl ?_
        refine x_getr (k := 0) (r := 194) hC xo_193 rfl kf_X10_remember_7 dX10_remember_96 ?_
        refine x_bipush (v := 6) hC dX10_remember_99 (by decide) ?_
        refine x_iald (len := 239) hC xa_194 h.1 dX10_remember_101 ?_
        replace h := h.2
        refine x_bipush (v := 12) hC dX10_remember_102 (by decide) ?_
        refine x_icmp_ge (t := 111) hC dX10_remember_104 (by decide) (fun q => ?_) (fun q => ?_)
        · replace h := h.1 q
          refine x_iconst (v := 0) hC dX10_remember_111 (by decide) ?_
          refine x_iadd hC dX10_remember_112 ?_
          refine x_iast (len := 239) hC xa_194 h.1 dX10_remember_113 ?_
          replace h := h.2
          exact x_vret hC hr dX10_remember_114 h
        · replace h := h.2 q
          refine x_iconst (v := 1) hC dX10_remember_107 (by decide) ?_
          refine x_goto (t := 112) hC dX10_remember_108 (by decide) ?_
          refine x_iadd hC dX10_remember_112 ?_
          refine x_iast (len := 239) hC xa_194 h.1 dX10_remember_113 ?_
          replace h := h.2
          exact x_vret hC hr dX10_remember_114 h
      · replace h := h.2 q
        refine x_aload_n (i := 0) (q := 0) hC dX10_remember_11 rfl rfl ?_
        refine x_getr (k := 0) (r := 194) hC xo_193 rfl kf_X10_remember_7 dX10_remember_12 ?_
        refine x_iload_n (i := 2) (q := 2) hC dX10_remember_15 rfl rfl ?_
        refine x_aload_n (i := 0) (q := 0) hC dX10_remember_16 rfl rfl ?_
        refine x_getr (k := 0) (r := 194) hC xo_193 rfl kf_X10_remember_7 dX10_remember_17 ?_
        refine x_iload_n (i := 2) (q := 2) hC dX10_remember_20 rfl rfl ?_
        refine x_iconst (v := 4) hC dX10_remember_21 (by decide) ?_
        refine x_isub hC dX10_remember_22 ?_
        refine x_iald (len := 239) hC xa_194 h.1 dX10_remember_23 ?_
        replace h := h.2
        refine x_iast (len := 239) hC xa_194 h.1 dX10_remember_24 ?_
        replace h := h.2
        refine x_iinc (k := 2) (v' := (v2 + (-1 : Int32))) (ls' := [(2, .int (v2 + (-1 : Int32))), (0, .ref (x_a g 193)), (1, .int v1)]) hC dX10_remember_25 rfl rfl (by decide) rfl ?_
        refine x_goto (t := 4) hC dX10_remember_28 (by decide) ?_
        obtain ⟨n_1, hn, h⟩ := h
        exact x_sub [1, 2, 0] rfl ((ih n_1 hn) _ _ _ h)
  have h := h0
  unfold vc_X10_remember at h
  refine x_sipush (v := 238) hC dX10_remember_0 (by decide) ?_
  refine x_istore_n (i := 2) (ls' := [(2, .int (238 : Int32)), (0, .ref (x_a g 193)), (1, .int v1)]) hC dX10_remember_3 rfl (by decide) rfl ?_
  obtain ⟨n_1, h⟩ := h
  exact x_sub [1, 2, 0] rfl ((L n_1) _ _ _ h)
theorem kf_X10_singWish_7 : x_okf wsX10_singWish RX10 7 10 0 = true := by decide +kernel
def vc_X10_singWish (g : xG) (v1 : Int32) (M : xM) (P : xM → Prop) (K1 : Int32 → Int32 → Int32 → Int32 → Int32 → xM → Prop) : Prop := (mi_X10_singersOf g v1 M (fun r1 N2 => (mi_X10_wishPart g v1 (2 : Int32) N2 (fun r3 N4 => (mi_X10_songPart g r3 (2 : Int32) N4 (fun r5 N6 => (mi_X10_remember g v1 N6 (fun N7 => K1 v1 r1 r3 r5 (0 : Int32) N7))))))))
def vc_X10_singWish_1 (g : xG) (v1 : Int32) (v2 : Int32) (v3 : Int32) (v4 : Int32) (v5 : Int32) (M : xM) (P : xM → Prop) (K1 : Int32 → Int32 → Int32 → Int32 → Int32 → xM → Prop) : Prop := (vp_in (0 : Int32) 239 ∧ (((M 194 ((0 : Int32)).toNatClampNeg) ≤ v5 → (vp_in (((67 : Int32) + ((4 : Int32) * v3)) + (3 : Int32)) 239 ∧ (vp_in (((67 : Int32) + ((4 : Int32) * v3)) + (3 : Int32)) 239 ∧ (∀ N8 : xM, N8 = (x_up M 194 ((((67 : Int32) + ((4 : Int32) * v3)) + (3 : Int32))).toNatClampNeg ((M 194 ((((67 : Int32) + ((4 : Int32) * v3)) + (3 : Int32))).toNatClampNeg) + (1 : Int32))) → (vp_in (3 : Int32) 239 ∧ (vp_in (4 : Int32) 239 ∧ (vp_in (4 : Int32) 239 ∧ (∀ N9 : xM, N9 = (x_up (x_up N8 194 ((3 : Int32)).toNatClampNeg v2) 194 ((4 : Int32)).toNatClampNeg (((x_up N8 194 ((3 : Int32)).toNatClampNeg v2) 194 ((4 : Int32)).toNatClampNeg) + v4)) → (vp_in (5 : Int32) 239 ∧ (vp_in (5 : Int32) 239 ∧ (mi_X10_remove g v1 (x_up N9 194 ((5 : Int32)).toNatClampNeg ((N9 194 ((5 : Int32)).toNatClampNeg) + (1 : Int32))) (fun N10 => P N10)))))))))))) ∧ (¬ ((M 194 ((0 : Int32)).toNatClampNeg) ≤ v5) → ((¬ ((v2 >>> (v5 &&& 31)) &&& (1 : Int32)) = (1 : Int32) → K1 v1 v2 v3 v4 (v5 + (1 : Int32)) M) ∧ (((v2 >>> (v5 &&& 31)) &&& (1 : Int32)) = (1 : Int32) → (mi_X10_singerPart g v5 (3 : Int32) M (fun r11 N12 => (mi_X10_setSinger g v5 (3 : Int32) (r11 + (1 : Int32)) N12 (fun N13 => (mi_X10_singerPart g v5 (4 : Int32) N13 (fun r14 N15 => (mi_X10_setSinger g v5 (4 : Int32) (r14 + v4) N15 (fun N16 => K1 v1 v2 v3 v4 (v5 + (1 : Int32)) N16)))))))))))))
set_option maxRecDepth 100000 in
set_option maxHeartbeats 4000000 in
theorem wk_X10_singWish {g : xG} (v1 : Int32) (M : xM) (P : xM → Prop) (I1 : Nat → Int32 → Int32 → Int32 → Int32 → Int32 → xM → Prop) (h0 : vc_X10_singWish g v1 M P (fun v1 v2 v3 v4 v5 N => ∃ k, I1 k v1 v2 v3 v4 v5 N)) (h1 : ∀ (n : Nat) (v1 : Int32) (v2 : Int32) (v3 : Int32) (v4 : Int32) (v5 : Int32) (N : xM), I1 n v1 v2 v3 v4 v5 N → vc_X10_singWish_1 g v1 v2 v3 v4 v5 N P (fun v1 v2 v3 v4 v5 N => ∃ k, k < n ∧ I1 k v1 v2 v3 v4 v5 N)) : mi_X10_singWish g v1 M P := by
  refine x_startV (as := [.ref (x_a g 193), .int v1]) (cc := cX10_singWish) (n := 6) (ret := none) (own := RX10) (by decide) rfl rfl (Nat.le_of_ble_eq_true rfl) (fun x hC hr => ?_)
  have L : ∀ n : Nat, (∀ (v1 : Int32) (v2 : Int32) (v3 : Int32) (v4 : Int32) (v5 : Int32) (N : xM), I1 n v1 v2 v3 v4 v5 N → x_W x g 6 (x_Qv x g P) N 29 [(0, .ref (x_a g 193)), (1, .int v1), (2, .int v2), (3, .int v3), (4, .int v4), (5, .int v5)] []) := by
    intro n
    induction n using Nat.strongRecOn with
    | ind n ih =>
      intro v1 v2 v3 v4 v5 M hI
      have h := h1 n v1 v2 v3 v4 v5 M hI
      unfold vc_X10_singWish_1 at h
      refine x_iload (q := 5) hC dX10_singWish_29 rfl ?_
      refine x_aload_n (i := 0) (q := 0) hC dX10_singWish_31 rfl rfl ?_
      refine x_getr (k := 0) (r := 194) hC xo_193 rfl kf_X10_singWish_7 dX10_singWish_32 ?_
      refine x_iconst (v := 0) hC dX10_singWish_35 (by decide) ?_
      refine x_iald (len := 239) hC xa_194 h.1 dX10_singWish_36 ?_
      replace h := h.2
      refine x_icmp_ge (t := 89) hC dX10_singWish_37 (by decide) (fun q => ?_) (fun q => ?_)
      · replace h := h.1 q
        refine x_aload_n (i := 0) (q := 0) hC dX10_singWish_89 rfl rfl ?_
        refine x_getr (k := 0) (r := 194) hC xo_193 rfl kf_X10_singWish_7 dX10_singWish_90 ?_
        refine x_bipush (v := 67) hC dX10_singWish_93 (by decide) ?_
        refine x_iconst (v := 4) hC dX10_singWish_95 (by decide) ?_
        refine x_iload_n (i := 3) (q := 3) hC dX10_singWish_96 rfl rfl ?_
        refine x_imul hC dX10_singWish_97 ?_
        refine x_iadd hC dX10_singWish_98 ?_
        refine x_iconst (v := 3) hC dX10_singWish_99 (by decide) ?_
        refine x_iadd hC dX10_singWish_100 ?_
        refine x_dup2 hC dX10_singWish_101 rfl rfl ?_
        refine x_iald (len := 239) hC xa_194 h.1 dX10_singWish_102 ?_
        replace h := h.2
        refine x_iconst (v := 1) hC dX10_singWish_103 (by decide) ?_
        refine x_iadd hC dX10_singWish_104 ?_
        refine x_iast (len := 239) hC xa_194 h.1 dX10_singWish_105 ?_
        replace h := h.2
        refine x_topM (fun N8 qN8 => ?_)
        replace h := h N8 qN8
        refine x_aload_n (i := 0) (q := 0) hC dX10_singWish_106 rfl rfl ?_
        refine x_getr (k := 0) (r := 194) hC xo_193 rfl kf_X10_singWish_7 dX10_singWish_107 ?_
        refine x_iconst (v := 3) hC dX10_singWish_110 (by decide) ?_
        refine x_iload_n (i := 2) (q := 2) hC dX10_singWish_111 rfl rfl ?_
        refine x_iast (len := 239) hC xa_194 h.1 dX10_singWish_112 ?_
        replace h := h.2
        refine x_aload_n (i := 0) (q := 0) hC dX10_singWish_113 rfl rfl ?_
        refine x_getr (k := 0) (r := 194) hC xo_193 rfl kf_X10_singWish_7 dX10_singWish_114 ?_
        refine x_iconst (v := 4) hC dX10_singWish_117 (by decide) ?_
        refine x_dup2 hC dX10_singWish_118 rfl rfl ?_
        refine x_iald (len := 239) hC xa_194 h.1 dX10_singWish_119 ?_
        replace h := h.2
        refine x_iload (q := 4) hC dX10_singWish_120 rfl ?_
        refine x_iadd hC dX10_singWish_122 ?_
        refine x_iast (len := 239) hC xa_194 h.1 dX10_singWish_123 ?_
        replace h := h.2
        refine x_topM (fun N9 qN9 => ?_)
        replace h := h N9 qN9
        refine x_aload_n (i := 0) (q := 0) hC dX10_singWish_124 rfl rfl ?_
        refine x_getr (k := 0) (r := 194) hC xo_193 rfl kf_X10_singWish_7 dX10_singWish_125 ?_
        refine x_iconst (v := 5) hC dX10_singWish_128 (by decide) ?_
        refine x_dup2 hC dX10_singWish_129 rfl rfl ?_
        refine x_iald (len := 239) hC xa_194 h.1 dX10_singWish_130 ?_
        replace h := h.2
        refine x_iconst (v := 1) hC dX10_singWish_131 (by decide) ?_
        refine x_iadd hC dX10_singWish_132 ?_
        refine x_iast (len := 239) hC xa_194 h.1 dX10_singWish_133 ?_
        replace h := h.2
        refine x_aload_n (i := 0) (q := 0) hC dX10_singWish_134 rfl rfl ?_
        refine x_iload_n (i := 1) (q := 1) hC dX10_singWish_135 rfl rfl ?_
        refine x_callVv (q := (RX10, TX10, 12)) (As := [.int v1]) hC xo_193 rfl h gX10_singWish_X10_remove rfl rfl rfl hy_X10_remove ⟨Nat.le_of_ble_eq_true rfl, Nat.le_of_ble_eq_true rfl⟩ rfl (Nat.le_of_ble_eq_true rfl) rfl dX10_singWish_136 (fun N10 h => ?_)
        exact x_vret hC hr dX10_singWish_139 h
      · replace h := h.2 q
        refine x_iload_n (i := 2) (q := 2) hC dX10_singWish_40 rfl rfl ?_
        refine x_iload (q := 5) hC dX10_singWish_41 rfl ?_
        refine x_ishr hC dX10_singWish_43 ?_
        refine x_iconst (v := 1) hC dX10_singWish_44 (by decide) ?_
        refine x_iand hC dX10_singWish_45 ?_
        refine x_iconst (v := 1) hC dX10_singWish_46 (by decide) ?_
        refine x_icmp_ne (t := 83) hC dX10_singWish_47 (by decide) (fun q => ?_) (fun q => ?_)
        · replace h := h.1 q
          refine x_iinc (k := 5) (v' := (v5 + (1 : Int32))) (ls' := [(5, .int (v5 + (1 : Int32))), (0, .ref (x_a g 193)), (1, .int v1), (2, .int v2), (3, .int v3), (4, .int v4)]) hC dX10_singWish_83 rfl rfl (by decide) rfl ?_
          refine x_goto (t := 29) hC dX10_singWish_86 (by decide) ?_
          obtain ⟨n_1, hn, h⟩ := h
          exact x_sub [1, 2, 3, 4, 5, 0] rfl ((ih n_1 hn) _ _ _ _ _ _ h)
        · replace h := h.2 q
          refine x_aload_n (i := 0) (q := 0) hC dX10_singWish_50 rfl rfl ?_
          refine x_iload (q := 5) hC dX10_singWish_51 rfl ?_
          refine x_iconst (v := 3) hC dX10_singWish_53 (by decide) ?_
          refine x_aload_n (i := 0) (q := 0) hC dX10_singWish_54 rfl rfl ?_
          refine x_iload (q := 5) hC dX10_singWish_55 rfl ?_
          refine x_iconst (v := 3) hC dX10_singWish_57 (by decide) ?_
          refine x_callVi (q := (RX10, TX10, 12)) (As := [.int v5, .int (3 : Int32)]) hC xo_193 rfl h gX10_singWish_X10_singerPart rfl rfl rfl hy_X10_singerPart ⟨Nat.le_of_ble_eq_true rfl, Nat.le_of_ble_eq_true rfl⟩ rfl (Nat.le_of_ble_eq_true rfl) rfl dX10_singWish_58 (fun r11 N12 h => ?_)
          refine x_iconst (v := 1) hC dX10_singWish_61 (by decide) ?_
          refine x_iadd hC dX10_singWish_62 ?_
          refine x_callVv (q := (RX10, TX10, 12)) (As := [.int v5, .int (3 : Int32), .int (r11 + (1 : Int32))]) hC xo_193 rfl h gX10_singWish_X10_setSinger rfl rfl rfl hy_X10_setSinger ⟨Nat.le_of_ble_eq_true rfl, Nat.le_of_ble_eq_true rfl⟩ rfl (Nat.le_of_ble_eq_true rfl) rfl dX10_singWish_63 (fun N13 h => ?_)
          refine x_aload_n (i := 0) (q := 0) hC dX10_singWish_66 rfl rfl ?_
          refine x_iload (q := 5) hC dX10_singWish_67 rfl ?_
          refine x_iconst (v := 4) hC dX10_singWish_69 (by decide) ?_
          refine x_aload_n (i := 0) (q := 0) hC dX10_singWish_70 rfl rfl ?_
          refine x_iload (q := 5) hC dX10_singWish_71 rfl ?_
          refine x_iconst (v := 4) hC dX10_singWish_73 (by decide) ?_
          refine x_callVi (q := (RX10, TX10, 12)) (As := [.int v5, .int (4 : Int32)]) hC xo_193 rfl h gX10_singWish_X10_singerPart rfl rfl rfl hy_X10_singerPart ⟨Nat.le_of_ble_eq_true rfl, Nat.le_of_ble_eq_true rfl⟩ rfl (Nat.le_of_ble_eq_true rfl) rfl dX10_singWish_74 (fun r14 N15 h => ?_)
          refine x_iload (q := 4) hC dX10_singWish_77 rfl ?_
          refine x_iadd hC dX10_singWish_79 ?_
          refine x_callVv (q := (RX10, TX10, 12)) (As := [.int v5, .int (4 : Int32), .int (r14 + v4)]) hC xo_193 rfl h gX10_singWish_X10_setSinger rfl rfl rfl hy_X10_setSinger ⟨Nat.le_of_ble_eq_true rfl, Nat.le_of_ble_eq_true rfl⟩ rfl (Nat.le_of_ble_eq_true rfl) rfl dX10_singWish_80 (fun N16 h => ?_)
          refine x_iinc (k := 5) (v' := (v5 + (1 : Int32))) (ls' := [(5, .int (v5 + (1 : Int32))), (0, .ref (x_a g 193)), (1, .int v1), (2, .int v2), (3, .int v3), (4, .int v4)]) hC dX10_singWish_83 rfl rfl (by decide) rfl ?_
          refine x_goto (t := 29) hC dX10_singWish_86 (by decide) ?_
          obtain ⟨n_1, hn, h⟩ := h
          exact x_sub [1, 2, 3, 4, 5, 0] rfl ((ih n_1 hn) _ _ _ _ _ _ h)
  have h := h0
  unfold vc_X10_singWish at h
  refine x_aload_n (i := 0) (q := 0) hC dX10_singWish_0 rfl rfl ?_
  refine x_iload_n (i := 1) (q := 1) hC dX10_singWish_1 rfl rfl ?_
  refine x_callVi (q := (RX10, TX10, 12)) (As := [.int v1]) hC xo_193 rfl h gX10_singWish_X10_singersOf rfl rfl rfl hy_X10_singersOf ⟨Nat.le_of_ble_eq_true rfl, Nat.le_of_ble_eq_true rfl⟩ rfl (Nat.le_of_ble_eq_true rfl) rfl dX10_singWish_2 (fun r1 N2 h => ?_)
  refine x_istore_n (i := 2) (ls' := [(2, .int r1), (0, .ref (x_a g 193)), (1, .int v1)]) hC dX10_singWish_5 rfl (by decide) rfl ?_
  refine x_aload_n (i := 0) (q := 1) hC dX10_singWish_6 rfl rfl ?_
  refine x_iload_n (i := 1) (q := 2) hC dX10_singWish_7 rfl rfl ?_
  refine x_iconst (v := 2) hC dX10_singWish_8 (by decide) ?_
  refine x_callVi (q := (RX10, TX10, 12)) (As := [.int v1, .int (2 : Int32)]) hC xo_193 rfl h gX10_singWish_X10_wishPart rfl rfl rfl hy_X10_wishPart ⟨Nat.le_of_ble_eq_true rfl, Nat.le_of_ble_eq_true rfl⟩ rfl (Nat.le_of_ble_eq_true rfl) rfl dX10_singWish_9 (fun r3 N4 h => ?_)
  refine x_istore_n (i := 3) (ls' := [(3, .int r3), (2, .int r1), (0, .ref (x_a g 193)), (1, .int v1)]) hC dX10_singWish_12 rfl (by decide) rfl ?_
  refine x_aload_n (i := 0) (q := 2) hC dX10_singWish_13 rfl rfl ?_
  refine x_iload_n (i := 3) (q := 0) hC dX10_singWish_14 rfl rfl ?_
  refine x_iconst (v := 2) hC dX10_singWish_15 (by decide) ?_
  refine x_callVi (q := (RX10, TX10, 12)) (As := [.int r3, .int (2 : Int32)]) hC xo_193 rfl h gX10_singWish_X10_songPart rfl rfl rfl hy_X10_songPart ⟨Nat.le_of_ble_eq_true rfl, Nat.le_of_ble_eq_true rfl⟩ rfl (Nat.le_of_ble_eq_true rfl) rfl dX10_singWish_16 (fun r5 N6 h => ?_)
  refine x_istore (ls' := [(4, .int r5), (3, .int r3), (2, .int r1), (0, .ref (x_a g 193)), (1, .int v1)]) hC dX10_singWish_19 (by decide) rfl ?_
  refine x_aload_n (i := 0) (q := 3) hC dX10_singWish_21 rfl rfl ?_
  refine x_iload_n (i := 1) (q := 4) hC dX10_singWish_22 rfl rfl ?_
  refine x_callVv (q := (RX10, TX10, 12)) (As := [.int v1]) hC xo_193 rfl h gX10_singWish_X10_remember rfl rfl rfl hy_X10_remember ⟨Nat.le_of_ble_eq_true rfl, Nat.le_of_ble_eq_true rfl⟩ rfl (Nat.le_of_ble_eq_true rfl) rfl dX10_singWish_23 (fun N7 h => ?_)
  refine x_iconst (v := 0) hC dX10_singWish_26 (by decide) ?_
  refine x_istore (ls' := [(5, .int (0 : Int32)), (4, .int r5), (3, .int r3), (2, .int r1), (0, .ref (x_a g 193)), (1, .int v1)]) hC dX10_singWish_27 (by decide) rfl ?_
  obtain ⟨n_1, h⟩ := h
  exact x_sub [4, 5, 3, 2, 1, 0] rfl ((L n_1) _ _ _ _ _ _ h)
theorem kf_X10_singer_7 : x_okf wsX10_singer RX10 7 10 0 = true := by decide +kernel
def vc_X10_singer (g : xG) (v1 : Int32) (v2 : Int32) (M : xM) (P : Int32 → xM → Prop) : Prop := (mi_X10_within g v1 (0 : Int32) (60 : Int32) M (fun r1 N2 => ((r1 = 0 → P (-2 : Int32) N2) ∧ (¬ (r1 = 0) → (mi_X10_within g v2 v1 (60 : Int32) N2 (fun r3 N4 => ((¬ r3 = 0 → (vp_in (0 : Int32) 239 ∧ ((¬ (N4 194 ((0 : Int32)).toNatClampNeg) = (12 : Int32) → (mi_X10_record g N4 (fun N5 => (vp_in (0 : Int32) 239 ∧ (mi_X10_setSinger g (N5 194 ((0 : Int32)).toNatClampNeg) (0 : Int32) v1 N5 (fun N6 => (mi_X10_setSinger g (N5 194 ((0 : Int32)).toNatClampNeg) (1 : Int32) v2 N6 (fun N7 => (mi_X10_setSinger g (N5 194 ((0 : Int32)).toNatClampNeg) (2 : Int32) (1 : Int32) N7 (fun N8 => (vp_in (0 : Int32) 239 ∧ (vp_in (0 : Int32) 239 ∧ P (N5 194 ((0 : Int32)).toNatClampNeg) (x_up N8 194 ((0 : Int32)).toNatClampNeg ((N8 194 ((0 : Int32)).toNatClampNeg) + (1 : Int32))))))))))))))) ∧ ((N4 194 ((0 : Int32)).toNatClampNeg) = (12 : Int32) → P (-4 : Int32) N4)))) ∧ (r3 = 0 → P (-2 : Int32) N4))))))))
set_option maxRecDepth 100000 in
set_option maxHeartbeats 4000000 in
theorem wk_X10_singer {g : xG} (v1 : Int32) (v2 : Int32) (M : xM) (P : Int32 → xM → Prop) (h0 : vc_X10_singer g v1 v2 M P ) : mi_X10_singer g v1 v2 M P := by
  refine x_startI (as := [.ref (x_a g 193), .int v1, .int v2]) (cc := cX10_singer) (n := 4) (ret := (some .int)) (own := RX10) (by decide) rfl rfl (Nat.le_of_ble_eq_true rfl) (fun x hC hr => ?_)
  have h := h0
  unfold vc_X10_singer at h
  refine x_iload_n (i := 1) (q := 1) hC dX10_singer_0 rfl rfl ?_
  refine x_iconst (v := 0) hC dX10_singer_1 (by decide) ?_
  refine x_bipush (v := 60) hC dX10_singer_2 (by decide) ?_
  refine x_callSi (As := [.int v1, .int (0 : Int32), .int (60 : Int32)]) hC h gX10_singer_X10_within rfl rfl rfl hy_X10_within.2 ⟨Nat.le_of_ble_eq_true rfl, Nat.le_of_ble_eq_true rfl⟩ rfl (Nat.le_of_ble_eq_true rfl) rfl dX10_singer_4 (fun r1 N2 h => ?_)
  refine x_if_eq (t := 20) hC dX10_singer_7 (by decide) (fun q => ?_) (fun q => ?_)
  · replace h := h.1 q
    refine x_bipush (v := -2) hC dX10_singer_20 (by decide) ?_
    exact x_iret hC hr dX10_singer_22 h
  · replace h := h.2 q
    refine x_iload_n (i := 2) (q := 2) hC dX10_singer_10 rfl rfl ?_
    refine x_iload_n (i := 1) (q := 1) hC dX10_singer_11 rfl rfl ?_
    refine x_bipush (v := 60) hC dX10_singer_12 (by decide) ?_
    refine x_callSi (As := [.int v2, .int v1, .int (60 : Int32)]) hC h gX10_singer_X10_within rfl rfl rfl hy_X10_within.2 ⟨Nat.le_of_ble_eq_true rfl, Nat.le_of_ble_eq_true rfl⟩ rfl (Nat.le_of_ble_eq_true rfl) rfl dX10_singer_14 (fun r3 N4 h => ?_)
    refine x_if_ne (t := 23) hC dX10_singer_17 (by decide) (fun q => ?_) (fun q => ?_)
    · replace h := h.1 q
      refine x_aload_n (i := 0) (q := 0) hC dX10_singer_23 rfl rfl ?_
      refine x_getr (k := 0) (r := 194) hC xo_193 rfl kf_X10_singer_7 dX10_singer_24 ?_
      refine x_iconst (v := 0) hC dX10_singer_27 (by decide) ?_
      refine x_iald (len := 239) hC xa_194 h.1 dX10_singer_28 ?_
      replace h := h.2
      refine x_bipush (v := 12) hC dX10_singer_29 (by decide) ?_
      refine x_icmp_ne (t := 37) hC dX10_singer_31 (by decide) (fun q => ?_) (fun q => ?_)
      · replace h := h.1 q
        refine x_aload_n (i := 0) (q := 0) hC dX10_singer_37 rfl rfl ?_
        refine x_callVv (q := (RX10, TX10, 12)) (As := []) hC xo_193 rfl h gX10_singer_X10_record rfl rfl rfl hy_X10_record ⟨Nat.le_of_ble_eq_true rfl, Nat.le_of_ble_eq_true rfl⟩ rfl (Nat.le_of_ble_eq_true rfl) rfl dX10_singer_38 (fun N5 h => ?_)
        refine x_aload_n (i := 0) (q := 0) hC dX10_singer_41 rfl rfl ?_
        refine x_getr (k := 0) (r := 194) hC xo_193 rfl kf_X10_singer_7 dX10_singer_42 ?_
        refine x_iconst (v := 0) hC dX10_singer_45 (by decide) ?_
        refine x_iald (len := 239) hC xa_194 h.1 dX10_singer_46 ?_
        replace h := h.2
        refine x_istore_n (i := 3) (ls' := [(3, .int (N5 194 ((0 : Int32)).toNatClampNeg)), (0, .ref (x_a g 193)), (1, .int v1), (2, .int v2)]) hC dX10_singer_47 rfl (by decide) rfl ?_
        refine x_aload_n (i := 0) (q := 1) hC dX10_singer_48 rfl rfl ?_
        refine x_iload_n (i := 3) (q := 0) hC dX10_singer_49 rfl rfl ?_
        refine x_iconst (v := 0) hC dX10_singer_50 (by decide) ?_
        refine x_iload_n (i := 1) (q := 2) hC dX10_singer_51 rfl rfl ?_
        refine x_callVv (q := (RX10, TX10, 12)) (As := [.int (N5 194 ((0 : Int32)).toNatClampNeg), .int (0 : Int32), .int v1]) hC xo_193 rfl h gX10_singer_X10_setSinger rfl rfl rfl hy_X10_setSinger ⟨Nat.le_of_ble_eq_true rfl, Nat.le_of_ble_eq_true rfl⟩ rfl (Nat.le_of_ble_eq_true rfl) rfl dX10_singer_52 (fun N6 h => ?_)
        refine x_aload_n (i := 0) (q := 1) hC dX10_singer_55 rfl rfl ?_
        refine x_iload_n (i := 3) (q := 0) hC dX10_singer_56 rfl rfl ?_
        refine x_iconst (v := 1) hC dX10_singer_57 (by decide) ?_
        refine x_iload_n (i := 2) (q := 3) hC dX10_singer_58 rfl rfl ?_
        refine x_callVv (q := (RX10, TX10, 12)) (As := [.int (N5 194 ((0 : Int32)).toNatClampNeg), .int (1 : Int32), .int v2]) hC xo_193 rfl h gX10_singer_X10_setSinger rfl rfl rfl hy_X10_setSinger ⟨Nat.le_of_ble_eq_true rfl, Nat.le_of_ble_eq_true rfl⟩ rfl (Nat.le_of_ble_eq_true rfl) rfl dX10_singer_59 (fun N7 h => ?_)
        refine x_aload_n (i := 0) (q := 1) hC dX10_singer_62 rfl rfl ?_
        refine x_iload_n (i := 3) (q := 0) hC dX10_singer_63 rfl rfl ?_
        refine x_iconst (v := 2) hC dX10_singer_64 (by decide) ?_
        refine x_iconst (v := 1) hC dX10_singer_65 (by decide) ?_
        refine x_callVv (q := (RX10, TX10, 12)) (As := [.int (N5 194 ((0 : Int32)).toNatClampNeg), .int (2 : Int32), .int (1 : Int32)]) hC xo_193 rfl h gX10_singer_X10_setSinger rfl rfl rfl hy_X10_setSinger ⟨Nat.le_of_ble_eq_true rfl, Nat.le_of_ble_eq_true rfl⟩ rfl (Nat.le_of_ble_eq_true rfl) rfl dX10_singer_66 (fun N8 h => ?_)
        refine x_aload_n (i := 0) (q := 1) hC dX10_singer_69 rfl rfl ?_
        refine x_getr (k := 0) (r := 194) hC xo_193 rfl kf_X10_singer_7 dX10_singer_70 ?_
        refine x_iconst (v := 0) hC dX10_singer_73 (by decide) ?_
        refine x_dup2 hC dX10_singer_74 rfl rfl ?_
        refine x_iald (len := 239) hC xa_194 h.1 dX10_singer_75 ?_
        replace h := h.2
        refine x_iconst (v := 1) hC dX10_singer_76 (by decide) ?_
        refine x_iadd hC dX10_singer_77 ?_
        refine x_iast (len := 239) hC xa_194 h.1 dX10_singer_78 ?_
        replace h := h.2
        refine x_iload_n (i := 3) (q := 0) hC dX10_singer_79 rfl rfl ?_
        exact x_iret hC hr dX10_singer_80 h
      · replace h := h.2 q
        refine x_bipush (v := -4) hC dX10_singer_34 (by decide) ?_
        exact x_iret hC hr dX10_singer_36 h
    · replace h := h.2 q
      refine x_bipush (v := -2) hC dX10_singer_20 (by decide) ?_
      exact x_iret hC hr dX10_singer_22 h
theorem kf_X10_song_7 : x_okf wsX10_song RX10 7 10 0 = true := by decide +kernel
def vc_X10_song (g : xG) (v1 : Int32) (v2 : Int32) (v3 : Int32) (M : xM) (P : Int32 → xM → Prop) : Prop := (mi_X10_within g v1 (0 : Int32) (60 : Int32) M (fun r1 N2 => ((r1 = 0 → P (-2 : Int32) N2) ∧ (¬ (r1 = 0) → (mi_X10_within g v2 v1 (60 : Int32) N2 (fun r3 N4 => ((r3 = 0 → P (-2 : Int32) N4) ∧ (¬ (r3 = 0) → (mi_X10_within g v3 (1 : Int32) (9 : Int32) N4 (fun r5 N6 => ((¬ r5 = 0 → (vp_in (1 : Int32) 239 ∧ ((¬ (N6 194 ((1 : Int32)).toNatClampNeg) = (16 : Int32) → (mi_X10_record g N6 (fun N7 => (vp_in (1 : Int32) 239 ∧ (vp_in (((67 : Int32) + ((4 : Int32) * (N7 194 ((1 : Int32)).toNatClampNeg))) + (0 : Int32)) 239 ∧ (vp_in (((67 : Int32) + ((4 : Int32) * (N7 194 ((1 : Int32)).toNatClampNeg))) + (1 : Int32)) 239 ∧ (∀ N8 : xM, N8 = (x_up (x_up N7 194 ((((67 : Int32) + ((4 : Int32) * (N7 194 ((1 : Int32)).toNatClampNeg))) + (0 : Int32))).toNatClampNeg v1) 194 ((((67 : Int32) + ((4 : Int32) * (N7 194 ((1 : Int32)).toNatClampNeg))) + (1 : Int32))).toNatClampNeg v2) → (vp_in (((67 : Int32) + ((4 : Int32) * (N7 194 ((1 : Int32)).toNatClampNeg))) + (2 : Int32)) 239 ∧ (vp_in (1 : Int32) 239 ∧ (vp_in (1 : Int32) 239 ∧ (∀ N9 : xM, N9 = (x_up (x_up N8 194 ((((67 : Int32) + ((4 : Int32) * (N7 194 ((1 : Int32)).toNatClampNeg))) + (2 : Int32))).toNatClampNeg v3) 194 ((1 : Int32)).toNatClampNeg (((x_up N8 194 ((((67 : Int32) + ((4 : Int32) * (N7 194 ((1 : Int32)).toNatClampNeg))) + (2 : Int32))).toNatClampNeg v3) 194 ((1 : Int32)).toNatClampNeg) + (1 : Int32))) → P (N7 194 ((1 : Int32)).toNatClampNeg) N9))))))))))) ∧ ((N6 194 ((1 : Int32)).toNatClampNeg) = (16 : Int32) → P (-4 : Int32) N6)))) ∧ (r5 = 0 → P (-2 : Int32) N6))))))))))))
set_option maxRecDepth 100000 in
set_option maxHeartbeats 4000000 in
theorem wk_X10_song {g : xG} (v1 : Int32) (v2 : Int32) (v3 : Int32) (M : xM) (P : Int32 → xM → Prop) (h0 : vc_X10_song g v1 v2 v3 M P ) : mi_X10_song g v1 v2 v3 M P := by
  refine x_startI (as := [.ref (x_a g 193), .int v1, .int v2, .int v3]) (cc := cX10_song) (n := 5) (ret := (some .int)) (own := RX10) (by decide) rfl rfl (Nat.le_of_ble_eq_true rfl) (fun x hC hr => ?_)
  have h := h0
  unfold vc_X10_song at h
  refine x_iload_n (i := 1) (q := 1) hC dX10_song_0 rfl rfl ?_
  refine x_iconst (v := 0) hC dX10_song_1 (by decide) ?_
  refine x_bipush (v := 60) hC dX10_song_2 (by decide) ?_
  refine x_callSi (As := [.int v1, .int (0 : Int32), .int (60 : Int32)]) hC h gX10_song_X10_within rfl rfl rfl hy_X10_within.2 ⟨Nat.le_of_ble_eq_true rfl, Nat.le_of_ble_eq_true rfl⟩ rfl (Nat.le_of_ble_eq_true rfl) rfl dX10_song_4 (fun r1 N2 h => ?_)
  refine x_if_eq (t := 30) hC dX10_song_7 (by decide) (fun q => ?_) (fun q => ?_)
  · replace h := h.1 q
    refine x_bipush (v := -2) hC dX10_song_30 (by decide) ?_
    exact x_iret hC hr dX10_song_32 h
  · replace h := h.2 q
    refine x_iload_n (i := 2) (q := 2) hC dX10_song_10 rfl rfl ?_
    refine x_iload_n (i := 1) (q := 1) hC dX10_song_11 rfl rfl ?_
    refine x_bipush (v := 60) hC dX10_song_12 (by decide) ?_
    refine x_callSi (As := [.int v2, .int v1, .int (60 : Int32)]) hC h gX10_song_X10_within rfl rfl rfl hy_X10_within.2 ⟨Nat.le_of_ble_eq_true rfl, Nat.le_of_ble_eq_true rfl⟩ rfl (Nat.le_of_ble_eq_true rfl) rfl dX10_song_14 (fun r3 N4 h => ?_)
    refine x_if_eq (t := 30) hC dX10_song_17 (by decide) (fun q => ?_) (fun q => ?_)
    · replace h := h.1 q
      refine x_bipush (v := -2) hC dX10_song_30 (by decide) ?_
      exact x_iret hC hr dX10_song_32 h
    · replace h := h.2 q
      refine x_iload_n (i := 3) (q := 3) hC dX10_song_20 rfl rfl ?_
      refine x_iconst (v := 1) hC dX10_song_21 (by decide) ?_
      refine x_bipush (v := 9) hC dX10_song_22 (by decide) ?_
      refine x_callSi (As := [.int v3, .int (1 : Int32), .int (9 : Int32)]) hC h gX10_song_X10_within rfl rfl rfl hy_X10_within.2 ⟨Nat.le_of_ble_eq_true rfl, Nat.le_of_ble_eq_true rfl⟩ rfl (Nat.le_of_ble_eq_true rfl) rfl dX10_song_24 (fun r5 N6 h => ?_)
      refine x_if_ne (t := 33) hC dX10_song_27 (by decide) (fun q => ?_) (fun q => ?_)
      · replace h := h.1 q
        refine x_aload_n (i := 0) (q := 0) hC dX10_song_33 rfl rfl ?_
        refine x_getr (k := 0) (r := 194) hC xo_193 rfl kf_X10_song_7 dX10_song_34 ?_
        refine x_iconst (v := 1) hC dX10_song_37 (by decide) ?_
        refine x_iald (len := 239) hC xa_194 h.1 dX10_song_38 ?_
        replace h := h.2
        refine x_bipush (v := 16) hC dX10_song_39 (by decide) ?_
        refine x_icmp_ne (t := 47) hC dX10_song_41 (by decide) (fun q => ?_) (fun q => ?_)
        · replace h := h.1 q
          refine x_aload_n (i := 0) (q := 0) hC dX10_song_47 rfl rfl ?_
          refine x_callVv (q := (RX10, TX10, 12)) (As := []) hC xo_193 rfl h gX10_song_X10_record rfl rfl rfl hy_X10_record ⟨Nat.le_of_ble_eq_true rfl, Nat.le_of_ble_eq_true rfl⟩ rfl (Nat.le_of_ble_eq_true rfl) rfl dX10_song_48 (fun N7 h => ?_)
          refine x_aload_n (i := 0) (q := 0) hC dX10_song_51 rfl rfl ?_
          refine x_getr (k := 0) (r := 194) hC xo_193 rfl kf_X10_song_7 dX10_song_52 ?_
          refine x_iconst (v := 1) hC dX10_song_55 (by decide) ?_
          refine x_iald (len := 239) hC xa_194 h.1 dX10_song_56 ?_
          replace h := h.2
          refine x_istore (ls' := [(4, .int (N7 194 ((1 : Int32)).toNatClampNeg)), (0, .ref (x_a g 193)), (1, .int v1), (2, .int v2), (3, .int v3)]) hC dX10_song_57 (by decide) rfl ?_
          refine x_aload_n (i := 0) (q := 1) hC dX10_song_59 rfl rfl ?_
          refine x_getr (k := 0) (r := 194) hC xo_193 rfl kf_X10_song_7 dX10_song_60 ?_
          refine x_bipush (v := 67) hC dX10_song_63 (by decide) ?_
          refine x_iconst (v := 4) hC dX10_song_65 (by decide) ?_
          refine x_iload (q := 0) hC dX10_song_66 rfl ?_
          refine x_imul hC dX10_song_68 ?_
          refine x_iadd hC dX10_song_69 ?_
          refine x_iconst (v := 0) hC dX10_song_70 (by decide) ?_
          refine x_iadd hC dX10_song_71 ?_
          refine x_iload_n (i := 1) (q := 2) hC dX10_song_72 rfl rfl ?_
          refine x_iast (len := 239) hC xa_194 h.1 dX10_song_73 ?_
          replace h := h.2
          refine x_aload_n (i := 0) (q := 1) hC dX10_song_74 rfl rfl ?_
          refine x_getr (k := 0) (r := 194) hC xo_193 rfl kf_X10_song_7 dX10_song_75 ?_
          refine x_bipush (v := 67) hC dX10_song_78 (by decide) ?_
          refine x_iconst (v := 4) hC dX10_song_80 (by decide) ?_
          refine x_iload (q := 0) hC dX10_song_81 rfl ?_
          refine x_imul hC dX10_song_83 ?_
          refine x_iadd hC dX10_song_84 ?_
          refine x_iconst (v := 1) hC dX10_song_85 (by decide) ?_
          refine x_iadd hC dX10_song_86 ?_
          refine x_iload_n (i := 2) (q := 3) hC dX10_song_87 rfl rfl ?_
          refine x_iast (len := 239) hC xa_194 h.1 dX10_song_88 ?_
          replace h := h.2
          refine x_topM (fun N8 qN8 => ?_)
          replace h := h N8 qN8
          refine x_aload_n (i := 0) (q := 1) hC dX10_song_89 rfl rfl ?_
          refine x_getr (k := 0) (r := 194) hC xo_193 rfl kf_X10_song_7 dX10_song_90 ?_
          refine x_bipush (v := 67) hC dX10_song_93 (by decide) ?_
          refine x_iconst (v := 4) hC dX10_song_95 (by decide) ?_
          refine x_iload (q := 0) hC dX10_song_96 rfl ?_
          refine x_imul hC dX10_song_98 ?_
          refine x_iadd hC dX10_song_99 ?_
          refine x_iconst (v := 2) hC dX10_song_100 (by decide) ?_
          refine x_iadd hC dX10_song_101 ?_
          refine x_iload_n (i := 3) (q := 4) hC dX10_song_102 rfl rfl ?_
          refine x_iast (len := 239) hC xa_194 h.1 dX10_song_103 ?_
          replace h := h.2
          refine x_aload_n (i := 0) (q := 1) hC dX10_song_104 rfl rfl ?_
          refine x_getr (k := 0) (r := 194) hC xo_193 rfl kf_X10_song_7 dX10_song_105 ?_
          refine x_iconst (v := 1) hC dX10_song_108 (by decide) ?_
          refine x_dup2 hC dX10_song_109 rfl rfl ?_
          refine x_iald (len := 239) hC xa_194 h.1 dX10_song_110 ?_
          replace h := h.2
          refine x_iconst (v := 1) hC dX10_song_111 (by decide) ?_
          refine x_iadd hC dX10_song_112 ?_
          refine x_iast (len := 239) hC xa_194 h.1 dX10_song_113 ?_
          replace h := h.2
          refine x_topM (fun N9 qN9 => ?_)
          replace h := h N9 qN9
          refine x_iload (q := 0) hC dX10_song_114 rfl ?_
          exact x_iret hC hr dX10_song_116 h
        · replace h := h.2 q
          refine x_bipush (v := -4) hC dX10_song_44 (by decide) ?_
          exact x_iret hC hr dX10_song_46 h
      · replace h := h.2 q
        refine x_bipush (v := -2) hC dX10_song_30 (by decide) ?_
        exact x_iret hC hr dX10_song_32 h
theorem kf_X10_whyNotWished_7 : x_okf wsX10_whyNotWished RX10 7 10 0 = true := by decide +kernel
def vc_X10_whyNotWished (g : xG) (v1 : Int32) (v2 : Int32) (v3 : Int32) (M : xM) (P : Int32 → xM → Prop) : Prop := (mi_X10_areSingers g v1 v2 M (fun r1 N2 => ((r1 = 0 → P (-1 : Int32) N2) ∧ (¬ (r1 = 0) → (mi_X10_isSong g v3 N2 (fun r3 N4 => ((¬ r3 = 0 → ((¬ v1 = v2 → (vp_in (2 : Int32) 239 ∧ ((¬ (N4 194 ((2 : Int32)).toNatClampNeg) = (20 : Int32) → (mi_X10_keyFor g v1 v2 v3 N4 (fun r5 N6 => ((¬ r5 = (-6 : Int32) → P (0 : Int32) N6) ∧ (r5 = (-6 : Int32) → P (-5 : Int32) N6))))) ∧ ((N4 194 ((2 : Int32)).toNatClampNeg) = (20 : Int32) → P (-4 : Int32) N4)))) ∧ (v1 = v2 → P (-2 : Int32) N4))) ∧ (r3 = 0 → P (-1 : Int32) N4))))))))
set_option maxRecDepth 100000 in
set_option maxHeartbeats 4000000 in
theorem wk_X10_whyNotWished {g : xG} (v1 : Int32) (v2 : Int32) (v3 : Int32) (M : xM) (P : Int32 → xM → Prop) (h0 : vc_X10_whyNotWished g v1 v2 v3 M P ) : mi_X10_whyNotWished g v1 v2 v3 M P := by
  refine x_startI (as := [.ref (x_a g 193), .int v1, .int v2, .int v3]) (cc := cX10_whyNotWished) (n := 4) (ret := (some .int)) (own := RX10) (by decide) rfl rfl (Nat.le_of_ble_eq_true rfl) (fun x hC hr => ?_)
  have h := h0
  unfold vc_X10_whyNotWished at h
  refine x_aload_n (i := 0) (q := 0) hC dX10_whyNotWished_0 rfl rfl ?_
  refine x_iload_n (i := 1) (q := 1) hC dX10_whyNotWished_1 rfl rfl ?_
  refine x_iload_n (i := 2) (q := 2) hC dX10_whyNotWished_2 rfl rfl ?_
  refine x_callVi (q := (RX10, TX10, 12)) (As := [.int v1, .int v2]) hC xo_193 rfl h gX10_whyNotWished_X10_areSingers rfl rfl rfl hy_X10_areSingers ⟨Nat.le_of_ble_eq_true rfl, Nat.le_of_ble_eq_true rfl⟩ rfl (Nat.le_of_ble_eq_true rfl) rfl dX10_whyNotWished_3 (fun r1 N2 h => ?_)
  refine x_if_eq (t := 17) hC dX10_whyNotWished_6 (by decide) (fun q => ?_) (fun q => ?_)
  · replace h := h.1 q
    refine x_iconst (v := -1) hC dX10_whyNotWished_17 (by decide) ?_
    exact x_iret hC hr dX10_whyNotWished_18 h
  · replace h := h.2 q
    refine x_aload_n (i := 0) (q := 0) hC dX10_whyNotWished_9 rfl rfl ?_
    refine x_iload_n (i := 3) (q := 3) hC dX10_whyNotWished_10 rfl rfl ?_
    refine x_callVi (q := (RX10, TX10, 12)) (As := [.int v3]) hC xo_193 rfl h gX10_whyNotWished_X10_isSong rfl rfl rfl hy_X10_isSong ⟨Nat.le_of_ble_eq_true rfl, Nat.le_of_ble_eq_true rfl⟩ rfl (Nat.le_of_ble_eq_true rfl) rfl dX10_whyNotWished_11 (fun r3 N4 h => ?_)
    refine x_if_ne (t := 19) hC dX10_whyNotWished_14 (by decide) (fun q => ?_) (fun q => ?_)
    · replace h := h.1 q
      refine x_iload_n (i := 1) (q := 1) hC dX10_whyNotWished_19 rfl rfl ?_
      refine x_iload_n (i := 2) (q := 2) hC dX10_whyNotWished_20 rfl rfl ?_
      refine x_icmp_ne (t := 27) hC dX10_whyNotWished_21 (by decide) (fun q => ?_) (fun q => ?_)
      · replace h := h.1 q
        refine x_aload_n (i := 0) (q := 0) hC dX10_whyNotWished_27 rfl rfl ?_
        refine x_getr (k := 0) (r := 194) hC xo_193 rfl kf_X10_whyNotWished_7 dX10_whyNotWished_28 ?_
        refine x_iconst (v := 2) hC dX10_whyNotWished_31 (by decide) ?_
        refine x_iald (len := 239) hC xa_194 h.1 dX10_whyNotWished_32 ?_
        replace h := h.2
        refine x_bipush (v := 20) hC dX10_whyNotWished_33 (by decide) ?_
        refine x_icmp_ne (t := 43) hC dX10_whyNotWished_35 (by decide) (fun q => ?_) (fun q => ?_)
        · replace h := h.1 q
          refine x_aload_n (i := 0) (q := 0) hC dX10_whyNotWished_43 rfl rfl ?_
          refine x_iload_n (i := 1) (q := 1) hC dX10_whyNotWished_44 rfl rfl ?_
          refine x_iload_n (i := 2) (q := 2) hC dX10_whyNotWished_45 rfl rfl ?_
          refine x_iload_n (i := 3) (q := 3) hC dX10_whyNotWished_46 rfl rfl ?_
          refine x_callVi (q := (RX10, TX10, 12)) (As := [.int v1, .int v2, .int v3]) hC xo_193 rfl h gX10_whyNotWished_X10_keyFor rfl rfl rfl hy_X10_keyFor ⟨Nat.le_of_ble_eq_true rfl, Nat.le_of_ble_eq_true rfl⟩ rfl (Nat.le_of_ble_eq_true rfl) rfl dX10_whyNotWished_47 (fun r5 N6 h => ?_)
          refine x_bipush (v := -6) hC dX10_whyNotWished_50 (by decide) ?_
          refine x_icmp_ne (t := 60) hC dX10_whyNotWished_52 (by decide) (fun q => ?_) (fun q => ?_)
          · replace h := h.1 q
            refine x_iconst (v := 0) hC dX10_whyNotWished_60 (by decide) ?_
            exact x_iret hC hr dX10_whyNotWished_61 h
          · replace h := h.2 q
            refine x_bipush (v := -5) hC dX10_whyNotWished_55 (by decide) ?_
            refine x_goto (t := 61) hC dX10_whyNotWished_57 (by decide) ?_
            exact x_iret hC hr dX10_whyNotWished_61 h
        · replace h := h.2 q
          refine x_bipush (v := -4) hC dX10_whyNotWished_38 (by decide) ?_
          refine x_goto (t := 61) hC dX10_whyNotWished_40 (by decide) ?_
          exact x_iret hC hr dX10_whyNotWished_61 h
      · replace h := h.2 q
        refine x_bipush (v := -2) hC dX10_whyNotWished_24 (by decide) ?_
        exact x_iret hC hr dX10_whyNotWished_26 h
    · replace h := h.2 q
      refine x_iconst (v := -1) hC dX10_whyNotWished_17 (by decide) ?_
      exact x_iret hC hr dX10_whyNotWished_18 h
theorem kf_X10_wished_7 : x_okf wsX10_wished RX10 7 10 0 = true := by decide +kernel
def vc_X10_wished (g : xG) (v1 : Int32) (v2 : Int32) (v3 : Int32) (M : xM) (P : Int32 → xM → Prop) : Prop := (vp_in (2 : Int32) 239 ∧ (vp_in (((131 : Int32) + ((3 : Int32) * (M 194 ((2 : Int32)).toNatClampNeg))) + (0 : Int32)) 239 ∧ (vp_in (((131 : Int32) + ((3 : Int32) * (M 194 ((2 : Int32)).toNatClampNeg))) + (1 : Int32)) 239 ∧ (∀ N1 : xM, N1 = (x_up (x_up M 194 ((((131 : Int32) + ((3 : Int32) * (M 194 ((2 : Int32)).toNatClampNeg))) + (0 : Int32))).toNatClampNeg v1) 194 ((((131 : Int32) + ((3 : Int32) * (M 194 ((2 : Int32)).toNatClampNeg))) + (1 : Int32))).toNatClampNeg v2) → (vp_in (((131 : Int32) + ((3 : Int32) * (M 194 ((2 : Int32)).toNatClampNeg))) + (2 : Int32)) 239 ∧ (vp_in (2 : Int32) 239 ∧ (vp_in (2 : Int32) 239 ∧ (∀ N2 : xM, N2 = (x_up (x_up N1 194 ((((131 : Int32) + ((3 : Int32) * (M 194 ((2 : Int32)).toNatClampNeg))) + (2 : Int32))).toNatClampNeg v3) 194 ((2 : Int32)).toNatClampNeg (((x_up N1 194 ((((131 : Int32) + ((3 : Int32) * (M 194 ((2 : Int32)).toNatClampNeg))) + (2 : Int32))).toNatClampNeg v3) 194 ((2 : Int32)).toNatClampNeg) + (1 : Int32))) → P (M 194 ((2 : Int32)).toNatClampNeg) N2))))))))
set_option maxRecDepth 100000 in
set_option maxHeartbeats 4000000 in
theorem wk_X10_wished {g : xG} (v1 : Int32) (v2 : Int32) (v3 : Int32) (M : xM) (P : Int32 → xM → Prop) (h0 : vc_X10_wished g v1 v2 v3 M P ) : mi_X10_wished g v1 v2 v3 M P := by
  refine x_startI (as := [.ref (x_a g 193), .int v1, .int v2, .int v3]) (cc := cX10_wished) (n := 5) (ret := (some .int)) (own := RX10) (by decide) rfl rfl (Nat.le_of_ble_eq_true rfl) (fun x hC hr => ?_)
  have h := h0
  unfold vc_X10_wished at h
  refine x_aload_n (i := 0) (q := 0) hC dX10_wished_0 rfl rfl ?_
  refine x_getr (k := 0) (r := 194) hC xo_193 rfl kf_X10_wished_7 dX10_wished_1 ?_
  refine x_iconst (v := 2) hC dX10_wished_4 (by decide) ?_
  refine x_iald (len := 239) hC xa_194 h.1 dX10_wished_5 ?_
  replace h := h.2
  refine x_istore (ls' := [(4, .int (M 194 ((2 : Int32)).toNatClampNeg)), (0, .ref (x_a g 193)), (1, .int v1), (2, .int v2), (3, .int v3)]) hC dX10_wished_6 (by decide) rfl ?_
  refine x_aload_n (i := 0) (q := 1) hC dX10_wished_8 rfl rfl ?_
  refine x_getr (k := 0) (r := 194) hC xo_193 rfl kf_X10_wished_7 dX10_wished_9 ?_
  refine x_sipush (v := 131) hC dX10_wished_12 (by decide) ?_
  refine x_iconst (v := 3) hC dX10_wished_15 (by decide) ?_
  refine x_iload (q := 0) hC dX10_wished_16 rfl ?_
  refine x_imul hC dX10_wished_18 ?_
  refine x_iadd hC dX10_wished_19 ?_
  refine x_iconst (v := 0) hC dX10_wished_20 (by decide) ?_
  refine x_iadd hC dX10_wished_21 ?_
  refine x_iload_n (i := 1) (q := 2) hC dX10_wished_22 rfl rfl ?_
  refine x_iast (len := 239) hC xa_194 h.1 dX10_wished_23 ?_
  replace h := h.2
  refine x_aload_n (i := 0) (q := 1) hC dX10_wished_24 rfl rfl ?_
  refine x_getr (k := 0) (r := 194) hC xo_193 rfl kf_X10_wished_7 dX10_wished_25 ?_
  refine x_sipush (v := 131) hC dX10_wished_28 (by decide) ?_
  refine x_iconst (v := 3) hC dX10_wished_31 (by decide) ?_
  refine x_iload (q := 0) hC dX10_wished_32 rfl ?_
  refine x_imul hC dX10_wished_34 ?_
  refine x_iadd hC dX10_wished_35 ?_
  refine x_iconst (v := 1) hC dX10_wished_36 (by decide) ?_
  refine x_iadd hC dX10_wished_37 ?_
  refine x_iload_n (i := 2) (q := 3) hC dX10_wished_38 rfl rfl ?_
  refine x_iast (len := 239) hC xa_194 h.1 dX10_wished_39 ?_
  replace h := h.2
  refine x_topM (fun N1 qN1 => ?_)
  replace h := h N1 qN1
  refine x_aload_n (i := 0) (q := 1) hC dX10_wished_40 rfl rfl ?_
  refine x_getr (k := 0) (r := 194) hC xo_193 rfl kf_X10_wished_7 dX10_wished_41 ?_
  refine x_sipush (v := 131) hC dX10_wished_44 (by decide) ?_
  refine x_iconst (v := 3) hC dX10_wished_47 (by decide) ?_
  refine x_iload (q := 0) hC dX10_wished_48 rfl ?_
  refine x_imul hC dX10_wished_50 ?_
  refine x_iadd hC dX10_wished_51 ?_
  refine x_iconst (v := 2) hC dX10_wished_52 (by decide) ?_
  refine x_iadd hC dX10_wished_53 ?_
  refine x_iload_n (i := 3) (q := 4) hC dX10_wished_54 rfl rfl ?_
  refine x_iast (len := 239) hC xa_194 h.1 dX10_wished_55 ?_
  replace h := h.2
  refine x_aload_n (i := 0) (q := 1) hC dX10_wished_56 rfl rfl ?_
  refine x_getr (k := 0) (r := 194) hC xo_193 rfl kf_X10_wished_7 dX10_wished_57 ?_
  refine x_iconst (v := 2) hC dX10_wished_60 (by decide) ?_
  refine x_dup2 hC dX10_wished_61 rfl rfl ?_
  refine x_iald (len := 239) hC xa_194 h.1 dX10_wished_62 ?_
  replace h := h.2
  refine x_iconst (v := 1) hC dX10_wished_63 (by decide) ?_
  refine x_iadd hC dX10_wished_64 ?_
  refine x_iast (len := 239) hC xa_194 h.1 dX10_wished_65 ?_
  replace h := h.2
  refine x_topM (fun N2 qN2 => ?_)
  replace h := h N2 qN2
  refine x_iload (q := 0) hC dX10_wished_66 rfl ?_
  exact x_iret hC hr dX10_wished_68 h
theorem kf_X10_takeNumber_130 : x_okf wsX10_takeNumber RX10 130 10 8 = true := by decide +kernel
def vc_X10_takeNumber (g : xG) (v1 : Int32) (M : xM) (P : Int32 → xM → Prop) (K1 : Int32 → Int32 → Int32 → xM → Prop) : Prop := (mi_X10_character g (M 193 8) M (fun r1 N2 => (mi_X10_within g r1 (48 : Int32) (57 : Int32) N2 (fun r3 N4 => K1 v1 (-1 : Int32) r3 N4))))
def vc_X10_takeNumber_1 (g : xG) (v1 : Int32) (v2 : Int32) (v3 : Int32) (M : xM) (P : Int32 → xM → Prop) (K1 : Int32 → Int32 → Int32 → xM → Prop) : Prop := ((v3 = 0 → P v2 M) ∧ (¬ (v3 = 0) → ((0 ≤ v2 → (mi_X10_character g (M 193 8) M (fun r5 N6 => ((((((10 : Int32) * v2) + r5) - (48 : Int32)) ≤ 0 → K1 v1 ((((10 : Int32) * v2) + r5) - (48 : Int32)) (0 : Int32) (x_up N6 193 8 ((N6 193 8) + (1 : Int32)))) ∧ (¬ (((((10 : Int32) * v2) + r5) - (48 : Int32)) ≤ 0) → (mi_X10_character g ((x_up N6 193 8 ((N6 193 8) + (1 : Int32))) 193 8) (x_up N6 193 8 ((N6 193 8) + (1 : Int32))) (fun r7 N8 => (mi_X10_within g r7 (48 : Int32) (57 : Int32) N8 (fun r9 N10 => ((r9 = 0 → K1 v1 ((((10 : Int32) * v2) + r5) - (48 : Int32)) (0 : Int32) N10) ∧ (¬ (r9 = 0) → (mi_X10_character g (N10 193 8) N10 (fun r11 N12 => ((v1 < ((((10 : Int32) * ((((10 : Int32) * v2) + r5) - (48 : Int32))) + r11) - (48 : Int32)) → K1 v1 ((((10 : Int32) * v2) + r5) - (48 : Int32)) (0 : Int32) N12) ∧ (¬ (v1 < ((((10 : Int32) * ((((10 : Int32) * v2) + r5) - (48 : Int32))) + r11) - (48 : Int32))) → K1 v1 ((((10 : Int32) * v2) + r5) - (48 : Int32)) (1 : Int32) N12))))))))))))))) ∧ (¬ (0 ≤ v2) → (mi_X10_character g (M 193 8) M (fun r13 N14 => (((((0 : Int32) + r13) - (48 : Int32)) ≤ 0 → K1 v1 (((0 : Int32) + r13) - (48 : Int32)) (0 : Int32) (x_up N14 193 8 ((N14 193 8) + (1 : Int32)))) ∧ (¬ ((((0 : Int32) + r13) - (48 : Int32)) ≤ 0) → (mi_X10_character g ((x_up N14 193 8 ((N14 193 8) + (1 : Int32))) 193 8) (x_up N14 193 8 ((N14 193 8) + (1 : Int32))) (fun r15 N16 => (mi_X10_within g r15 (48 : Int32) (57 : Int32) N16 (fun r17 N18 => ((r17 = 0 → K1 v1 (((0 : Int32) + r13) - (48 : Int32)) (0 : Int32) N18) ∧ (¬ (r17 = 0) → (mi_X10_character g (N18 193 8) N18 (fun r19 N20 => ((v1 < ((((10 : Int32) * (((0 : Int32) + r13) - (48 : Int32))) + r19) - (48 : Int32)) → K1 v1 (((0 : Int32) + r13) - (48 : Int32)) (0 : Int32) N20) ∧ (¬ (v1 < ((((10 : Int32) * (((0 : Int32) + r13) - (48 : Int32))) + r19) - (48 : Int32))) → K1 v1 (((0 : Int32) + r13) - (48 : Int32)) (1 : Int32) N20))))))))))))))))))
set_option maxRecDepth 100000 in
set_option maxHeartbeats 4000000 in
theorem wk_X10_takeNumber {g : xG} (v1 : Int32) (M : xM) (P : Int32 → xM → Prop) (I1 : Nat → Int32 → Int32 → Int32 → xM → Prop) (h0 : vc_X10_takeNumber g v1 M P (fun v1 v2 v3 N => ∃ k, I1 k v1 v2 v3 N)) (h1 : ∀ (n : Nat) (v1 : Int32) (v2 : Int32) (v3 : Int32) (N : xM), I1 n v1 v2 v3 N → vc_X10_takeNumber_1 g v1 v2 v3 N P (fun v1 v2 v3 N => ∃ k, k < n ∧ I1 k v1 v2 v3 N)) : mi_X10_takeNumber g v1 M P := by
  refine x_startI (as := [.ref (x_a g 193), .int v1]) (cc := cX10_takeNumber) (n := 4) (ret := (some .int)) (own := RX10) (by decide) rfl rfl (Nat.le_of_ble_eq_true rfl) (fun x hC hr => ?_)
  have L : ∀ n : Nat, (∀ (v1 : Int32) (v2 : Int32) (v3 : Int32) (N : xM), I1 n v1 v2 v3 N → x_W x g 4 (x_Qi x g P) N 18 [(0, .ref (x_a g 193)), (1, .int v1), (2, .int v2), (3, .int v3)] []) := by
    intro n
    induction n using Nat.strongRecOn with
    | ind n ih =>
      intro v1 v2 v3 M hI
      have h := h1 n v1 v2 v3 M hI
      unfold vc_X10_takeNumber_1 at h
      refine x_iload_n (i := 3) (q := 3) hC dX10_takeNumber_18 rfl rfl ?_
      refine x_if_eq (t := 108) hC dX10_takeNumber_19 (by decide) (fun q => ?_) (fun q => ?_)
      · replace h := h.1 q
        refine x_iload_n (i := 2) (q := 2) hC dX10_takeNumber_108 rfl rfl ?_
        exact x_iret hC hr dX10_takeNumber_109 h
      · replace h := h.2 q
        refine x_iload_n (i := 2) (q := 2) hC dX10_takeNumber_22 rfl rfl ?_
        refine x_if_ge (t := 30) hC dX10_takeNumber_23 (by decide) (fun q => ?_) (fun q => ?_)
        · replace h := h.1 q
          refine x_bipush (v := 10) hC dX10_takeNumber_30 (by decide) ?_
          refine x_iload_n (i := 2) (q := 2) hC dX10_takeNumber_32 rfl rfl ?_
          refine x_imul hC dX10_takeNumber_33 ?_
          refine x_aload_n (i := 0) (q := 0) hC dX10_takeNumber_34 rfl rfl ?_
          refine x_aload_n (i := 0) (q := 0) hC dX10_takeNumber_35 rfl rfl ?_
          refine x_geti (k := 8) hC xo_193 rfl kf_X10_takeNumber_130 dX10_takeNumber_36 ?_
          refine x_callVi (q := (RX10, TX10, 12)) (As := [.int (M 193 8)]) hC xo_193 rfl h gX10_takeNumber_X10_character rfl rfl rfl hy_X10_character ⟨Nat.le_of_ble_eq_true rfl, Nat.le_of_ble_eq_true rfl⟩ rfl (Nat.le_of_ble_eq_true rfl) rfl dX10_takeNumber_39 (fun r5 N6 h => ?_)
          refine x_iadd hC dX10_takeNumber_42 ?_
          refine x_bipush (v := 48) hC dX10_takeNumber_43 (by decide) ?_
          refine x_isub hC dX10_takeNumber_45 ?_
          refine x_istore_n (i := 2) (ls' := [(2, .int ((((10 : Int32) * v2) + r5) - (48 : Int32))), (0, .ref (x_a g 193)), (1, .int v1), (3, .int v3)]) hC dX10_takeNumber_46 rfl (by decide) rfl ?_
          refine x_aload_n (i := 0) (q := 1) hC dX10_takeNumber_47 rfl rfl ?_
          refine x_dup hC dX10_takeNumber_48 rfl ?_
          refine x_geti (k := 8) hC xo_193 rfl kf_X10_takeNumber_130 dX10_takeNumber_49 ?_
          refine x_iconst (v := 1) hC dX10_takeNumber_52 (by decide) ?_
          refine x_iadd hC dX10_takeNumber_53 ?_
          refine x_puti (k := 8) hC xo_193 rfl kf_X10_takeNumber_130 kp_10_8 dX10_takeNumber_54 ?_
          refine x_iload_n (i := 2) (q := 0) hC dX10_takeNumber_57 rfl rfl ?_
          refine x_if_le (t := 103) hC dX10_takeNumber_58 (by decide) (fun q => ?_) (fun q => ?_)
          · replace h := h.1 q
            refine x_iconst (v := 0) hC dX10_takeNumber_103 (by decide) ?_
            refine x_istore_n (i := 3) (ls' := [(3, .int (0 : Int32)), (2, .int ((((10 : Int32) * v2) + r5) - (48 : Int32))), (0, .ref (x_a g 193)), (1, .int v1)]) hC dX10_takeNumber_104 rfl (by decide) rfl ?_
            refine x_goto (t := 18) hC dX10_takeNumber_105 (by decide) ?_
            obtain ⟨n_1, hn, h⟩ := h
            exact x_sub [2, 3, 1, 0] rfl ((ih n_1 hn) _ _ _ _ h)
          · replace h := h.2 q
            refine x_aload_n (i := 0) (q := 1) hC dX10_takeNumber_61 rfl rfl ?_
            refine x_aload_n (i := 0) (q := 1) hC dX10_takeNumber_62 rfl rfl ?_
            refine x_geti (k := 8) hC xo_193 rfl kf_X10_takeNumber_130 dX10_takeNumber_63 ?_
            refine x_callVi (q := (RX10, TX10, 12)) (As := [.int ((x_up N6 193 8 ((N6 193 8) + (1 : Int32))) 193 8)]) hC xo_193 rfl h gX10_takeNumber_X10_character rfl rfl rfl hy_X10_character ⟨Nat.le_of_ble_eq_true rfl, Nat.le_of_ble_eq_true rfl⟩ rfl (Nat.le_of_ble_eq_true rfl) rfl dX10_takeNumber_66 (fun r7 N8 h => ?_)
            refine x_bipush (v := 48) hC dX10_takeNumber_69 (by decide) ?_
            refine x_bipush (v := 57) hC dX10_takeNumber_71 (by decide) ?_
            refine x_callSi (As := [.int r7, .int (48 : Int32), .int (57 : Int32)]) hC h gX10_takeNumber_X10_within rfl rfl rfl hy_X10_within.2 ⟨Nat.le_of_ble_eq_true rfl, Nat.le_of_ble_eq_true rfl⟩ rfl (Nat.le_of_ble_eq_true rfl) rfl dX10_takeNumber_73 (fun r9 N10 h => ?_)
            refine x_if_eq (t := 103) hC dX10_takeNumber_76 (by decide) (fun q => ?_) (fun q => ?_)
            · replace h := h.1 q
              refine x_iconst (v := 0) hC dX10_takeNumber_103 (by decide) ?_
              refine x_istore_n (i := 3) (ls' := [(3, .int (0 : Int32)), (2, .int ((((10 : Int32) * v2) + r5) - (48 : Int32))), (0, .ref (x_a g 193)), (1, .int v1)]) hC dX10_takeNumber_104 rfl (by decide) rfl ?_
              refine x_goto (t := 18) hC dX10_takeNumber_105 (by decide) ?_
              obtain ⟨n_1, hn, h⟩ := h
              exact x_sub [2, 3, 1, 0] rfl ((ih n_1 hn) _ _ _ _ h)
            · replace h := h.2 q
              refine x_bipush (v := 10) hC dX10_takeNumber_79 (by decide) ?_
              refine x_iload_n (i := 2) (q := 0) hC dX10_takeNumber_81 rfl rfl ?_
              refine x_imul hC dX10_takeNumber_82 ?_
              refine x_aload_n (i := 0) (q := 1) hC dX10_takeNumber_83 rfl rfl ?_
              refine x_aload_n (i := 0) (q := 1) hC dX10_takeNumber_84 rfl rfl ?_
              refine x_geti (k := 8) hC xo_193 rfl kf_X10_takeNumber_130 dX10_takeNumber_85 ?_
              refine x_callVi (q := (RX10, TX10, 12)) (As := [.int (N10 193 8)]) hC xo_193 rfl h gX10_takeNumber_X10_character rfl rfl rfl hy_X10_character ⟨Nat.le_of_ble_eq_true rfl, Nat.le_of_ble_eq_true rfl⟩ rfl (Nat.le_of_ble_eq_true rfl) rfl dX10_takeNumber_88 (fun r11 N12 h => ?_)
              refine x_iadd hC dX10_takeNumber_91 ?_
              refine x_bipush (v := 48) hC dX10_takeNumber_92 (by decide) ?_
              refine x_isub hC dX10_takeNumber_94 ?_
              refine x_iload_n (i := 1) (q := 2) hC dX10_takeNumber_95 rfl rfl ?_
              refine x_icmp_gt (t := 103) hC dX10_takeNumber_96 (by decide) (fun q => ?_) (fun q => ?_)
              · replace h := h.1 q
                refine x_iconst (v := 0) hC dX10_takeNumber_103 (by decide) ?_
                refine x_istore_n (i := 3) (ls' := [(3, .int (0 : Int32)), (2, .int ((((10 : Int32) * v2) + r5) - (48 : Int32))), (0, .ref (x_a g 193)), (1, .int v1)]) hC dX10_takeNumber_104 rfl (by decide) rfl ?_
                refine x_goto (t := 18) hC dX10_takeNumber_105 (by decide) ?_
                obtain ⟨n_1, hn, h⟩ := h
                exact x_sub [2, 3, 1, 0] rfl ((ih n_1 hn) _ _ _ _ h)
              · replace h := h.2 q
                refine x_iconst (v := 1) hC dX10_takeNumber_99 (by decide) ?_
                refine x_goto (t := 104) hC dX10_takeNumber_100 (by decide) ?_
                refine x_istore_n (i := 3) (ls' := [(3, .int (1 : Int32)), (2, .int ((((10 : Int32) * v2) + r5) - (48 : Int32))), (0, .ref (x_a g 193)), (1, .int v1)]) hC dX10_takeNumber_104 rfl (by decide) rfl ?_
                refine x_goto (t := 18) hC dX10_takeNumber_105 (by decide) ?_
                obtain ⟨n_1, hn, h⟩ := h
                exact x_sub [2, 3, 1, 0] rfl ((ih n_1 hn) _ _ _ _ h)
        · replace h := h.2 q
          refine x_iconst (v := 0) hC dX10_takeNumber_26 (by decide) ?_
          refine x_goto (t := 34) hC dX10_takeNumber_27 (by decide) ?_
          refine x_aload_n (i := 0) (q := 0) hC dX10_takeNumber_34 rfl rfl ?_
          refine x_aload_n (i := 0) (q := 0) hC dX10_takeNumber_35 rfl rfl ?_
          refine x_geti (k := 8) hC xo_193 rfl kf_X10_takeNumber_130 dX10_takeNumber_36 ?_
          refine x_callVi (q := (RX10, TX10, 12)) (As := [.int (M 193 8)]) hC xo_193 rfl h gX10_takeNumber_X10_character rfl rfl rfl hy_X10_character ⟨Nat.le_of_ble_eq_true rfl, Nat.le_of_ble_eq_true rfl⟩ rfl (Nat.le_of_ble_eq_true rfl) rfl dX10_takeNumber_39 (fun r13 N14 h => ?_)
          refine x_iadd hC dX10_takeNumber_42 ?_
          refine x_bipush (v := 48) hC dX10_takeNumber_43 (by decide) ?_
          refine x_isub hC dX10_takeNumber_45 ?_
          refine x_istore_n (i := 2) (ls' := [(2, .int (((0 : Int32) + r13) - (48 : Int32))), (0, .ref (x_a g 193)), (1, .int v1), (3, .int v3)]) hC dX10_takeNumber_46 rfl (by decide) rfl ?_
          refine x_aload_n (i := 0) (q := 1) hC dX10_takeNumber_47 rfl rfl ?_
          refine x_dup hC dX10_takeNumber_48 rfl ?_
          refine x_geti (k := 8) hC xo_193 rfl kf_X10_takeNumber_130 dX10_takeNumber_49 ?_
          refine x_iconst (v := 1) hC dX10_takeNumber_52 (by decide) ?_
          refine x_iadd hC dX10_takeNumber_53 ?_
          refine x_puti (k := 8) hC xo_193 rfl kf_X10_takeNumber_130 kp_10_8 dX10_takeNumber_54 ?_
          refine x_iload_n (i := 2) (q := 0) hC dX10_takeNumber_57 rfl rfl ?_
          refine x_if_le (t := 103) hC dX10_takeNumber_58 (by decide) (fun q => ?_) (fun q => ?_)
          · replace h := h.1 q
            refine x_iconst (v := 0) hC dX10_takeNumber_103 (by decide) ?_
            refine x_istore_n (i := 3) (ls' := [(3, .int (0 : Int32)), (2, .int (((0 : Int32) + r13) - (48 : Int32))), (0, .ref (x_a g 193)), (1, .int v1)]) hC dX10_takeNumber_104 rfl (by decide) rfl ?_
            refine x_goto (t := 18) hC dX10_takeNumber_105 (by decide) ?_
            obtain ⟨n_1, hn, h⟩ := h
            exact x_sub [2, 3, 1, 0] rfl ((ih n_1 hn) _ _ _ _ h)
          · replace h := h.2 q
            refine x_aload_n (i := 0) (q := 1) hC dX10_takeNumber_61 rfl rfl ?_
            refine x_aload_n (i := 0) (q := 1) hC dX10_takeNumber_62 rfl rfl ?_
            refine x_geti (k := 8) hC xo_193 rfl kf_X10_takeNumber_130 dX10_takeNumber_63 ?_
            refine x_callVi (q := (RX10, TX10, 12)) (As := [.int ((x_up N14 193 8 ((N14 193 8) + (1 : Int32))) 193 8)]) hC xo_193 rfl h gX10_takeNumber_X10_character rfl rfl rfl hy_X10_character ⟨Nat.le_of_ble_eq_true rfl, Nat.le_of_ble_eq_true rfl⟩ rfl (Nat.le_of_ble_eq_true rfl) rfl dX10_takeNumber_66 (fun r15 N16 h => ?_)
            refine x_bipush (v := 48) hC dX10_takeNumber_69 (by decide) ?_
            refine x_bipush (v := 57) hC dX10_takeNumber_71 (by decide) ?_
            refine x_callSi (As := [.int r15, .int (48 : Int32), .int (57 : Int32)]) hC h gX10_takeNumber_X10_within rfl rfl rfl hy_X10_within.2 ⟨Nat.le_of_ble_eq_true rfl, Nat.le_of_ble_eq_true rfl⟩ rfl (Nat.le_of_ble_eq_true rfl) rfl dX10_takeNumber_73 (fun r17 N18 h => ?_)
            refine x_if_eq (t := 103) hC dX10_takeNumber_76 (by decide) (fun q => ?_) (fun q => ?_)
            · replace h := h.1 q
              refine x_iconst (v := 0) hC dX10_takeNumber_103 (by decide) ?_
              refine x_istore_n (i := 3) (ls' := [(3, .int (0 : Int32)), (2, .int (((0 : Int32) + r13) - (48 : Int32))), (0, .ref (x_a g 193)), (1, .int v1)]) hC dX10_takeNumber_104 rfl (by decide) rfl ?_
              refine x_goto (t := 18) hC dX10_takeNumber_105 (by decide) ?_
              obtain ⟨n_1, hn, h⟩ := h
              exact x_sub [2, 3, 1, 0] rfl ((ih n_1 hn) _ _ _ _ h)
            · replace h := h.2 q
              refine x_bipush (v := 10) hC dX10_takeNumber_79 (by decide) ?_
              refine x_iload_n (i := 2) (q := 0) hC dX10_takeNumber_81 rfl rfl ?_
              refine x_imul hC dX10_takeNumber_82 ?_
              refine x_aload_n (i := 0) (q := 1) hC dX10_takeNumber_83 rfl rfl ?_
              refine x_aload_n (i := 0) (q := 1) hC dX10_takeNumber_84 rfl rfl ?_
              refine x_geti (k := 8) hC xo_193 rfl kf_X10_takeNumber_130 dX10_takeNumber_85 ?_
              refine x_callVi (q := (RX10, TX10, 12)) (As := [.int (N18 193 8)]) hC xo_193 rfl h gX10_takeNumber_X10_character rfl rfl rfl hy_X10_character ⟨Nat.le_of_ble_eq_true rfl, Nat.le_of_ble_eq_true rfl⟩ rfl (Nat.le_of_ble_eq_true rfl) rfl dX10_takeNumber_88 (fun r19 N20 h => ?_)
              refine x_iadd hC dX10_takeNumber_91 ?_
              refine x_bipush (v := 48) hC dX10_takeNumber_92 (by decide) ?_
              refine x_isub hC dX10_takeNumber_94 ?_
              refine x_iload_n (i := 1) (q := 2) hC dX10_takeNumber_95 rfl rfl ?_
              refine x_icmp_gt (t := 103) hC dX10_takeNumber_96 (by decide) (fun q => ?_) (fun q => ?_)
              · replace h := h.1 q
                refine x_iconst (v := 0) hC dX10_takeNumber_103 (by decide) ?_
                refine x_istore_n (i := 3) (ls' := [(3, .int (0 : Int32)), (2, .int (((0 : Int32) + r13) - (48 : Int32))), (0, .ref (x_a g 193)), (1, .int v1)]) hC dX10_takeNumber_104 rfl (by decide) rfl ?_
                refine x_goto (t := 18) hC dX10_takeNumber_105 (by decide) ?_
                obtain ⟨n_1, hn, h⟩ := h
                exact x_sub [2, 3, 1, 0] rfl ((ih n_1 hn) _ _ _ _ h)
              · replace h := h.2 q
                refine x_iconst (v := 1) hC dX10_takeNumber_99 (by decide) ?_
                refine x_goto (t := 104) hC dX10_takeNumber_100 (by decide) ?_
                refine x_istore_n (i := 3) (ls' := [(3, .int (1 : Int32)), (2, .int (((0 : Int32) + r13) - (48 : Int32))), (0, .ref (x_a g 193)), (1, .int v1)]) hC dX10_takeNumber_104 rfl (by decide) rfl ?_
                refine x_goto (t := 18) hC dX10_takeNumber_105 (by decide) ?_
                obtain ⟨n_1, hn, h⟩ := h
                exact x_sub [2, 3, 1, 0] rfl ((ih n_1 hn) _ _ _ _ h)
  have h := h0
  unfold vc_X10_takeNumber at h
  refine x_iconst (v := -1) hC dX10_takeNumber_0 (by decide) ?_
  refine x_istore_n (i := 2) (ls' := [(2, .int (-1 : Int32)), (0, .ref (x_a g 193)), (1, .int v1)]) hC dX10_takeNumber_1 rfl (by decide) rfl ?_
  refine x_aload_n (i := 0) (q := 1) hC dX10_takeNumber_2 rfl rfl ?_
  refine x_aload_n (i := 0) (q := 1) hC dX10_takeNumber_3 rfl rfl ?_
  refine x_geti (k := 8) hC xo_193 rfl kf_X10_takeNumber_130 dX10_takeNumber_4 ?_
  refine x_callVi (q := (RX10, TX10, 12)) (As := [.int (M 193 8)]) hC xo_193 rfl h gX10_takeNumber_X10_character rfl rfl rfl hy_X10_character ⟨Nat.le_of_ble_eq_true rfl, Nat.le_of_ble_eq_true rfl⟩ rfl (Nat.le_of_ble_eq_true rfl) rfl dX10_takeNumber_7 (fun r1 N2 h => ?_)
  refine x_bipush (v := 48) hC dX10_takeNumber_10 (by decide) ?_
  refine x_bipush (v := 57) hC dX10_takeNumber_12 (by decide) ?_
  refine x_callSi (As := [.int r1, .int (48 : Int32), .int (57 : Int32)]) hC h gX10_takeNumber_X10_within rfl rfl rfl hy_X10_within.2 ⟨Nat.le_of_ble_eq_true rfl, Nat.le_of_ble_eq_true rfl⟩ rfl (Nat.le_of_ble_eq_true rfl) rfl dX10_takeNumber_14 (fun r3 N4 h => ?_)
  refine x_istore_n (i := 3) (ls' := [(3, .int r3), (2, .int (-1 : Int32)), (0, .ref (x_a g 193)), (1, .int v1)]) hC dX10_takeNumber_17 rfl (by decide) rfl ?_
  obtain ⟨n_1, h⟩ := h
  exact x_sub [2, 3, 1, 0] rfl ((L n_1) _ _ _ _ h)
theorem kf_X10_readsWish_140 : x_okf wsX10_readsWish RX10 140 10 9 = true := by decide +kernel
theorem kf_X10_readsWish_143 : x_okf wsX10_readsWish RX10 143 10 10 = true := by decide +kernel
theorem kf_X10_readsWish_146 : x_okf wsX10_readsWish RX10 146 10 11 = true := by decide +kernel
def vc_X10_readsWish (g : xG) (M : xM) (P : Int32 → xM → Prop) : Prop := (mi_X10_takeNumber g (11 : Int32) M (fun r1 N2 => ((((x_up N2 193 9 r1) 193 9) < 0 → ((((x_up (x_up N2 193 9 r1) 193 10 (-6 : Int32)) 193 9) < 0 → P (0 : Int32) (x_up (x_up N2 193 9 r1) 193 10 (-6 : Int32))) ∧ (¬ (((x_up (x_up N2 193 9 r1) 193 10 (-6 : Int32)) 193 9) < 0) → ((¬ ((x_up (x_up N2 193 9 r1) 193 10 (-6 : Int32)) 193 10) = (-1 : Int32) → (mi_X10_isNext g (58 : Int32) (x_up (x_up N2 193 9 r1) 193 10 (-6 : Int32)) (fun r3 N4 => ((r3 = 0 → ((((x_up N4 193 11 (-1 : Int32)) 193 11) < 0 → P (0 : Int32) (x_up N4 193 11 (-1 : Int32))) ∧ (¬ (((x_up N4 193 11 (-1 : Int32)) 193 11) < 0) → P (1 : Int32) (x_up N4 193 11 (-1 : Int32))))) ∧ (¬ (r3 = 0) → (mi_X10_takeNumber g (15 : Int32) N4 (fun r5 N6 => ((((x_up N6 193 11 r5) 193 11) < 0 → P (0 : Int32) (x_up N6 193 11 r5)) ∧ (¬ (((x_up N6 193 11 r5) 193 11) < 0) → P (1 : Int32) (x_up N6 193 11 r5)))))))))) ∧ (((x_up (x_up N2 193 9 r1) 193 10 (-6 : Int32)) 193 10) = (-1 : Int32) → P (0 : Int32) (x_up (x_up N2 193 9 r1) 193 10 (-6 : Int32))))))) ∧ (¬ (((x_up N2 193 9 r1) 193 9) < 0) → (mi_X10_isNext g (43 : Int32) (x_up N2 193 9 r1) (fun r7 N8 => ((r7 = 0 → ((((x_up N8 193 10 (-6 : Int32)) 193 9) < 0 → P (0 : Int32) (x_up N8 193 10 (-6 : Int32))) ∧ (¬ (((x_up N8 193 10 (-6 : Int32)) 193 9) < 0) → ((¬ ((x_up N8 193 10 (-6 : Int32)) 193 10) = (-1 : Int32) → (mi_X10_isNext g (58 : Int32) (x_up N8 193 10 (-6 : Int32)) (fun r9 N10 => ((r9 = 0 → ((((x_up N10 193 11 (-1 : Int32)) 193 11) < 0 → P (0 : Int32) (x_up N10 193 11 (-1 : Int32))) ∧ (¬ (((x_up N10 193 11 (-1 : Int32)) 193 11) < 0) → P (1 : Int32) (x_up N10 193 11 (-1 : Int32))))) ∧ (¬ (r9 = 0) → (mi_X10_takeNumber g (15 : Int32) N10 (fun r11 N12 => ((((x_up N12 193 11 r11) 193 11) < 0 → P (0 : Int32) (x_up N12 193 11 r11)) ∧ (¬ (((x_up N12 193 11 r11) 193 11) < 0) → P (1 : Int32) (x_up N12 193 11 r11)))))))))) ∧ (((x_up N8 193 10 (-6 : Int32)) 193 10) = (-1 : Int32) → P (0 : Int32) (x_up N8 193 10 (-6 : Int32))))))) ∧ (¬ (r7 = 0) → (mi_X10_takeNumber g (11 : Int32) N8 (fun r13 N14 => ((((x_up N14 193 10 r13) 193 9) < 0 → P (0 : Int32) (x_up N14 193 10 r13)) ∧ (¬ (((x_up N14 193 10 r13) 193 9) < 0) → ((¬ ((x_up N14 193 10 r13) 193 10) = (-1 : Int32) → (mi_X10_isNext g (58 : Int32) (x_up N14 193 10 r13) (fun r15 N16 => ((r15 = 0 → ((((x_up N16 193 11 (-1 : Int32)) 193 11) < 0 → P (0 : Int32) (x_up N16 193 11 (-1 : Int32))) ∧ (¬ (((x_up N16 193 11 (-1 : Int32)) 193 11) < 0) → P (1 : Int32) (x_up N16 193 11 (-1 : Int32))))) ∧ (¬ (r15 = 0) → (mi_X10_takeNumber g (15 : Int32) N16 (fun r17 N18 => ((((x_up N18 193 11 r17) 193 11) < 0 → P (0 : Int32) (x_up N18 193 11 r17)) ∧ (¬ (((x_up N18 193 11 r17) 193 11) < 0) → P (1 : Int32) (x_up N18 193 11 r17)))))))))) ∧ (((x_up N14 193 10 r13) 193 10) = (-1 : Int32) → P (0 : Int32) (x_up N14 193 10 r13)))))))))))))))
set_option maxRecDepth 100000 in
set_option maxHeartbeats 4000000 in
theorem wk_X10_readsWish {g : xG}  (M : xM) (P : Int32 → xM → Prop) (h0 : vc_X10_readsWish g M P ) : mi_X10_readsWish g M P := by
  refine x_startI (as := [.ref (x_a g 193)]) (cc := cX10_readsWish) (n := 1) (ret := (some .boolean)) (own := RX10) (by decide) rfl rfl (Nat.le_of_ble_eq_true rfl) (fun x hC hr => ?_)
  have h := h0
  unfold vc_X10_readsWish at h
  refine x_aload_n (i := 0) (q := 0) hC dX10_readsWish_0 rfl rfl ?_
  refine x_aload_n (i := 0) (q := 0) hC dX10_readsWish_1 rfl rfl ?_
  refine x_bipush (v := 11) hC dX10_readsWish_2 (by decide) ?_
  refine x_callVi (q := (RX10, TX10, 12)) (As := [.int (11 : Int32)]) hC xo_193 rfl h gX10_readsWish_X10_takeNumber rfl rfl rfl hy_X10_takeNumber ⟨Nat.le_of_ble_eq_true rfl, Nat.le_of_ble_eq_true rfl⟩ rfl (Nat.le_of_ble_eq_true rfl) rfl dX10_readsWish_4 (fun r1 N2 h => ?_)
  refine x_puti (k := 9) hC xo_193 rfl kf_X10_readsWish_140 kp_10_9 dX10_readsWish_7 ?_
  refine x_aload_n (i := 0) (q := 0) hC dX10_readsWish_10 rfl rfl ?_
  refine x_aload_n (i := 0) (q := 0) hC dX10_readsWish_11 rfl rfl ?_
  refine x_geti (k := 9) hC xo_193 rfl kf_X10_readsWish_140 dX10_readsWish_12 ?_
  refine x_if_lt (t := 36) hC dX10_readsWish_15 (by decide) (fun q => ?_) (fun q => ?_)
  · replace h := h.1 q
    refine x_bipush (v := -6) hC dX10_readsWish_36 (by decide) ?_
    refine x_puti (k := 10) hC xo_193 rfl kf_X10_readsWish_143 kp_10_10 dX10_readsWish_38 ?_
    refine x_aload_n (i := 0) (q := 0) hC dX10_readsWish_41 rfl rfl ?_
    refine x_geti (k := 9) hC xo_193 rfl kf_X10_readsWish_140 dX10_readsWish_42 ?_
    refine x_if_lt (t := 56) hC dX10_readsWish_45 (by decide) (fun q => ?_) (fun q => ?_)
    · replace h := h.1 q
      refine x_iconst (v := 0) hC dX10_readsWish_56 (by decide) ?_
      exact x_zret hC hr dX10_readsWish_57 rfl h
    · replace h := h.2 q
      refine x_aload_n (i := 0) (q := 0) hC dX10_readsWish_48 rfl rfl ?_
      refine x_geti (k := 10) hC xo_193 rfl kf_X10_readsWish_143 dX10_readsWish_49 ?_
      refine x_iconst (v := -1) hC dX10_readsWish_52 (by decide) ?_
      refine x_icmp_ne (t := 58) hC dX10_readsWish_53 (by decide) (fun q => ?_) (fun q => ?_)
      · replace h := h.1 q
        refine x_aload_n (i := 0) (q := 0) hC dX10_readsWish_58 rfl rfl ?_
        refine x_aload_n (i := 0) (q := 0) hC dX10_readsWish_59 rfl rfl ?_
        refine x_bipush (v := 58) hC dX10_readsWish_60 (by decide) ?_
        refine x_callVi (q := (RX10, TX10, 12)) (As := [.int (58 : Int32)]) hC xo_193 rfl h gX10_readsWish_X10_isNext rfl rfl rfl hy_X10_isNext ⟨Nat.le_of_ble_eq_true rfl, Nat.le_of_ble_eq_true rfl⟩ rfl (Nat.le_of_ble_eq_true rfl) rfl dX10_readsWish_62 (fun r3 N4 h => ?_)
        refine x_if_eq (t := 77) hC dX10_readsWish_65 (by decide) (fun q => ?_) (fun q => ?_)
        · replace h := h.1 q
          refine x_iconst (v := -1) hC dX10_readsWish_77 (by decide) ?_
          refine x_puti (k := 11) hC xo_193 rfl kf_X10_readsWish_146 kp_10_11 dX10_readsWish_78 ?_
          refine x_aload_n (i := 0) (q := 0) hC dX10_readsWish_81 rfl rfl ?_
          refine x_geti (k := 11) hC xo_193 rfl kf_X10_readsWish_146 dX10_readsWish_82 ?_
          refine x_if_lt (t := 92) hC dX10_readsWish_85 (by decide) (fun q => ?_) (fun q => ?_)
          · replace h := h.1 q
            refine x_iconst (v := 0) hC dX10_readsWish_92 (by decide) ?_
            exact x_zret hC hr dX10_readsWish_93 rfl h
          · replace h := h.2 q
            refine x_iconst (v := 1) hC dX10_readsWish_88 (by decide) ?_
            refine x_goto (t := 93) hC dX10_readsWish_89 (by decide) ?_
            exact x_zret hC hr dX10_readsWish_93 rfl h
        · replace h := h.2 q
          refine x_aload_n (i := 0) (q := 0) hC dX10_readsWish_68 rfl rfl ?_
          refine x_bipush (v := 15) hC dX10_readsWish_69 (by decide) ?_
          refine x_callVi (q := (RX10, TX10, 12)) (As := [.int (15 : Int32)]) hC xo_193 rfl h gX10_readsWish_X10_takeNumber rfl rfl rfl hy_X10_takeNumber ⟨Nat.le_of_ble_eq_true rfl, Nat.le_of_ble_eq_true rfl⟩ rfl (Nat.le_of_ble_eq_true rfl) rfl dX10_readsWish_71 (fun r5 N6 h => ?_)
          refine x_goto (t := 78) hC dX10_readsWish_74 (by decide) ?_
          refine x_puti (k := 11) hC xo_193 rfl kf_X10_readsWish_146 kp_10_11 dX10_readsWish_78 ?_
          refine x_aload_n (i := 0) (q := 0) hC dX10_readsWish_81 rfl rfl ?_
          refine x_geti (k := 11) hC xo_193 rfl kf_X10_readsWish_146 dX10_readsWish_82 ?_
          refine x_if_lt (t := 92) hC dX10_readsWish_85 (by decide) (fun q => ?_) (fun q => ?_)
          · replace h := h.1 q
            refine x_iconst (v := 0) hC dX10_readsWish_92 (by decide) ?_
            exact x_zret hC hr dX10_readsWish_93 rfl h
          · replace h := h.2 q
            refine x_iconst (v := 1) hC dX10_readsWish_88 (by decide) ?_
            refine x_goto (t := 93) hC dX10_readsWish_89 (by decide) ?_
            exact x_zret hC hr dX10_readsWish_93 rfl h
      · replace h := h.2 q
        refine x_iconst (v := 0) hC dX10_readsWish_56 (by decide) ?_
        exact x_zret hC hr dX10_readsWish_57 rfl h
  · replace h := h.2 q
    refine x_aload_n (i := 0) (q := 0) hC dX10_readsWish_18 rfl rfl ?_
    refine x_bipush (v := 43) hC dX10_readsWish_19 (by decide) ?_
    refine x_callVi (q := (RX10, TX10, 12)) (As := [.int (43 : Int32)]) hC xo_193 rfl h gX10_readsWish_X10_isNext rfl rfl rfl hy_X10_isNext ⟨Nat.le_of_ble_eq_true rfl, Nat.le_of_ble_eq_true rfl⟩ rfl (Nat.le_of_ble_eq_true rfl) rfl dX10_readsWish_21 (fun r7 N8 h => ?_)
    refine x_if_eq (t := 36) hC dX10_readsWish_24 (by decide) (fun q => ?_) (fun q => ?_)
    · replace h := h.1 q
      refine x_bipush (v := -6) hC dX10_readsWish_36 (by decide) ?_
      refine x_puti (k := 10) hC xo_193 rfl kf_X10_readsWish_143 kp_10_10 dX10_readsWish_38 ?_
      refine x_aload_n (i := 0) (q := 0) hC dX10_readsWish_41 rfl rfl ?_
      refine x_geti (k := 9) hC xo_193 rfl kf_X10_readsWish_140 dX10_readsWish_42 ?_
      refine x_if_lt (t := 56) hC dX10_readsWish_45 (by decide) (fun q => ?_) (fun q => ?_)
      · replace h := h.1 q
        refine x_iconst (v := 0) hC dX10_readsWish_56 (by decide) ?_
        exact x_zret hC hr dX10_readsWish_57 rfl h
      · replace h := h.2 q
        refine x_aload_n (i := 0) (q := 0) hC dX10_readsWish_48 rfl rfl ?_
        refine x_geti (k := 10) hC xo_193 rfl kf_X10_readsWish_143 dX10_readsWish_49 ?_
        refine x_iconst (v := -1) hC dX10_readsWish_52 (by decide) ?_
        refine x_icmp_ne (t := 58) hC dX10_readsWish_53 (by decide) (fun q => ?_) (fun q => ?_)
        · replace h := h.1 q
          refine x_aload_n (i := 0) (q := 0) hC dX10_readsWish_58 rfl rfl ?_
          refine x_aload_n (i := 0) (q := 0) hC dX10_readsWish_59 rfl rfl ?_
          refine x_bipush (v := 58) hC dX10_readsWish_60 (by decide) ?_
          refine x_callVi (q := (RX10, TX10, 12)) (As := [.int (58 : Int32)]) hC xo_193 rfl h gX10_readsWish_X10_isNext rfl rfl rfl hy_X10_isNext ⟨Nat.le_of_ble_eq_true rfl, Nat.le_of_ble_eq_true rfl⟩ rfl (Nat.le_of_ble_eq_true rfl) rfl dX10_readsWish_62 (fun r9 N10 h => ?_)
          refine x_if_eq (t := 77) hC dX10_readsWish_65 (by decide) (fun q => ?_) (fun q => ?_)
          · replace h := h.1 q
            refine x_iconst (v := -1) hC dX10_readsWish_77 (by decide) ?_
            refine x_puti (k := 11) hC xo_193 rfl kf_X10_readsWish_146 kp_10_11 dX10_readsWish_78 ?_
            refine x_aload_n (i := 0) (q := 0) hC dX10_readsWish_81 rfl rfl ?_
            refine x_geti (k := 11) hC xo_193 rfl kf_X10_readsWish_146 dX10_readsWish_82 ?_
            refine x_if_lt (t := 92) hC dX10_readsWish_85 (by decide) (fun q => ?_) (fun q => ?_)
            · replace h := h.1 q
              refine x_iconst (v := 0) hC dX10_readsWish_92 (by decide) ?_
              exact x_zret hC hr dX10_readsWish_93 rfl h
            · replace h := h.2 q
              refine x_iconst (v := 1) hC dX10_readsWish_88 (by decide) ?_
              refine x_goto (t := 93) hC dX10_readsWish_89 (by decide) ?_
              exact x_zret hC hr dX10_readsWish_93 rfl h
          · replace h := h.2 q
            refine x_aload_n (i := 0) (q := 0) hC dX10_readsWish_68 rfl rfl ?_
            refine x_bipush (v := 15) hC dX10_readsWish_69 (by decide) ?_
            refine x_callVi (q := (RX10, TX10, 12)) (As := [.int (15 : Int32)]) hC xo_193 rfl h gX10_readsWish_X10_takeNumber rfl rfl rfl hy_X10_takeNumber ⟨Nat.le_of_ble_eq_true rfl, Nat.le_of_ble_eq_true rfl⟩ rfl (Nat.le_of_ble_eq_true rfl) rfl dX10_readsWish_71 (fun r11 N12 h => ?_)
            refine x_goto (t := 78) hC dX10_readsWish_74 (by decide) ?_
            refine x_puti (k := 11) hC xo_193 rfl kf_X10_readsWish_146 kp_10_11 dX10_readsWish_78 ?_
            refine x_aload_n (i := 0) (q := 0) hC dX10_readsWish_81 rfl rfl ?_
            refine x_geti (k := 11) hC xo_193 rfl kf_X10_readsWish_146 dX10_readsWish_82 ?_
            refine x_if_lt (t := 92) hC dX10_readsWish_85 (by decide) (fun q => ?_) (fun q => ?_)
            · replace h := h.1 q
              refine x_iconst (v := 0) hC dX10_readsWish_92 (by decide) ?_
              exact x_zret hC hr dX10_readsWish_93 rfl h
            · replace h := h.2 q
              refine x_iconst (v := 1) hC dX10_readsWish_88 (by decide) ?_
              refine x_goto (t := 93) hC dX10_readsWish_89 (by decide) ?_
              exact x_zret hC hr dX10_readsWish_93 rfl h
        · replace h := h.2 q
          refine x_iconst (v := 0) hC dX10_readsWish_56 (by decide) ?_
          exact x_zret hC hr dX10_readsWish_57 rfl h
    · replace h := h.2 q
      refine x_aload_n (i := 0) (q := 0) hC dX10_readsWish_27 rfl rfl ?_
      refine x_bipush (v := 11) hC dX10_readsWish_28 (by decide) ?_
      refine x_callVi (q := (RX10, TX10, 12)) (As := [.int (11 : Int32)]) hC xo_193 rfl h gX10_readsWish_X10_takeNumber rfl rfl rfl hy_X10_takeNumber ⟨Nat.le_of_ble_eq_true rfl, Nat.le_of_ble_eq_true rfl⟩ rfl (Nat.le_of_ble_eq_true rfl) rfl dX10_readsWish_30 (fun r13 N14 h => ?_)
      refine x_goto (t := 38) hC dX10_readsWish_33 (by decide) ?_
      refine x_puti (k := 10) hC xo_193 rfl kf_X10_readsWish_143 kp_10_10 dX10_readsWish_38 ?_
      refine x_aload_n (i := 0) (q := 0) hC dX10_readsWish_41 rfl rfl ?_
      refine x_geti (k := 9) hC xo_193 rfl kf_X10_readsWish_140 dX10_readsWish_42 ?_
      refine x_if_lt (t := 56) hC dX10_readsWish_45 (by decide) (fun q => ?_) (fun q => ?_)
      · replace h := h.1 q
        refine x_iconst (v := 0) hC dX10_readsWish_56 (by decide) ?_
        exact x_zret hC hr dX10_readsWish_57 rfl h
      · replace h := h.2 q
        refine x_aload_n (i := 0) (q := 0) hC dX10_readsWish_48 rfl rfl ?_
        refine x_geti (k := 10) hC xo_193 rfl kf_X10_readsWish_143 dX10_readsWish_49 ?_
        refine x_iconst (v := -1) hC dX10_readsWish_52 (by decide) ?_
        refine x_icmp_ne (t := 58) hC dX10_readsWish_53 (by decide) (fun q => ?_) (fun q => ?_)
        · replace h := h.1 q
          refine x_aload_n (i := 0) (q := 0) hC dX10_readsWish_58 rfl rfl ?_
          refine x_aload_n (i := 0) (q := 0) hC dX10_readsWish_59 rfl rfl ?_
          refine x_bipush (v := 58) hC dX10_readsWish_60 (by decide) ?_
          refine x_callVi (q := (RX10, TX10, 12)) (As := [.int (58 : Int32)]) hC xo_193 rfl h gX10_readsWish_X10_isNext rfl rfl rfl hy_X10_isNext ⟨Nat.le_of_ble_eq_true rfl, Nat.le_of_ble_eq_true rfl⟩ rfl (Nat.le_of_ble_eq_true rfl) rfl dX10_readsWish_62 (fun r15 N16 h => ?_)
          refine x_if_eq (t := 77) hC dX10_readsWish_65 (by decide) (fun q => ?_) (fun q => ?_)
          · replace h := h.1 q
            refine x_iconst (v := -1) hC dX10_readsWish_77 (by decide) ?_
            refine x_puti (k := 11) hC xo_193 rfl kf_X10_readsWish_146 kp_10_11 dX10_readsWish_78 ?_
            refine x_aload_n (i := 0) (q := 0) hC dX10_readsWish_81 rfl rfl ?_
            refine x_geti (k := 11) hC xo_193 rfl kf_X10_readsWish_146 dX10_readsWish_82 ?_
            refine x_if_lt (t := 92) hC dX10_readsWish_85 (by decide) (fun q => ?_) (fun q => ?_)
            · replace h := h.1 q
              refine x_iconst (v := 0) hC dX10_readsWish_92 (by decide) ?_
              exact x_zret hC hr dX10_readsWish_93 rfl h
            · replace h := h.2 q
              refine x_iconst (v := 1) hC dX10_readsWish_88 (by decide) ?_
              refine x_goto (t := 93) hC dX10_readsWish_89 (by decide) ?_
              exact x_zret hC hr dX10_readsWish_93 rfl h
          · replace h := h.2 q
            refine x_aload_n (i := 0) (q := 0) hC dX10_readsWish_68 rfl rfl ?_
            refine x_bipush (v := 15) hC dX10_readsWish_69 (by decide) ?_
            refine x_callVi (q := (RX10, TX10, 12)) (As := [.int (15 : Int32)]) hC xo_193 rfl h gX10_readsWish_X10_takeNumber rfl rfl rfl hy_X10_takeNumber ⟨Nat.le_of_ble_eq_true rfl, Nat.le_of_ble_eq_true rfl⟩ rfl (Nat.le_of_ble_eq_true rfl) rfl dX10_readsWish_71 (fun r17 N18 h => ?_)
            refine x_goto (t := 78) hC dX10_readsWish_74 (by decide) ?_
            refine x_puti (k := 11) hC xo_193 rfl kf_X10_readsWish_146 kp_10_11 dX10_readsWish_78 ?_
            refine x_aload_n (i := 0) (q := 0) hC dX10_readsWish_81 rfl rfl ?_
            refine x_geti (k := 11) hC xo_193 rfl kf_X10_readsWish_146 dX10_readsWish_82 ?_
            refine x_if_lt (t := 92) hC dX10_readsWish_85 (by decide) (fun q => ?_) (fun q => ?_)
            · replace h := h.1 q
              refine x_iconst (v := 0) hC dX10_readsWish_92 (by decide) ?_
              exact x_zret hC hr dX10_readsWish_93 rfl h
            · replace h := h.2 q
              refine x_iconst (v := 1) hC dX10_readsWish_88 (by decide) ?_
              refine x_goto (t := 93) hC dX10_readsWish_89 (by decide) ?_
              exact x_zret hC hr dX10_readsWish_93 rfl h
        · replace h := h.2 q
          refine x_iconst (v := 0) hC dX10_readsWish_56 (by decide) ?_
          exact x_zret hC hr dX10_readsWish_57 rfl h
theorem kf_X10_makeAll_130 : x_okf wsX10_makeAll RX10 130 10 8 = true := by decide +kernel
theorem kf_X10_makeAll_127 : x_okf wsX10_makeAll RX10 127 10 7 = true := by decide +kernel
theorem kf_X10_makeAll_140 : x_okf wsX10_makeAll RX10 140 10 9 = true := by decide +kernel
theorem kf_X10_makeAll_143 : x_okf wsX10_makeAll RX10 143 10 10 = true := by decide +kernel
theorem kf_X10_makeAll_146 : x_okf wsX10_makeAll RX10 146 10 11 = true := by decide +kernel
def vc_X10_makeAll (g : xG) (M : xM) (P : Int32 → xM → Prop) (K1 : Int32 → xM → Prop) : Prop := K1 (0 : Int32) (x_up M 193 8 (0 : Int32))
def vc_X10_makeAll_1 (g : xG) (v1 : Int32) (M : xM) (P : Int32 → xM → Prop) (K1 : Int32 → xM → Prop) : Prop := (((M 193 7) ≤ (M 193 8) → P v1 M) ∧ (¬ ((M 193 7) ≤ (M 193 8)) → ((¬ v1 = 0 → P v1 M) ∧ (v1 = 0 → (mi_X10_readsWish g M (fun r1 N2 => (mi_X10_isNext g (59 : Int32) N2 (fun r3 N4 => (mi_X10_whyNotWished g (N4 193 9) (N4 193 10) (N4 193 11) N4 (fun r5 N6 => ((¬ r5 = 0 → K1 r5 N6) ∧ (r5 = 0 → (mi_X10_wished g (N6 193 9) (N6 193 10) (N6 193 11) N6 (fun r7 N8 => K1 r5 N8))))))))))))))
set_option maxRecDepth 100000 in
set_option maxHeartbeats 4000000 in
theorem wk_X10_makeAll {g : xG}  (M : xM) (P : Int32 → xM → Prop) (I1 : Nat → Int32 → xM → Prop) (h0 : vc_X10_makeAll g M P (fun v1 N => ∃ k, I1 k v1 N)) (h1 : ∀ (n : Nat) (v1 : Int32) (N : xM), I1 n v1 N → vc_X10_makeAll_1 g v1 N P (fun v1 N => ∃ k, k < n ∧ I1 k v1 N)) : mi_X10_makeAll g M P := by
  refine x_startI (as := [.ref (x_a g 193)]) (cc := cX10_makeAll) (n := 2) (ret := (some .int)) (own := RX10) (by decide) rfl rfl (Nat.le_of_ble_eq_true rfl) (fun x hC hr => ?_)
  have L : ∀ n : Nat, (∀ (v1 : Int32) (N : xM), I1 n v1 N → x_W x g 2 (x_Qi x g P) N 7 [(0, .ref (x_a g 193)), (1, .int v1)] []) := by
    intro n
    induction n using Nat.strongRecOn with
    | ind n ih =>
      intro v1 M hI
      have h := h1 n v1 M hI
      unfold vc_X10_makeAll_1 at h
      refine x_aload_n (i := 0) (q := 0) hC dX10_makeAll_7 rfl rfl ?_
      refine x_geti (k := 8) hC xo_193 rfl kf_X10_makeAll_130 dX10_makeAll_8 ?_
      refine x_aload_n (i := 0) (q := 0) hC dX10_makeAll_11 rfl rfl ?_
      refine x_geti (k := 7) hC xo_193 rfl kf_X10_makeAll_127 dX10_makeAll_12 ?_
      refine x_icmp_ge (t := 75) hC dX10_makeAll_15 (by decide) (fun q => ?_) (fun q => ?_)
      · replace h := h.1 q
        refine x_iload_n (i := 1) (q := 1) hC dX10_makeAll_75 rfl rfl ?_
        exact x_iret hC hr dX10_makeAll_76 h
      · replace h := h.2 q
        refine x_iload_n (i := 1) (q := 1) hC dX10_makeAll_18 rfl rfl ?_
        refine x_if_ne (t := 75) hC dX10_makeAll_19 (by decide) (fun q => ?_) (fun q => ?_)
        · replace h := h.1 q
          refine x_iload_n (i := 1) (q := 1) hC dX10_makeAll_75 rfl rfl ?_
          exact x_iret hC hr dX10_makeAll_76 h
        · replace h := h.2 q
          refine x_aload_n (i := 0) (q := 0) hC dX10_makeAll_22 rfl rfl ?_
          refine x_callVi (q := (RX10, TX10, 12)) (As := []) hC xo_193 rfl h gX10_makeAll_X10_readsWish rfl rfl rfl hy_X10_readsWish ⟨Nat.le_of_ble_eq_true rfl, Nat.le_of_ble_eq_true rfl⟩ rfl (Nat.le_of_ble_eq_true rfl) rfl dX10_makeAll_23 (fun r1 N2 h => ?_)
          refine x_pop hC dX10_makeAll_26 rfl ?_
          refine x_aload_n (i := 0) (q := 0) hC dX10_makeAll_27 rfl rfl ?_
          refine x_bipush (v := 59) hC dX10_makeAll_28 (by decide) ?_
          refine x_callVi (q := (RX10, TX10, 12)) (As := [.int (59 : Int32)]) hC xo_193 rfl h gX10_makeAll_X10_isNext rfl rfl rfl hy_X10_isNext ⟨Nat.le_of_ble_eq_true rfl, Nat.le_of_ble_eq_true rfl⟩ rfl (Nat.le_of_ble_eq_true rfl) rfl dX10_makeAll_30 (fun r3 N4 h => ?_)
          refine x_pop hC dX10_makeAll_33 rfl ?_
          refine x_aload_n (i := 0) (q := 0) hC dX10_makeAll_34 rfl rfl ?_
          refine x_aload_n (i := 0) (q := 0) hC dX10_makeAll_35 rfl rfl ?_
          refine x_geti (k := 9) hC xo_193 rfl kf_X10_makeAll_140 dX10_makeAll_36 ?_
          refine x_aload_n (i := 0) (q := 0) hC dX10_makeAll_39 rfl rfl ?_
          refine x_geti (k := 10) hC xo_193 rfl kf_X10_makeAll_143 dX10_makeAll_40 ?_
          refine x_aload_n (i := 0) (q := 0) hC dX10_makeAll_43 rfl rfl ?_
          refine x_geti (k := 11) hC xo_193 rfl kf_X10_makeAll_146 dX10_makeAll_44 ?_
          refine x_callVi (q := (RX10, TX10, 12)) (As := [.int (N4 193 9), .int (N4 193 10), .int (N4 193 11)]) hC xo_193 rfl h gX10_makeAll_X10_whyNotWished rfl rfl rfl hy_X10_whyNotWished ⟨Nat.le_of_ble_eq_true rfl, Nat.le_of_ble_eq_true rfl⟩ rfl (Nat.le_of_ble_eq_true rfl) rfl dX10_makeAll_47 (fun r5 N6 h => ?_)
          refine x_istore_n (i := 1) (ls' := [(1, .int r5), (0, .ref (x_a g 193))]) hC dX10_makeAll_50 rfl (by decide) rfl ?_
          refine x_iload_n (i := 1) (q := 0) hC dX10_makeAll_51 rfl rfl ?_
          refine x_if_ne (t := 7) hC dX10_makeAll_52 (by decide) (fun q => ?_) (fun q => ?_)
          · replace h := h.1 q
            obtain ⟨n_1, hn, h⟩ := h
            exact x_sub [1, 0] rfl ((ih n_1 hn) _ _ h)
          · replace h := h.2 q
            refine x_aload_n (i := 0) (q := 1) hC dX10_makeAll_55 rfl rfl ?_
            refine x_aload_n (i := 0) (q := 1) hC dX10_makeAll_56 rfl rfl ?_
            refine x_geti (k := 9) hC xo_193 rfl kf_X10_makeAll_140 dX10_makeAll_57 ?_
            refine x_aload_n (i := 0) (q := 1) hC dX10_makeAll_60 rfl rfl ?_
            refine x_geti (k := 10) hC xo_193 rfl kf_X10_makeAll_143 dX10_makeAll_61 ?_
            refine x_aload_n (i := 0) (q := 1) hC dX10_makeAll_64 rfl rfl ?_
            refine x_geti (k := 11) hC xo_193 rfl kf_X10_makeAll_146 dX10_makeAll_65 ?_
            refine x_callVi (q := (RX10, TX10, 12)) (As := [.int (N6 193 9), .int (N6 193 10), .int (N6 193 11)]) hC xo_193 rfl h gX10_makeAll_X10_wished rfl rfl rfl hy_X10_wished ⟨Nat.le_of_ble_eq_true rfl, Nat.le_of_ble_eq_true rfl⟩ rfl (Nat.le_of_ble_eq_true rfl) rfl dX10_makeAll_68 (fun r7 N8 h => ?_)
            refine x_pop hC dX10_makeAll_71 rfl ?_
            refine x_goto (t := 7) hC dX10_makeAll_72 (by decide) ?_
            obtain ⟨n_1, hn, h⟩ := h
            exact x_sub [1, 0] rfl ((ih n_1 hn) _ _ h)
  have h := h0
  unfold vc_X10_makeAll at h
  refine x_aload_n (i := 0) (q := 0) hC dX10_makeAll_0 rfl rfl ?_
  refine x_iconst (v := 0) hC dX10_makeAll_1 (by decide) ?_
  refine x_puti (k := 8) hC xo_193 rfl kf_X10_makeAll_130 kp_10_8 dX10_makeAll_2 ?_
  refine x_iconst (v := 0) hC dX10_makeAll_5 (by decide) ?_
  refine x_istore_n (i := 1) (ls' := [(1, .int (0 : Int32)), (0, .ref (x_a g 193))]) hC dX10_makeAll_6 rfl (by decide) rfl ?_
  obtain ⟨n_1, h⟩ := h
  exact x_sub [1, 0] rfl ((L n_1) _ _ h)
theorem kf_X10_read_7 : x_okf wsX10_read RX10 7 10 0 = true := by decide +kernel
theorem kf_X10_read_127 : x_okf wsX10_read RX10 127 10 7 = true := by decide +kernel
def vc_X10_read (g : xG) (M : xM) (P : Int32 → xM → Prop) : Prop := (mi_X10_findFault g M (fun r1 N2 => ((r1 = (-6 : Int32) → (vp_in (2 : Int32) 239 ∧ (mi_X10_makeAll g N2 (fun r3 N4 => (vp_in (2 : Int32) 239 ∧ ((0 ≤ r3 → (mi_X10_record g (x_up N4 194 ((2 : Int32)).toNatClampNeg (N2 194 ((2 : Int32)).toNatClampNeg)) (fun N5 => (mi_X10_makeAll g N5 (fun r6 N7 => (vp_in (2 : Int32) 239 ∧ P ((x_up N7 193 7 (0 : Int32)) 194 ((2 : Int32)).toNatClampNeg) (x_up N7 193 7 (0 : Int32)))))))) ∧ (¬ (0 ≤ r3) → P r3 (x_up N4 194 ((2 : Int32)).toNatClampNeg (N2 194 ((2 : Int32)).toNatClampNeg))))))))) ∧ (¬ (r1 = (-6 : Int32)) → P (-3 : Int32) N2))))
set_option maxRecDepth 100000 in
set_option maxHeartbeats 4000000 in
theorem wk_X10_read {g : xG}  (M : xM) (P : Int32 → xM → Prop) (h0 : vc_X10_read g M P ) : mi_X10_read g M P := by
  refine x_startI (as := [.ref (x_a g 193)]) (cc := cX10_read) (n := 3) (ret := (some .int)) (own := RX10) (by decide) rfl rfl (Nat.le_of_ble_eq_true rfl) (fun x hC hr => ?_)
  have h := h0
  unfold vc_X10_read at h
  refine x_aload_n (i := 0) (q := 0) hC dX10_read_0 rfl rfl ?_
  refine x_callVi (q := (RX10, TX10, 12)) (As := []) hC xo_193 rfl h gX10_read_X10_findFault rfl rfl rfl hy_X10_findFault ⟨Nat.le_of_ble_eq_true rfl, Nat.le_of_ble_eq_true rfl⟩ rfl (Nat.le_of_ble_eq_true rfl) rfl dX10_read_1 (fun r1 N2 h => ?_)
  refine x_bipush (v := -6) hC dX10_read_4 (by decide) ?_
  refine x_icmp_eq (t := 12) hC dX10_read_6 (by decide) (fun q => ?_) (fun q => ?_)
  · replace h := h.1 q
    refine x_aload_n (i := 0) (q := 0) hC dX10_read_12 rfl rfl ?_
    refine x_getr (k := 0) (r := 194) hC xo_193 rfl kf_X10_read_7 dX10_read_13 ?_
    refine x_iconst (v := 2) hC dX10_read_16 (by decide) ?_
    refine x_iald (len := 239) hC xa_194 h.1 dX10_read_17 ?_
    replace h := h.2
    refine x_istore_n (i := 1) (ls' := [(1, .int (N2 194 ((2 : Int32)).toNatClampNeg)), (0, .ref (x_a g 193))]) hC dX10_read_18 rfl (by decide) rfl ?_
    refine x_aload_n (i := 0) (q := 1) hC dX10_read_19 rfl rfl ?_
    refine x_callVi (q := (RX10, TX10, 12)) (As := []) hC xo_193 rfl h gX10_read_X10_makeAll rfl rfl rfl hy_X10_makeAll ⟨Nat.le_of_ble_eq_true rfl, Nat.le_of_ble_eq_true rfl⟩ rfl (Nat.le_of_ble_eq_true rfl) rfl dX10_read_20 (fun r3 N4 h => ?_)
    refine x_istore_n (i := 2) (ls' := [(2, .int r3), (1, .int (N2 194 ((2 : Int32)).toNatClampNeg)), (0, .ref (x_a g 193))]) hC dX10_read_23 rfl (by decide) rfl ?_
    refine x_aload_n (i := 0) (q := 2) hC dX10_read_24 rfl rfl ?_
    refine x_getr (k := 0) (r := 194) hC xo_193 rfl kf_X10_read_7 dX10_read_25 ?_
    refine x_iconst (v := 2) hC dX10_read_28 (by decide) ?_
    refine x_iload_n (i := 1) (q := 1) hC dX10_read_29 rfl rfl ?_
    refine x_iast (len := 239) hC xa_194 h.1 dX10_read_30 ?_
    replace h := h.2
    refine x_iload_n (i := 2) (q := 0) hC dX10_read_31 rfl rfl ?_
    refine x_if_ge (t := 37) hC dX10_read_32 (by decide) (fun q => ?_) (fun q => ?_)
    · replace h := h.1 q
      refine x_aload_n (i := 0) (q := 2) hC dX10_read_37 rfl rfl ?_
      refine x_callVv (q := (RX10, TX10, 12)) (As := []) hC xo_193 rfl h gX10_read_X10_record rfl rfl rfl hy_X10_record ⟨Nat.le_of_ble_eq_true rfl, Nat.le_of_ble_eq_true rfl⟩ rfl (Nat.le_of_ble_eq_true rfl) rfl dX10_read_38 (fun N5 h => ?_)
      refine x_aload_n (i := 0) (q := 2) hC dX10_read_41 rfl rfl ?_
      refine x_callVi (q := (RX10, TX10, 12)) (As := []) hC xo_193 rfl h gX10_read_X10_makeAll rfl rfl rfl hy_X10_makeAll ⟨Nat.le_of_ble_eq_true rfl, Nat.le_of_ble_eq_true rfl⟩ rfl (Nat.le_of_ble_eq_true rfl) rfl dX10_read_42 (fun r6 N7 h => ?_)
      refine x_pop hC dX10_read_45 rfl ?_
      refine x_aload_n (i := 0) (q := 2) hC dX10_read_46 rfl rfl ?_
      refine x_iconst (v := 0) hC dX10_read_47 (by decide) ?_
      refine x_puti (k := 7) hC xo_193 rfl kf_X10_read_127 kp_10_7 dX10_read_48 ?_
      refine x_aload_n (i := 0) (q := 2) hC dX10_read_51 rfl rfl ?_
      refine x_getr (k := 0) (r := 194) hC xo_193 rfl kf_X10_read_7 dX10_read_52 ?_
      refine x_iconst (v := 2) hC dX10_read_55 (by decide) ?_
      refine x_iald (len := 239) hC xa_194 h.1 dX10_read_56 ?_
      replace h := h.2
      exact x_iret hC hr dX10_read_57 h
    · replace h := h.2 q
      refine x_iload_n (i := 2) (q := 0) hC dX10_read_35 rfl rfl ?_
      exact x_iret hC hr dX10_read_36 h
  · replace h := h.2 q
    refine x_bipush (v := -3) hC dX10_read_9 (by decide) ?_
    exact x_iret hC hr dX10_read_11 h
theorem kf_X10_of_7 : x_okf wsX10_of RX10 7 10 0 = true := by decide +kernel
def vc_X10_of (g : xG) (v1 : Int32) (v2 : Int32) (M : xM) (P : Int32 → xM → Prop) : Prop := (mi_X10_isSinger g v1 M (fun r1 N2 => ((¬ r1 = 0 → ((((v2).toInt < 0 ∨ 6 < (v2).toInt) → P (-2 : Int32) N2) ∧ (v2 = (0 : Int32) → (mi_X10_singerPart g v1 v2 N2 (fun r3 N4 => P r3 N4))) ∧ (v2 = (1 : Int32) → (mi_X10_singerPart g v1 v2 N2 (fun r5 N6 => P r5 N6))) ∧ (v2 = (2 : Int32) → (mi_X10_singerPart g v1 v2 N2 (fun r7 N8 => P r7 N8))) ∧ (v2 = (3 : Int32) → (mi_X10_singerPart g v1 v2 N2 (fun r9 N10 => P r9 N10))) ∧ (v2 = (4 : Int32) → (vp_in (3 : Int32) 239 ∧ P (((N2 194 ((3 : Int32)).toNatClampNeg) >>> (v1 &&& 31)) &&& (1 : Int32)) N2)) ∧ (v2 = (5 : Int32) → (mi_X10_wishesOf g v1 N2 (fun r11 N12 => P r11 N12))) ∧ (v2 = (6 : Int32) → (mi_X10_singerPart g v1 (4 : Int32) N2 (fun r13 N14 => P r13 N14))))) ∧ (r1 = 0 → P (-1 : Int32) N2))))
set_option maxRecDepth 100000 in
set_option maxHeartbeats 4000000 in
theorem wk_X10_of {g : xG} (v1 : Int32) (v2 : Int32) (M : xM) (P : Int32 → xM → Prop) (h0 : vc_X10_of g v1 v2 M P ) : mi_X10_of g v1 v2 M P := by
  refine x_startI (as := [.ref (x_a g 193), .int v1, .int v2]) (cc := cX10_of) (n := 3) (ret := (some .int)) (own := RX10) (by decide) rfl rfl (Nat.le_of_ble_eq_true rfl) (fun x hC hr => ?_)
  have h := h0
  unfold vc_X10_of at h
  refine x_aload_n (i := 0) (q := 0) hC dX10_of_0 rfl rfl ?_
  refine x_iload_n (i := 1) (q := 1) hC dX10_of_1 rfl rfl ?_
  refine x_callVi (q := (RX10, TX10, 12)) (As := [.int v1]) hC xo_193 rfl h gX10_of_X10_isSinger rfl rfl rfl hy_X10_isSinger ⟨Nat.le_of_ble_eq_true rfl, Nat.le_of_ble_eq_true rfl⟩ rfl (Nat.le_of_ble_eq_true rfl) rfl dX10_of_2 (fun r1 N2 h => ?_)
  refine x_if_ne (t := 10) hC dX10_of_5 (by decide) (fun q => ?_) (fun q => ?_)
  · replace h := h.1 q
    refine x_iload_n (i := 2) (q := 2) hC dX10_of_10 rfl rfl ?_
    rcases Classical.em ((v2).toInt < 0 ∨ 6 < (v2).toInt) with q | q
    · refine x_tsOut (t := 83) hC dX10_of_11 q (by decide) ?_
      replace h := h.1 q
      refine x_bipush (v := -2) hC dX10_of_83 (by decide) ?_
      exact x_iret hC hr dX10_of_85 h
    · have q2 : (v2).toInt = 0 ∨ (v2).toInt = 1 ∨ (v2).toInt = 2 ∨ (v2).toInt = 3 ∨ (v2).toInt = 4 ∨ (v2).toInt = 5 ∨ (v2).toInt = 6 := by omega
      rcases q2 with q2 | q2 | q2 | q2 | q2 | q2 | q2
      · replace q2 : v2 = (0 : Int32) := x_ofInt q2
        refine x_tsIn (o := 41) (t := 52) hC dX10_of_11 (by rw [q2]; decide) (by rw [q2]; decide) (by rw [q2]; rfl) (by decide) ?_
        replace h := h.2.1 q2
        refine x_aload_n (i := 0) (q := 0) hC dX10_of_52 rfl rfl ?_
        refine x_iload_n (i := 1) (q := 1) hC dX10_of_53 rfl rfl ?_
        refine x_iload_n (i := 2) (q := 2) hC dX10_of_54 rfl rfl ?_
        refine x_callVi (q := (RX10, TX10, 12)) (As := [.int v1, .int v2]) hC xo_193 rfl h gX10_of_X10_singerPart rfl rfl rfl hy_X10_singerPart ⟨Nat.le_of_ble_eq_true rfl, Nat.le_of_ble_eq_true rfl⟩ rfl (Nat.le_of_ble_eq_true rfl) rfl dX10_of_55 (fun r3 N4 h => ?_)
        exact x_iret hC hr dX10_of_58 h
      · replace q2 : v2 = (1 : Int32) := x_ofInt q2
        refine x_tsIn (o := 41) (t := 52) hC dX10_of_11 (by rw [q2]; decide) (by rw [q2]; decide) (by rw [q2]; rfl) (by decide) ?_
        replace h := h.2.2.1 q2
        refine x_aload_n (i := 0) (q := 0) hC dX10_of_52 rfl rfl ?_
        refine x_iload_n (i := 1) (q := 1) hC dX10_of_53 rfl rfl ?_
        refine x_iload_n (i := 2) (q := 2) hC dX10_of_54 rfl rfl ?_
        refine x_callVi (q := (RX10, TX10, 12)) (As := [.int v1, .int v2]) hC xo_193 rfl h gX10_of_X10_singerPart rfl rfl rfl hy_X10_singerPart ⟨Nat.le_of_ble_eq_true rfl, Nat.le_of_ble_eq_true rfl⟩ rfl (Nat.le_of_ble_eq_true rfl) rfl dX10_of_55 (fun r5 N6 h => ?_)
        exact x_iret hC hr dX10_of_58 h
      · replace q2 : v2 = (2 : Int32) := x_ofInt q2
        refine x_tsIn (o := 41) (t := 52) hC dX10_of_11 (by rw [q2]; decide) (by rw [q2]; decide) (by rw [q2]; rfl) (by decide) ?_
        replace h := h.2.2.2.1 q2
        refine x_aload_n (i := 0) (q := 0) hC dX10_of_52 rfl rfl ?_
        refine x_iload_n (i := 1) (q := 1) hC dX10_of_53 rfl rfl ?_
        refine x_iload_n (i := 2) (q := 2) hC dX10_of_54 rfl rfl ?_
        refine x_callVi (q := (RX10, TX10, 12)) (As := [.int v1, .int v2]) hC xo_193 rfl h gX10_of_X10_singerPart rfl rfl rfl hy_X10_singerPart ⟨Nat.le_of_ble_eq_true rfl, Nat.le_of_ble_eq_true rfl⟩ rfl (Nat.le_of_ble_eq_true rfl) rfl dX10_of_55 (fun r7 N8 h => ?_)
        exact x_iret hC hr dX10_of_58 h
      · replace q2 : v2 = (3 : Int32) := x_ofInt q2
        refine x_tsIn (o := 41) (t := 52) hC dX10_of_11 (by rw [q2]; decide) (by rw [q2]; decide) (by rw [q2]; rfl) (by decide) ?_
        replace h := h.2.2.2.2.1 q2
        refine x_aload_n (i := 0) (q := 0) hC dX10_of_52 rfl rfl ?_
        refine x_iload_n (i := 1) (q := 1) hC dX10_of_53 rfl rfl ?_
        refine x_iload_n (i := 2) (q := 2) hC dX10_of_54 rfl rfl ?_
        refine x_callVi (q := (RX10, TX10, 12)) (As := [.int v1, .int v2]) hC xo_193 rfl h gX10_of_X10_singerPart rfl rfl rfl hy_X10_singerPart ⟨Nat.le_of_ble_eq_true rfl, Nat.le_of_ble_eq_true rfl⟩ rfl (Nat.le_of_ble_eq_true rfl) rfl dX10_of_55 (fun r9 N10 h => ?_)
        exact x_iret hC hr dX10_of_58 h
      · replace q2 : v2 = (4 : Int32) := x_ofInt q2
        refine x_tsIn (o := 48) (t := 59) hC dX10_of_11 (by rw [q2]; decide) (by rw [q2]; decide) (by rw [q2]; rfl) (by decide) ?_
        replace h := h.2.2.2.2.2.1 q2
        refine x_aload_n (i := 0) (q := 0) hC dX10_of_59 rfl rfl ?_
        refine x_getr (k := 0) (r := 194) hC xo_193 rfl kf_X10_of_7 dX10_of_60 ?_
        refine x_iconst (v := 3) hC dX10_of_63 (by decide) ?_
        refine x_iald (len := 239) hC xa_194 h.1 dX10_of_64 ?_
        replace h := h.2
        refine x_iload_n (i := 1) (q := 1) hC dX10_of_65 rfl rfl ?_
        refine x_ishr hC dX10_of_66 ?_
        refine x_iconst (v := 1) hC dX10_of_67 (by decide) ?_
        refine x_iand hC dX10_of_68 ?_
        exact x_iret hC hr dX10_of_69 h
      · replace q2 : v2 = (5 : Int32) := x_ofInt q2
        refine x_tsIn (o := 59) (t := 70) hC dX10_of_11 (by rw [q2]; decide) (by rw [q2]; decide) (by rw [q2]; rfl) (by decide) ?_
        replace h := h.2.2.2.2.2.2.1 q2
        refine x_aload_n (i := 0) (q := 0) hC dX10_of_70 rfl rfl ?_
        refine x_iload_n (i := 1) (q := 1) hC dX10_of_71 rfl rfl ?_
        refine x_callVi (q := (RX10, TX10, 12)) (As := [.int v1]) hC xo_193 rfl h gX10_of_X10_wishesOf rfl rfl rfl hy_X10_wishesOf ⟨Nat.le_of_ble_eq_true rfl, Nat.le_of_ble_eq_true rfl⟩ rfl (Nat.le_of_ble_eq_true rfl) rfl dX10_of_72 (fun r11 N12 h => ?_)
        exact x_iret hC hr dX10_of_75 h
      · replace q2 : v2 = (6 : Int32) := x_ofInt q2
        refine x_tsIn (o := 65) (t := 76) hC dX10_of_11 (by rw [q2]; decide) (by rw [q2]; decide) (by rw [q2]; rfl) (by decide) ?_
        replace h := h.2.2.2.2.2.2.2 q2
        refine x_aload_n (i := 0) (q := 0) hC dX10_of_76 rfl rfl ?_
        refine x_iload_n (i := 1) (q := 1) hC dX10_of_77 rfl rfl ?_
        refine x_iconst (v := 4) hC dX10_of_78 (by decide) ?_
        refine x_callVi (q := (RX10, TX10, 12)) (As := [.int v1, .int (4 : Int32)]) hC xo_193 rfl h gX10_of_X10_singerPart rfl rfl rfl hy_X10_singerPart ⟨Nat.le_of_ble_eq_true rfl, Nat.le_of_ble_eq_true rfl⟩ rfl (Nat.le_of_ble_eq_true rfl) rfl dX10_of_79 (fun r13 N14 h => ?_)
        exact x_iret hC hr dX10_of_82 h
  · replace h := h.2 q
    refine x_iconst (v := -1) hC dX10_of_8 (by decide) ?_
    exact x_iret hC hr dX10_of_9 h
def vc_X10_inQueue (g : xG) (v1 : Int32) (v2 : Int32) (M : xM) (P : Int32 → xM → Prop) : Prop := (mi_X10_isWish g v1 M (fun r1 N2 => ((¬ r1 = 0 → ((((v2).toInt < 0 ∨ 6 < (v2).toInt) → P (-2 : Int32) N2) ∧ (v2 = (0 : Int32) → (mi_X10_wishPart g v1 v2 N2 (fun r3 N4 => P r3 N4))) ∧ (v2 = (1 : Int32) → (mi_X10_wishPart g v1 v2 N2 (fun r5 N6 => P r5 N6))) ∧ (v2 = (2 : Int32) → (mi_X10_wishPart g v1 v2 N2 (fun r7 N8 => P r7 N8))) ∧ (v2 = (3 : Int32) → (mi_X10_wishPart g v1 (0 : Int32) N2 (fun r9 N10 => (mi_X10_wishPart g v1 (1 : Int32) N10 (fun r11 N12 => (mi_X10_wishPart g v1 (2 : Int32) N12 (fun r13 N14 => (mi_X10_keyFor g r9 r11 r13 N14 (fun r15 N16 => P r15 N16))))))))) ∧ (v2 = (4 : Int32) → (mi_X10_isReady g v1 N2 (fun r17 N18 => ((r17 = 0 → P (0 : Int32) N18) ∧ (¬ (r17 = 0) → P (1 : Int32) N18))))) ∧ (v2 = (5 : Int32) → (mi_X10_isFresh g v1 N2 (fun r19 N20 => ((r19 = 0 → P (0 : Int32) N20) ∧ (¬ (r19 = 0) → P (1 : Int32) N20))))) ∧ (v2 = (6 : Int32) → (mi_X10_turnsFor g v1 N2 (fun r21 N22 => P r21 N22))))) ∧ (r1 = 0 → P (-1 : Int32) N2))))
set_option maxRecDepth 100000 in
set_option maxHeartbeats 4000000 in
theorem wk_X10_inQueue {g : xG} (v1 : Int32) (v2 : Int32) (M : xM) (P : Int32 → xM → Prop) (h0 : vc_X10_inQueue g v1 v2 M P ) : mi_X10_inQueue g v1 v2 M P := by
  refine x_startI (as := [.ref (x_a g 193), .int v1, .int v2]) (cc := cX10_inQueue) (n := 3) (ret := (some .int)) (own := RX10) (by decide) rfl rfl (Nat.le_of_ble_eq_true rfl) (fun x hC hr => ?_)
  have h := h0
  unfold vc_X10_inQueue at h
  refine x_aload_n (i := 0) (q := 0) hC dX10_inQueue_0 rfl rfl ?_
  refine x_iload_n (i := 1) (q := 1) hC dX10_inQueue_1 rfl rfl ?_
  refine x_callVi (q := (RX10, TX10, 12)) (As := [.int v1]) hC xo_193 rfl h gX10_inQueue_X10_isWish rfl rfl rfl hy_X10_isWish ⟨Nat.le_of_ble_eq_true rfl, Nat.le_of_ble_eq_true rfl⟩ rfl (Nat.le_of_ble_eq_true rfl) rfl dX10_inQueue_2 (fun r1 N2 h => ?_)
  refine x_if_ne (t := 10) hC dX10_inQueue_5 (by decide) (fun q => ?_) (fun q => ?_)
  · replace h := h.1 q
    refine x_iload_n (i := 2) (q := 2) hC dX10_inQueue_10 rfl rfl ?_
    rcases Classical.em ((v2).toInt < 0 ∨ 6 < (v2).toInt) with q | q
    · refine x_tsOut (t := 116) hC dX10_inQueue_11 q (by decide) ?_
      replace h := h.1 q
      refine x_bipush (v := -2) hC dX10_inQueue_116 (by decide) ?_
      exact x_iret hC hr dX10_inQueue_118 h
    · have q2 : (v2).toInt = 0 ∨ (v2).toInt = 1 ∨ (v2).toInt = 2 ∨ (v2).toInt = 3 ∨ (v2).toInt = 4 ∨ (v2).toInt = 5 ∨ (v2).toInt = 6 := by omega
      rcases q2 with q2 | q2 | q2 | q2 | q2 | q2 | q2
      · replace q2 : v2 = (0 : Int32) := x_ofInt q2
        refine x_tsIn (o := 41) (t := 52) hC dX10_inQueue_11 (by rw [q2]; decide) (by rw [q2]; decide) (by rw [q2]; rfl) (by decide) ?_
        replace h := h.2.1 q2
        refine x_aload_n (i := 0) (q := 0) hC dX10_inQueue_52 rfl rfl ?_
        refine x_iload_n (i := 1) (q := 1) hC dX10_inQueue_53 rfl rfl ?_
        refine x_iload_n (i := 2) (q := 2) hC dX10_inQueue_54 rfl rfl ?_
        refine x_callVi (q := (RX10, TX10, 12)) (As := [.int v1, .int v2]) hC xo_193 rfl h gX10_inQueue_X10_wishPart rfl rfl rfl hy_X10_wishPart ⟨Nat.le_of_ble_eq_true rfl, Nat.le_of_ble_eq_true rfl⟩ rfl (Nat.le_of_ble_eq_true rfl) rfl dX10_inQueue_55 (fun r3 N4 h => ?_)
        exact x_iret hC hr dX10_inQueue_58 h
      · replace q2 : v2 = (1 : Int32) := x_ofInt q2
        refine x_tsIn (o := 41) (t := 52) hC dX10_inQueue_11 (by rw [q2]; decide) (by rw [q2]; decide) (by rw [q2]; rfl) (by decide) ?_
        replace h := h.2.2.1 q2
        refine x_aload_n (i := 0) (q := 0) hC dX10_inQueue_52 rfl rfl ?_
        refine x_iload_n (i := 1) (q := 1) hC dX10_inQueue_53 rfl rfl ?_
        refine x_iload_n (i := 2) (q := 2) hC dX10_inQueue_54 rfl rfl ?_
        refine x_callVi (q := (RX10, TX10, 12)) (As := [.int v1, .int v2]) hC xo_193 rfl h gX10_inQueue_X10_wishPart rfl rfl rfl hy_X10_wishPart ⟨Nat.le_of_ble_eq_true rfl, Nat.le_of_ble_eq_true rfl⟩ rfl (Nat.le_of_ble_eq_true rfl) rfl dX10_inQueue_55 (fun r5 N6 h => ?_)
        exact x_iret hC hr dX10_inQueue_58 h
      · replace q2 : v2 = (2 : Int32) := x_ofInt q2
        refine x_tsIn (o := 41) (t := 52) hC dX10_inQueue_11 (by rw [q2]; decide) (by rw [q2]; decide) (by rw [q2]; rfl) (by decide) ?_
        replace h := h.2.2.2.1 q2
        refine x_aload_n (i := 0) (q := 0) hC dX10_inQueue_52 rfl rfl ?_
        refine x_iload_n (i := 1) (q := 1) hC dX10_inQueue_53 rfl rfl ?_
        refine x_iload_n (i := 2) (q := 2) hC dX10_inQueue_54 rfl rfl ?_
        refine x_callVi (q := (RX10, TX10, 12)) (As := [.int v1, .int v2]) hC xo_193 rfl h gX10_inQueue_X10_wishPart rfl rfl rfl hy_X10_wishPart ⟨Nat.le_of_ble_eq_true rfl, Nat.le_of_ble_eq_true rfl⟩ rfl (Nat.le_of_ble_eq_true rfl) rfl dX10_inQueue_55 (fun r7 N8 h => ?_)
        exact x_iret hC hr dX10_inQueue_58 h
      · replace q2 : v2 = (3 : Int32) := x_ofInt q2
        refine x_tsIn (o := 48) (t := 59) hC dX10_inQueue_11 (by rw [q2]; decide) (by rw [q2]; decide) (by rw [q2]; rfl) (by decide) ?_
        replace h := h.2.2.2.2.1 q2
        refine x_aload_n (i := 0) (q := 0) hC dX10_inQueue_59 rfl rfl ?_
        refine x_aload_n (i := 0) (q := 0) hC dX10_inQueue_60 rfl rfl ?_
        refine x_iload_n (i := 1) (q := 1) hC dX10_inQueue_61 rfl rfl ?_
        refine x_iconst (v := 0) hC dX10_inQueue_62 (by decide) ?_
        refine x_callVi (q := (RX10, TX10, 12)) (As := [.int v1, .int (0 : Int32)]) hC xo_193 rfl h gX10_inQueue_X10_wishPart rfl rfl rfl hy_X10_wishPart ⟨Nat.le_of_ble_eq_true rfl, Nat.le_of_ble_eq_true rfl⟩ rfl (Nat.le_of_ble_eq_true rfl) rfl dX10_inQueue_63 (fun r9 N10 h => ?_)
        refine x_aload_n (i := 0) (q := 0) hC dX10_inQueue_66 rfl rfl ?_
        refine x_iload_n (i := 1) (q := 1) hC dX10_inQueue_67 rfl rfl ?_
        refine x_iconst (v := 1) hC dX10_inQueue_68 (by decide) ?_
        refine x_callVi (q := (RX10, TX10, 12)) (As := [.int v1, .int (1 : Int32)]) hC xo_193 rfl h gX10_inQueue_X10_wishPart rfl rfl rfl hy_X10_wishPart ⟨Nat.le_of_ble_eq_true rfl, Nat.le_of_ble_eq_true rfl⟩ rfl (Nat.le_of_ble_eq_true rfl) rfl dX10_inQueue_69 (fun r11 N12 h => ?_)
        refine x_aload_n (i := 0) (q := 0) hC dX10_inQueue_72 rfl rfl ?_
        refine x_iload_n (i := 1) (q := 1) hC dX10_inQueue_73 rfl rfl ?_
        refine x_iconst (v := 2) hC dX10_inQueue_74 (by decide) ?_
        refine x_callVi (q := (RX10, TX10, 12)) (As := [.int v1, .int (2 : Int32)]) hC xo_193 rfl h gX10_inQueue_X10_wishPart rfl rfl rfl hy_X10_wishPart ⟨Nat.le_of_ble_eq_true rfl, Nat.le_of_ble_eq_true rfl⟩ rfl (Nat.le_of_ble_eq_true rfl) rfl dX10_inQueue_75 (fun r13 N14 h => ?_)
        refine x_callVi (q := (RX10, TX10, 12)) (As := [.int r9, .int r11, .int r13]) hC xo_193 rfl h gX10_inQueue_X10_keyFor rfl rfl rfl hy_X10_keyFor ⟨Nat.le_of_ble_eq_true rfl, Nat.le_of_ble_eq_true rfl⟩ rfl (Nat.le_of_ble_eq_true rfl) rfl dX10_inQueue_78 (fun r15 N16 h => ?_)
        exact x_iret hC hr dX10_inQueue_81 h
      · replace q2 : v2 = (4 : Int32) := x_ofInt q2
        refine x_tsIn (o := 71) (t := 82) hC dX10_inQueue_11 (by rw [q2]; decide) (by rw [q2]; decide) (by rw [q2]; rfl) (by decide) ?_
        replace h := h.2.2.2.2.2.1 q2
        refine x_aload_n (i := 0) (q := 0) hC dX10_inQueue_82 rfl rfl ?_
        refine x_iload_n (i := 1) (q := 1) hC dX10_inQueue_83 rfl rfl ?_
        refine x_callVi (q := (RX10, TX10, 12)) (As := [.int v1]) hC xo_193 rfl h gX10_inQueue_X10_isReady rfl rfl rfl hy_X10_isReady ⟨Nat.le_of_ble_eq_true rfl, Nat.le_of_ble_eq_true rfl⟩ rfl (Nat.le_of_ble_eq_true rfl) rfl dX10_inQueue_84 (fun r17 N18 h => ?_)
        refine x_if_eq (t := 94) hC dX10_inQueue_87 (by decide) (fun q => ?_) (fun q => ?_)
        · replace h := h.1 q
          refine x_iconst (v := 0) hC dX10_inQueue_94 (by decide) ?_
          exact x_iret hC hr dX10_inQueue_95 h
        · replace h := h.2 q
          refine x_iconst (v := 1) hC dX10_inQueue_90 (by decide) ?_
          refine x_goto (t := 95) hC dX10_inQueue_91 (by decide) ?_
          exact x_iret hC hr dX10_inQueue_95 h
      · replace q2 : v2 = (5 : Int32) := x_ofInt q2
        refine x_tsIn (o := 85) (t := 96) hC dX10_inQueue_11 (by rw [q2]; decide) (by rw [q2]; decide) (by rw [q2]; rfl) (by decide) ?_
        replace h := h.2.2.2.2.2.2.1 q2
        refine x_aload_n (i := 0) (q := 0) hC dX10_inQueue_96 rfl rfl ?_
        refine x_iload_n (i := 1) (q := 1) hC dX10_inQueue_97 rfl rfl ?_
        refine x_callVi (q := (RX10, TX10, 12)) (As := [.int v1]) hC xo_193 rfl h gX10_inQueue_X10_isFresh rfl rfl rfl hy_X10_isFresh ⟨Nat.le_of_ble_eq_true rfl, Nat.le_of_ble_eq_true rfl⟩ rfl (Nat.le_of_ble_eq_true rfl) rfl dX10_inQueue_98 (fun r19 N20 h => ?_)
        refine x_if_eq (t := 108) hC dX10_inQueue_101 (by decide) (fun q => ?_) (fun q => ?_)
        · replace h := h.1 q
          refine x_iconst (v := 0) hC dX10_inQueue_108 (by decide) ?_
          exact x_iret hC hr dX10_inQueue_109 h
        · replace h := h.2 q
          refine x_iconst (v := 1) hC dX10_inQueue_104 (by decide) ?_
          refine x_goto (t := 109) hC dX10_inQueue_105 (by decide) ?_
          exact x_iret hC hr dX10_inQueue_109 h
      · replace q2 : v2 = (6 : Int32) := x_ofInt q2
        refine x_tsIn (o := 99) (t := 110) hC dX10_inQueue_11 (by rw [q2]; decide) (by rw [q2]; decide) (by rw [q2]; rfl) (by decide) ?_
        replace h := h.2.2.2.2.2.2.2 q2
        refine x_aload_n (i := 0) (q := 0) hC dX10_inQueue_110 rfl rfl ?_
        refine x_iload_n (i := 1) (q := 1) hC dX10_inQueue_111 rfl rfl ?_
        refine x_callVi (q := (RX10, TX10, 12)) (As := [.int v1]) hC xo_193 rfl h gX10_inQueue_X10_turnsFor rfl rfl rfl hy_X10_turnsFor ⟨Nat.le_of_ble_eq_true rfl, Nat.le_of_ble_eq_true rfl⟩ rfl (Nat.le_of_ble_eq_true rfl) rfl dX10_inQueue_112 (fun r21 N22 h => ?_)
        exact x_iret hC hr dX10_inQueue_115 h
  · replace h := h.2 q
    refine x_iconst (v := -1) hC dX10_inQueue_8 (by decide) ?_
    exact x_iret hC hr dX10_inQueue_9 h
theorem kf_X10_count_7 : x_okf wsX10_count RX10 7 10 0 = true := by decide +kernel
theorem kf_X10_count_127 : x_okf wsX10_count RX10 127 10 7 = true := by decide +kernel
theorem kf_X10_count_28 : x_okf wsX10_count RX10 28 10 3 = true := by decide +kernel
def vc_X10_count (g : xG) (v1 : Int32) (M : xM) (P : Int32 → xM → Prop) : Prop := ((((v1).toInt < 0 ∨ 10 < (v1).toInt) → P (-2 : Int32) M) ∧ (v1 = (0 : Int32) → (vp_in (0 : Int32) 239 ∧ P (M 194 ((0 : Int32)).toNatClampNeg) M)) ∧ (v1 = (1 : Int32) → (mi_X10_there g M (fun r1 N2 => P r1 N2))) ∧ (v1 = (2 : Int32) → (vp_in (1 : Int32) 239 ∧ P (M 194 ((1 : Int32)).toNatClampNeg) M)) ∧ (v1 = (3 : Int32) → (vp_in (2 : Int32) 239 ∧ P (M 194 ((2 : Int32)).toNatClampNeg) M)) ∧ (v1 = (4 : Int32) → (mi_X10_readyMany g M (fun r3 N4 => P r3 N4))) ∧ (v1 = (5 : Int32) → (mi_X10_nextWish g M (fun r5 N6 => P r5 N6))) ∧ (v1 = (6 : Int32) → (vp_in (4 : Int32) 239 ∧ P (M 194 ((4 : Int32)).toNatClampNeg) M)) ∧ (v1 = (7 : Int32) → (vp_in (5 : Int32) 239 ∧ P (M 194 ((5 : Int32)).toNatClampNeg) M)) ∧ (v1 = (8 : Int32) → (vp_in (3 : Int32) 239 ∧ P (M 194 ((3 : Int32)).toNatClampNeg) M)) ∧ (v1 = (9 : Int32) → P (M 193 7) M) ∧ (v1 = (10 : Int32) → P (M 193 3) M))
set_option maxRecDepth 100000 in
set_option maxHeartbeats 4000000 in
theorem wk_X10_count {g : xG} (v1 : Int32) (M : xM) (P : Int32 → xM → Prop) (h0 : vc_X10_count g v1 M P ) : mi_X10_count g v1 M P := by
  refine x_startI (as := [.ref (x_a g 193), .int v1]) (cc := cX10_count) (n := 2) (ret := (some .int)) (own := RX10) (by decide) rfl rfl (Nat.le_of_ble_eq_true rfl) (fun x hC hr => ?_)
  have h := h0
  unfold vc_X10_count at h
  refine x_iload_n (i := 1) (q := 1) hC dX10_count_0 rfl rfl ?_
  rcases Classical.em ((v1).toInt < 0 ∨ 10 < (v1).toInt) with q | q
  · refine x_tsOut (t := 127) hC dX10_count_1 q (by decide) ?_
    replace h := h.1 q
    refine x_bipush (v := -2) hC dX10_count_127 (by decide) ?_
    exact x_iret hC hr dX10_count_129 h
  · have q2 : (v1).toInt = 0 ∨ (v1).toInt = 1 ∨ (v1).toInt = 2 ∨ (v1).toInt = 3 ∨ (v1).toInt = 4 ∨ (v1).toInt = 5 ∨ (v1).toInt = 6 ∨ (v1).toInt = 7 ∨ (v1).toInt = 8 ∨ (v1).toInt = 9 ∨ (v1).toInt = 10 := by omega
    rcases q2 with q2 | q2 | q2 | q2 | q2 | q2 | q2 | q2 | q2 | q2 | q2
    · replace q2 : v1 = (0 : Int32) := x_ofInt q2
      refine x_tsIn (o := 59) (t := 60) hC dX10_count_1 (by rw [q2]; decide) (by rw [q2]; decide) (by rw [q2]; rfl) (by decide) ?_
      replace h := h.2.1 q2
      refine x_aload_n (i := 0) (q := 0) hC dX10_count_60 rfl rfl ?_
      refine x_getr (k := 0) (r := 194) hC xo_193 rfl kf_X10_count_7 dX10_count_61 ?_
      refine x_iconst (v := 0) hC dX10_count_64 (by decide) ?_
      refine x_iald (len := 239) hC xa_194 h.1 dX10_count_65 ?_
      replace h := h.2
      exact x_iret hC hr dX10_count_66 h
    · replace q2 : v1 = (1 : Int32) := x_ofInt q2
      refine x_tsIn (o := 66) (t := 67) hC dX10_count_1 (by rw [q2]; decide) (by rw [q2]; decide) (by rw [q2]; rfl) (by decide) ?_
      replace h := h.2.2.1 q2
      refine x_aload_n (i := 0) (q := 0) hC dX10_count_67 rfl rfl ?_
      refine x_callVi (q := (RX10, TX10, 12)) (As := []) hC xo_193 rfl h gX10_count_X10_there rfl rfl rfl hy_X10_there ⟨Nat.le_of_ble_eq_true rfl, Nat.le_of_ble_eq_true rfl⟩ rfl (Nat.le_of_ble_eq_true rfl) rfl dX10_count_68 (fun r1 N2 h => ?_)
      exact x_iret hC hr dX10_count_71 h
    · replace q2 : v1 = (2 : Int32) := x_ofInt q2
      refine x_tsIn (o := 71) (t := 72) hC dX10_count_1 (by rw [q2]; decide) (by rw [q2]; decide) (by rw [q2]; rfl) (by decide) ?_
      replace h := h.2.2.2.1 q2
      refine x_aload_n (i := 0) (q := 0) hC dX10_count_72 rfl rfl ?_
      refine x_getr (k := 0) (r := 194) hC xo_193 rfl kf_X10_count_7 dX10_count_73 ?_
      refine x_iconst (v := 1) hC dX10_count_76 (by decide) ?_
      refine x_iald (len := 239) hC xa_194 h.1 dX10_count_77 ?_
      replace h := h.2
      exact x_iret hC hr dX10_count_78 h
    · replace q2 : v1 = (3 : Int32) := x_ofInt q2
      refine x_tsIn (o := 78) (t := 79) hC dX10_count_1 (by rw [q2]; decide) (by rw [q2]; decide) (by rw [q2]; rfl) (by decide) ?_
      replace h := h.2.2.2.2.1 q2
      refine x_aload_n (i := 0) (q := 0) hC dX10_count_79 rfl rfl ?_
      refine x_getr (k := 0) (r := 194) hC xo_193 rfl kf_X10_count_7 dX10_count_80 ?_
      refine x_iconst (v := 2) hC dX10_count_83 (by decide) ?_
      refine x_iald (len := 239) hC xa_194 h.1 dX10_count_84 ?_
      replace h := h.2
      exact x_iret hC hr dX10_count_85 h
    · replace q2 : v1 = (4 : Int32) := x_ofInt q2
      refine x_tsIn (o := 85) (t := 86) hC dX10_count_1 (by rw [q2]; decide) (by rw [q2]; decide) (by rw [q2]; rfl) (by decide) ?_
      replace h := h.2.2.2.2.2.1 q2
      refine x_aload_n (i := 0) (q := 0) hC dX10_count_86 rfl rfl ?_
      refine x_callVi (q := (RX10, TX10, 12)) (As := []) hC xo_193 rfl h gX10_count_X10_readyMany rfl rfl rfl hy_X10_readyMany ⟨Nat.le_of_ble_eq_true rfl, Nat.le_of_ble_eq_true rfl⟩ rfl (Nat.le_of_ble_eq_true rfl) rfl dX10_count_87 (fun r3 N4 h => ?_)
      exact x_iret hC hr dX10_count_90 h
    · replace q2 : v1 = (5 : Int32) := x_ofInt q2
      refine x_tsIn (o := 90) (t := 91) hC dX10_count_1 (by rw [q2]; decide) (by rw [q2]; decide) (by rw [q2]; rfl) (by decide) ?_
      replace h := h.2.2.2.2.2.2.1 q2
      refine x_aload_n (i := 0) (q := 0) hC dX10_count_91 rfl rfl ?_
      refine x_callVi (q := (RX10, TX10, 12)) (As := []) hC xo_193 rfl h gX10_count_X10_nextWish rfl rfl rfl hy_X10_nextWish ⟨Nat.le_of_ble_eq_true rfl, Nat.le_of_ble_eq_true rfl⟩ rfl (Nat.le_of_ble_eq_true rfl) rfl dX10_count_92 (fun r5 N6 h => ?_)
      exact x_iret hC hr dX10_count_95 h
    · replace q2 : v1 = (6 : Int32) := x_ofInt q2
      refine x_tsIn (o := 95) (t := 96) hC dX10_count_1 (by rw [q2]; decide) (by rw [q2]; decide) (by rw [q2]; rfl) (by decide) ?_
      replace h := h.2.2.2.2.2.2.2.1 q2
      refine x_aload_n (i := 0) (q := 0) hC dX10_count_96 rfl rfl ?_
      refine x_getr (k := 0) (r := 194) hC xo_193 rfl kf_X10_count_7 dX10_count_97 ?_
      refine x_iconst (v := 4) hC dX10_count_100 (by decide) ?_
      refine x_iald (len := 239) hC xa_194 h.1 dX10_count_101 ?_
      replace h := h.2
      exact x_iret hC hr dX10_count_102 h
    · replace q2 : v1 = (7 : Int32) := x_ofInt q2
      refine x_tsIn (o := 102) (t := 103) hC dX10_count_1 (by rw [q2]; decide) (by rw [q2]; decide) (by rw [q2]; rfl) (by decide) ?_
      replace h := h.2.2.2.2.2.2.2.2.1 q2
      refine x_aload_n (i := 0) (q := 0) hC dX10_count_103 rfl rfl ?_
      refine x_getr (k := 0) (r := 194) hC xo_193 rfl kf_X10_count_7 dX10_count_104 ?_
      refine x_iconst (v := 5) hC dX10_count_107 (by decide) ?_
      refine x_iald (len := 239) hC xa_194 h.1 dX10_count_108 ?_
      replace h := h.2
      exact x_iret hC hr dX10_count_109 h
    · replace q2 : v1 = (8 : Int32) := x_ofInt q2
      refine x_tsIn (o := 109) (t := 110) hC dX10_count_1 (by rw [q2]; decide) (by rw [q2]; decide) (by rw [q2]; rfl) (by decide) ?_
      replace h := h.2.2.2.2.2.2.2.2.2.1 q2
      refine x_aload_n (i := 0) (q := 0) hC dX10_count_110 rfl rfl ?_
      refine x_getr (k := 0) (r := 194) hC xo_193 rfl kf_X10_count_7 dX10_count_111 ?_
      refine x_iconst (v := 3) hC dX10_count_114 (by decide) ?_
      refine x_iald (len := 239) hC xa_194 h.1 dX10_count_115 ?_
      replace h := h.2
      exact x_iret hC hr dX10_count_116 h
    · replace q2 : v1 = (9 : Int32) := x_ofInt q2
      refine x_tsIn (o := 116) (t := 117) hC dX10_count_1 (by rw [q2]; decide) (by rw [q2]; decide) (by rw [q2]; rfl) (by decide) ?_
      replace h := h.2.2.2.2.2.2.2.2.2.2.1 q2
      refine x_aload_n (i := 0) (q := 0) hC dX10_count_117 rfl rfl ?_
      refine x_geti (k := 7) hC xo_193 rfl kf_X10_count_127 dX10_count_118 ?_
      exact x_iret hC hr dX10_count_121 h
    · replace q2 : v1 = (10 : Int32) := x_ofInt q2
      refine x_tsIn (o := 121) (t := 122) hC dX10_count_1 (by rw [q2]; decide) (by rw [q2]; decide) (by rw [q2]; rfl) (by decide) ?_
      replace h := h.2.2.2.2.2.2.2.2.2.2.2 q2
      refine x_aload_n (i := 0) (q := 0) hC dX10_count_122 rfl rfl ?_
      refine x_geti (k := 3) hC xo_193 rfl kf_X10_count_28 dX10_count_123 ?_
      exact x_iret hC hr dX10_count_126 h
theorem kf_X10_turnOf_7 : x_okf wsX10_turnOf RX10 7 10 0 = true := by decide +kernel
theorem kf_X10_turnOf_13 : x_okf wsX10_turnOf RX10 13 10 1 = true := by decide +kernel
def vc_X10_turnOf (g : xG) (v1 : Int32) (v2 : Int32) (M : xM) (P : Int32 → xM → Prop) : Prop := (mi_X10_isWish g v1 M (fun r1 N2 => ((r1 = 0 → (mi_X10_isWish g v1 N2 (fun r3 N4 => ((r3 = 0 → P (-1 : Int32) N4) ∧ (¬ (r3 = 0) → P (-2 : Int32) N4))))) ∧ (¬ (r1 = 0) → (mi_X10_within g v2 (0 : Int32) (1 : Int32) N2 (fun r5 N6 => ((¬ r5 = 0 → (mi_X10_isReady g v1 N6 (fun r7 N8 => ((¬ r7 = 0 → (mi_X10_moves g 194 (0 : Int32) 195 (0 : Int32) N8 (fun N9 => (mi_X10_singUpTo g v1 N9 (fun r10 N11 => (vp_in (4 : Int32) 239 ∧ (mi_X10_moves g 195 (0 : Int32) 194 (0 : Int32) N11 (fun N12 => ((¬ v2 = 0 → P (N11 194 ((4 : Int32)).toNatClampNeg) N12) ∧ (v2 = 0 → P r10 N12)))))))))) ∧ (r7 = 0 → P (-6 : Int32) N8))))) ∧ (r5 = 0 → (mi_X10_isWish g v1 N6 (fun r13 N14 => ((r13 = 0 → P (-1 : Int32) N14) ∧ (¬ (r13 = 0) → P (-2 : Int32) N14))))))))))))
set_option maxRecDepth 100000 in
set_option maxHeartbeats 4000000 in
theorem wk_X10_turnOf {g : xG} (v1 : Int32) (v2 : Int32) (M : xM) (P : Int32 → xM → Prop) (h0 : vc_X10_turnOf g v1 v2 M P ) : mi_X10_turnOf g v1 v2 M P := by
  refine x_startI (as := [.ref (x_a g 193), .int v1, .int v2]) (cc := cX10_turnOf) (n := 5) (ret := (some .int)) (own := RX10) (by decide) rfl rfl (Nat.le_of_ble_eq_true rfl) (fun x hC hr => ?_)
  have h := h0
  unfold vc_X10_turnOf at h
  refine x_aload_n (i := 0) (q := 0) hC dX10_turnOf_0 rfl rfl ?_
  refine x_iload_n (i := 1) (q := 1) hC dX10_turnOf_1 rfl rfl ?_
  refine x_callVi (q := (RX10, TX10, 12)) (As := [.int v1]) hC xo_193 rfl h gX10_turnOf_X10_isWish rfl rfl rfl hy_X10_isWish ⟨Nat.le_of_ble_eq_true rfl, Nat.le_of_ble_eq_true rfl⟩ rfl (Nat.le_of_ble_eq_true rfl) rfl dX10_turnOf_2 (fun r1 N2 h => ?_)
  refine x_if_eq (t := 17) hC dX10_turnOf_5 (by decide) (fun q => ?_) (fun q => ?_)
  · replace h := h.1 q
    refine x_aload_n (i := 0) (q := 0) hC dX10_turnOf_17 rfl rfl ?_
    refine x_iload_n (i := 1) (q := 1) hC dX10_turnOf_18 rfl rfl ?_
    refine x_callVi (q := (RX10, TX10, 12)) (As := [.int v1]) hC xo_193 rfl h gX10_turnOf_X10_isWish rfl rfl rfl hy_X10_isWish ⟨Nat.le_of_ble_eq_true rfl, Nat.le_of_ble_eq_true rfl⟩ rfl (Nat.le_of_ble_eq_true rfl) rfl dX10_turnOf_19 (fun r3 N4 h => ?_)
    refine x_if_eq (t := 30) hC dX10_turnOf_22 (by decide) (fun q => ?_) (fun q => ?_)
    · replace h := h.1 q
      refine x_iconst (v := -1) hC dX10_turnOf_30 (by decide) ?_
      exact x_iret hC hr dX10_turnOf_31 h
    · replace h := h.2 q
      refine x_bipush (v := -2) hC dX10_turnOf_25 (by decide) ?_
      refine x_goto (t := 31) hC dX10_turnOf_27 (by decide) ?_
      exact x_iret hC hr dX10_turnOf_31 h
  · replace h := h.2 q
    refine x_iload_n (i := 2) (q := 2) hC dX10_turnOf_8 rfl rfl ?_
    refine x_iconst (v := 0) hC dX10_turnOf_9 (by decide) ?_
    refine x_iconst (v := 1) hC dX10_turnOf_10 (by decide) ?_
    refine x_callSi (As := [.int v2, .int (0 : Int32), .int (1 : Int32)]) hC h gX10_turnOf_X10_within rfl rfl rfl hy_X10_within.2 ⟨Nat.le_of_ble_eq_true rfl, Nat.le_of_ble_eq_true rfl⟩ rfl (Nat.le_of_ble_eq_true rfl) rfl dX10_turnOf_11 (fun r5 N6 h => ?_)
    refine x_if_ne (t := 32) hC dX10_turnOf_14 (by decide) (fun q => ?_) (fun q => ?_)
    · replace h := h.1 q
      refine x_aload_n (i := 0) (q := 0) hC dX10_turnOf_32 rfl rfl ?_
      refine x_iload_n (i := 1) (q := 1) hC dX10_turnOf_33 rfl rfl ?_
      refine x_callVi (q := (RX10, TX10, 12)) (As := [.int v1]) hC xo_193 rfl h gX10_turnOf_X10_isReady rfl rfl rfl hy_X10_isReady ⟨Nat.le_of_ble_eq_true rfl, Nat.le_of_ble_eq_true rfl⟩ rfl (Nat.le_of_ble_eq_true rfl) rfl dX10_turnOf_34 (fun r7 N8 h => ?_)
      refine x_if_ne (t := 43) hC dX10_turnOf_37 (by decide) (fun q => ?_) (fun q => ?_)
      · replace h := h.1 q
        refine x_aload_n (i := 0) (q := 0) hC dX10_turnOf_43 rfl rfl ?_
        refine x_getr (k := 0) (r := 194) hC xo_193 rfl kf_X10_turnOf_7 dX10_turnOf_44 ?_
        refine x_iconst (v := 0) hC dX10_turnOf_47 (by decide) ?_
        refine x_aload_n (i := 0) (q := 0) hC dX10_turnOf_48 rfl rfl ?_
        refine x_getr (k := 1) (r := 195) hC xo_193 rfl kf_X10_turnOf_13 dX10_turnOf_49 ?_
        refine x_iconst (v := 0) hC dX10_turnOf_52 (by decide) ?_
        refine x_callSv (As := [.ref (x_a g 194), .int (0 : Int32), .ref (x_a g 195), .int (0 : Int32)]) hC h gX10_turnOf_X10_moves rfl rfl rfl hy_X10_moves.2 ⟨Nat.le_of_ble_eq_true rfl, Nat.le_of_ble_eq_true rfl⟩ rfl (Nat.le_of_ble_eq_true rfl) rfl dX10_turnOf_53 (fun N9 h => ?_)
        refine x_aload_n (i := 0) (q := 0) hC dX10_turnOf_56 rfl rfl ?_
        refine x_iload_n (i := 1) (q := 1) hC dX10_turnOf_57 rfl rfl ?_
        refine x_callVi (q := (RX10, TX10, 12)) (As := [.int v1]) hC xo_193 rfl h gX10_turnOf_X10_singUpTo rfl rfl rfl hy_X10_singUpTo ⟨Nat.le_of_ble_eq_true rfl, Nat.le_of_ble_eq_true rfl⟩ rfl (Nat.le_of_ble_eq_true rfl) rfl dX10_turnOf_58 (fun r10 N11 h => ?_)
        refine x_istore_n (i := 3) (ls' := [(3, .int r10), (0, .ref (x_a g 193)), (1, .int v1), (2, .int v2)]) hC dX10_turnOf_61 rfl (by decide) rfl ?_
        refine x_aload_n (i := 0) (q := 1) hC dX10_turnOf_62 rfl rfl ?_
        refine x_getr (k := 0) (r := 194) hC xo_193 rfl kf_X10_turnOf_7 dX10_turnOf_63 ?_
        refine x_iconst (v := 4) hC dX10_turnOf_66 (by decide) ?_
        refine x_iald (len := 239) hC xa_194 h.1 dX10_turnOf_67 ?_
        replace h := h.2
        refine x_istore (ls' := [(4, .int (N11 194 ((4 : Int32)).toNatClampNeg)), (3, .int r10), (0, .ref (x_a g 193)), (1, .int v1), (2, .int v2)]) hC dX10_turnOf_68 (by decide) rfl ?_
        refine x_aload_n (i := 0) (q := 2) hC dX10_turnOf_70 rfl rfl ?_
        refine x_getr (k := 1) (r := 195) hC xo_193 rfl kf_X10_turnOf_13 dX10_turnOf_71 ?_
        refine x_iconst (v := 0) hC dX10_turnOf_74 (by decide) ?_
        refine x_aload_n (i := 0) (q := 2) hC dX10_turnOf_75 rfl rfl ?_
        refine x_getr (k := 0) (r := 194) hC xo_193 rfl kf_X10_turnOf_7 dX10_turnOf_76 ?_
        refine x_iconst (v := 0) hC dX10_turnOf_79 (by decide) ?_
        refine x_callSv (As := [.ref (x_a g 195), .int (0 : Int32), .ref (x_a g 194), .int (0 : Int32)]) hC h gX10_turnOf_X10_moves rfl rfl rfl hy_X10_moves.2 ⟨Nat.le_of_ble_eq_true rfl, Nat.le_of_ble_eq_true rfl⟩ rfl (Nat.le_of_ble_eq_true rfl) rfl dX10_turnOf_80 (fun N12 h => ?_)
        refine x_iload_n (i := 2) (q := 4) hC dX10_turnOf_83 rfl rfl ?_
        refine x_if_ne (t := 91) hC dX10_turnOf_84 (by decide) (fun q => ?_) (fun q => ?_)
        · replace h := h.1 q
          refine x_iload (q := 0) hC dX10_turnOf_91 rfl ?_
          exact x_iret hC hr dX10_turnOf_93 h
        · replace h := h.2 q
          refine x_iload_n (i := 3) (q := 1) hC dX10_turnOf_87 rfl rfl ?_
          refine x_goto (t := 93) hC dX10_turnOf_88 (by decide) ?_
          exact x_iret hC hr dX10_turnOf_93 h
      · replace h := h.2 q
        refine x_bipush (v := -6) hC dX10_turnOf_40 (by decide) ?_
        exact x_iret hC hr dX10_turnOf_42 h
    · replace h := h.2 q
      refine x_aload_n (i := 0) (q := 0) hC dX10_turnOf_17 rfl rfl ?_
      refine x_iload_n (i := 1) (q := 1) hC dX10_turnOf_18 rfl rfl ?_
      refine x_callVi (q := (RX10, TX10, 12)) (As := [.int v1]) hC xo_193 rfl h gX10_turnOf_X10_isWish rfl rfl rfl hy_X10_isWish ⟨Nat.le_of_ble_eq_true rfl, Nat.le_of_ble_eq_true rfl⟩ rfl (Nat.le_of_ble_eq_true rfl) rfl dX10_turnOf_19 (fun r13 N14 h => ?_)
      refine x_if_eq (t := 30) hC dX10_turnOf_22 (by decide) (fun q => ?_) (fun q => ?_)
      · replace h := h.1 q
        refine x_iconst (v := -1) hC dX10_turnOf_30 (by decide) ?_
        exact x_iret hC hr dX10_turnOf_31 h
      · replace h := h.2 q
        refine x_bipush (v := -2) hC dX10_turnOf_25 (by decide) ?_
        refine x_goto (t := 31) hC dX10_turnOf_27 (by decide) ?_
        exact x_iret hC hr dX10_turnOf_31 h
theorem kf_X10_endOfAll_7 : x_okf wsX10_endOfAll RX10 7 10 0 = true := by decide +kernel
def vc_X10_endOfAll (g : xG) (M : xM) (P : Int32 → xM → Prop) (K1 : Int32 → Int32 → xM → Prop) : Prop := (vp_in (4 : Int32) 239 ∧ K1 (M 194 ((4 : Int32)).toNatClampNeg) (0 : Int32) M)
def vc_X10_endOfAll_1 (g : xG) (v1 : Int32) (v2 : Int32) (M : xM) (P : Int32 → xM → Prop) (K1 : Int32 → Int32 → xM → Prop) : Prop := (vp_in (2 : Int32) 239 ∧ (((M 194 ((2 : Int32)).toNatClampNeg) ≤ v2 → P v1 M) ∧ (¬ ((M 194 ((2 : Int32)).toNatClampNeg) ≤ v2) → (mi_X10_isReady g v2 M (fun r1 N2 => ((r1 = 0 → K1 (v1 + (0 : Int32)) (v2 + (1 : Int32)) N2) ∧ (¬ (r1 = 0) → (mi_X10_wishPart g v2 (2 : Int32) N2 (fun r3 N4 => (mi_X10_songPart g r3 (2 : Int32) N4 (fun r5 N6 => K1 (v1 + r5) (v2 + (1 : Int32)) N6)))))))))))
set_option maxRecDepth 100000 in
set_option maxHeartbeats 4000000 in
theorem wk_X10_endOfAll {g : xG}  (M : xM) (P : Int32 → xM → Prop) (I1 : Nat → Int32 → Int32 → xM → Prop) (h0 : vc_X10_endOfAll g M P (fun v1 v2 N => ∃ k, I1 k v1 v2 N)) (h1 : ∀ (n : Nat) (v1 : Int32) (v2 : Int32) (N : xM), I1 n v1 v2 N → vc_X10_endOfAll_1 g v1 v2 N P (fun v1 v2 N => ∃ k, k < n ∧ I1 k v1 v2 N)) : mi_X10_endOfAll g M P := by
  refine x_startI (as := [.ref (x_a g 193)]) (cc := cX10_endOfAll) (n := 3) (ret := (some .int)) (own := RX10) (by decide) rfl rfl (Nat.le_of_ble_eq_true rfl) (fun x hC hr => ?_)
  have L : ∀ n : Nat, (∀ (v1 : Int32) (v2 : Int32) (N : xM), I1 n v1 v2 N → x_W x g 3 (x_Qi x g P) N 9 [(0, .ref (x_a g 193)), (1, .int v1), (2, .int v2)] []) := by
    intro n
    induction n using Nat.strongRecOn with
    | ind n ih =>
      intro v1 v2 M hI
      have h := h1 n v1 v2 M hI
      unfold vc_X10_endOfAll_1 at h
      refine x_iload_n (i := 2) (q := 2) hC dX10_endOfAll_9 rfl rfl ?_
      refine x_aload_n (i := 0) (q := 0) hC dX10_endOfAll_10 rfl rfl ?_
      refine x_getr (k := 0) (r := 194) hC xo_193 rfl kf_X10_endOfAll_7 dX10_endOfAll_11 ?_
      refine x_iconst (v := 2) hC dX10_endOfAll_14 (by decide) ?_
      refine x_iald (len := 239) hC xa_194 h.1 dX10_endOfAll_15 ?_
      replace h := h.2
      refine x_icmp_ge (t := 51) hC dX10_endOfAll_16 (by decide) (fun q => ?_) (fun q => ?_)
      · replace h := h.1 q
        refine x_iload_n (i := 1) (q := 1) hC dX10_endOfAll_51 rfl rfl ?_
        exact x_iret hC hr dX10_endOfAll_52 h
      · replace h := h.2 q
        refine x_iload_n (i := 1) (q := 1) hC dX10_endOfAll_19 rfl rfl ?_
        refine x_aload_n (i := 0) (q := 0) hC dX10_endOfAll_20 rfl rfl ?_
        refine x_iload_n (i := 2) (q := 2) hC dX10_endOfAll_21 rfl rfl ?_
        refine x_callVi (q := (RX10, TX10, 12)) (As := [.int v2]) hC xo_193 rfl h gX10_endOfAll_X10_isReady rfl rfl rfl hy_X10_isReady ⟨Nat.le_of_ble_eq_true rfl, Nat.le_of_ble_eq_true rfl⟩ rfl (Nat.le_of_ble_eq_true rfl) rfl dX10_endOfAll_22 (fun r1 N2 h => ?_)
        refine x_if_eq (t := 42) hC dX10_endOfAll_25 (by decide) (fun q => ?_) (fun q => ?_)
        · replace h := h.1 q
          refine x_iconst (v := 0) hC dX10_endOfAll_42 (by decide) ?_
          refine x_iadd hC dX10_endOfAll_43 ?_
          refine x_istore_n (i := 1) (ls' := [(1, .int (v1 + (0 : Int32))), (0, .ref (x_a g 193)), (2, .int v2)]) hC dX10_endOfAll_44 rfl (by decide) rfl ?_
          refine x_iinc (k := 2) (v' := (v2 + (1 : Int32))) (ls' := [(2, .int (v2 + (1 : Int32))), (1, .int (v1 + (0 : Int32))), (0, .ref (x_a g 193))]) hC dX10_endOfAll_45 rfl rfl (by decide) rfl ?_
          refine x_goto (t := 9) hC dX10_endOfAll_48 (by decide) ?_
          obtain ⟨n_1, hn, h⟩ := h
          exact x_sub [2, 1, 0] rfl ((ih n_1 hn) _ _ _ h)
        · replace h := h.2 q
          refine x_aload_n (i := 0) (q := 0) hC dX10_endOfAll_28 rfl rfl ?_
          refine x_aload_n (i := 0) (q := 0) hC dX10_endOfAll_29 rfl rfl ?_
          refine x_iload_n (i := 2) (q := 2) hC dX10_endOfAll_30 rfl rfl ?_
          refine x_iconst (v := 2) hC dX10_endOfAll_31 (by decide) ?_
          refine x_callVi (q := (RX10, TX10, 12)) (As := [.int v2, .int (2 : Int32)]) hC xo_193 rfl h gX10_endOfAll_X10_wishPart rfl rfl rfl hy_X10_wishPart ⟨Nat.le_of_ble_eq_true rfl, Nat.le_of_ble_eq_true rfl⟩ rfl (Nat.le_of_ble_eq_true rfl) rfl dX10_endOfAll_32 (fun r3 N4 h => ?_)
          refine x_iconst (v := 2) hC dX10_endOfAll_35 (by decide) ?_
          refine x_callVi (q := (RX10, TX10, 12)) (As := [.int r3, .int (2 : Int32)]) hC xo_193 rfl h gX10_endOfAll_X10_songPart rfl rfl rfl hy_X10_songPart ⟨Nat.le_of_ble_eq_true rfl, Nat.le_of_ble_eq_true rfl⟩ rfl (Nat.le_of_ble_eq_true rfl) rfl dX10_endOfAll_36 (fun r5 N6 h => ?_)
          refine x_goto (t := 43) hC dX10_endOfAll_39 (by decide) ?_
          refine x_iadd hC dX10_endOfAll_43 ?_
          refine x_istore_n (i := 1) (ls' := [(1, .int (v1 + r5)), (0, .ref (x_a g 193)), (2, .int v2)]) hC dX10_endOfAll_44 rfl (by decide) rfl ?_
          refine x_iinc (k := 2) (v' := (v2 + (1 : Int32))) (ls' := [(2, .int (v2 + (1 : Int32))), (1, .int (v1 + r5)), (0, .ref (x_a g 193))]) hC dX10_endOfAll_45 rfl rfl (by decide) rfl ?_
          refine x_goto (t := 9) hC dX10_endOfAll_48 (by decide) ?_
          obtain ⟨n_1, hn, h⟩ := h
          exact x_sub [2, 1, 0] rfl ((ih n_1 hn) _ _ _ h)
  have h := h0
  unfold vc_X10_endOfAll at h
  refine x_aload_n (i := 0) (q := 0) hC dX10_endOfAll_0 rfl rfl ?_
  refine x_getr (k := 0) (r := 194) hC xo_193 rfl kf_X10_endOfAll_7 dX10_endOfAll_1 ?_
  refine x_iconst (v := 4) hC dX10_endOfAll_4 (by decide) ?_
  refine x_iald (len := 239) hC xa_194 h.1 dX10_endOfAll_5 ?_
  replace h := h.2
  refine x_istore_n (i := 1) (ls' := [(1, .int (M 194 ((4 : Int32)).toNatClampNeg)), (0, .ref (x_a g 193))]) hC dX10_endOfAll_6 rfl (by decide) rfl ?_
  refine x_iconst (v := 0) hC dX10_endOfAll_7 (by decide) ?_
  refine x_istore_n (i := 2) (ls' := [(2, .int (0 : Int32)), (1, .int (M 194 ((4 : Int32)).toNatClampNeg)), (0, .ref (x_a g 193))]) hC dX10_endOfAll_8 rfl (by decide) rfl ?_
  obtain ⟨n_1, h⟩ := h
  exact x_sub [2, 1, 0] rfl ((L n_1) _ _ _ h)
theorem kf_X10_beginWithout_7 : x_okf wsX10_beginWithout RX10 7 10 0 = true := by decide +kernel
theorem kf_X10_beginWithout_13 : x_okf wsX10_beginWithout RX10 13 10 1 = true := by decide +kernel
def vc_X10_beginWithout (g : xG) (v1 : Int32) (v2 : Int32) (M : xM) (P : Int32 → xM → Prop) : Prop := (mi_X10_moves g 194 (0 : Int32) 195 (0 : Int32) M (fun N1 => ((v2 = (-6 : Int32) → (mi_X10_singUpTo g v1 N1 (fun r2 N3 => (vp_in (4 : Int32) 239 ∧ (mi_X10_moves g 195 (0 : Int32) 194 (0 : Int32) N3 (fun N4 => P (N3 194 ((4 : Int32)).toNatClampNeg) N4)))))) ∧ (¬ (v2 = (-6 : Int32)) → (mi_X10_remove g v2 N1 (fun N5 => ((v1 ≤ v2 → (mi_X10_singUpTo g (v1 - (0 : Int32)) N5 (fun r6 N7 => (vp_in (4 : Int32) 239 ∧ (mi_X10_moves g 195 (0 : Int32) 194 (0 : Int32) N7 (fun N8 => P (N7 194 ((4 : Int32)).toNatClampNeg) N8)))))) ∧ (¬ (v1 ≤ v2) → (mi_X10_singUpTo g (v1 - (1 : Int32)) N5 (fun r9 N10 => (vp_in (4 : Int32) 239 ∧ (mi_X10_moves g 195 (0 : Int32) 194 (0 : Int32) N10 (fun N11 => P (N10 194 ((4 : Int32)).toNatClampNeg) N11)))))))))))))
set_option maxRecDepth 100000 in
set_option maxHeartbeats 4000000 in
theorem wk_X10_beginWithout {g : xG} (v1 : Int32) (v2 : Int32) (M : xM) (P : Int32 → xM → Prop) (h0 : vc_X10_beginWithout g v1 v2 M P ) : mi_X10_beginWithout g v1 v2 M P := by
  refine x_startI (as := [.ref (x_a g 193), .int v1, .int v2]) (cc := cX10_beginWithout) (n := 5) (ret := (some .int)) (own := RX10) (by decide) rfl rfl (Nat.le_of_ble_eq_true rfl) (fun x hC hr => ?_)
  have h := h0
  unfold vc_X10_beginWithout at h
  refine x_aload_n (i := 0) (q := 0) hC dX10_beginWithout_0 rfl rfl ?_
  refine x_getr (k := 0) (r := 194) hC xo_193 rfl kf_X10_beginWithout_7 dX10_beginWithout_1 ?_
  refine x_iconst (v := 0) hC dX10_beginWithout_4 (by decide) ?_
  refine x_aload_n (i := 0) (q := 0) hC dX10_beginWithout_5 rfl rfl ?_
  refine x_getr (k := 1) (r := 195) hC xo_193 rfl kf_X10_beginWithout_13 dX10_beginWithout_6 ?_
  refine x_iconst (v := 0) hC dX10_beginWithout_9 (by decide) ?_
  refine x_callSv (As := [.ref (x_a g 194), .int (0 : Int32), .ref (x_a g 195), .int (0 : Int32)]) hC h gX10_beginWithout_X10_moves rfl rfl rfl hy_X10_moves.2 ⟨Nat.le_of_ble_eq_true rfl, Nat.le_of_ble_eq_true rfl⟩ rfl (Nat.le_of_ble_eq_true rfl) rfl dX10_beginWithout_10 (fun N1 h => ?_)
  refine x_iload_n (i := 1) (q := 1) hC dX10_beginWithout_13 rfl rfl ?_
  refine x_istore_n (i := 3) (ls' := [(3, .int v1), (0, .ref (x_a g 193)), (1, .int v1), (2, .int v2)]) hC dX10_beginWithout_14 rfl (by decide) rfl ?_
  refine x_iload_n (i := 2) (q := 3) hC dX10_beginWithout_15 rfl rfl ?_
  refine x_bipush (v := -6) hC dX10_beginWithout_16 (by decide) ?_
  refine x_icmp_eq (t := 39) hC dX10_beginWithout_18 (by decide) (fun q => ?_) (fun q => ?_)
  · replace h := h.1 q
    refine x_aload_n (i := 0) (q := 1) hC dX10_beginWithout_39 rfl rfl ?_
    refine x_iload_n (i := 3) (q := 0) hC dX10_beginWithout_40 rfl rfl ?_
    refine x_callVi (q := (RX10, TX10, 12)) (As := [.int v1]) hC xo_193 rfl h gX10_beginWithout_X10_singUpTo rfl rfl rfl hy_X10_singUpTo ⟨Nat.le_of_ble_eq_true rfl, Nat.le_of_ble_eq_true rfl⟩ rfl (Nat.le_of_ble_eq_true rfl) rfl dX10_beginWithout_41 (fun r2 N3 h => ?_)
    refine x_pop hC dX10_beginWithout_44 rfl ?_
    refine x_aload_n (i := 0) (q := 1) hC dX10_beginWithout_45 rfl rfl ?_
    refine x_getr (k := 0) (r := 194) hC xo_193 rfl kf_X10_beginWithout_7 dX10_beginWithout_46 ?_
    refine x_iconst (v := 4) hC dX10_beginWithout_49 (by decide) ?_
    refine x_iald (len := 239) hC xa_194 h.1 dX10_beginWithout_50 ?_
    replace h := h.2
    refine x_istore (ls' := [(4, .int (N3 194 ((4 : Int32)).toNatClampNeg)), (3, .int v1), (0, .ref (x_a g 193)), (1, .int v1), (2, .int v2)]) hC dX10_beginWithout_51 (by decide) rfl ?_
    refine x_aload_n (i := 0) (q := 2) hC dX10_beginWithout_53 rfl rfl ?_
    refine x_getr (k := 1) (r := 195) hC xo_193 rfl kf_X10_beginWithout_13 dX10_beginWithout_54 ?_
    refine x_iconst (v := 0) hC dX10_beginWithout_57 (by decide) ?_
    refine x_aload_n (i := 0) (q := 2) hC dX10_beginWithout_58 rfl rfl ?_
    refine x_getr (k := 0) (r := 194) hC xo_193 rfl kf_X10_beginWithout_7 dX10_beginWithout_59 ?_
    refine x_iconst (v := 0) hC dX10_beginWithout_62 (by decide) ?_
    refine x_callSv (As := [.ref (x_a g 195), .int (0 : Int32), .ref (x_a g 194), .int (0 : Int32)]) hC h gX10_beginWithout_X10_moves rfl rfl rfl hy_X10_moves.2 ⟨Nat.le_of_ble_eq_true rfl, Nat.le_of_ble_eq_true rfl⟩ rfl (Nat.le_of_ble_eq_true rfl) rfl dX10_beginWithout_63 (fun N4 h => ?_)
    refine x_iload (q := 0) hC dX10_beginWithout_66 rfl ?_
    exact x_iret hC hr dX10_beginWithout_68 h
  · replace h := h.2 q
    refine x_aload_n (i := 0) (q := 1) hC dX10_beginWithout_21 rfl rfl ?_
    refine x_iload_n (i := 2) (q := 3) hC dX10_beginWithout_22 rfl rfl ?_
    refine x_callVv (q := (RX10, TX10, 12)) (As := [.int v2]) hC xo_193 rfl h gX10_beginWithout_X10_remove rfl rfl rfl hy_X10_remove ⟨Nat.le_of_ble_eq_true rfl, Nat.le_of_ble_eq_true rfl⟩ rfl (Nat.le_of_ble_eq_true rfl) rfl dX10_beginWithout_23 (fun N5 h => ?_)
    refine x_iload_n (i := 3) (q := 0) hC dX10_beginWithout_26 rfl rfl ?_
    refine x_iload_n (i := 2) (q := 3) hC dX10_beginWithout_27 rfl rfl ?_
    refine x_iload_n (i := 1) (q := 2) hC dX10_beginWithout_28 rfl rfl ?_
    refine x_icmp_ge (t := 36) hC dX10_beginWithout_29 (by decide) (fun q => ?_) (fun q => ?_)
    · replace h := h.1 q
      refine x_iconst (v := 0) hC dX10_beginWithout_36 (by decide) ?_
      refine x_isub hC dX10_beginWithout_37 ?_
      refine x_istore_n (i := 3) (ls' := [(3, .int (v1 - (0 : Int32))), (0, .ref (x_a g 193)), (1, .int v1), (2, .int v2)]) hC dX10_beginWithout_38 rfl (by decide) rfl ?_
      refine x_aload_n (i := 0) (q := 1) hC dX10_beginWithout_39 rfl rfl ?_
      refine x_iload_n (i := 3) (q := 0) hC dX10_beginWithout_40 rfl rfl ?_
      refine x_callVi (q := (RX10, TX10, 12)) (As := [.int (v1 - (0 : Int32))]) hC xo_193 rfl h gX10_beginWithout_X10_singUpTo rfl rfl rfl hy_X10_singUpTo ⟨Nat.le_of_ble_eq_true rfl, Nat.le_of_ble_eq_true rfl⟩ rfl (Nat.le_of_ble_eq_true rfl) rfl dX10_beginWithout_41 (fun r6 N7 h => ?_)
      refine x_pop hC dX10_beginWithout_44 rfl ?_
      refine x_aload_n (i := 0) (q := 1) hC dX10_beginWithout_45 rfl rfl ?_
      refine x_getr (k := 0) (r := 194) hC xo_193 rfl kf_X10_beginWithout_7 dX10_beginWithout_46 ?_
      refine x_iconst (v := 4) hC dX10_beginWithout_49 (by decide) ?_
      refine x_iald (len := 239) hC xa_194 h.1 dX10_beginWithout_50 ?_
      replace h := h.2
      refine x_istore (ls' := [(4, .int (N7 194 ((4 : Int32)).toNatClampNeg)), (3, .int (v1 - (0 : Int32))), (0, .ref (x_a g 193)), (1, .int v1), (2, .int v2)]) hC dX10_beginWithout_51 (by decide) rfl ?_
      refine x_aload_n (i := 0) (q := 2) hC dX10_beginWithout_53 rfl rfl ?_
      refine x_getr (k := 1) (r := 195) hC xo_193 rfl kf_X10_beginWithout_13 dX10_beginWithout_54 ?_
      refine x_iconst (v := 0) hC dX10_beginWithout_57 (by decide) ?_
      refine x_aload_n (i := 0) (q := 2) hC dX10_beginWithout_58 rfl rfl ?_
      refine x_getr (k := 0) (r := 194) hC xo_193 rfl kf_X10_beginWithout_7 dX10_beginWithout_59 ?_
      refine x_iconst (v := 0) hC dX10_beginWithout_62 (by decide) ?_
      refine x_callSv (As := [.ref (x_a g 195), .int (0 : Int32), .ref (x_a g 194), .int (0 : Int32)]) hC h gX10_beginWithout_X10_moves rfl rfl rfl hy_X10_moves.2 ⟨Nat.le_of_ble_eq_true rfl, Nat.le_of_ble_eq_true rfl⟩ rfl (Nat.le_of_ble_eq_true rfl) rfl dX10_beginWithout_63 (fun N8 h => ?_)
      refine x_iload (q := 0) hC dX10_beginWithout_66 rfl ?_
      exact x_iret hC hr dX10_beginWithout_68 h
    · replace h := h.2 q
      refine x_iconst (v := 1) hC dX10_beginWithout_32 (by decide) ?_
      refine x_goto (t := 37) hC dX10_beginWithout_33 (by decide) ?_
      refine x_isub hC dX10_beginWithout_37 ?_
      refine x_istore_n (i := 3) (ls' := [(3, .int (v1 - (1 : Int32))), (0, .ref (x_a g 193)), (1, .int v1), (2, .int v2)]) hC dX10_beginWithout_38 rfl (by decide) rfl ?_
      refine x_aload_n (i := 0) (q := 1) hC dX10_beginWithout_39 rfl rfl ?_
      refine x_iload_n (i := 3) (q := 0) hC dX10_beginWithout_40 rfl rfl ?_
      refine x_callVi (q := (RX10, TX10, 12)) (As := [.int (v1 - (1 : Int32))]) hC xo_193 rfl h gX10_beginWithout_X10_singUpTo rfl rfl rfl hy_X10_singUpTo ⟨Nat.le_of_ble_eq_true rfl, Nat.le_of_ble_eq_true rfl⟩ rfl (Nat.le_of_ble_eq_true rfl) rfl dX10_beginWithout_41 (fun r9 N10 h => ?_)
      refine x_pop hC dX10_beginWithout_44 rfl ?_
      refine x_aload_n (i := 0) (q := 1) hC dX10_beginWithout_45 rfl rfl ?_
      refine x_getr (k := 0) (r := 194) hC xo_193 rfl kf_X10_beginWithout_7 dX10_beginWithout_46 ?_
      refine x_iconst (v := 4) hC dX10_beginWithout_49 (by decide) ?_
      refine x_iald (len := 239) hC xa_194 h.1 dX10_beginWithout_50 ?_
      replace h := h.2
      refine x_istore (ls' := [(4, .int (N10 194 ((4 : Int32)).toNatClampNeg)), (3, .int (v1 - (1 : Int32))), (0, .ref (x_a g 193)), (1, .int v1), (2, .int v2)]) hC dX10_beginWithout_51 (by decide) rfl ?_
      refine x_aload_n (i := 0) (q := 2) hC dX10_beginWithout_53 rfl rfl ?_
      refine x_getr (k := 1) (r := 195) hC xo_193 rfl kf_X10_beginWithout_13 dX10_beginWithout_54 ?_
      refine x_iconst (v := 0) hC dX10_beginWithout_57 (by decide) ?_
      refine x_aload_n (i := 0) (q := 2) hC dX10_beginWithout_58 rfl rfl ?_
      refine x_getr (k := 0) (r := 194) hC xo_193 rfl kf_X10_beginWithout_7 dX10_beginWithout_59 ?_
      refine x_iconst (v := 0) hC dX10_beginWithout_62 (by decide) ?_
      refine x_callSv (As := [.ref (x_a g 195), .int (0 : Int32), .ref (x_a g 194), .int (0 : Int32)]) hC h gX10_beginWithout_X10_moves rfl rfl rfl hy_X10_moves.2 ⟨Nat.le_of_ble_eq_true rfl, Nat.le_of_ble_eq_true rfl⟩ rfl (Nat.le_of_ble_eq_true rfl) rfl dX10_beginWithout_63 (fun N11 h => ?_)
      refine x_iload (q := 0) hC dX10_beginWithout_66 rfl ?_
      exact x_iret hC hr dX10_beginWithout_68 h
theorem kf_X10_heldUpBy_7 : x_okf wsX10_heldUpBy RX10 7 10 0 = true := by decide +kernel
def vc_X10_heldUpBy (g : xG) (v1 : Int32) (v2 : Int32) (M : xM) (P : Int32 → xM → Prop) (K1 : Int32 → Int32 → Int32 → Int32 → Int32 → Int32 → xM → Prop) : Prop := (mi_X10_isWish g v1 M (fun r1 N2 => ((r1 = 0 → (mi_X10_isWish g v1 N2 (fun r3 N4 => ((r3 = 0 → P (-1 : Int32) N4) ∧ (¬ (r3 = 0) → P (-2 : Int32) N4))))) ∧ (¬ (r1 = 0) → (mi_X10_within g v2 (0 : Int32) (1 : Int32) N2 (fun r5 N6 => ((¬ r5 = 0 → (mi_X10_isReady g v1 N6 (fun r7 N8 => ((r7 = 0 → P (-6 : Int32) N8) ∧ (¬ (r7 = 0) → (vp_in (2 : Int32) 239 ∧ ((¬ (N8 194 ((2 : Int32)).toNatClampNeg) = (1 : Int32) → (mi_X10_beginWithout g v1 (-6 : Int32) N8 (fun r9 N10 => K1 v1 v2 r9 (-6 : Int32) (0 : Int32) (0 : Int32) N10))) ∧ ((N8 194 ((2 : Int32)).toNatClampNeg) = (1 : Int32) → P (-6 : Int32) N8)))))))) ∧ (r5 = 0 → (mi_X10_isWish g v1 N6 (fun r11 N12 => ((r11 = 0 → P (-1 : Int32) N12) ∧ (¬ (r11 = 0) → P (-2 : Int32) N12))))))))))))
def vc_X10_heldUpBy_1 (g : xG) (v1 : Int32) (v2 : Int32) (v3 : Int32) (v4 : Int32) (v5 : Int32) (v6 : Int32) (M : xM) (P : Int32 → xM → Prop) (K1 : Int32 → Int32 → Int32 → Int32 → Int32 → Int32 → xM → Prop) : Prop := (vp_in (2 : Int32) 239 ∧ (((M 194 ((2 : Int32)).toNatClampNeg) ≤ v6 → ((¬ v2 = 0 → P v5 M) ∧ (v2 = 0 → P v4 M))) ∧ (¬ ((M 194 ((2 : Int32)).toNatClampNeg) ≤ v6) → ((v6 = v1 → K1 v1 v2 v3 v4 v5 (v6 + (1 : Int32)) M) ∧ (¬ (v6 = v1) → (mi_X10_beginWithout g v1 v6 M (fun r13 N14 => ((v4 = (-6 : Int32) → K1 v1 v2 v3 v6 (v3 - r13) (v6 + (1 : Int32)) N14) ∧ (¬ (v4 = (-6 : Int32)) → (((v3 - r13) ≤ v5 → K1 v1 v2 v3 v4 v5 (v6 + (1 : Int32)) N14) ∧ (¬ ((v3 - r13) ≤ v5) → K1 v1 v2 v3 v6 (v3 - r13) (v6 + (1 : Int32)) N14)))))))))))
set_option maxRecDepth 100000 in
set_option maxHeartbeats 4000000 in
theorem wk_X10_heldUpBy {g : xG} (v1 : Int32) (v2 : Int32) (M : xM) (P : Int32 → xM → Prop) (I1 : Nat → Int32 → Int32 → Int32 → Int32 → Int32 → Int32 → xM → Prop) (h0 : vc_X10_heldUpBy g v1 v2 M P (fun v1 v2 v3 v4 v5 v6 N => ∃ k, I1 k v1 v2 v3 v4 v5 v6 N)) (h1 : ∀ (n : Nat) (v1 : Int32) (v2 : Int32) (v3 : Int32) (v4 : Int32) (v5 : Int32) (v6 : Int32) (N : xM), I1 n v1 v2 v3 v4 v5 v6 N → vc_X10_heldUpBy_1 g v1 v2 v3 v4 v5 v6 N P (fun v1 v2 v3 v4 v5 v6 N => ∃ k, k < n ∧ I1 k v1 v2 v3 v4 v5 v6 N)) : mi_X10_heldUpBy g v1 v2 M P := by
  refine x_startI (as := [.ref (x_a g 193), .int v1, .int v2]) (cc := cX10_heldUpBy) (n := 9) (ret := (some .int)) (own := RX10) (by decide) rfl rfl (Nat.le_of_ble_eq_true rfl) (fun x hC hr => ?_)
  have L : ∀ n : Nat, (∀ (v1 : Int32) (v2 : Int32) (v3 : Int32) (v4 : Int32) (v5 : Int32) (v6 : Int32) (N : xM), I1 n v1 v2 v3 v4 v5 v6 N → x_W x g 9 (x_Qi x g P) N 71 [(0, .ref (x_a g 193)), (1, .int v1), (2, .int v2), (3, .int v3), (4, .int v4), (5, .int v5), (6, .int v6)] []) := by
    intro n
    induction n using Nat.strongRecOn with
    | ind n ih =>
      intro v1 v2 v3 v4 v5 v6 M hI
      have h := h1 n v1 v2 v3 v4 v5 v6 M hI
      unfold vc_X10_heldUpBy_1 at h
      refine x_iload (q := 6) hC dX10_heldUpBy_71 rfl ?_
      refine x_aload_n (i := 0) (q := 0) hC dX10_heldUpBy_73 rfl rfl ?_
      refine x_getr (k := 0) (r := 194) hC xo_193 rfl kf_X10_heldUpBy_7 dX10_heldUpBy_74 ?_
      refine x_iconst (v := 2) hC dX10_heldUpBy_77 (by decide) ?_
      refine x_iald (len := 239) hC xa_194 h.1 dX10_heldUpBy_78 ?_
      replace h := h.2
      refine x_icmp_ge (t := 154) hC dX10_heldUpBy_79 (by decide) (fun q => ?_) (fun q => ?_)
      · replace h := h.1 q
        refine x_iload_n (i := 2) (q := 2) hC dX10_heldUpBy_154 rfl rfl ?_
        refine x_if_ne (t := 163) hC dX10_heldUpBy_155 (by decide) (fun q => ?_) (fun q => ?_)
        · replace h := h.1 q
          refine x_iload (q := 5) hC dX10_heldUpBy_163 rfl ?_
          exact x_iret hC hr dX10_heldUpBy_165 h
        · replace h := h.2 q
          refine x_iload (q := 4) hC dX10_heldUpBy_158 rfl ?_
          refine x_goto (t := 165) hC dX10_heldUpBy_160 (by decide) ?_
          exact x_iret hC hr dX10_heldUpBy_165 h
      · replace h := h.2 q
        refine x_iload (q := 6) hC dX10_heldUpBy_82 rfl ?_
        refine x_iload_n (i := 1) (q := 1) hC dX10_heldUpBy_84 rfl rfl ?_
        refine x_icmp_eq (t := 148) hC dX10_heldUpBy_85 (by decide) (fun q => ?_) (fun q => ?_)
        · replace h := h.1 q
          refine x_iinc (k := 6) (v' := (v6 + (1 : Int32))) (ls' := [(6, .int (v6 + (1 : Int32))), (0, .ref (x_a g 193)), (1, .int v1), (2, .int v2), (3, .int v3), (4, .int v4), (5, .int v5)]) hC dX10_heldUpBy_148 rfl rfl (by decide) rfl ?_
          refine x_goto (t := 71) hC dX10_heldUpBy_151 (by decide) ?_
          obtain ⟨n_1, hn, h⟩ := h
          exact x_sub [1, 2, 3, 4, 5, 6, 0] rfl ((ih n_1 hn) _ _ _ _ _ _ _ h)
        · replace h := h.2 q
          refine x_iload_n (i := 3) (q := 3) hC dX10_heldUpBy_88 rfl rfl ?_
          refine x_aload_n (i := 0) (q := 0) hC dX10_heldUpBy_89 rfl rfl ?_
          refine x_iload_n (i := 1) (q := 1) hC dX10_heldUpBy_90 rfl rfl ?_
          refine x_iload (q := 6) hC dX10_heldUpBy_91 rfl ?_
          refine x_callVi (q := (RX10, TX10, 12)) (As := [.int v1, .int v6]) hC xo_193 rfl h gX10_heldUpBy_X10_beginWithout rfl rfl rfl hy_X10_beginWithout ⟨Nat.le_of_ble_eq_true rfl, Nat.le_of_ble_eq_true rfl⟩ rfl (Nat.le_of_ble_eq_true rfl) rfl dX10_heldUpBy_93 (fun r13 N14 h => ?_)
          refine x_isub hC dX10_heldUpBy_96 ?_
          refine x_istore (ls' := [(7, .int (v3 - r13)), (0, .ref (x_a g 193)), (1, .int v1), (2, .int v2), (3, .int v3), (4, .int v4), (5, .int v5), (6, .int v6)]) hC dX10_heldUpBy_97 (by decide) rfl ?_
          refine x_iload (q := 5) hC dX10_heldUpBy_99 rfl ?_
          refine x_bipush (v := -6) hC dX10_heldUpBy_101 (by decide) ?_
          refine x_icmp_eq (t := 113) hC dX10_heldUpBy_103 (by decide) (fun q => ?_) (fun q => ?_)
          · replace h := h.1 q
            refine x_iconst (v := 1) hC dX10_heldUpBy_113 (by decide) ?_
            refine x_goto (t := 118) hC dX10_heldUpBy_114 (by decide) ?_
            refine x_istore (ls' := [(8, .int (1 : Int32)), (7, .int (v3 - r13)), (0, .ref (x_a g 193)), (1, .int v1), (2, .int v2), (3, .int v3), (4, .int v4), (5, .int v5), (6, .int v6)]) hC dX10_heldUpBy_118 (by decide) rfl ?_
            refine x_iload (q := 0) hC dX10_heldUpBy_120 rfl ?_
            refine x_if_eq (t := 130) hC dX10_heldUpBy_122 (by decide) (fun q => absurd q (by decide)) (fun _ => ?_)
            refine x_iload (q := 8) hC dX10_heldUpBy_125 rfl ?_
            refine x_goto (t := 132) hC dX10_heldUpBy_127 (by decide) ?_
            refine x_istore (ls' := [(4, .int v6), (8, .int (1 : Int32)), (7, .int (v3 - r13)), (0, .ref (x_a g 193)), (1, .int v1), (2, .int v2), (3, .int v3), (5, .int v5), (6, .int v6)]) hC dX10_heldUpBy_132 (by decide) rfl ?_
            refine x_iload (q := 1) hC dX10_heldUpBy_134 rfl ?_
            refine x_if_eq (t := 144) hC dX10_heldUpBy_136 (by decide) (fun q => absurd q (by decide)) (fun _ => ?_)
            refine x_iload (q := 2) hC dX10_heldUpBy_139 rfl ?_
            refine x_goto (t := 146) hC dX10_heldUpBy_141 (by decide) ?_
            refine x_istore (ls' := [(5, .int (v3 - r13)), (4, .int v6), (8, .int (1 : Int32)), (7, .int (v3 - r13)), (0, .ref (x_a g 193)), (1, .int v1), (2, .int v2), (3, .int v3), (6, .int v6)]) hC dX10_heldUpBy_146 (by decide) rfl ?_
            refine x_iinc (k := 8) (v' := (v6 + (1 : Int32))) (ls' := [(6, .int (v6 + (1 : Int32))), (5, .int (v3 - r13)), (4, .int v6), (8, .int (1 : Int32)), (7, .int (v3 - r13)), (0, .ref (x_a g 193)), (1, .int v1), (2, .int v2), (3, .int v3)]) hC dX10_heldUpBy_148 rfl rfl (by decide) rfl ?_
            refine x_goto (t := 71) hC dX10_heldUpBy_151 (by decide) ?_
            obtain ⟨n_1, hn, h⟩ := h
            exact x_sub [5, 6, 7, 8, 2, 1, 0] rfl ((ih n_1 hn) _ _ _ _ _ _ _ h)
          · replace h := h.2 q
            refine x_iload (q := 0) hC dX10_heldUpBy_106 rfl ?_
            refine x_iload (q := 6) hC dX10_heldUpBy_108 rfl ?_
            refine x_icmp_le (t := 117) hC dX10_heldUpBy_110 (by decide) (fun q => ?_) (fun q => ?_)
            · replace h := h.1 q
              refine x_iconst (v := 0) hC dX10_heldUpBy_117 (by decide) ?_
              refine x_istore (ls' := [(8, .int (0 : Int32)), (7, .int (v3 - r13)), (0, .ref (x_a g 193)), (1, .int v1), (2, .int v2), (3, .int v3), (4, .int v4), (5, .int v5), (6, .int v6)]) hC dX10_heldUpBy_118 (by decide) rfl ?_
              refine x_iload (q := 0) hC dX10_heldUpBy_120 rfl ?_
              refine x_if_eq (t := 130) hC dX10_heldUpBy_122 (by decide) (fun _ => ?_) (fun q => absurd (by decide) q)
              refine x_iload (q := 6) hC dX10_heldUpBy_130 rfl ?_
              refine x_istore (ls' := [(4, .int v4), (8, .int (0 : Int32)), (7, .int (v3 - r13)), (0, .ref (x_a g 193)), (1, .int v1), (2, .int v2), (3, .int v3), (5, .int v5), (6, .int v6)]) hC dX10_heldUpBy_132 (by decide) rfl ?_
              refine x_iload (q := 1) hC dX10_heldUpBy_134 rfl ?_
              refine x_if_eq (t := 144) hC dX10_heldUpBy_136 (by decide) (fun _ => ?_) (fun q => absurd (by decide) q)
              refine x_iload (q := 7) hC dX10_heldUpBy_144 rfl ?_
              refine x_istore (ls' := [(5, .int v5), (4, .int v4), (8, .int (0 : Int32)), (7, .int (v3 - r13)), (0, .ref (x_a g 193)), (1, .int v1), (2, .int v2), (3, .int v3), (6, .int v6)]) hC dX10_heldUpBy_146 (by decide) rfl ?_
              refine x_iinc (k := 8) (v' := (v6 + (1 : Int32))) (ls' := [(6, .int (v6 + (1 : Int32))), (5, .int v5), (4, .int v4), (8, .int (0 : Int32)), (7, .int (v3 - r13)), (0, .ref (x_a g 193)), (1, .int v1), (2, .int v2), (3, .int v3)]) hC dX10_heldUpBy_148 rfl rfl (by decide) rfl ?_
              refine x_goto (t := 71) hC dX10_heldUpBy_151 (by decide) ?_
              obtain ⟨n_1, hn, h⟩ := h
              exact x_sub [5, 6, 7, 8, 2, 1, 0] rfl ((ih n_1 hn) _ _ _ _ _ _ _ h)
            · replace h := h.2 q
              refine x_iconst (v := 1) hC dX10_heldUpBy_113 (by decide) ?_
              refine x_goto (t := 118) hC dX10_heldUpBy_114 (by decide) ?_
              refine x_istore (ls' := [(8, .int (1 : Int32)), (7, .int (v3 - r13)), (0, .ref (x_a g 193)), (1, .int v1), (2, .int v2), (3, .int v3), (4, .int v4), (5, .int v5), (6, .int v6)]) hC dX10_heldUpBy_118 (by decide) rfl ?_
              refine x_iload (q := 0) hC dX10_heldUpBy_120 rfl ?_
              refine x_if_eq (t := 130) hC dX10_heldUpBy_122 (by decide) (fun q => absurd q (by decide)) (fun _ => ?_)
              refine x_iload (q := 8) hC dX10_heldUpBy_125 rfl ?_
              refine x_goto (t := 132) hC dX10_heldUpBy_127 (by decide) ?_
              refine x_istore (ls' := [(4, .int v6), (8, .int (1 : Int32)), (7, .int (v3 - r13)), (0, .ref (x_a g 193)), (1, .int v1), (2, .int v2), (3, .int v3), (5, .int v5), (6, .int v6)]) hC dX10_heldUpBy_132 (by decide) rfl ?_
              refine x_iload (q := 1) hC dX10_heldUpBy_134 rfl ?_
              refine x_if_eq (t := 144) hC dX10_heldUpBy_136 (by decide) (fun q => absurd q (by decide)) (fun _ => ?_)
              refine x_iload (q := 2) hC dX10_heldUpBy_139 rfl ?_
              refine x_goto (t := 146) hC dX10_heldUpBy_141 (by decide) ?_
              refine x_istore (ls' := [(5, .int (v3 - r13)), (4, .int v6), (8, .int (1 : Int32)), (7, .int (v3 - r13)), (0, .ref (x_a g 193)), (1, .int v1), (2, .int v2), (3, .int v3), (6, .int v6)]) hC dX10_heldUpBy_146 (by decide) rfl ?_
              refine x_iinc (k := 8) (v' := (v6 + (1 : Int32))) (ls' := [(6, .int (v6 + (1 : Int32))), (5, .int (v3 - r13)), (4, .int v6), (8, .int (1 : Int32)), (7, .int (v3 - r13)), (0, .ref (x_a g 193)), (1, .int v1), (2, .int v2), (3, .int v3)]) hC dX10_heldUpBy_148 rfl rfl (by decide) rfl ?_
              refine x_goto (t := 71) hC dX10_heldUpBy_151 (by decide) ?_
              obtain ⟨n_1, hn, h⟩ := h
              exact x_sub [5, 6, 7, 8, 2, 1, 0] rfl ((ih n_1 hn) _ _ _ _ _ _ _ h)
  have h := h0
  unfold vc_X10_heldUpBy at h
  refine x_aload_n (i := 0) (q := 0) hC dX10_heldUpBy_0 rfl rfl ?_
  refine x_iload_n (i := 1) (q := 1) hC dX10_heldUpBy_1 rfl rfl ?_
  refine x_callVi (q := (RX10, TX10, 12)) (As := [.int v1]) hC xo_193 rfl h gX10_heldUpBy_X10_isWish rfl rfl rfl hy_X10_isWish ⟨Nat.le_of_ble_eq_true rfl, Nat.le_of_ble_eq_true rfl⟩ rfl (Nat.le_of_ble_eq_true rfl) rfl dX10_heldUpBy_2 (fun r1 N2 h => ?_)
  refine x_if_eq (t := 17) hC dX10_heldUpBy_5 (by decide) (fun q => ?_) (fun q => ?_)
  · replace h := h.1 q
    refine x_aload_n (i := 0) (q := 0) hC dX10_heldUpBy_17 rfl rfl ?_
    refine x_iload_n (i := 1) (q := 1) hC dX10_heldUpBy_18 rfl rfl ?_
    refine x_callVi (q := (RX10, TX10, 12)) (As := [.int v1]) hC xo_193 rfl h gX10_heldUpBy_X10_isWish rfl rfl rfl hy_X10_isWish ⟨Nat.le_of_ble_eq_true rfl, Nat.le_of_ble_eq_true rfl⟩ rfl (Nat.le_of_ble_eq_true rfl) rfl dX10_heldUpBy_19 (fun r3 N4 h => ?_)
    refine x_if_eq (t := 30) hC dX10_heldUpBy_22 (by decide) (fun q => ?_) (fun q => ?_)
    · replace h := h.1 q
      refine x_iconst (v := -1) hC dX10_heldUpBy_30 (by decide) ?_
      exact x_iret hC hr dX10_heldUpBy_31 h
    · replace h := h.2 q
      refine x_bipush (v := -2) hC dX10_heldUpBy_25 (by decide) ?_
      refine x_goto (t := 31) hC dX10_heldUpBy_27 (by decide) ?_
      exact x_iret hC hr dX10_heldUpBy_31 h
  · replace h := h.2 q
    refine x_iload_n (i := 2) (q := 2) hC dX10_heldUpBy_8 rfl rfl ?_
    refine x_iconst (v := 0) hC dX10_heldUpBy_9 (by decide) ?_
    refine x_iconst (v := 1) hC dX10_heldUpBy_10 (by decide) ?_
    refine x_callSi (As := [.int v2, .int (0 : Int32), .int (1 : Int32)]) hC h gX10_heldUpBy_X10_within rfl rfl rfl hy_X10_within.2 ⟨Nat.le_of_ble_eq_true rfl, Nat.le_of_ble_eq_true rfl⟩ rfl (Nat.le_of_ble_eq_true rfl) rfl dX10_heldUpBy_11 (fun r5 N6 h => ?_)
    refine x_if_ne (t := 32) hC dX10_heldUpBy_14 (by decide) (fun q => ?_) (fun q => ?_)
    · replace h := h.1 q
      refine x_aload_n (i := 0) (q := 0) hC dX10_heldUpBy_32 rfl rfl ?_
      refine x_iload_n (i := 1) (q := 1) hC dX10_heldUpBy_33 rfl rfl ?_
      refine x_callVi (q := (RX10, TX10, 12)) (As := [.int v1]) hC xo_193 rfl h gX10_heldUpBy_X10_isReady rfl rfl rfl hy_X10_isReady ⟨Nat.le_of_ble_eq_true rfl, Nat.le_of_ble_eq_true rfl⟩ rfl (Nat.le_of_ble_eq_true rfl) rfl dX10_heldUpBy_34 (fun r7 N8 h => ?_)
      refine x_if_eq (t := 50) hC dX10_heldUpBy_37 (by decide) (fun q => ?_) (fun q => ?_)
      · replace h := h.1 q
        refine x_bipush (v := -6) hC dX10_heldUpBy_50 (by decide) ?_
        exact x_iret hC hr dX10_heldUpBy_52 h
      · replace h := h.2 q
        refine x_aload_n (i := 0) (q := 0) hC dX10_heldUpBy_40 rfl rfl ?_
        refine x_getr (k := 0) (r := 194) hC xo_193 rfl kf_X10_heldUpBy_7 dX10_heldUpBy_41 ?_
        refine x_iconst (v := 2) hC dX10_heldUpBy_44 (by decide) ?_
        refine x_iald (len := 239) hC xa_194 h.1 dX10_heldUpBy_45 ?_
        replace h := h.2
        refine x_iconst (v := 1) hC dX10_heldUpBy_46 (by decide) ?_
        refine x_icmp_ne (t := 53) hC dX10_heldUpBy_47 (by decide) (fun q => ?_) (fun q => ?_)
        · replace h := h.1 q
          refine x_aload_n (i := 0) (q := 0) hC dX10_heldUpBy_53 rfl rfl ?_
          refine x_iload_n (i := 1) (q := 1) hC dX10_heldUpBy_54 rfl rfl ?_
          refine x_bipush (v := -6) hC dX10_heldUpBy_55 (by decide) ?_
          refine x_callVi (q := (RX10, TX10, 12)) (As := [.int v1, .int (-6 : Int32)]) hC xo_193 rfl h gX10_heldUpBy_X10_beginWithout rfl rfl rfl hy_X10_beginWithout ⟨Nat.le_of_ble_eq_true rfl, Nat.le_of_ble_eq_true rfl⟩ rfl (Nat.le_of_ble_eq_true rfl) rfl dX10_heldUpBy_57 (fun r9 N10 h => ?_)
          refine x_istore_n (i := 3) (ls' := [(3, .int r9), (0, .ref (x_a g 193)), (1, .int v1), (2, .int v2)]) hC dX10_heldUpBy_60 rfl (by decide) rfl ?_
          refine x_bipush (v := -6) hC dX10_heldUpBy_61 (by decide) ?_
          refine x_istore (ls' := [(4, .int (-6 : Int32)), (3, .int r9), (0, .ref (x_a g 193)), (1, .int v1), (2, .int v2)]) hC dX10_heldUpBy_63 (by decide) rfl ?_
          refine x_iconst (v := 0) hC dX10_heldUpBy_65 (by decide) ?_
          refine x_istore (ls' := [(5, .int (0 : Int32)), (4, .int (-6 : Int32)), (3, .int r9), (0, .ref (x_a g 193)), (1, .int v1), (2, .int v2)]) hC dX10_heldUpBy_66 (by decide) rfl ?_
          refine x_iconst (v := 0) hC dX10_heldUpBy_68 (by decide) ?_
          refine x_istore (ls' := [(6, .int (0 : Int32)), (5, .int (0 : Int32)), (4, .int (-6 : Int32)), (3, .int r9), (0, .ref (x_a g 193)), (1, .int v1), (2, .int v2)]) hC dX10_heldUpBy_69 (by decide) rfl ?_
          obtain ⟨n_1, h⟩ := h
          exact x_sub [4, 5, 6, 3, 2, 1, 0] rfl ((L n_1) _ _ _ _ _ _ _ h)
        · replace h := h.2 q
          refine x_bipush (v := -6) hC dX10_heldUpBy_50 (by decide) ?_
          exact x_iret hC hr dX10_heldUpBy_52 h
    · replace h := h.2 q
      refine x_aload_n (i := 0) (q := 0) hC dX10_heldUpBy_17 rfl rfl ?_
      refine x_iload_n (i := 1) (q := 1) hC dX10_heldUpBy_18 rfl rfl ?_
      refine x_callVi (q := (RX10, TX10, 12)) (As := [.int v1]) hC xo_193 rfl h gX10_heldUpBy_X10_isWish rfl rfl rfl hy_X10_isWish ⟨Nat.le_of_ble_eq_true rfl, Nat.le_of_ble_eq_true rfl⟩ rfl (Nat.le_of_ble_eq_true rfl) rfl dX10_heldUpBy_19 (fun r11 N12 h => ?_)
      refine x_if_eq (t := 30) hC dX10_heldUpBy_22 (by decide) (fun q => ?_) (fun q => ?_)
      · replace h := h.1 q
        refine x_iconst (v := -1) hC dX10_heldUpBy_30 (by decide) ?_
        exact x_iret hC hr dX10_heldUpBy_31 h
      · replace h := h.2 q
        refine x_bipush (v := -2) hC dX10_heldUpBy_25 (by decide) ?_
        refine x_goto (t := 31) hC dX10_heldUpBy_27 (by decide) ?_
        exact x_iret hC hr dX10_heldUpBy_31 h
theorem kf_X10_together_7 : x_okf wsX10_together RX10 7 10 0 = true := by decide +kernel
def vc_X10_together (g : xG) (v1 : Int32) (v2 : Int32) (M : xM) (P : Int32 → xM → Prop) (K1 : Int32 → Int32 → Int32 → Int32 → xM → Prop) : Prop := (mi_X10_isSinger g v1 M (fun r1 N2 => ((r1 = 0 → P (-1 : Int32) N2) ∧ (¬ (r1 = 0) → (mi_X10_isSinger g v2 N2 (fun r3 N4 => ((¬ r3 = 0 → ((¬ v1 = v2 → K1 v1 v2 (0 : Int32) (0 : Int32) N4) ∧ (v1 = v2 → P (-2 : Int32) N4))) ∧ (r3 = 0 → P (-1 : Int32) N4))))))))
def vc_X10_together_1 (g : xG) (v1 : Int32) (v2 : Int32) (v3 : Int32) (v4 : Int32) (M : xM) (P : Int32 → xM → Prop) (K1 : Int32 → Int32 → Int32 → Int32 → xM → Prop) : Prop := (vp_in (1 : Int32) 239 ∧ (((M 194 ((1 : Int32)).toNatClampNeg) ≤ v4 → P v3 M) ∧ (¬ ((M 194 ((1 : Int32)).toNatClampNeg) ≤ v4) → (mi_X10_keyFor g v1 v2 v4 M (fun r5 N6 => ((¬ r5 = (-6 : Int32) → K1 v1 v2 (v3 + (1 : Int32)) (v4 + (1 : Int32)) N6) ∧ (r5 = (-6 : Int32) → K1 v1 v2 (v3 + (0 : Int32)) (v4 + (1 : Int32)) N6)))))))
set_option maxRecDepth 100000 in
set_option maxHeartbeats 4000000 in
theorem wk_X10_together {g : xG} (v1 : Int32) (v2 : Int32) (M : xM) (P : Int32 → xM → Prop) (I1 : Nat → Int32 → Int32 → Int32 → Int32 → xM → Prop) (h0 : vc_X10_together g v1 v2 M P (fun v1 v2 v3 v4 N => ∃ k, I1 k v1 v2 v3 v4 N)) (h1 : ∀ (n : Nat) (v1 : Int32) (v2 : Int32) (v3 : Int32) (v4 : Int32) (N : xM), I1 n v1 v2 v3 v4 N → vc_X10_together_1 g v1 v2 v3 v4 N P (fun v1 v2 v3 v4 N => ∃ k, k < n ∧ I1 k v1 v2 v3 v4 N)) : mi_X10_together g v1 v2 M P := by
  refine x_startI (as := [.ref (x_a g 193), .int v1, .int v2]) (cc := cX10_together) (n := 5) (ret := (some .int)) (own := RX10) (by decide) rfl rfl (Nat.le_of_ble_eq_true rfl) (fun x hC hr => ?_)
  have L : ∀ n : Nat, (∀ (v1 : Int32) (v2 : Int32) (v3 : Int32) (v4 : Int32) (N : xM), I1 n v1 v2 v3 v4 N → x_W x g 5 (x_Qi x g P) N 31 [(0, .ref (x_a g 193)), (1, .int v1), (2, .int v2), (3, .int v3), (4, .int v4)] []) := by
    intro n
    induction n using Nat.strongRecOn with
    | ind n ih =>
      intro v1 v2 v3 v4 M hI
      have h := h1 n v1 v2 v3 v4 M hI
      unfold vc_X10_together_1 at h
      refine x_iload (q := 4) hC dX10_together_31 rfl ?_
      refine x_aload_n (i := 0) (q := 0) hC dX10_together_33 rfl rfl ?_
      refine x_getr (k := 0) (r := 194) hC xo_193 rfl kf_X10_together_7 dX10_together_34 ?_
      refine x_iconst (v := 1) hC dX10_together_37 (by decide) ?_
      refine x_iald (len := 239) hC xa_194 h.1 dX10_together_38 ?_
      replace h := h.2
      refine x_icmp_ge (t := 69) hC dX10_together_39 (by decide) (fun q => ?_) (fun q => ?_)
      · replace h := h.1 q
        refine x_iload_n (i := 3) (q := 3) hC dX10_together_69 rfl rfl ?_
        exact x_iret hC hr dX10_together_70 h
      · replace h := h.2 q
        refine x_iload_n (i := 3) (q := 3) hC dX10_together_42 rfl rfl ?_
        refine x_aload_n (i := 0) (q := 0) hC dX10_together_43 rfl rfl ?_
        refine x_iload_n (i := 1) (q := 1) hC dX10_together_44 rfl rfl ?_
        refine x_iload_n (i := 2) (q := 2) hC dX10_together_45 rfl rfl ?_
        refine x_iload (q := 4) hC dX10_together_46 rfl ?_
        refine x_callVi (q := (RX10, TX10, 12)) (As := [.int v1, .int v2, .int v4]) hC xo_193 rfl h gX10_together_X10_keyFor rfl rfl rfl hy_X10_keyFor ⟨Nat.le_of_ble_eq_true rfl, Nat.le_of_ble_eq_true rfl⟩ rfl (Nat.le_of_ble_eq_true rfl) rfl dX10_together_48 (fun r5 N6 h => ?_)
        refine x_bipush (v := -6) hC dX10_together_51 (by decide) ?_
        refine x_icmp_ne (t := 60) hC dX10_together_53 (by decide) (fun q => ?_) (fun q => ?_)
        · replace h := h.1 q
          refine x_iconst (v := 1) hC dX10_together_60 (by decide) ?_
          refine x_iadd hC dX10_together_61 ?_
          refine x_istore_n (i := 3) (ls' := [(3, .int (v3 + (1 : Int32))), (0, .ref (x_a g 193)), (1, .int v1), (2, .int v2), (4, .int v4)]) hC dX10_together_62 rfl (by decide) rfl ?_
          refine x_iinc (k := 4) (v' := (v4 + (1 : Int32))) (ls' := [(4, .int (v4 + (1 : Int32))), (3, .int (v3 + (1 : Int32))), (0, .ref (x_a g 193)), (1, .int v1), (2, .int v2)]) hC dX10_together_63 rfl rfl (by decide) rfl ?_
          refine x_goto (t := 31) hC dX10_together_66 (by decide) ?_
          obtain ⟨n_1, hn, h⟩ := h
          exact x_sub [2, 3, 4, 1, 0] rfl ((ih n_1 hn) _ _ _ _ _ h)
        · replace h := h.2 q
          refine x_iconst (v := 0) hC dX10_together_56 (by decide) ?_
          refine x_goto (t := 61) hC dX10_together_57 (by decide) ?_
          refine x_iadd hC dX10_together_61 ?_
          refine x_istore_n (i := 3) (ls' := [(3, .int (v3 + (0 : Int32))), (0, .ref (x_a g 193)), (1, .int v1), (2, .int v2), (4, .int v4)]) hC dX10_together_62 rfl (by decide) rfl ?_
          refine x_iinc (k := 4) (v' := (v4 + (1 : Int32))) (ls' := [(4, .int (v4 + (1 : Int32))), (3, .int (v3 + (0 : Int32))), (0, .ref (x_a g 193)), (1, .int v1), (2, .int v2)]) hC dX10_together_63 rfl rfl (by decide) rfl ?_
          refine x_goto (t := 31) hC dX10_together_66 (by decide) ?_
          obtain ⟨n_1, hn, h⟩ := h
          exact x_sub [2, 3, 4, 1, 0] rfl ((ih n_1 hn) _ _ _ _ _ h)
  have h := h0
  unfold vc_X10_together at h
  refine x_aload_n (i := 0) (q := 0) hC dX10_together_0 rfl rfl ?_
  refine x_iload_n (i := 1) (q := 1) hC dX10_together_1 rfl rfl ?_
  refine x_callVi (q := (RX10, TX10, 12)) (As := [.int v1]) hC xo_193 rfl h gX10_together_X10_isSinger rfl rfl rfl hy_X10_isSinger ⟨Nat.le_of_ble_eq_true rfl, Nat.le_of_ble_eq_true rfl⟩ rfl (Nat.le_of_ble_eq_true rfl) rfl dX10_together_2 (fun r1 N2 h => ?_)
  refine x_if_eq (t := 16) hC dX10_together_5 (by decide) (fun q => ?_) (fun q => ?_)
  · replace h := h.1 q
    refine x_iconst (v := -1) hC dX10_together_16 (by decide) ?_
    exact x_iret hC hr dX10_together_17 h
  · replace h := h.2 q
    refine x_aload_n (i := 0) (q := 0) hC dX10_together_8 rfl rfl ?_
    refine x_iload_n (i := 2) (q := 2) hC dX10_together_9 rfl rfl ?_
    refine x_callVi (q := (RX10, TX10, 12)) (As := [.int v2]) hC xo_193 rfl h gX10_together_X10_isSinger rfl rfl rfl hy_X10_isSinger ⟨Nat.le_of_ble_eq_true rfl, Nat.le_of_ble_eq_true rfl⟩ rfl (Nat.le_of_ble_eq_true rfl) rfl dX10_together_10 (fun r3 N4 h => ?_)
    refine x_if_ne (t := 18) hC dX10_together_13 (by decide) (fun q => ?_) (fun q => ?_)
    · replace h := h.1 q
      refine x_iload_n (i := 1) (q := 1) hC dX10_together_18 rfl rfl ?_
      refine x_iload_n (i := 2) (q := 2) hC dX10_together_19 rfl rfl ?_
      refine x_icmp_ne (t := 26) hC dX10_together_20 (by decide) (fun q => ?_) (fun q => ?_)
      · replace h := h.1 q
        refine x_iconst (v := 0) hC dX10_together_26 (by decide) ?_
        refine x_istore_n (i := 3) (ls' := [(3, .int (0 : Int32)), (0, .ref (x_a g 193)), (1, .int v1), (2, .int v2)]) hC dX10_together_27 rfl (by decide) rfl ?_
        refine x_iconst (v := 0) hC dX10_together_28 (by decide) ?_
        refine x_istore (ls' := [(4, .int (0 : Int32)), (3, .int (0 : Int32)), (0, .ref (x_a g 193)), (1, .int v1), (2, .int v2)]) hC dX10_together_29 (by decide) rfl ?_
        obtain ⟨n_1, h⟩ := h
        exact x_sub [2, 3, 4, 1, 0] rfl ((L n_1) _ _ _ _ _ h)
      · replace h := h.2 q
        refine x_bipush (v := -2) hC dX10_together_23 (by decide) ?_
        exact x_iret hC hr dX10_together_25 h
    · replace h := h.2 q
      refine x_iconst (v := -1) hC dX10_together_16 (by decide) ?_
      exact x_iret hC hr dX10_together_17 h
theorem kf_X10_put_127 : x_okf wsX10_put RX10 127 10 7 = true := by decide +kernel
theorem kf_X10_put_25 : x_okf wsX10_put RX10 25 10 6 = true := by decide +kernel
def vc_X10_put (g : xG) (v1 : Int64) (M : xM) (P : Int32 → xM → Prop) (K1 : Int64 → Int32 → Int64 → Int32 → xM → Prop) (K2 : Int64 → Int32 → xM → Prop) : Prop := K1 v1 (0 : Int32) v1 (1 : Int32) M
def vc_X10_put_1 (g : xG) (v1 : Int64) (v3 : Int32) (v4 : Int64) (v6 : Int32) (M : xM) (P : Int32 → xM → Prop) (K1 : Int64 → Int32 → Int64 → Int32 → xM → Prop) (K2 : Int64 → Int32 → xM → Prop) : Prop := (((8 : Int32) ≤ v3 → ((v3 = 0 → P (-2 : Int32) M) ∧ (¬ (v3 = 0) → ((v6 = 0 → P (-2 : Int32) M) ∧ (¬ (v6 = 0) → (((lg_cmp v4 (0 : Int64)) = 0 → ((((M 193 7) + v3) ≤ (60 : Int32) → K2 v1 (v3 - (1 : Int32)) M) ∧ (¬ (((M 193 7) + v3) ≤ (60 : Int32)) → P (-4 : Int32) M))) ∧ (¬ ((lg_cmp v4 (0 : Int64)) = 0) → P (-2 : Int32) M))))))) ∧ (¬ ((8 : Int32) ≤ v3) → (((lg_cmp (v4 &&& (255 : Int64)) (0 : Int64)) = 0 → ((v3 = 0 → P (-2 : Int32) M) ∧ (¬ (v3 = 0) → ((v6 = 0 → P (-2 : Int32) M) ∧ (¬ (v6 = 0) → (((lg_cmp v4 (0 : Int64)) = 0 → ((((M 193 7) + v3) ≤ (60 : Int32) → K2 v1 (v3 - (1 : Int32)) M) ∧ (¬ (((M 193 7) + v3) ≤ (60 : Int32)) → P (-4 : Int32) M))) ∧ (¬ ((lg_cmp v4 (0 : Int64)) = 0) → P (-2 : Int32) M))))))) ∧ (¬ ((lg_cmp (v4 &&& (255 : Int64)) (0 : Int64)) = 0) → ((v6 = 0 → (∀ y1 : Int64, y1 = ((v4).toUInt64 >>> (((8 : Int32)).toInt64.toUInt64 &&& Int64.toUInt64 63)).toInt64 → K1 v1 (v3 + (1 : Int32)) y1 (0 : Int32) M)) ∧ (¬ (v6 = 0) → (mi_X10_within g (((v4 &&& (255 : Int64))).toInt32) (33 : Int32) (126 : Int32) M (fun r2 N3 => ((r2 = 0 → (∀ y4 : Int64, y4 = ((v4).toUInt64 >>> (((8 : Int32)).toInt64.toUInt64 &&& Int64.toUInt64 63)).toInt64 → K1 v1 (v3 + (1 : Int32)) y4 (0 : Int32) N3)) ∧ (¬ (r2 = 0) → (∀ y5 : Int64, y5 = ((v4).toUInt64 >>> (((8 : Int32)).toInt64.toUInt64 &&& Int64.toUInt64 63)).toInt64 → K1 v1 (v3 + (1 : Int32)) y5 (1 : Int32) N3)))))))))))
def vc_X10_put_2 (g : xG) (v1 : Int64) (v7 : Int32) (M : xM) (P : Int32 → xM → Prop) (K1 : Int64 → Int32 → Int64 → Int32 → xM → Prop) (K2 : Int64 → Int32 → xM → Prop) : Prop := ((v7 < 0 → P (M 193 7) M) ∧ (¬ (v7 < 0) → (vp_in (M 193 7) 60 ∧ (∀ N6 : xM, N6 = (x_up M 199 ((M 193 7)).toNatClampNeg (((((v1).toUInt64 >>> ((((8 : Int32) * v7)).toInt64.toUInt64 &&& Int64.toUInt64 63)).toInt64 &&& (255 : Int64))).toInt32)) → K2 v1 (v7 + (-1 : Int32)) (x_up N6 193 7 ((N6 193 7) + (1 : Int32)))))))
set_option maxRecDepth 100000 in
set_option maxHeartbeats 4000000 in
theorem wk_X10_put {g : xG} (v1 : Int64) (M : xM) (P : Int32 → xM → Prop) (I1 : Nat → Int64 → Int32 → Int64 → Int32 → xM → Prop) (I2 : Nat → Int64 → Int32 → xM → Prop) (h0 : vc_X10_put g v1 M P (fun v1 v3 v4 v6 N => ∃ k, I1 k v1 v3 v4 v6 N) (fun v1 v7 N => ∃ k, I2 k v1 v7 N)) (h1 : ∀ (n : Nat) (v1 : Int64) (v3 : Int32) (v4 : Int64) (v6 : Int32) (N : xM), I1 n v1 v3 v4 v6 N → vc_X10_put_1 g v1 v3 v4 v6 N P (fun v1 v3 v4 v6 N => ∃ k, k < n ∧ I1 k v1 v3 v4 v6 N) (fun v1 v7 N => ∃ k, k < n ∧ I2 k v1 v7 N)) (h2 : ∀ (n : Nat) (v1 : Int64) (v7 : Int32) (N : xM), I2 n v1 v7 N → vc_X10_put_2 g v1 v7 N P (fun v1 v3 v4 v6 N => ∃ k, k < n ∧ I1 k v1 v3 v4 v6 N) (fun v1 v7 N => ∃ k, k < n ∧ I2 k v1 v7 N)) : mi_X10_put g v1 M P := by
  refine x_startI (as := [.ref (x_a g 193), .long v1]) (cc := cX10_put) (n := 8) (ret := (some .int)) (own := RX10) (by decide) rfl rfl (Nat.le_of_ble_eq_true rfl) (fun x hC hr => ?_)
  have L : ∀ n : Nat, (∀ (v1 : Int64) (v3 : Int32) (v4 : Int64) (v6 : Int32) (N : xM), I1 n v1 v3 v4 v6 N → x_W x g 8 (x_Qi x g P) N 8 [(0, .ref (x_a g 193)), (1, .long v1), (3, .int v3), (4, .long v4), (6, .int v6)] []) ∧ (∀ (v1 : Int64) (v7 : Int32) (N : xM), I2 n v1 v7 N → x_W x g 8 (x_Qi x g P) N 105 [(0, .ref (x_a g 193)), (1, .long v1), (7, .int v7)] []) := by
    intro n
    induction n using Nat.strongRecOn with
    | ind n ih =>
      refine ⟨?_, ?_⟩
      · intro v1 v3 v4 v6 M hI
        have h := h1 n v1 v3 v4 v6 M hI
        unfold vc_X10_put_1 at h
        refine x_iload_n (i := 3) (q := 2) hC dX10_put_8 rfl rfl ?_
        refine x_bipush (v := 8) hC dX10_put_9 (by decide) ?_
        refine x_icmp_ge (t := 67) hC dX10_put_11 (by decide) (fun q => ?_) (fun q => ?_)
        · replace h := h.1 q
          refine x_iload_n (i := 3) (q := 2) hC dX10_put_67 rfl rfl ?_
          refine x_if_eq (t := 83) hC dX10_put_68 (by decide) (fun q => ?_) (fun q => ?_)
          · replace h := h.1 q
            refine x_bipush (v := -2) hC dX10_put_83 (by decide) ?_
            exact x_iret hC hr dX10_put_85 h
          · replace h := h.2 q
            refine x_iload (q := 4) hC dX10_put_71 rfl ?_
            refine x_if_eq (t := 83) hC dX10_put_73 (by decide) (fun q => ?_) (fun q => ?_)
            · replace h := h.1 q
              refine x_bipush (v := -2) hC dX10_put_83 (by decide) ?_
              exact x_iret hC hr dX10_put_85 h
            · replace h := h.2 q
              refine x_lload (q := 3) hC dX10_put_76 rfl ?_
              refine x_lconst (v := 0) hC dX10_put_78 (by decide) ?_
              refine x_lcmp hC dX10_put_79 ?_
              refine x_if_eq (t := 86) hC dX10_put_80 (by decide) (fun q => ?_) (fun q => ?_)
              · replace h := h.1 q
                refine x_aload_n (i := 0) (q := 0) hC dX10_put_86 rfl rfl ?_
                refine x_geti (k := 7) hC xo_193 rfl kf_X10_put_127 dX10_put_87 ?_
                refine x_iload_n (i := 3) (q := 2) hC dX10_put_90 rfl rfl ?_
                refine x_iadd hC dX10_put_91 ?_
                refine x_bipush (v := 60) hC dX10_put_92 (by decide) ?_
                refine x_icmp_le (t := 100) hC dX10_put_94 (by decide) (fun q => ?_) (fun q => ?_)
                · replace h := h.1 q
                  refine x_iload_n (i := 3) (q := 2) hC dX10_put_100 rfl rfl ?_
                  refine x_iconst (v := 1) hC dX10_put_101 (by decide) ?_
                  refine x_isub hC dX10_put_102 ?_
                  refine x_istore (ls' := [(7, .int (v3 - (1 : Int32))), (0, .ref (x_a g 193)), (1, .long v1), (3, .int v3), (4, .long v4), (6, .int v6)]) hC dX10_put_103 (by decide) rfl ?_
                  obtain ⟨n_2, hn, h⟩ := h
                  exact x_sub [1, 2, 0] rfl ((ih n_2 hn).2 _ _ _ h)
                · replace h := h.2 q
                  refine x_bipush (v := -4) hC dX10_put_97 (by decide) ?_
                  exact x_iret hC hr dX10_put_99 h
              · replace h := h.2 q
                refine x_bipush (v := -2) hC dX10_put_83 (by decide) ?_
                exact x_iret hC hr dX10_put_85 h
        · replace h := h.2 q
          refine x_lload (q := 3) hC dX10_put_14 rfl ?_
          refine x_ldc2 (i := 164) (v := 255) hC (by decide +kernel) dX10_put_16 ?_
          refine x_land hC dX10_put_19 ?_
          refine x_lconst (v := 0) hC dX10_put_20 (by decide) ?_
          refine x_lcmp hC dX10_put_21 ?_
          refine x_if_eq (t := 67) hC dX10_put_22 (by decide) (fun q => ?_) (fun q => ?_)
          · replace h := h.1 q
            refine x_iload_n (i := 3) (q := 2) hC dX10_put_67 rfl rfl ?_
            refine x_if_eq (t := 83) hC dX10_put_68 (by decide) (fun q => ?_) (fun q => ?_)
            · replace h := h.1 q
              refine x_bipush (v := -2) hC dX10_put_83 (by decide) ?_
              exact x_iret hC hr dX10_put_85 h
            · replace h := h.2 q
              refine x_iload (q := 4) hC dX10_put_71 rfl ?_
              refine x_if_eq (t := 83) hC dX10_put_73 (by decide) (fun q => ?_) (fun q => ?_)
              · replace h := h.1 q
                refine x_bipush (v := -2) hC dX10_put_83 (by decide) ?_
                exact x_iret hC hr dX10_put_85 h
              · replace h := h.2 q
                refine x_lload (q := 3) hC dX10_put_76 rfl ?_
                refine x_lconst (v := 0) hC dX10_put_78 (by decide) ?_
                refine x_lcmp hC dX10_put_79 ?_
                refine x_if_eq (t := 86) hC dX10_put_80 (by decide) (fun q => ?_) (fun q => ?_)
                · replace h := h.1 q
                  refine x_aload_n (i := 0) (q := 0) hC dX10_put_86 rfl rfl ?_
                  refine x_geti (k := 7) hC xo_193 rfl kf_X10_put_127 dX10_put_87 ?_
                  refine x_iload_n (i := 3) (q := 2) hC dX10_put_90 rfl rfl ?_
                  refine x_iadd hC dX10_put_91 ?_
                  refine x_bipush (v := 60) hC dX10_put_92 (by decide) ?_
                  refine x_icmp_le (t := 100) hC dX10_put_94 (by decide) (fun q => ?_) (fun q => ?_)
                  · replace h := h.1 q
                    refine x_iload_n (i := 3) (q := 2) hC dX10_put_100 rfl rfl ?_
                    refine x_iconst (v := 1) hC dX10_put_101 (by decide) ?_
                    refine x_isub hC dX10_put_102 ?_
                    refine x_istore (ls' := [(7, .int (v3 - (1 : Int32))), (0, .ref (x_a g 193)), (1, .long v1), (3, .int v3), (4, .long v4), (6, .int v6)]) hC dX10_put_103 (by decide) rfl ?_
                    obtain ⟨n_2, hn, h⟩ := h
                    exact x_sub [1, 2, 0] rfl ((ih n_2 hn).2 _ _ _ h)
                  · replace h := h.2 q
                    refine x_bipush (v := -4) hC dX10_put_97 (by decide) ?_
                    exact x_iret hC hr dX10_put_99 h
                · replace h := h.2 q
                  refine x_bipush (v := -2) hC dX10_put_83 (by decide) ?_
                  exact x_iret hC hr dX10_put_85 h
          · replace h := h.2 q
            refine x_iload (q := 4) hC dX10_put_25 rfl ?_
            refine x_if_eq (t := 51) hC dX10_put_27 (by decide) (fun q => ?_) (fun q => ?_)
            · replace h := h.1 q
              refine x_iconst (v := 0) hC dX10_put_51 (by decide) ?_
              refine x_istore (ls' := [(6, .int (0 : Int32)), (0, .ref (x_a g 193)), (1, .long v1), (3, .int v3), (4, .long v4)]) hC dX10_put_52 (by decide) rfl ?_
              refine x_lload (q := 4) hC dX10_put_54 rfl ?_
              refine x_bipush (v := 8) hC dX10_put_56 (by decide) ?_
              refine x_lushr hC dX10_put_58 ?_
              refine x_topl (fun y1 qy1 => ?_)
              replace h := h y1 qy1
              refine x_lstore (ls' := [(4, .long y1), (6, .int (0 : Int32)), (0, .ref (x_a g 193)), (1, .long v1), (3, .int v3)]) hC dX10_put_59 (by decide) rfl ?_
              refine x_iinc (k := 4) (v' := (v3 + (1 : Int32))) (ls' := [(3, .int (v3 + (1 : Int32))), (4, .long y1), (6, .int (0 : Int32)), (0, .ref (x_a g 193)), (1, .long v1)]) hC dX10_put_61 rfl rfl (by decide) rfl ?_
              refine x_goto (t := 8) hC dX10_put_64 (by decide) ?_
              obtain ⟨n_1, hn, h⟩ := h
              exact x_sub [3, 4, 0, 1, 2] rfl ((ih n_1 hn).1 _ _ _ _ _ h)
            · replace h := h.2 q
              refine x_lload (q := 3) hC dX10_put_30 rfl ?_
              refine x_ldc2 (i := 164) (v := 255) hC (by decide +kernel) dX10_put_32 ?_
              refine x_land hC dX10_put_35 ?_
              refine x_l2i hC dX10_put_36 ?_
              refine x_bipush (v := 33) hC dX10_put_37 (by decide) ?_
              refine x_bipush (v := 126) hC dX10_put_39 (by decide) ?_
              refine x_callSi (As := [.int (((v4 &&& (255 : Int64))).toInt32), .int (33 : Int32), .int (126 : Int32)]) hC h gX10_put_X10_within rfl rfl rfl hy_X10_within.2 ⟨Nat.le_of_ble_eq_true rfl, Nat.le_of_ble_eq_true rfl⟩ rfl (Nat.le_of_ble_eq_true rfl) rfl dX10_put_41 (fun r2 N3 h => ?_)
              refine x_if_eq (t := 51) hC dX10_put_44 (by decide) (fun q => ?_) (fun q => ?_)
              · replace h := h.1 q
                refine x_iconst (v := 0) hC dX10_put_51 (by decide) ?_
                refine x_istore (ls' := [(6, .int (0 : Int32)), (0, .ref (x_a g 193)), (1, .long v1), (3, .int v3), (4, .long v4)]) hC dX10_put_52 (by decide) rfl ?_
                refine x_lload (q := 4) hC dX10_put_54 rfl ?_
                refine x_bipush (v := 8) hC dX10_put_56 (by decide) ?_
                refine x_lushr hC dX10_put_58 ?_
                refine x_topl (fun y4 qy4 => ?_)
                replace h := h y4 qy4
                refine x_lstore (ls' := [(4, .long y4), (6, .int (0 : Int32)), (0, .ref (x_a g 193)), (1, .long v1), (3, .int v3)]) hC dX10_put_59 (by decide) rfl ?_
                refine x_iinc (k := 4) (v' := (v3 + (1 : Int32))) (ls' := [(3, .int (v3 + (1 : Int32))), (4, .long y4), (6, .int (0 : Int32)), (0, .ref (x_a g 193)), (1, .long v1)]) hC dX10_put_61 rfl rfl (by decide) rfl ?_
                refine x_goto (t := 8) hC dX10_put_64 (by decide) ?_
                obtain ⟨n_1, hn, h⟩ := h
                exact x_sub [3, 4, 0, 1, 2] rfl ((ih n_1 hn).1 _ _ _ _ _ h)
              · replace h := h.2 q
                refine x_iconst (v := 1) hC dX10_put_47 (by decide) ?_
                refine x_goto (t := 52) hC dX10_put_48 (by decide) ?_
                refine x_istore (ls' := [(6, .int (1 : Int32)), (0, .ref (x_a g 193)), (1, .long v1), (3, .int v3), (4, .long v4)]) hC dX10_put_52 (by decide) rfl ?_
                refine x_lload (q := 4) hC dX10_put_54 rfl ?_
                refine x_bipush (v := 8) hC dX10_put_56 (by decide) ?_
                refine x_lushr hC dX10_put_58 ?_
                refine x_topl (fun y5 qy5 => ?_)
                replace h := h y5 qy5
                refine x_lstore (ls' := [(4, .long y5), (6, .int (1 : Int32)), (0, .ref (x_a g 193)), (1, .long v1), (3, .int v3)]) hC dX10_put_59 (by decide) rfl ?_
                refine x_iinc (k := 4) (v' := (v3 + (1 : Int32))) (ls' := [(3, .int (v3 + (1 : Int32))), (4, .long y5), (6, .int (1 : Int32)), (0, .ref (x_a g 193)), (1, .long v1)]) hC dX10_put_61 rfl rfl (by decide) rfl ?_
                refine x_goto (t := 8) hC dX10_put_64 (by decide) ?_
                obtain ⟨n_1, hn, h⟩ := h
                exact x_sub [3, 4, 0, 1, 2] rfl ((ih n_1 hn).1 _ _ _ _ _ h)
      · intro v1 v7 M hI
        have h := h2 n v1 v7 M hI
        unfold vc_X10_put_2 at h
        refine x_iload (q := 2) hC dX10_put_105 rfl ?_
        refine x_if_lt (t := 147) hC dX10_put_107 (by decide) (fun q => ?_) (fun q => ?_)
        · replace h := h.1 q
          refine x_aload_n (i := 0) (q := 0) hC dX10_put_147 rfl rfl ?_
          refine x_geti (k := 7) hC xo_193 rfl kf_X10_put_127 dX10_put_148 ?_
          exact x_iret hC hr dX10_put_151 h
        · replace h := h.2 q
          refine x_aload_n (i := 0) (q := 0) hC dX10_put_110 rfl rfl ?_
          refine x_getr (k := 6) (r := 199) hC xo_193 rfl kf_X10_put_25 dX10_put_111 ?_
          refine x_aload_n (i := 0) (q := 0) hC dX10_put_114 rfl rfl ?_
          refine x_geti (k := 7) hC xo_193 rfl kf_X10_put_127 dX10_put_115 ?_
          refine x_lload_n (i := 1) (q := 1) hC dX10_put_118 rfl rfl ?_
          refine x_bipush (v := 8) hC dX10_put_119 (by decide) ?_
          refine x_iload (q := 2) hC dX10_put_121 rfl ?_
          refine x_imul hC dX10_put_123 ?_
          refine x_lushr hC dX10_put_124 ?_
          refine x_ldc2 (i := 164) (v := 255) hC (by decide +kernel) dX10_put_125 ?_
          refine x_land hC dX10_put_128 ?_
          refine x_l2i hC dX10_put_129 ?_
          refine x_iast (len := 60) hC xa_199 h.1 dX10_put_130 ?_
          replace h := h.2
          refine x_topM (fun N6 qN6 => ?_)
          replace h := h N6 qN6
          refine x_aload_n (i := 0) (q := 0) hC dX10_put_131 rfl rfl ?_
          refine x_dup hC dX10_put_132 rfl ?_
          refine x_geti (k := 7) hC xo_193 rfl kf_X10_put_127 dX10_put_133 ?_
          refine x_iconst (v := 1) hC dX10_put_136 (by decide) ?_
          refine x_iadd hC dX10_put_137 ?_
          refine x_puti (k := 7) hC xo_193 rfl kf_X10_put_127 kp_10_7 dX10_put_138 ?_
          refine x_iinc (k := 2) (v' := (v7 + (-1 : Int32))) (ls' := [(7, .int (v7 + (-1 : Int32))), (0, .ref (x_a g 193)), (1, .long v1)]) hC dX10_put_141 rfl rfl (by decide) rfl ?_
          refine x_goto (t := 105) hC dX10_put_144 (by decide) ?_
          obtain ⟨n_2, hn, h⟩ := h
          exact x_sub [1, 2, 0] rfl ((ih n_2 hn).2 _ _ _ h)
  have h := h0
  unfold vc_X10_put at h
  refine x_iconst (v := 0) hC dX10_put_0 (by decide) ?_
  refine x_istore_n (i := 3) (ls' := [(3, .int (0 : Int32)), (0, .ref (x_a g 193)), (1, .long v1)]) hC dX10_put_1 rfl (by decide) rfl ?_
  refine x_lload_n (i := 1) (q := 2) hC dX10_put_2 rfl rfl ?_
  refine x_lstore (ls' := [(4, .long v1), (3, .int (0 : Int32)), (0, .ref (x_a g 193)), (1, .long v1)]) hC dX10_put_3 (by decide) rfl ?_
  refine x_iconst (v := 1) hC dX10_put_5 (by decide) ?_
  refine x_istore (ls' := [(6, .int (1 : Int32)), (4, .long v1), (3, .int (0 : Int32)), (0, .ref (x_a g 193)), (1, .long v1)]) hC dX10_put_6 (by decide) rfl ?_
  obtain ⟨n_1, h⟩ := h
  exact x_sub [3, 4, 2, 1, 0] rfl ((L n_1).1 _ _ _ _ _ h)
