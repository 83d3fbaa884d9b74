def vc_L_low (g : xG) (v0 : Int32) (v1 : Int32) (M : xM) (P : Int32 → xM → Prop) : Prop := (¬ v1 = 0 ∧ P ((v0 &&& (2147483647 : Int32)) - (v0 &&& (2147483647 : Int32)) / v1 * v1) M)
set_option maxRecDepth 100000 in
set_option maxHeartbeats 4000000 in
theorem wk_L_low {g : xG} (v0 : Int32) (v1 : Int32) (M : xM) (P : Int32 → xM → Prop) (h0 : vc_L_low g v0 v1 M P ) : mi_L_low g v0 v1 M P := by
  refine x_startI (as := [.int v0, .int v1]) (cc := cL_low) (n := 2) (ret := (some .int)) (own := RL) (by decide) rfl rfl (Nat.le_of_ble_eq_true rfl) (fun x hC hr => ?_)
  have h := h0
  unfold vc_L_low at h
  refine x_iload_n (i := 0) (q := 0) hC dL_low_0 rfl rfl ?_
  refine x_ldc (i := 9) (v := 2147483647) hC (by decide +kernel) dL_low_1 ?_
  refine x_iand hC dL_low_3 ?_
  refine x_iload_n (i := 1) (q := 1) hC dL_low_4 rfl rfl ?_
  refine x_irem hC h.1 dL_low_5 ?_
  replace h := h.2
  exact x_iret hC hr dL_low_6 h
def vc_L_key (g : xG) (v0 : Int32) (v1 : Int32) (v2 : Int32) (M : xM) (P : Int32 → xM → Prop) : Prop := (vp_in (((4 : Int32) * v0) + (1 : Int32)) 48 ∧ (vp_in (((4 : Int32) * v2) + (1 : Int32)) 64 ∧ (∀ y1 : Int32, y1 = ((M 194 ((((4 : Int32) * v0) + (1 : Int32))).toNatClampNeg) - (M 195 ((((4 : Int32) * v2) + (1 : Int32))).toNatClampNeg)) → (vp_in ((4 : Int32) * v0) 48 ∧ (vp_in ((4 : Int32) * v2) 64 ∧ (∀ y2 : Int32, y2 = ((M 194 (((4 : Int32) * v0)).toNatClampNeg) - (M 195 (((4 : Int32) * v2)).toNatClampNeg)) → (∃ J3 : Int32 → Int32 → Prop, ((v1 < 0 → J3 y1 y2) ∧ (¬ (v1 < 0) → (vp_in (((4 : Int32) * v1) + (1 : Int32)) 48 ∧ (vp_in (((4 : Int32) * v2) + (1 : Int32)) 64 ∧ (∃ J6 : Int32 → Prop, ((y1 ≤ ((M 194 ((((4 : Int32) * v1) + (1 : Int32))).toNatClampNeg) - (M 195 ((((4 : Int32) * v2) + (1 : Int32))).toNatClampNeg)) → J6 y1) ∧ (¬ (y1 ≤ ((M 194 ((((4 : Int32) * v1) + (1 : Int32))).toNatClampNeg) - (M 195 ((((4 : Int32) * v2) + (1 : Int32))).toNatClampNeg))) → (vp_in (((4 : Int32) * v1) + (1 : Int32)) 48 ∧ (vp_in (((4 : Int32) * v2) + (1 : Int32)) 64 ∧ J6 ((M 194 ((((4 : Int32) * v1) + (1 : Int32))).toNatClampNeg) - (M 195 ((((4 : Int32) * v2) + (1 : Int32))).toNatClampNeg)))))) ∧ (∀ (j7 : Int32), J6 j7 → (vp_in ((4 : Int32) * v1) 48 ∧ (vp_in ((4 : Int32) * v2) 64 ∧ (∃ J8 : Int32 → Prop, ((((M 194 (((4 : Int32) * v1)).toNatClampNeg) - (M 195 (((4 : Int32) * v2)).toNatClampNeg)) ≤ y2 → J8 y2) ∧ (¬ (((M 194 (((4 : Int32) * v1)).toNatClampNeg) - (M 195 (((4 : Int32) * v2)).toNatClampNeg)) ≤ y2) → (vp_in ((4 : Int32) * v1) 48 ∧ (vp_in ((4 : Int32) * v2) 64 ∧ J8 ((M 194 (((4 : Int32) * v1)).toNatClampNeg) - (M 195 (((4 : Int32) * v2)).toNatClampNeg)))))) ∧ (∀ (j9 : Int32), J8 j9 → J3 j7 j9)))))))))) ∧ (∀ (j4 j5 : Int32), J3 j4 j5 → ((j4 < j5 → P (-6 : Int32) M) ∧ (¬ (j4 < j5) → (((6 : Int32) < j5 → P (-6 : Int32) M) ∧ (¬ ((6 : Int32) < j5) → (((-6 : Int32) ≤ j4 → ((0 < j5 → ((j5 ≤ 0 → P ((10 : Int32) + j4) M) ∧ (¬ (j5 ≤ 0) → P ((10 : Int32) + j5) M))) ∧ (¬ (0 < j5) → ((j4 < 0 → ((j5 ≤ 0 → P ((10 : Int32) + j4) M) ∧ (¬ (j5 ≤ 0) → P ((10 : Int32) + j5) M))) ∧ (¬ (j4 < 0) → P ((10 : Int32) + (0 : Int32)) M))))) ∧ (¬ ((-6 : Int32) ≤ j4) → P (-6 : Int32) M))))))))))))))
set_option maxRecDepth 100000 in
set_option maxHeartbeats 4000000 in
theorem wk_L_key {g : xG} (v0 : Int32) (v1 : Int32) (v2 : Int32) (M : xM) (P : Int32 → xM → Prop) (h0 : vc_L_key g v0 v1 v2 M P ) : mi_L_key g v0 v1 v2 M P := by
  refine x_startI (as := [.int v0, .int v1, .int v2, .ref (x_a g 194), .ref (x_a g 195)]) (cc := cL_key) (n := 7) (ret := (some .int)) (own := RL) (by decide) rfl rfl (Nat.le_of_ble_eq_true rfl) (fun x hC hr => ?_)
  have h := h0
  unfold vc_L_key at h
  refine x_aload_n (i := 3) (q := 3) hC dL_key_0 rfl rfl ?_
  refine x_iconst (v := 4) hC dL_key_1 (by decide) ?_
  refine x_iload_n (i := 0) (q := 0) hC dL_key_2 rfl rfl ?_
  refine x_imul hC dL_key_3 ?_
  refine x_iconst (v := 1) hC dL_key_4 (by decide) ?_
  refine x_iadd hC dL_key_5 ?_
  refine x_iald (len := 48) hC xa_194 h.1 dL_key_6 ?_
  replace h := h.2
  refine x_aload (q := 4) hC dL_key_7 rfl ?_
  refine x_iconst (v := 4) hC dL_key_9 (by decide) ?_
  refine x_iload_n (i := 2) (q := 2) hC dL_key_10 rfl rfl ?_
  refine x_imul hC dL_key_11 ?_
  refine x_iconst (v := 1) hC dL_key_12 (by decide) ?_
  refine x_iadd hC dL_key_13 ?_
  refine x_iald (len := 64) hC xa_195 h.1 dL_key_14 ?_
  replace h := h.2
  refine x_isub hC dL_key_15 ?_
  refine x_topi (fun y1 qy1 => ?_)
  replace h := h y1 qy1
  refine x_istore (ls' := [(5, .int y1), (0, .int v0), (1, .int v1), (2, .int v2), (3, .ref (x_a g 194)), (4, .ref (x_a g 195))]) hC dL_key_16 (by decide) rfl ?_
  refine x_aload_n (i := 3) (q := 4) hC dL_key_18 rfl rfl ?_
  refine x_iconst (v := 4) hC dL_key_19 (by decide) ?_
  refine x_iload_n (i := 0) (q := 1) hC dL_key_20 rfl rfl ?_
  refine x_imul hC dL_key_21 ?_
  refine x_iald (len := 48) hC xa_194 h.1 dL_key_22 ?_
  replace h := h.2
  refine x_aload (q := 5) hC dL_key_23 rfl ?_
  refine x_iconst (v := 4) hC dL_key_25 (by decide) ?_
  refine x_iload_n (i := 2) (q := 3) hC dL_key_26 rfl rfl ?_
  refine x_imul hC dL_key_27 ?_
  refine x_iald (len := 64) hC xa_195 h.1 dL_key_28 ?_
  replace h := h.2
  refine x_isub hC dL_key_29 ?_
  refine x_topi (fun y2 qy2 => ?_)
  replace h := h y2 qy2
  refine x_istore (ls' := [(6, .int y2), (5, .int y1), (0, .int v0), (1, .int v1), (2, .int v2), (3, .ref (x_a g 194)), (4, .ref (x_a g 195))]) hC dL_key_30 (by decide) rfl ?_
  refine x_iload_n (i := 1) (q := 3) hC dL_key_32 rfl rfl ?_
  obtain ⟨J3, h, hJ3⟩ := h
  have HJ3 : ∀ (j4 j5 : Int32), J3 j4 j5 → x_W x g 7 (x_Qi x g P) M 116 [(5, .int j4), (6, .int j5)] [] := by
    intro j4 j5 hj
    have h := hJ3 j4 j5 hj
    refine x_iload (q := 1) hC dL_key_116 rfl ?_
    refine x_iload (q := 0) hC dL_key_118 rfl ?_
    refine x_icmp_gt (t := 137) hC dL_key_120 (by decide) (fun q => ?_) (fun q => ?_)
    · replace h := h.1 q
      refine x_bipush (v := -6) hC dL_key_137 (by decide) ?_
      exact x_iret hC hr dL_key_139 h
    · replace h := h.2 q
      refine x_iload (q := 1) hC dL_key_123 rfl ?_
      refine x_bipush (v := 6) hC dL_key_125 (by decide) ?_
      refine x_icmp_gt (t := 137) hC dL_key_127 (by decide) (fun q => ?_) (fun q => ?_)
      · replace h := h.1 q
        refine x_bipush (v := -6) hC dL_key_137 (by decide) ?_
        exact x_iret hC hr dL_key_139 h
      · replace h := h.2 q
        refine x_iload (q := 0) hC dL_key_130 rfl ?_
        refine x_bipush (v := -6) hC dL_key_132 (by decide) ?_
        refine x_icmp_ge (t := 140) hC dL_key_134 (by decide) (fun q => ?_) (fun q => ?_)
        · replace h := h.1 q
          refine x_bipush (v := 10) hC dL_key_140 (by decide) ?_
          refine x_iload (q := 1) hC dL_key_142 rfl ?_
          refine x_if_gt (t := 156) hC dL_key_144 (by decide) (fun q => ?_) (fun q => ?_)
          · replace h := h.1 q
            refine x_iload (q := 1) hC dL_key_156 rfl ?_
            refine x_if_le (t := 166) hC dL_key_158 (by decide) (fun q => ?_) (fun q => ?_)
            · replace h := h.1 q
              refine x_iload (q := 0) hC dL_key_166 rfl ?_
              refine x_iadd hC dL_key_168 ?_
              exact x_iret hC hr dL_key_169 h
            · replace h := h.2 q
              refine x_iload (q := 1) hC dL_key_161 rfl ?_
              refine x_goto (t := 168) hC dL_key_163 (by decide) ?_
              refine x_iadd hC dL_key_168 ?_
              exact x_iret hC hr dL_key_169 h
          · replace h := h.2 q
            refine x_iload (q := 0) hC dL_key_147 rfl ?_
            refine x_if_lt (t := 156) hC dL_key_149 (by decide) (fun q => ?_) (fun q => ?_)
            · replace h := h.1 q
              refine x_iload (q := 1) hC dL_key_156 rfl ?_
              refine x_if_le (t := 166) hC dL_key_158 (by decide) (fun q => ?_) (fun q => ?_)
              · replace h := h.1 q
                refine x_iload (q := 0) hC dL_key_166 rfl ?_
                refine x_iadd hC dL_key_168 ?_
                exact x_iret hC hr dL_key_169 h
              · replace h := h.2 q
                refine x_iload (q := 1) hC dL_key_161 rfl ?_
                refine x_goto (t := 168) hC dL_key_163 (by decide) ?_
                refine x_iadd hC dL_key_168 ?_
                exact x_iret hC hr dL_key_169 h
            · replace h := h.2 q
              refine x_iconst (v := 0) hC dL_key_152 (by decide) ?_
              refine x_goto (t := 168) hC dL_key_153 (by decide) ?_
              refine x_iadd hC dL_key_168 ?_
              exact x_iret hC hr dL_key_169 h
        · replace h := h.2 q
          refine x_bipush (v := -6) hC dL_key_137 (by decide) ?_
          exact x_iret hC hr dL_key_139 h
  refine x_if_lt (t := 116) hC dL_key_33 (by decide) (fun q => ?_) (fun q => ?_)
  · replace h := h.1 q
    exact x_sub [1, 0] rfl (HJ3 _ _ h)
  · replace h := h.2 q
    refine x_aload_n (i := 3) (q := 5) hC dL_key_36 rfl rfl ?_
    refine x_iconst (v := 4) hC dL_key_37 (by decide) ?_
    refine x_iload_n (i := 1) (q := 3) hC dL_key_38 rfl rfl ?_
    refine x_imul hC dL_key_39 ?_
    refine x_iconst (v := 1) hC dL_key_40 (by decide) ?_
    refine x_iadd hC dL_key_41 ?_
    refine x_iald (len := 48) hC xa_194 h.1 dL_key_42 ?_
    replace h := h.2
    refine x_aload (q := 6) hC dL_key_43 rfl ?_
    refine x_iconst (v := 4) hC dL_key_45 (by decide) ?_
    refine x_iload_n (i := 2) (q := 4) hC dL_key_46 rfl rfl ?_
    refine x_imul hC dL_key_47 ?_
    refine x_iconst (v := 1) hC dL_key_48 (by decide) ?_
    refine x_iadd hC dL_key_49 ?_
    refine x_iald (len := 64) hC xa_195 h.1 dL_key_50 ?_
    replace h := h.2
    refine x_isub hC dL_key_51 ?_
    refine x_iload (q := 1) hC dL_key_52 rfl ?_
    obtain ⟨J6, h, hJ6⟩ := h
    have HJ6 : ∀ (j7 : Int32), J6 j7 → x_W x g 7 (x_Qi x g P) M 78 [(1, .int v1), (2, .int v2), (3, .ref (x_a g 194)), (4, .ref (x_a g 195)), (6, .int y2)] [.int j7] := by
      intro j7 hj
      have h := hJ6 j7 hj
      refine x_istore (ls' := [(5, .int j7), (1, .int v1), (2, .int v2), (3, .ref (x_a g 194)), (4, .ref (x_a g 195)), (6, .int y2)]) hC dL_key_78 (by decide) rfl ?_
      refine x_aload_n (i := 3) (q := 3) hC dL_key_80 rfl rfl ?_
      refine x_iconst (v := 4) hC dL_key_81 (by decide) ?_
      refine x_iload_n (i := 1) (q := 1) hC dL_key_82 rfl rfl ?_
      refine x_imul hC dL_key_83 ?_
      refine x_iald (len := 48) hC xa_194 h.1 dL_key_84 ?_
      replace h := h.2
      refine x_aload (q := 4) hC dL_key_85 rfl ?_
      refine x_iconst (v := 4) hC dL_key_87 (by decide) ?_
      refine x_iload_n (i := 2) (q := 2) hC dL_key_88 rfl rfl ?_
      refine x_imul hC dL_key_89 ?_
      refine x_iald (len := 64) hC xa_195 h.1 dL_key_90 ?_
      replace h := h.2
      refine x_isub hC dL_key_91 ?_
      refine x_iload (q := 5) hC dL_key_92 rfl ?_
      obtain ⟨J8, h, hJ8⟩ := h
      have HJ8 : ∀ (j9 : Int32), J8 j9 → x_W x g 7 (x_Qi x g P) M 114 [(5, .int j7)] [.int j9] := by
        intro j9 hj
        have h := hJ8 j9 hj
        refine x_istore (ls' := [(6, .int j9), (5, .int j7)]) hC dL_key_114 (by decide) rfl ?_
        exact x_sub [1, 0] rfl (HJ3 _ _ h)
      refine x_icmp_le (t := 112) hC dL_key_94 (by decide) (fun q => ?_) (fun q => ?_)
      · replace h := h.1 q
        refine x_iload (q := 5) hC dL_key_112 rfl ?_
        exact x_sub [0] rfl (HJ8 _ h)
      · replace h := h.2 q
        refine x_aload_n (i := 3) (q := 3) hC dL_key_97 rfl rfl ?_
        refine x_iconst (v := 4) hC dL_key_98 (by decide) ?_
        refine x_iload_n (i := 1) (q := 1) hC dL_key_99 rfl rfl ?_
        refine x_imul hC dL_key_100 ?_
        refine x_iald (len := 48) hC xa_194 h.1 dL_key_101 ?_
        replace h := h.2
        refine x_aload (q := 4) hC dL_key_102 rfl ?_
        refine x_iconst (v := 4) hC dL_key_104 (by decide) ?_
        refine x_iload_n (i := 2) (q := 2) hC dL_key_105 rfl rfl ?_
        refine x_imul hC dL_key_106 ?_
        refine x_iald (len := 64) hC xa_195 h.1 dL_key_107 ?_
        replace h := h.2
        refine x_isub hC dL_key_108 ?_
        refine x_goto (t := 114) hC dL_key_109 (by decide) ?_
        exact x_sub [0] rfl (HJ8 _ h)
    refine x_icmp_ge (t := 76) hC dL_key_54 (by decide) (fun q => ?_) (fun q => ?_)
    · replace h := h.1 q
      refine x_iload (q := 1) hC dL_key_76 rfl ?_
      exact x_sub [3, 4, 5, 6, 0] rfl (HJ6 _ h)
    · replace h := h.2 q
      refine x_aload_n (i := 3) (q := 5) hC dL_key_57 rfl rfl ?_
      refine x_iconst (v := 4) hC dL_key_58 (by decide) ?_
      refine x_iload_n (i := 1) (q := 3) hC dL_key_59 rfl rfl ?_
      refine x_imul hC dL_key_60 ?_
      refine x_iconst (v := 1) hC dL_key_61 (by decide) ?_
      refine x_iadd hC dL_key_62 ?_
      refine x_iald (len := 48) hC xa_194 h.1 dL_key_63 ?_
      replace h := h.2
      refine x_aload (q := 6) hC dL_key_64 rfl ?_
      refine x_iconst (v := 4) hC dL_key_66 (by decide) ?_
      refine x_iload_n (i := 2) (q := 4) hC dL_key_67 rfl rfl ?_
      refine x_imul hC dL_key_68 ?_
      refine x_iconst (v := 1) hC dL_key_69 (by decide) ?_
      refine x_iadd hC dL_key_70 ?_
      refine x_iald (len := 64) hC xa_195 h.1 dL_key_71 ?_
      replace h := h.2
      refine x_isub hC dL_key_72 ?_
      refine x_goto (t := 78) hC dL_key_73 (by decide) ?_
      exact x_sub [3, 4, 5, 6, 0] rfl (HJ6 _ h)
def vc_L_set (g : xG) (v0 : Int32) (M : xM) (P : Int32 → xM → Prop) : Prop := (∀ y1 : Int32, y1 = (((v0 / (100 : Int32)) - (v0 / (100 : Int32)) / (100 : Int32) * (100 : Int32)) - (1 : Int32)) → ((0 ≤ y1 → P (((1 : Int32) <<< ((v0 - v0 / (100 : Int32) * (100 : Int32)) &&& 31)) ||| ((1 : Int32) <<< (y1 &&& 31))) M) ∧ (¬ (0 ≤ y1) → P (((1 : Int32) <<< ((v0 - v0 / (100 : Int32) * (100 : Int32)) &&& 31)) ||| (0 : Int32)) M)))
set_option maxRecDepth 100000 in
set_option maxHeartbeats 4000000 in
theorem wk_L_set {g : xG} (v0 : Int32) (M : xM) (P : Int32 → xM → Prop) (h0 : vc_L_set g v0 M P ) : mi_L_set g v0 M P := by
  refine x_startI (as := [.int v0]) (cc := cL_set) (n := 2) (ret := (some .int)) (own := RL) (by decide) rfl rfl (Nat.le_of_ble_eq_true rfl) (fun x hC hr => ?_)
  have h := h0
  unfold vc_L_set at h
  refine x_iload_n (i := 0) (q := 0) hC dL_set_0 rfl rfl ?_
  refine x_bipush (v := 100) hC dL_set_1 (by decide) ?_
  refine x_idiv hC (by decide) dL_set_3 ?_
  refine x_bipush (v := 100) hC dL_set_4 (by decide) ?_
  refine x_irem hC (by decide) dL_set_6 ?_
  refine x_iconst (v := 1) hC dL_set_7 (by decide) ?_
  refine x_isub hC dL_set_8 ?_
  refine x_topi (fun y1 qy1 => ?_)
  replace h := h y1 qy1
  refine x_istore_n (i := 1) (ls' := [(1, .int y1), (0, .int v0)]) hC dL_set_9 rfl (by decide) rfl ?_
  refine x_iconst (v := 1) hC dL_set_10 (by decide) ?_
  refine x_iload_n (i := 0) (q := 1) hC dL_set_11 rfl rfl ?_
  refine x_bipush (v := 100) hC dL_set_12 (by decide) ?_
  refine x_irem hC (by decide) dL_set_14 ?_
  refine x_ishl hC dL_set_15 ?_
  refine x_iload_n (i := 1) (q := 0) hC dL_set_16 rfl rfl ?_
  refine x_if_ge (t := 24) hC dL_set_17 (by decide) (fun q => ?_) (fun q => ?_)
  · replace h := h.1 q
    refine x_iconst (v := 1) hC dL_set_24 (by decide) ?_
    refine x_iload_n (i := 1) (q := 0) hC dL_set_25 rfl rfl ?_
    refine x_ishl hC dL_set_26 ?_
    refine x_ior hC dL_set_27 ?_
    exact x_iret hC hr dL_set_28 h
  · replace h := h.2 q
    refine x_iconst (v := 0) hC dL_set_20 (by decide) ?_
    refine x_goto (t := 27) hC dL_set_21 (by decide) ?_
    refine x_ior hC dL_set_27 ?_
    exact x_iret hC hr dL_set_28 h
def vc_L_turns (g : xG) (v0 : Int32) (t : Nat) (M : xM) (P : Int32 → xM → Prop) : Prop := (vp_in (((4 : Int32) * (v0 - v0 / (100 : Int32) * (100 : Int32))) + (2 : Int32)) 48 ∧ (∀ y1 : Int32, y1 = (M t ((((4 : Int32) * (v0 - v0 / (100 : Int32) * (100 : Int32))) + (2 : Int32))).toNatClampNeg) → (∀ y2 : Int32, y2 = (((v0 / (100 : Int32)) - (v0 / (100 : Int32)) / (100 : Int32) * (100 : Int32)) - (1 : Int32)) → ((y2 < 0 → P y1 M) ∧ (¬ (y2 < 0) → (vp_in (((4 : Int32) * y2) + (2 : Int32)) 48 ∧ (((M t ((((4 : Int32) * y2) + (2 : Int32))).toNatClampNeg) ≤ y1 → P y1 M) ∧ (¬ ((M t ((((4 : Int32) * y2) + (2 : Int32))).toNatClampNeg) ≤ y1) → (vp_in (((4 : Int32) * y2) + (2 : Int32)) 48 ∧ P (M t ((((4 : Int32) * y2) + (2 : Int32))).toNatClampNeg) M)))))))))
set_option maxRecDepth 100000 in
set_option maxHeartbeats 4000000 in
theorem wk_L_turns {g : xG} (v0 : Int32) (t : Nat) (ht : x_isA t 0 48) (M : xM) (P : Int32 → xM → Prop) (h0 : vc_L_turns g v0 t M P ) : mi_L_turns g v0 t M P := by
  refine x_startI (as := [.int v0, .ref (x_a g t)]) (cc := cL_turns) (n := 4) (ret := (some .int)) (own := RL) (by decide) rfl rfl (Nat.le_of_ble_eq_true rfl) (fun x hC hr => ?_)
  have h := h0
  unfold vc_L_turns at h
  refine x_aload_n (i := 1) (q := 1) hC dL_turns_0 rfl rfl ?_
  refine x_iconst (v := 4) hC dL_turns_1 (by decide) ?_
  refine x_iload_n (i := 0) (q := 0) hC dL_turns_2 rfl rfl ?_
  refine x_bipush (v := 100) hC dL_turns_3 (by decide) ?_
  refine x_irem hC (by decide) dL_turns_5 ?_
  refine x_imul hC dL_turns_6 ?_
  refine x_iconst (v := 2) hC dL_turns_7 (by decide) ?_
  refine x_iadd hC dL_turns_8 ?_
  refine x_iald (len := 48) hC ht h.1 dL_turns_9 ?_
  replace h := h.2
  refine x_topi (fun y1 qy1 => ?_)
  replace h := h y1 qy1
  refine x_istore_n (i := 2) (ls' := [(2, .int y1), (0, .int v0), (1, .ref (x_a g t))]) hC dL_turns_10 rfl (by decide) rfl ?_
  refine x_iload_n (i := 0) (q := 1) hC dL_turns_11 rfl rfl ?_
  refine x_bipush (v := 100) hC dL_turns_12 (by decide) ?_
  refine x_idiv hC (by decide) dL_turns_14 ?_
  refine x_bipush (v := 100) hC dL_turns_15 (by decide) ?_
  refine x_irem hC (by decide) dL_turns_17 ?_
  refine x_iconst (v := 1) hC dL_turns_18 (by decide) ?_
  refine x_isub hC dL_turns_19 ?_
  refine x_topi (fun y2 qy2 => ?_)
  replace h := h y2 qy2
  refine x_istore_n (i := 3) (ls' := [(3, .int y2), (2, .int y1), (0, .int v0), (1, .ref (x_a g t))]) hC dL_turns_20 rfl (by decide) rfl ?_
  refine x_iload_n (i := 3) (q := 0) hC dL_turns_21 rfl rfl ?_
  refine x_if_lt (t := 46) hC dL_turns_22 (by decide) (fun q => ?_) (fun q => ?_)
  · replace h := h.1 q
    refine x_iload_n (i := 2) (q := 1) hC dL_turns_46 rfl rfl ?_
    exact x_iret hC hr dL_turns_47 h
  · replace h := h.2 q
    refine x_aload_n (i := 1) (q := 3) hC dL_turns_25 rfl rfl ?_
    refine x_iconst (v := 4) hC dL_turns_26 (by decide) ?_
    refine x_iload_n (i := 3) (q := 0) hC dL_turns_27 rfl rfl ?_
    refine x_imul hC dL_turns_28 ?_
    refine x_iconst (v := 2) hC dL_turns_29 (by decide) ?_
    refine x_iadd hC dL_turns_30 ?_
    refine x_iald (len := 48) hC ht h.1 dL_turns_31 ?_
    replace h := h.2
    refine x_iload_n (i := 2) (q := 1) hC dL_turns_32 rfl rfl ?_
    refine x_icmp_le (t := 46) hC dL_turns_33 (by decide) (fun q => ?_) (fun q => ?_)
    · replace h := h.1 q
      refine x_iload_n (i := 2) (q := 1) hC dL_turns_46 rfl rfl ?_
      exact x_iret hC hr dL_turns_47 h
    · replace h := h.2 q
      refine x_aload_n (i := 1) (q := 3) hC dL_turns_36 rfl rfl ?_
      refine x_iconst (v := 4) hC dL_turns_37 (by decide) ?_
      refine x_iload_n (i := 3) (q := 0) hC dL_turns_38 rfl rfl ?_
      refine x_imul hC dL_turns_39 ?_
      refine x_iconst (v := 2) hC dL_turns_40 (by decide) ?_
      refine x_iadd hC dL_turns_41 ?_
      refine x_iald (len := 48) hC ht h.1 dL_turns_42 ?_
      replace h := h.2
      refine x_goto (t := 47) hC dL_turns_43 (by decide) ?_
      exact x_iret hC hr dL_turns_47 h
def vc_L_next (g : xG) (a : Nat) (b : Nat) (c : Nat) (M : xM) (P : Int32 → xM → Prop) (K1 : Int32 → Int32 → xM → Prop) : Prop := (vp_in (2 : Int32) 8 ∧ K1 (-6 : Int32) ((M a ((2 : Int32)).toNatClampNeg) - (1 : Int32)) M)
def vc_L_next_1 (g : xG) (a : Nat) (b : Nat) (c : Nat) (v3 : Int32) (v4 : Int32) (M : xM) (P : Int32 → xM → Prop) (K1 : Int32 → Int32 → xM → Prop) : Prop := ((v4 < 0 → P v3 M) ∧ (¬ (v4 < 0) → (vp_in v4 20 ∧ (mi_L_set g (M c (v4).toNatClampNeg) M (fun r1 N2 => (vp_in (3 : Int32) 8 ∧ (((r1 &&& ((N2 a ((3 : Int32)).toNatClampNeg) ^^^ (-1 : Int32))) = 0 → (vp_in v4 20 ∧ (mi_L_turns g (N2 c (v4).toNatClampNeg) b N2 (fun r3 N4 => (vp_in v4 20 ∧ (mi_L_set g (N4 c (v4).toNatClampNeg) N4 (fun r5 N6 => (vp_in (4 : Int32) 8 ∧ (∃ J7 : Int32 → Prop, ((¬ (r5 &&& (N6 a ((4 : Int32)).toNatClampNeg)) = 0 → J7 (10000 : Int32)) ∧ ((r5 &&& (N6 a ((4 : Int32)).toNatClampNeg)) = 0 → J7 (0 : Int32))) ∧ (∀ (j8 : Int32), J7 j8 → (∃ J9 : Int32 → xM → Prop, ((0 ≤ v3 → (vp_in v3 20 ∧ (mi_L_turns g (N6 c (v3).toNatClampNeg) b N6 (fun r12 N13 => (vp_in v3 20 ∧ (mi_L_set g (N13 c (v3).toNatClampNeg) N13 (fun r14 N15 => (vp_in (4 : Int32) 8 ∧ (∃ J16 : Int32 → Prop, ((¬ (r14 &&& (N15 a ((4 : Int32)).toNatClampNeg)) = 0 → J16 (10000 : Int32)) ∧ ((r14 &&& (N15 a ((4 : Int32)).toNatClampNeg)) = 0 → J16 (0 : Int32))) ∧ (∀ (j17 : Int32), J16 j17 → J9 (r12 + j17) N15)))))))))) ∧ (¬ (0 ≤ v3) → J9 (99999 : Int32) N6)) ∧ (∀ (j10 : Int32) (N11 : xM), J9 j10 N11 → ((j10 < (r3 + j8) → K1 v3 (v4 + (-1 : Int32)) N11) ∧ (¬ (j10 < (r3 + j8)) → K1 v4 (v4 + (-1 : Int32)) N11)))))))))))))) ∧ (¬ ((r1 &&& ((N2 a ((3 : Int32)).toNatClampNeg) ^^^ (-1 : Int32))) = 0) → K1 v3 (v4 + (-1 : Int32)) N2))))))))
set_option maxRecDepth 100000 in
set_option maxHeartbeats 4000000 in
theorem wk_L_next {g : xG} (a : Nat) (b : Nat) (c : Nat) (ha : x_isA a 0 8) (hb : x_isA b 0 48) (hc : x_isA c 0 20) (M : xM) (P : Int32 → xM → Prop) (I1 : Nat → Int32 → Int32 → xM → Prop) (h0 : vc_L_next g a b c M P (fun v3 v4 N => ∃ k, I1 k v3 v4 N)) (h1 : ∀ (n : Nat) (v3 : Int32) (v4 : Int32) (N : xM), I1 n v3 v4 N → vc_L_next_1 g a b c v3 v4 N P (fun v3 v4 N => ∃ k, k < n ∧ I1 k v3 v4 N)) : mi_L_next g a b c M P := by
  refine x_startI (as := [.ref (x_a g a), .ref (x_a g b), .ref (x_a g c)]) (cc := cL_next) (n := 7) (ret := (some .int)) (own := RL) (by decide) rfl rfl (Nat.le_of_ble_eq_true rfl) (fun x hC hr => ?_)
  have L : ∀ n : Nat, (∀ (v3 : Int32) (v4 : Int32) (N : xM), I1 n v3 v4 N → x_W x g 7 (x_Qi x g P) N 10 [(0, .ref (x_a g a)), (1, .ref (x_a g b)), (2, .ref (x_a g c)), (3, .int v3), (4, .int v4)] []) := by
    intro n
    induction n using Nat.strongRecOn with
    | ind n ih =>
      intro v3 v4 M hI
      have h := h1 n v3 v4 M hI
      unfold vc_L_next_1 at h
      refine x_iload (q := 4) hC dL_next_10 rfl ?_
      refine x_if_lt (t := 125) hC dL_next_12 (by decide) (fun q => ?_) (fun q => ?_)
      · replace h := h.1 q
        refine x_iload_n (i := 3) (q := 3) hC dL_next_125 rfl rfl ?_
        exact x_iret hC hr dL_next_126 h
      · replace h := h.2 q
        refine x_aload_n (i := 2) (q := 2) hC dL_next_15 rfl rfl ?_
        refine x_iload (q := 4) hC dL_next_16 rfl ?_
        refine x_iald (len := 20) hC hc h.1 dL_next_18 ?_
        replace h := h.2
        refine x_callSi (As := [.int (M c (v4).toNatClampNeg)]) hC h gL_next_L_set rfl rfl rfl hy_L_set.2 ⟨Nat.le_of_ble_eq_true rfl, Nat.le_of_ble_eq_true rfl⟩ rfl (Nat.le_of_ble_eq_true rfl) rfl dL_next_19 (fun r1 N2 h => ?_)
        refine x_aload_n (i := 0) (q := 0) hC dL_next_22 rfl rfl ?_
        refine x_iconst (v := 3) hC dL_next_23 (by decide) ?_
        refine x_iald (len := 8) hC ha h.1 dL_next_24 ?_
        replace h := h.2
        refine x_iconst (v := -1) hC dL_next_25 (by decide) ?_
        refine x_ixor hC dL_next_26 ?_
        refine x_iand hC dL_next_27 ?_
        refine x_if_eq (t := 34) hC dL_next_28 (by decide) (fun q => ?_) (fun q => ?_)
        · replace h := h.1 q
          refine x_aload_n (i := 2) (q := 2) hC dL_next_34 rfl rfl ?_
          refine x_iload (q := 4) hC dL_next_35 rfl ?_
          refine x_iald (len := 20) hC hc h.1 dL_next_37 ?_
          replace h := h.2
          refine x_aload_n (i := 1) (q := 1) hC dL_next_38 rfl rfl ?_
          refine x_callSi (As := [.int (N2 c (v4).toNatClampNeg), .ref (x_a g b)]) hC h gL_next_L_turns rfl rfl rfl hy_L_turns.2 ⟨Nat.le_of_ble_eq_true rfl, Nat.le_of_ble_eq_true rfl⟩ rfl (Nat.le_of_ble_eq_true rfl) rfl dL_next_39 (fun r3 N4 h => ?_)
          refine x_aload_n (i := 2) (q := 2) hC dL_next_42 rfl rfl ?_
          refine x_iload (q := 4) hC dL_next_43 rfl ?_
          refine x_iald (len := 20) hC hc h.1 dL_next_45 ?_
          replace h := h.2
          refine x_callSi (As := [.int (N4 c (v4).toNatClampNeg)]) hC h gL_next_L_set rfl rfl rfl hy_L_set.2 ⟨Nat.le_of_ble_eq_true rfl, Nat.le_of_ble_eq_true rfl⟩ rfl (Nat.le_of_ble_eq_true rfl) rfl dL_next_46 (fun r5 N6 h => ?_)
          refine x_aload_n (i := 0) (q := 0) hC dL_next_49 rfl rfl ?_
          refine x_iconst (v := 4) hC dL_next_50 (by decide) ?_
          refine x_iald (len := 8) hC ha h.1 dL_next_51 ?_
          replace h := h.2
          refine x_iand hC dL_next_52 ?_
          obtain ⟨J7, h, hJ7⟩ := h
          have HJ7 : ∀ (j8 : Int32), J7 j8 → x_W x g 7 (x_Qi x g P) N6 63 [(0, .ref (x_a g a)), (1, .ref (x_a g b)), (2, .ref (x_a g c)), (3, .int v3), (4, .int v4)] [.int j8, .int r3] := by
            intro j8 hj
            have h := hJ7 j8 hj
            refine x_iadd hC dL_next_63 ?_
            refine x_istore (ls' := [(5, .int (r3 + j8)), (0, .ref (x_a g a)), (1, .ref (x_a g b)), (2, .ref (x_a g c)), (3, .int v3), (4, .int v4)]) hC dL_next_64 (by decide) rfl ?_
            refine x_iload_n (i := 3) (q := 4) hC dL_next_66 rfl rfl ?_
            obtain ⟨J9, h, hJ9⟩ := h
            have HJ9 : ∀ (j10 : Int32) (N11 : xM), J9 j10 N11 → x_W x g 7 (x_Qi x g P) N11 103 [(0, .ref (x_a g a)), (1, .ref (x_a g b)), (2, .ref (x_a g c)), (3, .int v3), (4, .int v4), (5, .int (r3 + j8))] [.int j10] := by
              intro j10 N11 hj
              have h := hJ9 j10 N11 hj
              refine x_istore (ls' := [(6, .int j10), (0, .ref (x_a g a)), (1, .ref (x_a g b)), (2, .ref (x_a g c)), (3, .int v3), (4, .int v4), (5, .int (r3 + j8))]) hC dL_next_103 (by decide) rfl ?_
              refine x_iload (q := 6) hC dL_next_105 rfl ?_
              refine x_iload (q := 0) hC dL_next_107 rfl ?_
              refine x_icmp_gt (t := 117) hC dL_next_109 (by decide) (fun q => ?_) (fun q => ?_)
              · replace h := h.1 q
                refine x_iload_n (i := 3) (q := 4) hC dL_next_117 rfl rfl ?_
                refine x_istore_n (i := 3) (ls' := [(3, .int v3), (6, .int j10), (0, .ref (x_a g a)), (1, .ref (x_a g b)), (2, .ref (x_a g c)), (4, .int v4), (5, .int (r3 + j8))]) hC dL_next_118 rfl (by decide) rfl ?_
                refine x_iinc (k := 5) (v' := (v4 + (-1 : Int32))) (ls' := [(4, .int (v4 + (-1 : Int32))), (3, .int v3), (6, .int j10), (0, .ref (x_a g a)), (1, .ref (x_a g b)), (2, .ref (x_a g c)), (5, .int (r3 + j8))]) hC dL_next_119 rfl rfl (by decide) rfl ?_
                refine x_goto (t := 10) hC dL_next_122 (by decide) ?_
                obtain ⟨n_1, hn, h⟩ := h
                exact x_sub [3, 4, 5, 1, 0] rfl ((ih n_1 hn) _ _ _ h)
              · replace h := h.2 q
                refine x_iload (q := 5) hC dL_next_112 rfl ?_
                refine x_goto (t := 118) hC dL_next_114 (by decide) ?_
                refine x_istore_n (i := 3) (ls' := [(3, .int v4), (6, .int j10), (0, .ref (x_a g a)), (1, .ref (x_a g b)), (2, .ref (x_a g c)), (4, .int v4), (5, .int (r3 + j8))]) hC dL_next_118 rfl (by decide) rfl ?_
                refine x_iinc (k := 5) (v' := (v4 + (-1 : Int32))) (ls' := [(4, .int (v4 + (-1 : Int32))), (3, .int v4), (6, .int j10), (0, .ref (x_a g a)), (1, .ref (x_a g b)), (2, .ref (x_a g c)), (5, .int (r3 + j8))]) hC dL_next_119 rfl rfl (by decide) rfl ?_
                refine x_goto (t := 10) hC dL_next_122 (by decide) ?_
                obtain ⟨n_1, hn, h⟩ := h
                exact x_sub [3, 4, 5, 1, 0] rfl ((ih n_1 hn) _ _ _ h)
            refine x_if_ge (t := 75) hC dL_next_67 (by decide) (fun q => ?_) (fun q => ?_)
            · replace h := h.1 q
              refine x_aload_n (i := 2) (q := 3) hC dL_next_75 rfl rfl ?_
              refine x_iload_n (i := 3) (q := 4) hC dL_next_76 rfl rfl ?_
              refine x_iald (len := 20) hC hc h.1 dL_next_77 ?_
              replace h := h.2
              refine x_aload_n (i := 1) (q := 2) hC dL_next_78 rfl rfl ?_
              refine x_callSi (As := [.int (N6 c (v3).toNatClampNeg), .ref (x_a g b)]) hC h gL_next_L_turns rfl rfl rfl hy_L_turns.2 ⟨Nat.le_of_ble_eq_true rfl, Nat.le_of_ble_eq_true rfl⟩ rfl (Nat.le_of_ble_eq_true rfl) rfl dL_next_79 (fun r12 N13 h => ?_)
              refine x_aload_n (i := 2) (q := 3) hC dL_next_82 rfl rfl ?_
              refine x_iload_n (i := 3) (q := 4) hC dL_next_83 rfl rfl ?_
              refine x_iald (len := 20) hC hc h.1 dL_next_84 ?_
              replace h := h.2
              refine x_callSi (As := [.int (N13 c (v3).toNatClampNeg)]) hC h gL_next_L_set rfl rfl rfl hy_L_set.2 ⟨Nat.le_of_ble_eq_true rfl, Nat.le_of_ble_eq_true rfl⟩ rfl (Nat.le_of_ble_eq_true rfl) rfl dL_next_85 (fun r14 N15 h => ?_)
              refine x_aload_n (i := 0) (q := 1) hC dL_next_88 rfl rfl ?_
              refine x_iconst (v := 4) hC dL_next_89 (by decide) ?_
              refine x_iald (len := 8) hC ha h.1 dL_next_90 ?_
              replace h := h.2
              refine x_iand hC dL_next_91 ?_
              obtain ⟨J16, h, hJ16⟩ := h
              have HJ16 : ∀ (j17 : Int32), J16 j17 → x_W x g 7 (x_Qi x g P) N15 102 [(0, .ref (x_a g a)), (1, .ref (x_a g b)), (2, .ref (x_a g c)), (3, .int v3), (4, .int v4), (5, .int (r3 + j8))] [.int j17, .int r12] := by
                intro j17 hj
                have h := hJ16 j17 hj
                refine x_iadd hC dL_next_102 ?_
                exact x_sub [0, 1, 2, 3, 4, 5] rfl (HJ9 _ _ h)
              refine x_if_ne (t := 99) hC dL_next_92 (by decide) (fun q => ?_) (fun q => ?_)
              · replace h := h.1 q
                refine x_sipush (v := 10000) hC dL_next_99 (by decide) ?_
                exact x_sub [1, 2, 3, 4, 5, 0] rfl (HJ16 _ h)
              · replace h := h.2 q
                refine x_iconst (v := 0) hC dL_next_95 (by decide) ?_
                refine x_goto (t := 102) hC dL_next_96 (by decide) ?_
                exact x_sub [1, 2, 3, 4, 5, 0] rfl (HJ16 _ h)
            · replace h := h.2 q
              refine x_ldc (i := 20) (v := 99999) hC (by decide +kernel) dL_next_70 ?_
              refine x_goto (t := 103) hC dL_next_72 (by decide) ?_
              exact x_sub [1, 2, 3, 4, 5, 0] rfl (HJ9 _ _ h)
          refine x_if_ne (t := 60) hC dL_next_53 (by decide) (fun q => ?_) (fun q => ?_)
          · replace h := h.1 q
            refine x_sipush (v := 10000) hC dL_next_60 (by decide) ?_
            exact x_sub [0, 1, 2, 3, 4] rfl (HJ7 _ h)
          · replace h := h.2 q
            refine x_iconst (v := 0) hC dL_next_56 (by decide) ?_
            refine x_goto (t := 63) hC dL_next_57 (by decide) ?_
            exact x_sub [0, 1, 2, 3, 4] rfl (HJ7 _ h)
        · replace h := h.2 q
          refine x_goto (t := 119) hC dL_next_31 (by decide) ?_
          refine x_iinc (k := 4) (v' := (v4 + (-1 : Int32))) (ls' := [(4, .int (v4 + (-1 : Int32))), (0, .ref (x_a g a)), (1, .ref (x_a g b)), (2, .ref (x_a g c)), (3, .int v3)]) hC dL_next_119 rfl rfl (by decide) rfl ?_
          refine x_goto (t := 10) hC dL_next_122 (by decide) ?_
          obtain ⟨n_1, hn, h⟩ := h
          exact x_sub [1, 2, 3, 4, 0] rfl ((ih n_1 hn) _ _ _ h)
  have h := h0
  unfold vc_L_next at h
  refine x_bipush (v := -6) hC dL_next_0 (by decide) ?_
  refine x_istore_n (i := 3) (ls' := [(3, .int (-6 : Int32)), (0, .ref (x_a g a)), (1, .ref (x_a g b)), (2, .ref (x_a g c))]) hC dL_next_2 rfl (by decide) rfl ?_
  refine x_aload_n (i := 0) (q := 1) hC dL_next_3 rfl rfl ?_
  refine x_iconst (v := 2) hC dL_next_4 (by decide) ?_
  refine x_iald (len := 8) hC ha h.1 dL_next_5 ?_
  replace h := h.2
  refine x_iconst (v := 1) hC dL_next_6 (by decide) ?_
  refine x_isub hC dL_next_7 ?_
  refine x_istore (ls' := [(4, .int ((M a ((2 : Int32)).toNatClampNeg) - (1 : Int32))), (3, .int (-6 : Int32)), (0, .ref (x_a g a)), (1, .ref (x_a g b)), (2, .ref (x_a g c))]) hC dL_next_8 (by decide) rfl ?_
  obtain ⟨n_1, h⟩ := h
  exact x_sub [2, 3, 4, 1, 0] rfl ((L n_1) _ _ _ h)
def vc_L_sing (g : xG) (v0 : Int32) (a : Nat) (b : Nat) (c : Nat) (d : Nat) (e : Nat) (f : Nat) (M : xM) (P : xM → Prop) (K1 : Int32 → Int32 → Int32 → Int32 → Int32 → xM → Prop) (K2 : Int32 → Int32 → Int32 → Int32 → xM → Prop) (K3 : Int32 → xM → Prop) : Prop := (vp_in v0 20 ∧ (mi_L_set g (M d (v0).toNatClampNeg) M (fun r1 N2 => K1 v0 (M d (v0).toNatClampNeg) ((M d (v0).toNatClampNeg) / (10000 : Int32)) r1 (11 : Int32) N2)))
def vc_L_sing_1 (g : xG) (a : Nat) (b : Nat) (c : Nat) (d : Nat) (e : Nat) (f : Nat) (v0 : Int32) (v7 : Int32) (v8 : Int32) (v9 : Int32) (v10 : Int32) (M : xM) (P : xM → Prop) (K1 : Int32 → Int32 → Int32 → Int32 → Int32 → xM → Prop) (K2 : Int32 → Int32 → Int32 → Int32 → xM → Prop) (K3 : Int32 → xM → Prop) : Prop := ((v10 ≤ 0 → (vp_in (0 : Int32) 12 ∧ (vp_in (5 : Int32) 8 ∧ (vp_in (0 : Int32) 12 ∧ (∀ N3 : xM, N3 = (x_up (x_up M e ((0 : Int32)).toNatClampNeg v7) f ((0 : Int32)).toNatClampNeg ((x_up M e ((0 : Int32)).toNatClampNeg v7) a ((5 : Int32)).toNatClampNeg)) → (vp_in (7 : Int32) 8 ∧ (∃ J4 : Int32 → Prop, (((12 : Int32) ≤ (N3 a ((7 : Int32)).toNatClampNeg) → J4 (12 : Int32)) ∧ (¬ ((12 : Int32) ≤ (N3 a ((7 : Int32)).toNatClampNeg)) → (vp_in (7 : Int32) 8 ∧ J4 ((N3 a ((7 : Int32)).toNatClampNeg) + (1 : Int32))))) ∧ (∀ (j5 : Int32), J4 j5 → (vp_in (7 : Int32) 8 ∧ K2 v0 v8 v9 (0 : Int32) (x_up N3 a ((7 : Int32)).toNatClampNeg j5)))))))))) ∧ (¬ (v10 ≤ 0) → (vp_in (v10 - (1 : Int32)) 12 ∧ (vp_in v10 12 ∧ (vp_in (v10 - (1 : Int32)) 12 ∧ (vp_in v10 12 ∧ (∀ N6 : xM, N6 = (x_up (x_up M e (v10).toNatClampNeg (M e ((v10 - (1 : Int32))).toNatClampNeg)) f (v10).toNatClampNeg ((x_up M e (v10).toNatClampNeg (M e ((v10 - (1 : Int32))).toNatClampNeg)) f ((v10 - (1 : Int32))).toNatClampNeg)) → K1 v0 v7 v8 v9 (v10 + (-1 : Int32)) N6)))))))
def vc_L_sing_2 (g : xG) (a : Nat) (b : Nat) (c : Nat) (d : Nat) (e : Nat) (f : Nat) (v0 : Int32) (v8 : Int32) (v9 : Int32) (v10 : Int32) (M : xM) (P : xM → Prop) (K1 : Int32 → Int32 → Int32 → Int32 → Int32 → xM → Prop) (K2 : Int32 → Int32 → Int32 → Int32 → xM → Prop) (K3 : Int32 → xM → Prop) : Prop := (vp_in (0 : Int32) 8 ∧ (((M a ((0 : Int32)).toNatClampNeg) ≤ v10 → (vp_in (((4 : Int32) * v8) + (3 : Int32)) 64 ∧ (vp_in (((4 : Int32) * v8) + (3 : Int32)) 64 ∧ (∀ N7 : xM, N7 = (x_up M c ((((4 : Int32) * v8) + (3 : Int32))).toNatClampNeg ((M c ((((4 : Int32) * v8) + (3 : Int32))).toNatClampNeg) + (1 : Int32))) → (vp_in (4 : Int32) 8 ∧ (vp_in (5 : Int32) 8 ∧ (vp_in (((4 : Int32) * v8) + (2 : Int32)) 64 ∧ (vp_in (5 : Int32) 8 ∧ (∀ N8 : xM, N8 = (x_up (x_up N7 a ((4 : Int32)).toNatClampNeg v9) a ((5 : Int32)).toNatClampNeg (((x_up N7 a ((4 : Int32)).toNatClampNeg v9) a ((5 : Int32)).toNatClampNeg) + ((x_up N7 a ((4 : Int32)).toNatClampNeg v9) c ((((4 : Int32) * v8) + (2 : Int32))).toNatClampNeg))) → (vp_in (6 : Int32) 8 ∧ (vp_in (6 : Int32) 8 ∧ K3 v0 (x_up N8 a ((6 : Int32)).toNatClampNeg ((N8 a ((6 : Int32)).toNatClampNeg) + (1 : Int32)))))))))))))) ∧ (¬ ((M a ((0 : Int32)).toNatClampNeg) ≤ v10) → (vp_in (((4 : Int32) * v10) + (2 : Int32)) 48 ∧ (vp_in (((4 : Int32) * v10) + (2 : Int32)) 48 ∧ (∀ N9 : xM, N9 = (x_up M b ((((4 : Int32) * v10) + (2 : Int32))).toNatClampNeg ((M b ((((4 : Int32) * v10) + (2 : Int32))).toNatClampNeg) + ((v9 >>> (v10 &&& 31)) &&& (1 : Int32)))) → (vp_in (((4 : Int32) * v10) + (3 : Int32)) 48 ∧ (vp_in (((4 : Int32) * v8) + (2 : Int32)) 64 ∧ (vp_in (((4 : Int32) * v10) + (3 : Int32)) 48 ∧ (∀ N10 : xM, N10 = (x_up N9 b ((((4 : Int32) * v10) + (3 : Int32))).toNatClampNeg ((N9 b ((((4 : Int32) * v10) + (3 : Int32))).toNatClampNeg) + (((v9 >>> (v10 &&& 31)) &&& (1 : Int32)) * (N9 c ((((4 : Int32) * v8) + (2 : Int32))).toNatClampNeg)))) → K2 v0 v8 v9 (v10 + (1 : Int32)) N10))))))))))
def vc_L_sing_3 (g : xG) (a : Nat) (b : Nat) (c : Nat) (d : Nat) (e : Nat) (f : Nat) (v10 : Int32) (M : xM) (P : xM → Prop) (K1 : Int32 → Int32 → Int32 → Int32 → Int32 → xM → Prop) (K2 : Int32 → Int32 → Int32 → Int32 → xM → Prop) (K3 : Int32 → xM → Prop) : Prop := (vp_in (2 : Int32) 8 ∧ (((M a ((2 : Int32)).toNatClampNeg) ≤ (v10 + (1 : Int32)) → (vp_in (2 : Int32) 8 ∧ (vp_in (2 : Int32) 8 ∧ P (x_up M a ((2 : Int32)).toNatClampNeg ((M a ((2 : Int32)).toNatClampNeg) - (1 : Int32)))))) ∧ (¬ ((M a ((2 : Int32)).toNatClampNeg) ≤ (v10 + (1 : Int32))) → (vp_in (v10 + (1 : Int32)) 20 ∧ (vp_in v10 20 ∧ K3 (v10 + (1 : Int32)) (x_up M d (v10).toNatClampNeg (M d ((v10 + (1 : Int32))).toNatClampNeg)))))))
set_option maxRecDepth 100000 in
set_option maxHeartbeats 4000000 in
theorem wk_L_sing {g : xG} (v0 : Int32) (a : Nat) (b : Nat) (c : Nat) (d : Nat) (e : Nat) (f : Nat) (ha : x_isA a 0 8) (hb : x_isA b 0 48) (hc : x_isA c 0 64) (hd : x_isA d 0 20) (he : x_isA e 0 12) (hf : x_isA f 0 12) (M : xM) (P : xM → Prop) (I1 : Nat → Int32 → Int32 → Int32 → Int32 → Int32 → xM → Prop) (I2 : Nat → Int32 → Int32 → Int32 → Int32 → xM → Prop) (I3 : Nat → Int32 → xM → Prop) (h0 : vc_L_sing g v0 a b c d e f M P (fun v0 v7 v8 v9 v10 N => ∃ k, I1 k v0 v7 v8 v9 v10 N) (fun v0 v8 v9 v10 N => ∃ k, I2 k v0 v8 v9 v10 N) (fun v10 N => ∃ k, I3 k v10 N)) (h1 : ∀ (n : Nat) (v0 : Int32) (v7 : Int32) (v8 : Int32) (v9 : Int32) (v10 : Int32) (N : xM), I1 n v0 v7 v8 v9 v10 N → vc_L_sing_1 g a b c d e f v0 v7 v8 v9 v10 N P (fun v0 v7 v8 v9 v10 N => ∃ k, k < n ∧ I1 k v0 v7 v8 v9 v10 N) (fun v0 v8 v9 v10 N => ∃ k, k < n ∧ I2 k v0 v8 v9 v10 N) (fun v10 N => ∃ k, k < n ∧ I3 k v10 N)) (h2 : ∀ (n : Nat) (v0 : Int32) (v8 : Int32) (v9 : Int32) (v10 : Int32) (N : xM), I2 n v0 v8 v9 v10 N → vc_L_sing_2 g a b c d e f v0 v8 v9 v10 N P (fun v0 v7 v8 v9 v10 N => ∃ k, k < n ∧ I1 k v0 v7 v8 v9 v10 N) (fun v0 v8 v9 v10 N => ∃ k, k < n ∧ I2 k v0 v8 v9 v10 N) (fun v10 N => ∃ k, k < n ∧ I3 k v10 N)) (h3 : ∀ (n : Nat) (v10 : Int32) (N : xM), I3 n v10 N → vc_L_sing_3 g a b c d e f v10 N P (fun v0 v7 v8 v9 v10 N => ∃ k, k < n ∧ I1 k v0 v7 v8 v9 v10 N) (fun v0 v8 v9 v10 N => ∃ k, k < n ∧ I2 k v0 v8 v9 v10 N) (fun v10 N => ∃ k, k < n ∧ I3 k v10 N)) : mi_L_sing g v0 a b c d e f M P := by
  refine x_startV (as := [.int v0, .ref (x_a g a), .ref (x_a g b), .ref (x_a g c), .ref (x_a g d), .ref (x_a g e), .ref (x_a g f)]) (cc := cL_sing) (n := 11) (ret := none) (own := RL) (by decide) rfl rfl (Nat.le_of_ble_eq_true rfl) (fun x hC hr => ?_)
  have L : ∀ n : Nat, (∀ (v0 : Int32) (v7 : Int32) (v8 : Int32) (v9 : Int32) (v10 : Int32) (N : xM), I1 n v0 v7 v8 v9 v10 N → x_W x g 11 (x_Qv x g P) N 25 [(0, .int v0), (1, .ref (x_a g a)), (2, .ref (x_a g b)), (3, .ref (x_a g c)), (4, .ref (x_a g d)), (5, .ref (x_a g e)), (6, .ref (x_a g f)), (7, .int v7), (8, .int v8), (9, .int v9), (10, .int v10)] []) ∧ (∀ (v0 : Int32) (v8 : Int32) (v9 : Int32) (v10 : Int32) (N : xM), I2 n v0 v8 v9 v10 N → x_W x g 11 (x_Qv x g P) N 100 [(0, .int v0), (1, .ref (x_a g a)), (2, .ref (x_a g b)), (3, .ref (x_a g c)), (4, .ref (x_a g d)), (8, .int v8), (9, .int v9), (10, .int v10)] []) ∧ (∀ (v10 : Int32) (N : xM), I3 n v10 N → x_W x g 11 (x_Qv x g P) N 201 [(1, .ref (x_a g a)), (4, .ref (x_a g d)), (10, .int v10)] []) := by
    intro n
    induction n using Nat.strongRecOn with
    | ind n ih =>
      refine ⟨?_, ?_, ?_⟩
      · intro v0 v7 v8 v9 v10 M hI
        have h := h1 n v0 v7 v8 v9 v10 M hI
        unfold vc_L_sing_1 at h
        refine x_iload (q := 10) hC dL_sing_25 rfl ?_
        refine x_if_le (t := 60) hC dL_sing_27 (by decide) (fun q => ?_) (fun q => ?_)
        · replace h := h.1 q
          refine x_aload (q := 5) hC dL_sing_60 rfl ?_
          refine x_iconst (v := 0) hC dL_sing_62 (by decide) ?_
          refine x_iload (q := 7) hC dL_sing_63 rfl ?_
          refine x_iast (len := 12) hC he h.1 dL_sing_65 ?_
          replace h := h.2
          refine x_aload (q := 6) hC dL_sing_66 rfl ?_
          refine x_iconst (v := 0) hC dL_sing_68 (by decide) ?_
          refine x_aload_n (i := 1) (q := 1) hC dL_sing_69 rfl rfl ?_
          refine x_iconst (v := 5) hC dL_sing_70 (by decide) ?_
          refine x_iald (len := 8) hC ha h.1 dL_sing_71 ?_
          replace h := h.2
          refine x_iast (len := 12) hC hf h.1 dL_sing_72 ?_
          replace h := h.2
          refine x_topM (fun N3 qN3 => ?_)
          replace h := h N3 qN3
          refine x_aload_n (i := 1) (q := 1) hC dL_sing_73 rfl rfl ?_
          refine x_bipush (v := 7) hC dL_sing_74 (by decide) ?_
          refine x_aload_n (i := 1) (q := 1) hC dL_sing_76 rfl rfl ?_
          refine x_bipush (v := 7) hC dL_sing_77 (by decide) ?_
          refine x_iald (len := 8) hC ha h.1 dL_sing_79 ?_
          replace h := h.2
          refine x_bipush (v := 12) hC dL_sing_80 (by decide) ?_
          obtain ⟨J4, h, hJ4⟩ := h
          have HJ4 : ∀ (j5 : Int32), J4 j5 → x_W x g 11 (x_Qv x g P) N3 96 [(0, .int v0), (1, .ref (x_a g a)), (2, .ref (x_a g b)), (3, .ref (x_a g c)), (4, .ref (x_a g d)), (8, .int v8), (9, .int v9)] [.int j5, .int (7 : Int32), .ref (x_a g a)] := by
            intro j5 hj
            have h := hJ4 j5 hj
            refine x_iast (len := 8) hC ha h.1 dL_sing_96 ?_
            replace h := h.2
            refine x_iconst (v := 0) hC dL_sing_97 (by decide) ?_
            refine x_istore (ls' := [(10, .int (0 : Int32)), (0, .int v0), (1, .ref (x_a g a)), (2, .ref (x_a g b)), (3, .ref (x_a g c)), (4, .ref (x_a g d)), (8, .int v8), (9, .int v9)]) hC dL_sing_98 (by decide) rfl ?_
            obtain ⟨n_2, hn, h⟩ := h
            exact x_sub [1, 2, 3, 4, 5, 6, 7, 0] rfl ((ih n_2 hn).2.1 _ _ _ _ _ h)
          refine x_icmp_ge (t := 94) hC dL_sing_82 (by decide) (fun q => ?_) (fun q => ?_)
          · replace h := h.1 q
            refine x_bipush (v := 12) hC dL_sing_94 (by decide) ?_
            exact x_sub [0, 1, 2, 3, 4, 8, 9] rfl (HJ4 _ h)
          · replace h := h.2 q
            refine x_aload_n (i := 1) (q := 1) hC dL_sing_85 rfl rfl ?_
            refine x_bipush (v := 7) hC dL_sing_86 (by decide) ?_
            refine x_iald (len := 8) hC ha h.1 dL_sing_88 ?_
            replace h := h.2
            refine x_iconst (v := 1) hC dL_sing_89 (by decide) ?_
            refine x_iadd hC dL_sing_90 ?_
            refine x_goto (t := 96) hC dL_sing_91 (by decide) ?_
            exact x_sub [0, 1, 2, 3, 4, 8, 9] rfl (HJ4 _ h)
        · replace h := h.2 q
          refine x_aload (q := 5) hC dL_sing_30 rfl ?_
          refine x_iload (q := 10) hC dL_sing_32 rfl ?_
          refine x_aload (q := 5) hC dL_sing_34 rfl ?_
          refine x_iload (q := 10) hC dL_sing_36 rfl ?_
          refine x_iconst (v := 1) hC dL_sing_38 (by decide) ?_
          refine x_isub hC dL_sing_39 ?_
          refine x_iald (len := 12) hC he h.1 dL_sing_40 ?_
          replace h := h.2
          refine x_iast (len := 12) hC he h.1 dL_sing_41 ?_
          replace h := h.2
          refine x_aload (q := 6) hC dL_sing_42 rfl ?_
          refine x_iload (q := 10) hC dL_sing_44 rfl ?_
          refine x_aload (q := 6) hC dL_sing_46 rfl ?_
          refine x_iload (q := 10) hC dL_sing_48 rfl ?_
          refine x_iconst (v := 1) hC dL_sing_50 (by decide) ?_
          refine x_isub hC dL_sing_51 ?_
          refine x_iald (len := 12) hC hf h.1 dL_sing_52 ?_
          replace h := h.2
          refine x_iast (len := 12) hC hf h.1 dL_sing_53 ?_
          replace h := h.2
          refine x_topM (fun N6 qN6 => ?_)
          replace h := h N6 qN6
          refine x_iinc (k := 10) (v' := (v10 + (-1 : Int32))) (ls' := [(10, .int (v10 + (-1 : Int32))), (0, .int v0), (1, .ref (x_a g a)), (2, .ref (x_a g b)), (3, .ref (x_a g c)), (4, .ref (x_a g d)), (5, .ref (x_a g e)), (6, .ref (x_a g f)), (7, .int v7), (8, .int v8), (9, .int v9)]) hC dL_sing_54 rfl rfl (by decide) rfl ?_
          refine x_goto (t := 25) hC dL_sing_57 (by decide) ?_
          obtain ⟨n_1, hn, h⟩ := h
          exact x_sub [1, 2, 3, 4, 5, 6, 7, 8, 9, 10, 0] rfl ((ih n_1 hn).1 _ _ _ _ _ _ h)
      · intro v0 v8 v9 v10 M hI
        have h := h2 n v0 v8 v9 v10 M hI
        unfold vc_L_sing_2 at h
        refine x_iload (q := 7) hC dL_sing_100 rfl ?_
        refine x_aload_n (i := 1) (q := 1) hC dL_sing_102 rfl rfl ?_
        refine x_iconst (v := 0) hC dL_sing_103 (by decide) ?_
        refine x_iald (len := 8) hC ha h.1 dL_sing_104 ?_
        replace h := h.2
        refine x_icmp_ge (t := 159) hC dL_sing_105 (by decide) (fun q => ?_) (fun q => ?_)
        · replace h := h.1 q
          refine x_aload_n (i := 3) (q := 3) hC dL_sing_159 rfl rfl ?_
          refine x_iconst (v := 4) hC dL_sing_160 (by decide) ?_
          refine x_iload (q := 5) hC dL_sing_161 rfl ?_
          refine x_imul hC dL_sing_163 ?_
          refine x_iconst (v := 3) hC dL_sing_164 (by decide) ?_
          refine x_iadd hC dL_sing_165 ?_
          refine x_dup2 hC dL_sing_166 rfl rfl ?_
          refine x_iald (len := 64) hC hc h.1 dL_sing_167 ?_
          replace h := h.2
          refine x_iconst (v := 1) hC dL_sing_168 (by decide) ?_
          refine x_iadd hC dL_sing_169 ?_
          refine x_iast (len := 64) hC hc h.1 dL_sing_170 ?_
          replace h := h.2
          refine x_topM (fun N7 qN7 => ?_)
          replace h := h N7 qN7
          refine x_aload_n (i := 1) (q := 1) hC dL_sing_171 rfl rfl ?_
          refine x_iconst (v := 4) hC dL_sing_172 (by decide) ?_
          refine x_iload (q := 6) hC dL_sing_173 rfl ?_
          refine x_iast (len := 8) hC ha h.1 dL_sing_175 ?_
          replace h := h.2
          refine x_aload_n (i := 1) (q := 1) hC dL_sing_176 rfl rfl ?_
          refine x_iconst (v := 5) hC dL_sing_177 (by decide) ?_
          refine x_dup2 hC dL_sing_178 rfl rfl ?_
          refine x_iald (len := 8) hC ha h.1 dL_sing_179 ?_
          replace h := h.2
          refine x_aload_n (i := 3) (q := 3) hC dL_sing_180 rfl rfl ?_
          refine x_iconst (v := 4) hC dL_sing_181 (by decide) ?_
          refine x_iload (q := 5) hC dL_sing_182 rfl ?_
          refine x_imul hC dL_sing_184 ?_
          refine x_iconst (v := 2) hC dL_sing_185 (by decide) ?_
          refine x_iadd hC dL_sing_186 ?_
          refine x_iald (len := 64) hC hc h.1 dL_sing_187 ?_
          replace h := h.2
          refine x_iadd hC dL_sing_188 ?_
          refine x_iast (len := 8) hC ha h.1 dL_sing_189 ?_
          replace h := h.2
          refine x_topM (fun N8 qN8 => ?_)
          replace h := h N8 qN8
          refine x_aload_n (i := 1) (q := 1) hC dL_sing_190 rfl rfl ?_
          refine x_bipush (v := 6) hC dL_sing_191 (by decide) ?_
          refine x_dup2 hC dL_sing_193 rfl rfl ?_
          refine x_iald (len := 8) hC ha h.1 dL_sing_194 ?_
          replace h := h.2
          refine x_iconst (v := 1) hC dL_sing_195 (by decide) ?_
          refine x_iadd hC dL_sing_196 ?_
          refine x_iast (len := 8) hC ha h.1 dL_sing_197 ?_
          replace h := h.2
          refine x_iload_n (i := 0) (q := 0) hC dL_sing_198 rfl rfl ?_
          refine x_istore (ls' := [(10, .int v0), (0, .int v0), (1, .ref (x_a g a)), (2, .ref (x_a g b)), (3, .ref (x_a g c)), (4, .ref (x_a g d)), (8, .int v8), (9, .int v9)]) hC dL_sing_199 (by decide) rfl ?_
          obtain ⟨n_3, hn, h⟩ := h
          exact x_sub [2, 5, 0] rfl ((ih n_3 hn).2.2 _ _ h)
        · replace h := h.2 q
          refine x_aload_n (i := 2) (q := 2) hC dL_sing_108 rfl rfl ?_
          refine x_iconst (v := 4) hC dL_sing_109 (by decide) ?_
          refine x_iload (q := 7) hC dL_sing_110 rfl ?_
          refine x_imul hC dL_sing_112 ?_
          refine x_iconst (v := 2) hC dL_sing_113 (by decide) ?_
          refine x_iadd hC dL_sing_114 ?_
          refine x_dup2 hC dL_sing_115 rfl rfl ?_
          refine x_iald (len := 48) hC hb h.1 dL_sing_116 ?_
          replace h := h.2
          refine x_iload (q := 6) hC dL_sing_117 rfl ?_
          refine x_iload (q := 7) hC dL_sing_119 rfl ?_
          refine x_ishr hC dL_sing_121 ?_
          refine x_iconst (v := 1) hC dL_sing_122 (by decide) ?_
          refine x_iand hC dL_sing_123 ?_
          refine x_iadd hC dL_sing_124 ?_
          refine x_iast (len := 48) hC hb h.1 dL_sing_125 ?_
          replace h := h.2
          refine x_topM (fun N9 qN9 => ?_)
          replace h := h N9 qN9
          refine x_aload_n (i := 2) (q := 2) hC dL_sing_126 rfl rfl ?_
          refine x_iconst (v := 4) hC dL_sing_127 (by decide) ?_
          refine x_iload (q := 7) hC dL_sing_128 rfl ?_
          refine x_imul hC dL_sing_130 ?_
          refine x_iconst (v := 3) hC dL_sing_131 (by decide) ?_
          refine x_iadd hC dL_sing_132 ?_
          refine x_dup2 hC dL_sing_133 rfl rfl ?_
          refine x_iald (len := 48) hC hb h.1 dL_sing_134 ?_
          replace h := h.2
          refine x_iload (q := 6) hC dL_sing_135 rfl ?_
          refine x_iload (q := 7) hC dL_sing_137 rfl ?_
          refine x_ishr hC dL_sing_139 ?_
          refine x_iconst (v := 1) hC dL_sing_140 (by decide) ?_
          refine x_iand hC dL_sing_141 ?_
          refine x_aload_n (i := 3) (q := 3) hC dL_sing_142 rfl rfl ?_
          refine x_iconst (v := 4) hC dL_sing_143 (by decide) ?_
          refine x_iload (q := 5) hC dL_sing_144 rfl ?_
          refine x_imul hC dL_sing_146 ?_
          refine x_iconst (v := 2) hC dL_sing_147 (by decide) ?_
          refine x_iadd hC dL_sing_148 ?_
          refine x_iald (len := 64) hC hc h.1 dL_sing_149 ?_
          replace h := h.2
          refine x_imul hC dL_sing_150 ?_
          refine x_iadd hC dL_sing_151 ?_
          refine x_iast (len := 48) hC hb h.1 dL_sing_152 ?_
          replace h := h.2
          refine x_topM (fun N10 qN10 => ?_)
          replace h := h N10 qN10
          refine x_iinc (k := 7) (v' := (v10 + (1 : Int32))) (ls' := [(10, .int (v10 + (1 : Int32))), (0, .int v0), (1, .ref (x_a g a)), (2, .ref (x_a g b)), (3, .ref (x_a g c)), (4, .ref (x_a g d)), (8, .int v8), (9, .int v9)]) hC dL_sing_153 rfl rfl (by decide) rfl ?_
          refine x_goto (t := 100) hC dL_sing_156 (by decide) ?_
          obtain ⟨n_2, hn, h⟩ := h
          exact x_sub [1, 2, 3, 4, 5, 6, 7, 0] rfl ((ih n_2 hn).2.1 _ _ _ _ _ h)
      · intro v10 M hI
        have h := h3 n v10 M hI
        unfold vc_L_sing_3 at h
        refine x_iload (q := 2) hC dL_sing_201 rfl ?_
        refine x_iconst (v := 1) hC dL_sing_203 (by decide) ?_
        refine x_iadd hC dL_sing_204 ?_
        refine x_aload_n (i := 1) (q := 0) hC dL_sing_205 rfl rfl ?_
        refine x_iconst (v := 2) hC dL_sing_206 (by decide) ?_
        refine x_iald (len := 8) hC ha h.1 dL_sing_207 ?_
        replace h := h.2
        refine x_icmp_ge (t := 229) hC dL_sing_208 (by decide) (fun q => ?_) (fun q => ?_)
        · replace h := h.1 q
          refine x_aload_n (i := 1) (q := 0) hC dL_sing_229 rfl rfl ?_
          refine x_iconst (v := 2) hC dL_sing_230 (by decide) ?_
          refine x_dup2 hC dL_sing_231 rfl rfl ?_
          refine x_iald (len := 8) hC ha h.1 dL_sing_232 ?_
          replace h := h.2
          refine x_iconst (v := 1) hC dL_sing_233 (by decide) ?_
          refine x_isub hC dL_sing_234 ?_
          refine x_iast (len := 8) hC ha h.1 dL_sing_235 ?_
          replace h := h.2
          exact x_vret hC hr dL_sing_236 h
        · replace h := h.2 q
          refine x_aload (q := 1) hC dL_sing_211 rfl ?_
          refine x_iload (q := 2) hC dL_sing_213 rfl ?_
          refine x_aload (q := 1) hC dL_sing_215 rfl ?_
          refine x_iload (q := 2) hC dL_sing_217 rfl ?_
          refine x_iconst (v := 1) hC dL_sing_219 (by decide) ?_
          refine x_iadd hC dL_sing_220 ?_
          refine x_iald (len := 20) hC hd h.1 dL_sing_221 ?_
          replace h := h.2
          refine x_iast (len := 20) hC hd h.1 dL_sing_222 ?_
          replace h := h.2
          refine x_iinc (k := 2) (v' := (v10 + (1 : Int32))) (ls' := [(10, .int (v10 + (1 : Int32))), (1, .ref (x_a g a)), (4, .ref (x_a g d))]) hC dL_sing_223 rfl rfl (by decide) rfl ?_
          refine x_goto (t := 201) hC dL_sing_226 (by decide) ?_
          obtain ⟨n_3, hn, h⟩ := h
          exact x_sub [1, 2, 0] rfl ((ih n_3 hn).2.2 _ _ h)
  have h := h0
  unfold vc_L_sing at h
  refine x_aload (q := 4) hC dL_sing_0 rfl ?_
  refine x_iload_n (i := 0) (q := 0) hC dL_sing_2 rfl rfl ?_
  refine x_iald (len := 20) hC hd h.1 dL_sing_3 ?_
  replace h := h.2
  refine x_istore (ls' := [(7, .int (M d (v0).toNatClampNeg)), (0, .int v0), (1, .ref (x_a g a)), (2, .ref (x_a g b)), (3, .ref (x_a g c)), (4, .ref (x_a g d)), (5, .ref (x_a g e)), (6, .ref (x_a g f))]) hC dL_sing_4 (by decide) rfl ?_
  refine x_iload (q := 0) hC dL_sing_6 rfl ?_
  refine x_sipush (v := 10000) hC dL_sing_8 (by decide) ?_
  refine x_idiv hC (by decide) dL_sing_11 ?_
  refine x_istore (ls' := [(8, .int ((M d (v0).toNatClampNeg) / (10000 : Int32))), (7, .int (M d (v0).toNatClampNeg)), (0, .int v0), (1, .ref (x_a g a)), (2, .ref (x_a g b)), (3, .ref (x_a g c)), (4, .ref (x_a g d)), (5, .ref (x_a g e)), (6, .ref (x_a g f))]) hC dL_sing_12 (by decide) rfl ?_
  refine x_iload (q := 1) hC dL_sing_14 rfl ?_
  refine x_callSi (As := [.int (M d (v0).toNatClampNeg)]) hC h gL_sing_L_set rfl rfl rfl hy_L_set.2 ⟨Nat.le_of_ble_eq_true rfl, Nat.le_of_ble_eq_true rfl⟩ rfl (Nat.le_of_ble_eq_true rfl) rfl dL_sing_16 (fun r1 N2 h => ?_)
  refine x_istore (ls' := [(9, .int r1), (8, .int ((M d (v0).toNatClampNeg) / (10000 : Int32))), (7, .int (M d (v0).toNatClampNeg)), (0, .int v0), (1, .ref (x_a g a)), (2, .ref (x_a g b)), (3, .ref (x_a g c)), (4, .ref (x_a g d)), (5, .ref (x_a g e)), (6, .ref (x_a g f))]) hC dL_sing_19 (by decide) rfl ?_
  refine x_bipush (v := 11) hC dL_sing_21 (by decide) ?_
  refine x_istore (ls' := [(10, .int (11 : Int32)), (9, .int r1), (8, .int ((M d (v0).toNatClampNeg) / (10000 : Int32))), (7, .int (M d (v0).toNatClampNeg)), (0, .int v0), (1, .ref (x_a g a)), (2, .ref (x_a g b)), (3, .ref (x_a g c)), (4, .ref (x_a g d)), (5, .ref (x_a g e)), (6, .ref (x_a g f))]) hC dL_sing_23 (by decide) rfl ?_
  obtain ⟨n_1, h⟩ := h
  exact x_sub [4, 5, 6, 7, 8, 9, 10, 3, 2, 1, 0] rfl ((L n_1).1 _ _ _ _ _ _ h)
def vc_L_copy (g : xG) (na nb : Nat) (a : Nat) (b : Nat) (v2 : Int32) (M : xM) (P : xM → Prop) (K1 : Int32 → Int32 → xM → Prop) : Prop := K1 v2 (0 : Int32) M
def vc_L_copy_1 (g : xG) (na nb : Nat) (a : Nat) (b : Nat) (v2 : Int32) (v3 : Int32) (M : xM) (P : xM → Prop) (K1 : Int32 → Int32 → xM → Prop) : Prop := ((v2 ≤ v3 → P M) ∧ (¬ (v2 ≤ v3) → (vp_in v3 na ∧ (vp_in v3 nb ∧ K1 v2 (v3 + (1 : Int32)) (x_up M b (v3).toNatClampNeg (M a (v3).toNatClampNeg))))))
set_option maxRecDepth 100000 in
set_option maxHeartbeats 4000000 in
theorem wk_L_copy {g : xG} (a : Nat) (b : Nat) (v2 : Int32) {na nb : Nat} (ha : x_isA a 0 na) (hb : x_isA b 0 nb) (M : xM) (P : xM → Prop) (I1 : Nat → Int32 → Int32 → xM → Prop) (h0 : vc_L_copy g na nb a b v2 M P (fun v2 v3 N => ∃ k, I1 k v2 v3 N)) (h1 : ∀ (n : Nat) (v2 : Int32) (v3 : Int32) (N : xM), I1 n v2 v3 N → vc_L_copy_1 g na nb a b v2 v3 N P (fun v2 v3 N => ∃ k, k < n ∧ I1 k v2 v3 N)) : mi_L_copy g a b v2 M P := by
  refine x_startV (as := [.ref (x_a g a), .ref (x_a g b), .int v2]) (cc := cL_copy) (n := 4) (ret := none) (own := RL) (by decide) rfl rfl (Nat.le_of_ble_eq_true rfl) (fun x hC hr => ?_)
  have L : ∀ n : Nat, (∀ (v2 : Int32) (v3 : Int32) (N : xM), I1 n v2 v3 N → x_W x g 4 (x_Qv x g P) N 2 [(0, .ref (x_a g a)), (1, .ref (x_a g b)), (2, .int v2), (3, .int v3)] []) := by
    intro n
    induction n using Nat.strongRecOn with
    | ind n ih =>
      intro v2 v3 M hI
      have h := h1 n v2 v3 M hI
      unfold vc_L_copy_1 at h
      refine x_iload_n (i := 3) (q := 3) hC dL_copy_2 rfl rfl ?_
      refine x_iload_n (i := 2) (q := 2) hC dL_copy_3 rfl rfl ?_
      refine x_icmp_ge (t := 19) hC dL_copy_4 (by decide) (fun q => ?_) (fun q => ?_)
      · replace h := h.1 q
        exact x_vret hC hr dL_copy_19 h
      · replace h := h.2 q
        refine x_aload_n (i := 1) (q := 1) hC dL_copy_7 rfl rfl ?_
        refine x_iload_n (i := 3) (q := 3) hC dL_copy_8 rfl rfl ?_
        refine x_aload_n (i := 0) (q := 0) hC dL_copy_9 rfl rfl ?_
        refine x_iload_n (i := 3) (q := 3) hC dL_copy_10 rfl rfl ?_
        refine x_iald (len := na) hC ha h.1 dL_copy_11 ?_
        replace h := h.2
        refine x_iast (len := nb) hC hb h.1 dL_copy_12 ?_
        replace h := h.2
        refine x_iinc (k := 3) (v' := (v3 + (1 : Int32))) (ls' := [(3, .int (v3 + (1 : Int32))), (0, .ref (x_a g a)), (1, .ref (x_a g b)), (2, .int v2)]) hC dL_copy_13 rfl rfl (by decide) rfl ?_
        refine x_goto (t := 2) hC dL_copy_16 (by decide) ?_
        obtain ⟨n_1, hn, h⟩ := h
        exact x_sub [1, 2, 3, 0] rfl ((ih n_1 hn) _ _ _ h)
  have h := h0
  unfold vc_L_copy at h
  refine x_iconst (v := 0) hC dL_copy_0 (by decide) ?_
  refine x_istore_n (i := 3) (ls' := [(3, .int (0 : Int32)), (0, .ref (x_a g a)), (1, .ref (x_a g b)), (2, .int v2)]) hC dL_copy_1 rfl (by decide) rfl ?_
  obtain ⟨n_1, h⟩ := h
  exact x_sub [1, 2, 3, 0] rfl ((L n_1) _ _ _ h)
def vc_L_comes (g : xG) (v0 : Int32) (v1 : Int32) (M : xM) (P : Int32 → xM → Prop) (K1 : Int32 → Int32 → Int32 → Int32 → xM → Prop) (K2 : Int32 → xM → Prop) (K3 : Int32 → Int32 → Int32 → xM → Prop) : Prop := (mi_L_copy g 193 199 (8 : Int32) M (fun N1 => (mi_L_copy g 194 200 (48 : Int32) N1 (fun N2 => (mi_L_copy g 195 201 (64 : Int32) N2 (fun N3 => (mi_L_copy g 196 202 (20 : Int32) N3 (fun N4 => ((v1 < 0 → K2 v0 N4) ∧ (¬ (v1 < 0) → K1 v0 v1 v0 v1 N4))))))))))
def vc_L_comes_1 (g : xG) (v0 : Int32) (v1 : Int32) (v12 : Int32) (v13 : Int32) (M : xM) (P : Int32 → xM → Prop) (K1 : Int32 → Int32 → Int32 → Int32 → xM → Prop) (K2 : Int32 → xM → Prop) (K3 : Int32 → Int32 → Int32 → xM → Prop) : Prop := (vp_in (2 : Int32) 8 ∧ (((M 199 ((2 : Int32)).toNatClampNeg) ≤ (v13 + (1 : Int32)) → (vp_in (2 : Int32) 8 ∧ (vp_in (2 : Int32) 8 ∧ (∃ J7 : Int32 → Prop, ((v0 ≤ v1 → J7 (0 : Int32)) ∧ (¬ (v0 ≤ v1) → J7 (1 : Int32))) ∧ (∀ (j8 : Int32), J7 j8 → K2 (v12 - j8) (x_up M 199 ((2 : Int32)).toNatClampNeg ((M 199 ((2 : Int32)).toNatClampNeg) - (1 : Int32)))))))) ∧ (¬ ((M 199 ((2 : Int32)).toNatClampNeg) ≤ (v13 + (1 : Int32))) → (vp_in (v13 + (1 : Int32)) 20 ∧ (vp_in v13 20 ∧ K1 v0 v1 v12 (v13 + (1 : Int32)) (x_up M 202 (v13).toNatClampNeg (M 202 ((v13 + (1 : Int32))).toNatClampNeg)))))))
def vc_L_comes_2 (g : xG) (v12 : Int32) (M : xM) (P : Int32 → xM → Prop) (K1 : Int32 → Int32 → Int32 → Int32 → xM → Prop) (K2 : Int32 → xM → Prop) (K3 : Int32 → Int32 → Int32 → xM → Prop) : Prop := (mi_L_next g 199 200 202 M (fun r5 N6 => K3 v12 (0 : Int32) r5 N6))
def vc_L_comes_3 (g : xG) (v12 : Int32) (v13 : Int32) (v14 : Int32) (M : xM) (P : Int32 → xM → Prop) (K1 : Int32 → Int32 → Int32 → Int32 → xM → Prop) (K2 : Int32 → xM → Prop) (K3 : Int32 → Int32 → Int32 → xM → Prop) : Prop := ((v14 = v12 → (vp_in (5 : Int32) 8 ∧ (vp_in (5 : Int32) 8 ∧ P ((((10000 : Int32) * v13) + (M 199 ((5 : Int32)).toNatClampNeg)) - (M 193 ((5 : Int32)).toNatClampNeg)) M))) ∧ (¬ (v14 = v12) → (mi_L_sing g v14 199 200 201 202 203 204 M (fun N9 => (∃ J10 : Int32 → Prop, ((v12 ≤ v14 → J10 (0 : Int32)) ∧ (¬ (v12 ≤ v14) → J10 (1 : Int32))) ∧ (∀ (j11 : Int32), J10 j11 → (mi_L_next g 199 200 202 N9 (fun r12 N13 => K3 (v12 - j11) (v13 + (1 : Int32)) r12 N13))))))))
set_option maxRecDepth 100000 in
set_option maxHeartbeats 4000000 in
theorem wk_L_comes {g : xG} (v0 : Int32) (v1 : Int32) (M : xM) (P : Int32 → xM → Prop) (I1 : Nat → Int32 → Int32 → Int32 → Int32 → xM → Prop) (I2 : Nat → Int32 → xM → Prop) (I3 : Nat → Int32 → Int32 → Int32 → xM → Prop) (h0 : vc_L_comes g v0 v1 M P (fun v0 v1 v12 v13 N => ∃ k, I1 k v0 v1 v12 v13 N) (fun v12 N => ∃ k, I2 k v12 N) (fun v12 v13 v14 N => ∃ k, I3 k v12 v13 v14 N)) (h1 : ∀ (n : Nat) (v0 : Int32) (v1 : Int32) (v12 : Int32) (v13 : Int32) (N : xM), I1 n v0 v1 v12 v13 N → vc_L_comes_1 g v0 v1 v12 v13 N P (fun v0 v1 v12 v13 N => ∃ k, k < n ∧ I1 k v0 v1 v12 v13 N) (fun v12 N => ∃ k, k < n ∧ I2 k v12 N) (fun v12 v13 v14 N => ∃ k, k < n ∧ I3 k v12 v13 v14 N)) (h2 : ∀ (n : Nat) (v12 : Int32) (N : xM), I2 n v12 N → vc_L_comes_2 g v12 N P (fun v0 v1 v12 v13 N => ∃ k, k < n ∧ I1 k v0 v1 v12 v13 N) (fun v12 N => ∃ k, k < n ∧ I2 k v12 N) (fun v12 v13 v14 N => ∃ k, k < n ∧ I3 k v12 v13 v14 N)) (h3 : ∀ (n : Nat) (v12 : Int32) (v13 : Int32) (v14 : Int32) (N : xM), I3 n v12 v13 v14 N → vc_L_comes_3 g v12 v13 v14 N P (fun v0 v1 v12 v13 N => ∃ k, k < n ∧ I1 k v0 v1 v12 v13 N) (fun v12 N => ∃ k, k < n ∧ I2 k v12 N) (fun v12 v13 v14 N => ∃ k, k < n ∧ I3 k v12 v13 v14 N)) : mi_L_comes g v0 v1 M P := by
  refine x_startI (as := [.int v0, .int v1, .ref (x_a g 193), .ref (x_a g 194), .ref (x_a g 195), .ref (x_a g 196), .ref (x_a g 199), .ref (x_a g 200), .ref (x_a g 201), .ref (x_a g 202), .ref (x_a g 203), .ref (x_a g 204)]) (cc := cL_comes) (n := 15) (ret := (some .int)) (own := RL) (by decide) rfl rfl (Nat.le_of_ble_eq_true rfl) (fun x hC hr => ?_)
  have L : ∀ n : Nat, (∀ (v0 : Int32) (v1 : Int32) (v12 : Int32) (v13 : Int32) (N : xM), I1 n v0 v1 v12 v13 N → x_W x g 15 (x_Qi x g P) N 44 [(0, .int v0), (1, .int v1), (2, .ref (x_a g 193)), (6, .ref (x_a g 199)), (7, .ref (x_a g 200)), (8, .ref (x_a g 201)), (9, .ref (x_a g 202)), (10, .ref (x_a g 203)), (11, .ref (x_a g 204)), (12, .int v12), (13, .int v13)] []) ∧ (∀ (v12 : Int32) (N : xM), I2 n v12 N → x_W x g 15 (x_Qi x g P) N 96 [(2, .ref (x_a g 193)), (6, .ref (x_a g 199)), (7, .ref (x_a g 200)), (8, .ref (x_a g 201)), (9, .ref (x_a g 202)), (10, .ref (x_a g 203)), (11, .ref (x_a g 204)), (12, .int v12)] []) ∧ (∀ (v12 : Int32) (v13 : Int32) (v14 : Int32) (N : xM), I3 n v12 v13 v14 N → x_W x g 15 (x_Qi x g P) N 110 [(2, .ref (x_a g 193)), (6, .ref (x_a g 199)), (7, .ref (x_a g 200)), (8, .ref (x_a g 201)), (9, .ref (x_a g 202)), (10, .ref (x_a g 203)), (11, .ref (x_a g 204)), (12, .int v12), (13, .int v13), (14, .int v14)] []) := by
    intro n
    induction n using Nat.strongRecOn with
    | ind n ih =>
      refine ⟨?_, ?_, ?_⟩
      · intro v0 v1 v12 v13 M hI
        have h := h1 n v0 v1 v12 v13 M hI
        unfold vc_L_comes_1 at h
        refine x_iload (q := 10) hC dL_comes_44 rfl ?_
        refine x_iconst (v := 1) hC dL_comes_46 (by decide) ?_
        refine x_iadd hC dL_comes_47 ?_
        refine x_aload (q := 3) hC dL_comes_48 rfl ?_
        refine x_iconst (v := 2) hC dL_comes_50 (by decide) ?_
        refine x_iald (len := 8) hC xa_199 h.1 dL_comes_51 ?_
        replace h := h.2
        refine x_icmp_ge (t := 73) hC dL_comes_52 (by decide) (fun q => ?_) (fun q => ?_)
        · replace h := h.1 q
          refine x_aload (q := 3) hC dL_comes_73 rfl ?_
          refine x_iconst (v := 2) hC dL_comes_75 (by decide) ?_
          refine x_dup2 hC dL_comes_76 rfl rfl ?_
          refine x_iald (len := 8) hC xa_199 h.1 dL_comes_77 ?_
          replace h := h.2
          refine x_iconst (v := 1) hC dL_comes_78 (by decide) ?_
          refine x_isub hC dL_comes_79 ?_
          refine x_iast (len := 8) hC xa_199 h.1 dL_comes_80 ?_
          replace h := h.2
          refine x_iload (q := 9) hC dL_comes_81 rfl ?_
          refine x_iload_n (i := 1) (q := 1) hC dL_comes_83 rfl rfl ?_
          refine x_iload_n (i := 0) (q := 0) hC dL_comes_84 rfl rfl ?_
          obtain ⟨J7, h, hJ7⟩ := h
          have HJ7 : ∀ (j8 : Int32), J7 j8 → x_W x g 15 (x_Qi x g P) (x_up M 199 ((2 : Int32)).toNatClampNeg ((M 199 ((2 : Int32)).toNatClampNeg) - (1 : Int32))) 93 [(2, .ref (x_a g 193)), (6, .ref (x_a g 199)), (7, .ref (x_a g 200)), (8, .ref (x_a g 201)), (9, .ref (x_a g 202)), (10, .ref (x_a g 203)), (11, .ref (x_a g 204))] [.int j8, .int v12] := by
            intro j8 hj
            have h := hJ7 j8 hj
            refine x_isub hC dL_comes_93 ?_
            refine x_istore (ls' := [(12, .int (v12 - j8)), (2, .ref (x_a g 193)), (6, .ref (x_a g 199)), (7, .ref (x_a g 200)), (8, .ref (x_a g 201)), (9, .ref (x_a g 202)), (10, .ref (x_a g 203)), (11, .ref (x_a g 204))]) hC dL_comes_94 (by decide) rfl ?_
            obtain ⟨n_2, hn, h⟩ := h
            exact x_sub [1, 2, 3, 4, 5, 6, 7, 0] rfl ((ih n_2 hn).2.1 _ _ h)
          refine x_icmp_ge (t := 92) hC dL_comes_85 (by decide) (fun q => ?_) (fun q => ?_)
          · replace h := h.1 q
            refine x_iconst (v := 0) hC dL_comes_92 (by decide) ?_
            exact x_sub [2, 3, 4, 5, 6, 7, 8] rfl (HJ7 _ h)
          · replace h := h.2 q
            refine x_iconst (v := 1) hC dL_comes_88 (by decide) ?_
            refine x_goto (t := 93) hC dL_comes_89 (by decide) ?_
            exact x_sub [2, 3, 4, 5, 6, 7, 8] rfl (HJ7 _ h)
        · replace h := h.2 q
          refine x_aload (q := 6) hC dL_comes_55 rfl ?_
          refine x_iload (q := 10) hC dL_comes_57 rfl ?_
          refine x_aload (q := 6) hC dL_comes_59 rfl ?_
          refine x_iload (q := 10) hC dL_comes_61 rfl ?_
          refine x_iconst (v := 1) hC dL_comes_63 (by decide) ?_
          refine x_iadd hC dL_comes_64 ?_
          refine x_iald (len := 20) hC xa_202 h.1 dL_comes_65 ?_
          replace h := h.2
          refine x_iast (len := 20) hC xa_202 h.1 dL_comes_66 ?_
          replace h := h.2
          refine x_iinc (k := 10) (v' := (v13 + (1 : Int32))) (ls' := [(13, .int (v13 + (1 : Int32))), (0, .int v0), (1, .int v1), (2, .ref (x_a g 193)), (6, .ref (x_a g 199)), (7, .ref (x_a g 200)), (8, .ref (x_a g 201)), (9, .ref (x_a g 202)), (10, .ref (x_a g 203)), (11, .ref (x_a g 204)), (12, .int v12)]) hC dL_comes_67 rfl rfl (by decide) rfl ?_
          refine x_goto (t := 44) hC dL_comes_70 (by decide) ?_
          obtain ⟨n_1, hn, h⟩ := h
          exact x_sub [1, 2, 3, 4, 5, 6, 7, 8, 9, 10, 0] rfl ((ih n_1 hn).1 _ _ _ _ _ h)
      · intro v12 M hI
        have h := h2 n v12 M hI
        unfold vc_L_comes_2 at h
        refine x_iconst (v := 0) hC dL_comes_96 (by decide) ?_
        refine x_istore (ls' := [(13, .int (0 : Int32)), (2, .ref (x_a g 193)), (6, .ref (x_a g 199)), (7, .ref (x_a g 200)), (8, .ref (x_a g 201)), (9, .ref (x_a g 202)), (10, .ref (x_a g 203)), (11, .ref (x_a g 204)), (12, .int v12)]) hC dL_comes_97 (by decide) rfl ?_
        refine x_aload (q := 2) hC dL_comes_99 rfl ?_
        refine x_aload (q := 3) hC dL_comes_101 rfl ?_
        refine x_aload (q := 5) hC dL_comes_103 rfl ?_
        refine x_callSi (As := [.ref (x_a g 199), .ref (x_a g 200), .ref (x_a g 202)]) hC h gL_comes_L_next rfl rfl rfl hy_L_next.2 ⟨Nat.le_of_ble_eq_true rfl, Nat.le_of_ble_eq_true rfl⟩ rfl (Nat.le_of_ble_eq_true rfl) rfl dL_comes_105 (fun r5 N6 h => ?_)
        refine x_istore (ls' := [(14, .int r5), (13, .int (0 : Int32)), (2, .ref (x_a g 193)), (6, .ref (x_a g 199)), (7, .ref (x_a g 200)), (8, .ref (x_a g 201)), (9, .ref (x_a g 202)), (10, .ref (x_a g 203)), (11, .ref (x_a g 204)), (12, .int v12)]) hC dL_comes_108 (by decide) rfl ?_
        obtain ⟨n_3, hn, h⟩ := h
        exact x_sub [2, 3, 4, 5, 6, 7, 8, 9, 1, 0] rfl ((ih n_3 hn).2.2 _ _ _ _ h)
      · intro v12 v13 v14 M hI
        have h := h3 n v12 v13 v14 M hI
        unfold vc_L_comes_3 at h
        refine x_iload (q := 9) hC dL_comes_110 rfl ?_
        refine x_iload (q := 7) hC dL_comes_112 rfl ?_
        refine x_icmp_eq (t := 168) hC dL_comes_114 (by decide) (fun q => ?_) (fun q => ?_)
        · replace h := h.1 q
          refine x_sipush (v := 10000) hC dL_comes_168 (by decide) ?_
          refine x_iload (q := 8) hC dL_comes_171 rfl ?_
          refine x_imul hC dL_comes_173 ?_
          refine x_aload (q := 1) hC dL_comes_174 rfl ?_
          refine x_iconst (v := 5) hC dL_comes_176 (by decide) ?_
          refine x_iald (len := 8) hC xa_199 h.1 dL_comes_177 ?_
          replace h := h.2
          refine x_iadd hC dL_comes_178 ?_
          refine x_aload_n (i := 2) (q := 0) hC dL_comes_179 rfl rfl ?_
          refine x_iconst (v := 5) hC dL_comes_180 (by decide) ?_
          refine x_iald (len := 8) hC xa_193 h.1 dL_comes_181 ?_
          replace h := h.2
          refine x_isub hC dL_comes_182 ?_
          exact x_iret hC hr dL_comes_183 h
        · replace h := h.2 q
          refine x_iload (q := 9) hC dL_comes_117 rfl ?_
          refine x_aload (q := 1) hC dL_comes_119 rfl ?_
          refine x_aload (q := 2) hC dL_comes_121 rfl ?_
          refine x_aload (q := 3) hC dL_comes_123 rfl ?_
          refine x_aload (q := 4) hC dL_comes_125 rfl ?_
          refine x_aload (q := 5) hC dL_comes_127 rfl ?_
          refine x_aload (q := 6) hC dL_comes_129 rfl ?_
          refine x_callSv (As := [.int v14, .ref (x_a g 199), .ref (x_a g 200), .ref (x_a g 201), .ref (x_a g 202), .ref (x_a g 203), .ref (x_a g 204)]) hC h gL_comes_L_sing rfl rfl rfl hy_L_sing.2 ⟨Nat.le_of_ble_eq_true rfl, Nat.le_of_ble_eq_true rfl⟩ rfl (Nat.le_of_ble_eq_true rfl) rfl dL_comes_131 (fun N9 h => ?_)
          refine x_iload (q := 7) hC dL_comes_134 rfl ?_
          refine x_iload (q := 9) hC dL_comes_136 rfl ?_
          refine x_iload (q := 7) hC dL_comes_138 rfl ?_
          obtain ⟨J10, h, hJ10⟩ := h
          have HJ10 : ∀ (j11 : Int32), J10 j11 → x_W x g 15 (x_Qi x g P) N9 148 [(2, .ref (x_a g 193)), (6, .ref (x_a g 199)), (7, .ref (x_a g 200)), (8, .ref (x_a g 201)), (9, .ref (x_a g 202)), (10, .ref (x_a g 203)), (11, .ref (x_a g 204)), (13, .int v13)] [.int j11, .int v12] := by
            intro j11 hj
            have h := hJ10 j11 hj
            refine x_isub hC dL_comes_148 ?_
            refine x_istore (ls' := [(12, .int (v12 - j11)), (2, .ref (x_a g 193)), (6, .ref (x_a g 199)), (7, .ref (x_a g 200)), (8, .ref (x_a g 201)), (9, .ref (x_a g 202)), (10, .ref (x_a g 203)), (11, .ref (x_a g 204)), (13, .int v13)]) hC dL_comes_149 (by decide) rfl ?_
            refine x_iinc (k := 8) (v' := (v13 + (1 : Int32))) (ls' := [(13, .int (v13 + (1 : Int32))), (12, .int (v12 - j11)), (2, .ref (x_a g 193)), (6, .ref (x_a g 199)), (7, .ref (x_a g 200)), (8, .ref (x_a g 201)), (9, .ref (x_a g 202)), (10, .ref (x_a g 203)), (11, .ref (x_a g 204))]) hC dL_comes_151 rfl rfl (by decide) rfl ?_
            refine x_aload (q := 3) hC dL_comes_154 rfl ?_
            refine x_aload (q := 4) hC dL_comes_156 rfl ?_
            refine x_aload (q := 6) hC dL_comes_158 rfl ?_
            refine x_callSi (As := [.ref (x_a g 199), .ref (x_a g 200), .ref (x_a g 202)]) hC h gL_comes_L_next rfl rfl rfl hy_L_next.2 ⟨Nat.le_of_ble_eq_true rfl, Nat.le_of_ble_eq_true rfl⟩ rfl (Nat.le_of_ble_eq_true rfl) rfl dL_comes_160 (fun r12 N13 h => ?_)
            refine x_istore (ls' := [(14, .int r12), (13, .int (v13 + (1 : Int32))), (12, .int (v12 - j11)), (2, .ref (x_a g 193)), (6, .ref (x_a g 199)), (7, .ref (x_a g 200)), (8, .ref (x_a g 201)), (9, .ref (x_a g 202)), (10, .ref (x_a g 203)), (11, .ref (x_a g 204))]) hC dL_comes_163 (by decide) rfl ?_
            refine x_goto (t := 110) hC dL_comes_165 (by decide) ?_
            obtain ⟨n_3, hn, h⟩ := h
            exact x_sub [3, 4, 5, 6, 7, 8, 9, 2, 1, 0] rfl ((ih n_3 hn).2.2 _ _ _ _ h)
          refine x_icmp_ge (t := 147) hC dL_comes_140 (by decide) (fun q => ?_) (fun q => ?_)
          · replace h := h.1 q
            refine x_iconst (v := 0) hC dL_comes_147 (by decide) ?_
            exact x_sub [0, 1, 2, 3, 4, 5, 6, 8] rfl (HJ10 _ h)
          · replace h := h.2 q
            refine x_iconst (v := 1) hC dL_comes_143 (by decide) ?_
            refine x_goto (t := 148) hC dL_comes_144 (by decide) ?_
            exact x_sub [0, 1, 2, 3, 4, 5, 6, 8] rfl (HJ10 _ h)
  have h := h0
  unfold vc_L_comes at h
  refine x_aload_n (i := 2) (q := 2) hC dL_comes_0 rfl rfl ?_
  refine x_aload (q := 6) hC dL_comes_1 rfl ?_
  refine x_bipush (v := 8) hC dL_comes_3 (by decide) ?_
  refine x_callSv (As := [.ref (x_a g 193), .ref (x_a g 199), .int (8 : Int32)]) hC h gL_comes_L_copy rfl rfl rfl hy_L_copy.2 ⟨Nat.le_of_ble_eq_true rfl, Nat.le_of_ble_eq_true rfl⟩ rfl (Nat.le_of_ble_eq_true rfl) rfl dL_comes_5 (fun N1 h => ?_)
  refine x_aload_n (i := 3) (q := 3) hC dL_comes_8 rfl rfl ?_
  refine x_aload (q := 7) hC dL_comes_9 rfl ?_
  refine x_bipush (v := 48) hC dL_comes_11 (by decide) ?_
  refine x_callSv (As := [.ref (x_a g 194), .ref (x_a g 200), .int (48 : Int32)]) hC h gL_comes_L_copy rfl rfl rfl hy_L_copy.2 ⟨Nat.le_of_ble_eq_true rfl, Nat.le_of_ble_eq_true rfl⟩ rfl (Nat.le_of_ble_eq_true rfl) rfl dL_comes_13 (fun N2 h => ?_)
  refine x_aload (q := 4) hC dL_comes_16 rfl ?_
  refine x_aload (q := 8) hC dL_comes_18 rfl ?_
  refine x_bipush (v := 64) hC dL_comes_20 (by decide) ?_
  refine x_callSv (As := [.ref (x_a g 195), .ref (x_a g 201), .int (64 : Int32)]) hC h gL_comes_L_copy rfl rfl rfl hy_L_copy.2 ⟨Nat.le_of_ble_eq_true rfl, Nat.le_of_ble_eq_true rfl⟩ rfl (Nat.le_of_ble_eq_true rfl) rfl dL_comes_22 (fun N3 h => ?_)
  refine x_aload (q := 5) hC dL_comes_25 rfl ?_
  refine x_aload (q := 9) hC dL_comes_27 rfl ?_
  refine x_bipush (v := 20) hC dL_comes_29 (by decide) ?_
  refine x_callSv (As := [.ref (x_a g 196), .ref (x_a g 202), .int (20 : Int32)]) hC h gL_comes_L_copy rfl rfl rfl hy_L_copy.2 ⟨Nat.le_of_ble_eq_true rfl, Nat.le_of_ble_eq_true rfl⟩ rfl (Nat.le_of_ble_eq_true rfl) rfl dL_comes_31 (fun N4 h => ?_)
  refine x_iload_n (i := 0) (q := 0) hC dL_comes_34 rfl rfl ?_
  refine x_istore (ls' := [(12, .int v0), (0, .int v0), (1, .int v1), (2, .ref (x_a g 193)), (3, .ref (x_a g 194)), (4, .ref (x_a g 195)), (5, .ref (x_a g 196)), (6, .ref (x_a g 199)), (7, .ref (x_a g 200)), (8, .ref (x_a g 201)), (9, .ref (x_a g 202)), (10, .ref (x_a g 203)), (11, .ref (x_a g 204))]) hC dL_comes_35 (by decide) rfl ?_
  refine x_iload_n (i := 1) (q := 2) hC dL_comes_37 rfl rfl ?_
  refine x_if_lt (t := 96) hC dL_comes_38 (by decide) (fun q => ?_) (fun q => ?_)
  · replace h := h.1 q
    obtain ⟨n_2, h⟩ := h
    exact x_sub [3, 7, 8, 9, 10, 11, 12, 0] rfl ((L n_2).2.1 _ _ h)
  · replace h := h.2 q
    refine x_iload_n (i := 1) (q := 2) hC dL_comes_41 rfl rfl ?_
    refine x_istore (ls' := [(13, .int v1), (12, .int v0), (0, .int v0), (1, .int v1), (2, .ref (x_a g 193)), (3, .ref (x_a g 194)), (4, .ref (x_a g 195)), (5, .ref (x_a g 196)), (6, .ref (x_a g 199)), (7, .ref (x_a g 200)), (8, .ref (x_a g 201)), (9, .ref (x_a g 202)), (10, .ref (x_a g 203)), (11, .ref (x_a g 204))]) hC dL_comes_42 (by decide) rfl ?_
    obtain ⟨n_1, h⟩ := h
    exact x_sub [2, 3, 4, 8, 9, 10, 11, 12, 13, 1, 0] rfl ((L n_1).1 _ _ _ _ _ h)
def vc_L_bits (g : xG) (v0 : Int32) (M : xM) (P : Int32 → xM → Prop) (K1 : Int32 → Int32 → xM → Prop) : Prop := K1 (0 : Int32) v0 M
def vc_L_bits_1 (g : xG) (v1 : Int32) (v2 : Int32) (M : xM) (P : Int32 → xM → Prop) (K1 : Int32 → Int32 → xM → Prop) : Prop := ((v2 = 0 → P v1 M) ∧ (¬ (v2 = 0) → K1 (v1 + (1 : Int32)) (v2 &&& (v2 - (1 : Int32))) M))
set_option maxRecDepth 100000 in
set_option maxHeartbeats 4000000 in
theorem wk_L_bits {g : xG} (v0 : Int32) (M : xM) (P : Int32 → xM → Prop) (I1 : Nat → Int32 → Int32 → xM → Prop) (h0 : vc_L_bits g v0 M P (fun v1 v2 N => ∃ k, I1 k v1 v2 N)) (h1 : ∀ (n : Nat) (v1 : Int32) (v2 : Int32) (N : xM), I1 n v1 v2 N → vc_L_bits_1 g v1 v2 N P (fun v1 v2 N => ∃ k, k < n ∧ I1 k v1 v2 N)) : mi_L_bits g v0 M P := by
  refine x_startI (as := [.int v0]) (cc := cL_bits) (n := 3) (ret := (some .int)) (own := RL) (by decide) rfl rfl (Nat.le_of_ble_eq_true rfl) (fun x hC hr => ?_)
  have L : ∀ n : Nat, (∀ (v1 : Int32) (v2 : Int32) (N : xM), I1 n v1 v2 N → x_W x g 3 (x_Qi x g P) N 4 [(1, .int v1), (2, .int v2)] []) := by
    intro n
    induction n using Nat.strongRecOn with
    | ind n ih =>
      intro v1 v2 M hI
      have h := h1 n v1 v2 M hI
      unfold vc_L_bits_1 at h
      refine x_iload_n (i := 2) (q := 1) hC dL_bits_4 rfl rfl ?_
      refine x_if_eq (t := 20) hC dL_bits_5 (by decide) (fun q => ?_) (fun q => ?_)
      · replace h := h.1 q
        refine x_iload_n (i := 1) (q := 0) hC dL_bits_20 rfl rfl ?_
        exact x_iret hC hr dL_bits_21 h
      · replace h := h.2 q
        refine x_iinc (k := 0) (v' := (v1 + (1 : Int32))) (ls' := [(1, .int (v1 + (1 : Int32))), (2, .int v2)]) hC dL_bits_8 rfl rfl (by decide) rfl ?_
        refine x_iload_n (i := 2) (q := 1) hC dL_bits_11 rfl rfl ?_
        refine x_iload_n (i := 2) (q := 1) hC dL_bits_12 rfl rfl ?_
        refine x_iconst (v := 1) hC dL_bits_13 (by decide) ?_
        refine x_isub hC dL_bits_14 ?_
        refine x_iand hC dL_bits_15 ?_
        refine x_istore_n (i := 2) (ls' := [(2, .int (v2 &&& (v2 - (1 : Int32)))), (1, .int (v1 + (1 : Int32)))]) hC dL_bits_16 rfl (by decide) rfl ?_
        refine x_goto (t := 4) hC dL_bits_17 (by decide) ?_
        obtain ⟨n_1, hn, h⟩ := h
        exact x_sub [1, 0] rfl ((ih n_1 hn) _ _ _ h)
  have h := h0
  unfold vc_L_bits at h
  refine x_iconst (v := 0) hC dL_bits_0 (by decide) ?_
  refine x_istore_n (i := 1) (ls' := [(1, .int (0 : Int32)), (0, .int v0)]) hC dL_bits_1 rfl (by decide) rfl ?_
  refine x_iload_n (i := 0) (q := 1) hC dL_bits_2 rfl rfl ?_
  refine x_istore_n (i := 2) (ls' := [(2, .int v0), (1, .int (0 : Int32)), (0, .int v0)]) hC dL_bits_3 rfl (by decide) rfl ?_
  obtain ⟨n_1, h⟩ := h
  exact x_sub [1, 0] rfl ((L n_1) _ _ _ h)
