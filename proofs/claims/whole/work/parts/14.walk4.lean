def vc_X10_moves (g : xG) (na nb : Nat) (a : Nat) (v1 : Int32) (b : Nat) (v3 : Int32) (M : xM) (P : xM → Prop) (K1 : Int32 → Int32 → Int32 → xM → Prop) : Prop := K1 v1 v3 (0 : Int32) M
def vc_X10_moves_1 (g : xG) (na nb : Nat) (a : Nat) (b : Nat) (v1 : Int32) (v3 : Int32) (v4 : Int32) (M : xM) (P : xM → Prop) (K1 : Int32 → Int32 → Int32 → xM → Prop) : Prop := (((239 : Int32) ≤ v4 → P M) ∧ (¬ ((239 : Int32) ≤ v4) → (vp_in (v1 + v4) na ∧ (vp_in (v3 + v4) nb ∧ K1 v1 v3 (v4 + (1 : Int32)) (x_up M b ((v3 + v4)).toNatClampNeg (M a ((v1 + v4)).toNatClampNeg))))))
set_option maxRecDepth 100000 in
set_option maxHeartbeats 4000000 in
theorem wk_X10_moves {g : xG} (a : Nat) (v1 : Int32) (b : Nat) (v3 : Int32) {na nb : Nat} (ha : x_isA a 0 na) (hb : x_isA b 0 nb) (M : xM) (P : xM → Prop) (I1 : Nat → Int32 → Int32 → Int32 → xM → Prop) (h0 : vc_X10_moves g na nb a v1 b v3 M P (fun v1 v3 v4 N => ∃ k, I1 k v1 v3 v4 N)) (h1 : ∀ (n : Nat) (v1 : Int32) (v3 : Int32) (v4 : Int32) (N : xM), I1 n v1 v3 v4 N → vc_X10_moves_1 g na nb a b v1 v3 v4 N P (fun v1 v3 v4 N => ∃ k, k < n ∧ I1 k v1 v3 v4 N)) : mi_X10_moves g a v1 b v3 M P := by
  refine x_startV (as := [.ref (x_a g a), .int v1, .ref (x_a g b), .int v3]) (cc := cX10_moves) (n := 5) (ret := none) (own := RX10) (by decide) rfl rfl (Nat.le_of_ble_eq_true rfl) (fun x hC hr => ?_)
  have L : ∀ n : Nat, (∀ (v1 : Int32) (v3 : Int32) (v4 : Int32) (N : xM), I1 n v1 v3 v4 N → x_W x g 5 (x_Qv x g P) N 3 [(0, .ref (x_a g a)), (1, .int v1), (2, .ref (x_a g b)), (3, .int v3), (4, .int v4)] []) := by
    intro n
    induction n using Nat.strongRecOn with
    | ind n ih =>
      intro v1 v3 v4 M hI
      have h := h1 n v1 v3 v4 M hI
      unfold vc_X10_moves_1 at h
      refine x_iload (q := 4) hC dX10_moves_3 rfl ?_
      refine x_sipush (v := 239) hC dX10_moves_5 (by decide) ?_
      refine x_icmp_ge (t := 29) hC dX10_moves_8 (by decide) (fun q => ?_) (fun q => ?_)
      · replace h := h.1 q
        exact x_vret hC hr dX10_moves_29 h
      · replace h := h.2 q
        refine x_aload_n (i := 2) (q := 2) hC dX10_moves_11 rfl rfl ?_
        refine x_iload_n (i := 3) (q := 3) hC dX10_moves_12 rfl rfl ?_
        refine x_iload (q := 4) hC dX10_moves_13 rfl ?_
        refine x_iadd hC dX10_moves_15 ?_
        refine x_aload_n (i := 0) (q := 0) hC dX10_moves_16 rfl rfl ?_
        refine x_iload_n (i := 1) (q := 1) hC dX10_moves_17 rfl rfl ?_
        refine x_iload (q := 4) hC dX10_moves_18 rfl ?_
        refine x_iadd hC dX10_moves_20 ?_
        refine x_iald (len := na) hC ha h.1 dX10_moves_21 ?_
        replace h := h.2
        refine x_iast (len := nb) hC hb h.1 dX10_moves_22 ?_
        replace h := h.2
        refine x_iinc (k := 4) (v' := (v4 + (1 : Int32))) (ls' := [(4, .int (v4 + (1 : Int32))), (0, .ref (x_a g a)), (1, .int v1), (2, .ref (x_a g b)), (3, .int v3)]) hC dX10_moves_23 rfl rfl (by decide) rfl ?_
        refine x_goto (t := 3) hC dX10_moves_26 (by decide) ?_
        obtain ⟨n_1, hn, h⟩ := h
        exact x_sub [1, 2, 3, 4, 0] rfl ((ih n_1 hn) _ _ _ _ h)
  have h := h0
  unfold vc_X10_moves at h
  refine x_iconst (v := 0) hC dX10_moves_0 (by decide) ?_
  refine x_istore (ls' := [(4, .int (0 : Int32)), (0, .ref (x_a g a)), (1, .int v1), (2, .ref (x_a g b)), (3, .int v3)]) hC dX10_moves_1 (by decide) rfl ?_
  obtain ⟨n_1, h⟩ := h
  exact x_sub [1, 2, 3, 4, 0] rfl ((L n_1) _ _ _ _ h)
def vc_X10_within (g : xG) (v0 : Int32) (v1 : Int32) (v2 : Int32) (M : xM) (P : Int32 → xM → Prop) : Prop := ((v0 < v1 → P (0 : Int32) M) ∧ (¬ (v0 < v1) → ((v2 < v0 → P (0 : Int32) M) ∧ (¬ (v2 < v0) → P (1 : Int32) M))))
set_option maxRecDepth 100000 in
set_option maxHeartbeats 4000000 in
theorem wk_X10_within {g : xG} (v0 : Int32) (v1 : Int32) (v2 : Int32) (M : xM) (P : Int32 → xM → Prop) (h0 : vc_X10_within g v0 v1 v2 M P ) : mi_X10_within g v0 v1 v2 M P := by
  refine x_startI (as := [.int v0, .int v1, .int v2]) (cc := cX10_within) (n := 3) (ret := (some .boolean)) (own := RX10) (by decide) rfl rfl (Nat.le_of_ble_eq_true rfl) (fun x hC hr => ?_)
  have h := h0
  unfold vc_X10_within at h
  refine x_iload_n (i := 0) (q := 0) hC dX10_within_0 rfl rfl ?_
  refine x_iload_n (i := 1) (q := 1) hC dX10_within_1 rfl rfl ?_
  refine x_icmp_lt (t := 14) hC dX10_within_2 (by decide) (fun q => ?_) (fun q => ?_)
  · replace h := h.1 q
    refine x_iconst (v := 0) hC dX10_within_14 (by decide) ?_
    exact x_zret hC hr dX10_within_15 rfl h
  · replace h := h.2 q
    refine x_iload_n (i := 0) (q := 0) hC dX10_within_5 rfl rfl ?_
    refine x_iload_n (i := 2) (q := 2) hC dX10_within_6 rfl rfl ?_
    refine x_icmp_gt (t := 14) hC dX10_within_7 (by decide) (fun q => ?_) (fun q => ?_)
    · replace h := h.1 q
      refine x_iconst (v := 0) hC dX10_within_14 (by decide) ?_
      exact x_zret hC hr dX10_within_15 rfl h
    · replace h := h.2 q
      refine x_iconst (v := 1) hC dX10_within_10 (by decide) ?_
      refine x_goto (t := 15) hC dX10_within_11 (by decide) ?_
      exact x_zret hC hr dX10_within_15 rfl h
theorem kf_X10_isSinger_7 : x_okf wsX10_isSinger RX10 7 10 0 = true := by decide +kernel
def vc_X10_isSinger (g : xG) (v1 : Int32) (M : xM) (P : Int32 → xM → Prop) : Prop := (vp_in (0 : Int32) 239 ∧ (mi_X10_within g v1 (0 : Int32) ((M 194 ((0 : Int32)).toNatClampNeg) - (1 : Int32)) M (fun r1 N2 => (narrow .boolean (.int r1) = .int r1 ∧ P r1 N2))))
set_option maxRecDepth 100000 in
set_option maxHeartbeats 4000000 in
theorem wk_X10_isSinger {g : xG} (v1 : Int32) (M : xM) (P : Int32 → xM → Prop) (h0 : vc_X10_isSinger g v1 M P ) : mi_X10_isSinger g v1 M P := by
  refine x_startI (as := [.ref (x_a g 193), .int v1]) (cc := cX10_isSinger) (n := 2) (ret := (some .boolean)) (own := RX10) (by decide) rfl rfl (Nat.le_of_ble_eq_true rfl) (fun x hC hr => ?_)
  have h := h0
  unfold vc_X10_isSinger at h
  refine x_iload_n (i := 1) (q := 1) hC dX10_isSinger_0 rfl rfl ?_
  refine x_iconst (v := 0) hC dX10_isSinger_1 (by decide) ?_
  refine x_aload_n (i := 0) (q := 0) hC dX10_isSinger_2 rfl rfl ?_
  refine x_getr (k := 0) (r := 194) hC xo_193 rfl kf_X10_isSinger_7 dX10_isSinger_3 ?_
  refine x_iconst (v := 0) hC dX10_isSinger_6 (by decide) ?_
  refine x_iald (len := 239) hC xa_194 h.1 dX10_isSinger_7 ?_
  replace h := h.2
  refine x_iconst (v := 1) hC dX10_isSinger_8 (by decide) ?_
  refine x_isub hC dX10_isSinger_9 ?_
  refine x_callSi (As := [.int v1, .int (0 : Int32), .int ((M 194 ((0 : Int32)).toNatClampNeg) - (1 : Int32))]) hC h gX10_isSinger_X10_within rfl rfl rfl hy_X10_within.2 ⟨Nat.le_of_ble_eq_true rfl, Nat.le_of_ble_eq_true rfl⟩ rfl (Nat.le_of_ble_eq_true rfl) rfl dX10_isSinger_10 (fun r1 N2 h => ?_)
  exact x_zret hC hr dX10_isSinger_13 h.1 h.2
theorem kf_X10_isSong_7 : x_okf wsX10_isSong RX10 7 10 0 = true := by decide +kernel
def vc_X10_isSong (g : xG) (v1 : Int32) (M : xM) (P : Int32 → xM → Prop) : Prop := (vp_in (1 : Int32) 239 ∧ (mi_X10_within g v1 (0 : Int32) ((M 194 ((1 : Int32)).toNatClampNeg) - (1 : Int32)) M (fun r1 N2 => (narrow .boolean (.int r1) = .int r1 ∧ P r1 N2))))
set_option maxRecDepth 100000 in
set_option maxHeartbeats 4000000 in
theorem wk_X10_isSong {g : xG} (v1 : Int32) (M : xM) (P : Int32 → xM → Prop) (h0 : vc_X10_isSong g v1 M P ) : mi_X10_isSong g v1 M P := by
  refine x_startI (as := [.ref (x_a g 193), .int v1]) (cc := cX10_isSong) (n := 2) (ret := (some .boolean)) (own := RX10) (by decide) rfl rfl (Nat.le_of_ble_eq_true rfl) (fun x hC hr => ?_)
  have h := h0
  unfold vc_X10_isSong at h
  refine x_iload_n (i := 1) (q := 1) hC dX10_isSong_0 rfl rfl ?_
  refine x_iconst (v := 0) hC dX10_isSong_1 (by decide) ?_
  refine x_aload_n (i := 0) (q := 0) hC dX10_isSong_2 rfl rfl ?_
  refine x_getr (k := 0) (r := 194) hC xo_193 rfl kf_X10_isSong_7 dX10_isSong_3 ?_
  refine x_iconst (v := 1) hC dX10_isSong_6 (by decide) ?_
  refine x_iald (len := 239) hC xa_194 h.1 dX10_isSong_7 ?_
  replace h := h.2
  refine x_iconst (v := 1) hC dX10_isSong_8 (by decide) ?_
  refine x_isub hC dX10_isSong_9 ?_
  refine x_callSi (As := [.int v1, .int (0 : Int32), .int ((M 194 ((1 : Int32)).toNatClampNeg) - (1 : Int32))]) hC h gX10_isSong_X10_within rfl rfl rfl hy_X10_within.2 ⟨Nat.le_of_ble_eq_true rfl, Nat.le_of_ble_eq_true rfl⟩ rfl (Nat.le_of_ble_eq_true rfl) rfl dX10_isSong_10 (fun r1 N2 h => ?_)
  exact x_zret hC hr dX10_isSong_13 h.1 h.2
theorem kf_X10_isWish_7 : x_okf wsX10_isWish RX10 7 10 0 = true := by decide +kernel
def vc_X10_isWish (g : xG) (v1 : Int32) (M : xM) (P : Int32 → xM → Prop) : Prop := (vp_in (2 : Int32) 239 ∧ (mi_X10_within g v1 (0 : Int32) ((M 194 ((2 : Int32)).toNatClampNeg) - (1 : Int32)) M (fun r1 N2 => (narrow .boolean (.int r1) = .int r1 ∧ P r1 N2))))
set_option maxRecDepth 100000 in
set_option maxHeartbeats 4000000 in
theorem wk_X10_isWish {g : xG} (v1 : Int32) (M : xM) (P : Int32 → xM → Prop) (h0 : vc_X10_isWish g v1 M P ) : mi_X10_isWish g v1 M P := by
  refine x_startI (as := [.ref (x_a g 193), .int v1]) (cc := cX10_isWish) (n := 2) (ret := (some .boolean)) (own := RX10) (by decide) rfl rfl (Nat.le_of_ble_eq_true rfl) (fun x hC hr => ?_)
  have h := h0
  unfold vc_X10_isWish at h
  refine x_iload_n (i := 1) (q := 1) hC dX10_isWish_0 rfl rfl ?_
  refine x_iconst (v := 0) hC dX10_isWish_1 (by decide) ?_
  refine x_aload_n (i := 0) (q := 0) hC dX10_isWish_2 rfl rfl ?_
  refine x_getr (k := 0) (r := 194) hC xo_193 rfl kf_X10_isWish_7 dX10_isWish_3 ?_
  refine x_iconst (v := 2) hC dX10_isWish_6 (by decide) ?_
  refine x_iald (len := 239) hC xa_194 h.1 dX10_isWish_7 ?_
  replace h := h.2
  refine x_iconst (v := 1) hC dX10_isWish_8 (by decide) ?_
  refine x_isub hC dX10_isWish_9 ?_
  refine x_callSi (As := [.int v1, .int (0 : Int32), .int ((M 194 ((2 : Int32)).toNatClampNeg) - (1 : Int32))]) hC h gX10_isWish_X10_within rfl rfl rfl hy_X10_within.2 ⟨Nat.le_of_ble_eq_true rfl, Nat.le_of_ble_eq_true rfl⟩ rfl (Nat.le_of_ble_eq_true rfl) rfl dX10_isWish_10 (fun r1 N2 h => ?_)
  exact x_zret hC hr dX10_isWish_13 h.1 h.2
theorem kf_X10_singerPart_7 : x_okf wsX10_singerPart RX10 7 10 0 = true := by decide +kernel
def vc_X10_singerPart (g : xG) (v1 : Int32) (v2 : Int32) (M : xM) (P : Int32 → xM → Prop) : Prop := (vp_in (((7 : Int32) + ((5 : Int32) * v1)) + v2) 239 ∧ P (M 194 ((((7 : Int32) + ((5 : Int32) * v1)) + v2)).toNatClampNeg) M)
set_option maxRecDepth 100000 in
set_option maxHeartbeats 4000000 in
theorem wk_X10_singerPart {g : xG} (v1 : Int32) (v2 : Int32) (M : xM) (P : Int32 → xM → Prop) (h0 : vc_X10_singerPart g v1 v2 M P ) : mi_X10_singerPart g v1 v2 M P := by
  refine x_startI (as := [.ref (x_a g 193), .int v1, .int v2]) (cc := cX10_singerPart) (n := 3) (ret := (some .int)) (own := RX10) (by decide) rfl rfl (Nat.le_of_ble_eq_true rfl) (fun x hC hr => ?_)
  have h := h0
  unfold vc_X10_singerPart at h
  refine x_aload_n (i := 0) (q := 0) hC dX10_singerPart_0 rfl rfl ?_
  refine x_getr (k := 0) (r := 194) hC xo_193 rfl kf_X10_singerPart_7 dX10_singerPart_1 ?_
  refine x_bipush (v := 7) hC dX10_singerPart_4 (by decide) ?_
  refine x_iconst (v := 5) hC dX10_singerPart_6 (by decide) ?_
  refine x_iload_n (i := 1) (q := 1) hC dX10_singerPart_7 rfl rfl ?_
  refine x_imul hC dX10_singerPart_8 ?_
  refine x_iadd hC dX10_singerPart_9 ?_
  refine x_iload_n (i := 2) (q := 2) hC dX10_singerPart_10 rfl rfl ?_
  refine x_iadd hC dX10_singerPart_11 ?_
  refine x_iald (len := 239) hC xa_194 h.1 dX10_singerPart_12 ?_
  replace h := h.2
  exact x_iret hC hr dX10_singerPart_13 h
theorem kf_X10_setSinger_7 : x_okf wsX10_setSinger RX10 7 10 0 = true := by decide +kernel
def vc_X10_setSinger (g : xG) (v1 : Int32) (v2 : Int32) (v3 : Int32) (M : xM) (P : xM → Prop) : Prop := (vp_in (((7 : Int32) + ((5 : Int32) * v1)) + v2) 239 ∧ P (x_up M 194 ((((7 : Int32) + ((5 : Int32) * v1)) + v2)).toNatClampNeg v3))
set_option maxRecDepth 100000 in
set_option maxHeartbeats 4000000 in
theorem wk_X10_setSinger {g : xG} (v1 : Int32) (v2 : Int32) (v3 : Int32) (M : xM) (P : xM → Prop) (h0 : vc_X10_setSinger g v1 v2 v3 M P ) : mi_X10_setSinger g v1 v2 v3 M P := by
  refine x_startV (as := [.ref (x_a g 193), .int v1, .int v2, .int v3]) (cc := cX10_setSinger) (n := 4) (ret := none) (own := RX10) (by decide) rfl rfl (Nat.le_of_ble_eq_true rfl) (fun x hC hr => ?_)
  have h := h0
  unfold vc_X10_setSinger at h
  refine x_aload_n (i := 0) (q := 0) hC dX10_setSinger_0 rfl rfl ?_
  refine x_getr (k := 0) (r := 194) hC xo_193 rfl kf_X10_setSinger_7 dX10_setSinger_1 ?_
  refine x_bipush (v := 7) hC dX10_setSinger_4 (by decide) ?_
  refine x_iconst (v := 5) hC dX10_setSinger_6 (by decide) ?_
  refine x_iload_n (i := 1) (q := 1) hC dX10_setSinger_7 rfl rfl ?_
  refine x_imul hC dX10_setSinger_8 ?_
  refine x_iadd hC dX10_setSinger_9 ?_
  refine x_iload_n (i := 2) (q := 2) hC dX10_setSinger_10 rfl rfl ?_
  refine x_iadd hC dX10_setSinger_11 ?_
  refine x_iload_n (i := 3) (q := 3) hC dX10_setSinger_12 rfl rfl ?_
  refine x_iast (len := 239) hC xa_194 h.1 dX10_setSinger_13 ?_
  replace h := h.2
  exact x_vret hC hr dX10_setSinger_14 h
theorem kf_X10_songPart_7 : x_okf wsX10_songPart RX10 7 10 0 = true := by decide +kernel
def vc_X10_songPart (g : xG) (v1 : Int32) (v2 : Int32) (M : xM) (P : Int32 → xM → Prop) : Prop := (vp_in (((67 : Int32) + ((4 : Int32) * v1)) + v2) 239 ∧ P (M 194 ((((67 : Int32) + ((4 : Int32) * v1)) + v2)).toNatClampNeg) M)
set_option maxRecDepth 100000 in
set_option maxHeartbeats 4000000 in
theorem wk_X10_songPart {g : xG} (v1 : Int32) (v2 : Int32) (M : xM) (P : Int32 → xM → Prop) (h0 : vc_X10_songPart g v1 v2 M P ) : mi_X10_songPart g v1 v2 M P := by
  refine x_startI (as := [.ref (x_a g 193), .int v1, .int v2]) (cc := cX10_songPart) (n := 3) (ret := (some .int)) (own := RX10) (by decide) rfl rfl (Nat.le_of_ble_eq_true rfl) (fun x hC hr => ?_)
  have h := h0
  unfold vc_X10_songPart at h
  refine x_aload_n (i := 0) (q := 0) hC dX10_songPart_0 rfl rfl ?_
  refine x_getr (k := 0) (r := 194) hC xo_193 rfl kf_X10_songPart_7 dX10_songPart_1 ?_
  refine x_bipush (v := 67) hC dX10_songPart_4 (by decide) ?_
  refine x_iconst (v := 4) hC dX10_songPart_6 (by decide) ?_
  refine x_iload_n (i := 1) (q := 1) hC dX10_songPart_7 rfl rfl ?_
  refine x_imul hC dX10_songPart_8 ?_
  refine x_iadd hC dX10_songPart_9 ?_
  refine x_iload_n (i := 2) (q := 2) hC dX10_songPart_10 rfl rfl ?_
  refine x_iadd hC dX10_songPart_11 ?_
  refine x_iald (len := 239) hC xa_194 h.1 dX10_songPart_12 ?_
  replace h := h.2
  exact x_iret hC hr dX10_songPart_13 h
theorem kf_X10_wishPart_7 : x_okf wsX10_wishPart RX10 7 10 0 = true := by decide +kernel
def vc_X10_wishPart (g : xG) (v1 : Int32) (v2 : Int32) (M : xM) (P : Int32 → xM → Prop) : Prop := (vp_in (((131 : Int32) + ((3 : Int32) * v1)) + v2) 239 ∧ P (M 194 ((((131 : Int32) + ((3 : Int32) * v1)) + v2)).toNatClampNeg) M)
set_option maxRecDepth 100000 in
set_option maxHeartbeats 4000000 in
theorem wk_X10_wishPart {g : xG} (v1 : Int32) (v2 : Int32) (M : xM) (P : Int32 → xM → Prop) (h0 : vc_X10_wishPart g v1 v2 M P ) : mi_X10_wishPart g v1 v2 M P := by
  refine x_startI (as := [.ref (x_a g 193), .int v1, .int v2]) (cc := cX10_wishPart) (n := 3) (ret := (some .int)) (own := RX10) (by decide) rfl rfl (Nat.le_of_ble_eq_true rfl) (fun x hC hr => ?_)
  have h := h0
  unfold vc_X10_wishPart at h
  refine x_aload_n (i := 0) (q := 0) hC dX10_wishPart_0 rfl rfl ?_
  refine x_getr (k := 0) (r := 194) hC xo_193 rfl kf_X10_wishPart_7 dX10_wishPart_1 ?_
  refine x_sipush (v := 131) hC dX10_wishPart_4 (by decide) ?_
  refine x_iconst (v := 3) hC dX10_wishPart_7 (by decide) ?_
  refine x_iload_n (i := 1) (q := 1) hC dX10_wishPart_8 rfl rfl ?_
  refine x_imul hC dX10_wishPart_9 ?_
  refine x_iadd hC dX10_wishPart_10 ?_
  refine x_iload_n (i := 2) (q := 2) hC dX10_wishPart_11 rfl rfl ?_
  refine x_iadd hC dX10_wishPart_12 ?_
  refine x_iald (len := 239) hC xa_194 h.1 dX10_wishPart_13 ?_
  replace h := h.2
  exact x_iret hC hr dX10_wishPart_14 h
def vc_X10_bits (g : xG) (v0 : Int32) (M : xM) (P : Int32 → xM → Prop) (K1 : Int32 → Int32 → Int32 → xM → Prop) : Prop := K1 v0 (0 : Int32) (0 : Int32) M
def vc_X10_bits_1 (g : xG) (v0 : Int32) (v1 : Int32) (v2 : Int32) (M : xM) (P : Int32 → xM → Prop) (K1 : Int32 → Int32 → Int32 → xM → Prop) : Prop := (((12 : Int32) ≤ v2 → P v1 M) ∧ (¬ ((12 : Int32) ≤ v2) → K1 v0 (v1 + ((v0 >>> (v2 &&& 31)) &&& (1 : Int32))) (v2 + (1 : Int32)) M))
set_option maxRecDepth 100000 in
set_option maxHeartbeats 4000000 in
theorem wk_X10_bits {g : xG} (v0 : Int32) (M : xM) (P : Int32 → xM → Prop) (I1 : Nat → Int32 → Int32 → Int32 → xM → Prop) (h0 : vc_X10_bits g v0 M P (fun v0 v1 v2 N => ∃ k, I1 k v0 v1 v2 N)) (h1 : ∀ (n : Nat) (v0 : Int32) (v1 : Int32) (v2 : Int32) (N : xM), I1 n v0 v1 v2 N → vc_X10_bits_1 g v0 v1 v2 N P (fun v0 v1 v2 N => ∃ k, k < n ∧ I1 k v0 v1 v2 N)) : mi_X10_bits g v0 M P := by
  refine x_startI (as := [.int v0]) (cc := cX10_bits) (n := 3) (ret := (some .int)) (own := RX10) (by decide) rfl rfl (Nat.le_of_ble_eq_true rfl) (fun x hC hr => ?_)
  have L : ∀ n : Nat, (∀ (v0 : Int32) (v1 : Int32) (v2 : Int32) (N : xM), I1 n v0 v1 v2 N → x_W x g 3 (x_Qi x g P) N 4 [(0, .int v0), (1, .int v1), (2, .int v2)] []) := by
    intro n
    induction n using Nat.strongRecOn with
    | ind n ih =>
      intro v0 v1 v2 M hI
      have h := h1 n v0 v1 v2 M hI
      unfold vc_X10_bits_1 at h
      refine x_iload_n (i := 2) (q := 2) hC dX10_bits_4 rfl rfl ?_
      refine x_bipush (v := 12) hC dX10_bits_5 (by decide) ?_
      refine x_icmp_ge (t := 24) hC dX10_bits_7 (by decide) (fun q => ?_) (fun q => ?_)
      · replace h := h.1 q
        refine x_iload_n (i := 1) (q := 1) hC dX10_bits_24 rfl rfl ?_
        exact x_iret hC hr dX10_bits_25 h
      · replace h := h.2 q
        refine x_iload_n (i := 1) (q := 1) hC dX10_bits_10 rfl rfl ?_
        refine x_iload_n (i := 0) (q := 0) hC dX10_bits_11 rfl rfl ?_
        refine x_iload_n (i := 2) (q := 2) hC dX10_bits_12 rfl rfl ?_
        refine x_ishr hC dX10_bits_13 ?_
        refine x_iconst (v := 1) hC dX10_bits_14 (by decide) ?_
        refine x_iand hC dX10_bits_15 ?_
        refine x_iadd hC dX10_bits_16 ?_
        refine x_istore_n (i := 1) (ls' := [(1, .int (v1 + ((v0 >>> (v2 &&& 31)) &&& (1 : Int32)))), (0, .int v0), (2, .int v2)]) hC dX10_bits_17 rfl (by decide) rfl ?_
        refine x_iinc (k := 2) (v' := (v2 + (1 : Int32))) (ls' := [(2, .int (v2 + (1 : Int32))), (1, .int (v1 + ((v0 >>> (v2 &&& 31)) &&& (1 : Int32)))), (0, .int v0)]) hC dX10_bits_18 rfl rfl (by decide) rfl ?_
        refine x_goto (t := 4) hC dX10_bits_21 (by decide) ?_
        obtain ⟨n_1, hn, h⟩ := h
        exact x_sub [2, 1, 0] rfl ((ih n_1 hn) _ _ _ _ h)
  have h := h0
  unfold vc_X10_bits at h
  refine x_iconst (v := 0) hC dX10_bits_0 (by decide) ?_
  refine x_istore_n (i := 1) (ls' := [(1, .int (0 : Int32)), (0, .int v0)]) hC dX10_bits_1 rfl (by decide) rfl ?_
  refine x_iconst (v := 0) hC dX10_bits_2 (by decide) ?_
  refine x_istore_n (i := 2) (ls' := [(2, .int (0 : Int32)), (1, .int (0 : Int32)), (0, .int v0)]) hC dX10_bits_3 rfl (by decide) rfl ?_
  obtain ⟨n_1, h⟩ := h
  exact x_sub [2, 1, 0] rfl ((L n_1) _ _ _ _ h)
theorem kf_X10_there_7 : x_okf wsX10_there RX10 7 10 0 = true := by decide +kernel
def vc_X10_there (g : xG) (M : xM) (P : Int32 → xM → Prop) (K1 : Int32 → Int32 → xM → Prop) : Prop := K1 (0 : Int32) (0 : Int32) M
def vc_X10_there_1 (g : xG) (v1 : Int32) (v2 : Int32) (M : xM) (P : Int32 → xM → Prop) (K1 : Int32 → Int32 → xM → Prop) : Prop := (vp_in (0 : Int32) 239 ∧ (((M 194 ((0 : Int32)).toNatClampNeg) ≤ v2 → P v1 M) ∧ (¬ ((M 194 ((0 : Int32)).toNatClampNeg) ≤ v2) → (mi_X10_singerPart g v2 (2 : Int32) M (fun r1 N2 => ((¬ r1 = (1 : Int32) → K1 (v1 ||| (0 : Int32)) (v2 + (1 : Int32)) N2) ∧ (r1 = (1 : Int32) → K1 (v1 ||| ((1 : Int32) <<< (v2 &&& 31))) (v2 + (1 : Int32)) N2)))))))
set_option maxRecDepth 100000 in
set_option maxHeartbeats 4000000 in
theorem wk_X10_there {g : xG}  (M : xM) (P : Int32 → xM → Prop) (I1 : Nat → Int32 → Int32 → xM → Prop) (h0 : vc_X10_there g M P (fun v1 v2 N => ∃ k, I1 k v1 v2 N)) (h1 : ∀ (n : Nat) (v1 : Int32) (v2 : Int32) (N : xM), I1 n v1 v2 N → vc_X10_there_1 g v1 v2 N P (fun v1 v2 N => ∃ k, k < n ∧ I1 k v1 v2 N)) : mi_X10_there g M P := by
  refine x_startI (as := [.ref (x_a g 193)]) (cc := cX10_there) (n := 3) (ret := (some .int)) (own := RX10) (by decide) rfl rfl (Nat.le_of_ble_eq_true rfl) (fun x hC hr => ?_)
  have L : ∀ n : Nat, (∀ (v1 : Int32) (v2 : Int32) (N : xM), I1 n v1 v2 N → x_W x g 3 (x_Qi x g P) N 4 [(0, .ref (x_a g 193)), (1, .int v1), (2, .int v2)] []) := by
    intro n
    induction n using Nat.strongRecOn with
    | ind n ih =>
      intro v1 v2 M hI
      have h := h1 n v1 v2 M hI
      unfold vc_X10_there_1 at h
      refine x_iload_n (i := 2) (q := 2) hC dX10_there_4 rfl rfl ?_
      refine x_aload_n (i := 0) (q := 0) hC dX10_there_5 rfl rfl ?_
      refine x_getr (k := 0) (r := 194) hC xo_193 rfl kf_X10_there_7 dX10_there_6 ?_
      refine x_iconst (v := 0) hC dX10_there_9 (by decide) ?_
      refine x_iald (len := 239) hC xa_194 h.1 dX10_there_10 ?_
      replace h := h.2
      refine x_icmp_ge (t := 40) hC dX10_there_11 (by decide) (fun q => ?_) (fun q => ?_)
      · replace h := h.1 q
        refine x_iload_n (i := 1) (q := 1) hC dX10_there_40 rfl rfl ?_
        exact x_iret hC hr dX10_there_41 h
      · replace h := h.2 q
        refine x_iload_n (i := 1) (q := 1) hC dX10_there_14 rfl rfl ?_
        refine x_aload_n (i := 0) (q := 0) hC dX10_there_15 rfl rfl ?_
        refine x_iload_n (i := 2) (q := 2) hC dX10_there_16 rfl rfl ?_
        refine x_iconst (v := 2) hC dX10_there_17 (by decide) ?_
        refine x_callVi (q := (RX10, TX10, 12)) (As := [.int v2, .int (2 : Int32)]) hC xo_193 rfl h gX10_there_X10_singerPart rfl rfl rfl hy_X10_singerPart ⟨Nat.le_of_ble_eq_true rfl, Nat.le_of_ble_eq_true rfl⟩ rfl (Nat.le_of_ble_eq_true rfl) rfl dX10_there_18 (fun r1 N2 h => ?_)
        refine x_iconst (v := 1) hC dX10_there_21 (by decide) ?_
        refine x_icmp_ne (t := 31) hC dX10_there_22 (by decide) (fun q => ?_) (fun q => ?_)
        · replace h := h.1 q
          refine x_iconst (v := 0) hC dX10_there_31 (by decide) ?_
          refine x_ior hC dX10_there_32 ?_
          refine x_istore_n (i := 1) (ls' := [(1, .int (v1 ||| (0 : Int32))), (0, .ref (x_a g 193)), (2, .int v2)]) hC dX10_there_33 rfl (by decide) rfl ?_
          refine x_iinc (k := 2) (v' := (v2 + (1 : Int32))) (ls' := [(2, .int (v2 + (1 : Int32))), (1, .int (v1 ||| (0 : Int32))), (0, .ref (x_a g 193))]) hC dX10_there_34 rfl rfl (by decide) rfl ?_
          refine x_goto (t := 4) hC dX10_there_37 (by decide) ?_
          obtain ⟨n_1, hn, h⟩ := h
          exact x_sub [2, 1, 0] rfl ((ih n_1 hn) _ _ _ h)
        · replace h := h.2 q
          refine x_iconst (v := 1) hC dX10_there_25 (by decide) ?_
          refine x_iload_n (i := 2) (q := 2) hC dX10_there_26 rfl rfl ?_
          refine x_ishl hC dX10_there_27 ?_
          refine x_goto (t := 32) hC dX10_there_28 (by decide) ?_
          refine x_ior hC dX10_there_32 ?_
          refine x_istore_n (i := 1) (ls' := [(1, .int (v1 ||| ((1 : Int32) <<< (v2 &&& 31)))), (0, .ref (x_a g 193)), (2, .int v2)]) hC dX10_there_33 rfl (by decide) rfl ?_
          refine x_iinc (k := 2) (v' := (v2 + (1 : Int32))) (ls' := [(2, .int (v2 + (1 : Int32))), (1, .int (v1 ||| ((1 : Int32) <<< (v2 &&& 31)))), (0, .ref (x_a g 193))]) hC dX10_there_34 rfl rfl (by decide) rfl ?_
          refine x_goto (t := 4) hC dX10_there_37 (by decide) ?_
          obtain ⟨n_1, hn, h⟩ := h
          exact x_sub [2, 1, 0] rfl ((ih n_1 hn) _ _ _ h)
  have h := h0
  unfold vc_X10_there at h
  refine x_iconst (v := 0) hC dX10_there_0 (by decide) ?_
  refine x_istore_n (i := 1) (ls' := [(1, .int (0 : Int32)), (0, .ref (x_a g 193))]) hC dX10_there_1 rfl (by decide) rfl ?_
  refine x_iconst (v := 0) hC dX10_there_2 (by decide) ?_
  refine x_istore_n (i := 2) (ls' := [(2, .int (0 : Int32)), (1, .int (0 : Int32)), (0, .ref (x_a g 193))]) hC dX10_there_3 rfl (by decide) rfl ?_
  obtain ⟨n_1, h⟩ := h
  exact x_sub [2, 1, 0] rfl ((L n_1) _ _ _ h)
def vc_X10_singersOf (g : xG) (v1 : Int32) (M : xM) (P : Int32 → xM → Prop) : Prop := (mi_X10_wishPart g v1 (1 : Int32) M (fun r1 N2 => (mi_X10_wishPart g v1 (0 : Int32) N2 (fun r3 N4 => ((¬ r1 = (-6 : Int32) → P (((1 : Int32) <<< (r3 &&& 31)) ||| ((1 : Int32) <<< (r1 &&& 31))) N4) ∧ (r1 = (-6 : Int32) → P (((1 : Int32) <<< (r3 &&& 31)) ||| (0 : Int32)) N4))))))
set_option maxRecDepth 100000 in
set_option maxHeartbeats 4000000 in
theorem wk_X10_singersOf {g : xG} (v1 : Int32) (M : xM) (P : Int32 → xM → Prop) (h0 : vc_X10_singersOf g v1 M P ) : mi_X10_singersOf g v1 M P := by
  refine x_startI (as := [.ref (x_a g 193), .int v1]) (cc := cX10_singersOf) (n := 3) (ret := (some .int)) (own := RX10) (by decide) rfl rfl (Nat.le_of_ble_eq_true rfl) (fun x hC hr => ?_)
  have h := h0
  unfold vc_X10_singersOf at h
  refine x_aload_n (i := 0) (q := 0) hC dX10_singersOf_0 rfl rfl ?_
  refine x_iload_n (i := 1) (q := 1) hC dX10_singersOf_1 rfl rfl ?_
  refine x_iconst (v := 1) hC dX10_singersOf_2 (by decide) ?_
  refine x_callVi (q := (RX10, TX10, 12)) (As := [.int v1, .int (1 : Int32)]) hC xo_193 rfl h gX10_singersOf_X10_wishPart rfl rfl rfl hy_X10_wishPart ⟨Nat.le_of_ble_eq_true rfl, Nat.le_of_ble_eq_true rfl⟩ rfl (Nat.le_of_ble_eq_true rfl) rfl dX10_singersOf_3 (fun r1 N2 h => ?_)
  refine x_istore_n (i := 2) (ls' := [(2, .int r1), (0, .ref (x_a g 193)), (1, .int v1)]) hC dX10_singersOf_6 rfl (by decide) rfl ?_
  refine x_iconst (v := 1) hC dX10_singersOf_7 (by decide) ?_
  refine x_aload_n (i := 0) (q := 1) hC dX10_singersOf_8 rfl rfl ?_
  refine x_iload_n (i := 1) (q := 2) hC dX10_singersOf_9 rfl rfl ?_
  refine x_iconst (v := 0) hC dX10_singersOf_10 (by decide) ?_
  refine x_callVi (q := (RX10, TX10, 12)) (As := [.int v1, .int (0 : Int32)]) hC xo_193 rfl h gX10_singersOf_X10_wishPart rfl rfl rfl hy_X10_wishPart ⟨Nat.le_of_ble_eq_true rfl, Nat.le_of_ble_eq_true rfl⟩ rfl (Nat.le_of_ble_eq_true rfl) rfl dX10_singersOf_11 (fun r3 N4 h => ?_)
  refine x_ishl hC dX10_singersOf_14 ?_
  refine x_iload_n (i := 2) (q := 0) hC dX10_singersOf_15 rfl rfl ?_
  refine x_bipush (v := -6) hC dX10_singersOf_16 (by decide) ?_
  refine x_icmp_ne (t := 25) hC dX10_singersOf_18 (by decide) (fun q => ?_) (fun q => ?_)
  · replace h := h.1 q
    refine x_iconst (v := 1) hC dX10_singersOf_25 (by decide) ?_
    refine x_iload_n (i := 2) (q := 0) hC dX10_singersOf_26 rfl rfl ?_
    refine x_ishl hC dX10_singersOf_27 ?_
    refine x_ior hC dX10_singersOf_28 ?_
    exact x_iret hC hr dX10_singersOf_29 h
  · replace h := h.2 q
    refine x_iconst (v := 0) hC dX10_singersOf_21 (by decide) ?_
    refine x_goto (t := 28) hC dX10_singersOf_22 (by decide) ?_
    refine x_ior hC dX10_singersOf_28 ?_
    exact x_iret hC hr dX10_singersOf_29 h
def vc_X10_isKeyFor (g : xG) (v1 : Int32) (v2 : Int32) (v3 : Int32) (M : xM) (P : Int32 → xM → Prop) : Prop := (mi_X10_songPart g v2 (0 : Int32) M (fun r1 N2 => (mi_X10_singerPart g v1 (0 : Int32) N2 (fun r3 N4 => (((r1 + v3) < r3 → P (0 : Int32) N4) ∧ (¬ ((r1 + v3) < r3) → (mi_X10_songPart g v2 (1 : Int32) N4 (fun r5 N6 => (mi_X10_singerPart g v1 (1 : Int32) N6 (fun r7 N8 => ((r7 < (r5 + v3) → P (0 : Int32) N8) ∧ (¬ (r7 < (r5 + v3)) → P (1 : Int32) N8))))))))))))
set_option maxRecDepth 100000 in
set_option maxHeartbeats 4000000 in
theorem wk_X10_isKeyFor {g : xG} (v1 : Int32) (v2 : Int32) (v3 : Int32) (M : xM) (P : Int32 → xM → Prop) (h0 : vc_X10_isKeyFor g v1 v2 v3 M P ) : mi_X10_isKeyFor g v1 v2 v3 M P := by
  refine x_startI (as := [.ref (x_a g 193), .int v1, .int v2, .int v3]) (cc := cX10_isKeyFor) (n := 4) (ret := (some .boolean)) (own := RX10) (by decide) rfl rfl (Nat.le_of_ble_eq_true rfl) (fun x hC hr => ?_)
  have h := h0
  unfold vc_X10_isKeyFor at h
  refine x_aload_n (i := 0) (q := 0) hC dX10_isKeyFor_0 rfl rfl ?_
  refine x_iload_n (i := 2) (q := 2) hC dX10_isKeyFor_1 rfl rfl ?_
  refine x_iconst (v := 0) hC dX10_isKeyFor_2 (by decide) ?_
  refine x_callVi (q := (RX10, TX10, 12)) (As := [.int v2, .int (0 : Int32)]) hC xo_193 rfl h gX10_isKeyFor_X10_songPart rfl rfl rfl hy_X10_songPart ⟨Nat.le_of_ble_eq_true rfl, Nat.le_of_ble_eq_true rfl⟩ rfl (Nat.le_of_ble_eq_true rfl) rfl dX10_isKeyFor_3 (fun r1 N2 h => ?_)
  refine x_iload_n (i := 3) (q := 3) hC dX10_isKeyFor_6 rfl rfl ?_
  refine x_iadd hC dX10_isKeyFor_7 ?_
  refine x_aload_n (i := 0) (q := 0) hC dX10_isKeyFor_8 rfl rfl ?_
  refine x_iload_n (i := 1) (q := 1) hC dX10_isKeyFor_9 rfl rfl ?_
  refine x_iconst (v := 0) hC dX10_isKeyFor_10 (by decide) ?_
  refine x_callVi (q := (RX10, TX10, 12)) (As := [.int v1, .int (0 : Int32)]) hC xo_193 rfl h gX10_isKeyFor_X10_singerPart rfl rfl rfl hy_X10_singerPart ⟨Nat.le_of_ble_eq_true rfl, Nat.le_of_ble_eq_true rfl⟩ rfl (Nat.le_of_ble_eq_true rfl) rfl dX10_isKeyFor_11 (fun r3 N4 h => ?_)
  refine x_icmp_lt (t := 38) hC dX10_isKeyFor_14 (by decide) (fun q => ?_) (fun q => ?_)
  · replace h := h.1 q
    refine x_iconst (v := 0) hC dX10_isKeyFor_38 (by decide) ?_
    exact x_zret hC hr dX10_isKeyFor_39 rfl h
  · replace h := h.2 q
    refine x_aload_n (i := 0) (q := 0) hC dX10_isKeyFor_17 rfl rfl ?_
    refine x_iload_n (i := 2) (q := 2) hC dX10_isKeyFor_18 rfl rfl ?_
    refine x_iconst (v := 1) hC dX10_isKeyFor_19 (by decide) ?_
    refine x_callVi (q := (RX10, TX10, 12)) (As := [.int v2, .int (1 : Int32)]) hC xo_193 rfl h gX10_isKeyFor_X10_songPart rfl rfl rfl hy_X10_songPart ⟨Nat.le_of_ble_eq_true rfl, Nat.le_of_ble_eq_true rfl⟩ rfl (Nat.le_of_ble_eq_true rfl) rfl dX10_isKeyFor_20 (fun r5 N6 h => ?_)
    refine x_iload_n (i := 3) (q := 3) hC dX10_isKeyFor_23 rfl rfl ?_
    refine x_iadd hC dX10_isKeyFor_24 ?_
    refine x_aload_n (i := 0) (q := 0) hC dX10_isKeyFor_25 rfl rfl ?_
    refine x_iload_n (i := 1) (q := 1) hC dX10_isKeyFor_26 rfl rfl ?_
    refine x_iconst (v := 1) hC dX10_isKeyFor_27 (by decide) ?_
    refine x_callVi (q := (RX10, TX10, 12)) (As := [.int v1, .int (1 : Int32)]) hC xo_193 rfl h gX10_isKeyFor_X10_singerPart rfl rfl rfl hy_X10_singerPart ⟨Nat.le_of_ble_eq_true rfl, Nat.le_of_ble_eq_true rfl⟩ rfl (Nat.le_of_ble_eq_true rfl) rfl dX10_isKeyFor_28 (fun r7 N8 h => ?_)
    refine x_icmp_gt (t := 38) hC dX10_isKeyFor_31 (by decide) (fun q => ?_) (fun q => ?_)
    · replace h := h.1 q
      refine x_iconst (v := 0) hC dX10_isKeyFor_38 (by decide) ?_
      exact x_zret hC hr dX10_isKeyFor_39 rfl h
    · replace h := h.2 q
      refine x_iconst (v := 1) hC dX10_isKeyFor_34 (by decide) ?_
      refine x_goto (t := 39) hC dX10_isKeyFor_35 (by decide) ?_
      exact x_zret hC hr dX10_isKeyFor_39 rfl h
def vc_X10_isReady (g : xG) (v1 : Int32) (M : xM) (P : Int32 → xM → Prop) : Prop := (mi_X10_singersOf g v1 M (fun r1 N2 => (mi_X10_there g N2 (fun r3 N4 => ((¬ (r1 &&& (r3 ^^^ (-1 : Int32))) = 0 → P (0 : Int32) N4) ∧ ((r1 &&& (r3 ^^^ (-1 : Int32))) = 0 → P (1 : Int32) N4))))))
set_option maxRecDepth 100000 in
set_option maxHeartbeats 4000000 in
theorem wk_X10_isReady {g : xG} (v1 : Int32) (M : xM) (P : Int32 → xM → Prop) (h0 : vc_X10_isReady g v1 M P ) : mi_X10_isReady g v1 M P := by
  refine x_startI (as := [.ref (x_a g 193), .int v1]) (cc := cX10_isReady) (n := 2) (ret := (some .boolean)) (own := RX10) (by decide) rfl rfl (Nat.le_of_ble_eq_true rfl) (fun x hC hr => ?_)
  have h := h0
  unfold vc_X10_isReady at h
  refine x_aload_n (i := 0) (q := 0) hC dX10_isReady_0 rfl rfl ?_
  refine x_iload_n (i := 1) (q := 1) hC dX10_isReady_1 rfl rfl ?_
  refine x_callVi (q := (RX10, TX10, 12)) (As := [.int v1]) hC xo_193 rfl h gX10_isReady_X10_singersOf rfl rfl rfl hy_X10_singersOf ⟨Nat.le_of_ble_eq_true rfl, Nat.le_of_ble_eq_true rfl⟩ rfl (Nat.le_of_ble_eq_true rfl) rfl dX10_isReady_2 (fun r1 N2 h => ?_)
  refine x_aload_n (i := 0) (q := 0) hC dX10_isReady_5 rfl rfl ?_
  refine x_callVi (q := (RX10, TX10, 12)) (As := []) hC xo_193 rfl h gX10_isReady_X10_there rfl rfl rfl hy_X10_there ⟨Nat.le_of_ble_eq_true rfl, Nat.le_of_ble_eq_true rfl⟩ rfl (Nat.le_of_ble_eq_true rfl) rfl dX10_isReady_6 (fun r3 N4 h => ?_)
  refine x_iconst (v := -1) hC dX10_isReady_9 (by decide) ?_
  refine x_ixor hC dX10_isReady_10 ?_
  refine x_iand hC dX10_isReady_11 ?_
  refine x_if_ne (t := 19) hC dX10_isReady_12 (by decide) (fun q => ?_) (fun q => ?_)
  · replace h := h.1 q
    refine x_iconst (v := 0) hC dX10_isReady_19 (by decide) ?_
    exact x_zret hC hr dX10_isReady_20 rfl h
  · replace h := h.2 q
    refine x_iconst (v := 1) hC dX10_isReady_15 (by decide) ?_
    refine x_goto (t := 20) hC dX10_isReady_16 (by decide) ?_
    exact x_zret hC hr dX10_isReady_20 rfl h
theorem kf_X10_isFresh_7 : x_okf wsX10_isFresh RX10 7 10 0 = true := by decide +kernel
def vc_X10_isFresh (g : xG) (v1 : Int32) (M : xM) (P : Int32 → xM → Prop) : Prop := (mi_X10_singersOf g v1 M (fun r1 N2 => (vp_in (3 : Int32) 239 ∧ ((¬ (r1 &&& (N2 194 ((3 : Int32)).toNatClampNeg)) = 0 → P (0 : Int32) N2) ∧ ((r1 &&& (N2 194 ((3 : Int32)).toNatClampNeg)) = 0 → P (1 : Int32) N2)))))
set_option maxRecDepth 100000 in
set_option maxHeartbeats 4000000 in
theorem wk_X10_isFresh {g : xG} (v1 : Int32) (M : xM) (P : Int32 → xM → Prop) (h0 : vc_X10_isFresh g v1 M P ) : mi_X10_isFresh g v1 M P := by
  refine x_startI (as := [.ref (x_a g 193), .int v1]) (cc := cX10_isFresh) (n := 2) (ret := (some .boolean)) (own := RX10) (by decide) rfl rfl (Nat.le_of_ble_eq_true rfl) (fun x hC hr => ?_)
  have h := h0
  unfold vc_X10_isFresh at h
  refine x_aload_n (i := 0) (q := 0) hC dX10_isFresh_0 rfl rfl ?_
  refine x_iload_n (i := 1) (q := 1) hC dX10_isFresh_1 rfl rfl ?_
  refine x_callVi (q := (RX10, TX10, 12)) (As := [.int v1]) hC xo_193 rfl h gX10_isFresh_X10_singersOf rfl rfl rfl hy_X10_singersOf ⟨Nat.le_of_ble_eq_true rfl, Nat.le_of_ble_eq_true rfl⟩ rfl (Nat.le_of_ble_eq_true rfl) rfl dX10_isFresh_2 (fun r1 N2 h => ?_)
  refine x_aload_n (i := 0) (q := 0) hC dX10_isFresh_5 rfl rfl ?_
  refine x_getr (k := 0) (r := 194) hC xo_193 rfl kf_X10_isFresh_7 dX10_isFresh_6 ?_
  refine x_iconst (v := 3) hC dX10_isFresh_9 (by decide) ?_
  refine x_iald (len := 239) hC xa_194 h.1 dX10_isFresh_10 ?_
  replace h := h.2
  refine x_iand hC dX10_isFresh_11 ?_
  refine x_if_ne (t := 19) hC dX10_isFresh_12 (by decide) (fun q => ?_) (fun q => ?_)
  · replace h := h.1 q
    refine x_iconst (v := 0) hC dX10_isFresh_19 (by decide) ?_
    exact x_zret hC hr dX10_isFresh_20 rfl h
  · replace h := h.2 q
    refine x_iconst (v := 1) hC dX10_isFresh_15 (by decide) ?_
    refine x_goto (t := 20) hC dX10_isFresh_16 (by decide) ?_
    exact x_zret hC hr dX10_isFresh_20 rfl h
def vc_X10_turnsFor (g : xG) (v1 : Int32) (M : xM) (P : Int32 → xM → Prop) : Prop := (mi_X10_wishPart g v1 (0 : Int32) M (fun r1 N2 => (mi_X10_singerPart g r1 (3 : Int32) N2 (fun r3 N4 => (mi_X10_wishPart g v1 (1 : Int32) N4 (fun r5 N6 => ((¬ r5 = (-6 : Int32) → (mi_X10_wishPart g v1 (1 : Int32) N6 (fun r7 N8 => (mi_X10_singerPart g r7 (3 : Int32) N8 (fun r9 N10 => ((r3 ≤ r9 → P r9 N10) ∧ (¬ (r3 ≤ r9) → P r3 N10))))))) ∧ (r5 = (-6 : Int32) → ((r3 ≤ (0 : Int32) → P (0 : Int32) N6) ∧ (¬ (r3 ≤ (0 : Int32)) → P r3 N6))))))))))
set_option maxRecDepth 100000 in
set_option maxHeartbeats 4000000 in
theorem wk_X10_turnsFor {g : xG} (v1 : Int32) (M : xM) (P : Int32 → xM → Prop) (h0 : vc_X10_turnsFor g v1 M P ) : mi_X10_turnsFor g v1 M P := by
  refine x_startI (as := [.ref (x_a g 193), .int v1]) (cc := cX10_turnsFor) (n := 4) (ret := (some .int)) (own := RX10) (by decide) rfl rfl (Nat.le_of_ble_eq_true rfl) (fun x hC hr => ?_)
  have h := h0
  unfold vc_X10_turnsFor at h
  refine x_aload_n (i := 0) (q := 0) hC dX10_turnsFor_0 rfl rfl ?_
  refine x_aload_n (i := 0) (q := 0) hC dX10_turnsFor_1 rfl rfl ?_
  refine x_iload_n (i := 1) (q := 1) hC dX10_turnsFor_2 rfl rfl ?_
  refine x_iconst (v := 0) hC dX10_turnsFor_3 (by decide) ?_
  refine x_callVi (q := (RX10, TX10, 12)) (As := [.int v1, .int (0 : Int32)]) hC xo_193 rfl h gX10_turnsFor_X10_wishPart rfl rfl rfl hy_X10_wishPart ⟨Nat.le_of_ble_eq_true rfl, Nat.le_of_ble_eq_true rfl⟩ rfl (Nat.le_of_ble_eq_true rfl) rfl dX10_turnsFor_4 (fun r1 N2 h => ?_)
  refine x_iconst (v := 3) hC dX10_turnsFor_7 (by decide) ?_
  refine x_callVi (q := (RX10, TX10, 12)) (As := [.int r1, .int (3 : Int32)]) hC xo_193 rfl h gX10_turnsFor_X10_singerPart rfl rfl rfl hy_X10_singerPart ⟨Nat.le_of_ble_eq_true rfl, Nat.le_of_ble_eq_true rfl⟩ rfl (Nat.le_of_ble_eq_true rfl) rfl dX10_turnsFor_8 (fun r3 N4 h => ?_)
  refine x_istore_n (i := 2) (ls' := [(2, .int r3), (0, .ref (x_a g 193)), (1, .int v1)]) hC dX10_turnsFor_11 rfl (by decide) rfl ?_
  refine x_aload_n (i := 0) (q := 1) hC dX10_turnsFor_12 rfl rfl ?_
  refine x_iload_n (i := 1) (q := 2) hC dX10_turnsFor_13 rfl rfl ?_
  refine x_iconst (v := 1) hC dX10_turnsFor_14 (by decide) ?_
  refine x_callVi (q := (RX10, TX10, 12)) (As := [.int v1, .int (1 : Int32)]) hC xo_193 rfl h gX10_turnsFor_X10_wishPart rfl rfl rfl hy_X10_wishPart ⟨Nat.le_of_ble_eq_true rfl, Nat.le_of_ble_eq_true rfl⟩ rfl (Nat.le_of_ble_eq_true rfl) rfl dX10_turnsFor_15 (fun r5 N6 h => ?_)
  refine x_bipush (v := -6) hC dX10_turnsFor_18 (by decide) ?_
  refine x_icmp_ne (t := 27) hC dX10_turnsFor_20 (by decide) (fun q => ?_) (fun q => ?_)
  · replace h := h.1 q
    refine x_aload_n (i := 0) (q := 1) hC dX10_turnsFor_27 rfl rfl ?_
    refine x_aload_n (i := 0) (q := 1) hC dX10_turnsFor_28 rfl rfl ?_
    refine x_iload_n (i := 1) (q := 2) hC dX10_turnsFor_29 rfl rfl ?_
    refine x_iconst (v := 1) hC dX10_turnsFor_30 (by decide) ?_
    refine x_callVi (q := (RX10, TX10, 12)) (As := [.int v1, .int (1 : Int32)]) hC xo_193 rfl h gX10_turnsFor_X10_wishPart rfl rfl rfl hy_X10_wishPart ⟨Nat.le_of_ble_eq_true rfl, Nat.le_of_ble_eq_true rfl⟩ rfl (Nat.le_of_ble_eq_true rfl) rfl dX10_turnsFor_31 (fun r7 N8 h => ?_)
    refine x_iconst (v := 3) hC dX10_turnsFor_34 (by decide) ?_
    refine x_callVi (q := (RX10, TX10, 12)) (As := [.int r7, .int (3 : Int32)]) hC xo_193 rfl h gX10_turnsFor_X10_singerPart rfl rfl rfl hy_X10_singerPart ⟨Nat.le_of_ble_eq_true rfl, Nat.le_of_ble_eq_true rfl⟩ rfl (Nat.le_of_ble_eq_true rfl) rfl dX10_turnsFor_35 (fun r9 N10 h => ?_)
    refine x_istore_n (i := 3) (ls' := [(3, .int r9), (2, .int r3), (0, .ref (x_a g 193)), (1, .int v1)]) hC dX10_turnsFor_38 rfl (by decide) rfl ?_
    refine x_iload_n (i := 2) (q := 1) hC dX10_turnsFor_39 rfl rfl ?_
    refine x_iload_n (i := 3) (q := 0) hC dX10_turnsFor_40 rfl rfl ?_
    refine x_icmp_le (t := 48) hC dX10_turnsFor_41 (by decide) (fun q => ?_) (fun q => ?_)
    · replace h := h.1 q
      refine x_iload_n (i := 3) (q := 0) hC dX10_turnsFor_48 rfl rfl ?_
      exact x_iret hC hr dX10_turnsFor_49 h
    · replace h := h.2 q
      refine x_iload_n (i := 2) (q := 1) hC dX10_turnsFor_44 rfl rfl ?_
      refine x_goto (t := 49) hC dX10_turnsFor_45 (by decide) ?_
      exact x_iret hC hr dX10_turnsFor_49 h
  · replace h := h.2 q
    refine x_iconst (v := 0) hC dX10_turnsFor_23 (by decide) ?_
    refine x_goto (t := 38) hC dX10_turnsFor_24 (by decide) ?_
    refine x_istore_n (i := 3) (ls' := [(3, .int (0 : Int32)), (2, .int r3), (0, .ref (x_a g 193)), (1, .int v1)]) hC dX10_turnsFor_38 rfl (by decide) rfl ?_
    refine x_iload_n (i := 2) (q := 1) hC dX10_turnsFor_39 rfl rfl ?_
    refine x_iload_n (i := 3) (q := 0) hC dX10_turnsFor_40 rfl rfl ?_
    refine x_icmp_le (t := 48) hC dX10_turnsFor_41 (by decide) (fun q => ?_) (fun q => ?_)
    · replace h := h.1 q
      refine x_iload_n (i := 3) (q := 0) hC dX10_turnsFor_48 rfl rfl ?_
      exact x_iret hC hr dX10_turnsFor_49 h
    · replace h := h.2 q
      refine x_iload_n (i := 2) (q := 1) hC dX10_turnsFor_44 rfl rfl ?_
      refine x_goto (t := 49) hC dX10_turnsFor_45 (by decide) ?_
      exact x_iret hC hr dX10_turnsFor_49 h
def vc_X10_nextWish (g : xG) (M : xM) (P : Int32 → xM → Prop) : Prop := (mi_X10_nextOf g (1 : Int32) M (fun r1 N2 => ((¬ r1 = (-6 : Int32) → P r1 N2) ∧ (r1 = (-6 : Int32) → (mi_X10_nextOf g (0 : Int32) N2 (fun r3 N4 => P r3 N4))))))
set_option maxRecDepth 100000 in
set_option maxHeartbeats 4000000 in
theorem wk_X10_nextWish {g : xG}  (M : xM) (P : Int32 → xM → Prop) (h0 : vc_X10_nextWish g M P ) : mi_X10_nextWish g M P := by
  refine x_startI (as := [.ref (x_a g 193)]) (cc := cX10_nextWish) (n := 2) (ret := (some .int)) (own := RX10) (by decide) rfl rfl (Nat.le_of_ble_eq_true rfl) (fun x hC hr => ?_)
  have h := h0
  unfold vc_X10_nextWish at h
  refine x_aload_n (i := 0) (q := 0) hC dX10_nextWish_0 rfl rfl ?_
  refine x_iconst (v := 1) hC dX10_nextWish_1 (by decide) ?_
  refine x_callVi (q := (RX10, TX10, 12)) (As := [.int (1 : Int32)]) hC xo_193 rfl h gX10_nextWish_X10_nextOf rfl rfl rfl hy_X10_nextOf ⟨Nat.le_of_ble_eq_true rfl, Nat.le_of_ble_eq_true rfl⟩ rfl (Nat.le_of_ble_eq_true rfl) rfl dX10_nextWish_2 (fun r1 N2 h => ?_)
  refine x_istore_n (i := 1) (ls' := [(1, .int r1), (0, .ref (x_a g 193))]) hC dX10_nextWish_5 rfl (by decide) rfl ?_
  refine x_iload_n (i := 1) (q := 0) hC dX10_nextWish_6 rfl rfl ?_
  refine x_bipush (v := -6) hC dX10_nextWish_7 (by decide) ?_
  refine x_icmp_ne (t := 20) hC dX10_nextWish_9 (by decide) (fun q => ?_) (fun q => ?_)
  · replace h := h.1 q
    refine x_iload_n (i := 1) (q := 0) hC dX10_nextWish_20 rfl rfl ?_
    exact x_iret hC hr dX10_nextWish_21 h
  · replace h := h.2 q
    refine x_aload_n (i := 0) (q := 1) hC dX10_nextWish_12 rfl rfl ?_
    refine x_iconst (v := 0) hC dX10_nextWish_13 (by decide) ?_
    refine x_callVi (q := (RX10, TX10, 12)) (As := [.int (0 : Int32)]) hC xo_193 rfl h gX10_nextWish_X10_nextOf rfl rfl rfl hy_X10_nextOf ⟨Nat.le_of_ble_eq_true rfl, Nat.le_of_ble_eq_true rfl⟩ rfl (Nat.le_of_ble_eq_true rfl) rfl dX10_nextWish_14 (fun r3 N4 h => ?_)
    refine x_goto (t := 21) hC dX10_nextWish_17 (by decide) ?_
    exact x_iret hC hr dX10_nextWish_21 h
def vc_X10_leave (g : xG) (v1 : Int32) (v2 : Int32) (M : xM) (P : Int32 → xM → Prop) : Prop := (mi_X10_isSinger g v1 M (fun r1 N2 => ((¬ r1 = 0 → ((v2 = 0 → (mi_X10_singerPart g v1 (2 : Int32) N2 (fun r3 N4 => ((¬ r3 = (1 : Int32) → (mi_X10_record g N4 (fun N5 => (mi_X10_setSinger g v1 (2 : Int32) (1 : Int32) N5 (fun N6 => (mi_X10_there g N6 (fun r7 N8 => (mi_X10_bits g r7 N8 (fun r9 N10 => P r9 N10))))))))) ∧ (r3 = (1 : Int32) → P (-5 : Int32) N4))))) ∧ (¬ (v2 = 0) → (mi_X10_singerPart g v1 (2 : Int32) N2 (fun r11 N12 => ((¬ r11 = (0 : Int32) → (mi_X10_record g N12 (fun N13 => (mi_X10_setSinger g v1 (2 : Int32) (0 : Int32) N13 (fun N14 => (mi_X10_there g N14 (fun r15 N16 => (mi_X10_bits g r15 N16 (fun r17 N18 => P r17 N18))))))))) ∧ (r11 = (0 : Int32) → P (-5 : Int32) N12))))))) ∧ (r1 = 0 → P (-1 : Int32) N2))))
set_option maxRecDepth 100000 in
set_option maxHeartbeats 4000000 in
theorem wk_X10_leave {g : xG} (v1 : Int32) (v2 : Int32) (M : xM) (P : Int32 → xM → Prop) (h0 : vc_X10_leave g v1 v2 M P ) : mi_X10_leave g v1 v2 M P := by
  refine x_startI (as := [.ref (x_a g 193), .int v1, .int v2]) (cc := cX10_leave) (n := 4) (ret := (some .int)) (own := RX10) (by decide) rfl rfl (Nat.le_of_ble_eq_true rfl) (fun x hC hr => ?_)
  have h := h0
  unfold vc_X10_leave at h
  refine x_aload_n (i := 0) (q := 0) hC dX10_leave_0 rfl rfl ?_
  refine x_iload_n (i := 1) (q := 1) hC dX10_leave_1 rfl rfl ?_
  refine x_callVi (q := (RX10, TX10, 12)) (As := [.int v1]) hC xo_193 rfl h gX10_leave_X10_isSinger rfl rfl rfl hy_X10_isSinger ⟨Nat.le_of_ble_eq_true rfl, Nat.le_of_ble_eq_true rfl⟩ rfl (Nat.le_of_ble_eq_true rfl) rfl dX10_leave_2 (fun r1 N2 h => ?_)
  refine x_if_ne (t := 10) hC dX10_leave_5 (by decide) (fun q => ?_) (fun q => ?_)
  · replace h := h.1 q
    refine x_iload_n (i := 2) (q := 2) hC dX10_leave_10 rfl rfl ?_
    refine x_if_eq (t := 18) hC dX10_leave_11 (by decide) (fun q => ?_) (fun q => ?_)
    · replace h := h.1 q
      refine x_iconst (v := 1) hC dX10_leave_18 (by decide) ?_
      refine x_istore_n (i := 3) (ls' := [(3, .int (1 : Int32)), (0, .ref (x_a g 193)), (1, .int v1), (2, .int v2)]) hC dX10_leave_19 rfl (by decide) rfl ?_
      refine x_aload_n (i := 0) (q := 1) hC dX10_leave_20 rfl rfl ?_
      refine x_iload_n (i := 1) (q := 2) hC dX10_leave_21 rfl rfl ?_
      refine x_iconst (v := 2) hC dX10_leave_22 (by decide) ?_
      refine x_callVi (q := (RX10, TX10, 12)) (As := [.int v1, .int (2 : Int32)]) hC xo_193 rfl h gX10_leave_X10_singerPart rfl rfl rfl hy_X10_singerPart ⟨Nat.le_of_ble_eq_true rfl, Nat.le_of_ble_eq_true rfl⟩ rfl (Nat.le_of_ble_eq_true rfl) rfl dX10_leave_23 (fun r3 N4 h => ?_)
      refine x_iload_n (i := 3) (q := 0) hC dX10_leave_26 rfl rfl ?_
      refine x_icmp_ne (t := 33) hC dX10_leave_27 (by decide) (fun q => ?_) (fun q => ?_)
      · replace h := h.1 q
        refine x_aload_n (i := 0) (q := 1) hC dX10_leave_33 rfl rfl ?_
        refine x_callVv (q := (RX10, TX10, 12)) (As := []) hC xo_193 rfl h gX10_leave_X10_record rfl rfl rfl hy_X10_record ⟨Nat.le_of_ble_eq_true rfl, Nat.le_of_ble_eq_true rfl⟩ rfl (Nat.le_of_ble_eq_true rfl) rfl dX10_leave_34 (fun N5 h => ?_)
        refine x_aload_n (i := 0) (q := 1) hC dX10_leave_37 rfl rfl ?_
        refine x_iload_n (i := 1) (q := 2) hC dX10_leave_38 rfl rfl ?_
        refine x_iconst (v := 2) hC dX10_leave_39 (by decide) ?_
        refine x_iload_n (i := 3) (q := 0) hC dX10_leave_40 rfl rfl ?_
        refine x_callVv (q := (RX10, TX10, 12)) (As := [.int v1, .int (2 : Int32), .int (1 : Int32)]) hC xo_193 rfl h gX10_leave_X10_setSinger rfl rfl rfl hy_X10_setSinger ⟨Nat.le_of_ble_eq_true rfl, Nat.le_of_ble_eq_true rfl⟩ rfl (Nat.le_of_ble_eq_true rfl) rfl dX10_leave_41 (fun N6 h => ?_)
        refine x_aload_n (i := 0) (q := 1) hC dX10_leave_44 rfl rfl ?_
        refine x_callVi (q := (RX10, TX10, 12)) (As := []) hC xo_193 rfl h gX10_leave_X10_there rfl rfl rfl hy_X10_there ⟨Nat.le_of_ble_eq_true rfl, Nat.le_of_ble_eq_true rfl⟩ rfl (Nat.le_of_ble_eq_true rfl) rfl dX10_leave_45 (fun r7 N8 h => ?_)
        refine x_callSi (As := [.int r7]) hC h gX10_leave_X10_bits rfl rfl rfl hy_X10_bits.2 ⟨Nat.le_of_ble_eq_true rfl, Nat.le_of_ble_eq_true rfl⟩ rfl (Nat.le_of_ble_eq_true rfl) rfl dX10_leave_48 (fun r9 N10 h => ?_)
        exact x_iret hC hr dX10_leave_51 h
      · replace h := h.2 q
        refine x_bipush (v := -5) hC dX10_leave_30 (by decide) ?_
        exact x_iret hC hr dX10_leave_32 h
    · replace h := h.2 q
      refine x_iconst (v := 0) hC dX10_leave_14 (by decide) ?_
      refine x_goto (t := 19) hC dX10_leave_15 (by decide) ?_
      refine x_istore_n (i := 3) (ls' := [(3, .int (0 : Int32)), (0, .ref (x_a g 193)), (1, .int v1), (2, .int v2)]) hC dX10_leave_19 rfl (by decide) rfl ?_
      refine x_aload_n (i := 0) (q := 1) hC dX10_leave_20 rfl rfl ?_
      refine x_iload_n (i := 1) (q := 2) hC dX10_leave_21 rfl rfl ?_
      refine x_iconst (v := 2) hC dX10_leave_22 (by decide) ?_
      refine x_callVi (q := (RX10, TX10, 12)) (As := [.int v1, .int (2 : Int32)]) hC xo_193 rfl h gX10_leave_X10_singerPart rfl rfl rfl hy_X10_singerPart ⟨Nat.le_of_ble_eq_true rfl, Nat.le_of_ble_eq_true rfl⟩ rfl (Nat.le_of_ble_eq_true rfl) rfl dX10_leave_23 (fun r11 N12 h => ?_)
      refine x_iload_n (i := 3) (q := 0) hC dX10_leave_26 rfl rfl ?_
      refine x_icmp_ne (t := 33) hC dX10_leave_27 (by decide) (fun q => ?_) (fun q => ?_)
      · replace h := h.1 q
        refine x_aload_n (i := 0) (q := 1) hC dX10_leave_33 rfl rfl ?_
        refine x_callVv (q := (RX10, TX10, 12)) (As := []) hC xo_193 rfl h gX10_leave_X10_record rfl rfl rfl hy_X10_record ⟨Nat.le_of_ble_eq_true rfl, Nat.le_of_ble_eq_true rfl⟩ rfl (Nat.le_of_ble_eq_true rfl) rfl dX10_leave_34 (fun N13 h => ?_)
        refine x_aload_n (i := 0) (q := 1) hC dX10_leave_37 rfl rfl ?_
        refine x_iload_n (i := 1) (q := 2) hC dX10_leave_38 rfl rfl ?_
        refine x_iconst (v := 2) hC dX10_leave_39 (by decide) ?_
        refine x_iload_n (i := 3) (q := 0) hC dX10_leave_40 rfl rfl ?_
        refine x_callVv (q := (RX10, TX10, 12)) (As := [.int v1, .int (2 : Int32), .int (0 : Int32)]) hC xo_193 rfl h gX10_leave_X10_setSinger rfl rfl rfl hy_X10_setSinger ⟨Nat.le_of_ble_eq_true rfl, Nat.le_of_ble_eq_true rfl⟩ rfl (Nat.le_of_ble_eq_true rfl) rfl dX10_leave_41 (fun N14 h => ?_)
        refine x_aload_n (i := 0) (q := 1) hC dX10_leave_44 rfl rfl ?_
        refine x_callVi (q := (RX10, TX10, 12)) (As := []) hC xo_193 rfl h gX10_leave_X10_there rfl rfl rfl hy_X10_there ⟨Nat.le_of_ble_eq_true rfl, Nat.le_of_ble_eq_true rfl⟩ rfl (Nat.le_of_ble_eq_true rfl) rfl dX10_leave_45 (fun r15 N16 h => ?_)
        refine x_callSi (As := [.int r15]) hC h gX10_leave_X10_bits rfl rfl rfl hy_X10_bits.2 ⟨Nat.le_of_ble_eq_true rfl, Nat.le_of_ble_eq_true rfl⟩ rfl (Nat.le_of_ble_eq_true rfl) rfl dX10_leave_48 (fun r17 N18 h => ?_)
        exact x_iret hC hr dX10_leave_51 h
      · replace h := h.2 q
        refine x_bipush (v := -5) hC dX10_leave_30 (by decide) ?_
        exact x_iret hC hr dX10_leave_32 h
  · replace h := h.2 q
    refine x_iconst (v := -1) hC dX10_leave_8 (by decide) ?_
    exact x_iret hC hr dX10_leave_9 h
def vc_X10_areSingers (g : xG) (v1 : Int32) (v2 : Int32) (M : xM) (P : Int32 → xM → Prop) : Prop := (mi_X10_isSinger g v1 M (fun r1 N2 => ((r1 = 0 → P (0 : Int32) N2) ∧ (¬ (r1 = 0) → ((v2 = (-6 : Int32) → P (1 : Int32) N2) ∧ (¬ (v2 = (-6 : Int32)) → (mi_X10_isSinger g v2 N2 (fun r3 N4 => ((r3 = 0 → P (0 : Int32) N4) ∧ (¬ (r3 = 0) → P (1 : Int32) N4))))))))))
set_option maxRecDepth 100000 in
set_option maxHeartbeats 4000000 in
theorem wk_X10_areSingers {g : xG} (v1 : Int32) (v2 : Int32) (M : xM) (P : Int32 → xM → Prop) (h0 : vc_X10_areSingers g v1 v2 M P ) : mi_X10_areSingers g v1 v2 M P := by
  refine x_startI (as := [.ref (x_a g 193), .int v1, .int v2]) (cc := cX10_areSingers) (n := 3) (ret := (some .boolean)) (own := RX10) (by decide) rfl rfl (Nat.le_of_ble_eq_true rfl) (fun x hC hr => ?_)
  have h := h0
  unfold vc_X10_areSingers at h
  refine x_aload_n (i := 0) (q := 0) hC dX10_areSingers_0 rfl rfl ?_
  refine x_iload_n (i := 1) (q := 1) hC dX10_areSingers_1 rfl rfl ?_
  refine x_callVi (q := (RX10, TX10, 12)) (As := [.int v1]) hC xo_193 rfl h gX10_areSingers_X10_isSinger rfl rfl rfl hy_X10_isSinger ⟨Nat.le_of_ble_eq_true rfl, Nat.le_of_ble_eq_true rfl⟩ rfl (Nat.le_of_ble_eq_true rfl) rfl dX10_areSingers_2 (fun r1 N2 h => ?_)
  refine x_if_eq (t := 26) hC dX10_areSingers_5 (by decide) (fun q => ?_) (fun q => ?_)
  · replace h := h.1 q
    refine x_iconst (v := 0) hC dX10_areSingers_26 (by decide) ?_
    exact x_zret hC hr dX10_areSingers_27 rfl h
  · replace h := h.2 q
    refine x_iload_n (i := 2) (q := 2) hC dX10_areSingers_8 rfl rfl ?_
    refine x_bipush (v := -6) hC dX10_areSingers_9 (by decide) ?_
    refine x_icmp_eq (t := 22) hC dX10_areSingers_11 (by decide) (fun q => ?_) (fun q => ?_)
    · replace h := h.1 q
      refine x_iconst (v := 1) hC dX10_areSingers_22 (by decide) ?_
      refine x_goto (t := 27) hC dX10_areSingers_23 (by decide) ?_
      exact x_zret hC hr dX10_areSingers_27 rfl h
    · replace h := h.2 q
      refine x_aload_n (i := 0) (q := 0) hC dX10_areSingers_14 rfl rfl ?_
      refine x_iload_n (i := 2) (q := 2) hC dX10_areSingers_15 rfl rfl ?_
      refine x_callVi (q := (RX10, TX10, 12)) (As := [.int v2]) hC xo_193 rfl h gX10_areSingers_X10_isSinger rfl rfl rfl hy_X10_isSinger ⟨Nat.le_of_ble_eq_true rfl, Nat.le_of_ble_eq_true rfl⟩ rfl (Nat.le_of_ble_eq_true rfl) rfl dX10_areSingers_16 (fun r3 N4 h => ?_)
      refine x_if_eq (t := 26) hC dX10_areSingers_19 (by decide) (fun q => ?_) (fun q => ?_)
      · replace h := h.1 q
        refine x_iconst (v := 0) hC dX10_areSingers_26 (by decide) ?_
        exact x_zret hC hr dX10_areSingers_27 rfl h
      · replace h := h.2 q
        refine x_iconst (v := 1) hC dX10_areSingers_22 (by decide) ?_
        refine x_goto (t := 27) hC dX10_areSingers_23 (by decide) ?_
        exact x_zret hC hr dX10_areSingers_27 rfl h
def vc_X10_wish (g : xG) (v1 : Int32) (v2 : Int32) (v3 : Int32) (M : xM) (P : Int32 → xM → Prop) : Prop := (mi_X10_whyNotWished g v1 v2 v3 M (fun r1 N2 => ((0 ≤ r1 → (mi_X10_record g N2 (fun N3 => (mi_X10_wished g v1 v2 v3 N3 (fun r4 N5 => P r4 N5))))) ∧ (¬ (0 ≤ r1) → P r1 N2))))
set_option maxRecDepth 100000 in
set_option maxHeartbeats 4000000 in
theorem wk_X10_wish {g : xG} (v1 : Int32) (v2 : Int32) (v3 : Int32) (M : xM) (P : Int32 → xM → Prop) (h0 : vc_X10_wish g v1 v2 v3 M P ) : mi_X10_wish g v1 v2 v3 M P := by
  refine x_startI (as := [.ref (x_a g 193), .int v1, .int v2, .int v3]) (cc := cX10_wish) (n := 5) (ret := (some .int)) (own := RX10) (by decide) rfl rfl (Nat.le_of_ble_eq_true rfl) (fun x hC hr => ?_)
  have h := h0
  unfold vc_X10_wish at h
  refine x_aload_n (i := 0) (q := 0) hC dX10_wish_0 rfl rfl ?_
  refine x_iload_n (i := 1) (q := 1) hC dX10_wish_1 rfl rfl ?_
  refine x_iload_n (i := 2) (q := 2) hC dX10_wish_2 rfl rfl ?_
  refine x_iload_n (i := 3) (q := 3) hC dX10_wish_3 rfl rfl ?_
  refine x_callVi (q := (RX10, TX10, 12)) (As := [.int v1, .int v2, .int v3]) hC xo_193 rfl h gX10_wish_X10_whyNotWished rfl rfl rfl hy_X10_whyNotWished ⟨Nat.le_of_ble_eq_true rfl, Nat.le_of_ble_eq_true rfl⟩ rfl (Nat.le_of_ble_eq_true rfl) rfl dX10_wish_4 (fun r1 N2 h => ?_)
  refine x_istore (ls' := [(4, .int r1), (0, .ref (x_a g 193)), (1, .int v1), (2, .int v2), (3, .int v3)]) hC dX10_wish_7 (by decide) rfl ?_
  refine x_iload (q := 0) hC dX10_wish_9 rfl ?_
  refine x_if_ge (t := 17) hC dX10_wish_11 (by decide) (fun q => ?_) (fun q => ?_)
  · replace h := h.1 q
    refine x_aload_n (i := 0) (q := 1) hC dX10_wish_17 rfl rfl ?_
    refine x_callVv (q := (RX10, TX10, 12)) (As := []) hC xo_193 rfl h gX10_wish_X10_record rfl rfl rfl hy_X10_record ⟨Nat.le_of_ble_eq_true rfl, Nat.le_of_ble_eq_true rfl⟩ rfl (Nat.le_of_ble_eq_true rfl) rfl dX10_wish_18 (fun N3 h => ?_)
    refine x_aload_n (i := 0) (q := 1) hC dX10_wish_21 rfl rfl ?_
    refine x_iload_n (i := 1) (q := 2) hC dX10_wish_22 rfl rfl ?_
    refine x_iload_n (i := 2) (q := 3) hC dX10_wish_23 rfl rfl ?_
    refine x_iload_n (i := 3) (q := 4) hC dX10_wish_24 rfl rfl ?_
    refine x_callVi (q := (RX10, TX10, 12)) (As := [.int v1, .int v2, .int v3]) hC xo_193 rfl h gX10_wish_X10_wished rfl rfl rfl hy_X10_wished ⟨Nat.le_of_ble_eq_true rfl, Nat.le_of_ble_eq_true rfl⟩ rfl (Nat.le_of_ble_eq_true rfl) rfl dX10_wish_25 (fun r4 N5 h => ?_)
    exact x_iret hC hr dX10_wish_28 h
  · replace h := h.2 q
    refine x_iload (q := 0) hC dX10_wish_14 rfl ?_
    exact x_iret hC hr dX10_wish_16 h
theorem kf_X10_takeBack_7 : x_okf wsX10_takeBack RX10 7 10 0 = true := by decide +kernel
def vc_X10_takeBack (g : xG) (v1 : Int32) (M : xM) (P : Int32 → xM → Prop) : Prop := (mi_X10_isWish g v1 M (fun r1 N2 => ((¬ r1 = 0 → (mi_X10_record g N2 (fun N3 => (mi_X10_remove g v1 N3 (fun N4 => (vp_in (2 : Int32) 239 ∧ P (N4 194 ((2 : Int32)).toNatClampNeg) N4)))))) ∧ (r1 = 0 → P (-1 : Int32) N2))))
set_option maxRecDepth 100000 in
set_option maxHeartbeats 4000000 in
theorem wk_X10_takeBack {g : xG} (v1 : Int32) (M : xM) (P : Int32 → xM → Prop) (h0 : vc_X10_takeBack g v1 M P ) : mi_X10_takeBack g v1 M P := by
  refine x_startI (as := [.ref (x_a g 193), .int v1]) (cc := cX10_takeBack) (n := 2) (ret := (some .int)) (own := RX10) (by decide) rfl rfl (Nat.le_of_ble_eq_true rfl) (fun x hC hr => ?_)
  have h := h0
  unfold vc_X10_takeBack at h
  refine x_aload_n (i := 0) (q := 0) hC dX10_takeBack_0 rfl rfl ?_
  refine x_iload_n (i := 1) (q := 1) hC dX10_takeBack_1 rfl rfl ?_
  refine x_callVi (q := (RX10, TX10, 12)) (As := [.int v1]) hC xo_193 rfl h gX10_takeBack_X10_isWish rfl rfl rfl hy_X10_isWish ⟨Nat.le_of_ble_eq_true rfl, Nat.le_of_ble_eq_true rfl⟩ rfl (Nat.le_of_ble_eq_true rfl) rfl dX10_takeBack_2 (fun r1 N2 h => ?_)
  refine x_if_ne (t := 10) hC dX10_takeBack_5 (by decide) (fun q => ?_) (fun q => ?_)
  · replace h := h.1 q
    refine x_aload_n (i := 0) (q := 0) hC dX10_takeBack_10 rfl rfl ?_
    refine x_callVv (q := (RX10, TX10, 12)) (As := []) hC xo_193 rfl h gX10_takeBack_X10_record rfl rfl rfl hy_X10_record ⟨Nat.le_of_ble_eq_true rfl, Nat.le_of_ble_eq_true rfl⟩ rfl (Nat.le_of_ble_eq_true rfl) rfl dX10_takeBack_11 (fun N3 h => ?_)
    refine x_aload_n (i := 0) (q := 0) hC dX10_takeBack_14 rfl rfl ?_
    refine x_iload_n (i := 1) (q := 1) hC dX10_takeBack_15 rfl rfl ?_
    refine x_callVv (q := (RX10, TX10, 12)) (As := [.int v1]) hC xo_193 rfl h gX10_takeBack_X10_remove rfl rfl rfl hy_X10_remove ⟨Nat.le_of_ble_eq_true rfl, Nat.le_of_ble_eq_true rfl⟩ rfl (Nat.le_of_ble_eq_true rfl) rfl dX10_takeBack_16 (fun N4 h => ?_)
    refine x_aload_n (i := 0) (q := 0) hC dX10_takeBack_19 rfl rfl ?_
    refine x_getr (k := 0) (r := 194) hC xo_193 rfl kf_X10_takeBack_7 dX10_takeBack_20 ?_
    refine x_iconst (v := 2) hC dX10_takeBack_23 (by decide) ?_
    refine x_iald (len := 239) hC xa_194 h.1 dX10_takeBack_24 ?_
    replace h := h.2
    exact x_iret hC hr dX10_takeBack_25 h
  · replace h := h.2 q
    refine x_iconst (v := -1) hC dX10_takeBack_8 (by decide) ?_
    exact x_iret hC hr dX10_takeBack_9 h
def vc_X10_sing (g : xG) (v1 : Int32) (M : xM) (P : Int32 → xM → Prop) (K1 : Int32 → Int32 → Int32 → xM → Prop) : Prop := (mi_X10_within g v1 (1 : Int32) (20 : Int32) M (fun r1 N2 => ((¬ r1 = 0 → (mi_X10_record g N2 (fun N3 => (mi_X10_nextWish g N3 (fun r4 N5 => K1 v1 (0 : Int32) r4 N5))))) ∧ (r1 = 0 → P (-2 : Int32) N2))))
def vc_X10_sing_1 (g : xG) (v1 : Int32) (v2 : Int32) (v3 : Int32) (M : xM) (P : Int32 → xM → Prop) (K1 : Int32 → Int32 → Int32 → xM → Prop) : Prop := ((v1 ≤ v2 → P v2 M) ∧ (¬ (v1 ≤ v2) → ((v3 = (-6 : Int32) → P v2 M) ∧ (¬ (v3 = (-6 : Int32)) → (mi_X10_singWish g v3 M (fun N6 => (mi_X10_nextWish g N6 (fun r7 N8 => K1 v1 (v2 + (1 : Int32)) r7 N8))))))))
set_option maxRecDepth 100000 in
set_option maxHeartbeats 4000000 in
theorem wk_X10_sing {g : xG} (v1 : Int32) (M : xM) (P : Int32 → xM → Prop) (I1 : Nat → Int32 → Int32 → Int32 → xM → Prop) (h0 : vc_X10_sing g v1 M P (fun v1 v2 v3 N => ∃ k, I1 k v1 v2 v3 N)) (h1 : ∀ (n : Nat) (v1 : Int32) (v2 : Int32) (v3 : Int32) (N : xM), I1 n v1 v2 v3 N → vc_X10_sing_1 g v1 v2 v3 N P (fun v1 v2 v3 N => ∃ k, k < n ∧ I1 k v1 v2 v3 N)) : mi_X10_sing g v1 M P := by
  refine x_startI (as := [.ref (x_a g 193), .int v1]) (cc := cX10_sing) (n := 4) (ret := (some .int)) (own := RX10) (by decide) rfl rfl (Nat.le_of_ble_eq_true rfl) (fun x hC hr => ?_)
  have L : ∀ n : Nat, (∀ (v1 : Int32) (v2 : Int32) (v3 : Int32) (N : xM), I1 n v1 v2 v3 N → x_W x g 4 (x_Qi x g P) N 24 [(0, .ref (x_a g 193)), (1, .int v1), (2, .int v2), (3, .int v3)] []) := by
    intro n
    induction n using Nat.strongRecOn with
    | ind n ih =>
      intro v1 v2 v3 M hI
      have h := h1 n v1 v2 v3 M hI
      unfold vc_X10_sing_1 at h
      refine x_iload_n (i := 2) (q := 2) hC dX10_sing_24 rfl rfl ?_
      refine x_iload_n (i := 1) (q := 1) hC dX10_sing_25 rfl rfl ?_
      refine x_icmp_ge (t := 51) hC dX10_sing_26 (by decide) (fun q => ?_) (fun q => ?_)
      · replace h := h.1 q
        refine x_iload_n (i := 2) (q := 2) hC dX10_sing_51 rfl rfl ?_
        exact x_iret hC hr dX10_sing_52 h
      · replace h := h.2 q
        refine x_iload_n (i := 3) (q := 3) hC dX10_sing_29 rfl rfl ?_
        refine x_bipush (v := -6) hC dX10_sing_30 (by decide) ?_
        refine x_icmp_eq (t := 51) hC dX10_sing_32 (by decide) (fun q => ?_) (fun q => ?_)
        · replace h := h.1 q
          refine x_iload_n (i := 2) (q := 2) hC dX10_sing_51 rfl rfl ?_
          exact x_iret hC hr dX10_sing_52 h
        · replace h := h.2 q
          refine x_aload_n (i := 0) (q := 0) hC dX10_sing_35 rfl rfl ?_
          refine x_iload_n (i := 3) (q := 3) hC dX10_sing_36 rfl rfl ?_
          refine x_callVv (q := (RX10, TX10, 12)) (As := [.int v3]) hC xo_193 rfl h gX10_sing_X10_singWish rfl rfl rfl hy_X10_singWish ⟨Nat.le_of_ble_eq_true rfl, Nat.le_of_ble_eq_true rfl⟩ rfl (Nat.le_of_ble_eq_true rfl) rfl dX10_sing_37 (fun N6 h => ?_)
          refine x_iinc (k := 2) (v' := (v2 + (1 : Int32))) (ls' := [(2, .int (v2 + (1 : Int32))), (0, .ref (x_a g 193)), (1, .int v1), (3, .int v3)]) hC dX10_sing_40 rfl rfl (by decide) rfl ?_
          refine x_aload_n (i := 0) (q := 1) hC dX10_sing_43 rfl rfl ?_
          refine x_callVi (q := (RX10, TX10, 12)) (As := []) hC xo_193 rfl h gX10_sing_X10_nextWish rfl rfl rfl hy_X10_nextWish ⟨Nat.le_of_ble_eq_true rfl, Nat.le_of_ble_eq_true rfl⟩ rfl (Nat.le_of_ble_eq_true rfl) rfl dX10_sing_44 (fun r7 N8 h => ?_)
          refine x_istore_n (i := 3) (ls' := [(3, .int r7), (2, .int (v2 + (1 : Int32))), (0, .ref (x_a g 193)), (1, .int v1)]) hC dX10_sing_47 rfl (by decide) rfl ?_
          refine x_goto (t := 24) hC dX10_sing_48 (by decide) ?_
          obtain ⟨n_1, hn, h⟩ := h
          exact x_sub [2, 3, 1, 0] rfl ((ih n_1 hn) _ _ _ _ h)
  have h := h0
  unfold vc_X10_sing at h
  refine x_iload_n (i := 1) (q := 1) hC dX10_sing_0 rfl rfl ?_
  refine x_iconst (v := 1) hC dX10_sing_1 (by decide) ?_
  refine x_bipush (v := 20) hC dX10_sing_2 (by decide) ?_
  refine x_callSi (As := [.int v1, .int (1 : Int32), .int (20 : Int32)]) hC h gX10_sing_X10_within rfl rfl rfl hy_X10_within.2 ⟨Nat.le_of_ble_eq_true rfl, Nat.le_of_ble_eq_true rfl⟩ rfl (Nat.le_of_ble_eq_true rfl) rfl dX10_sing_4 (fun r1 N2 h => ?_)
  refine x_if_ne (t := 13) hC dX10_sing_7 (by decide) (fun q => ?_) (fun q => ?_)
  · replace h := h.1 q
    refine x_aload_n (i := 0) (q := 0) hC dX10_sing_13 rfl rfl ?_
    refine x_callVv (q := (RX10, TX10, 12)) (As := []) hC xo_193 rfl h gX10_sing_X10_record rfl rfl rfl hy_X10_record ⟨Nat.le_of_ble_eq_true rfl, Nat.le_of_ble_eq_true rfl⟩ rfl (Nat.le_of_ble_eq_true rfl) rfl dX10_sing_14 (fun N3 h => ?_)
    refine x_iconst (v := 0) hC dX10_sing_17 (by decide) ?_
    refine x_istore_n (i := 2) (ls' := [(2, .int (0 : Int32)), (0, .ref (x_a g 193)), (1, .int v1)]) hC dX10_sing_18 rfl (by decide) rfl ?_
    refine x_aload_n (i := 0) (q := 1) hC dX10_sing_19 rfl rfl ?_
    refine x_callVi (q := (RX10, TX10, 12)) (As := []) hC xo_193 rfl h gX10_sing_X10_nextWish rfl rfl rfl hy_X10_nextWish ⟨Nat.le_of_ble_eq_true rfl, Nat.le_of_ble_eq_true rfl⟩ rfl (Nat.le_of_ble_eq_true rfl) rfl dX10_sing_20 (fun r4 N5 h => ?_)
    refine x_istore_n (i := 3) (ls' := [(3, .int r4), (2, .int (0 : Int32)), (0, .ref (x_a g 193)), (1, .int v1)]) hC dX10_sing_23 rfl (by decide) rfl ?_
    obtain ⟨n_1, h⟩ := h
    exact x_sub [2, 3, 1, 0] rfl ((L n_1) _ _ _ _ h)
  · replace h := h.2 q
    refine x_bipush (v := -2) hC dX10_sing_10 (by decide) ?_
    exact x_iret hC hr dX10_sing_12 h
theorem kf_X10_character_127 : x_okf wsX10_character RX10 127 10 7 = true := by decide +kernel
theorem kf_X10_character_25 : x_okf wsX10_character RX10 25 10 6 = true := by decide +kernel
def vc_X10_character (g : xG) (v1 : Int32) (M : xM) (P : Int32 → xM → Prop) : Prop := (((M 193 7) ≤ v1 → P (-1 : Int32) M) ∧ (¬ ((M 193 7) ≤ v1) → (vp_in v1 60 ∧ P (M 199 (v1).toNatClampNeg) M)))
set_option maxRecDepth 100000 in
set_option maxHeartbeats 4000000 in
theorem wk_X10_character {g : xG} (v1 : Int32) (M : xM) (P : Int32 → xM → Prop) (h0 : vc_X10_character g v1 M P ) : mi_X10_character g v1 M P := by
  refine x_startI (as := [.ref (x_a g 193), .int v1]) (cc := cX10_character) (n := 2) (ret := (some .int)) (own := RX10) (by decide) rfl rfl (Nat.le_of_ble_eq_true rfl) (fun x hC hr => ?_)
  have h := h0
  unfold vc_X10_character at h
  refine x_iload_n (i := 1) (q := 1) hC dX10_character_0 rfl rfl ?_
  refine x_aload_n (i := 0) (q := 0) hC dX10_character_1 rfl rfl ?_
  refine x_geti (k := 7) hC xo_193 rfl kf_X10_character_127 dX10_character_2 ?_
  refine x_icmp_ge (t := 17) hC dX10_character_5 (by decide) (fun q => ?_) (fun q => ?_)
  · replace h := h.1 q
    refine x_iconst (v := -1) hC dX10_character_17 (by decide) ?_
    exact x_iret hC hr dX10_character_18 h
  · replace h := h.2 q
    refine x_aload_n (i := 0) (q := 0) hC dX10_character_8 rfl rfl ?_
    refine x_getr (k := 6) (r := 199) hC xo_193 rfl kf_X10_character_25 dX10_character_9 ?_
    refine x_iload_n (i := 1) (q := 1) hC dX10_character_12 rfl rfl ?_
    refine x_iald (len := 60) hC xa_199 h.1 dX10_character_13 ?_
    replace h := h.2
    refine x_goto (t := 18) hC dX10_character_14 (by decide) ?_
    exact x_iret hC hr dX10_character_18 h
theorem kf_X10_isNext_130 : x_okf wsX10_isNext RX10 130 10 8 = true := by decide +kernel
def vc_X10_isNext (g : xG) (v1 : Int32) (M : xM) (P : Int32 → xM → Prop) : Prop := (mi_X10_character g (M 193 8) M (fun r1 N2 => ((¬ r1 = v1 → P (0 : Int32) (x_up N2 193 8 ((N2 193 8) + (0 : Int32)))) ∧ (r1 = v1 → P (1 : Int32) (x_up N2 193 8 ((N2 193 8) + (1 : Int32)))))))
set_option maxRecDepth 100000 in
set_option maxHeartbeats 4000000 in
theorem wk_X10_isNext {g : xG} (v1 : Int32) (M : xM) (P : Int32 → xM → Prop) (h0 : vc_X10_isNext g v1 M P ) : mi_X10_isNext g v1 M P := by
  refine x_startI (as := [.ref (x_a g 193), .int v1]) (cc := cX10_isNext) (n := 3) (ret := (some .boolean)) (own := RX10) (by decide) rfl rfl (Nat.le_of_ble_eq_true rfl) (fun x hC hr => ?_)
  have h := h0
  unfold vc_X10_isNext at h
  refine x_aload_n (i := 0) (q := 0) hC dX10_isNext_0 rfl rfl ?_
  refine x_aload_n (i := 0) (q := 0) hC dX10_isNext_1 rfl rfl ?_
  refine x_geti (k := 8) hC xo_193 rfl kf_X10_isNext_130 dX10_isNext_2 ?_
  refine x_callVi (q := (RX10, TX10, 12)) (As := [.int (M 193 8)]) hC xo_193 rfl h gX10_isNext_X10_character rfl rfl rfl hy_X10_character ⟨Nat.le_of_ble_eq_true rfl, Nat.le_of_ble_eq_true rfl⟩ rfl (Nat.le_of_ble_eq_true rfl) rfl dX10_isNext_5 (fun r1 N2 h => ?_)
  refine x_iload_n (i := 1) (q := 1) hC dX10_isNext_8 rfl rfl ?_
  refine x_icmp_ne (t := 16) hC dX10_isNext_9 (by decide) (fun q => ?_) (fun q => ?_)
  · replace h := h.1 q
    refine x_iconst (v := 0) hC dX10_isNext_16 (by decide) ?_
    refine x_istore_n (i := 2) (ls' := [(2, .int (0 : Int32)), (0, .ref (x_a g 193)), (1, .int v1)]) hC dX10_isNext_17 rfl (by decide) rfl ?_
    refine x_aload_n (i := 0) (q := 1) hC dX10_isNext_18 rfl rfl ?_
    refine x_dup hC dX10_isNext_19 rfl ?_
    refine x_geti (k := 8) hC xo_193 rfl kf_X10_isNext_130 dX10_isNext_20 ?_
    refine x_iload_n (i := 2) (q := 0) hC dX10_isNext_23 rfl rfl ?_
    refine x_if_eq (t := 31) hC dX10_isNext_24 (by decide) (fun _ => ?_) (fun q => absurd (by decide) q)
    refine x_iconst (v := 0) hC dX10_isNext_31 (by decide) ?_
    refine x_iadd hC dX10_isNext_32 ?_
    refine x_puti (k := 8) hC xo_193 rfl kf_X10_isNext_130 kp_10_8 dX10_isNext_33 ?_
    refine x_iload_n (i := 2) (q := 0) hC dX10_isNext_36 rfl rfl ?_
    exact x_zret hC hr dX10_isNext_37 rfl h
  · replace h := h.2 q
    refine x_iconst (v := 1) hC dX10_isNext_12 (by decide) ?_
    refine x_goto (t := 17) hC dX10_isNext_13 (by decide) ?_
    refine x_istore_n (i := 2) (ls' := [(2, .int (1 : Int32)), (0, .ref (x_a g 193)), (1, .int v1)]) hC dX10_isNext_17 rfl (by decide) rfl ?_
    refine x_aload_n (i := 0) (q := 1) hC dX10_isNext_18 rfl rfl ?_
    refine x_dup hC dX10_isNext_19 rfl ?_
    refine x_geti (k := 8) hC xo_193 rfl kf_X10_isNext_130 dX10_isNext_20 ?_
    refine x_iload_n (i := 2) (q := 0) hC dX10_isNext_23 rfl rfl ?_
    refine x_if_eq (t := 31) hC dX10_isNext_24 (by decide) (fun q => absurd q (by decide)) (fun _ => ?_)
    refine x_iconst (v := 1) hC dX10_isNext_27 (by decide) ?_
    refine x_goto (t := 32) hC dX10_isNext_28 (by decide) ?_
    refine x_iadd hC dX10_isNext_32 ?_
    refine x_puti (k := 8) hC xo_193 rfl kf_X10_isNext_130 kp_10_8 dX10_isNext_33 ?_
    refine x_iload_n (i := 2) (q := 0) hC dX10_isNext_36 rfl rfl ?_
    exact x_zret hC hr dX10_isNext_37 rfl h
theorem kf_X10_findFault_130 : x_okf wsX10_findFault RX10 130 10 8 = true := by decide +kernel
theorem kf_X10_findFault_127 : x_okf wsX10_findFault RX10 127 10 7 = true := by decide +kernel
def vc_X10_findFault (g : xG) (M : xM) (P : Int32 → xM → Prop) (K1 : xM → Prop) : Prop := K1 (x_up M 193 8 (0 : Int32))
def vc_X10_findFault_1 (g : xG) (M : xM) (P : Int32 → xM → Prop) (K1 : xM → Prop) : Prop := (mi_X10_readsWish g M (fun r1 N2 => ((¬ r1 = 0 → ((¬ (N2 193 8) = (N2 193 7) → (mi_X10_isNext g (59 : Int32) N2 (fun r3 N4 => ((¬ r3 = 0 → K1 N4) ∧ (r3 = 0 → P (N4 193 8) N4))))) ∧ ((N2 193 8) = (N2 193 7) → P (-6 : Int32) N2))) ∧ (r1 = 0 → P (N2 193 8) N2))))
set_option maxRecDepth 100000 in
set_option maxHeartbeats 4000000 in
theorem wk_X10_findFault {g : xG}  (M : xM) (P : Int32 → xM → Prop) (I1 : Nat → xM → Prop) (h0 : vc_X10_findFault g M P (fun N => ∃ k, I1 k N)) (h1 : ∀ (n : Nat) (N : xM), I1 n N → vc_X10_findFault_1 g N P (fun N => ∃ k, k < n ∧ I1 k N)) : mi_X10_findFault g M P := by
  refine x_startI (as := [.ref (x_a g 193)]) (cc := cX10_findFault) (n := 1) (ret := (some .int)) (own := RX10) (by decide) rfl rfl (Nat.le_of_ble_eq_true rfl) (fun x hC hr => ?_)
  have L : ∀ n : Nat, (∀ (N : xM), I1 n N → x_W x g 1 (x_Qi x g P) N 5 [(0, .ref (x_a g 193))] []) := by
    intro n
    induction n using Nat.strongRecOn with
    | ind n ih =>
      intro  M hI
      have h := h1 n M hI
      unfold vc_X10_findFault_1 at h
      refine x_aload_n (i := 0) (q := 0) hC dX10_findFault_5 rfl rfl ?_
      refine x_callVi (q := (RX10, TX10, 12)) (As := []) hC xo_193 rfl h gX10_findFault_X10_readsWish rfl rfl rfl hy_X10_readsWish ⟨Nat.le_of_ble_eq_true rfl, Nat.le_of_ble_eq_true rfl⟩ rfl (Nat.le_of_ble_eq_true rfl) rfl dX10_findFault_6 (fun r1 N2 h => ?_)
      refine x_if_ne (t := 17) hC dX10_findFault_9 (by decide) (fun q => ?_) (fun q => ?_)
      · replace h := h.1 q
        refine x_aload_n (i := 0) (q := 0) hC dX10_findFault_17 rfl rfl ?_
        refine x_geti (k := 8) hC xo_193 rfl kf_X10_findFault_130 dX10_findFault_18 ?_
        refine x_aload_n (i := 0) (q := 0) hC dX10_findFault_21 rfl rfl ?_
        refine x_geti (k := 7) hC xo_193 rfl kf_X10_findFault_127 dX10_findFault_22 ?_
        refine x_icmp_ne (t := 31) hC dX10_findFault_25 (by decide) (fun q => ?_) (fun q => ?_)
        · replace h := h.1 q
          refine x_aload_n (i := 0) (q := 0) hC dX10_findFault_31 rfl rfl ?_
          refine x_bipush (v := 59) hC dX10_findFault_32 (by decide) ?_
          refine x_callVi (q := (RX10, TX10, 12)) (As := [.int (59 : Int32)]) hC xo_193 rfl h gX10_findFault_X10_isNext rfl rfl rfl hy_X10_isNext ⟨Nat.le_of_ble_eq_true rfl, Nat.le_of_ble_eq_true rfl⟩ rfl (Nat.le_of_ble_eq_true rfl) rfl dX10_findFault_34 (fun r3 N4 h => ?_)
          refine x_if_ne (t := 5) hC dX10_findFault_37 (by decide) (fun q => ?_) (fun q => ?_)
          · replace h := h.1 q
            obtain ⟨n_1, hn, h⟩ := h
            exact x_sub [0] rfl ((ih n_1 hn)  _ h)
          · replace h := h.2 q
            refine x_aload_n (i := 0) (q := 0) hC dX10_findFault_40 rfl rfl ?_
            refine x_geti (k := 8) hC xo_193 rfl kf_X10_findFault_130 dX10_findFault_41 ?_
            exact x_iret hC hr dX10_findFault_44 h
        · replace h := h.2 q
          refine x_bipush (v := -6) hC dX10_findFault_28 (by decide) ?_
          exact x_iret hC hr dX10_findFault_30 h
      · replace h := h.2 q
        refine x_aload_n (i := 0) (q := 0) hC dX10_findFault_12 rfl rfl ?_
        refine x_geti (k := 8) hC xo_193 rfl kf_X10_findFault_130 dX10_findFault_13 ?_
        exact x_iret hC hr dX10_findFault_16 h
  have h := h0
  unfold vc_X10_findFault at h
  refine x_aload_n (i := 0) (q := 0) hC dX10_findFault_0 rfl rfl ?_
  refine x_iconst (v := 0) hC dX10_findFault_1 (by decide) ?_
  refine x_puti (k := 8) hC xo_193 rfl kf_X10_findFault_130 kp_10_8 dX10_findFault_2 ?_
  obtain ⟨n_1, h⟩ := h
  exact x_sub [0] rfl ((L n_1)  _ h)
theorem kf_X10_wishesOf_7 : x_okf wsX10_wishesOf RX10 7 10 0 = true := by decide +kernel
def vc_X10_wishesOf (g : xG) (v1 : Int32) (M : xM) (P : Int32 → xM → Prop) (K1 : Int32 → Int32 → Int32 → xM → Prop) : Prop := K1 v1 (0 : Int32) (0 : Int32) M
def vc_X10_wishesOf_1 (g : xG) (v1 : Int32) (v2 : Int32) (v3 : Int32) (M : xM) (P : Int32 → xM → Prop) (K1 : Int32 → Int32 → Int32 → xM → Prop) : Prop := (vp_in (2 : Int32) 239 ∧ (((M 194 ((2 : Int32)).toNatClampNeg) ≤ v3 → P v2 M) ∧ (¬ ((M 194 ((2 : Int32)).toNatClampNeg) ≤ v3) → (mi_X10_singersOf g v3 M (fun r1 N2 => K1 v1 (v2 + ((r1 >>> (v1 &&& 31)) &&& (1 : Int32))) (v3 + (1 : Int32)) N2)))))
set_option maxRecDepth 100000 in
set_option maxHeartbeats 4000000 in
theorem wk_X10_wishesOf {g : xG} (v1 : Int32) (M : xM) (P : Int32 → xM → Prop) (I1 : Nat → Int32 → Int32 → Int32 → xM → Prop) (h0 : vc_X10_wishesOf g v1 M P (fun v1 v2 v3 N => ∃ k, I1 k v1 v2 v3 N)) (h1 : ∀ (n : Nat) (v1 : Int32) (v2 : Int32) (v3 : Int32) (N : xM), I1 n v1 v2 v3 N → vc_X10_wishesOf_1 g v1 v2 v3 N P (fun v1 v2 v3 N => ∃ k, k < n ∧ I1 k v1 v2 v3 N)) : mi_X10_wishesOf g v1 M P := by
  refine x_startI (as := [.ref (x_a g 193), .int v1]) (cc := cX10_wishesOf) (n := 4) (ret := (some .int)) (own := RX10) (by decide) rfl rfl (Nat.le_of_ble_eq_true rfl) (fun x hC hr => ?_)
  have L : ∀ n : Nat, (∀ (v1 : Int32) (v2 : Int32) (v3 : Int32) (N : xM), I1 n v1 v2 v3 N → x_W x g 4 (x_Qi x g P) N 4 [(0, .ref (x_a g 193)), (1, .int v1), (2, .int v2), (3, .int v3)] []) := by
    intro n
    induction n using Nat.strongRecOn with
    | ind n ih =>
      intro v1 v2 v3 M hI
      have h := h1 n v1 v2 v3 M hI
      unfold vc_X10_wishesOf_1 at h
      refine x_iload_n (i := 3) (q := 3) hC dX10_wishesOf_4 rfl rfl ?_
      refine x_aload_n (i := 0) (q := 0) hC dX10_wishesOf_5 rfl rfl ?_
      refine x_getr (k := 0) (r := 194) hC xo_193 rfl kf_X10_wishesOf_7 dX10_wishesOf_6 ?_
      refine x_iconst (v := 2) hC dX10_wishesOf_9 (by decide) ?_
      refine x_iald (len := 239) hC xa_194 h.1 dX10_wishesOf_10 ?_
      replace h := h.2
      refine x_icmp_ge (t := 32) hC dX10_wishesOf_11 (by decide) (fun q => ?_) (fun q => ?_)
      · replace h := h.1 q
        refine x_iload_n (i := 2) (q := 2) hC dX10_wishesOf_32 rfl rfl ?_
        exact x_iret hC hr dX10_wishesOf_33 h
      · replace h := h.2 q
        refine x_iload_n (i := 2) (q := 2) hC dX10_wishesOf_14 rfl rfl ?_
        refine x_aload_n (i := 0) (q := 0) hC dX10_wishesOf_15 rfl rfl ?_
        refine x_iload_n (i := 3) (q := 3) hC dX10_wishesOf_16 rfl rfl ?_
        refine x_callVi (q := (RX10, TX10, 12)) (As := [.int v3]) hC xo_193 rfl h gX10_wishesOf_X10_singersOf rfl rfl rfl hy_X10_singersOf ⟨Nat.le_of_ble_eq_true rfl, Nat.le_of_ble_eq_true rfl⟩ rfl (Nat.le_of_ble_eq_true rfl) rfl dX10_wishesOf_17 (fun r1 N2 h => ?_)
        refine x_iload_n (i := 1) (q := 1) hC dX10_wishesOf_20 rfl rfl ?_
        refine x_ishr hC dX10_wishesOf_21 ?_
        refine x_iconst (v := 1) hC dX10_wishesOf_22 (by decide) ?_
        refine x_iand hC dX10_wishesOf_23 ?_
        refine x_iadd hC dX10_wishesOf_24 ?_
        refine x_istore_n (i := 2) (ls' := [(2, .int (v2 + ((r1 >>> (v1 &&& 31)) &&& (1 : Int32)))), (0, .ref (x_a g 193)), (1, .int v1), (3, .int v3)]) hC dX10_wishesOf_25 rfl (by decide) rfl ?_
        refine x_iinc (k := 3) (v' := (v3 + (1 : Int32))) (ls' := [(3, .int (v3 + (1 : Int32))), (2, .int (v2 + ((r1 >>> (v1 &&& 31)) &&& (1 : Int32)))), (0, .ref (x_a g 193)), (1, .int v1)]) hC dX10_wishesOf_26 rfl rfl (by decide) rfl ?_
        refine x_goto (t := 4) hC dX10_wishesOf_29 (by decide) ?_
        obtain ⟨n_1, hn, h⟩ := h
        exact x_sub [2, 3, 1, 0] rfl ((ih n_1 hn) _ _ _ _ h)
  have h := h0
  unfold vc_X10_wishesOf at h
  refine x_iconst (v := 0) hC dX10_wishesOf_0 (by decide) ?_
  refine x_istore_n (i := 2) (ls' := [(2, .int (0 : Int32)), (0, .ref (x_a g 193)), (1, .int v1)]) hC dX10_wishesOf_1 rfl (by decide) rfl ?_
  refine x_iconst (v := 0) hC dX10_wishesOf_2 (by decide) ?_
  refine x_istore_n (i := 3) (ls' := [(3, .int (0 : Int32)), (2, .int (0 : Int32)), (0, .ref (x_a g 193)), (1, .int v1)]) hC dX10_wishesOf_3 rfl (by decide) rfl ?_
  obtain ⟨n_1, h⟩ := h
  exact x_sub [2, 3, 1, 0] rfl ((L n_1) _ _ _ _ h)
def vc_X10_key (g : xG) (v1 : Int32) (v2 : Int32) (v3 : Int32) (M : xM) (P : Int32 → xM → Prop) : Prop := (mi_X10_areSingers g v1 v2 M (fun r1 N2 => ((r1 = 0 → P (-1 : Int32) N2) ∧ (¬ (r1 = 0) → (mi_X10_isSong g v3 N2 (fun r3 N4 => ((¬ r3 = 0 → ((¬ v1 = v2 → (mi_X10_keyFor g v1 v2 v3 N4 (fun r5 N6 => P r5 N6))) ∧ (v1 = v2 → P (-2 : Int32) N4))) ∧ (r3 = 0 → P (-1 : Int32) N4))))))))
set_option maxRecDepth 100000 in
set_option maxHeartbeats 4000000 in
theorem wk_X10_key {g : xG} (v1 : Int32) (v2 : Int32) (v3 : Int32) (M : xM) (P : Int32 → xM → Prop) (h0 : vc_X10_key g v1 v2 v3 M P ) : mi_X10_key g v1 v2 v3 M P := by
  refine x_startI (as := [.ref (x_a g 193), .int v1, .int v2, .int v3]) (cc := cX10_key) (n := 4) (ret := (some .int)) (own := RX10) (by decide) rfl rfl (Nat.le_of_ble_eq_true rfl) (fun x hC hr => ?_)
  have h := h0
  unfold vc_X10_key at h
  refine x_aload_n (i := 0) (q := 0) hC dX10_key_0 rfl rfl ?_
  refine x_iload_n (i := 1) (q := 1) hC dX10_key_1 rfl rfl ?_
  refine x_iload_n (i := 2) (q := 2) hC dX10_key_2 rfl rfl ?_
  refine x_callVi (q := (RX10, TX10, 12)) (As := [.int v1, .int v2]) hC xo_193 rfl h gX10_key_X10_areSingers rfl rfl rfl hy_X10_areSingers ⟨Nat.le_of_ble_eq_true rfl, Nat.le_of_ble_eq_true rfl⟩ rfl (Nat.le_of_ble_eq_true rfl) rfl dX10_key_3 (fun r1 N2 h => ?_)
  refine x_if_eq (t := 17) hC dX10_key_6 (by decide) (fun q => ?_) (fun q => ?_)
  · replace h := h.1 q
    refine x_iconst (v := -1) hC dX10_key_17 (by decide) ?_
    exact x_iret hC hr dX10_key_18 h
  · replace h := h.2 q
    refine x_aload_n (i := 0) (q := 0) hC dX10_key_9 rfl rfl ?_
    refine x_iload_n (i := 3) (q := 3) hC dX10_key_10 rfl rfl ?_
    refine x_callVi (q := (RX10, TX10, 12)) (As := [.int v3]) hC xo_193 rfl h gX10_key_X10_isSong rfl rfl rfl hy_X10_isSong ⟨Nat.le_of_ble_eq_true rfl, Nat.le_of_ble_eq_true rfl⟩ rfl (Nat.le_of_ble_eq_true rfl) rfl dX10_key_11 (fun r3 N4 h => ?_)
    refine x_if_ne (t := 19) hC dX10_key_14 (by decide) (fun q => ?_) (fun q => ?_)
    · replace h := h.1 q
      refine x_iload_n (i := 1) (q := 1) hC dX10_key_19 rfl rfl ?_
      refine x_iload_n (i := 2) (q := 2) hC dX10_key_20 rfl rfl ?_
      refine x_icmp_ne (t := 29) hC dX10_key_21 (by decide) (fun q => ?_) (fun q => ?_)
      · replace h := h.1 q
        refine x_aload_n (i := 0) (q := 0) hC dX10_key_29 rfl rfl ?_
        refine x_iload_n (i := 1) (q := 1) hC dX10_key_30 rfl rfl ?_
        refine x_iload_n (i := 2) (q := 2) hC dX10_key_31 rfl rfl ?_
        refine x_iload_n (i := 3) (q := 3) hC dX10_key_32 rfl rfl ?_
        refine x_callVi (q := (RX10, TX10, 12)) (As := [.int v1, .int v2, .int v3]) hC xo_193 rfl h gX10_key_X10_keyFor rfl rfl rfl hy_X10_keyFor ⟨Nat.le_of_ble_eq_true rfl, Nat.le_of_ble_eq_true rfl⟩ rfl (Nat.le_of_ble_eq_true rfl) rfl dX10_key_33 (fun r5 N6 h => ?_)
        exact x_iret hC hr dX10_key_36 h
      · replace h := h.2 q
        refine x_bipush (v := -2) hC dX10_key_24 (by decide) ?_
        refine x_goto (t := 36) hC dX10_key_26 (by decide) ?_
        exact x_iret hC hr dX10_key_36 h
    · replace h := h.2 q
      refine x_iconst (v := -1) hC dX10_key_17 (by decide) ?_
      exact x_iret hC hr dX10_key_18 h
theorem kf_X10_singersFor_7 : x_okf wsX10_singersFor RX10 7 10 0 = true := by decide +kernel
def vc_X10_singersFor (g : xG) (v1 : Int32) (M : xM) (P : Int32 → xM → Prop) (K1 : Int32 → Int32 → Int32 → xM → Prop) : Prop := K1 v1 (0 : Int32) (0 : Int32) M
def vc_X10_singersFor_1 (g : xG) (v1 : Int32) (v2 : Int32) (v3 : Int32) (M : xM) (P : Int32 → xM → Prop) (K1 : Int32 → Int32 → Int32 → xM → Prop) : Prop := (vp_in (0 : Int32) 239 ∧ (((M 194 ((0 : Int32)).toNatClampNeg) ≤ v3 → P v2 M) ∧ (¬ ((M 194 ((0 : Int32)).toNatClampNeg) ≤ v3) → (mi_X10_keyFor g v3 (-6 : Int32) v1 M (fun r1 N2 => ((¬ r1 = (-6 : Int32) → K1 v1 (v2 ||| ((1 : Int32) <<< (v3 &&& 31))) (v3 + (1 : Int32)) N2) ∧ (r1 = (-6 : Int32) → K1 v1 (v2 ||| (0 : Int32)) (v3 + (1 : Int32)) N2)))))))
set_option maxRecDepth 100000 in
set_option maxHeartbeats 4000000 in
theorem wk_X10_singersFor {g : xG} (v1 : Int32) (M : xM) (P : Int32 → xM → Prop) (I1 : Nat → Int32 → Int32 → Int32 → xM → Prop) (h0 : vc_X10_singersFor g v1 M P (fun v1 v2 v3 N => ∃ k, I1 k v1 v2 v3 N)) (h1 : ∀ (n : Nat) (v1 : Int32) (v2 : Int32) (v3 : Int32) (N : xM), I1 n v1 v2 v3 N → vc_X10_singersFor_1 g v1 v2 v3 N P (fun v1 v2 v3 N => ∃ k, k < n ∧ I1 k v1 v2 v3 N)) : mi_X10_singersFor g v1 M P := by
  refine x_startI (as := [.ref (x_a g 193), .int v1]) (cc := cX10_singersFor) (n := 4) (ret := (some .int)) (own := RX10) (by decide) rfl rfl (Nat.le_of_ble_eq_true rfl) (fun x hC hr => ?_)
  have L : ∀ n : Nat, (∀ (v1 : Int32) (v2 : Int32) (v3 : Int32) (N : xM), I1 n v1 v2 v3 N → x_W x g 4 (x_Qi x g P) N 4 [(0, .ref (x_a g 193)), (1, .int v1), (2, .int v2), (3, .int v3)] []) := by
    intro n
    induction n using Nat.strongRecOn with
    | ind n ih =>
      intro v1 v2 v3 M hI
      have h := h1 n v1 v2 v3 M hI
      unfold vc_X10_singersFor_1 at h
      refine x_iload_n (i := 3) (q := 3) hC dX10_singersFor_4 rfl rfl ?_
      refine x_aload_n (i := 0) (q := 0) hC dX10_singersFor_5 rfl rfl ?_
      refine x_getr (k := 0) (r := 194) hC xo_193 rfl kf_X10_singersFor_7 dX10_singersFor_6 ?_
      refine x_iconst (v := 0) hC dX10_singersFor_9 (by decide) ?_
      refine x_iald (len := 239) hC xa_194 h.1 dX10_singersFor_10 ?_
      replace h := h.2
      refine x_icmp_ge (t := 43) hC dX10_singersFor_11 (by decide) (fun q => ?_) (fun q => ?_)
      · replace h := h.1 q
        refine x_iload_n (i := 2) (q := 2) hC dX10_singersFor_43 rfl rfl ?_
        exact x_iret hC hr dX10_singersFor_44 h
      · replace h := h.2 q
        refine x_iload_n (i := 2) (q := 2) hC dX10_singersFor_14 rfl rfl ?_
        refine x_aload_n (i := 0) (q := 0) hC dX10_singersFor_15 rfl rfl ?_
        refine x_iload_n (i := 3) (q := 3) hC dX10_singersFor_16 rfl rfl ?_
        refine x_bipush (v := -6) hC dX10_singersFor_17 (by decide) ?_
        refine x_iload_n (i := 1) (q := 1) hC dX10_singersFor_19 rfl rfl ?_
        refine x_callVi (q := (RX10, TX10, 12)) (As := [.int v3, .int (-6 : Int32), .int v1]) hC xo_193 rfl h gX10_singersFor_X10_keyFor rfl rfl rfl hy_X10_keyFor ⟨Nat.le_of_ble_eq_true rfl, Nat.le_of_ble_eq_true rfl⟩ rfl (Nat.le_of_ble_eq_true rfl) rfl dX10_singersFor_20 (fun r1 N2 h => ?_)
        refine x_bipush (v := -6) hC dX10_singersFor_23 (by decide) ?_
        refine x_icmp_ne (t := 32) hC dX10_singersFor_25 (by decide) (fun q => ?_) (fun q => ?_)
        · replace h := h.1 q
          refine x_iconst (v := 1) hC dX10_singersFor_32 (by decide) ?_
          refine x_iload_n (i := 3) (q := 3) hC dX10_singersFor_33 rfl rfl ?_
          refine x_ishl hC dX10_singersFor_34 ?_
          refine x_ior hC dX10_singersFor_35 ?_
          refine x_istore_n (i := 2) (ls' := [(2, .int (v2 ||| ((1 : Int32) <<< (v3 &&& 31)))), (0, .ref (x_a g 193)), (1, .int v1), (3, .int v3)]) hC dX10_singersFor_36 rfl (by decide) rfl ?_
          refine x_iinc (k := 3) (v' := (v3 + (1 : Int32))) (ls' := [(3, .int (v3 + (1 : Int32))), (2, .int (v2 ||| ((1 : Int32) <<< (v3 &&& 31)))), (0, .ref (x_a g 193)), (1, .int v1)]) hC dX10_singersFor_37 rfl rfl (by decide) rfl ?_
          refine x_goto (t := 4) hC dX10_singersFor_40 (by decide) ?_
          obtain ⟨n_1, hn, h⟩ := h
          exact x_sub [2, 3, 1, 0] rfl ((ih n_1 hn) _ _ _ _ h)
        · replace h := h.2 q
          refine x_iconst (v := 0) hC dX10_singersFor_28 (by decide) ?_
          refine x_goto (t := 35) hC dX10_singersFor_29 (by decide) ?_
          refine x_ior hC dX10_singersFor_35 ?_
          refine x_istore_n (i := 2) (ls' := [(2, .int (v2 ||| (0 : Int32))), (0, .ref (x_a g 193)), (1, .int v1), (3, .int v3)]) hC dX10_singersFor_36 rfl (by decide) rfl ?_
          refine x_iinc (k := 3) (v' := (v3 + (1 : Int32))) (ls' := [(3, .int (v3 + (1 : Int32))), (2, .int (v2 ||| (0 : Int32))), (0, .ref (x_a g 193)), (1, .int v1)]) hC dX10_singersFor_37 rfl rfl (by decide) rfl ?_
          refine x_goto (t := 4) hC dX10_singersFor_40 (by decide) ?_
          obtain ⟨n_1, hn, h⟩ := h
          exact x_sub [2, 3, 1, 0] rfl ((ih n_1 hn) _ _ _ _ h)
  have h := h0
  unfold vc_X10_singersFor at h
  refine x_iconst (v := 0) hC dX10_singersFor_0 (by decide) ?_
  refine x_istore_n (i := 2) (ls' := [(2, .int (0 : Int32)), (0, .ref (x_a g 193)), (1, .int v1)]) hC dX10_singersFor_1 rfl (by decide) rfl ?_
  refine x_iconst (v := 0) hC dX10_singersFor_2 (by decide) ?_
  refine x_istore_n (i := 3) (ls' := [(3, .int (0 : Int32)), (2, .int (0 : Int32)), (0, .ref (x_a g 193)), (1, .int v1)]) hC dX10_singersFor_3 rfl (by decide) rfl ?_
  obtain ⟨n_1, h⟩ := h
  exact x_sub [2, 3, 1, 0] rfl ((L n_1) _ _ _ _ h)
def vc_X10_ofSong (g : xG) (v1 : Int32) (v2 : Int32) (M : xM) (P : Int32 → xM → Prop) : Prop := (mi_X10_isSong g v1 M (fun r1 N2 => ((¬ r1 = 0 → ((((v2).toInt < 0 ∨ 4 < (v2).toInt) → P (-2 : Int32) N2) ∧ (v2 = (0 : Int32) → (mi_X10_songPart g v1 v2 N2 (fun r3 N4 => P r3 N4))) ∧ (v2 = (1 : Int32) → (mi_X10_songPart g v1 v2 N2 (fun r5 N6 => P r5 N6))) ∧ (v2 = (2 : Int32) → (mi_X10_songPart g v1 v2 N2 (fun r7 N8 => P r7 N8))) ∧ (v2 = (3 : Int32) → (mi_X10_singersFor g v1 N2 (fun r9 N10 => P r9 N10))) ∧ (v2 = (4 : Int32) → (mi_X10_songPart g v1 (3 : Int32) N2 (fun r11 N12 => P r11 N12))))) ∧ (r1 = 0 → P (-1 : Int32) N2))))
set_option maxRecDepth 100000 in
set_option maxHeartbeats 4000000 in
theorem wk_X10_ofSong {g : xG} (v1 : Int32) (v2 : Int32) (M : xM) (P : Int32 → xM → Prop) (h0 : vc_X10_ofSong g v1 v2 M P ) : mi_X10_ofSong g v1 v2 M P := by
  refine x_startI (as := [.ref (x_a g 193), .int v1, .int v2]) (cc := cX10_ofSong) (n := 3) (ret := (some .int)) (own := RX10) (by decide) rfl rfl (Nat.le_of_ble_eq_true rfl) (fun x hC hr => ?_)
  have h := h0
  unfold vc_X10_ofSong at h
  refine x_aload_n (i := 0) (q := 0) hC dX10_ofSong_0 rfl rfl ?_
  refine x_iload_n (i := 1) (q := 1) hC dX10_ofSong_1 rfl rfl ?_
  refine x_callVi (q := (RX10, TX10, 12)) (As := [.int v1]) hC xo_193 rfl h gX10_ofSong_X10_isSong rfl rfl rfl hy_X10_isSong ⟨Nat.le_of_ble_eq_true rfl, Nat.le_of_ble_eq_true rfl⟩ rfl (Nat.le_of_ble_eq_true rfl) rfl dX10_ofSong_2 (fun r1 N2 h => ?_)
  refine x_if_ne (t := 10) hC dX10_ofSong_5 (by decide) (fun q => ?_) (fun q => ?_)
  · replace h := h.1 q
    refine x_iload_n (i := 2) (q := 2) hC dX10_ofSong_10 rfl rfl ?_
    rcases Classical.em ((v2).toInt < 0 ∨ 4 < (v2).toInt) with q | q
    · refine x_tsOut (t := 64) hC dX10_ofSong_11 q (by decide) ?_
      replace h := h.1 q
      refine x_bipush (v := -2) hC dX10_ofSong_64 (by decide) ?_
      exact x_iret hC hr dX10_ofSong_66 h
    · have q2 : (v2).toInt = 0 ∨ (v2).toInt = 1 ∨ (v2).toInt = 2 ∨ (v2).toInt = 3 ∨ (v2).toInt = 4 := by omega
      rcases q2 with q2 | q2 | q2 | q2 | q2
      · replace q2 : v2 = (0 : Int32) := x_ofInt q2
        refine x_tsIn (o := 33) (t := 44) hC dX10_ofSong_11 (by rw [q2]; decide) (by rw [q2]; decide) (by rw [q2]; rfl) (by decide) ?_
        replace h := h.2.1 q2
        refine x_aload_n (i := 0) (q := 0) hC dX10_ofSong_44 rfl rfl ?_
        refine x_iload_n (i := 1) (q := 1) hC dX10_ofSong_45 rfl rfl ?_
        refine x_iload_n (i := 2) (q := 2) hC dX10_ofSong_46 rfl rfl ?_
        refine x_callVi (q := (RX10, TX10, 12)) (As := [.int v1, .int v2]) hC xo_193 rfl h gX10_ofSong_X10_songPart rfl rfl rfl hy_X10_songPart ⟨Nat.le_of_ble_eq_true rfl, Nat.le_of_ble_eq_true rfl⟩ rfl (Nat.le_of_ble_eq_true rfl) rfl dX10_ofSong_47 (fun r3 N4 h => ?_)
        exact x_iret hC hr dX10_ofSong_50 h
      · replace q2 : v2 = (1 : Int32) := x_ofInt q2
        refine x_tsIn (o := 33) (t := 44) hC dX10_ofSong_11 (by rw [q2]; decide) (by rw [q2]; decide) (by rw [q2]; rfl) (by decide) ?_
        replace h := h.2.2.1 q2
        refine x_aload_n (i := 0) (q := 0) hC dX10_ofSong_44 rfl rfl ?_
        refine x_iload_n (i := 1) (q := 1) hC dX10_ofSong_45 rfl rfl ?_
        refine x_iload_n (i := 2) (q := 2) hC dX10_ofSong_46 rfl rfl ?_
        refine x_callVi (q := (RX10, TX10, 12)) (As := [.int v1, .int v2]) hC xo_193 rfl h gX10_ofSong_X10_songPart rfl rfl rfl hy_X10_songPart ⟨Nat.le_of_ble_eq_true rfl, Nat.le_of_ble_eq_true rfl⟩ rfl (Nat.le_of_ble_eq_true rfl) rfl dX10_ofSong_47 (fun r5 N6 h => ?_)
        exact x_iret hC hr dX10_ofSong_50 h
      · replace q2 : v2 = (2 : Int32) := x_ofInt q2
        refine x_tsIn (o := 33) (t := 44) hC dX10_ofSong_11 (by rw [q2]; decide) (by rw [q2]; decide) (by rw [q2]; rfl) (by decide) ?_
        replace h := h.2.2.2.1 q2
        refine x_aload_n (i := 0) (q := 0) hC dX10_ofSong_44 rfl rfl ?_
        refine x_iload_n (i := 1) (q := 1) hC dX10_ofSong_45 rfl rfl ?_
        refine x_iload_n (i := 2) (q := 2) hC dX10_ofSong_46 rfl rfl ?_
        refine x_callVi (q := (RX10, TX10, 12)) (As := [.int v1, .int v2]) hC xo_193 rfl h gX10_ofSong_X10_songPart rfl rfl rfl hy_X10_songPart ⟨Nat.le_of_ble_eq_true rfl, Nat.le_of_ble_eq_true rfl⟩ rfl (Nat.le_of_ble_eq_true rfl) rfl dX10_ofSong_47 (fun r7 N8 h => ?_)
        exact x_iret hC hr dX10_ofSong_50 h
      · replace q2 : v2 = (3 : Int32) := x_ofInt q2
        refine x_tsIn (o := 40) (t := 51) hC dX10_ofSong_11 (by rw [q2]; decide) (by rw [q2]; decide) (by rw [q2]; rfl) (by decide) ?_
        replace h := h.2.2.2.2.1 q2
        refine x_aload_n (i := 0) (q := 0) hC dX10_ofSong_51 rfl rfl ?_
        refine x_iload_n (i := 1) (q := 1) hC dX10_ofSong_52 rfl rfl ?_
        refine x_callVi (q := (RX10, TX10, 12)) (As := [.int v1]) hC xo_193 rfl h gX10_ofSong_X10_singersFor rfl rfl rfl hy_X10_singersFor ⟨Nat.le_of_ble_eq_true rfl, Nat.le_of_ble_eq_true rfl⟩ rfl (Nat.le_of_ble_eq_true rfl) rfl dX10_ofSong_53 (fun r9 N10 h => ?_)
        exact x_iret hC hr dX10_ofSong_56 h
      · replace q2 : v2 = (4 : Int32) := x_ofInt q2
        refine x_tsIn (o := 46) (t := 57) hC dX10_ofSong_11 (by rw [q2]; decide) (by rw [q2]; decide) (by rw [q2]; rfl) (by decide) ?_
        replace h := h.2.2.2.2.2 q2
        refine x_aload_n (i := 0) (q := 0) hC dX10_ofSong_57 rfl rfl ?_
        refine x_iload_n (i := 1) (q := 1) hC dX10_ofSong_58 rfl rfl ?_
        refine x_iconst (v := 3) hC dX10_ofSong_59 (by decide) ?_
        refine x_callVi (q := (RX10, TX10, 12)) (As := [.int v1, .int (3 : Int32)]) hC xo_193 rfl h gX10_ofSong_X10_songPart rfl rfl rfl hy_X10_songPart ⟨Nat.le_of_ble_eq_true rfl, Nat.le_of_ble_eq_true rfl⟩ rfl (Nat.le_of_ble_eq_true rfl) rfl dX10_ofSong_60 (fun r11 N12 h => ?_)
        exact x_iret hC hr dX10_ofSong_63 h
  · replace h := h.2 q
    refine x_iconst (v := -1) hC dX10_ofSong_8 (by decide) ?_
    exact x_iret hC hr dX10_ofSong_9 h
theorem kf_X10_past_7 : x_okf wsX10_past RX10 7 10 0 = true := by decide +kernel
def vc_X10_past (g : xG) (v1 : Int32) (v2 : Int32) (M : xM) (P : Int32 → xM → Prop) : Prop := (vp_in (6 : Int32) 239 ∧ (mi_X10_within g v1 (0 : Int32) ((M 194 ((6 : Int32)).toNatClampNeg) - (1 : Int32)) M (fun r1 N2 => ((¬ r1 = 0 → (mi_X10_within g v2 (0 : Int32) (3 : Int32) N2 (fun r3 N4 => ((r3 = 0 → P (-2 : Int32) N4) ∧ (¬ (r3 = 0) → (vp_in (((191 : Int32) + ((4 : Int32) * v1)) + v2) 239 ∧ P (N4 194 ((((191 : Int32) + ((4 : Int32) * v1)) + v2)).toNatClampNeg) N4)))))) ∧ (r1 = 0 → P (-1 : Int32) N2)))))
set_option maxRecDepth 100000 in
set_option maxHeartbeats 4000000 in
theorem wk_X10_past {g : xG} (v1 : Int32) (v2 : Int32) (M : xM) (P : Int32 → xM → Prop) (h0 : vc_X10_past g v1 v2 M P ) : mi_X10_past g v1 v2 M P := by
  refine x_startI (as := [.ref (x_a g 193), .int v1, .int v2]) (cc := cX10_past) (n := 3) (ret := (some .int)) (own := RX10) (by decide) rfl rfl (Nat.le_of_ble_eq_true rfl) (fun x hC hr => ?_)
  have h := h0
  unfold vc_X10_past at h
  refine x_iload_n (i := 1) (q := 1) hC dX10_past_0 rfl rfl ?_
  refine x_iconst (v := 0) hC dX10_past_1 (by decide) ?_
  refine x_aload_n (i := 0) (q := 0) hC dX10_past_2 rfl rfl ?_
  refine x_getr (k := 0) (r := 194) hC xo_193 rfl kf_X10_past_7 dX10_past_3 ?_
  refine x_bipush (v := 6) hC dX10_past_6 (by decide) ?_
  refine x_iald (len := 239) hC xa_194 h.1 dX10_past_8 ?_
  replace h := h.2
  refine x_iconst (v := 1) hC dX10_past_9 (by decide) ?_
  refine x_isub hC dX10_past_10 ?_
  refine x_callSi (As := [.int v1, .int (0 : Int32), .int ((M 194 ((6 : Int32)).toNatClampNeg) - (1 : Int32))]) hC h gX10_past_X10_within rfl rfl rfl hy_X10_within.2 ⟨Nat.le_of_ble_eq_true rfl, Nat.le_of_ble_eq_true rfl⟩ rfl (Nat.le_of_ble_eq_true rfl) rfl dX10_past_11 (fun r1 N2 h => ?_)
  refine x_if_ne (t := 19) hC dX10_past_14 (by decide) (fun q => ?_) (fun q => ?_)
  · replace h := h.1 q
    refine x_iload_n (i := 2) (q := 2) hC dX10_past_19 rfl rfl ?_
    refine x_iconst (v := 0) hC dX10_past_20 (by decide) ?_
    refine x_iconst (v := 3) hC dX10_past_21 (by decide) ?_
    refine x_callSi (As := [.int v2, .int (0 : Int32), .int (3 : Int32)]) hC h gX10_past_X10_within rfl rfl rfl hy_X10_within.2 ⟨Nat.le_of_ble_eq_true rfl, Nat.le_of_ble_eq_true rfl⟩ rfl (Nat.le_of_ble_eq_true rfl) rfl dX10_past_22 (fun r3 N4 h => ?_)
    refine x_if_eq (t := 45) hC dX10_past_25 (by decide) (fun q => ?_) (fun q => ?_)
    · replace h := h.1 q
      refine x_bipush (v := -2) hC dX10_past_45 (by decide) ?_
      exact x_iret hC hr dX10_past_47 h
    · replace h := h.2 q
      refine x_aload_n (i := 0) (q := 0) hC dX10_past_28 rfl rfl ?_
      refine x_getr (k := 0) (r := 194) hC xo_193 rfl kf_X10_past_7 dX10_past_29 ?_
      refine x_sipush (v := 191) hC dX10_past_32 (by decide) ?_
      refine x_iconst (v := 4) hC dX10_past_35 (by decide) ?_
      refine x_iload_n (i := 1) (q := 1) hC dX10_past_36 rfl rfl ?_
      refine x_imul hC dX10_past_37 ?_
      refine x_iadd hC dX10_past_38 ?_
      refine x_iload_n (i := 2) (q := 2) hC dX10_past_39 rfl rfl ?_
      refine x_iadd hC dX10_past_40 ?_
      refine x_iald (len := 239) hC xa_194 h.1 dX10_past_41 ?_
      replace h := h.2
      refine x_goto (t := 47) hC dX10_past_42 (by decide) ?_
      exact x_iret hC hr dX10_past_47 h
  · replace h := h.2 q
    refine x_iconst (v := -1) hC dX10_past_17 (by decide) ?_
    exact x_iret hC hr dX10_past_18 h
theorem kf_X10_readyMany_7 : x_okf wsX10_readyMany RX10 7 10 0 = true := by decide +kernel
def vc_X10_readyMany (g : xG) (M : xM) (P : Int32 → xM → Prop) (K1 : Int32 → Int32 → xM → Prop) : Prop := K1 (0 : Int32) (0 : Int32) M
def vc_X10_readyMany_1 (g : xG) (v1 : Int32) (v2 : Int32) (M : xM) (P : Int32 → xM → Prop) (K1 : Int32 → Int32 → xM → Prop) : Prop := (vp_in (2 : Int32) 239 ∧ (((M 194 ((2 : Int32)).toNatClampNeg) ≤ v2 → P v1 M) ∧ (¬ ((M 194 ((2 : Int32)).toNatClampNeg) ≤ v2) → (mi_X10_isReady g v2 M (fun r1 N2 => ((r1 = 0 → K1 (v1 + (0 : Int32)) (v2 + (1 : Int32)) N2) ∧ (¬ (r1 = 0) → K1 (v1 + (1 : Int32)) (v2 + (1 : Int32)) N2)))))))
set_option maxRecDepth 100000 in
set_option maxHeartbeats 4000000 in
theorem wk_X10_readyMany {g : xG}  (M : xM) (P : Int32 → xM → Prop) (I1 : Nat → Int32 → Int32 → xM → Prop) (h0 : vc_X10_readyMany g M P (fun v1 v2 N => ∃ k, I1 k v1 v2 N)) (h1 : ∀ (n : Nat) (v1 : Int32) (v2 : Int32) (N : xM), I1 n v1 v2 N → vc_X10_readyMany_1 g v1 v2 N P (fun v1 v2 N => ∃ k, k < n ∧ I1 k v1 v2 N)) : mi_X10_readyMany g M P := by
  refine x_startI (as := [.ref (x_a g 193)]) (cc := cX10_readyMany) (n := 3) (ret := (some .int)) (own := RX10) (by decide) rfl rfl (Nat.le_of_ble_eq_true rfl) (fun x hC hr => ?_)
  have L : ∀ n : Nat, (∀ (v1 : Int32) (v2 : Int32) (N : xM), I1 n v1 v2 N → x_W x g 3 (x_Qi x g P) N 4 [(0, .ref (x_a g 193)), (1, .int v1), (2, .int v2)] []) := by
    intro n
    induction n using Nat.strongRecOn with
    | ind n ih =>
      intro v1 v2 M hI
      have h := h1 n v1 v2 M hI
      unfold vc_X10_readyMany_1 at h
      refine x_iload_n (i := 2) (q := 2) hC dX10_readyMany_4 rfl rfl ?_
      refine x_aload_n (i := 0) (q := 0) hC dX10_readyMany_5 rfl rfl ?_
      refine x_getr (k := 0) (r := 194) hC xo_193 rfl kf_X10_readyMany_7 dX10_readyMany_6 ?_
      refine x_iconst (v := 2) hC dX10_readyMany_9 (by decide) ?_
      refine x_iald (len := 239) hC xa_194 h.1 dX10_readyMany_10 ?_
      replace h := h.2
      refine x_icmp_ge (t := 36) hC dX10_readyMany_11 (by decide) (fun q => ?_) (fun q => ?_)
      · replace h := h.1 q
        refine x_iload_n (i := 1) (q := 1) hC dX10_readyMany_36 rfl rfl ?_
        exact x_iret hC hr dX10_readyMany_37 h
      · replace h := h.2 q
        refine x_iload_n (i := 1) (q := 1) hC dX10_readyMany_14 rfl rfl ?_
        refine x_aload_n (i := 0) (q := 0) hC dX10_readyMany_15 rfl rfl ?_
        refine x_iload_n (i := 2) (q := 2) hC dX10_readyMany_16 rfl rfl ?_
        refine x_callVi (q := (RX10, TX10, 12)) (As := [.int v2]) hC xo_193 rfl h gX10_readyMany_X10_isReady rfl rfl rfl hy_X10_isReady ⟨Nat.le_of_ble_eq_true rfl, Nat.le_of_ble_eq_true rfl⟩ rfl (Nat.le_of_ble_eq_true rfl) rfl dX10_readyMany_17 (fun r1 N2 h => ?_)
        refine x_if_eq (t := 27) hC dX10_readyMany_20 (by decide) (fun q => ?_) (fun q => ?_)
        · replace h := h.1 q
          refine x_iconst (v := 0) hC dX10_readyMany_27 (by decide) ?_
          refine x_iadd hC dX10_readyMany_28 ?_
          refine x_istore_n (i := 1) (ls' := [(1, .int (v1 + (0 : Int32))), (0, .ref (x_a g 193)), (2, .int v2)]) hC dX10_readyMany_29 rfl (by decide) rfl ?_
          refine x_iinc (k := 2) (v' := (v2 + (1 : Int32))) (ls' := [(2, .int (v2 + (1 : Int32))), (1, .int (v1 + (0 : Int32))), (0, .ref (x_a g 193))]) hC dX10_readyMany_30 rfl rfl (by decide) rfl ?_
          refine x_goto (t := 4) hC dX10_readyMany_33 (by decide) ?_
          obtain ⟨n_1, hn, h⟩ := h
          exact x_sub [2, 1, 0] rfl ((ih n_1 hn) _ _ _ h)
        · replace h := h.2 q
          refine x_iconst (v := 1) hC dX10_readyMany_23 (by decide) ?_
          refine x_goto (t := 28) hC dX10_readyMany_24 (by decide) ?_
          refine x_iadd hC dX10_readyMany_28 ?_
          refine x_istore_n (i := 1) (ls' := [(1, .int (v1 + (1 : Int32))), (0, .ref (x_a g 193)), (2, .int v2)]) hC dX10_readyMany_29 rfl (by decide) rfl ?_
          refine x_iinc (k := 2) (v' := (v2 + (1 : Int32))) (ls' := [(2, .int (v2 + (1 : Int32))), (1, .int (v1 + (1 : Int32))), (0, .ref (x_a g 193))]) hC dX10_readyMany_30 rfl rfl (by decide) rfl ?_
          refine x_goto (t := 4) hC dX10_readyMany_33 (by decide) ?_
          obtain ⟨n_1, hn, h⟩ := h
          exact x_sub [2, 1, 0] rfl ((ih n_1 hn) _ _ _ h)
  have h := h0
  unfold vc_X10_readyMany at h
  refine x_iconst (v := 0) hC dX10_readyMany_0 (by decide) ?_
  refine x_istore_n (i := 1) (ls' := [(1, .int (0 : Int32)), (0, .ref (x_a g 193))]) hC dX10_readyMany_1 rfl (by decide) rfl ?_
  refine x_iconst (v := 0) hC dX10_readyMany_2 (by decide) ?_
  refine x_istore_n (i := 2) (ls' := [(2, .int (0 : Int32)), (1, .int (0 : Int32)), (0, .ref (x_a g 193))]) hC dX10_readyMany_3 rfl (by decide) rfl ?_
  obtain ⟨n_1, h⟩ := h
  exact x_sub [2, 1, 0] rfl ((L n_1) _ _ _ h)
def vc_X10_singUpTo (g : xG) (v1 : Int32) (M : xM) (P : Int32 → xM → Prop) (K1 : Int32 → Int32 → Int32 → xM → Prop) : Prop := (mi_X10_nextWish g M (fun r1 N2 => K1 v1 (0 : Int32) r1 N2))
def vc_X10_singUpTo_1 (g : xG) (v2 : Int32) (v3 : Int32) (v4 : Int32) (M : xM) (P : Int32 → xM → Prop) (K1 : Int32 → Int32 → Int32 → xM → Prop) : Prop := ((v4 = v2 → P v3 M) ∧ (¬ (v4 = v2) → (mi_X10_singWish g v4 M (fun N3 => ((v2 ≤ v4 → (mi_X10_nextWish g N3 (fun r4 N5 => K1 (v2 - (0 : Int32)) (v3 + (1 : Int32)) r4 N5))) ∧ (¬ (v2 ≤ v4) → (mi_X10_nextWish g N3 (fun r6 N7 => K1 (v2 - (1 : Int32)) (v3 + (1 : Int32)) r6 N7))))))))
set_option maxRecDepth 100000 in
set_option maxHeartbeats 4000000 in
theorem wk_X10_singUpTo {g : xG} (v1 : Int32) (M : xM) (P : Int32 → xM → Prop) (I1 : Nat → Int32 → Int32 → Int32 → xM → Prop) (h0 : vc_X10_singUpTo g v1 M P (fun v2 v3 v4 N => ∃ k, I1 k v2 v3 v4 N)) (h1 : ∀ (n : Nat) (v2 : Int32) (v3 : Int32) (v4 : Int32) (N : xM), I1 n v2 v3 v4 N → vc_X10_singUpTo_1 g v2 v3 v4 N P (fun v2 v3 v4 N => ∃ k, k < n ∧ I1 k v2 v3 v4 N)) : mi_X10_singUpTo g v1 M P := by
  refine x_startI (as := [.ref (x_a g 193), .int v1]) (cc := cX10_singUpTo) (n := 5) (ret := (some .int)) (own := RX10) (by decide) rfl rfl (Nat.le_of_ble_eq_true rfl) (fun x hC hr => ?_)
  have L : ∀ n : Nat, (∀ (v2 : Int32) (v3 : Int32) (v4 : Int32) (N : xM), I1 n v2 v3 v4 N → x_W x g 5 (x_Qi x g P) N 10 [(0, .ref (x_a g 193)), (2, .int v2), (3, .int v3), (4, .int v4)] []) := by
    intro n
    induction n using Nat.strongRecOn with
    | ind n ih =>
      intro v2 v3 v4 M hI
      have h := h1 n v2 v3 v4 M hI
      unfold vc_X10_singUpTo_1 at h
      refine x_iload (q := 3) hC dX10_singUpTo_10 rfl ?_
      refine x_iload_n (i := 2) (q := 1) hC dX10_singUpTo_12 rfl rfl ?_
      refine x_icmp_eq (t := 48) hC dX10_singUpTo_13 (by decide) (fun q => ?_) (fun q => ?_)
      · replace h := h.1 q
        refine x_iload_n (i := 3) (q := 2) hC dX10_singUpTo_48 rfl rfl ?_
        exact x_iret hC hr dX10_singUpTo_49 h
      · replace h := h.2 q
        refine x_aload_n (i := 0) (q := 0) hC dX10_singUpTo_16 rfl rfl ?_
        refine x_iload (q := 3) hC dX10_singUpTo_17 rfl ?_
        refine x_callVv (q := (RX10, TX10, 12)) (As := [.int v4]) hC xo_193 rfl h gX10_singUpTo_X10_singWish rfl rfl rfl hy_X10_singWish ⟨Nat.le_of_ble_eq_true rfl, Nat.le_of_ble_eq_true rfl⟩ rfl (Nat.le_of_ble_eq_true rfl) rfl dX10_singUpTo_19 (fun N3 h => ?_)
        refine x_iload_n (i := 2) (q := 1) hC dX10_singUpTo_22 rfl rfl ?_
        refine x_iload (q := 3) hC dX10_singUpTo_23 rfl ?_
        refine x_iload_n (i := 2) (q := 1) hC dX10_singUpTo_25 rfl rfl ?_
        refine x_icmp_ge (t := 33) hC dX10_singUpTo_26 (by decide) (fun q => ?_) (fun q => ?_)
        · replace h := h.1 q
          refine x_iconst (v := 0) hC dX10_singUpTo_33 (by decide) ?_
          refine x_isub hC dX10_singUpTo_34 ?_
          refine x_istore_n (i := 2) (ls' := [(2, .int (v2 - (0 : Int32))), (0, .ref (x_a g 193)), (3, .int v3), (4, .int v4)]) hC dX10_singUpTo_35 rfl (by decide) rfl ?_
          refine x_iinc (k := 2) (v' := (v3 + (1 : Int32))) (ls' := [(3, .int (v3 + (1 : Int32))), (2, .int (v2 - (0 : Int32))), (0, .ref (x_a g 193)), (4, .int v4)]) hC dX10_singUpTo_36 rfl rfl (by decide) rfl ?_
          refine x_aload_n (i := 0) (q := 2) hC dX10_singUpTo_39 rfl rfl ?_
          refine x_callVi (q := (RX10, TX10, 12)) (As := []) hC xo_193 rfl h gX10_singUpTo_X10_nextWish rfl rfl rfl hy_X10_nextWish ⟨Nat.le_of_ble_eq_true rfl, Nat.le_of_ble_eq_true rfl⟩ rfl (Nat.le_of_ble_eq_true rfl) rfl dX10_singUpTo_40 (fun r4 N5 h => ?_)
          refine x_istore (ls' := [(4, .int r4), (3, .int (v3 + (1 : Int32))), (2, .int (v2 - (0 : Int32))), (0, .ref (x_a g 193))]) hC dX10_singUpTo_43 (by decide) rfl ?_
          refine x_goto (t := 10) hC dX10_singUpTo_45 (by decide) ?_
          obtain ⟨n_1, hn, h⟩ := h
          exact x_sub [3, 2, 1, 0] rfl ((ih n_1 hn) _ _ _ _ h)
        · replace h := h.2 q
          refine x_iconst (v := 1) hC dX10_singUpTo_29 (by decide) ?_
          refine x_goto (t := 34) hC dX10_singUpTo_30 (by decide) ?_
          refine x_isub hC dX10_singUpTo_34 ?_
          refine x_istore_n (i := 2) (ls' := [(2, .int (v2 - (1 : Int32))), (0, .ref (x_a g 193)), (3, .int v3), (4, .int v4)]) hC dX10_singUpTo_35 rfl (by decide) rfl ?_
          refine x_iinc (k := 2) (v' := (v3 + (1 : Int32))) (ls' := [(3, .int (v3 + (1 : Int32))), (2, .int (v2 - (1 : Int32))), (0, .ref (x_a g 193)), (4, .int v4)]) hC dX10_singUpTo_36 rfl rfl (by decide) rfl ?_
          refine x_aload_n (i := 0) (q := 2) hC dX10_singUpTo_39 rfl rfl ?_
          refine x_callVi (q := (RX10, TX10, 12)) (As := []) hC xo_193 rfl h gX10_singUpTo_X10_nextWish rfl rfl rfl hy_X10_nextWish ⟨Nat.le_of_ble_eq_true rfl, Nat.le_of_ble_eq_true rfl⟩ rfl (Nat.le_of_ble_eq_true rfl) rfl dX10_singUpTo_40 (fun r6 N7 h => ?_)
          refine x_istore (ls' := [(4, .int r6), (3, .int (v3 + (1 : Int32))), (2, .int (v2 - (1 : Int32))), (0, .ref (x_a g 193))]) hC dX10_singUpTo_43 (by decide) rfl ?_
          refine x_goto (t := 10) hC dX10_singUpTo_45 (by decide) ?_
          obtain ⟨n_1, hn, h⟩ := h
          exact x_sub [3, 2, 1, 0] rfl ((ih n_1 hn) _ _ _ _ h)
  have h := h0
  unfold vc_X10_singUpTo at h
  refine x_iload_n (i := 1) (q := 1) hC dX10_singUpTo_0 rfl rfl ?_
  refine x_istore_n (i := 2) (ls' := [(2, .int v1), (0, .ref (x_a g 193)), (1, .int v1)]) hC dX10_singUpTo_1 rfl (by decide) rfl ?_
  refine x_iconst (v := 0) hC dX10_singUpTo_2 (by decide) ?_
  refine x_istore_n (i := 3) (ls' := [(3, .int (0 : Int32)), (2, .int v1), (0, .ref (x_a g 193)), (1, .int v1)]) hC dX10_singUpTo_3 rfl (by decide) rfl ?_
  refine x_aload_n (i := 0) (q := 2) hC dX10_singUpTo_4 rfl rfl ?_
  refine x_callVi (q := (RX10, TX10, 12)) (As := []) hC xo_193 rfl h gX10_singUpTo_X10_nextWish rfl rfl rfl hy_X10_nextWish ⟨Nat.le_of_ble_eq_true rfl, Nat.le_of_ble_eq_true rfl⟩ rfl (Nat.le_of_ble_eq_true rfl) rfl dX10_singUpTo_5 (fun r1 N2 h => ?_)
  refine x_istore (ls' := [(4, .int r1), (3, .int (0 : Int32)), (2, .int v1), (0, .ref (x_a g 193)), (1, .int v1)]) hC dX10_singUpTo_8 (by decide) rfl ?_
  obtain ⟨n_1, h⟩ := h
  exact x_sub [3, 2, 1, 0] rfl ((L n_1) _ _ _ _ h)
theorem kf_X10_ifLeft_7 : x_okf wsX10_ifLeft RX10 7 10 0 = true := by decide +kernel
def vc_X10_ifLeft (g : xG) (v1 : Int32) (M : xM) (P : Int32 → xM → Prop) : Prop := (mi_X10_isSinger g v1 M (fun r1 N2 => ((¬ r1 = 0 → (mi_X10_singerPart g v1 (2 : Int32) N2 (fun r3 N4 => (mi_X10_setSinger g v1 (2 : Int32) (0 : Int32) N4 (fun N5 => (vp_in (2 : Int32) 239 ∧ (mi_X10_readyMany g N5 (fun r6 N7 => (mi_X10_setSinger g v1 (2 : Int32) r3 N7 (fun N8 => P ((N5 194 ((2 : Int32)).toNatClampNeg) - r6) N8)))))))))) ∧ (r1 = 0 → P (-1 : Int32) N2))))
set_option maxRecDepth 100000 in
set_option maxHeartbeats 4000000 in
theorem wk_X10_ifLeft {g : xG} (v1 : Int32) (M : xM) (P : Int32 → xM → Prop) (h0 : vc_X10_ifLeft g v1 M P ) : mi_X10_ifLeft g v1 M P := by
  refine x_startI (as := [.ref (x_a g 193), .int v1]) (cc := cX10_ifLeft) (n := 4) (ret := (some .int)) (own := RX10) (by decide) rfl rfl (Nat.le_of_ble_eq_true rfl) (fun x hC hr => ?_)
  have h := h0
  unfold vc_X10_ifLeft at h
  refine x_aload_n (i := 0) (q := 0) hC dX10_ifLeft_0 rfl rfl ?_
  refine x_iload_n (i := 1) (q := 1) hC dX10_ifLeft_1 rfl rfl ?_
  refine x_callVi (q := (RX10, TX10, 12)) (As := [.int v1]) hC xo_193 rfl h gX10_ifLeft_X10_isSinger rfl rfl rfl hy_X10_isSinger ⟨Nat.le_of_ble_eq_true rfl, Nat.le_of_ble_eq_true rfl⟩ rfl (Nat.le_of_ble_eq_true rfl) rfl dX10_ifLeft_2 (fun r1 N2 h => ?_)
  refine x_if_ne (t := 10) hC dX10_ifLeft_5 (by decide) (fun q => ?_) (fun q => ?_)
  · replace h := h.1 q
    refine x_aload_n (i := 0) (q := 0) hC dX10_ifLeft_10 rfl rfl ?_
    refine x_iload_n (i := 1) (q := 1) hC dX10_ifLeft_11 rfl rfl ?_
    refine x_iconst (v := 2) hC dX10_ifLeft_12 (by decide) ?_
    refine x_callVi (q := (RX10, TX10, 12)) (As := [.int v1, .int (2 : Int32)]) hC xo_193 rfl h gX10_ifLeft_X10_singerPart rfl rfl rfl hy_X10_singerPart ⟨Nat.le_of_ble_eq_true rfl, Nat.le_of_ble_eq_true rfl⟩ rfl (Nat.le_of_ble_eq_true rfl) rfl dX10_ifLeft_13 (fun r3 N4 h => ?_)
    refine x_istore_n (i := 2) (ls' := [(2, .int r3), (0, .ref (x_a g 193)), (1, .int v1)]) hC dX10_ifLeft_16 rfl (by decide) rfl ?_
    refine x_aload_n (i := 0) (q := 1) hC dX10_ifLeft_17 rfl rfl ?_
    refine x_iload_n (i := 1) (q := 2) hC dX10_ifLeft_18 rfl rfl ?_
    refine x_iconst (v := 2) hC dX10_ifLeft_19 (by decide) ?_
    refine x_iconst (v := 0) hC dX10_ifLeft_20 (by decide) ?_
    refine x_callVv (q := (RX10, TX10, 12)) (As := [.int v1, .int (2 : Int32), .int (0 : Int32)]) hC xo_193 rfl h gX10_ifLeft_X10_setSinger rfl rfl rfl hy_X10_setSinger ⟨Nat.le_of_ble_eq_true rfl, Nat.le_of_ble_eq_true rfl⟩ rfl (Nat.le_of_ble_eq_true rfl) rfl dX10_ifLeft_21 (fun N5 h => ?_)
    refine x_aload_n (i := 0) (q := 1) hC dX10_ifLeft_24 rfl rfl ?_
    refine x_getr (k := 0) (r := 194) hC xo_193 rfl kf_X10_ifLeft_7 dX10_ifLeft_25 ?_
    refine x_iconst (v := 2) hC dX10_ifLeft_28 (by decide) ?_
    refine x_iald (len := 239) hC xa_194 h.1 dX10_ifLeft_29 ?_
    replace h := h.2
    refine x_aload_n (i := 0) (q := 1) hC dX10_ifLeft_30 rfl rfl ?_
    refine x_callVi (q := (RX10, TX10, 12)) (As := []) hC xo_193 rfl h gX10_ifLeft_X10_readyMany rfl rfl rfl hy_X10_readyMany ⟨Nat.le_of_ble_eq_true rfl, Nat.le_of_ble_eq_true rfl⟩ rfl (Nat.le_of_ble_eq_true rfl) rfl dX10_ifLeft_31 (fun r6 N7 h => ?_)
    refine x_isub hC dX10_ifLeft_34 ?_
    refine x_istore_n (i := 3) (ls' := [(3, .int ((N5 194 ((2 : Int32)).toNatClampNeg) - r6)), (2, .int r3), (0, .ref (x_a g 193)), (1, .int v1)]) hC dX10_ifLeft_35 rfl (by decide) rfl ?_
    refine x_aload_n (i := 0) (q := 2) hC dX10_ifLeft_36 rfl rfl ?_
    refine x_iload_n (i := 1) (q := 3) hC dX10_ifLeft_37 rfl rfl ?_
    refine x_iconst (v := 2) hC dX10_ifLeft_38 (by decide) ?_
    refine x_iload_n (i := 2) (q := 1) hC dX10_ifLeft_39 rfl rfl ?_
    refine x_callVv (q := (RX10, TX10, 12)) (As := [.int v1, .int (2 : Int32), .int r3]) hC xo_193 rfl h gX10_ifLeft_X10_setSinger rfl rfl rfl hy_X10_setSinger ⟨Nat.le_of_ble_eq_true rfl, Nat.le_of_ble_eq_true rfl⟩ rfl (Nat.le_of_ble_eq_true rfl) rfl dX10_ifLeft_40 (fun N8 h => ?_)
    refine x_iload_n (i := 3) (q := 0) hC dX10_ifLeft_43 rfl rfl ?_
    exact x_iret hC hr dX10_ifLeft_44 h
  · replace h := h.2 q
    refine x_iconst (v := -1) hC dX10_ifLeft_8 (by decide) ?_
    exact x_iret hC hr dX10_ifLeft_9 h
theorem kf_X10_wipe_127 : x_okf wsX10_wipe RX10 127 10 7 = true := by decide +kernel
def vc_X10_wipe (g : xG) (M : xM) (P : Int32 → xM → Prop) : Prop := P (M 193 7) (x_up M 193 7 (0 : Int32))
set_option maxRecDepth 100000 in
set_option maxHeartbeats 4000000 in
theorem wk_X10_wipe {g : xG}  (M : xM) (P : Int32 → xM → Prop) (h0 : vc_X10_wipe g M P ) : mi_X10_wipe g M P := by
  refine x_startI (as := [.ref (x_a g 193)]) (cc := cX10_wipe) (n := 2) (ret := (some .int)) (own := RX10) (by decide) rfl rfl (Nat.le_of_ble_eq_true rfl) (fun x hC hr => ?_)
  have h := h0
  unfold vc_X10_wipe at h
  refine x_aload_n (i := 0) (q := 0) hC dX10_wipe_0 rfl rfl ?_
  refine x_geti (k := 7) hC xo_193 rfl kf_X10_wipe_127 dX10_wipe_1 ?_
  refine x_istore_n (i := 1) (ls' := [(1, .int (M 193 7)), (0, .ref (x_a g 193))]) hC dX10_wipe_4 rfl (by decide) rfl ?_
  refine x_aload_n (i := 0) (q := 1) hC dX10_wipe_5 rfl rfl ?_
  refine x_iconst (v := 0) hC dX10_wipe_6 (by decide) ?_
  refine x_puti (k := 7) hC xo_193 rfl kf_X10_wipe_127 kp_10_7 dX10_wipe_7 ?_
  refine x_iload_n (i := 1) (q := 0) hC dX10_wipe_10 rfl rfl ?_
  exact x_iret hC hr dX10_wipe_11 h
def vc_X10_fault (g : xG) (M : xM) (P : Int32 → xM → Prop) : Prop := (mi_X10_findFault g M (fun r1 N2 => P r1 N2))
set_option maxRecDepth 100000 in
set_option maxHeartbeats 4000000 in
theorem wk_X10_fault {g : xG}  (M : xM) (P : Int32 → xM → Prop) (h0 : vc_X10_fault g M P ) : mi_X10_fault g M P := by
  refine x_startI (as := [.ref (x_a g 193)]) (cc := cX10_fault) (n := 1) (ret := (some .int)) (own := RX10) (by decide) rfl rfl (Nat.le_of_ble_eq_true rfl) (fun x hC hr => ?_)
  have h := h0
  unfold vc_X10_fault at h
  refine x_aload_n (i := 0) (q := 0) hC dX10_fault_0 rfl rfl ?_
  refine x_callVi (q := (RX10, TX10, 12)) (As := []) hC xo_193 rfl h gX10_fault_X10_findFault rfl rfl rfl hy_X10_findFault ⟨Nat.le_of_ble_eq_true rfl, Nat.le_of_ble_eq_true rfl⟩ rfl (Nat.le_of_ble_eq_true rfl) rfl dX10_fault_1 (fun r1 N2 h => ?_)
  exact x_iret hC hr dX10_fault_4 h
theorem kf_X10_undo_28 : x_okf wsX10_undo RX10 28 10 3 = true := by decide +kernel
theorem kf_X10_undo_16 : x_okf wsX10_undo RX10 16 10 2 = true := by decide +kernel
theorem kf_X10_undo_7 : x_okf wsX10_undo RX10 7 10 0 = true := by decide +kernel
def vc_X10_undo (g : xG) (M : xM) (P : Int32 → xM → Prop) : Prop := ((¬ (M 193 3) = 0 → (mi_X10_moves g 196 (((x_up M 193 3 ((M 193 3) - (1 : Int32))) 193 3) * (239 : Int32)) 194 (0 : Int32) (x_up M 193 3 ((M 193 3) - (1 : Int32))) (fun N1 => P (N1 193 3) N1))) ∧ ((M 193 3) = 0 → P (-5 : Int32) M))
set_option maxRecDepth 100000 in
set_option maxHeartbeats 4000000 in
theorem wk_X10_undo {g : xG}  (M : xM) (P : Int32 → xM → Prop) (h0 : vc_X10_undo g M P ) : mi_X10_undo g M P := by
  refine x_startI (as := [.ref (x_a g 193)]) (cc := cX10_undo) (n := 1) (ret := (some .int)) (own := RX10) (by decide) rfl rfl (Nat.le_of_ble_eq_true rfl) (fun x hC hr => ?_)
  have h := h0
  unfold vc_X10_undo at h
  refine x_aload_n (i := 0) (q := 0) hC dX10_undo_0 rfl rfl ?_
  refine x_geti (k := 3) hC xo_193 rfl kf_X10_undo_28 dX10_undo_1 ?_
  refine x_if_ne (t := 10) hC dX10_undo_4 (by decide) (fun q => ?_) (fun q => ?_)
  · replace h := h.1 q
    refine x_aload_n (i := 0) (q := 0) hC dX10_undo_10 rfl rfl ?_
    refine x_dup hC dX10_undo_11 rfl ?_
    refine x_geti (k := 3) hC xo_193 rfl kf_X10_undo_28 dX10_undo_12 ?_
    refine x_iconst (v := 1) hC dX10_undo_15 (by decide) ?_
    refine x_isub hC dX10_undo_16 ?_
    refine x_puti (k := 3) hC xo_193 rfl kf_X10_undo_28 kp_10_3 dX10_undo_17 ?_
    refine x_aload_n (i := 0) (q := 0) hC dX10_undo_20 rfl rfl ?_
    refine x_getr (k := 2) (r := 196) hC xo_193 rfl kf_X10_undo_16 dX10_undo_21 ?_
    refine x_aload_n (i := 0) (q := 0) hC dX10_undo_24 rfl rfl ?_
    refine x_geti (k := 3) hC xo_193 rfl kf_X10_undo_28 dX10_undo_25 ?_
    refine x_sipush (v := 239) hC dX10_undo_28 (by decide) ?_
    refine x_imul hC dX10_undo_31 ?_
    refine x_aload_n (i := 0) (q := 0) hC dX10_undo_32 rfl rfl ?_
    refine x_getr (k := 0) (r := 194) hC xo_193 rfl kf_X10_undo_7 dX10_undo_33 ?_
    refine x_iconst (v := 0) hC dX10_undo_36 (by decide) ?_
    refine x_callSv (As := [.ref (x_a g 196), .int (((x_up M 193 3 ((M 193 3) - (1 : Int32))) 193 3) * (239 : Int32)), .ref (x_a g 194), .int (0 : Int32)]) hC h gX10_undo_X10_moves rfl rfl rfl hy_X10_moves.2 ⟨Nat.le_of_ble_eq_true rfl, Nat.le_of_ble_eq_true rfl⟩ rfl (Nat.le_of_ble_eq_true rfl) rfl dX10_undo_37 (fun N1 h => ?_)
    refine x_aload_n (i := 0) (q := 0) hC dX10_undo_40 rfl rfl ?_
    refine x_geti (k := 3) hC xo_193 rfl kf_X10_undo_28 dX10_undo_41 ?_
    exact x_iret hC hr dX10_undo_44 h
  · replace h := h.2 q
    refine x_bipush (v := -5) hC dX10_undo_7 (by decide) ?_
    exact x_iret hC hr dX10_undo_9 h
theorem kf_X10_save_7 : x_okf wsX10_save RX10 7 10 0 = true := by decide +kernel
theorem kf_X10_save_19 : x_okf wsX10_save RX10 19 10 4 = true := by decide +kernel
theorem kf_X10_save_22 : x_okf wsX10_save RX10 22 10 5 = true := by decide +kernel
def vc_X10_save (g : xG) (v1 : Int32) (M : xM) (P : Int32 → xM → Prop) : Prop := (mi_X10_within g v1 (0 : Int32) (1 : Int32) M (fun r1 N2 => ((¬ r1 = 0 → (mi_X10_moves g 194 (0 : Int32) 197 ((239 : Int32) * v1) N2 (fun N3 => (vp_in v1 2 ∧ (vp_in (2 : Int32) 239 ∧ P ((x_up N3 198 (v1).toNatClampNeg (1 : Int32)) 194 ((2 : Int32)).toNatClampNeg) (x_up N3 198 (v1).toNatClampNeg (1 : Int32))))))) ∧ (r1 = 0 → P (-2 : Int32) N2))))
set_option maxRecDepth 100000 in
set_option maxHeartbeats 4000000 in
theorem wk_X10_save {g : xG} (v1 : Int32) (M : xM) (P : Int32 → xM → Prop) (h0 : vc_X10_save g v1 M P ) : mi_X10_save g v1 M P := by
  refine x_startI (as := [.ref (x_a g 193), .int v1]) (cc := cX10_save) (n := 2) (ret := (some .int)) (own := RX10) (by decide) rfl rfl (Nat.le_of_ble_eq_true rfl) (fun x hC hr => ?_)
  have h := h0
  unfold vc_X10_save at h
  refine x_iload_n (i := 1) (q := 1) hC dX10_save_0 rfl rfl ?_
  refine x_iconst (v := 0) hC dX10_save_1 (by decide) ?_
  refine x_iconst (v := 1) hC dX10_save_2 (by decide) ?_
  refine x_callSi (As := [.int v1, .int (0 : Int32), .int (1 : Int32)]) hC h gX10_save_X10_within rfl rfl rfl hy_X10_within.2 ⟨Nat.le_of_ble_eq_true rfl, Nat.le_of_ble_eq_true rfl⟩ rfl (Nat.le_of_ble_eq_true rfl) rfl dX10_save_3 (fun r1 N2 h => ?_)
  refine x_if_ne (t := 12) hC dX10_save_6 (by decide) (fun q => ?_) (fun q => ?_)
  · replace h := h.1 q
    refine x_aload_n (i := 0) (q := 0) hC dX10_save_12 rfl rfl ?_
    refine x_getr (k := 0) (r := 194) hC xo_193 rfl kf_X10_save_7 dX10_save_13 ?_
    refine x_iconst (v := 0) hC dX10_save_16 (by decide) ?_
    refine x_aload_n (i := 0) (q := 0) hC dX10_save_17 rfl rfl ?_
    refine x_getr (k := 4) (r := 197) hC xo_193 rfl kf_X10_save_19 dX10_save_18 ?_
    refine x_sipush (v := 239) hC dX10_save_21 (by decide) ?_
    refine x_iload_n (i := 1) (q := 1) hC dX10_save_24 rfl rfl ?_
    refine x_imul hC dX10_save_25 ?_
    refine x_callSv (As := [.ref (x_a g 194), .int (0 : Int32), .ref (x_a g 197), .int ((239 : Int32) * v1)]) hC h gX10_save_X10_moves rfl rfl rfl hy_X10_moves.2 ⟨Nat.le_of_ble_eq_true rfl, Nat.le_of_ble_eq_true rfl⟩ rfl (Nat.le_of_ble_eq_true rfl) rfl dX10_save_26 (fun N3 h => ?_)
    refine x_aload_n (i := 0) (q := 0) hC dX10_save_29 rfl rfl ?_
    refine x_getr (k := 5) (r := 198) hC xo_193 rfl kf_X10_save_22 dX10_save_30 ?_
    refine x_iload_n (i := 1) (q := 1) hC dX10_save_33 rfl rfl ?_
    refine x_iconst (v := 1) hC dX10_save_34 (by decide) ?_
    refine x_iast (len := 2) hC xa_198 h.1 dX10_save_35 ?_
    replace h := h.2
    refine x_aload_n (i := 0) (q := 0) hC dX10_save_36 rfl rfl ?_
    refine x_getr (k := 0) (r := 194) hC xo_193 rfl kf_X10_save_7 dX10_save_37 ?_
    refine x_iconst (v := 2) hC dX10_save_40 (by decide) ?_
    refine x_iald (len := 239) hC xa_194 h.1 dX10_save_41 ?_
    replace h := h.2
    exact x_iret hC hr dX10_save_42 h
  · replace h := h.2 q
    refine x_bipush (v := -2) hC dX10_save_9 (by decide) ?_
    exact x_iret hC hr dX10_save_11 h
theorem kf_X10_restore_22 : x_okf wsX10_restore RX10 22 10 5 = true := by decide +kernel
theorem kf_X10_restore_19 : x_okf wsX10_restore RX10 19 10 4 = true := by decide +kernel
theorem kf_X10_restore_7 : x_okf wsX10_restore RX10 7 10 0 = true := by decide +kernel
def vc_X10_restore (g : xG) (v1 : Int32) (M : xM) (P : Int32 → xM → Prop) : Prop := (mi_X10_within g v1 (0 : Int32) (1 : Int32) M (fun r1 N2 => ((¬ r1 = 0 → (vp_in v1 2 ∧ ((¬ (N2 198 (v1).toNatClampNeg) = 0 → (mi_X10_record g N2 (fun N3 => (mi_X10_moves g 197 ((239 : Int32) * v1) 194 (0 : Int32) N3 (fun N4 => (vp_in (2 : Int32) 239 ∧ P (N4 194 ((2 : Int32)).toNatClampNeg) N4)))))) ∧ ((N2 198 (v1).toNatClampNeg) = 0 → P (-5 : Int32) N2)))) ∧ (r1 = 0 → P (-2 : Int32) N2))))
set_option maxRecDepth 100000 in
set_option maxHeartbeats 4000000 in
theorem wk_X10_restore {g : xG} (v1 : Int32) (M : xM) (P : Int32 → xM → Prop) (h0 : vc_X10_restore g v1 M P ) : mi_X10_restore g v1 M P := by
  refine x_startI (as := [.ref (x_a g 193), .int v1]) (cc := cX10_restore) (n := 2) (ret := (some .int)) (own := RX10) (by decide) rfl rfl (Nat.le_of_ble_eq_true rfl) (fun x hC hr => ?_)
  have h := h0
  unfold vc_X10_restore at h
  refine x_iload_n (i := 1) (q := 1) hC dX10_restore_0 rfl rfl ?_
  refine x_iconst (v := 0) hC dX10_restore_1 (by decide) ?_
  refine x_iconst (v := 1) hC dX10_restore_2 (by decide) ?_
  refine x_callSi (As := [.int v1, .int (0 : Int32), .int (1 : Int32)]) hC h gX10_restore_X10_within rfl rfl rfl hy_X10_within.2 ⟨Nat.le_of_ble_eq_true rfl, Nat.le_of_ble_eq_true rfl⟩ rfl (Nat.le_of_ble_eq_true rfl) rfl dX10_restore_3 (fun r1 N2 h => ?_)
  refine x_if_ne (t := 12) hC dX10_restore_6 (by decide) (fun q => ?_) (fun q => ?_)
  · replace h := h.1 q
    refine x_aload_n (i := 0) (q := 0) hC dX10_restore_12 rfl rfl ?_
    refine x_getr (k := 5) (r := 198) hC xo_193 rfl kf_X10_restore_22 dX10_restore_13 ?_
    refine x_iload_n (i := 1) (q := 1) hC dX10_restore_16 rfl rfl ?_
    refine x_iald (len := 2) hC xa_198 h.1 dX10_restore_17 ?_
    replace h := h.2
    refine x_if_ne (t := 24) hC dX10_restore_18 (by decide) (fun q => ?_) (fun q => ?_)
    · replace h := h.1 q
      refine x_aload_n (i := 0) (q := 0) hC dX10_restore_24 rfl rfl ?_
      refine x_callVv (q := (RX10, TX10, 12)) (As := []) hC xo_193 rfl h gX10_restore_X10_record rfl rfl rfl hy_X10_record ⟨Nat.le_of_ble_eq_true rfl, Nat.le_of_ble_eq_true rfl⟩ rfl (Nat.le_of_ble_eq_true rfl) rfl dX10_restore_25 (fun N3 h => ?_)
      refine x_aload_n (i := 0) (q := 0) hC dX10_restore_28 rfl rfl ?_
      refine x_getr (k := 4) (r := 197) hC xo_193 rfl kf_X10_restore_19 dX10_restore_29 ?_
      refine x_sipush (v := 239) hC dX10_restore_32 (by decide) ?_
      refine x_iload_n (i := 1) (q := 1) hC dX10_restore_35 rfl rfl ?_
      refine x_imul hC dX10_restore_36 ?_
      refine x_aload_n (i := 0) (q := 0) hC dX10_restore_37 rfl rfl ?_
      refine x_getr (k := 0) (r := 194) hC xo_193 rfl kf_X10_restore_7 dX10_restore_38 ?_
      refine x_iconst (v := 0) hC dX10_restore_41 (by decide) ?_
      refine x_callSv (As := [.ref (x_a g 197), .int ((239 : Int32) * v1), .ref (x_a g 194), .int (0 : Int32)]) hC h gX10_restore_X10_moves rfl rfl rfl hy_X10_moves.2 ⟨Nat.le_of_ble_eq_true rfl, Nat.le_of_ble_eq_true rfl⟩ rfl (Nat.le_of_ble_eq_true rfl) rfl dX10_restore_42 (fun N4 h => ?_)
      refine x_aload_n (i := 0) (q := 0) hC dX10_restore_45 rfl rfl ?_
      refine x_getr (k := 0) (r := 194) hC xo_193 rfl kf_X10_restore_7 dX10_restore_46 ?_
      refine x_iconst (v := 2) hC dX10_restore_49 (by decide) ?_
      refine x_iald (len := 239) hC xa_194 h.1 dX10_restore_50 ?_
      replace h := h.2
      exact x_iret hC hr dX10_restore_51 h
    · replace h := h.2 q
      refine x_bipush (v := -5) hC dX10_restore_21 (by decide) ?_
      exact x_iret hC hr dX10_restore_23 h
  · replace h := h.2 q
    refine x_bipush (v := -2) hC dX10_restore_9 (by decide) ?_
    exact x_iret hC hr dX10_restore_11 h
