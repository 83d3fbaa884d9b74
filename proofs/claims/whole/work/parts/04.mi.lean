theorem x_objE0 {e : Nat} {ci : Nat} {fs : List (Option Nat)} (he : e < 9) (h : xE_obj 0 = some (ci, fs)) : x_isO (20 * e) ci (fs.map (fun r => r.map (fun i => 20 * e + i))) := x_objE (j := 0) he (by decide) h
theorem x_inE {i : Int32} {n b : Nat} (h : vp_in i n) (hb : b + n ≤ 9) : b + i.toNatClampNeg < 9 := by unfold vp_in at h; omega
theorem x_ofInt {v : Int32} {k : Int} (h : v.toInt = k) : v = Int32.ofInt k := by rw [← h]; simp
theorem xo_0 : x_isO 0 0 [some 1, some 6, some 11, some 15, none, none] := ⟨by decide, rfl⟩
theorem xo_1 : x_isO 1 6 [none, none, none, some 2, some 3, some 4, some 5] := ⟨by decide, rfl⟩
theorem xa_2 : x_isA 2 0 12 := ⟨by decide, rfl, rfl⟩
theorem xa_3 : x_isA 3 0 12 := ⟨by decide, rfl, rfl⟩
theorem xa_4 : x_isA 4 0 12 := ⟨by decide, rfl, rfl⟩
theorem xa_5 : x_isA 5 0 12 := ⟨by decide, rfl, rfl⟩
theorem xo_6 : x_isO 6 7 [none, some 7, some 8, some 9, some 10] := ⟨by decide, rfl⟩
theorem xa_7 : x_isA 7 0 16 := ⟨by decide, rfl, rfl⟩
theorem xa_8 : x_isA 8 0 16 := ⟨by decide, rfl, rfl⟩
theorem xa_9 : x_isA 9 0 16 := ⟨by decide, rfl, rfl⟩
theorem xa_10 : x_isA 10 0 16 := ⟨by decide, rfl, rfl⟩
theorem xo_11 : x_isO 11 8 [none, some 12, some 13, some 14] := ⟨by decide, rfl⟩
theorem xa_12 : x_isA 12 0 20 := ⟨by decide, rfl, rfl⟩
theorem xa_13 : x_isA 13 0 20 := ⟨by decide, rfl, rfl⟩
theorem xa_14 : x_isA 14 0 20 := ⟨by decide, rfl, rfl⟩
theorem xo_15 : x_isO 15 4 [none, some 16, some 17, some 18, some 19] := ⟨by decide, rfl⟩
theorem xa_16 : x_isA 16 0 12 := ⟨by decide, rfl, rfl⟩
theorem xa_17 : x_isA 17 0 12 := ⟨by decide, rfl, rfl⟩
theorem xa_18 : x_isA 18 0 12 := ⟨by decide, rfl, rfl⟩
theorem xa_19 : x_isA 19 0 12 := ⟨by decide, rfl, rfl⟩
theorem xo_180 : x_isO 180 9 [some 0, some 181, some 183, some 184, some 185, some 187, some 191] := ⟨by decide, rfl⟩
theorem xo_181 : x_isO 181 1 [some 182, none, none] := ⟨by decide, rfl⟩
theorem xr_182 : x_isR 182 6 1 := ⟨by decide, rfl, rfl, rfl⟩
theorem xr_183 : x_isR 183 2 7 := ⟨by decide, rfl, rfl, rfl⟩
theorem xa_184 : x_isA 184 1 2 := ⟨by decide, rfl, rfl⟩
theorem xo_185 : x_isO 185 2 [some 186, none] := ⟨by decide, rfl⟩
theorem xa_186 : x_isA 186 2 60 := ⟨by decide, rfl, rfl⟩
theorem xo_187 : x_isO 187 3 [some 188, some 189, some 190, none, none] := ⟨by decide, rfl⟩
theorem xa_188 : x_isA 188 0 15 := ⟨by decide, rfl, rfl⟩
theorem xa_189 : x_isA 189 0 15 := ⟨by decide, rfl, rfl⟩
theorem xa_190 : x_isA 190 0 15 := ⟨by decide, rfl, rfl⟩
theorem xo_191 : x_isO 191 5 [some 192, none, none] := ⟨by decide, rfl⟩
theorem xa_192 : x_isA 192 0 12 := ⟨by decide, rfl, rfl⟩
theorem xo_193 : x_isO 193 10 [some 194, some 195, some 196, none, some 197, some 198, some 199, none, none, none, none, none] := ⟨by decide, rfl⟩
theorem xa_194 : x_isA 194 0 239 := ⟨by decide, rfl, rfl⟩
theorem xa_195 : x_isA 195 0 239 := ⟨by decide, rfl, rfl⟩
theorem xa_196 : x_isA 196 0 1434 := ⟨by decide, rfl, rfl⟩
theorem xa_197 : x_isA 197 0 478 := ⟨by decide, rfl, rfl⟩
theorem xa_198 : x_isA 198 0 2 := ⟨by decide, rfl, rfl⟩
theorem xa_199 : x_isA 199 0 60 := ⟨by decide, rfl, rfl⟩
theorem kp_0_4 : x_okp 0 4 = true := by decide +kernel
theorem kp_0_5 : x_okp 0 5 = true := by decide +kernel
theorem kp_1_1 : x_okp 1 1 = true := by decide +kernel
theorem kp_1_2 : x_okp 1 2 = true := by decide +kernel
theorem kp_2_1 : x_okp 2 1 = true := by decide +kernel
theorem kp_3_3 : x_okp 3 3 = true := by decide +kernel
theorem kp_3_4 : x_okp 3 4 = true := by decide +kernel
theorem kp_4_0 : x_okp 4 0 = true := by decide +kernel
theorem kp_5_1 : x_okp 5 1 = true := by decide +kernel
theorem kp_5_2 : x_okp 5 2 = true := by decide +kernel
theorem kp_6_0 : x_okp 6 0 = true := by decide +kernel
theorem kp_6_1 : x_okp 6 1 = true := by decide +kernel
theorem kp_6_2 : x_okp 6 2 = true := by decide +kernel
theorem kp_7_0 : x_okp 7 0 = true := by decide +kernel
theorem kp_8_0 : x_okp 8 0 = true := by decide +kernel
theorem kp_10_3 : x_okp 10 3 = true := by decide +kernel
theorem kp_10_7 : x_okp 10 7 = true := by decide +kernel
theorem kp_10_8 : x_okp 10 8 = true := by decide +kernel
theorem kp_10_9 : x_okp 10 9 = true := by decide +kernel
theorem kp_10_10 : x_okp 10 10 = true := by decide +kernel
theorem kp_10_11 : x_okp 10 11 = true := by decide +kernel
def rm_X9_isBetween : Room := { frames := 0, cells := 0, slots := 0, locals := 0 }
theorem hy_X9_isBetween : yX9_isBetween.cls = RX9 ∧ yX9_isBetween.cls ≠ "java/lang/invoke/MethodHandle" ∧ yX9_isBetween.cls ≠ "java/lang/invoke/VarHandle" ∧ (parseMethodDescriptor yX9_isBetween.desc).map (fun d => d.parameters.length) = some 3 := by decide +kernel
def mi_X9_isBetween (g : xG) (v0 : Int32) (v1 : Int32) (v2 : Int32) (M : xM) (P : Int32 → xM → Prop) : Prop := x_MI g yX9_isBetween wsX9_isBetween rm_X9_isBetween [.int v0, .int v1, .int v2] M P
theorem mo_X9_isBetween {g : xG} {v0 : Int32} {v1 : Int32} {v2 : Int32} {M : xM} {P P2 : Int32 → xM → Prop} (h : mi_X9_isBetween g v0 v1 v2 M P) (hp : ∀ r N, P r N → P2 r N) : mi_X9_isBetween g v0 v1 v2 M P2 := x_MI_mono h hp
def rm_X9_isToneRange : Room := { frames := 1, cells := 0, slots := 0, locals := 22 }
theorem hy_X9_isToneRange : yX9_isToneRange.cls = RX9 ∧ yX9_isToneRange.cls ≠ "java/lang/invoke/MethodHandle" ∧ yX9_isToneRange.cls ≠ "java/lang/invoke/VarHandle" ∧ (parseMethodDescriptor yX9_isToneRange.desc).map (fun d => d.parameters.length) = some 2 := by decide +kernel
def mi_X9_isToneRange (g : xG) (v0 : Int32) (v1 : Int32) (M : xM) (P : Int32 → xM → Prop) : Prop := x_MI g yX9_isToneRange wsX9_isToneRange rm_X9_isToneRange [.int v0, .int v1] M P
theorem mo_X9_isToneRange {g : xG} {v0 : Int32} {v1 : Int32} {M : xM} {P P2 : Int32 → xM → Prop} (h : mi_X9_isToneRange g v0 v1 M P) (hp : ∀ r N, P r N → P2 r N) : mi_X9_isToneRange g v0 v1 M P2 := x_MI_mono h hp
def rm_X9_copyRow : Room := { frames := 1, cells := 0, slots := 0, locals := 26 }
theorem hy_X9_copyRow : yX9_copyRow.cls = RX9 ∧ yX9_copyRow.cls ≠ "java/lang/invoke/MethodHandle" ∧ yX9_copyRow.cls ≠ "java/lang/invoke/VarHandle" ∧ (parseMethodDescriptor yX9_copyRow.desc).map (fun d => d.parameters.length) = some 2 := by decide +kernel
def mi_X9_copyRow (g : xG) (a : Nat) (b : Nat) (M : xM) (P : xM → Prop) : Prop := x_MV g yX9_copyRow wsX9_copyRow rm_X9_copyRow [.ref (x_a g a), .ref (x_a g b)] M P
theorem mo_X9_copyRow {g : xG} {a : Nat} {b : Nat} {M : xM} {P P2 : xM → Prop} (h : mi_X9_copyRow g a b M P) (hp : ∀ N, P N → P2 N) : mi_X9_copyRow g a b M P2 := x_MV_mono h hp
def rm_X6_copyFrom : Room := { frames := 2, cells := 0, slots := 0, locals := 47 }
theorem hy_X6_copyFrom : yX6_copyFrom.cls = RX6 ∧ yX6_copyFrom.cls ≠ "java/lang/invoke/MethodHandle" ∧ yX6_copyFrom.cls ≠ "java/lang/invoke/VarHandle" ∧ (parseMethodDescriptor yX6_copyFrom.desc).map (fun d => d.parameters.length) = some 1 := by decide +kernel
def mi_X6_copyFrom (g : xG) (e : Nat) (f : Nat) (M : xM) (P : xM → Prop) : Prop := x_MV g yX6_copyFrom wsX6_copyFrom rm_X6_copyFrom [.ref (x_a g (20 * e + 1)), .ref (x_a g (20 * f + 1))] M P
theorem mo_X6_copyFrom {g : xG} {e : Nat} {f : Nat} {M : xM} {P P2 : xM → Prop} (h : mi_X6_copyFrom g e f M P) (hp : ∀ N, P N → P2 N) : mi_X6_copyFrom g e f M P2 := x_MV_mono h hp
def rm_X7_copyFrom : Room := { frames := 2, cells := 0, slots := 0, locals := 47 }
theorem hy_X7_copyFrom : yX7_copyFrom.cls = RX7 ∧ yX7_copyFrom.cls ≠ "java/lang/invoke/MethodHandle" ∧ yX7_copyFrom.cls ≠ "java/lang/invoke/VarHandle" ∧ (parseMethodDescriptor yX7_copyFrom.desc).map (fun d => d.parameters.length) = some 1 := by decide +kernel
def mi_X7_copyFrom (g : xG) (e : Nat) (f : Nat) (M : xM) (P : xM → Prop) : Prop := x_MV g yX7_copyFrom wsX7_copyFrom rm_X7_copyFrom [.ref (x_a g (20 * e + 6)), .ref (x_a g (20 * f + 6))] M P
theorem mo_X7_copyFrom {g : xG} {e : Nat} {f : Nat} {M : xM} {P P2 : xM → Prop} (h : mi_X7_copyFrom g e f M P) (hp : ∀ N, P N → P2 N) : mi_X7_copyFrom g e f M P2 := x_MV_mono h hp
def rm_X8_copyFrom : Room := { frames := 2, cells := 0, slots := 0, locals := 47 }
theorem hy_X8_copyFrom : yX8_copyFrom.cls = RX8 ∧ yX8_copyFrom.cls ≠ "java/lang/invoke/MethodHandle" ∧ yX8_copyFrom.cls ≠ "java/lang/invoke/VarHandle" ∧ (parseMethodDescriptor yX8_copyFrom.desc).map (fun d => d.parameters.length) = some 1 := by decide +kernel
def mi_X8_copyFrom (g : xG) (e : Nat) (f : Nat) (M : xM) (P : xM → Prop) : Prop := x_MV g yX8_copyFrom wsX8_copyFrom rm_X8_copyFrom [.ref (x_a g (20 * e + 11)), .ref (x_a g (20 * f + 11))] M P
theorem mo_X8_copyFrom {g : xG} {e : Nat} {f : Nat} {M : xM} {P P2 : xM → Prop} (h : mi_X8_copyFrom g e f M P) (hp : ∀ N, P N → P2 N) : mi_X8_copyFrom g e f M P2 := x_MV_mono h hp
def rm_X4_copyFrom : Room := { frames := 2, cells := 0, slots := 0, locals := 47 }
theorem hy_X4_copyFrom : yX4_copyFrom.cls = RX4 ∧ yX4_copyFrom.cls ≠ "java/lang/invoke/MethodHandle" ∧ yX4_copyFrom.cls ≠ "java/lang/invoke/VarHandle" ∧ (parseMethodDescriptor yX4_copyFrom.desc).map (fun d => d.parameters.length) = some 1 := by decide +kernel
def mi_X4_copyFrom (g : xG) (e : Nat) (f : Nat) (M : xM) (P : xM → Prop) : Prop := x_MV g yX4_copyFrom wsX4_copyFrom rm_X4_copyFrom [.ref (x_a g (20 * e + 15)), .ref (x_a g (20 * f + 15))] M P
theorem mo_X4_copyFrom {g : xG} {e : Nat} {f : Nat} {M : xM} {P P2 : xM → Prop} (h : mi_X4_copyFrom g e f M P) (hp : ∀ N, P N → P2 N) : mi_X4_copyFrom g e f M P2 := x_MV_mono h hp
def rm_X0_copyFrom : Room := { frames := 3, cells := 0, slots := 0, locals := 68 }
theorem hy_X0_copyFrom : yX0_copyFrom.cls = RX0 ∧ yX0_copyFrom.cls ≠ "java/lang/invoke/MethodHandle" ∧ yX0_copyFrom.cls ≠ "java/lang/invoke/VarHandle" ∧ (parseMethodDescriptor yX0_copyFrom.desc).map (fun d => d.parameters.length) = some 1 := by decide +kernel
def mi_X0_copyFrom (g : xG) (e : Nat) (f : Nat) (M : xM) (P : xM → Prop) : Prop := x_MV g yX0_copyFrom wsX0_copyFrom rm_X0_copyFrom [.ref (x_a g (20 * e)), .ref (x_a g (20 * f))] M P
theorem mo_X0_copyFrom {g : xG} {e : Nat} {f : Nat} {M : xM} {P P2 : xM → Prop} (h : mi_X0_copyFrom g e f M P) (hp : ∀ N, P N → P2 N) : mi_X0_copyFrom g e f M P2 := x_MV_mono h hp
def rm_X1_keep : Room := { frames := 4, cells := 0, slots := 0, locals := 89 }
theorem hy_X1_keep : yX1_keep.cls = RX1 ∧ yX1_keep.cls ≠ "java/lang/invoke/MethodHandle" ∧ yX1_keep.cls ≠ "java/lang/invoke/VarHandle" ∧ (parseMethodDescriptor yX1_keep.desc).map (fun d => d.parameters.length) = some 1 := by decide +kernel
def mi_X1_keep (g : xG) (M : xM) (P : xM → Prop) : Prop := x_MV g yX1_keep wsX1_keep rm_X1_keep [.ref (x_a g 181), .ref (x_a g 0)] M P
theorem mo_X1_keep {g : xG} {M : xM} {P P2 : xM → Prop} (h : mi_X1_keep g M P) (hp : ∀ N, P N → P2 N) : mi_X1_keep g M P2 := x_MV_mono h hp
def rm_X6_setThere : Room := { frames := 0, cells := 0, slots := 0, locals := 0 }
theorem hy_X6_setThere : yX6_setThere.cls = RX6 ∧ yX6_setThere.cls ≠ "java/lang/invoke/MethodHandle" ∧ yX6_setThere.cls ≠ "java/lang/invoke/VarHandle" ∧ (parseMethodDescriptor yX6_setThere.desc).map (fun d => d.parameters.length) = some 2 := by decide +kernel
def mi_X6_setThere (g : xG) (v1 : Int32) (v2 : Int32) (M : xM) (P : xM → Prop) : Prop := x_MV g yX6_setThere wsX6_setThere rm_X6_setThere [.ref (x_a g 1), .int v1, .int v2] M P
theorem mo_X6_setThere {g : xG} {v1 : Int32} {v2 : Int32} {M : xM} {P P2 : xM → Prop} (h : mi_X6_setThere g v1 v2 M P) (hp : ∀ N, P N → P2 N) : mi_X6_setThere g v1 v2 M P2 := x_MV_mono h hp
def rm_X6_add : Room := { frames := 1, cells := 0, slots := 0, locals := 23 }
theorem hy_X6_add : yX6_add.cls = RX6 ∧ yX6_add.cls ≠ "java/lang/invoke/MethodHandle" ∧ yX6_add.cls ≠ "java/lang/invoke/VarHandle" ∧ (parseMethodDescriptor yX6_add.desc).map (fun d => d.parameters.length) = some 2 := by decide +kernel
def mi_X6_add (g : xG) (v1 : Int32) (v2 : Int32) (M : xM) (P : Int32 → xM → Prop) : Prop := x_MI g yX6_add wsX6_add rm_X6_add [.ref (x_a g 1), .int v1, .int v2] M P
theorem mo_X6_add {g : xG} {v1 : Int32} {v2 : Int32} {M : xM} {P P2 : Int32 → xM → Prop} (h : mi_X6_add g v1 v2 M P) (hp : ∀ r N, P r N → P2 r N) : mi_X6_add g v1 v2 M P2 := x_MI_mono h hp
def rm_X9_singer : Room := { frames := 5, cells := 0, slots := 0, locals := 110 }
theorem hy_X9_singer : yX9_singer.cls = RX9 ∧ yX9_singer.cls ≠ "java/lang/invoke/MethodHandle" ∧ yX9_singer.cls ≠ "java/lang/invoke/VarHandle" ∧ (parseMethodDescriptor yX9_singer.desc).map (fun d => d.parameters.length) = some 2 := by decide +kernel
def mi_X9_singer (g : xG) (v1 : Int32) (v2 : Int32) (M : xM) (P : Int32 → xM → Prop) : Prop := x_MI g yX9_singer wsX9_singer rm_X9_singer [.ref (x_a g 180), .int v1, .int v2] M P
theorem mo_X9_singer {g : xG} {v1 : Int32} {v2 : Int32} {M : xM} {P P2 : Int32 → xM → Prop} (h : mi_X9_singer g v1 v2 M P) (hp : ∀ r N, P r N → P2 r N) : mi_X9_singer g v1 v2 M P2 := x_MI_mono h hp
def rm_X7_add : Room := { frames := 0, cells := 0, slots := 0, locals := 0 }
theorem hy_X7_add : yX7_add.cls = RX7 ∧ yX7_add.cls ≠ "java/lang/invoke/MethodHandle" ∧ yX7_add.cls ≠ "java/lang/invoke/VarHandle" ∧ (parseMethodDescriptor yX7_add.desc).map (fun d => d.parameters.length) = some 3 := by decide +kernel
def mi_X7_add (g : xG) (v1 : Int32) (v2 : Int32) (v3 : Int32) (M : xM) (P : Int32 → xM → Prop) : Prop := x_MI g yX7_add wsX7_add rm_X7_add [.ref (x_a g 6), .int v1, .int v2, .int v3] M P
theorem mo_X7_add {g : xG} {v1 : Int32} {v2 : Int32} {v3 : Int32} {M : xM} {P P2 : Int32 → xM → Prop} (h : mi_X7_add g v1 v2 v3 M P) (hp : ∀ r N, P r N → P2 r N) : mi_X7_add g v1 v2 v3 M P2 := x_MI_mono h hp
def rm_X9_song : Room := { frames := 5, cells := 0, slots := 0, locals := 110 }
theorem hy_X9_song : yX9_song.cls = RX9 ∧ yX9_song.cls ≠ "java/lang/invoke/MethodHandle" ∧ yX9_song.cls ≠ "java/lang/invoke/VarHandle" ∧ (parseMethodDescriptor yX9_song.desc).map (fun d => d.parameters.length) = some 3 := by decide +kernel
def mi_X9_song (g : xG) (v1 : Int32) (v2 : Int32) (v3 : Int32) (M : xM) (P : Int32 → xM → Prop) : Prop := x_MI g yX9_song wsX9_song rm_X9_song [.ref (x_a g 180), .int v1, .int v2, .int v3] M P
theorem mo_X9_song {g : xG} {v1 : Int32} {v2 : Int32} {v3 : Int32} {M : xM} {P P2 : Int32 → xM → Prop} (h : mi_X9_song g v1 v2 v3 M P) (hp : ∀ r N, P r N → P2 r N) : mi_X9_song g v1 v2 v3 M P2 := x_MI_mono h hp
def rm_X6_has : Room := { frames := 1, cells := 0, slots := 0, locals := 22 }
theorem hy_X6_has : yX6_has.cls = RX6 ∧ yX6_has.cls ≠ "java/lang/invoke/MethodHandle" ∧ yX6_has.cls ≠ "java/lang/invoke/VarHandle" ∧ (parseMethodDescriptor yX6_has.desc).map (fun d => d.parameters.length) = some 1 := by decide +kernel
def mi_X6_has (g : xG) (v1 : Int32) (M : xM) (P : Int32 → xM → Prop) : Prop := x_MI g yX6_has wsX6_has rm_X6_has [.ref (x_a g 1), .int v1] M P
theorem mo_X6_has {g : xG} {v1 : Int32} {M : xM} {P P2 : Int32 → xM → Prop} (h : mi_X6_has g v1 M P) (hp : ∀ r N, P r N → P2 r N) : mi_X6_has g v1 M P2 := x_MI_mono h hp
def rm_X9_isIn : Room := { frames := 0, cells := 0, slots := 0, locals := 0 }
theorem hy_X9_isIn : yX9_isIn.cls = RX9 ∧ yX9_isIn.cls ≠ "java/lang/invoke/MethodHandle" ∧ yX9_isIn.cls ≠ "java/lang/invoke/VarHandle" ∧ (parseMethodDescriptor yX9_isIn.desc).map (fun d => d.parameters.length) = some 2 := by decide +kernel
def mi_X9_isIn (g : xG) (v0 : Int32) (v1 : Int32) (M : xM) (P : Int32 → xM → Prop) : Prop := x_MI g yX9_isIn wsX9_isIn rm_X9_isIn [.int v0, .int v1] M P
theorem mo_X9_isIn {g : xG} {v0 : Int32} {v1 : Int32} {M : xM} {P P2 : Int32 → xM → Prop} (h : mi_X9_isIn g v0 v1 M P) (hp : ∀ r N, P r N → P2 r N) : mi_X9_isIn g v0 v1 M P2 := x_MI_mono h hp
def rm_X6_isThere : Room := { frames := 1, cells := 0, slots := 0, locals := 21 }
theorem hy_X6_isThere : yX6_isThere.cls = RX6 ∧ yX6_isThere.cls ≠ "java/lang/invoke/MethodHandle" ∧ yX6_isThere.cls ≠ "java/lang/invoke/VarHandle" ∧ (parseMethodDescriptor yX6_isThere.desc).map (fun d => d.parameters.length) = some 1 := by decide +kernel
def mi_X6_isThere (g : xG) (v1 : Int32) (M : xM) (P : Int32 → xM → Prop) : Prop := x_MI g yX6_isThere wsX6_isThere rm_X6_isThere [.ref (x_a g 1), .int v1] M P
theorem mo_X6_isThere {g : xG} {v1 : Int32} {M : xM} {P P2 : Int32 → xM → Prop} (h : mi_X6_isThere g v1 M P) (hp : ∀ r N, P r N → P2 r N) : mi_X6_isThere g v1 M P2 := x_MI_mono h hp
def rm_J6_bitCount_0f7a4 : Room := { frames := 0, cells := 0, slots := 0, locals := 0 }
theorem hy_J6_bitCount_0f7a4 : yJ6_bitCount_0f7a4.cls = RJ6 ∧ yJ6_bitCount_0f7a4.cls ≠ "java/lang/invoke/MethodHandle" ∧ yJ6_bitCount_0f7a4.cls ≠ "java/lang/invoke/VarHandle" ∧ (parseMethodDescriptor yJ6_bitCount_0f7a4.desc).map (fun d => d.parameters.length) = some 1 := by decide +kernel
def mi_J6_bitCount_0f7a4 (g : xG) (v0 : Int32) (M : xM) (P : Int32 → xM → Prop) : Prop := x_MI g yJ6_bitCount_0f7a4 wsJ6_bitCount_0f7a4 rm_J6_bitCount_0f7a4 [.int v0] M P
theorem mo_J6_bitCount_0f7a4 {g : xG} {v0 : Int32} {M : xM} {P P2 : Int32 → xM → Prop} (h : mi_J6_bitCount_0f7a4 g v0 M P) (hp : ∀ r N, P r N → P2 r N) : mi_J6_bitCount_0f7a4 g v0 M P2 := x_MI_mono h hp
def rm_X9_leave : Room := { frames := 5, cells := 0, slots := 0, locals := 110 }
theorem hy_X9_leave : yX9_leave.cls = RX9 ∧ yX9_leave.cls ≠ "java/lang/invoke/MethodHandle" ∧ yX9_leave.cls ≠ "java/lang/invoke/VarHandle" ∧ (parseMethodDescriptor yX9_leave.desc).map (fun d => d.parameters.length) = some 2 := by decide +kernel
def mi_X9_leave (g : xG) (v1 : Int32) (v2 : Int32) (M : xM) (P : Int32 → xM → Prop) : Prop := x_MI g yX9_leave wsX9_leave rm_X9_leave [.ref (x_a g 180), .int v1, .int v2] M P
theorem mo_X9_leave {g : xG} {v1 : Int32} {v2 : Int32} {M : xM} {P P2 : Int32 → xM → Prop} (h : mi_X9_leave g v1 v2 M P) (hp : ∀ r N, P r N → P2 r N) : mi_X9_leave g v1 v2 M P2 := x_MI_mono h hp
def rm_X7_has : Room := { frames := 1, cells := 0, slots := 0, locals := 22 }
theorem hy_X7_has : yX7_has.cls = RX7 ∧ yX7_has.cls ≠ "java/lang/invoke/MethodHandle" ∧ yX7_has.cls ≠ "java/lang/invoke/VarHandle" ∧ (parseMethodDescriptor yX7_has.desc).map (fun d => d.parameters.length) = some 1 := by decide +kernel
def mi_X7_has (g : xG) (v1 : Int32) (M : xM) (P : Int32 → xM → Prop) : Prop := x_MI g yX7_has wsX7_has rm_X7_has [.ref (x_a g 6), .int v1] M P
theorem mo_X7_has {g : xG} {v1 : Int32} {M : xM} {P P2 : Int32 → xM → Prop} (h : mi_X7_has g v1 M P) (hp : ∀ r N, P r N → P2 r N) : mi_X7_has g v1 M P2 := x_MI_mono h hp
def rm_X0_errorOfNames : Room := { frames := 2, cells := 0, slots := 0, locals := 43 }
theorem hy_X0_errorOfNames : yX0_errorOfNames.cls = RX0 ∧ yX0_errorOfNames.cls ≠ "java/lang/invoke/MethodHandle" ∧ yX0_errorOfNames.cls ≠ "java/lang/invoke/VarHandle" ∧ (parseMethodDescriptor yX0_errorOfNames.desc).map (fun d => d.parameters.length) = some 3 := by decide +kernel
def mi_X0_errorOfNames (g : xG) (v1 : Int32) (v2 : Int32) (v3 : Int32) (M : xM) (P : Int32 → xM → Prop) : Prop := x_MI g yX0_errorOfNames wsX0_errorOfNames rm_X0_errorOfNames [.ref (x_a g 0), .int v1, .int v2, .int v3] M P
theorem mo_X0_errorOfNames {g : xG} {v1 : Int32} {v2 : Int32} {v3 : Int32} {M : xM} {P P2 : Int32 → xM → Prop} (h : mi_X0_errorOfNames g v1 v2 v3 M P) (hp : ∀ r N, P r N → P2 r N) : mi_X0_errorOfNames g v1 v2 v3 M P2 := x_MI_mono h hp
def rm_X7_fits : Room := { frames := 0, cells := 0, slots := 0, locals := 0 }
theorem hy_X7_fits : yX7_fits.cls = RX7 ∧ yX7_fits.cls ≠ "java/lang/invoke/MethodHandle" ∧ yX7_fits.cls ≠ "java/lang/invoke/VarHandle" ∧ (parseMethodDescriptor yX7_fits.desc).map (fun d => d.parameters.length) = some 4 := by decide +kernel
def mi_X7_fits (g : xG) (v1 : Int32) (v2 : Int32) (v3 : Int32) (v4 : Int32) (M : xM) (P : Int32 → xM → Prop) : Prop := x_MI g yX7_fits wsX7_fits rm_X7_fits [.ref (x_a g 6), .int v1, .int v2, .int v3, .int v4] M P
theorem mo_X7_fits {g : xG} {v1 : Int32} {v2 : Int32} {v3 : Int32} {v4 : Int32} {M : xM} {P P2 : Int32 → xM → Prop} (h : mi_X7_fits g v1 v2 v3 v4 M P) (hp : ∀ r N, P r N → P2 r N) : mi_X7_fits g v1 v2 v3 v4 M P2 := x_MI_mono h hp
def rm_X7_keyAndTenBetween : Room := { frames := 1, cells := 0, slots := 0, locals := 24 }
theorem hy_X7_keyAndTenBetween : yX7_keyAndTenBetween.cls = RX7 ∧ yX7_keyAndTenBetween.cls ≠ "java/lang/invoke/MethodHandle" ∧ yX7_keyAndTenBetween.cls ≠ "java/lang/invoke/VarHandle" ∧ (parseMethodDescriptor yX7_keyAndTenBetween.desc).map (fun d => d.parameters.length) = some 3 := by decide +kernel
def mi_X7_keyAndTenBetween (g : xG) (v1 : Int32) (v2 : Int32) (v3 : Int32) (M : xM) (P : Int32 → xM → Prop) : Prop := x_MI g yX7_keyAndTenBetween wsX7_keyAndTenBetween rm_X7_keyAndTenBetween [.ref (x_a g 6), .int v1, .int v2, .int v3] M P
theorem mo_X7_keyAndTenBetween {g : xG} {v1 : Int32} {v2 : Int32} {v3 : Int32} {M : xM} {P P2 : Int32 → xM → Prop} (h : mi_X7_keyAndTenBetween g v1 v2 v3 M P) (hp : ∀ r N, P r N → P2 r N) : mi_X7_keyAndTenBetween g v1 v2 v3 M P2 := x_MI_mono h hp
def rm_X0_keyAndTen : Room := { frames := 2, cells := 0, slots := 0, locals := 48 }
theorem hy_X0_keyAndTen : yX0_keyAndTen.cls = RX0 ∧ yX0_keyAndTen.cls ≠ "java/lang/invoke/MethodHandle" ∧ yX0_keyAndTen.cls ≠ "java/lang/invoke/VarHandle" ∧ (parseMethodDescriptor yX0_keyAndTen.desc).map (fun d => d.parameters.length) = some 3 := by decide +kernel
def mi_X0_keyAndTen (g : xG) (v1 : Int32) (v2 : Int32) (v3 : Int32) (M : xM) (P : Int32 → xM → Prop) : Prop := x_MI g yX0_keyAndTen wsX0_keyAndTen rm_X0_keyAndTen [.ref (x_a g 0), .int v1, .int v2, .int v3] M P
theorem mo_X0_keyAndTen {g : xG} {v1 : Int32} {v2 : Int32} {v3 : Int32} {M : xM} {P P2 : Int32 → xM → Prop} (h : mi_X0_keyAndTen g v1 v2 v3 M P) (hp : ∀ r N, P r N → P2 r N) : mi_X0_keyAndTen g v1 v2 v3 M P2 := x_MI_mono h hp
def rm_X0_errorOfWish : Room := { frames := 3, cells := 0, slots := 0, locals := 73 }
theorem hy_X0_errorOfWish : yX0_errorOfWish.cls = RX0 ∧ yX0_errorOfWish.cls ≠ "java/lang/invoke/MethodHandle" ∧ yX0_errorOfWish.cls ≠ "java/lang/invoke/VarHandle" ∧ (parseMethodDescriptor yX0_errorOfWish.desc).map (fun d => d.parameters.length) = some 4 := by decide +kernel
def mi_X0_errorOfWish (g : xG) (v1 : Int32) (v2 : Int32) (v3 : Int32) (v4 : Int32) (M : xM) (P : Int32 → xM → Prop) : Prop := x_MI g yX0_errorOfWish wsX0_errorOfWish rm_X0_errorOfWish [.ref (x_a g 0), .int v1, .int v2, .int v3, .int v4] M P
theorem mo_X0_errorOfWish {g : xG} {v1 : Int32} {v2 : Int32} {v3 : Int32} {v4 : Int32} {M : xM} {P P2 : Int32 → xM → Prop} (h : mi_X0_errorOfWish g v1 v2 v3 v4 M P) (hp : ∀ r N, P r N → P2 r N) : mi_X0_errorOfWish g v1 v2 v3 v4 M P2 := x_MI_mono h hp
def rm_X8_add : Room := { frames := 0, cells := 0, slots := 0, locals := 0 }
theorem hy_X8_add : yX8_add.cls = RX8 ∧ yX8_add.cls ≠ "java/lang/invoke/MethodHandle" ∧ yX8_add.cls ≠ "java/lang/invoke/VarHandle" ∧ (parseMethodDescriptor yX8_add.desc).map (fun d => d.parameters.length) = some 3 := by decide +kernel
def mi_X8_add (g : xG) (v1 : Int32) (v2 : Int32) (v3 : Int32) (M : xM) (P : Int32 → xM → Prop) : Prop := x_MI g yX8_add wsX8_add rm_X8_add [.ref (x_a g 11), .int v1, .int v2, .int v3] M P
theorem mo_X8_add {g : xG} {v1 : Int32} {v2 : Int32} {v3 : Int32} {M : xM} {P P2 : Int32 → xM → Prop} (h : mi_X8_add g v1 v2 v3 M P) (hp : ∀ r N, P r N → P2 r N) : mi_X8_add g v1 v2 v3 M P2 := x_MI_mono h hp
def rm_X9_wish : Room := { frames := 5, cells := 0, slots := 0, locals := 110 }
theorem hy_X9_wish : yX9_wish.cls = RX9 ∧ yX9_wish.cls ≠ "java/lang/invoke/MethodHandle" ∧ yX9_wish.cls ≠ "java/lang/invoke/VarHandle" ∧ (parseMethodDescriptor yX9_wish.desc).map (fun d => d.parameters.length) = some 3 := by decide +kernel
def mi_X9_wish (g : xG) (v1 : Int32) (v2 : Int32) (v3 : Int32) (M : xM) (P : Int32 → xM → Prop) : Prop := x_MI g yX9_wish wsX9_wish rm_X9_wish [.ref (x_a g 180), .int v1, .int v2, .int v3] M P
theorem mo_X9_wish {g : xG} {v1 : Int32} {v2 : Int32} {v3 : Int32} {M : xM} {P P2 : Int32 → xM → Prop} (h : mi_X9_wish g v1 v2 v3 M P) (hp : ∀ r N, P r N → P2 r N) : mi_X9_wish g v1 v2 v3 M P2 := x_MI_mono h hp
def rm_X8_has : Room := { frames := 1, cells := 0, slots := 0, locals := 22 }
theorem hy_X8_has : yX8_has.cls = RX8 ∧ yX8_has.cls ≠ "java/lang/invoke/MethodHandle" ∧ yX8_has.cls ≠ "java/lang/invoke/VarHandle" ∧ (parseMethodDescriptor yX8_has.desc).map (fun d => d.parameters.length) = some 1 := by decide +kernel
def mi_X8_has (g : xG) (v1 : Int32) (M : xM) (P : Int32 → xM → Prop) : Prop := x_MI g yX8_has wsX8_has rm_X8_has [.ref (x_a g 11), .int v1] M P
theorem mo_X8_has {g : xG} {v1 : Int32} {M : xM} {P P2 : Int32 → xM → Prop} (h : mi_X8_has g v1 M P) (hp : ∀ r N, P r N → P2 r N) : mi_X8_has g v1 M P2 := x_MI_mono h hp
def rm_X8_removeAt : Room := { frames := 0, cells := 0, slots := 0, locals := 0 }
theorem hy_X8_removeAt : yX8_removeAt.cls = RX8 ∧ yX8_removeAt.cls ≠ "java/lang/invoke/MethodHandle" ∧ yX8_removeAt.cls ≠ "java/lang/invoke/VarHandle" ∧ (parseMethodDescriptor yX8_removeAt.desc).map (fun d => d.parameters.length) = some 1 := by decide +kernel
def mi_X8_removeAt (g : xG) (v1 : Int32) (M : xM) (P : xM → Prop) : Prop := x_MV g yX8_removeAt wsX8_removeAt rm_X8_removeAt [.ref (x_a g 11), .int v1] M P
theorem mo_X8_removeAt {g : xG} {v1 : Int32} {M : xM} {P P2 : xM → Prop} (h : mi_X8_removeAt g v1 M P) (hp : ∀ N, P N → P2 N) : mi_X8_removeAt g v1 M P2 := x_MV_mono h hp
def rm_X9_takeBack : Room := { frames := 5, cells := 0, slots := 0, locals := 110 }
theorem hy_X9_takeBack : yX9_takeBack.cls = RX9 ∧ yX9_takeBack.cls ≠ "java/lang/invoke/MethodHandle" ∧ yX9_takeBack.cls ≠ "java/lang/invoke/VarHandle" ∧ (parseMethodDescriptor yX9_takeBack.desc).map (fun d => d.parameters.length) = some 1 := by decide +kernel
def mi_X9_takeBack (g : xG) (v1 : Int32) (M : xM) (P : Int32 → xM → Prop) : Prop := x_MI g yX9_takeBack wsX9_takeBack rm_X9_takeBack [.ref (x_a g 180), .int v1] M P
theorem mo_X9_takeBack {g : xG} {v1 : Int32} {M : xM} {P P2 : Int32 → xM → Prop} (h : mi_X9_takeBack g v1 M P) (hp : ∀ r N, P r N → P2 r N) : mi_X9_takeBack g v1 M P2 := x_MI_mono h hp
def rm_X8_singersOf : Room := { frames := 0, cells := 0, slots := 0, locals := 0 }
theorem hy_X8_singersOf : yX8_singersOf.cls = RX8 ∧ yX8_singersOf.cls ≠ "java/lang/invoke/MethodHandle" ∧ yX8_singersOf.cls ≠ "java/lang/invoke/VarHandle" ∧ (parseMethodDescriptor yX8_singersOf.desc).map (fun d => d.parameters.length) = some 1 := by decide +kernel
def mi_X8_singersOf (g : xG) (v1 : Int32) (M : xM) (P : Int32 → xM → Prop) : Prop := x_MI g yX8_singersOf wsX8_singersOf rm_X8_singersOf [.ref (x_a g 11), .int v1] M P
theorem mo_X8_singersOf {g : xG} {v1 : Int32} {M : xM} {P P2 : Int32 → xM → Prop} (h : mi_X8_singersOf g v1 M P) (hp : ∀ r N, P r N → P2 r N) : mi_X8_singersOf g v1 M P2 := x_MI_mono h hp
def rm_X8_onesWithout : Room := { frames := 1, cells := 0, slots := 0, locals := 22 }
theorem hy_X8_onesWithout : yX8_onesWithout.cls = RX8 ∧ yX8_onesWithout.cls ≠ "java/lang/invoke/MethodHandle" ∧ yX8_onesWithout.cls ≠ "java/lang/invoke/VarHandle" ∧ (parseMethodDescriptor yX8_onesWithout.desc).map (fun d => d.parameters.length) = some 1 := by decide +kernel
def mi_X8_onesWithout (g : xG) (v1 : Int32) (M : xM) (P : Int32 → xM → Prop) : Prop := x_MI g yX8_onesWithout wsX8_onesWithout rm_X8_onesWithout [.ref (x_a g 11), .int v1] M P
theorem mo_X8_onesWithout {g : xG} {v1 : Int32} {M : xM} {P P2 : Int32 → xM → Prop} (h : mi_X8_onesWithout g v1 M P) (hp : ∀ r N, P r N → P2 r N) : mi_X8_onesWithout g v1 M P2 := x_MI_mono h hp
def rm_X8_readyOnes : Room := { frames := 2, cells := 0, slots := 0, locals := 45 }
theorem hy_X8_readyOnes : yX8_readyOnes.cls = RX8 ∧ yX8_readyOnes.cls ≠ "java/lang/invoke/MethodHandle" ∧ yX8_readyOnes.cls ≠ "java/lang/invoke/VarHandle" ∧ (parseMethodDescriptor yX8_readyOnes.desc).map (fun d => d.parameters.length) = some 1 := by decide +kernel
def mi_X8_readyOnes (g : xG) (v1 : Int32) (M : xM) (P : Int32 → xM → Prop) : Prop := x_MI g yX8_readyOnes wsX8_readyOnes rm_X8_readyOnes [.ref (x_a g 11), .int v1] M P
theorem mo_X8_readyOnes {g : xG} {v1 : Int32} {M : xM} {P P2 : Int32 → xM → Prop} (h : mi_X8_readyOnes g v1 M P) (hp : ∀ r N, P r N → P2 r N) : mi_X8_readyOnes g v1 M P2 := x_MI_mono h hp
def rm_X8_freshOnes : Room := { frames := 2, cells := 0, slots := 0, locals := 45 }
theorem hy_X8_freshOnes : yX8_freshOnes.cls = RX8 ∧ yX8_freshOnes.cls ≠ "java/lang/invoke/MethodHandle" ∧ yX8_freshOnes.cls ≠ "java/lang/invoke/VarHandle" ∧ (parseMethodDescriptor yX8_freshOnes.desc).map (fun d => d.parameters.length) = some 1 := by decide +kernel
def mi_X8_freshOnes (g : xG) (v1 : Int32) (M : xM) (P : Int32 → xM → Prop) : Prop := x_MI g yX8_freshOnes wsX8_freshOnes rm_X8_freshOnes [.ref (x_a g 11), .int v1] M P
theorem mo_X8_freshOnes {g : xG} {v1 : Int32} {M : xM} {P P2 : Int32 → xM → Prop} (h : mi_X8_freshOnes g v1 M P) (hp : ∀ r N, P r N → P2 r N) : mi_X8_freshOnes g v1 M P2 := x_MI_mono h hp
def rm_X8_turnsFor : Room := { frames := 1, cells := 0, slots := 0, locals := 21 }
theorem hy_X8_turnsFor : yX8_turnsFor.cls = RX8 ∧ yX8_turnsFor.cls ≠ "java/lang/invoke/MethodHandle" ∧ yX8_turnsFor.cls ≠ "java/lang/invoke/VarHandle" ∧ (parseMethodDescriptor yX8_turnsFor.desc).map (fun d => d.parameters.length) = some 2 := by decide +kernel
def mi_X8_turnsFor (g : xG) (v1 : Int32) (t : Nat) (M : xM) (P : Int32 → xM → Prop) : Prop := x_MI g yX8_turnsFor wsX8_turnsFor rm_X8_turnsFor [.ref (x_a g 11), .int v1, .ref (x_a g t)] M P
theorem mo_X8_turnsFor {g : xG} {v1 : Int32} {t : Nat} {M : xM} {P P2 : Int32 → xM → Prop} (h : mi_X8_turnsFor g v1 t M P) (hp : ∀ r N, P r N → P2 r N) : mi_X8_turnsFor g v1 t M P2 := x_MI_mono h hp
def rm_X8_fewestTurnsAmong : Room := { frames := 2, cells := 0, slots := 0, locals := 44 }
theorem hy_X8_fewestTurnsAmong : yX8_fewestTurnsAmong.cls = RX8 ∧ yX8_fewestTurnsAmong.cls ≠ "java/lang/invoke/MethodHandle" ∧ yX8_fewestTurnsAmong.cls ≠ "java/lang/invoke/VarHandle" ∧ (parseMethodDescriptor yX8_fewestTurnsAmong.desc).map (fun d => d.parameters.length) = some 2 := by decide +kernel
def mi_X8_fewestTurnsAmong (g : xG) (v1 : Int32) (t : Nat) (M : xM) (P : Int32 → xM → Prop) : Prop := x_MI g yX8_fewestTurnsAmong wsX8_fewestTurnsAmong rm_X8_fewestTurnsAmong [.ref (x_a g 11), .int v1, .ref (x_a g t)] M P
theorem mo_X8_fewestTurnsAmong {g : xG} {v1 : Int32} {t : Nat} {M : xM} {P P2 : Int32 → xM → Prop} (h : mi_X8_fewestTurnsAmong g v1 t M P) (hp : ∀ r N, P r N → P2 r N) : mi_X8_fewestTurnsAmong g v1 t M P2 := x_MI_mono h hp
def rm_X8_nextAmong : Room := { frames := 3, cells := 0, slots := 0, locals := 68 }
theorem hy_X8_nextAmong : yX8_nextAmong.cls = RX8 ∧ yX8_nextAmong.cls ≠ "java/lang/invoke/MethodHandle" ∧ yX8_nextAmong.cls ≠ "java/lang/invoke/VarHandle" ∧ (parseMethodDescriptor yX8_nextAmong.desc).map (fun d => d.parameters.length) = some 3 := by decide +kernel
def mi_X8_nextAmong (g : xG) (v1 : Int32) (v2 : Int32) (t : Nat) (M : xM) (P : Int32 → xM → Prop) : Prop := x_MI g yX8_nextAmong wsX8_nextAmong rm_X8_nextAmong [.ref (x_a g 11), .int v1, .int v2, .ref (x_a g t)] M P
theorem mo_X8_nextAmong {g : xG} {v1 : Int32} {v2 : Int32} {t : Nat} {M : xM} {P P2 : Int32 → xM → Prop} (h : mi_X8_nextAmong g v1 v2 t M P) (hp : ∀ r N, P r N → P2 r N) : mi_X8_nextAmong g v1 v2 t M P2 := x_MI_mono h hp
def rm_X0_nextWish : Room := { frames := 4, cells := 0, slots := 0, locals := 92 }
theorem hy_X0_nextWish : yX0_nextWish.cls = RX0 ∧ yX0_nextWish.cls ≠ "java/lang/invoke/MethodHandle" ∧ yX0_nextWish.cls ≠ "java/lang/invoke/VarHandle" ∧ (parseMethodDescriptor yX0_nextWish.desc).map (fun d => d.parameters.length) = some 0 := by decide +kernel
def mi_X0_nextWish (g : xG) (M : xM) (P : Int32 → xM → Prop) : Prop := x_MI g yX0_nextWish wsX0_nextWish rm_X0_nextWish [.ref (x_a g 0)] M P
theorem mo_X0_nextWish {g : xG} {M : xM} {P P2 : Int32 → xM → Prop} (h : mi_X0_nextWish g M P) (hp : ∀ r N, P r N → P2 r N) : mi_X0_nextWish g M P2 := x_MI_mono h hp
def rm_X0_lengthOfWish : Room := { frames := 0, cells := 0, slots := 0, locals := 0 }
theorem hy_X0_lengthOfWish : yX0_lengthOfWish.cls = RX0 ∧ yX0_lengthOfWish.cls ≠ "java/lang/invoke/MethodHandle" ∧ yX0_lengthOfWish.cls ≠ "java/lang/invoke/VarHandle" ∧ (parseMethodDescriptor yX0_lengthOfWish.desc).map (fun d => d.parameters.length) = some 1 := by decide +kernel
def mi_X0_lengthOfWish (g : xG) (v1 : Int32) (M : xM) (P : Int32 → xM → Prop) : Prop := x_MI g yX0_lengthOfWish wsX0_lengthOfWish rm_X0_lengthOfWish [.ref (x_a g 0), .int v1] M P
theorem mo_X0_lengthOfWish {g : xG} {v1 : Int32} {M : xM} {P P2 : Int32 → xM → Prop} (h : mi_X0_lengthOfWish g v1 M P) (hp : ∀ r N, P r N → P2 r N) : mi_X0_lengthOfWish g v1 M P2 := x_MI_mono h hp
def rm_X4_remember : Room := { frames := 1, cells := 0, slots := 0, locals := 21 }
theorem hy_X4_remember : yX4_remember.cls = RX4 ∧ yX4_remember.cls ≠ "java/lang/invoke/MethodHandle" ∧ yX4_remember.cls ≠ "java/lang/invoke/VarHandle" ∧ (parseMethodDescriptor yX4_remember.desc).map (fun d => d.parameters.length) = some 4 := by decide +kernel
def mi_X4_remember (g : xG) (v1 : Int32) (v2 : Int32) (v3 : Int32) (v4 : Int32) (M : xM) (P : xM → Prop) : Prop := x_MV g yX4_remember wsX4_remember rm_X4_remember [.ref (x_a g 15), .int v1, .int v2, .int v3, .int v4] M P
theorem mo_X4_remember {g : xG} {v1 : Int32} {v2 : Int32} {v3 : Int32} {v4 : Int32} {M : xM} {P P2 : xM → Prop} (h : mi_X4_remember g v1 v2 v3 v4 M P) (hp : ∀ N, P N → P2 N) : mi_X4_remember g v1 v2 v3 v4 M P2 := x_MV_mono h hp
def rm_X6_singTurn : Room := { frames := 1, cells := 0, slots := 0, locals := 21 }
theorem hy_X6_singTurn : yX6_singTurn.cls = RX6 ∧ yX6_singTurn.cls ≠ "java/lang/invoke/MethodHandle" ∧ yX6_singTurn.cls ≠ "java/lang/invoke/VarHandle" ∧ (parseMethodDescriptor yX6_singTurn.desc).map (fun d => d.parameters.length) = some 2 := by decide +kernel
def mi_X6_singTurn (g : xG) (v1 : Int32) (v2 : Int32) (M : xM) (P : xM → Prop) : Prop := x_MV g yX6_singTurn wsX6_singTurn rm_X6_singTurn [.ref (x_a g 1), .int v1, .int v2] M P
theorem mo_X6_singTurn {g : xG} {v1 : Int32} {v2 : Int32} {M : xM} {P P2 : xM → Prop} (h : mi_X6_singTurn g v1 v2 M P) (hp : ∀ N, P N → P2 N) : mi_X6_singTurn g v1 v2 M P2 := x_MV_mono h hp
def rm_X0_singTurn : Room := { frames := 2, cells := 0, slots := 0, locals := 46 }
theorem hy_X0_singTurn : yX0_singTurn.cls = RX0 ∧ yX0_singTurn.cls ≠ "java/lang/invoke/MethodHandle" ∧ yX0_singTurn.cls ≠ "java/lang/invoke/VarHandle" ∧ (parseMethodDescriptor yX0_singTurn.desc).map (fun d => d.parameters.length) = some 1 := by decide +kernel
def mi_X0_singTurn (g : xG) (v1 : Int32) (M : xM) (P : xM → Prop) : Prop := x_MV g yX0_singTurn wsX0_singTurn rm_X0_singTurn [.ref (x_a g 0), .int v1] M P
theorem mo_X0_singTurn {g : xG} {v1 : Int32} {M : xM} {P P2 : xM → Prop} (h : mi_X0_singTurn g v1 M P) (hp : ∀ N, P N → P2 N) : mi_X0_singTurn g v1 M P2 := x_MV_mono h hp
def rm_X9_sing : Room := { frames := 5, cells := 0, slots := 0, locals := 112 }
theorem hy_X9_sing : yX9_sing.cls = RX9 ∧ yX9_sing.cls ≠ "java/lang/invoke/MethodHandle" ∧ yX9_sing.cls ≠ "java/lang/invoke/VarHandle" ∧ (parseMethodDescriptor yX9_sing.desc).map (fun d => d.parameters.length) = some 1 := by decide +kernel
def mi_X9_sing (g : xG) (v1 : Int32) (M : xM) (P : Int32 → xM → Prop) : Prop := x_MI g yX9_sing wsX9_sing rm_X9_sing [.ref (x_a g 180), .int v1] M P
theorem mo_X9_sing {g : xG} {v1 : Int32} {M : xM} {P P2 : Int32 → xM → Prop} (h : mi_X9_sing g v1 M P) (hp : ∀ r N, P r N → P2 r N) : mi_X9_sing g v1 M P2 := x_MI_mono h hp
def rm_X3_digitAt : Room := { frames := 1, cells := 0, slots := 0, locals := 22 }
theorem hy_X3_digitAt : yX3_digitAt.cls = RX3 ∧ yX3_digitAt.cls ≠ "java/lang/invoke/MethodHandle" ∧ yX3_digitAt.cls ≠ "java/lang/invoke/VarHandle" ∧ (parseMethodDescriptor yX3_digitAt.desc).map (fun d => d.parameters.length) = some 1 := by decide +kernel
def mi_X3_digitAt (g : xG) (M : xM) (P : Int32 → xM → Prop) : Prop := x_MI g yX3_digitAt wsX3_digitAt rm_X3_digitAt [.ref (x_a g 187), .ref (x_a g 185)] M P
theorem mo_X3_digitAt {g : xG} {M : xM} {P P2 : Int32 → xM → Prop} (h : mi_X3_digitAt g M P) (hp : ∀ r N, P r N → P2 r N) : mi_X3_digitAt g M P2 := x_MI_mono h hp
def rm_X3_readNumber : Room := { frames := 2, cells := 0, slots := 0, locals := 43 }
theorem hy_X3_readNumber : yX3_readNumber.cls = RX3 ∧ yX3_readNumber.cls ≠ "java/lang/invoke/MethodHandle" ∧ yX3_readNumber.cls ≠ "java/lang/invoke/VarHandle" ∧ (parseMethodDescriptor yX3_readNumber.desc).map (fun d => d.parameters.length) = some 2 := by decide +kernel
def mi_X3_readNumber (g : xG) (v2 : Int32) (M : xM) (P : Int32 → xM → Prop) : Prop := x_MI g yX3_readNumber wsX3_readNumber rm_X3_readNumber [.ref (x_a g 187), .ref (x_a g 185), .int v2] M P
theorem mo_X3_readNumber {g : xG} {v2 : Int32} {M : xM} {P P2 : Int32 → xM → Prop} (h : mi_X3_readNumber g v2 M P) (hp : ∀ r N, P r N → P2 r N) : mi_X3_readNumber g v2 M P2 := x_MI_mono h hp
def rm_X3_readSign : Room := { frames := 0, cells := 0, slots := 0, locals := 0 }
theorem hy_X3_readSign : yX3_readSign.cls = RX3 ∧ yX3_readSign.cls ≠ "java/lang/invoke/MethodHandle" ∧ yX3_readSign.cls ≠ "java/lang/invoke/VarHandle" ∧ (parseMethodDescriptor yX3_readSign.desc).map (fun d => d.parameters.length) = some 2 := by decide +kernel
def mi_X3_readSign (g : xG) (v2 : Int32) (M : xM) (P : Int32 → xM → Prop) : Prop := x_MI g yX3_readSign wsX3_readSign rm_X3_readSign [.ref (x_a g 187), .ref (x_a g 185), .int v2] M P
theorem mo_X3_readSign {g : xG} {v2 : Int32} {M : xM} {P P2 : Int32 → xM → Prop} (h : mi_X3_readSign g v2 M P) (hp : ∀ r N, P r N → P2 r N) : mi_X3_readSign g v2 M P2 := x_MI_mono h hp
def rm_X3_readWish : Room := { frames := 3, cells := 0, slots := 0, locals := 67 }
theorem hy_X3_readWish : yX3_readWish.cls = RX3 ∧ yX3_readWish.cls ≠ "java/lang/invoke/MethodHandle" ∧ yX3_readWish.cls ≠ "java/lang/invoke/VarHandle" ∧ (parseMethodDescriptor yX3_readWish.desc).map (fun d => d.parameters.length) = some 1 := by decide +kernel
def mi_X3_readWish (g : xG) (M : xM) (P : Int32 → xM → Prop) : Prop := x_MI g yX3_readWish wsX3_readWish rm_X3_readWish [.ref (x_a g 187), .ref (x_a g 185)] M P
theorem mo_X3_readWish {g : xG} {M : xM} {P P2 : Int32 → xM → Prop} (h : mi_X3_readWish g M P) (hp : ∀ r N, P r N → P2 r N) : mi_X3_readWish g M P2 := x_MI_mono h hp
def rm_X3_faultOn : Room := { frames := 4, cells := 0, slots := 0, locals := 91 }
theorem hy_X3_faultOn : yX3_faultOn.cls = RX3 ∧ yX3_faultOn.cls ≠ "java/lang/invoke/MethodHandle" ∧ yX3_faultOn.cls ≠ "java/lang/invoke/VarHandle" ∧ (parseMethodDescriptor yX3_faultOn.desc).map (fun d => d.parameters.length) = some 1 := by decide +kernel
def mi_X3_faultOn (g : xG) (M : xM) (P : Int32 → xM → Prop) : Prop := x_MI g yX3_faultOn wsX3_faultOn rm_X3_faultOn [.ref (x_a g 187), .ref (x_a g 185)] M P
theorem mo_X3_faultOn {g : xG} {M : xM} {P P2 : Int32 → xM → Prop} (h : mi_X3_faultOn g M P) (hp : ∀ r N, P r N → P2 r N) : mi_X3_faultOn g M P2 := x_MI_mono h hp
def rm_X9_errorOfWishesRead : Room := { frames := 4, cells := 0, slots := 0, locals := 98 }
theorem hy_X9_errorOfWishesRead : yX9_errorOfWishesRead.cls = RX9 ∧ yX9_errorOfWishesRead.cls ≠ "java/lang/invoke/MethodHandle" ∧ yX9_errorOfWishesRead.cls ≠ "java/lang/invoke/VarHandle" ∧ (parseMethodDescriptor yX9_errorOfWishesRead.desc).map (fun d => d.parameters.length) = some 0 := by decide +kernel
def mi_X9_errorOfWishesRead (g : xG) (M : xM) (P : Int32 → xM → Prop) : Prop := x_MI g yX9_errorOfWishesRead wsX9_errorOfWishesRead rm_X9_errorOfWishesRead [.ref (x_a g 180)] M P
theorem mo_X9_errorOfWishesRead {g : xG} {M : xM} {P P2 : Int32 → xM → Prop} (h : mi_X9_errorOfWishesRead g M P) (hp : ∀ r N, P r N → P2 r N) : mi_X9_errorOfWishesRead g M P2 := x_MI_mono h hp
def rm_X9_read : Room := { frames := 5, cells := 0, slots := 0, locals := 120 }
theorem hy_X9_read : yX9_read.cls = RX9 ∧ yX9_read.cls ≠ "java/lang/invoke/MethodHandle" ∧ yX9_read.cls ≠ "java/lang/invoke/VarHandle" ∧ (parseMethodDescriptor yX9_read.desc).map (fun d => d.parameters.length) = some 0 := by decide +kernel
def mi_X9_read (g : xG) (M : xM) (P : Int32 → xM → Prop) : Prop := x_MI g yX9_read wsX9_read rm_X9_read [.ref (x_a g 180)] M P
theorem mo_X9_read {g : xG} {M : xM} {P P2 : Int32 → xM → Prop} (h : mi_X9_read g M P) (hp : ∀ r N, P r N → P2 r N) : mi_X9_read g M P2 := x_MI_mono h hp
def rm_X9_asNumber : Room := { frames := 0, cells := 0, slots := 0, locals := 0 }
theorem hy_X9_asNumber : yX9_asNumber.cls = RX9 ∧ yX9_asNumber.cls ≠ "java/lang/invoke/MethodHandle" ∧ yX9_asNumber.cls ≠ "java/lang/invoke/VarHandle" ∧ (parseMethodDescriptor yX9_asNumber.desc).map (fun d => d.parameters.length) = some 1 := by decide +kernel
def mi_X9_asNumber (g : xG) (v0 : Int32) (M : xM) (P : Int32 → xM → Prop) : Prop := x_MI g yX9_asNumber wsX9_asNumber rm_X9_asNumber [.int v0] M P
theorem mo_X9_asNumber {g : xG} {v0 : Int32} {M : xM} {P P2 : Int32 → xM → Prop} (h : mi_X9_asNumber g v0 M P) (hp : ∀ r N, P r N → P2 r N) : mi_X9_asNumber g v0 M P2 := x_MI_mono h hp
def rm_X8_numberWith : Room := { frames := 1, cells := 0, slots := 0, locals := 22 }
theorem hy_X8_numberWith : yX8_numberWith.cls = RX8 ∧ yX8_numberWith.cls ≠ "java/lang/invoke/MethodHandle" ∧ yX8_numberWith.cls ≠ "java/lang/invoke/VarHandle" ∧ (parseMethodDescriptor yX8_numberWith.desc).map (fun d => d.parameters.length) = some 1 := by decide +kernel
def mi_X8_numberWith (g : xG) (v1 : Int32) (M : xM) (P : Int32 → xM → Prop) : Prop := x_MI g yX8_numberWith wsX8_numberWith rm_X8_numberWith [.ref (x_a g 11), .int v1] M P
theorem mo_X8_numberWith {g : xG} {v1 : Int32} {M : xM} {P P2 : Int32 → xM → Prop} (h : mi_X8_numberWith g v1 M P) (hp : ∀ r N, P r N → P2 r N) : mi_X8_numberWith g v1 M P2 := x_MI_mono h hp
def rm_X9_of : Room := { frames := 2, cells := 0, slots := 0, locals := 45 }
theorem hy_X9_of : yX9_of.cls = RX9 ∧ yX9_of.cls ≠ "java/lang/invoke/MethodHandle" ∧ yX9_of.cls ≠ "java/lang/invoke/VarHandle" ∧ (parseMethodDescriptor yX9_of.desc).map (fun d => d.parameters.length) = some 2 := by decide +kernel
def mi_X9_of (g : xG) (v1 : Int32) (v2 : Int32) (M : xM) (P : Int32 → xM → Prop) : Prop := x_MI g yX9_of wsX9_of rm_X9_of [.ref (x_a g 180), .int v1, .int v2] M P
theorem mo_X9_of {g : xG} {v1 : Int32} {v2 : Int32} {M : xM} {P P2 : Int32 → xM → Prop} (h : mi_X9_of g v1 v2 M P) (hp : ∀ r N, P r N → P2 r N) : mi_X9_of g v1 v2 M P2 := x_MI_mono h hp
def rm_X9_inQueue : Room := { frames := 3, cells := 0, slots := 0, locals := 73 }
theorem hy_X9_inQueue : yX9_inQueue.cls = RX9 ∧ yX9_inQueue.cls ≠ "java/lang/invoke/MethodHandle" ∧ yX9_inQueue.cls ≠ "java/lang/invoke/VarHandle" ∧ (parseMethodDescriptor yX9_inQueue.desc).map (fun d => d.parameters.length) = some 2 := by decide +kernel
def mi_X9_inQueue (g : xG) (v1 : Int32) (v2 : Int32) (M : xM) (P : Int32 → xM → Prop) : Prop := x_MI g yX9_inQueue wsX9_inQueue rm_X9_inQueue [.ref (x_a g 180), .int v1, .int v2] M P
theorem mo_X9_inQueue {g : xG} {v1 : Int32} {v2 : Int32} {M : xM} {P P2 : Int32 → xM → Prop} (h : mi_X9_inQueue g v1 v2 M P) (hp : ∀ r N, P r N → P2 r N) : mi_X9_inQueue g v1 v2 M P2 := x_MI_mono h hp
def rm_X9_key : Room := { frames := 3, cells := 0, slots := 0, locals := 73 }
theorem hy_X9_key : yX9_key.cls = RX9 ∧ yX9_key.cls ≠ "java/lang/invoke/MethodHandle" ∧ yX9_key.cls ≠ "java/lang/invoke/VarHandle" ∧ (parseMethodDescriptor yX9_key.desc).map (fun d => d.parameters.length) = some 3 := by decide +kernel
def mi_X9_key (g : xG) (v1 : Int32) (v2 : Int32) (v3 : Int32) (M : xM) (P : Int32 → xM → Prop) : Prop := x_MI g yX9_key wsX9_key rm_X9_key [.ref (x_a g 180), .int v1, .int v2, .int v3] M P
theorem mo_X9_key {g : xG} {v1 : Int32} {v2 : Int32} {v3 : Int32} {M : xM} {P P2 : Int32 → xM → Prop} (h : mi_X9_key g v1 v2 v3 M P) (hp : ∀ r N, P r N → P2 r N) : mi_X9_key g v1 v2 v3 M P2 := x_MI_mono h hp
def rm_X0_singersWithKey : Room := { frames := 3, cells := 0, slots := 0, locals := 73 }
theorem hy_X0_singersWithKey : yX0_singersWithKey.cls = RX0 ∧ yX0_singersWithKey.cls ≠ "java/lang/invoke/MethodHandle" ∧ yX0_singersWithKey.cls ≠ "java/lang/invoke/VarHandle" ∧ (parseMethodDescriptor yX0_singersWithKey.desc).map (fun d => d.parameters.length) = some 1 := by decide +kernel
def mi_X0_singersWithKey (g : xG) (v1 : Int32) (M : xM) (P : Int32 → xM → Prop) : Prop := x_MI g yX0_singersWithKey wsX0_singersWithKey rm_X0_singersWithKey [.ref (x_a g 0), .int v1] M P
theorem mo_X0_singersWithKey {g : xG} {v1 : Int32} {M : xM} {P P2 : Int32 → xM → Prop} (h : mi_X0_singersWithKey g v1 M P) (hp : ∀ r N, P r N → P2 r N) : mi_X0_singersWithKey g v1 M P2 := x_MI_mono h hp
def rm_X9_ofSong : Room := { frames := 4, cells := 0, slots := 0, locals := 96 }
theorem hy_X9_ofSong : yX9_ofSong.cls = RX9 ∧ yX9_ofSong.cls ≠ "java/lang/invoke/MethodHandle" ∧ yX9_ofSong.cls ≠ "java/lang/invoke/VarHandle" ∧ (parseMethodDescriptor yX9_ofSong.desc).map (fun d => d.parameters.length) = some 2 := by decide +kernel
def mi_X9_ofSong (g : xG) (v1 : Int32) (v2 : Int32) (M : xM) (P : Int32 → xM → Prop) : Prop := x_MI g yX9_ofSong wsX9_ofSong rm_X9_ofSong [.ref (x_a g 180), .int v1, .int v2] M P
theorem mo_X9_ofSong {g : xG} {v1 : Int32} {v2 : Int32} {M : xM} {P P2 : Int32 → xM → Prop} (h : mi_X9_ofSong g v1 v2 M P) (hp : ∀ r N, P r N → P2 r N) : mi_X9_ofSong g v1 v2 M P2 := x_MI_mono h hp
def rm_X9_past : Room := { frames := 1, cells := 0, slots := 0, locals := 22 }
theorem hy_X9_past : yX9_past.cls = RX9 ∧ yX9_past.cls ≠ "java/lang/invoke/MethodHandle" ∧ yX9_past.cls ≠ "java/lang/invoke/VarHandle" ∧ (parseMethodDescriptor yX9_past.desc).map (fun d => d.parameters.length) = some 2 := by decide +kernel
def mi_X9_past (g : xG) (v1 : Int32) (v2 : Int32) (M : xM) (P : Int32 → xM → Prop) : Prop := x_MI g yX9_past wsX9_past rm_X9_past [.ref (x_a g 180), .int v1, .int v2] M P
theorem mo_X9_past {g : xG} {v1 : Int32} {v2 : Int32} {M : xM} {P P2 : Int32 → xM → Prop} (h : mi_X9_past g v1 v2 M P) (hp : ∀ r N, P r N → P2 r N) : mi_X9_past g v1 v2 M P2 := x_MI_mono h hp
def rm_X9_count : Room := { frames := 5, cells := 0, slots := 0, locals := 112 }
theorem hy_X9_count : yX9_count.cls = RX9 ∧ yX9_count.cls ≠ "java/lang/invoke/MethodHandle" ∧ yX9_count.cls ≠ "java/lang/invoke/VarHandle" ∧ (parseMethodDescriptor yX9_count.desc).map (fun d => d.parameters.length) = some 1 := by decide +kernel
def mi_X9_count (g : xG) (v1 : Int32) (M : xM) (P : Int32 → xM → Prop) : Prop := x_MI g yX9_count wsX9_count rm_X9_count [.ref (x_a g 180), .int v1] M P
theorem mo_X9_count {g : xG} {v1 : Int32} {M : xM} {P P2 : Int32 → xM → Prop} (h : mi_X9_count g v1 M P) (hp : ∀ r N, P r N → P2 r N) : mi_X9_count g v1 M P2 := x_MI_mono h hp
def rm_X0_isReady : Room := { frames := 3, cells := 0, slots := 0, locals := 66 }
theorem hy_X0_isReady : yX0_isReady.cls = RX0 ∧ yX0_isReady.cls ≠ "java/lang/invoke/MethodHandle" ∧ yX0_isReady.cls ≠ "java/lang/invoke/VarHandle" ∧ (parseMethodDescriptor yX0_isReady.desc).map (fun d => d.parameters.length) = some 1 := by decide +kernel
def mi_X0_isReady (g : xG) (v1 : Int32) (M : xM) (P : Int32 → xM → Prop) : Prop := x_MI g yX0_isReady wsX0_isReady rm_X0_isReady [.ref (x_a g 0), .int v1] M P
theorem mo_X0_isReady {g : xG} {v1 : Int32} {M : xM} {P P2 : Int32 → xM → Prop} (h : mi_X0_isReady g v1 M P) (hp : ∀ r N, P r N → P2 r N) : mi_X0_isReady g v1 M P2 := x_MI_mono h hp
def rm_X5_addTurn : Room := { frames := 1, cells := 0, slots := 0, locals := 21 }
theorem hy_X5_addTurn : yX5_addTurn.cls = RX5 ∧ yX5_addTurn.cls ≠ "java/lang/invoke/MethodHandle" ∧ yX5_addTurn.cls ≠ "java/lang/invoke/VarHandle" ∧ (parseMethodDescriptor yX5_addTurn.desc).map (fun d => d.parameters.length) = some 1 := by decide +kernel
def mi_X5_addTurn (g : xG) (v1 : Int32) (M : xM) (P : xM → Prop) : Prop := x_MV g yX5_addTurn wsX5_addTurn rm_X5_addTurn [.ref (x_a g 191), .int v1] M P
theorem mo_X5_addTurn {g : xG} {v1 : Int32} {M : xM} {P P2 : xM → Prop} (h : mi_X5_addTurn g v1 M P) (hp : ∀ N, P N → P2 N) : mi_X5_addTurn g v1 M P2 := x_MV_mono h hp
def rm_X5_lookAhead : Room := { frames := 4, cells := 0, slots := 0, locals := 92 }
theorem hy_X5_lookAhead : yX5_lookAhead.cls = RX5 ∧ yX5_lookAhead.cls ≠ "java/lang/invoke/MethodHandle" ∧ yX5_lookAhead.cls ≠ "java/lang/invoke/VarHandle" ∧ (parseMethodDescriptor yX5_lookAhead.desc).map (fun d => d.parameters.length) = some 3 := by decide +kernel
def mi_X5_lookAhead (g : xG) (v2 : Int32) (v3 : Int32) (M : xM) (P : xM → Prop) : Prop := x_MV g yX5_lookAhead wsX5_lookAhead rm_X5_lookAhead [.ref (x_a g 191), .ref (x_a g 0), .int v2, .int v3] M P
theorem mo_X5_lookAhead {g : xG} {v2 : Int32} {v3 : Int32} {M : xM} {P P2 : xM → Prop} (h : mi_X5_lookAhead g v2 v3 M P) (hp : ∀ N, P N → P2 N) : mi_X5_lookAhead g v2 v3 M P2 := x_MV_mono h hp
def rm_X9_turnOf : Room := { frames := 5, cells := 0, slots := 0, locals := 119 }
theorem hy_X9_turnOf : yX9_turnOf.cls = RX9 ∧ yX9_turnOf.cls ≠ "java/lang/invoke/MethodHandle" ∧ yX9_turnOf.cls ≠ "java/lang/invoke/VarHandle" ∧ (parseMethodDescriptor yX9_turnOf.desc).map (fun d => d.parameters.length) = some 2 := by decide +kernel
def mi_X9_turnOf (g : xG) (v1 : Int32) (v2 : Int32) (M : xM) (P : Int32 → xM → Prop) : Prop := x_MI g yX9_turnOf wsX9_turnOf rm_X9_turnOf [.ref (x_a g 180), .int v1, .int v2] M P
theorem mo_X9_turnOf {g : xG} {v1 : Int32} {v2 : Int32} {M : xM} {P P2 : Int32 → xM → Prop} (h : mi_X9_turnOf g v1 v2 M P) (hp : ∀ r N, P r N → P2 r N) : mi_X9_turnOf g v1 v2 M P2 := x_MI_mono h hp
def rm_X9_endOfAll : Room := { frames := 3, cells := 0, slots := 0, locals := 66 }
theorem hy_X9_endOfAll : yX9_endOfAll.cls = RX9 ∧ yX9_endOfAll.cls ≠ "java/lang/invoke/MethodHandle" ∧ yX9_endOfAll.cls ≠ "java/lang/invoke/VarHandle" ∧ (parseMethodDescriptor yX9_endOfAll.desc).map (fun d => d.parameters.length) = some 0 := by decide +kernel
def mi_X9_endOfAll (g : xG) (M : xM) (P : Int32 → xM → Prop) : Prop := x_MI g yX9_endOfAll wsX9_endOfAll rm_X9_endOfAll [.ref (x_a g 180)] M P
theorem mo_X9_endOfAll {g : xG} {M : xM} {P P2 : Int32 → xM → Prop} (h : mi_X9_endOfAll g M P) (hp : ∀ r N, P r N → P2 r N) : mi_X9_endOfAll g M P2 := x_MI_mono h hp
def rm_X9_ifLeft : Room := { frames := 3, cells := 0, slots := 0, locals := 66 }
theorem hy_X9_ifLeft : yX9_ifLeft.cls = RX9 ∧ yX9_ifLeft.cls ≠ "java/lang/invoke/MethodHandle" ∧ yX9_ifLeft.cls ≠ "java/lang/invoke/VarHandle" ∧ (parseMethodDescriptor yX9_ifLeft.desc).map (fun d => d.parameters.length) = some 1 := by decide +kernel
def mi_X9_ifLeft (g : xG) (v1 : Int32) (M : xM) (P : Int32 → xM → Prop) : Prop := x_MI g yX9_ifLeft wsX9_ifLeft rm_X9_ifLeft [.ref (x_a g 180), .int v1] M P
theorem mo_X9_ifLeft {g : xG} {v1 : Int32} {M : xM} {P P2 : Int32 → xM → Prop} (h : mi_X9_ifLeft g v1 M P) (hp : ∀ r N, P r N → P2 r N) : mi_X9_ifLeft g v1 M P2 := x_MI_mono h hp
def rm_X9_beginWithout : Room := { frames := 5, cells := 0, slots := 0, locals := 119 }
theorem hy_X9_beginWithout : yX9_beginWithout.cls = RX9 ∧ yX9_beginWithout.cls ≠ "java/lang/invoke/MethodHandle" ∧ yX9_beginWithout.cls ≠ "java/lang/invoke/VarHandle" ∧ (parseMethodDescriptor yX9_beginWithout.desc).map (fun d => d.parameters.length) = some 2 := by decide +kernel
def mi_X9_beginWithout (g : xG) (v1 : Int32) (v2 : Int32) (M : xM) (P : Int32 → xM → Prop) : Prop := x_MI g yX9_beginWithout wsX9_beginWithout rm_X9_beginWithout [.ref (x_a g 180), .int v1, .int v2] M P
theorem mo_X9_beginWithout {g : xG} {v1 : Int32} {v2 : Int32} {M : xM} {P P2 : Int32 → xM → Prop} (h : mi_X9_beginWithout g v1 v2 M P) (hp : ∀ r N, P r N → P2 r N) : mi_X9_beginWithout g v1 v2 M P2 := x_MI_mono h hp
def rm_X9_heldUpBy : Room := { frames := 6, cells := 0, slots := 0, locals := 141 }
theorem hy_X9_heldUpBy : yX9_heldUpBy.cls = RX9 ∧ yX9_heldUpBy.cls ≠ "java/lang/invoke/MethodHandle" ∧ yX9_heldUpBy.cls ≠ "java/lang/invoke/VarHandle" ∧ (parseMethodDescriptor yX9_heldUpBy.desc).map (fun d => d.parameters.length) = some 2 := by decide +kernel
def mi_X9_heldUpBy (g : xG) (v1 : Int32) (v2 : Int32) (M : xM) (P : Int32 → xM → Prop) : Prop := x_MI g yX9_heldUpBy wsX9_heldUpBy rm_X9_heldUpBy [.ref (x_a g 180), .int v1, .int v2] M P
theorem mo_X9_heldUpBy {g : xG} {v1 : Int32} {v2 : Int32} {M : xM} {P P2 : Int32 → xM → Prop} (h : mi_X9_heldUpBy g v1 v2 M P) (hp : ∀ r N, P r N → P2 r N) : mi_X9_heldUpBy g v1 v2 M P2 := x_MI_mono h hp
def rm_X9_together : Room := { frames := 3, cells := 0, slots := 0, locals := 73 }
theorem hy_X9_together : yX9_together.cls = RX9 ∧ yX9_together.cls ≠ "java/lang/invoke/MethodHandle" ∧ yX9_together.cls ≠ "java/lang/invoke/VarHandle" ∧ (parseMethodDescriptor yX9_together.desc).map (fun d => d.parameters.length) = some 2 := by decide +kernel
def mi_X9_together (g : xG) (v1 : Int32) (v2 : Int32) (M : xM) (P : Int32 → xM → Prop) : Prop := x_MI g yX9_together wsX9_together rm_X9_together [.ref (x_a g 180), .int v1, .int v2] M P
theorem mo_X9_together {g : xG} {v1 : Int32} {v2 : Int32} {M : xM} {P P2 : Int32 → xM → Prop} (h : mi_X9_together g v1 v2 M P) (hp : ∀ r N, P r N → P2 r N) : mi_X9_together g v1 v2 M P2 := x_MI_mono h hp
def rm_X2_numberOf : Room := { frames := 1, cells := 0, slots := 0, locals := 22 }
theorem hy_X2_numberOf : yX2_numberOf.cls = RX2 ∧ yX2_numberOf.cls ≠ "java/lang/invoke/MethodHandle" ∧ yX2_numberOf.cls ≠ "java/lang/invoke/VarHandle" ∧ (parseMethodDescriptor yX2_numberOf.desc).map (fun d => d.parameters.length) = some 1 := by decide +kernel
def mi_X2_numberOf (g : xG) (v0 : Int64) (M : xM) (P : Int32 → xM → Prop) : Prop := x_MI g yX2_numberOf wsX2_numberOf rm_X2_numberOf [.long v0] M P
theorem mo_X2_numberOf {g : xG} {v0 : Int64} {M : xM} {P P2 : Int32 → xM → Prop} (h : mi_X2_numberOf g v0 M P) (hp : ∀ r N, P r N → P2 r N) : mi_X2_numberOf g v0 M P2 := x_MI_mono h hp
def rm_X2_append : Room := { frames := 0, cells := 0, slots := 0, locals := 0 }
theorem hy_X2_append : yX2_append.cls = RX2 ∧ yX2_append.cls ≠ "java/lang/invoke/MethodHandle" ∧ yX2_append.cls ≠ "java/lang/invoke/VarHandle" ∧ (parseMethodDescriptor yX2_append.desc).map (fun d => d.parameters.length) = some 2 := by decide +kernel
def mi_X2_append (g : xG) (v1 : Int64) (v3 : Int32) (M : xM) (P : xM → Prop) : Prop := x_MV g yX2_append wsX2_append rm_X2_append [.ref (x_a g 185), .long v1, .int v3] M P
theorem mo_X2_append {g : xG} {v1 : Int64} {v3 : Int32} {M : xM} {P P2 : xM → Prop} (h : mi_X2_append g v1 v3 M P) (hp : ∀ N, P N → P2 N) : mi_X2_append g v1 v3 M P2 := x_MV_mono h hp
def rm_X9_put : Room := { frames := 2, cells := 0, slots := 0, locals := 46 }
theorem hy_X9_put : yX9_put.cls = RX9 ∧ yX9_put.cls ≠ "java/lang/invoke/MethodHandle" ∧ yX9_put.cls ≠ "java/lang/invoke/VarHandle" ∧ (parseMethodDescriptor yX9_put.desc).map (fun d => d.parameters.length) = some 1 := by decide +kernel
def mi_X9_put (g : xG) (v1 : Int64) (M : xM) (P : Int32 → xM → Prop) : Prop := x_MI g yX9_put wsX9_put rm_X9_put [.ref (x_a g 180), .long v1] M P
theorem mo_X9_put {g : xG} {v1 : Int64} {M : xM} {P P2 : Int32 → xM → Prop} (h : mi_X9_put g v1 M P) (hp : ∀ r N, P r N → P2 r N) : mi_X9_put g v1 M P2 := x_MI_mono h hp
def rm_X9_wipe : Room := { frames := 0, cells := 0, slots := 0, locals := 0 }
theorem hy_X9_wipe : yX9_wipe.cls = RX9 ∧ yX9_wipe.cls ≠ "java/lang/invoke/MethodHandle" ∧ yX9_wipe.cls ≠ "java/lang/invoke/VarHandle" ∧ (parseMethodDescriptor yX9_wipe.desc).map (fun d => d.parameters.length) = some 0 := by decide +kernel
def mi_X9_wipe (g : xG) (M : xM) (P : Int32 → xM → Prop) : Prop := x_MI g yX9_wipe wsX9_wipe rm_X9_wipe [.ref (x_a g 180)] M P
theorem mo_X9_wipe {g : xG} {M : xM} {P P2 : Int32 → xM → Prop} (h : mi_X9_wipe g M P) (hp : ∀ r N, P r N → P2 r N) : mi_X9_wipe g M P2 := x_MI_mono h hp
def rm_X9_fault : Room := { frames := 5, cells := 0, slots := 0, locals := 113 }
theorem hy_X9_fault : yX9_fault.cls = RX9 ∧ yX9_fault.cls ≠ "java/lang/invoke/MethodHandle" ∧ yX9_fault.cls ≠ "java/lang/invoke/VarHandle" ∧ (parseMethodDescriptor yX9_fault.desc).map (fun d => d.parameters.length) = some 0 := by decide +kernel
def mi_X9_fault (g : xG) (M : xM) (P : Int32 → xM → Prop) : Prop := x_MI g yX9_fault wsX9_fault rm_X9_fault [.ref (x_a g 180)] M P
theorem mo_X9_fault {g : xG} {M : xM} {P P2 : Int32 → xM → Prop} (h : mi_X9_fault g M P) (hp : ∀ r N, P r N → P2 r N) : mi_X9_fault g M P2 := x_MI_mono h hp
def rm_X1_takeBackInto : Room := { frames := 4, cells := 0, slots := 0, locals := 89 }
theorem hy_X1_takeBackInto : yX1_takeBackInto.cls = RX1 ∧ yX1_takeBackInto.cls ≠ "java/lang/invoke/MethodHandle" ∧ yX1_takeBackInto.cls ≠ "java/lang/invoke/VarHandle" ∧ (parseMethodDescriptor yX1_takeBackInto.desc).map (fun d => d.parameters.length) = some 1 := by decide +kernel
def mi_X1_takeBackInto (g : xG) (M : xM) (P : xM → Prop) : Prop := x_MV g yX1_takeBackInto wsX1_takeBackInto rm_X1_takeBackInto [.ref (x_a g 181), .ref (x_a g 0)] M P
theorem mo_X1_takeBackInto {g : xG} {M : xM} {P P2 : xM → Prop} (h : mi_X1_takeBackInto g M P) (hp : ∀ N, P N → P2 N) : mi_X1_takeBackInto g M P2 := x_MV_mono h hp
def rm_X9_undo : Room := { frames := 5, cells := 0, slots := 0, locals := 110 }
theorem hy_X9_undo : yX9_undo.cls = RX9 ∧ yX9_undo.cls ≠ "java/lang/invoke/MethodHandle" ∧ yX9_undo.cls ≠ "java/lang/invoke/VarHandle" ∧ (parseMethodDescriptor yX9_undo.desc).map (fun d => d.parameters.length) = some 0 := by decide +kernel
def mi_X9_undo (g : xG) (M : xM) (P : Int32 → xM → Prop) : Prop := x_MI g yX9_undo wsX9_undo rm_X9_undo [.ref (x_a g 180)] M P
theorem mo_X9_undo {g : xG} {M : xM} {P P2 : Int32 → xM → Prop} (h : mi_X9_undo g M P) (hp : ∀ r N, P r N → P2 r N) : mi_X9_undo g M P2 := x_MI_mono h hp
def rm_X9_save : Room := { frames := 4, cells := 0, slots := 0, locals := 89 }
theorem hy_X9_save : yX9_save.cls = RX9 ∧ yX9_save.cls ≠ "java/lang/invoke/MethodHandle" ∧ yX9_save.cls ≠ "java/lang/invoke/VarHandle" ∧ (parseMethodDescriptor yX9_save.desc).map (fun d => d.parameters.length) = some 1 := by decide +kernel
def mi_X9_save (g : xG) (v1 : Int32) (M : xM) (P : Int32 → xM → Prop) : Prop := x_MI g yX9_save wsX9_save rm_X9_save [.ref (x_a g 180), .int v1] M P
theorem mo_X9_save {g : xG} {v1 : Int32} {M : xM} {P P2 : Int32 → xM → Prop} (h : mi_X9_save g v1 M P) (hp : ∀ r N, P r N → P2 r N) : mi_X9_save g v1 M P2 := x_MI_mono h hp
def rm_X9_restore : Room := { frames := 5, cells := 0, slots := 0, locals := 110 }
theorem hy_X9_restore : yX9_restore.cls = RX9 ∧ yX9_restore.cls ≠ "java/lang/invoke/MethodHandle" ∧ yX9_restore.cls ≠ "java/lang/invoke/VarHandle" ∧ (parseMethodDescriptor yX9_restore.desc).map (fun d => d.parameters.length) = some 1 := by decide +kernel
def mi_X9_restore (g : xG) (v1 : Int32) (M : xM) (P : Int32 → xM → Prop) : Prop := x_MI g yX9_restore wsX9_restore rm_X9_restore [.ref (x_a g 180), .int v1] M P
theorem mo_X9_restore {g : xG} {v1 : Int32} {M : xM} {P P2 : Int32 → xM → Prop} (h : mi_X9_restore g v1 M P) (hp : ∀ r N, P r N → P2 r N) : mi_X9_restore g v1 M P2 := x_MI_mono h hp
def rm_X10_moves : Room := { frames := 0, cells := 0, slots := 0, locals := 0 }
theorem hy_X10_moves : yX10_moves.cls = RX10 ∧ yX10_moves.cls ≠ "java/lang/invoke/MethodHandle" ∧ yX10_moves.cls ≠ "java/lang/invoke/VarHandle" ∧ (parseMethodDescriptor yX10_moves.desc).map (fun d => d.parameters.length) = some 4 := by decide +kernel
def mi_X10_moves (g : xG) (a : Nat) (v1 : Int32) (b : Nat) (v3 : Int32) (M : xM) (P : xM → Prop) : Prop := x_MV g yX10_moves wsX10_moves rm_X10_moves [.ref (x_a g a), .int v1, .ref (x_a g b), .int v3] M P
theorem mo_X10_moves {g : xG} {a : Nat} {v1 : Int32} {b : Nat} {v3 : Int32} {M : xM} {P P2 : xM → Prop} (h : mi_X10_moves g a v1 b v3 M P) (hp : ∀ N, P N → P2 N) : mi_X10_moves g a v1 b v3 M P2 := x_MV_mono h hp
def rm_X10_within : Room := { frames := 0, cells := 0, slots := 0, locals := 0 }
theorem hy_X10_within : yX10_within.cls = RX10 ∧ yX10_within.cls ≠ "java/lang/invoke/MethodHandle" ∧ yX10_within.cls ≠ "java/lang/invoke/VarHandle" ∧ (parseMethodDescriptor yX10_within.desc).map (fun d => d.parameters.length) = some 3 := by decide +kernel
def mi_X10_within (g : xG) (v0 : Int32) (v1 : Int32) (v2 : Int32) (M : xM) (P : Int32 → xM → Prop) : Prop := x_MI g yX10_within wsX10_within rm_X10_within [.int v0, .int v1, .int v2] M P
theorem mo_X10_within {g : xG} {v0 : Int32} {v1 : Int32} {v2 : Int32} {M : xM} {P P2 : Int32 → xM → Prop} (h : mi_X10_within g v0 v1 v2 M P) (hp : ∀ r N, P r N → P2 r N) : mi_X10_within g v0 v1 v2 M P2 := x_MI_mono h hp
def rm_X10_record : Room := { frames := 1, cells := 0, slots := 0, locals := 24 }
theorem hy_X10_record : yX10_record.cls = RX10 ∧ yX10_record.cls ≠ "java/lang/invoke/MethodHandle" ∧ yX10_record.cls ≠ "java/lang/invoke/VarHandle" ∧ (parseMethodDescriptor yX10_record.desc).map (fun d => d.parameters.length) = some 0 := by decide +kernel
def mi_X10_record (g : xG) (M : xM) (P : xM → Prop) : Prop := x_MV g yX10_record wsX10_record rm_X10_record [.ref (x_a g 193)] M P
theorem mo_X10_record {g : xG} {M : xM} {P P2 : xM → Prop} (h : mi_X10_record g M P) (hp : ∀ N, P N → P2 N) : mi_X10_record g M P2 := x_MV_mono h hp
def rm_X10_isSinger : Room := { frames := 1, cells := 0, slots := 0, locals := 22 }
theorem hy_X10_isSinger : yX10_isSinger.cls = RX10 ∧ yX10_isSinger.cls ≠ "java/lang/invoke/MethodHandle" ∧ yX10_isSinger.cls ≠ "java/lang/invoke/VarHandle" ∧ (parseMethodDescriptor yX10_isSinger.desc).map (fun d => d.parameters.length) = some 1 := by decide +kernel
def mi_X10_isSinger (g : xG) (v1 : Int32) (M : xM) (P : Int32 → xM → Prop) : Prop := x_MI g yX10_isSinger wsX10_isSinger rm_X10_isSinger [.ref (x_a g 193), .int v1] M P
theorem mo_X10_isSinger {g : xG} {v1 : Int32} {M : xM} {P P2 : Int32 → xM → Prop} (h : mi_X10_isSinger g v1 M P) (hp : ∀ r N, P r N → P2 r N) : mi_X10_isSinger g v1 M P2 := x_MI_mono h hp
def rm_X10_isSong : Room := { frames := 1, cells := 0, slots := 0, locals := 22 }
theorem hy_X10_isSong : yX10_isSong.cls = RX10 ∧ yX10_isSong.cls ≠ "java/lang/invoke/MethodHandle" ∧ yX10_isSong.cls ≠ "java/lang/invoke/VarHandle" ∧ (parseMethodDescriptor yX10_isSong.desc).map (fun d => d.parameters.length) = some 1 := by decide +kernel
def mi_X10_isSong (g : xG) (v1 : Int32) (M : xM) (P : Int32 → xM → Prop) : Prop := x_MI g yX10_isSong wsX10_isSong rm_X10_isSong [.ref (x_a g 193), .int v1] M P
theorem mo_X10_isSong {g : xG} {v1 : Int32} {M : xM} {P P2 : Int32 → xM → Prop} (h : mi_X10_isSong g v1 M P) (hp : ∀ r N, P r N → P2 r N) : mi_X10_isSong g v1 M P2 := x_MI_mono h hp
def rm_X10_isWish : Room := { frames := 1, cells := 0, slots := 0, locals := 22 }
theorem hy_X10_isWish : yX10_isWish.cls = RX10 ∧ yX10_isWish.cls ≠ "java/lang/invoke/MethodHandle" ∧ yX10_isWish.cls ≠ "java/lang/invoke/VarHandle" ∧ (parseMethodDescriptor yX10_isWish.desc).map (fun d => d.parameters.length) = some 1 := by decide +kernel
def mi_X10_isWish (g : xG) (v1 : Int32) (M : xM) (P : Int32 → xM → Prop) : Prop := x_MI g yX10_isWish wsX10_isWish rm_X10_isWish [.ref (x_a g 193), .int v1] M P
theorem mo_X10_isWish {g : xG} {v1 : Int32} {M : xM} {P P2 : Int32 → xM → Prop} (h : mi_X10_isWish g v1 M P) (hp : ∀ r N, P r N → P2 r N) : mi_X10_isWish g v1 M P2 := x_MI_mono h hp
def rm_X10_singerPart : Room := { frames := 0, cells := 0, slots := 0, locals := 0 }
theorem hy_X10_singerPart : yX10_singerPart.cls = RX10 ∧ yX10_singerPart.cls ≠ "java/lang/invoke/MethodHandle" ∧ yX10_singerPart.cls ≠ "java/lang/invoke/VarHandle" ∧ (parseMethodDescriptor yX10_singerPart.desc).map (fun d => d.parameters.length) = some 2 := by decide +kernel
def mi_X10_singerPart (g : xG) (v1 : Int32) (v2 : Int32) (M : xM) (P : Int32 → xM → Prop) : Prop := x_MI g yX10_singerPart wsX10_singerPart rm_X10_singerPart [.ref (x_a g 193), .int v1, .int v2] M P
theorem mo_X10_singerPart {g : xG} {v1 : Int32} {v2 : Int32} {M : xM} {P P2 : Int32 → xM → Prop} (h : mi_X10_singerPart g v1 v2 M P) (hp : ∀ r N, P r N → P2 r N) : mi_X10_singerPart g v1 v2 M P2 := x_MI_mono h hp
def rm_X10_setSinger : Room := { frames := 0, cells := 0, slots := 0, locals := 0 }
theorem hy_X10_setSinger : yX10_setSinger.cls = RX10 ∧ yX10_setSinger.cls ≠ "java/lang/invoke/MethodHandle" ∧ yX10_setSinger.cls ≠ "java/lang/invoke/VarHandle" ∧ (parseMethodDescriptor yX10_setSinger.desc).map (fun d => d.parameters.length) = some 3 := by decide +kernel
def mi_X10_setSinger (g : xG) (v1 : Int32) (v2 : Int32) (v3 : Int32) (M : xM) (P : xM → Prop) : Prop := x_MV g yX10_setSinger wsX10_setSinger rm_X10_setSinger [.ref (x_a g 193), .int v1, .int v2, .int v3] M P
theorem mo_X10_setSinger {g : xG} {v1 : Int32} {v2 : Int32} {v3 : Int32} {M : xM} {P P2 : xM → Prop} (h : mi_X10_setSinger g v1 v2 v3 M P) (hp : ∀ N, P N → P2 N) : mi_X10_setSinger g v1 v2 v3 M P2 := x_MV_mono h hp
def rm_X10_songPart : Room := { frames := 0, cells := 0, slots := 0, locals := 0 }
theorem hy_X10_songPart : yX10_songPart.cls = RX10 ∧ yX10_songPart.cls ≠ "java/lang/invoke/MethodHandle" ∧ yX10_songPart.cls ≠ "java/lang/invoke/VarHandle" ∧ (parseMethodDescriptor yX10_songPart.desc).map (fun d => d.parameters.length) = some 2 := by decide +kernel
def mi_X10_songPart (g : xG) (v1 : Int32) (v2 : Int32) (M : xM) (P : Int32 → xM → Prop) : Prop := x_MI g yX10_songPart wsX10_songPart rm_X10_songPart [.ref (x_a g 193), .int v1, .int v2] M P
theorem mo_X10_songPart {g : xG} {v1 : Int32} {v2 : Int32} {M : xM} {P P2 : Int32 → xM → Prop} (h : mi_X10_songPart g v1 v2 M P) (hp : ∀ r N, P r N → P2 r N) : mi_X10_songPart g v1 v2 M P2 := x_MI_mono h hp
def rm_X10_wishPart : Room := { frames := 0, cells := 0, slots := 0, locals := 0 }
theorem hy_X10_wishPart : yX10_wishPart.cls = RX10 ∧ yX10_wishPart.cls ≠ "java/lang/invoke/MethodHandle" ∧ yX10_wishPart.cls ≠ "java/lang/invoke/VarHandle" ∧ (parseMethodDescriptor yX10_wishPart.desc).map (fun d => d.parameters.length) = some 2 := by decide +kernel
def mi_X10_wishPart (g : xG) (v1 : Int32) (v2 : Int32) (M : xM) (P : Int32 → xM → Prop) : Prop := x_MI g yX10_wishPart wsX10_wishPart rm_X10_wishPart [.ref (x_a g 193), .int v1, .int v2] M P
theorem mo_X10_wishPart {g : xG} {v1 : Int32} {v2 : Int32} {M : xM} {P P2 : Int32 → xM → Prop} (h : mi_X10_wishPart g v1 v2 M P) (hp : ∀ r N, P r N → P2 r N) : mi_X10_wishPart g v1 v2 M P2 := x_MI_mono h hp
def rm_X10_bits : Room := { frames := 0, cells := 0, slots := 0, locals := 0 }
theorem hy_X10_bits : yX10_bits.cls = RX10 ∧ yX10_bits.cls ≠ "java/lang/invoke/MethodHandle" ∧ yX10_bits.cls ≠ "java/lang/invoke/VarHandle" ∧ (parseMethodDescriptor yX10_bits.desc).map (fun d => d.parameters.length) = some 1 := by decide +kernel
def mi_X10_bits (g : xG) (v0 : Int32) (M : xM) (P : Int32 → xM → Prop) : Prop := x_MI g yX10_bits wsX10_bits rm_X10_bits [.int v0] M P
theorem mo_X10_bits {g : xG} {v0 : Int32} {M : xM} {P P2 : Int32 → xM → Prop} (h : mi_X10_bits g v0 M P) (hp : ∀ r N, P r N → P2 r N) : mi_X10_bits g v0 M P2 := x_MI_mono h hp
def rm_X10_there : Room := { frames := 1, cells := 0, slots := 0, locals := 22 }
theorem hy_X10_there : yX10_there.cls = RX10 ∧ yX10_there.cls ≠ "java/lang/invoke/MethodHandle" ∧ yX10_there.cls ≠ "java/lang/invoke/VarHandle" ∧ (parseMethodDescriptor yX10_there.desc).map (fun d => d.parameters.length) = some 0 := by decide +kernel
def mi_X10_there (g : xG) (M : xM) (P : Int32 → xM → Prop) : Prop := x_MI g yX10_there wsX10_there rm_X10_there [.ref (x_a g 193)] M P
theorem mo_X10_there {g : xG} {M : xM} {P P2 : Int32 → xM → Prop} (h : mi_X10_there g M P) (hp : ∀ r N, P r N → P2 r N) : mi_X10_there g M P2 := x_MI_mono h hp
def rm_X10_singersOf : Room := { frames := 1, cells := 0, slots := 0, locals := 22 }
theorem hy_X10_singersOf : yX10_singersOf.cls = RX10 ∧ yX10_singersOf.cls ≠ "java/lang/invoke/MethodHandle" ∧ yX10_singersOf.cls ≠ "java/lang/invoke/VarHandle" ∧ (parseMethodDescriptor yX10_singersOf.desc).map (fun d => d.parameters.length) = some 1 := by decide +kernel
def mi_X10_singersOf (g : xG) (v1 : Int32) (M : xM) (P : Int32 → xM → Prop) : Prop := x_MI g yX10_singersOf wsX10_singersOf rm_X10_singersOf [.ref (x_a g 193), .int v1] M P
theorem mo_X10_singersOf {g : xG} {v1 : Int32} {M : xM} {P P2 : Int32 → xM → Prop} (h : mi_X10_singersOf g v1 M P) (hp : ∀ r N, P r N → P2 r N) : mi_X10_singersOf g v1 M P2 := x_MI_mono h hp
def rm_X10_isKeyFor : Room := { frames := 1, cells := 0, slots := 0, locals := 22 }
theorem hy_X10_isKeyFor : yX10_isKeyFor.cls = RX10 ∧ yX10_isKeyFor.cls ≠ "java/lang/invoke/MethodHandle" ∧ yX10_isKeyFor.cls ≠ "java/lang/invoke/VarHandle" ∧ (parseMethodDescriptor yX10_isKeyFor.desc).map (fun d => d.parameters.length) = some 3 := by decide +kernel
def mi_X10_isKeyFor (g : xG) (v1 : Int32) (v2 : Int32) (v3 : Int32) (M : xM) (P : Int32 → xM → Prop) : Prop := x_MI g yX10_isKeyFor wsX10_isKeyFor rm_X10_isKeyFor [.ref (x_a g 193), .int v1, .int v2, .int v3] M P
theorem mo_X10_isKeyFor {g : xG} {v1 : Int32} {v2 : Int32} {v3 : Int32} {M : xM} {P P2 : Int32 → xM → Prop} (h : mi_X10_isKeyFor g v1 v2 v3 M P) (hp : ∀ r N, P r N → P2 r N) : mi_X10_isKeyFor g v1 v2 v3 M P2 := x_MI_mono h hp
def rm_X10_keyFor : Room := { frames := 2, cells := 0, slots := 0, locals := 45 }
theorem hy_X10_keyFor : yX10_keyFor.cls = RX10 ∧ yX10_keyFor.cls ≠ "java/lang/invoke/MethodHandle" ∧ yX10_keyFor.cls ≠ "java/lang/invoke/VarHandle" ∧ (parseMethodDescriptor yX10_keyFor.desc).map (fun d => d.parameters.length) = some 3 := by decide +kernel
def mi_X10_keyFor (g : xG) (v1 : Int32) (v2 : Int32) (v3 : Int32) (M : xM) (P : Int32 → xM → Prop) : Prop := x_MI g yX10_keyFor wsX10_keyFor rm_X10_keyFor [.ref (x_a g 193), .int v1, .int v2, .int v3] M P
theorem mo_X10_keyFor {g : xG} {v1 : Int32} {v2 : Int32} {v3 : Int32} {M : xM} {P P2 : Int32 → xM → Prop} (h : mi_X10_keyFor g v1 v2 v3 M P) (hp : ∀ r N, P r N → P2 r N) : mi_X10_keyFor g v1 v2 v3 M P2 := x_MI_mono h hp
def rm_X10_isReady : Room := { frames := 2, cells := 0, slots := 0, locals := 44 }
theorem hy_X10_isReady : yX10_isReady.cls = RX10 ∧ yX10_isReady.cls ≠ "java/lang/invoke/MethodHandle" ∧ yX10_isReady.cls ≠ "java/lang/invoke/VarHandle" ∧ (parseMethodDescriptor yX10_isReady.desc).map (fun d => d.parameters.length) = some 1 := by decide +kernel
def mi_X10_isReady (g : xG) (v1 : Int32) (M : xM) (P : Int32 → xM → Prop) : Prop := x_MI g yX10_isReady wsX10_isReady rm_X10_isReady [.ref (x_a g 193), .int v1] M P
theorem mo_X10_isReady {g : xG} {v1 : Int32} {M : xM} {P P2 : Int32 → xM → Prop} (h : mi_X10_isReady g v1 M P) (hp : ∀ r N, P r N → P2 r N) : mi_X10_isReady g v1 M P2 := x_MI_mono h hp
def rm_X10_isFresh : Room := { frames := 2, cells := 0, slots := 0, locals := 44 }
theorem hy_X10_isFresh : yX10_isFresh.cls = RX10 ∧ yX10_isFresh.cls ≠ "java/lang/invoke/MethodHandle" ∧ yX10_isFresh.cls ≠ "java/lang/invoke/VarHandle" ∧ (parseMethodDescriptor yX10_isFresh.desc).map (fun d => d.parameters.length) = some 1 := by decide +kernel
def mi_X10_isFresh (g : xG) (v1 : Int32) (M : xM) (P : Int32 → xM → Prop) : Prop := x_MI g yX10_isFresh wsX10_isFresh rm_X10_isFresh [.ref (x_a g 193), .int v1] M P
theorem mo_X10_isFresh {g : xG} {v1 : Int32} {M : xM} {P P2 : Int32 → xM → Prop} (h : mi_X10_isFresh g v1 M P) (hp : ∀ r N, P r N → P2 r N) : mi_X10_isFresh g v1 M P2 := x_MI_mono h hp
def rm_X10_turnsFor : Room := { frames := 1, cells := 0, slots := 0, locals := 22 }
theorem hy_X10_turnsFor : yX10_turnsFor.cls = RX10 ∧ yX10_turnsFor.cls ≠ "java/lang/invoke/MethodHandle" ∧ yX10_turnsFor.cls ≠ "java/lang/invoke/VarHandle" ∧ (parseMethodDescriptor yX10_turnsFor.desc).map (fun d => d.parameters.length) = some 1 := by decide +kernel
def mi_X10_turnsFor (g : xG) (v1 : Int32) (M : xM) (P : Int32 → xM → Prop) : Prop := x_MI g yX10_turnsFor wsX10_turnsFor rm_X10_turnsFor [.ref (x_a g 193), .int v1] M P
theorem mo_X10_turnsFor {g : xG} {v1 : Int32} {M : xM} {P P2 : Int32 → xM → Prop} (h : mi_X10_turnsFor g v1 M P) (hp : ∀ r N, P r N → P2 r N) : mi_X10_turnsFor g v1 M P2 := x_MI_mono h hp
def rm_X10_nextOf : Room := { frames := 3, cells := 0, slots := 0, locals := 65 }
theorem hy_X10_nextOf : yX10_nextOf.cls = RX10 ∧ yX10_nextOf.cls ≠ "java/lang/invoke/MethodHandle" ∧ yX10_nextOf.cls ≠ "java/lang/invoke/VarHandle" ∧ (parseMethodDescriptor yX10_nextOf.desc).map (fun d => d.parameters.length) = some 1 := by decide +kernel
def mi_X10_nextOf (g : xG) (v1 : Int32) (M : xM) (P : Int32 → xM → Prop) : Prop := x_MI g yX10_nextOf wsX10_nextOf rm_X10_nextOf [.ref (x_a g 193), .int v1] M P
theorem mo_X10_nextOf {g : xG} {v1 : Int32} {M : xM} {P P2 : Int32 → xM → Prop} (h : mi_X10_nextOf g v1 M P) (hp : ∀ r N, P r N → P2 r N) : mi_X10_nextOf g v1 M P2 := x_MI_mono h hp
def rm_X10_nextWish : Room := { frames := 4, cells := 0, slots := 0, locals := 89 }
theorem hy_X10_nextWish : yX10_nextWish.cls = RX10 ∧ yX10_nextWish.cls ≠ "java/lang/invoke/MethodHandle" ∧ yX10_nextWish.cls ≠ "java/lang/invoke/VarHandle" ∧ (parseMethodDescriptor yX10_nextWish.desc).map (fun d => d.parameters.length) = some 0 := by decide +kernel
def mi_X10_nextWish (g : xG) (M : xM) (P : Int32 → xM → Prop) : Prop := x_MI g yX10_nextWish wsX10_nextWish rm_X10_nextWish [.ref (x_a g 193)] M P
theorem mo_X10_nextWish {g : xG} {M : xM} {P P2 : Int32 → xM → Prop} (h : mi_X10_nextWish g M P) (hp : ∀ r N, P r N → P2 r N) : mi_X10_nextWish g M P2 := x_MI_mono h hp
def rm_X10_remove : Room := { frames := 0, cells := 0, slots := 0, locals := 0 }
theorem hy_X10_remove : yX10_remove.cls = RX10 ∧ yX10_remove.cls ≠ "java/lang/invoke/MethodHandle" ∧ yX10_remove.cls ≠ "java/lang/invoke/VarHandle" ∧ (parseMethodDescriptor yX10_remove.desc).map (fun d => d.parameters.length) = some 1 := by decide +kernel
def mi_X10_remove (g : xG) (v1 : Int32) (M : xM) (P : xM → Prop) : Prop := x_MV g yX10_remove wsX10_remove rm_X10_remove [.ref (x_a g 193), .int v1] M P
theorem mo_X10_remove {g : xG} {v1 : Int32} {M : xM} {P P2 : xM → Prop} (h : mi_X10_remove g v1 M P) (hp : ∀ N, P N → P2 N) : mi_X10_remove g v1 M P2 := x_MV_mono h hp
def rm_X10_remember : Room := { frames := 1, cells := 0, slots := 0, locals := 22 }
theorem hy_X10_remember : yX10_remember.cls = RX10 ∧ yX10_remember.cls ≠ "java/lang/invoke/MethodHandle" ∧ yX10_remember.cls ≠ "java/lang/invoke/VarHandle" ∧ (parseMethodDescriptor yX10_remember.desc).map (fun d => d.parameters.length) = some 1 := by decide +kernel
def mi_X10_remember (g : xG) (v1 : Int32) (M : xM) (P : xM → Prop) : Prop := x_MV g yX10_remember wsX10_remember rm_X10_remember [.ref (x_a g 193), .int v1] M P
theorem mo_X10_remember {g : xG} {v1 : Int32} {M : xM} {P P2 : xM → Prop} (h : mi_X10_remember g v1 M P) (hp : ∀ N, P N → P2 N) : mi_X10_remember g v1 M P2 := x_MV_mono h hp
def rm_X10_singWish : Room := { frames := 2, cells := 0, slots := 0, locals := 44 }
theorem hy_X10_singWish : yX10_singWish.cls = RX10 ∧ yX10_singWish.cls ≠ "java/lang/invoke/MethodHandle" ∧ yX10_singWish.cls ≠ "java/lang/invoke/VarHandle" ∧ (parseMethodDescriptor yX10_singWish.desc).map (fun d => d.parameters.length) = some 1 := by decide +kernel
def mi_X10_singWish (g : xG) (v1 : Int32) (M : xM) (P : xM → Prop) : Prop := x_MV g yX10_singWish wsX10_singWish rm_X10_singWish [.ref (x_a g 193), .int v1] M P
theorem mo_X10_singWish {g : xG} {v1 : Int32} {M : xM} {P P2 : xM → Prop} (h : mi_X10_singWish g v1 M P) (hp : ∀ N, P N → P2 N) : mi_X10_singWish g v1 M P2 := x_MV_mono h hp
def rm_X10_singer : Room := { frames := 2, cells := 0, slots := 0, locals := 45 }
theorem hy_X10_singer : yX10_singer.cls = RX10 ∧ yX10_singer.cls ≠ "java/lang/invoke/MethodHandle" ∧ yX10_singer.cls ≠ "java/lang/invoke/VarHandle" ∧ (parseMethodDescriptor yX10_singer.desc).map (fun d => d.parameters.length) = some 2 := by decide +kernel
def mi_X10_singer (g : xG) (v1 : Int32) (v2 : Int32) (M : xM) (P : Int32 → xM → Prop) : Prop := x_MI g yX10_singer wsX10_singer rm_X10_singer [.ref (x_a g 193), .int v1, .int v2] M P
theorem mo_X10_singer {g : xG} {v1 : Int32} {v2 : Int32} {M : xM} {P P2 : Int32 → xM → Prop} (h : mi_X10_singer g v1 v2 M P) (hp : ∀ r N, P r N → P2 r N) : mi_X10_singer g v1 v2 M P2 := x_MI_mono h hp
def rm_X10_song : Room := { frames := 2, cells := 0, slots := 0, locals := 45 }
theorem hy_X10_song : yX10_song.cls = RX10 ∧ yX10_song.cls ≠ "java/lang/invoke/MethodHandle" ∧ yX10_song.cls ≠ "java/lang/invoke/VarHandle" ∧ (parseMethodDescriptor yX10_song.desc).map (fun d => d.parameters.length) = some 3 := by decide +kernel
def mi_X10_song (g : xG) (v1 : Int32) (v2 : Int32) (v3 : Int32) (M : xM) (P : Int32 → xM → Prop) : Prop := x_MI g yX10_song wsX10_song rm_X10_song [.ref (x_a g 193), .int v1, .int v2, .int v3] M P
theorem mo_X10_song {g : xG} {v1 : Int32} {v2 : Int32} {v3 : Int32} {M : xM} {P P2 : Int32 → xM → Prop} (h : mi_X10_song g v1 v2 v3 M P) (hp : ∀ r N, P r N → P2 r N) : mi_X10_song g v1 v2 v3 M P2 := x_MI_mono h hp
def rm_X10_leave : Room := { frames := 2, cells := 0, slots := 0, locals := 45 }
theorem hy_X10_leave : yX10_leave.cls = RX10 ∧ yX10_leave.cls ≠ "java/lang/invoke/MethodHandle" ∧ yX10_leave.cls ≠ "java/lang/invoke/VarHandle" ∧ (parseMethodDescriptor yX10_leave.desc).map (fun d => d.parameters.length) = some 2 := by decide +kernel
def mi_X10_leave (g : xG) (v1 : Int32) (v2 : Int32) (M : xM) (P : Int32 → xM → Prop) : Prop := x_MI g yX10_leave wsX10_leave rm_X10_leave [.ref (x_a g 193), .int v1, .int v2] M P
theorem mo_X10_leave {g : xG} {v1 : Int32} {v2 : Int32} {M : xM} {P P2 : Int32 → xM → Prop} (h : mi_X10_leave g v1 v2 M P) (hp : ∀ r N, P r N → P2 r N) : mi_X10_leave g v1 v2 M P2 := x_MI_mono h hp
def rm_X10_areSingers : Room := { frames := 2, cells := 0, slots := 0, locals := 43 }
theorem hy_X10_areSingers : yX10_areSingers.cls = RX10 ∧ yX10_areSingers.cls ≠ "java/lang/invoke/MethodHandle" ∧ yX10_areSingers.cls ≠ "java/lang/invoke/VarHandle" ∧ (parseMethodDescriptor yX10_areSingers.desc).map (fun d => d.parameters.length) = some 2 := by decide +kernel
def mi_X10_areSingers (g : xG) (v1 : Int32) (v2 : Int32) (M : xM) (P : Int32 → xM → Prop) : Prop := x_MI g yX10_areSingers wsX10_areSingers rm_X10_areSingers [.ref (x_a g 193), .int v1, .int v2] M P
theorem mo_X10_areSingers {g : xG} {v1 : Int32} {v2 : Int32} {M : xM} {P P2 : Int32 → xM → Prop} (h : mi_X10_areSingers g v1 v2 M P) (hp : ∀ r N, P r N → P2 r N) : mi_X10_areSingers g v1 v2 M P2 := x_MI_mono h hp
def rm_X10_whyNotWished : Room := { frames := 3, cells := 0, slots := 0, locals := 72 }
theorem hy_X10_whyNotWished : yX10_whyNotWished.cls = RX10 ∧ yX10_whyNotWished.cls ≠ "java/lang/invoke/MethodHandle" ∧ yX10_whyNotWished.cls ≠ "java/lang/invoke/VarHandle" ∧ (parseMethodDescriptor yX10_whyNotWished.desc).map (fun d => d.parameters.length) = some 3 := by decide +kernel
def mi_X10_whyNotWished (g : xG) (v1 : Int32) (v2 : Int32) (v3 : Int32) (M : xM) (P : Int32 → xM → Prop) : Prop := x_MI g yX10_whyNotWished wsX10_whyNotWished rm_X10_whyNotWished [.ref (x_a g 193), .int v1, .int v2, .int v3] M P
theorem mo_X10_whyNotWished {g : xG} {v1 : Int32} {v2 : Int32} {v3 : Int32} {M : xM} {P P2 : Int32 → xM → Prop} (h : mi_X10_whyNotWished g v1 v2 v3 M P) (hp : ∀ r N, P r N → P2 r N) : mi_X10_whyNotWished g v1 v2 v3 M P2 := x_MI_mono h hp
def rm_X10_wished : Room := { frames := 0, cells := 0, slots := 0, locals := 0 }
theorem hy_X10_wished : yX10_wished.cls = RX10 ∧ yX10_wished.cls ≠ "java/lang/invoke/MethodHandle" ∧ yX10_wished.cls ≠ "java/lang/invoke/VarHandle" ∧ (parseMethodDescriptor yX10_wished.desc).map (fun d => d.parameters.length) = some 3 := by decide +kernel
def mi_X10_wished (g : xG) (v1 : Int32) (v2 : Int32) (v3 : Int32) (M : xM) (P : Int32 → xM → Prop) : Prop := x_MI g yX10_wished wsX10_wished rm_X10_wished [.ref (x_a g 193), .int v1, .int v2, .int v3] M P
theorem mo_X10_wished {g : xG} {v1 : Int32} {v2 : Int32} {v3 : Int32} {M : xM} {P P2 : Int32 → xM → Prop} (h : mi_X10_wished g v1 v2 v3 M P) (hp : ∀ r N, P r N → P2 r N) : mi_X10_wished g v1 v2 v3 M P2 := x_MI_mono h hp
def rm_X10_wish : Room := { frames := 4, cells := 0, slots := 0, locals := 95 }
theorem hy_X10_wish : yX10_wish.cls = RX10 ∧ yX10_wish.cls ≠ "java/lang/invoke/MethodHandle" ∧ yX10_wish.cls ≠ "java/lang/invoke/VarHandle" ∧ (parseMethodDescriptor yX10_wish.desc).map (fun d => d.parameters.length) = some 3 := by decide +kernel
def mi_X10_wish (g : xG) (v1 : Int32) (v2 : Int32) (v3 : Int32) (M : xM) (P : Int32 → xM → Prop) : Prop := x_MI g yX10_wish wsX10_wish rm_X10_wish [.ref (x_a g 193), .int v1, .int v2, .int v3] M P
theorem mo_X10_wish {g : xG} {v1 : Int32} {v2 : Int32} {v3 : Int32} {M : xM} {P P2 : Int32 → xM → Prop} (h : mi_X10_wish g v1 v2 v3 M P) (hp : ∀ r N, P r N → P2 r N) : mi_X10_wish g v1 v2 v3 M P2 := x_MI_mono h hp
def rm_X10_takeBack : Room := { frames := 2, cells := 0, slots := 0, locals := 45 }
theorem hy_X10_takeBack : yX10_takeBack.cls = RX10 ∧ yX10_takeBack.cls ≠ "java/lang/invoke/MethodHandle" ∧ yX10_takeBack.cls ≠ "java/lang/invoke/VarHandle" ∧ (parseMethodDescriptor yX10_takeBack.desc).map (fun d => d.parameters.length) = some 1 := by decide +kernel
def mi_X10_takeBack (g : xG) (v1 : Int32) (M : xM) (P : Int32 → xM → Prop) : Prop := x_MI g yX10_takeBack wsX10_takeBack rm_X10_takeBack [.ref (x_a g 193), .int v1] M P
theorem mo_X10_takeBack {g : xG} {v1 : Int32} {M : xM} {P P2 : Int32 → xM → Prop} (h : mi_X10_takeBack g v1 M P) (hp : ∀ r N, P r N → P2 r N) : mi_X10_takeBack g v1 M P2 := x_MI_mono h hp
def rm_X10_sing : Room := { frames := 5, cells := 0, slots := 0, locals := 110 }
theorem hy_X10_sing : yX10_sing.cls = RX10 ∧ yX10_sing.cls ≠ "java/lang/invoke/MethodHandle" ∧ yX10_sing.cls ≠ "java/lang/invoke/VarHandle" ∧ (parseMethodDescriptor yX10_sing.desc).map (fun d => d.parameters.length) = some 1 := by decide +kernel
def mi_X10_sing (g : xG) (v1 : Int32) (M : xM) (P : Int32 → xM → Prop) : Prop := x_MI g yX10_sing wsX10_sing rm_X10_sing [.ref (x_a g 193), .int v1] M P
theorem mo_X10_sing {g : xG} {v1 : Int32} {M : xM} {P P2 : Int32 → xM → Prop} (h : mi_X10_sing g v1 M P) (hp : ∀ r N, P r N → P2 r N) : mi_X10_sing g v1 M P2 := x_MI_mono h hp
def rm_X10_character : Room := { frames := 0, cells := 0, slots := 0, locals := 0 }
theorem hy_X10_character : yX10_character.cls = RX10 ∧ yX10_character.cls ≠ "java/lang/invoke/MethodHandle" ∧ yX10_character.cls ≠ "java/lang/invoke/VarHandle" ∧ (parseMethodDescriptor yX10_character.desc).map (fun d => d.parameters.length) = some 1 := by decide +kernel
def mi_X10_character (g : xG) (v1 : Int32) (M : xM) (P : Int32 → xM → Prop) : Prop := x_MI g yX10_character wsX10_character rm_X10_character [.ref (x_a g 193), .int v1] M P
theorem mo_X10_character {g : xG} {v1 : Int32} {M : xM} {P P2 : Int32 → xM → Prop} (h : mi_X10_character g v1 M P) (hp : ∀ r N, P r N → P2 r N) : mi_X10_character g v1 M P2 := x_MI_mono h hp
def rm_X10_takeNumber : Room := { frames := 1, cells := 0, slots := 0, locals := 22 }
theorem hy_X10_takeNumber : yX10_takeNumber.cls = RX10 ∧ yX10_takeNumber.cls ≠ "java/lang/invoke/MethodHandle" ∧ yX10_takeNumber.cls ≠ "java/lang/invoke/VarHandle" ∧ (parseMethodDescriptor yX10_takeNumber.desc).map (fun d => d.parameters.length) = some 1 := by decide +kernel
def mi_X10_takeNumber (g : xG) (v1 : Int32) (M : xM) (P : Int32 → xM → Prop) : Prop := x_MI g yX10_takeNumber wsX10_takeNumber rm_X10_takeNumber [.ref (x_a g 193), .int v1] M P
theorem mo_X10_takeNumber {g : xG} {v1 : Int32} {M : xM} {P P2 : Int32 → xM → Prop} (h : mi_X10_takeNumber g v1 M P) (hp : ∀ r N, P r N → P2 r N) : mi_X10_takeNumber g v1 M P2 := x_MI_mono h hp
def rm_X10_isNext : Room := { frames := 1, cells := 0, slots := 0, locals := 21 }
theorem hy_X10_isNext : yX10_isNext.cls = RX10 ∧ yX10_isNext.cls ≠ "java/lang/invoke/MethodHandle" ∧ yX10_isNext.cls ≠ "java/lang/invoke/VarHandle" ∧ (parseMethodDescriptor yX10_isNext.desc).map (fun d => d.parameters.length) = some 1 := by decide +kernel
def mi_X10_isNext (g : xG) (v1 : Int32) (M : xM) (P : Int32 → xM → Prop) : Prop := x_MI g yX10_isNext wsX10_isNext rm_X10_isNext [.ref (x_a g 193), .int v1] M P
theorem mo_X10_isNext {g : xG} {v1 : Int32} {M : xM} {P P2 : Int32 → xM → Prop} (h : mi_X10_isNext g v1 M P) (hp : ∀ r N, P r N → P2 r N) : mi_X10_isNext g v1 M P2 := x_MI_mono h hp
def rm_X10_readsWish : Room := { frames := 2, cells := 0, slots := 0, locals := 45 }
theorem hy_X10_readsWish : yX10_readsWish.cls = RX10 ∧ yX10_readsWish.cls ≠ "java/lang/invoke/MethodHandle" ∧ yX10_readsWish.cls ≠ "java/lang/invoke/VarHandle" ∧ (parseMethodDescriptor yX10_readsWish.desc).map (fun d => d.parameters.length) = some 0 := by decide +kernel
def mi_X10_readsWish (g : xG) (M : xM) (P : Int32 → xM → Prop) : Prop := x_MI g yX10_readsWish wsX10_readsWish rm_X10_readsWish [.ref (x_a g 193)] M P
theorem mo_X10_readsWish {g : xG} {M : xM} {P P2 : Int32 → xM → Prop} (h : mi_X10_readsWish g M P) (hp : ∀ r N, P r N → P2 r N) : mi_X10_readsWish g M P2 := x_MI_mono h hp
def rm_X10_findFault : Room := { frames := 3, cells := 0, slots := 0, locals := 65 }
theorem hy_X10_findFault : yX10_findFault.cls = RX10 ∧ yX10_findFault.cls ≠ "java/lang/invoke/MethodHandle" ∧ yX10_findFault.cls ≠ "java/lang/invoke/VarHandle" ∧ (parseMethodDescriptor yX10_findFault.desc).map (fun d => d.parameters.length) = some 0 := by decide +kernel
def mi_X10_findFault (g : xG) (M : xM) (P : Int32 → xM → Prop) : Prop := x_MI g yX10_findFault wsX10_findFault rm_X10_findFault [.ref (x_a g 193)] M P
theorem mo_X10_findFault {g : xG} {M : xM} {P P2 : Int32 → xM → Prop} (h : mi_X10_findFault g M P) (hp : ∀ r N, P r N → P2 r N) : mi_X10_findFault g M P2 := x_MI_mono h hp
def rm_X10_makeAll : Room := { frames := 4, cells := 0, slots := 0, locals := 95 }
theorem hy_X10_makeAll : yX10_makeAll.cls = RX10 ∧ yX10_makeAll.cls ≠ "java/lang/invoke/MethodHandle" ∧ yX10_makeAll.cls ≠ "java/lang/invoke/VarHandle" ∧ (parseMethodDescriptor yX10_makeAll.desc).map (fun d => d.parameters.length) = some 0 := by decide +kernel
def mi_X10_makeAll (g : xG) (M : xM) (P : Int32 → xM → Prop) : Prop := x_MI g yX10_makeAll wsX10_makeAll rm_X10_makeAll [.ref (x_a g 193)] M P
theorem mo_X10_makeAll {g : xG} {M : xM} {P P2 : Int32 → xM → Prop} (h : mi_X10_makeAll g M P) (hp : ∀ r N, P r N → P2 r N) : mi_X10_makeAll g M P2 := x_MI_mono h hp
def rm_X10_read : Room := { frames := 5, cells := 0, slots := 0, locals := 116 }
theorem hy_X10_read : yX10_read.cls = RX10 ∧ yX10_read.cls ≠ "java/lang/invoke/MethodHandle" ∧ yX10_read.cls ≠ "java/lang/invoke/VarHandle" ∧ (parseMethodDescriptor yX10_read.desc).map (fun d => d.parameters.length) = some 0 := by decide +kernel
def mi_X10_read (g : xG) (M : xM) (P : Int32 → xM → Prop) : Prop := x_MI g yX10_read wsX10_read rm_X10_read [.ref (x_a g 193)] M P
theorem mo_X10_read {g : xG} {M : xM} {P P2 : Int32 → xM → Prop} (h : mi_X10_read g M P) (hp : ∀ r N, P r N → P2 r N) : mi_X10_read g M P2 := x_MI_mono h hp
def rm_X10_wishesOf : Room := { frames := 2, cells := 0, slots := 0, locals := 44 }
theorem hy_X10_wishesOf : yX10_wishesOf.cls = RX10 ∧ yX10_wishesOf.cls ≠ "java/lang/invoke/MethodHandle" ∧ yX10_wishesOf.cls ≠ "java/lang/invoke/VarHandle" ∧ (parseMethodDescriptor yX10_wishesOf.desc).map (fun d => d.parameters.length) = some 1 := by decide +kernel
def mi_X10_wishesOf (g : xG) (v1 : Int32) (M : xM) (P : Int32 → xM → Prop) : Prop := x_MI g yX10_wishesOf wsX10_wishesOf rm_X10_wishesOf [.ref (x_a g 193), .int v1] M P
theorem mo_X10_wishesOf {g : xG} {v1 : Int32} {M : xM} {P P2 : Int32 → xM → Prop} (h : mi_X10_wishesOf g v1 M P) (hp : ∀ r N, P r N → P2 r N) : mi_X10_wishesOf g v1 M P2 := x_MI_mono h hp
def rm_X10_of : Room := { frames := 3, cells := 0, slots := 0, locals := 67 }
theorem hy_X10_of : yX10_of.cls = RX10 ∧ yX10_of.cls ≠ "java/lang/invoke/MethodHandle" ∧ yX10_of.cls ≠ "java/lang/invoke/VarHandle" ∧ (parseMethodDescriptor yX10_of.desc).map (fun d => d.parameters.length) = some 2 := by decide +kernel
def mi_X10_of (g : xG) (v1 : Int32) (v2 : Int32) (M : xM) (P : Int32 → xM → Prop) : Prop := x_MI g yX10_of wsX10_of rm_X10_of [.ref (x_a g 193), .int v1, .int v2] M P
theorem mo_X10_of {g : xG} {v1 : Int32} {v2 : Int32} {M : xM} {P P2 : Int32 → xM → Prop} (h : mi_X10_of g v1 v2 M P) (hp : ∀ r N, P r N → P2 r N) : mi_X10_of g v1 v2 M P2 := x_MI_mono h hp
def rm_X10_inQueue : Room := { frames := 3, cells := 0, slots := 0, locals := 72 }
theorem hy_X10_inQueue : yX10_inQueue.cls = RX10 ∧ yX10_inQueue.cls ≠ "java/lang/invoke/MethodHandle" ∧ yX10_inQueue.cls ≠ "java/lang/invoke/VarHandle" ∧ (parseMethodDescriptor yX10_inQueue.desc).map (fun d => d.parameters.length) = some 2 := by decide +kernel
def mi_X10_inQueue (g : xG) (v1 : Int32) (v2 : Int32) (M : xM) (P : Int32 → xM → Prop) : Prop := x_MI g yX10_inQueue wsX10_inQueue rm_X10_inQueue [.ref (x_a g 193), .int v1, .int v2] M P
theorem mo_X10_inQueue {g : xG} {v1 : Int32} {v2 : Int32} {M : xM} {P P2 : Int32 → xM → Prop} (h : mi_X10_inQueue g v1 v2 M P) (hp : ∀ r N, P r N → P2 r N) : mi_X10_inQueue g v1 v2 M P2 := x_MI_mono h hp
def rm_X10_key : Room := { frames := 3, cells := 0, slots := 0, locals := 72 }
theorem hy_X10_key : yX10_key.cls = RX10 ∧ yX10_key.cls ≠ "java/lang/invoke/MethodHandle" ∧ yX10_key.cls ≠ "java/lang/invoke/VarHandle" ∧ (parseMethodDescriptor yX10_key.desc).map (fun d => d.parameters.length) = some 3 := by decide +kernel
def mi_X10_key (g : xG) (v1 : Int32) (v2 : Int32) (v3 : Int32) (M : xM) (P : Int32 → xM → Prop) : Prop := x_MI g yX10_key wsX10_key rm_X10_key [.ref (x_a g 193), .int v1, .int v2, .int v3] M P
theorem mo_X10_key {g : xG} {v1 : Int32} {v2 : Int32} {v3 : Int32} {M : xM} {P P2 : Int32 → xM → Prop} (h : mi_X10_key g v1 v2 v3 M P) (hp : ∀ r N, P r N → P2 r N) : mi_X10_key g v1 v2 v3 M P2 := x_MI_mono h hp
def rm_X10_singersFor : Room := { frames := 3, cells := 0, slots := 0, locals := 72 }
theorem hy_X10_singersFor : yX10_singersFor.cls = RX10 ∧ yX10_singersFor.cls ≠ "java/lang/invoke/MethodHandle" ∧ yX10_singersFor.cls ≠ "java/lang/invoke/VarHandle" ∧ (parseMethodDescriptor yX10_singersFor.desc).map (fun d => d.parameters.length) = some 1 := by decide +kernel
def mi_X10_singersFor (g : xG) (v1 : Int32) (M : xM) (P : Int32 → xM → Prop) : Prop := x_MI g yX10_singersFor wsX10_singersFor rm_X10_singersFor [.ref (x_a g 193), .int v1] M P
theorem mo_X10_singersFor {g : xG} {v1 : Int32} {M : xM} {P P2 : Int32 → xM → Prop} (h : mi_X10_singersFor g v1 M P) (hp : ∀ r N, P r N → P2 r N) : mi_X10_singersFor g v1 M P2 := x_MI_mono h hp
def rm_X10_ofSong : Room := { frames := 4, cells := 0, slots := 0, locals := 95 }
theorem hy_X10_ofSong : yX10_ofSong.cls = RX10 ∧ yX10_ofSong.cls ≠ "java/lang/invoke/MethodHandle" ∧ yX10_ofSong.cls ≠ "java/lang/invoke/VarHandle" ∧ (parseMethodDescriptor yX10_ofSong.desc).map (fun d => d.parameters.length) = some 2 := by decide +kernel
def mi_X10_ofSong (g : xG) (v1 : Int32) (v2 : Int32) (M : xM) (P : Int32 → xM → Prop) : Prop := x_MI g yX10_ofSong wsX10_ofSong rm_X10_ofSong [.ref (x_a g 193), .int v1, .int v2] M P
theorem mo_X10_ofSong {g : xG} {v1 : Int32} {v2 : Int32} {M : xM} {P P2 : Int32 → xM → Prop} (h : mi_X10_ofSong g v1 v2 M P) (hp : ∀ r N, P r N → P2 r N) : mi_X10_ofSong g v1 v2 M P2 := x_MI_mono h hp
def rm_X10_past : Room := { frames := 1, cells := 0, slots := 0, locals := 22 }
theorem hy_X10_past : yX10_past.cls = RX10 ∧ yX10_past.cls ≠ "java/lang/invoke/MethodHandle" ∧ yX10_past.cls ≠ "java/lang/invoke/VarHandle" ∧ (parseMethodDescriptor yX10_past.desc).map (fun d => d.parameters.length) = some 2 := by decide +kernel
def mi_X10_past (g : xG) (v1 : Int32) (v2 : Int32) (M : xM) (P : Int32 → xM → Prop) : Prop := x_MI g yX10_past wsX10_past rm_X10_past [.ref (x_a g 193), .int v1, .int v2] M P
theorem mo_X10_past {g : xG} {v1 : Int32} {v2 : Int32} {M : xM} {P P2 : Int32 → xM → Prop} (h : mi_X10_past g v1 v2 M P) (hp : ∀ r N, P r N → P2 r N) : mi_X10_past g v1 v2 M P2 := x_MI_mono h hp
def rm_X10_readyMany : Room := { frames := 3, cells := 0, slots := 0, locals := 65 }
theorem hy_X10_readyMany : yX10_readyMany.cls = RX10 ∧ yX10_readyMany.cls ≠ "java/lang/invoke/MethodHandle" ∧ yX10_readyMany.cls ≠ "java/lang/invoke/VarHandle" ∧ (parseMethodDescriptor yX10_readyMany.desc).map (fun d => d.parameters.length) = some 0 := by decide +kernel
def mi_X10_readyMany (g : xG) (M : xM) (P : Int32 → xM → Prop) : Prop := x_MI g yX10_readyMany wsX10_readyMany rm_X10_readyMany [.ref (x_a g 193)] M P
theorem mo_X10_readyMany {g : xG} {M : xM} {P P2 : Int32 → xM → Prop} (h : mi_X10_readyMany g M P) (hp : ∀ r N, P r N → P2 r N) : mi_X10_readyMany g M P2 := x_MI_mono h hp
def rm_X10_count : Room := { frames := 5, cells := 0, slots := 0, locals := 110 }
theorem hy_X10_count : yX10_count.cls = RX10 ∧ yX10_count.cls ≠ "java/lang/invoke/MethodHandle" ∧ yX10_count.cls ≠ "java/lang/invoke/VarHandle" ∧ (parseMethodDescriptor yX10_count.desc).map (fun d => d.parameters.length) = some 1 := by decide +kernel
def mi_X10_count (g : xG) (v1 : Int32) (M : xM) (P : Int32 → xM → Prop) : Prop := x_MI g yX10_count wsX10_count rm_X10_count [.ref (x_a g 193), .int v1] M P
theorem mo_X10_count {g : xG} {v1 : Int32} {M : xM} {P P2 : Int32 → xM → Prop} (h : mi_X10_count g v1 M P) (hp : ∀ r N, P r N → P2 r N) : mi_X10_count g v1 M P2 := x_MI_mono h hp
def rm_X10_singUpTo : Room := { frames := 5, cells := 0, slots := 0, locals := 110 }
theorem hy_X10_singUpTo : yX10_singUpTo.cls = RX10 ∧ yX10_singUpTo.cls ≠ "java/lang/invoke/MethodHandle" ∧ yX10_singUpTo.cls ≠ "java/lang/invoke/VarHandle" ∧ (parseMethodDescriptor yX10_singUpTo.desc).map (fun d => d.parameters.length) = some 1 := by decide +kernel
def mi_X10_singUpTo (g : xG) (v1 : Int32) (M : xM) (P : Int32 → xM → Prop) : Prop := x_MI g yX10_singUpTo wsX10_singUpTo rm_X10_singUpTo [.ref (x_a g 193), .int v1] M P
theorem mo_X10_singUpTo {g : xG} {v1 : Int32} {M : xM} {P P2 : Int32 → xM → Prop} (h : mi_X10_singUpTo g v1 M P) (hp : ∀ r N, P r N → P2 r N) : mi_X10_singUpTo g v1 M P2 := x_MI_mono h hp
def rm_X10_turnOf : Room := { frames := 6, cells := 0, slots := 0, locals := 134 }
theorem hy_X10_turnOf : yX10_turnOf.cls = RX10 ∧ yX10_turnOf.cls ≠ "java/lang/invoke/MethodHandle" ∧ yX10_turnOf.cls ≠ "java/lang/invoke/VarHandle" ∧ (parseMethodDescriptor yX10_turnOf.desc).map (fun d => d.parameters.length) = some 2 := by decide +kernel
def mi_X10_turnOf (g : xG) (v1 : Int32) (v2 : Int32) (M : xM) (P : Int32 → xM → Prop) : Prop := x_MI g yX10_turnOf wsX10_turnOf rm_X10_turnOf [.ref (x_a g 193), .int v1, .int v2] M P
theorem mo_X10_turnOf {g : xG} {v1 : Int32} {v2 : Int32} {M : xM} {P P2 : Int32 → xM → Prop} (h : mi_X10_turnOf g v1 v2 M P) (hp : ∀ r N, P r N → P2 r N) : mi_X10_turnOf g v1 v2 M P2 := x_MI_mono h hp
def rm_X10_endOfAll : Room := { frames := 3, cells := 0, slots := 0, locals := 65 }
theorem hy_X10_endOfAll : yX10_endOfAll.cls = RX10 ∧ yX10_endOfAll.cls ≠ "java/lang/invoke/MethodHandle" ∧ yX10_endOfAll.cls ≠ "java/lang/invoke/VarHandle" ∧ (parseMethodDescriptor yX10_endOfAll.desc).map (fun d => d.parameters.length) = some 0 := by decide +kernel
def mi_X10_endOfAll (g : xG) (M : xM) (P : Int32 → xM → Prop) : Prop := x_MI g yX10_endOfAll wsX10_endOfAll rm_X10_endOfAll [.ref (x_a g 193)] M P
theorem mo_X10_endOfAll {g : xG} {M : xM} {P P2 : Int32 → xM → Prop} (h : mi_X10_endOfAll g M P) (hp : ∀ r N, P r N → P2 r N) : mi_X10_endOfAll g M P2 := x_MI_mono h hp
def rm_X10_ifLeft : Room := { frames := 4, cells := 0, slots := 0, locals := 87 }
theorem hy_X10_ifLeft : yX10_ifLeft.cls = RX10 ∧ yX10_ifLeft.cls ≠ "java/lang/invoke/MethodHandle" ∧ yX10_ifLeft.cls ≠ "java/lang/invoke/VarHandle" ∧ (parseMethodDescriptor yX10_ifLeft.desc).map (fun d => d.parameters.length) = some 1 := by decide +kernel
def mi_X10_ifLeft (g : xG) (v1 : Int32) (M : xM) (P : Int32 → xM → Prop) : Prop := x_MI g yX10_ifLeft wsX10_ifLeft rm_X10_ifLeft [.ref (x_a g 193), .int v1] M P
theorem mo_X10_ifLeft {g : xG} {v1 : Int32} {M : xM} {P P2 : Int32 → xM → Prop} (h : mi_X10_ifLeft g v1 M P) (hp : ∀ r N, P r N → P2 r N) : mi_X10_ifLeft g v1 M P2 := x_MI_mono h hp
def rm_X10_beginWithout : Room := { frames := 6, cells := 0, slots := 0, locals := 134 }
theorem hy_X10_beginWithout : yX10_beginWithout.cls = RX10 ∧ yX10_beginWithout.cls ≠ "java/lang/invoke/MethodHandle" ∧ yX10_beginWithout.cls ≠ "java/lang/invoke/VarHandle" ∧ (parseMethodDescriptor yX10_beginWithout.desc).map (fun d => d.parameters.length) = some 2 := by decide +kernel
def mi_X10_beginWithout (g : xG) (v1 : Int32) (v2 : Int32) (M : xM) (P : Int32 → xM → Prop) : Prop := x_MI g yX10_beginWithout wsX10_beginWithout rm_X10_beginWithout [.ref (x_a g 193), .int v1, .int v2] M P
theorem mo_X10_beginWithout {g : xG} {v1 : Int32} {v2 : Int32} {M : xM} {P P2 : Int32 → xM → Prop} (h : mi_X10_beginWithout g v1 v2 M P) (hp : ∀ r N, P r N → P2 r N) : mi_X10_beginWithout g v1 v2 M P2 := x_MI_mono h hp
def rm_X10_heldUpBy : Room := { frames := 7, cells := 0, slots := 0, locals := 158 }
theorem hy_X10_heldUpBy : yX10_heldUpBy.cls = RX10 ∧ yX10_heldUpBy.cls ≠ "java/lang/invoke/MethodHandle" ∧ yX10_heldUpBy.cls ≠ "java/lang/invoke/VarHandle" ∧ (parseMethodDescriptor yX10_heldUpBy.desc).map (fun d => d.parameters.length) = some 2 := by decide +kernel
def mi_X10_heldUpBy (g : xG) (v1 : Int32) (v2 : Int32) (M : xM) (P : Int32 → xM → Prop) : Prop := x_MI g yX10_heldUpBy wsX10_heldUpBy rm_X10_heldUpBy [.ref (x_a g 193), .int v1, .int v2] M P
theorem mo_X10_heldUpBy {g : xG} {v1 : Int32} {v2 : Int32} {M : xM} {P P2 : Int32 → xM → Prop} (h : mi_X10_heldUpBy g v1 v2 M P) (hp : ∀ r N, P r N → P2 r N) : mi_X10_heldUpBy g v1 v2 M P2 := x_MI_mono h hp
def rm_X10_together : Room := { frames := 3, cells := 0, slots := 0, locals := 72 }
theorem hy_X10_together : yX10_together.cls = RX10 ∧ yX10_together.cls ≠ "java/lang/invoke/MethodHandle" ∧ yX10_together.cls ≠ "java/lang/invoke/VarHandle" ∧ (parseMethodDescriptor yX10_together.desc).map (fun d => d.parameters.length) = some 2 := by decide +kernel
def mi_X10_together (g : xG) (v1 : Int32) (v2 : Int32) (M : xM) (P : Int32 → xM → Prop) : Prop := x_MI g yX10_together wsX10_together rm_X10_together [.ref (x_a g 193), .int v1, .int v2] M P
theorem mo_X10_together {g : xG} {v1 : Int32} {v2 : Int32} {M : xM} {P P2 : Int32 → xM → Prop} (h : mi_X10_together g v1 v2 M P) (hp : ∀ r N, P r N → P2 r N) : mi_X10_together g v1 v2 M P2 := x_MI_mono h hp
def rm_X10_put : Room := { frames := 1, cells := 0, slots := 0, locals := 22 }
theorem hy_X10_put : yX10_put.cls = RX10 ∧ yX10_put.cls ≠ "java/lang/invoke/MethodHandle" ∧ yX10_put.cls ≠ "java/lang/invoke/VarHandle" ∧ (parseMethodDescriptor yX10_put.desc).map (fun d => d.parameters.length) = some 1 := by decide +kernel
def mi_X10_put (g : xG) (v1 : Int64) (M : xM) (P : Int32 → xM → Prop) : Prop := x_MI g yX10_put wsX10_put rm_X10_put [.ref (x_a g 193), .long v1] M P
theorem mo_X10_put {g : xG} {v1 : Int64} {M : xM} {P P2 : Int32 → xM → Prop} (h : mi_X10_put g v1 M P) (hp : ∀ r N, P r N → P2 r N) : mi_X10_put g v1 M P2 := x_MI_mono h hp
def rm_X10_wipe : Room := { frames := 0, cells := 0, slots := 0, locals := 0 }
theorem hy_X10_wipe : yX10_wipe.cls = RX10 ∧ yX10_wipe.cls ≠ "java/lang/invoke/MethodHandle" ∧ yX10_wipe.cls ≠ "java/lang/invoke/VarHandle" ∧ (parseMethodDescriptor yX10_wipe.desc).map (fun d => d.parameters.length) = some 0 := by decide +kernel
def mi_X10_wipe (g : xG) (M : xM) (P : Int32 → xM → Prop) : Prop := x_MI g yX10_wipe wsX10_wipe rm_X10_wipe [.ref (x_a g 193)] M P
theorem mo_X10_wipe {g : xG} {M : xM} {P P2 : Int32 → xM → Prop} (h : mi_X10_wipe g M P) (hp : ∀ r N, P r N → P2 r N) : mi_X10_wipe g M P2 := x_MI_mono h hp
def rm_X10_fault : Room := { frames := 4, cells := 0, slots := 0, locals := 85 }
theorem hy_X10_fault : yX10_fault.cls = RX10 ∧ yX10_fault.cls ≠ "java/lang/invoke/MethodHandle" ∧ yX10_fault.cls ≠ "java/lang/invoke/VarHandle" ∧ (parseMethodDescriptor yX10_fault.desc).map (fun d => d.parameters.length) = some 0 := by decide +kernel
def mi_X10_fault (g : xG) (M : xM) (P : Int32 → xM → Prop) : Prop := x_MI g yX10_fault wsX10_fault rm_X10_fault [.ref (x_a g 193)] M P
theorem mo_X10_fault {g : xG} {M : xM} {P P2 : Int32 → xM → Prop} (h : mi_X10_fault g M P) (hp : ∀ r N, P r N → P2 r N) : mi_X10_fault g M P2 := x_MI_mono h hp
def rm_X10_undo : Room := { frames := 1, cells := 0, slots := 0, locals := 24 }
theorem hy_X10_undo : yX10_undo.cls = RX10 ∧ yX10_undo.cls ≠ "java/lang/invoke/MethodHandle" ∧ yX10_undo.cls ≠ "java/lang/invoke/VarHandle" ∧ (parseMethodDescriptor yX10_undo.desc).map (fun d => d.parameters.length) = some 0 := by decide +kernel
def mi_X10_undo (g : xG) (M : xM) (P : Int32 → xM → Prop) : Prop := x_MI g yX10_undo wsX10_undo rm_X10_undo [.ref (x_a g 193)] M P
theorem mo_X10_undo {g : xG} {M : xM} {P P2 : Int32 → xM → Prop} (h : mi_X10_undo g M P) (hp : ∀ r N, P r N → P2 r N) : mi_X10_undo g M P2 := x_MI_mono h hp
def rm_X10_save : Room := { frames := 1, cells := 0, slots := 0, locals := 24 }
theorem hy_X10_save : yX10_save.cls = RX10 ∧ yX10_save.cls ≠ "java/lang/invoke/MethodHandle" ∧ yX10_save.cls ≠ "java/lang/invoke/VarHandle" ∧ (parseMethodDescriptor yX10_save.desc).map (fun d => d.parameters.length) = some 1 := by decide +kernel
def mi_X10_save (g : xG) (v1 : Int32) (M : xM) (P : Int32 → xM → Prop) : Prop := x_MI g yX10_save wsX10_save rm_X10_save [.ref (x_a g 193), .int v1] M P
theorem mo_X10_save {g : xG} {v1 : Int32} {M : xM} {P P2 : Int32 → xM → Prop} (h : mi_X10_save g v1 M P) (hp : ∀ r N, P r N → P2 r N) : mi_X10_save g v1 M P2 := x_MI_mono h hp
def rm_X10_restore : Room := { frames := 2, cells := 0, slots := 0, locals := 45 }
theorem hy_X10_restore : yX10_restore.cls = RX10 ∧ yX10_restore.cls ≠ "java/lang/invoke/MethodHandle" ∧ yX10_restore.cls ≠ "java/lang/invoke/VarHandle" ∧ (parseMethodDescriptor yX10_restore.desc).map (fun d => d.parameters.length) = some 1 := by decide +kernel
def mi_X10_restore (g : xG) (v1 : Int32) (M : xM) (P : Int32 → xM → Prop) : Prop := x_MI g yX10_restore wsX10_restore rm_X10_restore [.ref (x_a g 193), .int v1] M P
theorem mo_X10_restore {g : xG} {v1 : Int32} {M : xM} {P P2 : Int32 → xM → Prop} (h : mi_X10_restore g v1 M P) (hp : ∀ r N, P r N → P2 r N) : mi_X10_restore g v1 M P2 := x_MI_mono h hp
