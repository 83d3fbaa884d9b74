theorem x_objE0 {e : Nat} {ci : Nat} {fs : List (Option Nat)} (he : e < 9) (h : xE_obj 0 = some (ci, fs)) : x_isO (20 * e) ci (fs.map (fun r => r.map (fun i => 20 * e + i))) := x_objE (j := 0) he (by decide) h
theorem x_inE {i : Int32} {n b : Nat} (h : vp_in i n) (hb : b + n ≤ 9) : b + i.toNatClampNeg < 9 := by unfold vp_in at h; omega
theorem x_ofInt {v : Int32} {k : Int} (h : v.toInt = k) : v = Int32.ofInt k := by rw [← h]; simp
theorem xo_0 : x_isO 0 0 [some 1, some 6, some 11, some 15, none, none] := ⟨by decide, rfl⟩
theorem xo_1 : x_isO 1 6 [none, none, none, some 2, some 3, some 4, some 5] := ⟨by decide, rfl⟩
theorem xa_2 : x_isA 2 0 12 := ⟨by decide, rfl, rfl⟩
theorem xa_3 : x_isA 3 0 12 := ⟨by decide, rfl, rfl⟩
theorem xa_4 : x_isA 4 0 12 := ⟨by decide, rfl, rfl⟩
theorem xa_5 : x_isA 5 0 12 := ⟨by decide, rfl, rfl⟩
theorem xo_6 : x_isO 6 7 [none, some 7, some 8, some 9, some 10] := ⟨by decide, rfl⟩
theorem xa_7 : x_isA 7 0 16 := ⟨by decide, rfl, rfl⟩
theorem xa_8 : x_isA 8 0 16 := ⟨by decide, rfl, rfl⟩
theorem xa_9 : x_isA 9 0 16 := ⟨by decide, rfl, rfl⟩
theorem xa_10 : x_isA 10 0 16 := ⟨by decide, rfl, rfl⟩
theorem xo_11 : x_isO 11 8 [none, some 12, some 13, some 14] := ⟨by decide, rfl⟩
theorem xa_12 : x_isA 12 0 20 := ⟨by decide, rfl, rfl⟩
theorem xa_13 : x_isA 13 0 20 := ⟨by decide, rfl, rfl⟩
theorem xa_14 : x_isA 14 0 20 := ⟨by decide, rfl, rfl⟩
theorem xo_15 : x_isO 15 4 [none, some 16, some 17, some 18, some 19] := ⟨by decide, rfl⟩
theorem xa_16 : x_isA 16 0 12 := ⟨by decide, rfl, rfl⟩
theorem xa_17 : x_isA 17 0 12 := ⟨by decide, rfl, rfl⟩
theorem xa_18 : x_isA 18 0 12 := ⟨by decide, rfl, rfl⟩
theorem xa_19 : x_isA 19 0 12 := ⟨by decide, rfl, rfl⟩
theorem xo_180 : x_isO 180 9 [some 0, some 181, some 183, some 184, some 185, some 187, some 191] := ⟨by decide, rfl⟩
theorem xo_181 : x_isO 181 1 [some 182, none, none] := ⟨by decide, rfl⟩
theorem xr_182 : x_isR 182 6 1 := ⟨by decide, rfl, rfl, rfl⟩
theorem xr_183 : x_isR 183 2 7 := ⟨by decide, rfl, rfl, rfl⟩
theorem xa_184 : x_isA 184 1 2 := ⟨by decide, rfl, rfl⟩
theorem xo_185 : x_isO 185 2 [some 186, none] := ⟨by decide, rfl⟩
theorem xa_186 : x_isA 186 2 60 := ⟨by decide, rfl, rfl⟩
theorem xo_187 : x_isO 187 3 [some 188, some 189, some 190, none, none] := ⟨by decide, rfl⟩
theorem xa_188 : x_isA 188 0 15 := ⟨by decide, rfl, rfl⟩
theorem xa_189 : x_isA 189 0 15 := ⟨by decide, rfl, rfl⟩
theorem xa_190 : x_isA 190 0 15 := ⟨by decide, rfl, rfl⟩
theorem xo_191 : x_isO 191 5 [some 192, none, none] := ⟨by decide, rfl⟩
theorem xa_192 : x_isA 192 0 12 := ⟨by decide, rfl, rfl⟩
theorem xa_193 : x_isA 193 0 8 := ⟨by decide, rfl, rfl⟩
theorem xa_194 : x_isA 194 0 48 := ⟨by decide, rfl, rfl⟩
theorem xa_195 : x_isA 195 0 64 := ⟨by decide, rfl, rfl⟩
theorem xa_196 : x_isA 196 0 20 := ⟨by decide, rfl, rfl⟩
theorem xa_197 : x_isA 197 0 12 := ⟨by decide, rfl, rfl⟩
theorem xa_198 : x_isA 198 0 12 := ⟨by decide, rfl, rfl⟩
theorem xa_199 : x_isA 199 0 8 := ⟨by decide, rfl, rfl⟩
theorem xa_200 : x_isA 200 0 48 := ⟨by decide, rfl, rfl⟩
theorem xa_201 : x_isA 201 0 64 := ⟨by decide, rfl, rfl⟩
theorem xa_202 : x_isA 202 0 20 := ⟨by decide, rfl, rfl⟩
theorem xa_203 : x_isA 203 0 12 := ⟨by decide, rfl, rfl⟩
theorem xa_204 : x_isA 204 0 12 := ⟨by decide, rfl, rfl⟩
theorem kp_0_4 : x_okp 0 4 = true := by decide +kernel
theorem kp_0_5 : x_okp 0 5 = true := by decide +kernel
theorem kp_1_1 : x_okp 1 1 = true := by decide +kernel
theorem kp_1_2 : x_okp 1 2 = true := by decide +kernel
theorem kp_4_0 : x_okp 4 0 = true := by decide +kernel
theorem kp_5_1 : x_okp 5 1 = true := by decide +kernel
theorem kp_5_2 : x_okp 5 2 = true := by decide +kernel
theorem kp_6_0 : x_okp 6 0 = true := by decide +kernel
theorem kp_6_1 : x_okp 6 1 = true := by decide +kernel
theorem kp_6_2 : x_okp 6 2 = true := by decide +kernel
theorem kp_7_0 : x_okp 7 0 = true := by decide +kernel
theorem kp_8_0 : x_okp 8 0 = true := by decide +kernel
def rm_X9_isBetween : Room := { frames := 0, cells := 0, slots := 0, locals := 0 }
theorem hy_X9_isBetween : yX9_isBetween.cls = RX9 ∧ yX9_isBetween.cls ≠ "java/lang/invoke/MethodHandle" ∧ yX9_isBetween.cls ≠ "java/lang/invoke/VarHandle" ∧ (parseMethodDescriptor yX9_isBetween.desc).map (fun d => d.parameters.length) = some 3 := by decide +kernel
def mi_X9_isBetween (g : xG) (v0 : Int32) (v1 : Int32) (v2 : Int32) (M : xM) (P : Int32 → xM → Prop) : Prop := x_MI g yX9_isBetween wsX9_isBetween rm_X9_isBetween [.int v0, .int v1, .int v2] M P
theorem mo_X9_isBetween {g : xG} {v0 : Int32} {v1 : Int32} {v2 : Int32} {M : xM} {P P2 : Int32 → xM → Prop} (h : mi_X9_isBetween g v0 v1 v2 M P) (hp : ∀ r N, P r N → P2 r N) : mi_X9_isBetween g v0 v1 v2 M P2 := x_MI_mono h hp
def rm_X9_isToneRange : Room := { frames := 1, cells := 0, slots := 0, locals := 22 }
theorem hy_X9_isToneRange : yX9_isToneRange.cls = RX9 ∧ yX9_isToneRange.cls ≠ "java/lang/invoke/MethodHandle" ∧ yX9_isToneRange.cls ≠ "java/lang/invoke/VarHandle" ∧ (parseMethodDescriptor yX9_isToneRange.desc).map (fun d => d.parameters.length) = some 2 := by decide +kernel
def mi_X9_isToneRange (g : xG) (v0 : Int32) (v1 : Int32) (M : xM) (P : Int32 → xM → Prop) : Prop := x_MI g yX9_isToneRange wsX9_isToneRange rm_X9_isToneRange [.int v0, .int v1] M P
theorem mo_X9_isToneRange {g : xG} {v0 : Int32} {v1 : Int32} {M : xM} {P P2 : Int32 → xM → Prop} (h : mi_X9_isToneRange g v0 v1 M P) (hp : ∀ r N, P r N → P2 r N) : mi_X9_isToneRange g v0 v1 M P2 := x_MI_mono h hp
def rm_X9_copyRow : Room := { frames := 1, cells := 0, slots := 0, locals := 26 }
theorem hy_X9_copyRow : yX9_copyRow.cls = RX9 ∧ yX9_copyRow.cls ≠ "java/lang/invoke/MethodHandle" ∧ yX9_copyRow.cls ≠ "java/lang/invoke/VarHandle" ∧ (parseMethodDescriptor yX9_copyRow.desc).map (fun d => d.parameters.length) = some 2 := by decide +kernel
def mi_X9_copyRow (g : xG) (a : Nat) (b : Nat) (M : xM) (P : xM → Prop) : Prop := x_MV g yX9_copyRow wsX9_copyRow rm_X9_copyRow [.ref (x_a g a), .ref (x_a g b)] M P
theorem mo_X9_copyRow {g : xG} {a : Nat} {b : Nat} {M : xM} {P P2 : xM → Prop} (h : mi_X9_copyRow g a b M P) (hp : ∀ N, P N → P2 N) : mi_X9_copyRow g a b M P2 := x_MV_mono h hp
def rm_X6_copyFrom : Room := { frames := 2, cells := 0, slots := 0, locals := 47 }
theorem hy_X6_copyFrom : yX6_copyFrom.cls = RX6 ∧ yX6_copyFrom.cls ≠ "java/lang/invoke/MethodHandle" ∧ yX6_copyFrom.cls ≠ "java/lang/invoke/VarHandle" ∧ (parseMethodDescriptor yX6_copyFrom.desc).map (fun d => d.parameters.length) = some 1 := by decide +kernel
def mi_X6_copyFrom (g : xG) (e : Nat) (f : Nat) (M : xM) (P : xM → Prop) : Prop := x_MV g yX6_copyFrom wsX6_copyFrom rm_X6_copyFrom [.ref (x_a g (20 * e + 1)), .ref (x_a g (20 * f + 1))] M P
theorem mo_X6_copyFrom {g : xG} {e : Nat} {f : Nat} {M : xM} {P P2 : xM → Prop} (h : mi_X6_copyFrom g e f M P) (hp : ∀ N, P N → P2 N) : mi_X6_copyFrom g e f M P2 := x_MV_mono h hp
def rm_X7_copyFrom : Room := { frames := 2, cells := 0, slots := 0, locals := 47 }
theorem hy_X7_copyFrom : yX7_copyFrom.cls = RX7 ∧ yX7_copyFrom.cls ≠ "java/lang/invoke/MethodHandle" ∧ yX7_copyFrom.cls ≠ "java/lang/invoke/VarHandle" ∧ (parseMethodDescriptor yX7_copyFrom.desc).map (fun d => d.parameters.length) = some 1 := by decide +kernel
def mi_X7_copyFrom (g : xG) (e : Nat) (f : Nat) (M : xM) (P : xM → Prop) : Prop := x_MV g yX7_copyFrom wsX7_copyFrom rm_X7_copyFrom [.ref (x_a g (20 * e + 6)), .ref (x_a g (20 * f + 6))] M P
theorem mo_X7_copyFrom {g : xG} {e : Nat} {f : Nat} {M : xM} {P P2 : xM → Prop} (h : mi_X7_copyFrom g e f M P) (hp : ∀ N, P N → P2 N) : mi_X7_copyFrom g e f M P2 := x_MV_mono h hp
def rm_X8_copyFrom : Room := { frames := 2, cells := 0, slots := 0, locals := 47 }
theorem hy_X8_copyFrom : yX8_copyFrom.cls = RX8 ∧ yX8_copyFrom.cls ≠ "java/lang/invoke/MethodHandle" ∧ yX8_copyFrom.cls ≠ "java/lang/invoke/VarHandle" ∧ (parseMethodDescriptor yX8_copyFrom.desc).map (fun d => d.parameters.length) = some 1 := by decide +kernel
def mi_X8_copyFrom (g : xG) (e : Nat) (f : Nat) (M : xM) (P : xM → Prop) : Prop := x_MV g yX8_copyFrom wsX8_copyFrom rm_X8_copyFrom [.ref (x_a g (20 * e + 11)), .ref (x_a g (20 * f + 11))] M P
theorem mo_X8_copyFrom {g : xG} {e : Nat} {f : Nat} {M : xM} {P P2 : xM → Prop} (h : mi_X8_copyFrom g e f M P) (hp : ∀ N, P N → P2 N) : mi_X8_copyFrom g e f M P2 := x_MV_mono h hp
def rm_X4_copyFrom : Room := { frames := 2, cells := 0, slots := 0, locals := 47 }
theorem hy_X4_copyFrom : yX4_copyFrom.cls = RX4 ∧ yX4_copyFrom.cls ≠ "java/lang/invoke/MethodHandle" ∧ yX4_copyFrom.cls ≠ "java/lang/invoke/VarHandle" ∧ (parseMethodDescriptor yX4_copyFrom.desc).map (fun d => d.parameters.length) = some 1 := by decide +kernel
def mi_X4_copyFrom (g : xG) (e : Nat) (f : Nat) (M : xM) (P : xM → Prop) : Prop := x_MV g yX4_copyFrom wsX4_copyFrom rm_X4_copyFrom [.ref (x_a g (20 * e + 15)), .ref (x_a g (20 * f + 15))] M P
theorem mo_X4_copyFrom {g : xG} {e : Nat} {f : Nat} {M : xM} {P P2 : xM → Prop} (h : mi_X4_copyFrom g e f M P) (hp : ∀ N, P N → P2 N) : mi_X4_copyFrom g e f M P2 := x_MV_mono h hp
def rm_X0_copyFrom : Room := { frames := 3, cells := 0, slots := 0, locals := 68 }
theorem hy_X0_copyFrom : yX0_copyFrom.cls = RX0 ∧ yX0_copyFrom.cls ≠ "java/lang/invoke/MethodHandle" ∧ yX0_copyFrom.cls ≠ "java/lang/invoke/VarHandle" ∧ (parseMethodDescriptor yX0_copyFrom.desc).map (fun d => d.parameters.length) = some 1 := by decide +kernel
def mi_X0_copyFrom (g : xG) (e : Nat) (f : Nat) (M : xM) (P : xM → Prop) : Prop := x_MV g yX0_copyFrom wsX0_copyFrom rm_X0_copyFrom [.ref (x_a g (20 * e)), .ref (x_a g (20 * f))] M P
theorem mo_X0_copyFrom {g : xG} {e : Nat} {f : Nat} {M : xM} {P P2 : xM → Prop} (h : mi_X0_copyFrom g e f M P) (hp : ∀ N, P N → P2 N) : mi_X0_copyFrom g e f M P2 := x_MV_mono h hp
def rm_X1_keep : Room := { frames := 4, cells := 0, slots := 0, locals := 89 }
theorem hy_X1_keep : yX1_keep.cls = RX1 ∧ yX1_keep.cls ≠ "java/lang/invoke/MethodHandle" ∧ yX1_keep.cls ≠ "java/lang/invoke/VarHandle" ∧ (parseMethodDescriptor yX1_keep.desc).map (fun d => d.parameters.length) = some 1 := by decide +kernel
def mi_X1_keep (g : xG) (M : xM) (P : xM → Prop) : Prop := x_MV g yX1_keep wsX1_keep rm_X1_keep [.ref (x_a g 181), .ref (x_a g 0)] M P
theorem mo_X1_keep {g : xG} {M : xM} {P P2 : xM → Prop} (h : mi_X1_keep g M P) (hp : ∀ N, P N → P2 N) : mi_X1_keep g M P2 := x_MV_mono h hp
def rm_X6_setThere : Room := { frames := 0, cells := 0, slots := 0, locals := 0 }
theorem hy_X6_setThere : yX6_setThere.cls = RX6 ∧ yX6_setThere.cls ≠ "java/lang/invoke/MethodHandle" ∧ yX6_setThere.cls ≠ "java/lang/invoke/VarHandle" ∧ (parseMethodDescriptor yX6_setThere.desc).map (fun d => d.parameters.length) = some 2 := by decide +kernel
def mi_X6_setThere (g : xG) (v1 : Int32) (v2 : Int32) (M : xM) (P : xM → Prop) : Prop := x_MV g yX6_setThere wsX6_setThere rm_X6_setThere [.ref (x_a g 1), .int v1, .int v2] M P
theorem mo_X6_setThere {g : xG} {v1 : Int32} {v2 : Int32} {M : xM} {P P2 : xM → Prop} (h : mi_X6_setThere g v1 v2 M P) (hp : ∀ N, P N → P2 N) : mi_X6_setThere g v1 v2 M P2 := x_MV_mono h hp
def rm_X6_add : Room := { frames := 1, cells := 0, slots := 0, locals := 23 }
theorem hy_X6_add : yX6_add.cls = RX6 ∧ yX6_add.cls ≠ "java/lang/invoke/MethodHandle" ∧ yX6_add.cls ≠ "java/lang/invoke/VarHandle" ∧ (parseMethodDescriptor yX6_add.desc).map (fun d => d.parameters.length) = some 2 := by decide +kernel
def mi_X6_add (g : xG) (v1 : Int32) (v2 : Int32) (M : xM) (P : Int32 → xM → Prop) : Prop := x_MI g yX6_add wsX6_add rm_X6_add [.ref (x_a g 1), .int v1, .int v2] M P
theorem mo_X6_add {g : xG} {v1 : Int32} {v2 : Int32} {M : xM} {P P2 : Int32 → xM → Prop} (h : mi_X6_add g v1 v2 M P) (hp : ∀ r N, P r N → P2 r N) : mi_X6_add g v1 v2 M P2 := x_MI_mono h hp
def rm_X9_singer : Room := { frames := 5, cells := 0, slots := 0, locals := 110 }
theorem hy_X9_singer : yX9_singer.cls = RX9 ∧ yX9_singer.cls ≠ "java/lang/invoke/MethodHandle" ∧ yX9_singer.cls ≠ "java/lang/invoke/VarHandle" ∧ (parseMethodDescriptor yX9_singer.desc).map (fun d => d.parameters.length) = some 2 := by decide +kernel
def mi_X9_singer (g : xG) (v1 : Int32) (v2 : Int32) (M : xM) (P : Int32 → xM → Prop) : Prop := x_MI g yX9_singer wsX9_singer rm_X9_singer [.ref (x_a g 180), .int v1, .int v2] M P
theorem mo_X9_singer {g : xG} {v1 : Int32} {v2 : Int32} {M : xM} {P P2 : Int32 → xM → Prop} (h : mi_X9_singer g v1 v2 M P) (hp : ∀ r N, P r N → P2 r N) : mi_X9_singer g v1 v2 M P2 := x_MI_mono h hp
def rm_X7_add : Room := { frames := 0, cells := 0, slots := 0, locals := 0 }
theorem hy_X7_add : yX7_add.cls = RX7 ∧ yX7_add.cls ≠ "java/lang/invoke/MethodHandle" ∧ yX7_add.cls ≠ "java/lang/invoke/VarHandle" ∧ (parseMethodDescriptor yX7_add.desc).map (fun d => d.parameters.length) = some 3 := by decide +kernel
def mi_X7_add (g : xG) (v1 : Int32) (v2 : Int32) (v3 : Int32) (M : xM) (P : Int32 → xM → Prop) : Prop := x_MI g yX7_add wsX7_add rm_X7_add [.ref (x_a g 6), .int v1, .int v2, .int v3] M P
theorem mo_X7_add {g : xG} {v1 : Int32} {v2 : Int32} {v3 : Int32} {M : xM} {P P2 : Int32 → xM → Prop} (h : mi_X7_add g v1 v2 v3 M P) (hp : ∀ r N, P r N → P2 r N) : mi_X7_add g v1 v2 v3 M P2 := x_MI_mono h hp
def rm_X9_song : Room := { frames := 5, cells := 0, slots := 0, locals := 110 }
theorem hy_X9_song : yX9_song.cls = RX9 ∧ yX9_song.cls ≠ "java/lang/invoke/MethodHandle" ∧ yX9_song.cls ≠ "java/lang/invoke/VarHandle" ∧ (parseMethodDescriptor yX9_song.desc).map (fun d => d.parameters.length) = some 3 := by decide +kernel
def mi_X9_song (g : xG) (v1 : Int32) (v2 : Int32) (v3 : Int32) (M : xM) (P : Int32 → xM → Prop) : Prop := x_MI g yX9_song wsX9_song rm_X9_song [.ref (x_a g 180), .int v1, .int v2, .int v3] M P
theorem mo_X9_song {g : xG} {v1 : Int32} {v2 : Int32} {v3 : Int32} {M : xM} {P P2 : Int32 → xM → Prop} (h : mi_X9_song g v1 v2 v3 M P) (hp : ∀ r N, P r N → P2 r N) : mi_X9_song g v1 v2 v3 M P2 := x_MI_mono h hp
def rm_X6_has : Room := { frames := 1, cells := 0, slots := 0, locals := 22 }
theorem hy_X6_has : yX6_has.cls = RX6 ∧ yX6_has.cls ≠ "java/lang/invoke/MethodHandle" ∧ yX6_has.cls ≠ "java/lang/invoke/VarHandle" ∧ (parseMethodDescriptor yX6_has.desc).map (fun d => d.parameters.length) = some 1 := by decide +kernel
def mi_X6_has (g : xG) (v1 : Int32) (M : xM) (P : Int32 → xM → Prop) : Prop := x_MI g yX6_has wsX6_has rm_X6_has [.ref (x_a g 1), .int v1] M P
theorem mo_X6_has {g : xG} {v1 : Int32} {M : xM} {P P2 : Int32 → xM → Prop} (h : mi_X6_has g v1 M P) (hp : ∀ r N, P r N → P2 r N) : mi_X6_has g v1 M P2 := x_MI_mono h hp
def rm_X9_isIn : Room := { frames := 0, cells := 0, slots := 0, locals := 0 }
theorem hy_X9_isIn : yX9_isIn.cls = RX9 ∧ yX9_isIn.cls ≠ "java/lang/invoke/MethodHandle" ∧ yX9_isIn.cls ≠ "java/lang/invoke/VarHandle" ∧ (parseMethodDescriptor yX9_isIn.desc).map (fun d => d.parameters.length) = some 2 := by decide +kernel
def mi_X9_isIn (g : xG) (v0 : Int32) (v1 : Int32) (M : xM) (P : Int32 → xM → Prop) : Prop := x_MI g yX9_isIn wsX9_isIn rm_X9_isIn [.int v0, .int v1] M P
theorem mo_X9_isIn {g : xG} {v0 : Int32} {v1 : Int32} {M : xM} {P P2 : Int32 → xM → Prop} (h : mi_X9_isIn g v0 v1 M P) (hp : ∀ r N, P r N → P2 r N) : mi_X9_isIn g v0 v1 M P2 := x_MI_mono h hp
def rm_X6_isThere : Room := { frames := 1, cells := 0, slots := 0, locals := 21 }
theorem hy_X6_isThere : yX6_isThere.cls = RX6 ∧ yX6_isThere.cls ≠ "java/lang/invoke/MethodHandle" ∧ yX6_isThere.cls ≠ "java/lang/invoke/VarHandle" ∧ (parseMethodDescriptor yX6_isThere.desc).map (fun d => d.parameters.length) = some 1 := by decide +kernel
def mi_X6_isThere (g : xG) (v1 : Int32) (M : xM) (P : Int32 → xM → Prop) : Prop := x_MI g yX6_isThere wsX6_isThere rm_X6_isThere [.ref (x_a g 1), .int v1] M P
theorem mo_X6_isThere {g : xG} {v1 : Int32} {M : xM} {P P2 : Int32 → xM → Prop} (h : mi_X6_isThere g v1 M P) (hp : ∀ r N, P r N → P2 r N) : mi_X6_isThere g v1 M P2 := x_MI_mono h hp
def rm_J6_bitCount_0f7a4 : Room := { frames := 0, cells := 0, slots := 0, locals := 0 }
theorem hy_J6_bitCount_0f7a4 : yJ6_bitCount_0f7a4.cls = RJ6 ∧ yJ6_bitCount_0f7a4.cls ≠ "java/lang/invoke/MethodHandle" ∧ yJ6_bitCount_0f7a4.cls ≠ "java/lang/invoke/VarHandle" ∧ (parseMethodDescriptor yJ6_bitCount_0f7a4.desc).map (fun d => d.parameters.length) = some 1 := by decide +kernel
def mi_J6_bitCount_0f7a4 (g : xG) (v0 : Int32) (M : xM) (P : Int32 → xM → Prop) : Prop := x_MI g yJ6_bitCount_0f7a4 wsJ6_bitCount_0f7a4 rm_J6_bitCount_0f7a4 [.int v0] M P
theorem mo_J6_bitCount_0f7a4 {g : xG} {v0 : Int32} {M : xM} {P P2 : Int32 → xM → Prop} (h : mi_J6_bitCount_0f7a4 g v0 M P) (hp : ∀ r N, P r N → P2 r N) : mi_J6_bitCount_0f7a4 g v0 M P2 := x_MI_mono h hp
def rm_X9_leave : Room := { frames := 5, cells := 0, slots := 0, locals := 110 }
theorem hy_X9_leave : yX9_leave.cls = RX9 ∧ yX9_leave.cls ≠ "java/lang/invoke/MethodHandle" ∧ yX9_leave.cls ≠ "java/lang/invoke/VarHandle" ∧ (parseMethodDescriptor yX9_leave.desc).map (fun d => d.parameters.length) = some 2 := by decide +kernel
def mi_X9_leave (g : xG) (v1 : Int32) (v2 : Int32) (M : xM) (P : Int32 → xM → Prop) : Prop := x_MI g yX9_leave wsX9_leave rm_X9_leave [.ref (x_a g 180), .int v1, .int v2] M P
theorem mo_X9_leave {g : xG} {v1 : Int32} {v2 : Int32} {M : xM} {P P2 : Int32 → xM → Prop} (h : mi_X9_leave g v1 v2 M P) (hp : ∀ r N, P r N → P2 r N) : mi_X9_leave g v1 v2 M P2 := x_MI_mono h hp
def rm_X7_has : Room := { frames := 1, cells := 0, slots := 0, locals := 22 }
theorem hy_X7_has : yX7_has.cls = RX7 ∧ yX7_has.cls ≠ "java/lang/invoke/MethodHandle" ∧ yX7_has.cls ≠ "java/lang/invoke/VarHandle" ∧ (parseMethodDescriptor yX7_has.desc).map (fun d => d.parameters.length) = some 1 := by decide +kernel
def mi_X7_has (g : xG) (v1 : Int32) (M : xM) (P : Int32 → xM → Prop) : Prop := x_MI g yX7_has wsX7_has rm_X7_has [.ref (x_a g 6), .int v1] M P
theorem mo_X7_has {g : xG} {v1 : Int32} {M : xM} {P P2 : Int32 → xM → Prop} (h : mi_X7_has g v1 M P) (hp : ∀ r N, P r N → P2 r N) : mi_X7_has g v1 M P2 := x_MI_mono h hp
def rm_X0_errorOfNames : Room := { frames := 2, cells := 0, slots := 0, locals := 43 }
theorem hy_X0_errorOfNames : yX0_errorOfNames.cls = RX0 ∧ yX0_errorOfNames.cls ≠ "java/lang/invoke/MethodHandle" ∧ yX0_errorOfNames.cls ≠ "java/lang/invoke/VarHandle" ∧ (parseMethodDescriptor yX0_errorOfNames.desc).map (fun d => d.parameters.length) = some 3 := by decide +kernel
def mi_X0_errorOfNames (g : xG) (v1 : Int32) (v2 : Int32) (v3 : Int32) (M : xM) (P : Int32 → xM → Prop) : Prop := x_MI g yX0_errorOfNames wsX0_errorOfNames rm_X0_errorOfNames [.ref (x_a g 0), .int v1, .int v2, .int v3] M P
theorem mo_X0_errorOfNames {g : xG} {v1 : Int32} {v2 : Int32} {v3 : Int32} {M : xM} {P P2 : Int32 → xM → Prop} (h : mi_X0_errorOfNames g v1 v2 v3 M P) (hp : ∀ r N, P r N → P2 r N) : mi_X0_errorOfNames g v1 v2 v3 M P2 := x_MI_mono h hp
def rm_X7_fits : Room := { frames := 0, cells := 0, slots := 0, locals := 0 }
theorem hy_X7_fits : yX7_fits.cls = RX7 ∧ yX7_fits.cls ≠ "java/lang/invoke/MethodHandle" ∧ yX7_fits.cls ≠ "java/lang/invoke/VarHandle" ∧ (parseMethodDescriptor yX7_fits.desc).map (fun d => d.parameters.length) = some 4 := by decide +kernel
def mi_X7_fits (g : xG) (v1 : Int32) (v2 : Int32) (v3 : Int32) (v4 : Int32) (M : xM) (P : Int32 → xM → Prop) : Prop := x_MI g yX7_fits wsX7_fits rm_X7_fits [.ref (x_a g 6), .int v1, .int v2, .int v3, .int v4] M P
theorem mo_X7_fits {g : xG} {v1 : Int32} {v2 : Int32} {v3 : Int32} {v4 : Int32} {M : xM} {P P2 : Int32 → xM → Prop} (h : mi_X7_fits g v1 v2 v3 v4 M P) (hp : ∀ r N, P r N → P2 r N) : mi_X7_fits g v1 v2 v3 v4 M P2 := x_MI_mono h hp
def rm_X7_keyAndTenBetween : Room := { frames := 1, cells := 0, slots := 0, locals := 24 }
theorem hy_X7_keyAndTenBetween : yX7_keyAndTenBetween.cls = RX7 ∧ yX7_keyAndTenBetween.cls ≠ "java/lang/invoke/MethodHandle" ∧ yX7_keyAndTenBetween.cls ≠ "java/lang/invoke/VarHandle" ∧ (parseMethodDescriptor yX7_keyAndTenBetween.desc).map (fun d => d.parameters.length) = some 3 := by decide +kernel
def mi_X7_keyAndTenBetween (g : xG) (v1 : Int32) (v2 : Int32) (v3 : Int32) (M : xM) (P : Int32 → xM → Prop) : Prop := x_MI g yX7_keyAndTenBetween wsX7_keyAndTenBetween rm_X7_keyAndTenBetween [.ref (x_a g 6), .int v1, .int v2, .int v3] M P
theorem mo_X7_keyAndTenBetween {g : xG} {v1 : Int32} {v2 : Int32} {v3 : Int32} {M : xM} {P P2 : Int32 → xM → Prop} (h : mi_X7_keyAndTenBetween g v1 v2 v3 M P) (hp : ∀ r N, P r N → P2 r N) : mi_X7_keyAndTenBetween g v1 v2 v3 M P2 := x_MI_mono h hp
def rm_X0_keyAndTen : Room := { frames := 2, cells := 0, slots := 0, locals := 48 }
theorem hy_X0_keyAndTen : yX0_keyAndTen.cls = RX0 ∧ yX0_keyAndTen.cls ≠ "java/lang/invoke/MethodHandle" ∧ yX0_keyAndTen.cls ≠ "java/lang/invoke/VarHandle" ∧ (parseMethodDescriptor yX0_keyAndTen.desc).map (fun d => d.parameters.length) = some 3 := by decide +kernel
def mi_X0_keyAndTen (g : xG) (v1 : Int32) (v2 : Int32) (v3 : Int32) (M : xM) (P : Int32 → xM → Prop) : Prop := x_MI g yX0_keyAndTen wsX0_keyAndTen rm_X0_keyAndTen [.ref (x_a g 0), .int v1, .int v2, .int v3] M P
theorem mo_X0_keyAndTen {g : xG} {v1 : Int32} {v2 : Int32} {v3 : Int32} {M : xM} {P P2 : Int32 → xM → Prop} (h : mi_X0_keyAndTen g v1 v2 v3 M P) (hp : ∀ r N, P r N → P2 r N) : mi_X0_keyAndTen g v1 v2 v3 M P2 := x_MI_mono h hp
def rm_X0_errorOfWish : Room := { frames := 3, cells := 0, slots := 0, locals := 73 }
theorem hy_X0_errorOfWish : yX0_errorOfWish.cls = RX0 ∧ yX0_errorOfWish.cls ≠ "java/lang/invoke/MethodHandle" ∧ yX0_errorOfWish.cls ≠ "java/lang/invoke/VarHandle" ∧ (parseMethodDescriptor yX0_errorOfWish.desc).map (fun d => d.parameters.length) = some 4 := by decide +kernel
def mi_X0_errorOfWish (g : xG) (v1 : Int32) (v2 : Int32) (v3 : Int32) (v4 : Int32) (M : xM) (P : Int32 → xM → Prop) : Prop := x_MI g yX0_errorOfWish wsX0_errorOfWish rm_X0_errorOfWish [.ref (x_a g 0), .int v1, .int v2, .int v3, .int v4] M P
theorem mo_X0_errorOfWish {g : xG} {v1 : Int32} {v2 : Int32} {v3 : Int32} {v4 : Int32} {M : xM} {P P2 : Int32 → xM → Prop} (h : mi_X0_errorOfWish g v1 v2 v3 v4 M P) (hp : ∀ r N, P r N → P2 r N) : mi_X0_errorOfWish g v1 v2 v3 v4 M P2 := x_MI_mono h hp
def rm_X8_add : Room := { frames := 0, cells := 0, slots := 0, locals := 0 }
theorem hy_X8_add : yX8_add.cls = RX8 ∧ yX8_add.cls ≠ "java/lang/invoke/MethodHandle" ∧ yX8_add.cls ≠ "java/lang/invoke/VarHandle" ∧ (parseMethodDescriptor yX8_add.desc).map (fun d => d.parameters.length) = some 3 := by decide +kernel
def mi_X8_add (g : xG) (v1 : Int32) (v2 : Int32) (v3 : Int32) (M : xM) (P : Int32 → xM → Prop) : Prop := x_MI g yX8_add wsX8_add rm_X8_add [.ref (x_a g 11), .int v1, .int v2, .int v3] M P
theorem mo_X8_add {g : xG} {v1 : Int32} {v2 : Int32} {v3 : Int32} {M : xM} {P P2 : Int32 → xM → Prop} (h : mi_X8_add g v1 v2 v3 M P) (hp : ∀ r N, P r N → P2 r N) : mi_X8_add g v1 v2 v3 M P2 := x_MI_mono h hp
def rm_X9_wish : Room := { frames := 5, cells := 0, slots := 0, locals := 110 }
theorem hy_X9_wish : yX9_wish.cls = RX9 ∧ yX9_wish.cls ≠ "java/lang/invoke/MethodHandle" ∧ yX9_wish.cls ≠ "java/lang/invoke/VarHandle" ∧ (parseMethodDescriptor yX9_wish.desc).map (fun d => d.parameters.length) = some 3 := by decide +kernel
def mi_X9_wish (g : xG) (v1 : Int32) (v2 : Int32) (v3 : Int32) (M : xM) (P : Int32 → xM → Prop) : Prop := x_MI g yX9_wish wsX9_wish rm_X9_wish [.ref (x_a g 180), .int v1, .int v2, .int v3] M P
theorem mo_X9_wish {g : xG} {v1 : Int32} {v2 : Int32} {v3 : Int32} {M : xM} {P P2 : Int32 → xM → Prop} (h : mi_X9_wish g v1 v2 v3 M P) (hp : ∀ r N, P r N → P2 r N) : mi_X9_wish g v1 v2 v3 M P2 := x_MI_mono h hp
def rm_X8_has : Room := { frames := 1, cells := 0, slots := 0, locals := 22 }
theorem hy_X8_has : yX8_has.cls = RX8 ∧ yX8_has.cls ≠ "java/lang/invoke/MethodHandle" ∧ yX8_has.cls ≠ "java/lang/invoke/VarHandle" ∧ (parseMethodDescriptor yX8_has.desc).map (fun d => d.parameters.length) = some 1 := by decide +kernel
def mi_X8_has (g : xG) (v1 : Int32) (M : xM) (P : Int32 → xM → Prop) : Prop := x_MI g yX8_has wsX8_has rm_X8_has [.ref (x_a g 11), .int v1] M P
theorem mo_X8_has {g : xG} {v1 : Int32} {M : xM} {P P2 : Int32 → xM → Prop} (h : mi_X8_has g v1 M P) (hp : ∀ r N, P r N → P2 r N) : mi_X8_has g v1 M P2 := x_MI_mono h hp
def rm_X8_removeAt : Room := { frames := 0, cells := 0, slots := 0, locals := 0 }
theorem hy_X8_removeAt : yX8_removeAt.cls = RX8 ∧ yX8_removeAt.cls ≠ "java/lang/invoke/MethodHandle" ∧ yX8_removeAt.cls ≠ "java/lang/invoke/VarHandle" ∧ (parseMethodDescriptor yX8_removeAt.desc).map (fun d => d.parameters.length) = some 1 := by decide +kernel
def mi_X8_removeAt (g : xG) (v1 : Int32) (M : xM) (P : xM → Prop) : Prop := x_MV g yX8_removeAt wsX8_removeAt rm_X8_removeAt [.ref (x_a g 11), .int v1] M P
theorem mo_X8_removeAt {g : xG} {v1 : Int32} {M : xM} {P P2 : xM → Prop} (h : mi_X8_removeAt g v1 M P) (hp : ∀ N, P N → P2 N) : mi_X8_removeAt g v1 M P2 := x_MV_mono h hp
def rm_X9_takeBack : Room := { frames := 5, cells := 0, slots := 0, locals := 110 }
theorem hy_X9_takeBack : yX9_takeBack.cls = RX9 ∧ yX9_takeBack.cls ≠ "java/lang/invoke/MethodHandle" ∧ yX9_takeBack.cls ≠ "java/lang/invoke/VarHandle" ∧ (parseMethodDescriptor yX9_takeBack.desc).map (fun d => d.parameters.length) = some 1 := by decide +kernel
def mi_X9_takeBack (g : xG) (v1 : Int32) (M : xM) (P : Int32 → xM → Prop) : Prop := x_MI g yX9_takeBack wsX9_takeBack rm_X9_takeBack [.ref (x_a g 180), .int v1] M P
theorem mo_X9_takeBack {g : xG} {v1 : Int32} {M : xM} {P P2 : Int32 → xM → Prop} (h : mi_X9_takeBack g v1 M P) (hp : ∀ r N, P r N → P2 r N) : mi_X9_takeBack g v1 M P2 := x_MI_mono h hp
def rm_X8_singersOf : Room := { frames := 0, cells := 0, slots := 0, locals := 0 }
theorem hy_X8_singersOf : yX8_singersOf.cls = RX8 ∧ yX8_singersOf.cls ≠ "java/lang/invoke/MethodHandle" ∧ yX8_singersOf.cls ≠ "java/lang/invoke/VarHandle" ∧ (parseMethodDescriptor yX8_singersOf.desc).map (fun d => d.parameters.length) = some 1 := by decide +kernel
def mi_X8_singersOf (g : xG) (v1 : Int32) (M : xM) (P : Int32 → xM → Prop) : Prop := x_MI g yX8_singersOf wsX8_singersOf rm_X8_singersOf [.ref (x_a g 11), .int v1] M P
theorem mo_X8_singersOf {g : xG} {v1 : Int32} {M : xM} {P P2 : Int32 → xM → Prop} (h : mi_X8_singersOf g v1 M P) (hp : ∀ r N, P r N → P2 r N) : mi_X8_singersOf g v1 M P2 := x_MI_mono h hp
def rm_X8_onesWithout : Room := { frames := 1, cells := 0, slots := 0, locals := 22 }
theorem hy_X8_onesWithout : yX8_onesWithout.cls = RX8 ∧ yX8_onesWithout.cls ≠ "java/lang/invoke/MethodHandle" ∧ yX8_onesWithout.cls ≠ "java/lang/invoke/VarHandle" ∧ (parseMethodDescriptor yX8_onesWithout.desc).map (fun d => d.parameters.length) = some 1 := by decide +kernel
def mi_X8_onesWithout (g : xG) (v1 : Int32) (M : xM) (P : Int32 → xM → Prop) : Prop := x_MI g yX8_onesWithout wsX8_onesWithout rm_X8_onesWithout [.ref (x_a g 11), .int v1] M P
theorem mo_X8_onesWithout {g : xG} {v1 : Int32} {M : xM} {P P2 : Int32 → xM → Prop} (h : mi_X8_onesWithout g v1 M P) (hp : ∀ r N, P r N → P2 r N) : mi_X8_onesWithout g v1 M P2 := x_MI_mono h hp
def rm_X8_readyOnes : Room := { frames := 2, cells := 0, slots := 0, locals := 45 }
theorem hy_X8_readyOnes : yX8_readyOnes.cls = RX8 ∧ yX8_readyOnes.cls ≠ "java/lang/invoke/MethodHandle" ∧ yX8_readyOnes.cls ≠ "java/lang/invoke/VarHandle" ∧ (parseMethodDescriptor yX8_readyOnes.desc).map (fun d => d.parameters.length) = some 1 := by decide +kernel
def mi_X8_readyOnes (g : xG) (v1 : Int32) (M : xM) (P : Int32 → xM → Prop) : Prop := x_MI g yX8_readyOnes wsX8_readyOnes rm_X8_readyOnes [.ref (x_a g 11), .int v1] M P
theorem mo_X8_readyOnes {g : xG} {v1 : Int32} {M : xM} {P P2 : Int32 → xM → Prop} (h : mi_X8_readyOnes g v1 M P) (hp : ∀ r N, P r N → P2 r N) : mi_X8_readyOnes g v1 M P2 := x_MI_mono h hp
def rm_X8_freshOnes : Room := { frames := 2, cells := 0, slots := 0, locals := 45 }
theorem hy_X8_freshOnes : yX8_freshOnes.cls = RX8 ∧ yX8_freshOnes.cls ≠ "java/lang/invoke/MethodHandle" ∧ yX8_freshOnes.cls ≠ "java/lang/invoke/VarHandle" ∧ (parseMethodDescriptor yX8_freshOnes.desc).map (fun d => d.parameters.length) = some 1 := by decide +kernel
def mi_X8_freshOnes (g : xG) (v1 : Int32) (M : xM) (P : Int32 → xM → Prop) : Prop := x_MI g yX8_freshOnes wsX8_freshOnes rm_X8_freshOnes [.ref (x_a g 11), .int v1] M P
theorem mo_X8_freshOnes {g : xG} {v1 : Int32} {M : xM} {P P2 : Int32 → xM → Prop} (h : mi_X8_freshOnes g v1 M P) (hp : ∀ r N, P r N → P2 r N) : mi_X8_freshOnes g v1 M P2 := x_MI_mono h hp
def rm_X8_turnsFor : Room := { frames := 1, cells := 0, slots := 0, locals := 21 }
theorem hy_X8_turnsFor : yX8_turnsFor.cls = RX8 ∧ yX8_turnsFor.cls ≠ "java/lang/invoke/MethodHandle" ∧ yX8_turnsFor.cls ≠ "java/lang/invoke/VarHandle" ∧ (parseMethodDescriptor yX8_turnsFor.desc).map (fun d => d.parameters.length) = some 2 := by decide +kernel
def mi_X8_turnsFor (g : xG) (v1 : Int32) (t : Nat) (M : xM) (P : Int32 → xM → Prop) : Prop := x_MI g yX8_turnsFor wsX8_turnsFor rm_X8_turnsFor [.ref (x_a g 11), .int v1, .ref (x_a g t)] M P
theorem mo_X8_turnsFor {g : xG} {v1 : Int32} {t : Nat} {M : xM} {P P2 : Int32 → xM → Prop} (h : mi_X8_turnsFor g v1 t M P) (hp : ∀ r N, P r N → P2 r N) : mi_X8_turnsFor g v1 t M P2 := x_MI_mono h hp
def rm_X8_fewestTurnsAmong : Room := { frames := 2, cells := 0, slots := 0, locals := 44 }
theorem hy_X8_fewestTurnsAmong : yX8_fewestTurnsAmong.cls = RX8 ∧ yX8_fewestTurnsAmong.cls ≠ "java/lang/invoke/MethodHandle" ∧ yX8_fewestTurnsAmong.cls ≠ "java/lang/invoke/VarHandle" ∧ (parseMethodDescriptor yX8_fewestTurnsAmong.desc).map (fun d => d.parameters.length) = some 2 := by decide +kernel
def mi_X8_fewestTurnsAmong (g : xG) (v1 : Int32) (t : Nat) (M : xM) (P : Int32 → xM → Prop) : Prop := x_MI g yX8_fewestTurnsAmong wsX8_fewestTurnsAmong rm_X8_fewestTurnsAmong [.ref (x_a g 11), .int v1, .ref (x_a g t)] M P
theorem mo_X8_fewestTurnsAmong {g : xG} {v1 : Int32} {t : Nat} {M : xM} {P P2 : Int32 → xM → Prop} (h : mi_X8_fewestTurnsAmong g v1 t M P) (hp : ∀ r N, P r N → P2 r N) : mi_X8_fewestTurnsAmong g v1 t M P2 := x_MI_mono h hp
def rm_X8_nextAmong : Room := { frames := 3, cells := 0, slots := 0, locals := 68 }
theorem hy_X8_nextAmong : yX8_nextAmong.cls = RX8 ∧ yX8_nextAmong.cls ≠ "java/lang/invoke/MethodHandle" ∧ yX8_nextAmong.cls ≠ "java/lang/invoke/VarHandle" ∧ (parseMethodDescriptor yX8_nextAmong.desc).map (fun d => d.parameters.length) = some 3 := by decide +kernel
def mi_X8_nextAmong (g : xG) (v1 : Int32) (v2 : Int32) (t : Nat) (M : xM) (P : Int32 → xM → Prop) : Prop := x_MI g yX8_nextAmong wsX8_nextAmong rm_X8_nextAmong [.ref (x_a g 11), .int v1, .int v2, .ref (x_a g t)] M P
theorem mo_X8_nextAmong {g : xG} {v1 : Int32} {v2 : Int32} {t : Nat} {M : xM} {P P2 : Int32 → xM → Prop} (h : mi_X8_nextAmong g v1 v2 t M P) (hp : ∀ r N, P r N → P2 r N) : mi_X8_nextAmong g v1 v2 t M P2 := x_MI_mono h hp
def rm_X0_nextWish : Room := { frames := 4, cells := 0, slots := 0, locals := 92 }
theorem hy_X0_nextWish : yX0_nextWish.cls = RX0 ∧ yX0_nextWish.cls ≠ "java/lang/invoke/MethodHandle" ∧ yX0_nextWish.cls ≠ "java/lang/invoke/VarHandle" ∧ (parseMethodDescriptor yX0_nextWish.desc).map (fun d => d.parameters.length) = some 0 := by decide +kernel
def mi_X0_nextWish (g : xG) (M : xM) (P : Int32 → xM → Prop) : Prop := x_MI g yX0_nextWish wsX0_nextWish rm_X0_nextWish [.ref (x_a g 0)] M P
theorem mo_X0_nextWish {g : xG} {M : xM} {P P2 : Int32 → xM → Prop} (h : mi_X0_nextWish g M P) (hp : ∀ r N, P r N → P2 r N) : mi_X0_nextWish g M P2 := x_MI_mono h hp
def rm_X0_lengthOfWish : Room := { frames := 0, cells := 0, slots := 0, locals := 0 }
theorem hy_X0_lengthOfWish : yX0_lengthOfWish.cls = RX0 ∧ yX0_lengthOfWish.cls ≠ "java/lang/invoke/MethodHandle" ∧ yX0_lengthOfWish.cls ≠ "java/lang/invoke/VarHandle" ∧ (parseMethodDescriptor yX0_lengthOfWish.desc).map (fun d => d.parameters.length) = some 1 := by decide +kernel
def mi_X0_lengthOfWish (g : xG) (v1 : Int32) (M : xM) (P : Int32 → xM → Prop) : Prop := x_MI g yX0_lengthOfWish wsX0_lengthOfWish rm_X0_lengthOfWish [.ref (x_a g 0), .int v1] M P
theorem mo_X0_lengthOfWish {g : xG} {v1 : Int32} {M : xM} {P P2 : Int32 → xM → Prop} (h : mi_X0_lengthOfWish g v1 M P) (hp : ∀ r N, P r N → P2 r N) : mi_X0_lengthOfWish g v1 M P2 := x_MI_mono h hp
def rm_X4_remember : Room := { frames := 1, cells := 0, slots := 0, locals := 21 }
theorem hy_X4_remember : yX4_remember.cls = RX4 ∧ yX4_remember.cls ≠ "java/lang/invoke/MethodHandle" ∧ yX4_remember.cls ≠ "java/lang/invoke/VarHandle" ∧ (parseMethodDescriptor yX4_remember.desc).map (fun d => d.parameters.length) = some 4 := by decide +kernel
def mi_X4_remember (g : xG) (v1 : Int32) (v2 : Int32) (v3 : Int32) (v4 : Int32) (M : xM) (P : xM → Prop) : Prop := x_MV g yX4_remember wsX4_remember rm_X4_remember [.ref (x_a g 15), .int v1, .int v2, .int v3, .int v4] M P
theorem mo_X4_remember {g : xG} {v1 : Int32} {v2 : Int32} {v3 : Int32} {v4 : Int32} {M : xM} {P P2 : xM → Prop} (h : mi_X4_remember g v1 v2 v3 v4 M P) (hp : ∀ N, P N → P2 N) : mi_X4_remember g v1 v2 v3 v4 M P2 := x_MV_mono h hp
def rm_X6_singTurn : Room := { frames := 1, cells := 0, slots := 0, locals := 21 }
theorem hy_X6_singTurn : yX6_singTurn.cls = RX6 ∧ yX6_singTurn.cls ≠ "java/lang/invoke/MethodHandle" ∧ yX6_singTurn.cls ≠ "java/lang/invoke/VarHandle" ∧ (parseMethodDescriptor yX6_singTurn.desc).map (fun d => d.parameters.length) = some 2 := by decide +kernel
def mi_X6_singTurn (g : xG) (v1 : Int32) (v2 : Int32) (M : xM) (P : xM → Prop) : Prop := x_MV g yX6_singTurn wsX6_singTurn rm_X6_singTurn [.ref (x_a g 1), .int v1, .int v2] M P
theorem mo_X6_singTurn {g : xG} {v1 : Int32} {v2 : Int32} {M : xM} {P P2 : xM → Prop} (h : mi_X6_singTurn g v1 v2 M P) (hp : ∀ N, P N → P2 N) : mi_X6_singTurn g v1 v2 M P2 := x_MV_mono h hp
def rm_X0_singTurn : Room := { frames := 2, cells := 0, slots := 0, locals := 46 }
theorem hy_X0_singTurn : yX0_singTurn.cls = RX0 ∧ yX0_singTurn.cls ≠ "java/lang/invoke/MethodHandle" ∧ yX0_singTurn.cls ≠ "java/lang/invoke/VarHandle" ∧ (parseMethodDescriptor yX0_singTurn.desc).map (fun d => d.parameters.length) = some 1 := by decide +kernel
def mi_X0_singTurn (g : xG) (v1 : Int32) (M : xM) (P : xM → Prop) : Prop := x_MV g yX0_singTurn wsX0_singTurn rm_X0_singTurn [.ref (x_a g 0), .int v1] M P
theorem mo_X0_singTurn {g : xG} {v1 : Int32} {M : xM} {P P2 : xM → Prop} (h : mi_X0_singTurn g v1 M P) (hp : ∀ N, P N → P2 N) : mi_X0_singTurn g v1 M P2 := x_MV_mono h hp
def rm_X9_sing : Room := { frames := 5, cells := 0, slots := 0, locals := 112 }
theorem hy_X9_sing : yX9_sing.cls = RX9 ∧ yX9_sing.cls ≠ "java/lang/invoke/MethodHandle" ∧ yX9_sing.cls ≠ "java/lang/invoke/VarHandle" ∧ (parseMethodDescriptor yX9_sing.desc).map (fun d => d.parameters.length) = some 1 := by decide +kernel
def mi_X9_sing (g : xG) (v1 : Int32) (M : xM) (P : Int32 → xM → Prop) : Prop := x_MI g yX9_sing wsX9_sing rm_X9_sing [.ref (x_a g 180), .int v1] M P
theorem mo_X9_sing {g : xG} {v1 : Int32} {M : xM} {P P2 : Int32 → xM → Prop} (h : mi_X9_sing g v1 M P) (hp : ∀ r N, P r N → P2 r N) : mi_X9_sing g v1 M P2 := x_MI_mono h hp
def rm_X9_asNumber : Room := { frames := 0, cells := 0, slots := 0, locals := 0 }
theorem hy_X9_asNumber : yX9_asNumber.cls = RX9 ∧ yX9_asNumber.cls ≠ "java/lang/invoke/MethodHandle" ∧ yX9_asNumber.cls ≠ "java/lang/invoke/VarHandle" ∧ (parseMethodDescriptor yX9_asNumber.desc).map (fun d => d.parameters.length) = some 1 := by decide +kernel
def mi_X9_asNumber (g : xG) (v0 : Int32) (M : xM) (P : Int32 → xM → Prop) : Prop := x_MI g yX9_asNumber wsX9_asNumber rm_X9_asNumber [.int v0] M P
theorem mo_X9_asNumber {g : xG} {v0 : Int32} {M : xM} {P P2 : Int32 → xM → Prop} (h : mi_X9_asNumber g v0 M P) (hp : ∀ r N, P r N → P2 r N) : mi_X9_asNumber g v0 M P2 := x_MI_mono h hp
def rm_X8_numberWith : Room := { frames := 1, cells := 0, slots := 0, locals := 22 }
theorem hy_X8_numberWith : yX8_numberWith.cls = RX8 ∧ yX8_numberWith.cls ≠ "java/lang/invoke/MethodHandle" ∧ yX8_numberWith.cls ≠ "java/lang/invoke/VarHandle" ∧ (parseMethodDescriptor yX8_numberWith.desc).map (fun d => d.parameters.length) = some 1 := by decide +kernel
def mi_X8_numberWith (g : xG) (v1 : Int32) (M : xM) (P : Int32 → xM → Prop) : Prop := x_MI g yX8_numberWith wsX8_numberWith rm_X8_numberWith [.ref (x_a g 11), .int v1] M P
theorem mo_X8_numberWith {g : xG} {v1 : Int32} {M : xM} {P P2 : Int32 → xM → Prop} (h : mi_X8_numberWith g v1 M P) (hp : ∀ r N, P r N → P2 r N) : mi_X8_numberWith g v1 M P2 := x_MI_mono h hp
def rm_X9_of : Room := { frames := 2, cells := 0, slots := 0, locals := 45 }
theorem hy_X9_of : yX9_of.cls = RX9 ∧ yX9_of.cls ≠ "java/lang/invoke/MethodHandle" ∧ yX9_of.cls ≠ "java/lang/invoke/VarHandle" ∧ (parseMethodDescriptor yX9_of.desc).map (fun d => d.parameters.length) = some 2 := by decide +kernel
def mi_X9_of (g : xG) (v1 : Int32) (v2 : Int32) (M : xM) (P : Int32 → xM → Prop) : Prop := x_MI g yX9_of wsX9_of rm_X9_of [.ref (x_a g 180), .int v1, .int v2] M P
theorem mo_X9_of {g : xG} {v1 : Int32} {v2 : Int32} {M : xM} {P P2 : Int32 → xM → Prop} (h : mi_X9_of g v1 v2 M P) (hp : ∀ r N, P r N → P2 r N) : mi_X9_of g v1 v2 M P2 := x_MI_mono h hp
def rm_X9_inQueue : Room := { frames := 3, cells := 0, slots := 0, locals := 73 }
theorem hy_X9_inQueue : yX9_inQueue.cls = RX9 ∧ yX9_inQueue.cls ≠ "java/lang/invoke/MethodHandle" ∧ yX9_inQueue.cls ≠ "java/lang/invoke/VarHandle" ∧ (parseMethodDescriptor yX9_inQueue.desc).map (fun d => d.parameters.length) = some 2 := by decide +kernel
def mi_X9_inQueue (g : xG) (v1 : Int32) (v2 : Int32) (M : xM) (P : Int32 → xM → Prop) : Prop := x_MI g yX9_inQueue wsX9_inQueue rm_X9_inQueue [.ref (x_a g 180), .int v1, .int v2] M P
theorem mo_X9_inQueue {g : xG} {v1 : Int32} {v2 : Int32} {M : xM} {P P2 : Int32 → xM → Prop} (h : mi_X9_inQueue g v1 v2 M P) (hp : ∀ r N, P r N → P2 r N) : mi_X9_inQueue g v1 v2 M P2 := x_MI_mono h hp
def rm_X9_key : Room := { frames := 3, cells := 0, slots := 0, locals := 73 }
theorem hy_X9_key : yX9_key.cls = RX9 ∧ yX9_key.cls ≠ "java/lang/invoke/MethodHandle" ∧ yX9_key.cls ≠ "java/lang/invoke/VarHandle" ∧ (parseMethodDescriptor yX9_key.desc).map (fun d => d.parameters.length) = some 3 := by decide +kernel
def mi_X9_key (g : xG) (v1 : Int32) (v2 : Int32) (v3 : Int32) (M : xM) (P : Int32 → xM → Prop) : Prop := x_MI g yX9_key wsX9_key rm_X9_key [.ref (x_a g 180), .int v1, .int v2, .int v3] M P
theorem mo_X9_key {g : xG} {v1 : Int32} {v2 : Int32} {v3 : Int32} {M : xM} {P P2 : Int32 → xM → Prop} (h : mi_X9_key g v1 v2 v3 M P) (hp : ∀ r N, P r N → P2 r N) : mi_X9_key g v1 v2 v3 M P2 := x_MI_mono h hp
def rm_X0_singersWithKey : Room := { frames := 3, cells := 0, slots := 0, locals := 73 }
theorem hy_X0_singersWithKey : yX0_singersWithKey.cls = RX0 ∧ yX0_singersWithKey.cls ≠ "java/lang/invoke/MethodHandle" ∧ yX0_singersWithKey.cls ≠ "java/lang/invoke/VarHandle" ∧ (parseMethodDescriptor yX0_singersWithKey.desc).map (fun d => d.parameters.length) = some 1 := by decide +kernel
def mi_X0_singersWithKey (g : xG) (v1 : Int32) (M : xM) (P : Int32 → xM → Prop) : Prop := x_MI g yX0_singersWithKey wsX0_singersWithKey rm_X0_singersWithKey [.ref (x_a g 0), .int v1] M P
theorem mo_X0_singersWithKey {g : xG} {v1 : Int32} {M : xM} {P P2 : Int32 → xM → Prop} (h : mi_X0_singersWithKey g v1 M P) (hp : ∀ r N, P r N → P2 r N) : mi_X0_singersWithKey g v1 M P2 := x_MI_mono h hp
def rm_X9_ofSong : Room := { frames := 4, cells := 0, slots := 0, locals := 96 }
theorem hy_X9_ofSong : yX9_ofSong.cls = RX9 ∧ yX9_ofSong.cls ≠ "java/lang/invoke/MethodHandle" ∧ yX9_ofSong.cls ≠ "java/lang/invoke/VarHandle" ∧ (parseMethodDescriptor yX9_ofSong.desc).map (fun d => d.parameters.length) = some 2 := by decide +kernel
def mi_X9_ofSong (g : xG) (v1 : Int32) (v2 : Int32) (M : xM) (P : Int32 → xM → Prop) : Prop := x_MI g yX9_ofSong wsX9_ofSong rm_X9_ofSong [.ref (x_a g 180), .int v1, .int v2] M P
theorem mo_X9_ofSong {g : xG} {v1 : Int32} {v2 : Int32} {M : xM} {P P2 : Int32 → xM → Prop} (h : mi_X9_ofSong g v1 v2 M P) (hp : ∀ r N, P r N → P2 r N) : mi_X9_ofSong g v1 v2 M P2 := x_MI_mono h hp
def rm_X9_past : Room := { frames := 1, cells := 0, slots := 0, locals := 22 }
theorem hy_X9_past : yX9_past.cls = RX9 ∧ yX9_past.cls ≠ "java/lang/invoke/MethodHandle" ∧ yX9_past.cls ≠ "java/lang/invoke/VarHandle" ∧ (parseMethodDescriptor yX9_past.desc).map (fun d => d.parameters.length) = some 2 := by decide +kernel
def mi_X9_past (g : xG) (v1 : Int32) (v2 : Int32) (M : xM) (P : Int32 → xM → Prop) : Prop := x_MI g yX9_past wsX9_past rm_X9_past [.ref (x_a g 180), .int v1, .int v2] M P
theorem mo_X9_past {g : xG} {v1 : Int32} {v2 : Int32} {M : xM} {P P2 : Int32 → xM → Prop} (h : mi_X9_past g v1 v2 M P) (hp : ∀ r N, P r N → P2 r N) : mi_X9_past g v1 v2 M P2 := x_MI_mono h hp
def rm_X9_count : Room := { frames := 5, cells := 0, slots := 0, locals := 112 }
theorem hy_X9_count : yX9_count.cls = RX9 ∧ yX9_count.cls ≠ "java/lang/invoke/MethodHandle" ∧ yX9_count.cls ≠ "java/lang/invoke/VarHandle" ∧ (parseMethodDescriptor yX9_count.desc).map (fun d => d.parameters.length) = some 1 := by decide +kernel
def mi_X9_count (g : xG) (v1 : Int32) (M : xM) (P : Int32 → xM → Prop) : Prop := x_MI g yX9_count wsX9_count rm_X9_count [.ref (x_a g 180), .int v1] M P
theorem mo_X9_count {g : xG} {v1 : Int32} {M : xM} {P P2 : Int32 → xM → Prop} (h : mi_X9_count g v1 M P) (hp : ∀ r N, P r N → P2 r N) : mi_X9_count g v1 M P2 := x_MI_mono h hp
def rm_X0_isReady : Room := { frames := 3, cells := 0, slots := 0, locals := 66 }
theorem hy_X0_isReady : yX0_isReady.cls = RX0 ∧ yX0_isReady.cls ≠ "java/lang/invoke/MethodHandle" ∧ yX0_isReady.cls ≠ "java/lang/invoke/VarHandle" ∧ (parseMethodDescriptor yX0_isReady.desc).map (fun d => d.parameters.length) = some 1 := by decide +kernel
def mi_X0_isReady (g : xG) (v1 : Int32) (M : xM) (P : Int32 → xM → Prop) : Prop := x_MI g yX0_isReady wsX0_isReady rm_X0_isReady [.ref (x_a g 0), .int v1] M P
theorem mo_X0_isReady {g : xG} {v1 : Int32} {M : xM} {P P2 : Int32 → xM → Prop} (h : mi_X0_isReady g v1 M P) (hp : ∀ r N, P r N → P2 r N) : mi_X0_isReady g v1 M P2 := x_MI_mono h hp
def rm_X5_addTurn : Room := { frames := 1, cells := 0, slots := 0, locals := 21 }
theorem hy_X5_addTurn : yX5_addTurn.cls = RX5 ∧ yX5_addTurn.cls ≠ "java/lang/invoke/MethodHandle" ∧ yX5_addTurn.cls ≠ "java/lang/invoke/VarHandle" ∧ (parseMethodDescriptor yX5_addTurn.desc).map (fun d => d.parameters.length) = some 1 := by decide +kernel
def mi_X5_addTurn (g : xG) (v1 : Int32) (M : xM) (P : xM → Prop) : Prop := x_MV g yX5_addTurn wsX5_addTurn rm_X5_addTurn [.ref (x_a g 191), .int v1] M P
theorem mo_X5_addTurn {g : xG} {v1 : Int32} {M : xM} {P P2 : xM → Prop} (h : mi_X5_addTurn g v1 M P) (hp : ∀ N, P N → P2 N) : mi_X5_addTurn g v1 M P2 := x_MV_mono h hp
def rm_X5_lookAhead : Room := { frames := 4, cells := 0, slots := 0, locals := 92 }
theorem hy_X5_lookAhead : yX5_lookAhead.cls = RX5 ∧ yX5_lookAhead.cls ≠ "java/lang/invoke/MethodHandle" ∧ yX5_lookAhead.cls ≠ "java/lang/invoke/VarHandle" ∧ (parseMethodDescriptor yX5_lookAhead.desc).map (fun d => d.parameters.length) = some 3 := by decide +kernel
def mi_X5_lookAhead (g : xG) (v2 : Int32) (v3 : Int32) (M : xM) (P : xM → Prop) : Prop := x_MV g yX5_lookAhead wsX5_lookAhead rm_X5_lookAhead [.ref (x_a g 191), .ref (x_a g 0), .int v2, .int v3] M P
theorem mo_X5_lookAhead {g : xG} {v2 : Int32} {v3 : Int32} {M : xM} {P P2 : xM → Prop} (h : mi_X5_lookAhead g v2 v3 M P) (hp : ∀ N, P N → P2 N) : mi_X5_lookAhead g v2 v3 M P2 := x_MV_mono h hp
def rm_X9_turnOf : Room := { frames := 5, cells := 0, slots := 0, locals := 119 }
theorem hy_X9_turnOf : yX9_turnOf.cls = RX9 ∧ yX9_turnOf.cls ≠ "java/lang/invoke/MethodHandle" ∧ yX9_turnOf.cls ≠ "java/lang/invoke/VarHandle" ∧ (parseMethodDescriptor yX9_turnOf.desc).map (fun d => d.parameters.length) = some 2 := by decide +kernel
def mi_X9_turnOf (g : xG) (v1 : Int32) (v2 : Int32) (M : xM) (P : Int32 → xM → Prop) : Prop := x_MI g yX9_turnOf wsX9_turnOf rm_X9_turnOf [.ref (x_a g 180), .int v1, .int v2] M P
theorem mo_X9_turnOf {g : xG} {v1 : Int32} {v2 : Int32} {M : xM} {P P2 : Int32 → xM → Prop} (h : mi_X9_turnOf g v1 v2 M P) (hp : ∀ r N, P r N → P2 r N) : mi_X9_turnOf g v1 v2 M P2 := x_MI_mono h hp
def rm_X9_endOfAll : Room := { frames := 3, cells := 0, slots := 0, locals := 66 }
theorem hy_X9_endOfAll : yX9_endOfAll.cls = RX9 ∧ yX9_endOfAll.cls ≠ "java/lang/invoke/MethodHandle" ∧ yX9_endOfAll.cls ≠ "java/lang/invoke/VarHandle" ∧ (parseMethodDescriptor yX9_endOfAll.desc).map (fun d => d.parameters.length) = some 0 := by decide +kernel
def mi_X9_endOfAll (g : xG) (M : xM) (P : Int32 → xM → Prop) : Prop := x_MI g yX9_endOfAll wsX9_endOfAll rm_X9_endOfAll [.ref (x_a g 180)] M P
theorem mo_X9_endOfAll {g : xG} {M : xM} {P P2 : Int32 → xM → Prop} (h : mi_X9_endOfAll g M P) (hp : ∀ r N, P r N → P2 r N) : mi_X9_endOfAll g M P2 := x_MI_mono h hp
def rm_X9_ifLeft : Room := { frames := 3, cells := 0, slots := 0, locals := 66 }
theorem hy_X9_ifLeft : yX9_ifLeft.cls = RX9 ∧ yX9_ifLeft.cls ≠ "java/lang/invoke/MethodHandle" ∧ yX9_ifLeft.cls ≠ "java/lang/invoke/VarHandle" ∧ (parseMethodDescriptor yX9_ifLeft.desc).map (fun d => d.parameters.length) = some 1 := by decide +kernel
def mi_X9_ifLeft (g : xG) (v1 : Int32) (M : xM) (P : Int32 → xM → Prop) : Prop := x_MI g yX9_ifLeft wsX9_ifLeft rm_X9_ifLeft [.ref (x_a g 180), .int v1] M P
theorem mo_X9_ifLeft {g : xG} {v1 : Int32} {M : xM} {P P2 : Int32 → xM → Prop} (h : mi_X9_ifLeft g v1 M P) (hp : ∀ r N, P r N → P2 r N) : mi_X9_ifLeft g v1 M P2 := x_MI_mono h hp
def rm_X9_beginWithout : Room := { frames := 5, cells := 0, slots := 0, locals := 119 }
theorem hy_X9_beginWithout : yX9_beginWithout.cls = RX9 ∧ yX9_beginWithout.cls ≠ "java/lang/invoke/MethodHandle" ∧ yX9_beginWithout.cls ≠ "java/lang/invoke/VarHandle" ∧ (parseMethodDescriptor yX9_beginWithout.desc).map (fun d => d.parameters.length) = some 2 := by decide +kernel
def mi_X9_beginWithout (g : xG) (v1 : Int32) (v2 : Int32) (M : xM) (P : Int32 → xM → Prop) : Prop := x_MI g yX9_beginWithout wsX9_beginWithout rm_X9_beginWithout [.ref (x_a g 180), .int v1, .int v2] M P
theorem mo_X9_beginWithout {g : xG} {v1 : Int32} {v2 : Int32} {M : xM} {P P2 : Int32 → xM → Prop} (h : mi_X9_beginWithout g v1 v2 M P) (hp : ∀ r N, P r N → P2 r N) : mi_X9_beginWithout g v1 v2 M P2 := x_MI_mono h hp
def rm_X9_heldUpBy : Room := { frames := 6, cells := 0, slots := 0, locals := 141 }
theorem hy_X9_heldUpBy : yX9_heldUpBy.cls = RX9 ∧ yX9_heldUpBy.cls ≠ "java/lang/invoke/MethodHandle" ∧ yX9_heldUpBy.cls ≠ "java/lang/invoke/VarHandle" ∧ (parseMethodDescriptor yX9_heldUpBy.desc).map (fun d => d.parameters.length) = some 2 := by decide +kernel
def mi_X9_heldUpBy (g : xG) (v1 : Int32) (v2 : Int32) (M : xM) (P : Int32 → xM → Prop) : Prop := x_MI g yX9_heldUpBy wsX9_heldUpBy rm_X9_heldUpBy [.ref (x_a g 180), .int v1, .int v2] M P
theorem mo_X9_heldUpBy {g : xG} {v1 : Int32} {v2 : Int32} {M : xM} {P P2 : Int32 → xM → Prop} (h : mi_X9_heldUpBy g v1 v2 M P) (hp : ∀ r N, P r N → P2 r N) : mi_X9_heldUpBy g v1 v2 M P2 := x_MI_mono h hp
def rm_X9_together : Room := { frames := 3, cells := 0, slots := 0, locals := 73 }
theorem hy_X9_together : yX9_together.cls = RX9 ∧ yX9_together.cls ≠ "java/lang/invoke/MethodHandle" ∧ yX9_together.cls ≠ "java/lang/invoke/VarHandle" ∧ (parseMethodDescriptor yX9_together.desc).map (fun d => d.parameters.length) = some 2 := by decide +kernel
def mi_X9_together (g : xG) (v1 : Int32) (v2 : Int32) (M : xM) (P : Int32 → xM → Prop) : Prop := x_MI g yX9_together wsX9_together rm_X9_together [.ref (x_a g 180), .int v1, .int v2] M P
theorem mo_X9_together {g : xG} {v1 : Int32} {v2 : Int32} {M : xM} {P P2 : Int32 → xM → Prop} (h : mi_X9_together g v1 v2 M P) (hp : ∀ r N, P r N → P2 r N) : mi_X9_together g v1 v2 M P2 := x_MI_mono h hp
def rm_L_low : Room := { frames := 0, cells := 0, slots := 0, locals := 0 }
theorem hy_L_low : yL_low.cls = RL ∧ yL_low.cls ≠ "java/lang/invoke/MethodHandle" ∧ yL_low.cls ≠ "java/lang/invoke/VarHandle" ∧ (parseMethodDescriptor yL_low.desc).map (fun d => d.parameters.length) = some 2 := by decide +kernel
def mi_L_low (g : xG) (v0 : Int32) (v1 : Int32) (M : xM) (P : Int32 → xM → Prop) : Prop := x_MI g yL_low wsL_low rm_L_low [.int v0, .int v1] M P
theorem mo_L_low {g : xG} {v0 : Int32} {v1 : Int32} {M : xM} {P P2 : Int32 → xM → Prop} (h : mi_L_low g v0 v1 M P) (hp : ∀ r N, P r N → P2 r N) : mi_L_low g v0 v1 M P2 := x_MI_mono h hp
def rm_L_key : Room := { frames := 0, cells := 0, slots := 0, locals := 0 }
theorem hy_L_key : yL_key.cls = RL ∧ yL_key.cls ≠ "java/lang/invoke/MethodHandle" ∧ yL_key.cls ≠ "java/lang/invoke/VarHandle" ∧ (parseMethodDescriptor yL_key.desc).map (fun d => d.parameters.length) = some 5 := by decide +kernel
def mi_L_key (g : xG) (v0 : Int32) (v1 : Int32) (v2 : Int32) (M : xM) (P : Int32 → xM → Prop) : Prop := x_MI g yL_key wsL_key rm_L_key [.int v0, .int v1, .int v2, .ref (x_a g 194), .ref (x_a g 195)] M P
theorem mo_L_key {g : xG} {v0 : Int32} {v1 : Int32} {v2 : Int32} {M : xM} {P P2 : Int32 → xM → Prop} (h : mi_L_key g v0 v1 v2 M P) (hp : ∀ r N, P r N → P2 r N) : mi_L_key g v0 v1 v2 M P2 := x_MI_mono h hp
def rm_L_set : Room := { frames := 0, cells := 0, slots := 0, locals := 0 }
theorem hy_L_set : yL_set.cls = RL ∧ yL_set.cls ≠ "java/lang/invoke/MethodHandle" ∧ yL_set.cls ≠ "java/lang/invoke/VarHandle" ∧ (parseMethodDescriptor yL_set.desc).map (fun d => d.parameters.length) = some 1 := by decide +kernel
def mi_L_set (g : xG) (v0 : Int32) (M : xM) (P : Int32 → xM → Prop) : Prop := x_MI g yL_set wsL_set rm_L_set [.int v0] M P
theorem mo_L_set {g : xG} {v0 : Int32} {M : xM} {P P2 : Int32 → xM → Prop} (h : mi_L_set g v0 M P) (hp : ∀ r N, P r N → P2 r N) : mi_L_set g v0 M P2 := x_MI_mono h hp
def rm_L_turns : Room := { frames := 0, cells := 0, slots := 0, locals := 0 }
theorem hy_L_turns : yL_turns.cls = RL ∧ yL_turns.cls ≠ "java/lang/invoke/MethodHandle" ∧ yL_turns.cls ≠ "java/lang/invoke/VarHandle" ∧ (parseMethodDescriptor yL_turns.desc).map (fun d => d.parameters.length) = some 2 := by decide +kernel
def mi_L_turns (g : xG) (v0 : Int32) (t : Nat) (M : xM) (P : Int32 → xM → Prop) : Prop := x_MI g yL_turns wsL_turns rm_L_turns [.int v0, .ref (x_a g t)] M P
theorem mo_L_turns {g : xG} {v0 : Int32} {t : Nat} {M : xM} {P P2 : Int32 → xM → Prop} (h : mi_L_turns g v0 t M P) (hp : ∀ r N, P r N → P2 r N) : mi_L_turns g v0 t M P2 := x_MI_mono h hp
def rm_L_next : Room := { frames := 1, cells := 0, slots := 0, locals := 23 }
theorem hy_L_next : yL_next.cls = RL ∧ yL_next.cls ≠ "java/lang/invoke/MethodHandle" ∧ yL_next.cls ≠ "java/lang/invoke/VarHandle" ∧ (parseMethodDescriptor yL_next.desc).map (fun d => d.parameters.length) = some 3 := by decide +kernel
def mi_L_next (g : xG) (a : Nat) (b : Nat) (c : Nat) (M : xM) (P : Int32 → xM → Prop) : Prop := x_MI g yL_next wsL_next rm_L_next [.ref (x_a g a), .ref (x_a g b), .ref (x_a g c)] M P
theorem mo_L_next {g : xG} {a : Nat} {b : Nat} {c : Nat} {M : xM} {P P2 : Int32 → xM → Prop} (h : mi_L_next g a b c M P) (hp : ∀ r N, P r N → P2 r N) : mi_L_next g a b c M P2 := x_MI_mono h hp
def rm_L_sing : Room := { frames := 1, cells := 0, slots := 0, locals := 21 }
theorem hy_L_sing : yL_sing.cls = RL ∧ yL_sing.cls ≠ "java/lang/invoke/MethodHandle" ∧ yL_sing.cls ≠ "java/lang/invoke/VarHandle" ∧ (parseMethodDescriptor yL_sing.desc).map (fun d => d.parameters.length) = some 7 := by decide +kernel
def mi_L_sing (g : xG) (v0 : Int32) (a : Nat) (b : Nat) (c : Nat) (d : Nat) (e : Nat) (f : Nat) (M : xM) (P : xM → Prop) : Prop := x_MV g yL_sing wsL_sing rm_L_sing [.int v0, .ref (x_a g a), .ref (x_a g b), .ref (x_a g c), .ref (x_a g d), .ref (x_a g e), .ref (x_a g f)] M P
theorem mo_L_sing {g : xG} {v0 : Int32} {a : Nat} {b : Nat} {c : Nat} {d : Nat} {e : Nat} {f : Nat} {M : xM} {P P2 : xM → Prop} (h : mi_L_sing g v0 a b c d e f M P) (hp : ∀ N, P N → P2 N) : mi_L_sing g v0 a b c d e f M P2 := x_MV_mono h hp
def rm_L_copy : Room := { frames := 0, cells := 0, slots := 0, locals := 0 }
theorem hy_L_copy : yL_copy.cls = RL ∧ yL_copy.cls ≠ "java/lang/invoke/MethodHandle" ∧ yL_copy.cls ≠ "java/lang/invoke/VarHandle" ∧ (parseMethodDescriptor yL_copy.desc).map (fun d => d.parameters.length) = some 3 := by decide +kernel
def mi_L_copy (g : xG) (a : Nat) (b : Nat) (v2 : Int32) (M : xM) (P : xM → Prop) : Prop := x_MV g yL_copy wsL_copy rm_L_copy [.ref (x_a g a), .ref (x_a g b), .int v2] M P
theorem mo_L_copy {g : xG} {a : Nat} {b : Nat} {v2 : Int32} {M : xM} {P P2 : xM → Prop} (h : mi_L_copy g a b v2 M P) (hp : ∀ N, P N → P2 N) : mi_L_copy g a b v2 M P2 := x_MV_mono h hp
def rm_L_comes : Room := { frames := 2, cells := 0, slots := 0, locals := 51 }
theorem hy_L_comes : yL_comes.cls = RL ∧ yL_comes.cls ≠ "java/lang/invoke/MethodHandle" ∧ yL_comes.cls ≠ "java/lang/invoke/VarHandle" ∧ (parseMethodDescriptor yL_comes.desc).map (fun d => d.parameters.length) = some 12 := by decide +kernel
def mi_L_comes (g : xG) (v0 : Int32) (v1 : Int32) (M : xM) (P : Int32 → xM → Prop) : Prop := x_MI g yL_comes wsL_comes rm_L_comes [.int v0, .int v1, .ref (x_a g 193), .ref (x_a g 194), .ref (x_a g 195), .ref (x_a g 196), .ref (x_a g 199), .ref (x_a g 200), .ref (x_a g 201), .ref (x_a g 202), .ref (x_a g 203), .ref (x_a g 204)] M P
theorem mo_L_comes {g : xG} {v0 : Int32} {v1 : Int32} {M : xM} {P P2 : Int32 → xM → Prop} (h : mi_L_comes g v0 v1 M P) (hp : ∀ r N, P r N → P2 r N) : mi_L_comes g v0 v1 M P2 := x_MI_mono h hp
def rm_L_bits : Room := { frames := 0, cells := 0, slots := 0, locals := 0 }
theorem hy_L_bits : yL_bits.cls = RL ∧ yL_bits.cls ≠ "java/lang/invoke/MethodHandle" ∧ yL_bits.cls ≠ "java/lang/invoke/VarHandle" ∧ (parseMethodDescriptor yL_bits.desc).map (fun d => d.parameters.length) = some 1 := by decide +kernel
def mi_L_bits (g : xG) (v0 : Int32) (M : xM) (P : Int32 → xM → Prop) : Prop := x_MI g yL_bits wsL_bits rm_L_bits [.int v0] M P
theorem mo_L_bits {g : xG} {v0 : Int32} {M : xM} {P P2 : Int32 → xM → Prop} (h : mi_L_bits g v0 M P) (hp : ∀ r N, P r N → P2 r N) : mi_L_bits g v0 M P2 := x_MI_mono h hp
def rm_L_same : Room := { frames := 7, cells := 0, slots := 0, locals := 168 }
theorem hy_L_same : yL_same.cls = RL ∧ yL_same.cls ≠ "java/lang/invoke/MethodHandle" ∧ yL_same.cls ≠ "java/lang/invoke/VarHandle" ∧ (parseMethodDescriptor yL_same.desc).map (fun d => d.parameters.length) = some 14 := by decide +kernel
def mi_L_same (g : xG) (v1 : Int32) (M : xM) (P : Int32 → xM → Prop) : Prop := x_MI g yL_same wsL_same rm_L_same [.ref (x_a g 180), .int v1, .ref (x_a g 193), .ref (x_a g 194), .ref (x_a g 195), .ref (x_a g 196), .ref (x_a g 197), .ref (x_a g 198), .ref (x_a g 199), .ref (x_a g 200), .ref (x_a g 201), .ref (x_a g 202), .ref (x_a g 203), .ref (x_a g 204)] M P
theorem mo_L_same {g : xG} {v1 : Int32} {M : xM} {P P2 : Int32 → xM → Prop} (h : mi_L_same g v1 M P) (hp : ∀ r N, P r N → P2 r N) : mi_L_same g v1 M P2 := x_MI_mono h hp
