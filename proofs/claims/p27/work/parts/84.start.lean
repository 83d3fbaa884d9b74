/-! the law's start: its object and its arrays -/
variable {x : xX} {g : xG} {Rm : Room} {cc : ByteArray} {own : String} {n : Nat} {ws : List Cond} {Q : State → Prop} {w : va_W} {ce sl : Nat} {pc : Nat} {ls : List (Nat × Value)} {st : List Value}
theorem y_istore {i : Nat} {v : Int32} {ls' : List (Nat × Value)} (hC : x_cx x g Rm cc own n ws) (hd : decode cc pc = .ok (.istore i, 2)) (hn : i < n) (hq : (i, Value.int v) :: ls.filter (fun q => !(q.1 == i) && !(q.1 + 1 == i && q.2.category == 2)) = ls') (kk : y_W x g n Q w ce sl (pc + 2) ls' (st)) : y_W x g n Q w ce sl pc ls (.int v :: st) := by
  obtain ⟨p, l, e, R, s, m, args, below, meth, c, cells, slots⟩ := x
  obtain ⟨hx, hb, hml, hown, hts, hK, hN, rfl, hl0, hcc, hss⟩ := hC
  intro H locs la hP hD hS hl
  exact lv_istore hx hb hd hl hn hq (fun la hl => (kk H locs la hP hD hS hl))
theorem y_astore {i : Nat} {v : Nat} {ls' : List (Nat × Value)} (hC : x_cx x g Rm cc own n ws) (hd : decode cc pc = .ok (.astore i, 2)) (hn : i < n) (hq : (i, Value.ref v) :: ls.filter (fun q => !(q.1 == i) && !(q.1 + 1 == i && q.2.category == 2)) = ls') (kk : y_W x g n Q w ce sl (pc + 2) ls' (st)) : y_W x g n Q w ce sl pc ls (.ref v :: st) := by
  obtain ⟨p, l, e, R, s, m, args, below, meth, c, cells, slots⟩ := x
  obtain ⟨hx, hb, hml, hown, hts, hK, hN, rfl, hl0, hcc, hss⟩ := hC
  intro H locs la hP hD hS hl
  exact lv_astore hx hb hd hl hn hq (fun la hl => (kk H locs la hP hD hS hl))
theorem y_u9 : ∀ w ∈ u_ws RX9 TX9 7, w ∈ wsL_law := by decide +kernel
set_option maxRecDepth 100000 in
set_option maxHeartbeats 4000000 in
theorem lw_begin {b : Nat} (hC : x_cx x g room_1 code RL 22 wsL_law) (hY : y_new x g) (kk : ∀ (q9 m1 m2 m3 m4 m5 m6 m7 m8 m9 m10 m11 m12 : Nat) (u9 : va_W), wd_X9 g q9 u9 → y_W x g 22 Q (u9 ++ y_U g m1 m2 m3 m4 m5 m6 m7 m8 m9 m10 m11 m12) 205 2698 81 [(14, .int (nI 0)), (13, .ref m12), (12, .ref m11), (11, .ref m10), (10, .ref m9), (9, .ref m8), (8, .ref m7), (7, .ref m6), (6, .ref m5), (5, .ref m4), (4, .ref m3), (3, .ref m2), (2, .ref m1), (1, .ref q9), (0, .ref b)] []) : y_W x g 22 Q [] 0 0 0 [(0, .ref b)] [] := by
  refine y_newO (ci := 9) (fs := [.null, .null, .null, .null, .null, .null, .null]) hC hY rfl y_u9 tyX9 tyX9_ok (List.mem_of_getElem? (i := 0) rfl) (List.mem_of_getElem? (i := 1) rfl) (List.mem_of_getElem? (i := 2) rfl) (fun j hj => by rcases (show j = 0 ∨ j = 1 ∨ j = 2 ∨ j = 3 ∨ j = 4 ∨ j = 5 ∨ j = 6 by omega) with rfl | rfl | rfl | rfl | rfl | rfl | rfl <;> rfl) (Nat.le_of_ble_eq_true rfl) (Nat.le_of_ble_eq_true rfl) dL_law_0 (fun q9 => ?_)
  refine y_dup hC dL_law_3 rfl ?_
  refine y_callI hC hY (ci_X9 g) gL_law_X9_init rfl rfl rfl (List.mem_of_getElem? (i := 4) rfl) (List.mem_of_getElem? (i := 2) rfl) (List.mem_of_getElem? (i := 5) rfl) rfl ⟨by decide, by decide, by decide +kernel⟩ ⟨Nat.le_of_ble_eq_true rfl, Nat.le_of_ble_eq_true rfl⟩ ⟨Nat.le_of_ble_eq_true rfl, Nat.le_of_ble_eq_true rfl⟩ (Nat.le_of_ble_eq_true rfl) rfl (y_ndR _) dL_law_4 (fun u9 h9 => ?_)
  refine y_astore_n (i := 1) (ls' := [(1, .ref q9), (0, .ref b)]) hC dL_law_7 rfl (by decide) rfl ?_
  refine y_bipush (v := 8) hC dL_law_8 (by decide) ?_
  refine y_newa (t := 0) (N := 8) (ty := .int) hC hY (List.mem_of_getElem? (i := 3) rfl) rfl rfl (by simp) rfl (by decide) (Nat.le_of_ble_eq_true rfl) (Nat.le_of_ble_eq_true rfl) dL_law_10 (fun m1 => ?_)
  refine y_astore_n (i := 2) (ls' := [(2, .ref m1), (1, .ref q9), (0, .ref b)]) hC dL_law_12 rfl (by decide) rfl ?_
  refine y_bipush (v := 48) hC dL_law_13 (by decide) ?_
  refine y_newa (t := 0) (N := 48) (ty := .int) hC hY (List.mem_of_getElem? (i := 3) rfl) rfl rfl (by simp) rfl (by decide) (Nat.le_of_ble_eq_true rfl) (Nat.le_of_ble_eq_true rfl) dL_law_15 (fun m2 => ?_)
  refine y_astore_n (i := 3) (ls' := [(3, .ref m2), (2, .ref m1), (1, .ref q9), (0, .ref b)]) hC dL_law_17 rfl (by decide) rfl ?_
  refine y_bipush (v := 64) hC dL_law_18 (by decide) ?_
  refine y_newa (t := 0) (N := 64) (ty := .int) hC hY (List.mem_of_getElem? (i := 3) rfl) rfl rfl (by simp) rfl (by decide) (Nat.le_of_ble_eq_true rfl) (Nat.le_of_ble_eq_true rfl) dL_law_20 (fun m3 => ?_)
  refine y_astore (i := 4) (ls' := [(4, .ref m3), (3, .ref m2), (2, .ref m1), (1, .ref q9), (0, .ref b)]) hC dL_law_22 (by decide) rfl ?_
  refine y_bipush (v := 20) hC dL_law_24 (by decide) ?_
  refine y_newa (t := 0) (N := 20) (ty := .int) hC hY (List.mem_of_getElem? (i := 3) rfl) rfl rfl (by simp) rfl (by decide) (Nat.le_of_ble_eq_true rfl) (Nat.le_of_ble_eq_true rfl) dL_law_26 (fun m4 => ?_)
  refine y_astore (i := 5) (ls' := [(5, .ref m4), (4, .ref m3), (3, .ref m2), (2, .ref m1), (1, .ref q9), (0, .ref b)]) hC dL_law_28 (by decide) rfl ?_
  refine y_bipush (v := 12) hC dL_law_30 (by decide) ?_
  refine y_newa (t := 0) (N := 12) (ty := .int) hC hY (List.mem_of_getElem? (i := 3) rfl) rfl rfl (by simp) rfl (by decide) (Nat.le_of_ble_eq_true rfl) (Nat.le_of_ble_eq_true rfl) dL_law_32 (fun m5 => ?_)
  refine y_astore (i := 6) (ls' := [(6, .ref m5), (5, .ref m4), (4, .ref m3), (3, .ref m2), (2, .ref m1), (1, .ref q9), (0, .ref b)]) hC dL_law_34 (by decide) rfl ?_
  refine y_bipush (v := 12) hC dL_law_36 (by decide) ?_
  refine y_newa (t := 0) (N := 12) (ty := .int) hC hY (List.mem_of_getElem? (i := 3) rfl) rfl rfl (by simp) rfl (by decide) (Nat.le_of_ble_eq_true rfl) (Nat.le_of_ble_eq_true rfl) dL_law_38 (fun m6 => ?_)
  refine y_astore (i := 7) (ls' := [(7, .ref m6), (6, .ref m5), (5, .ref m4), (4, .ref m3), (3, .ref m2), (2, .ref m1), (1, .ref q9), (0, .ref b)]) hC dL_law_40 (by decide) rfl ?_
  refine y_bipush (v := 8) hC dL_law_42 (by decide) ?_
  refine y_newa (t := 0) (N := 8) (ty := .int) hC hY (List.mem_of_getElem? (i := 3) rfl) rfl rfl (by simp) rfl (by decide) (Nat.le_of_ble_eq_true rfl) (Nat.le_of_ble_eq_true rfl) dL_law_44 (fun m7 => ?_)
  refine y_astore (i := 8) (ls' := [(8, .ref m7), (7, .ref m6), (6, .ref m5), (5, .ref m4), (4, .ref m3), (3, .ref m2), (2, .ref m1), (1, .ref q9), (0, .ref b)]) hC dL_law_46 (by decide) rfl ?_
  refine y_bipush (v := 48) hC dL_law_48 (by decide) ?_
  refine y_newa (t := 0) (N := 48) (ty := .int) hC hY (List.mem_of_getElem? (i := 3) rfl) rfl rfl (by simp) rfl (by decide) (Nat.le_of_ble_eq_true rfl) (Nat.le_of_ble_eq_true rfl) dL_law_50 (fun m8 => ?_)
  refine y_astore (i := 9) (ls' := [(9, .ref m8), (8, .ref m7), (7, .ref m6), (6, .ref m5), (5, .ref m4), (4, .ref m3), (3, .ref m2), (2, .ref m1), (1, .ref q9), (0, .ref b)]) hC dL_law_52 (by decide) rfl ?_
  refine y_bipush (v := 64) hC dL_law_54 (by decide) ?_
  refine y_newa (t := 0) (N := 64) (ty := .int) hC hY (List.mem_of_getElem? (i := 3) rfl) rfl rfl (by simp) rfl (by decide) (Nat.le_of_ble_eq_true rfl) (Nat.le_of_ble_eq_true rfl) dL_law_56 (fun m9 => ?_)
  refine y_astore (i := 10) (ls' := [(10, .ref m9), (9, .ref m8), (8, .ref m7), (7, .ref m6), (6, .ref m5), (5, .ref m4), (4, .ref m3), (3, .ref m2), (2, .ref m1), (1, .ref q9), (0, .ref b)]) hC dL_law_58 (by decide) rfl ?_
  refine y_bipush (v := 20) hC dL_law_60 (by decide) ?_
  refine y_newa (t := 0) (N := 20) (ty := .int) hC hY (List.mem_of_getElem? (i := 3) rfl) rfl rfl (by simp) rfl (by decide) (Nat.le_of_ble_eq_true rfl) (Nat.le_of_ble_eq_true rfl) dL_law_62 (fun m10 => ?_)
  refine y_astore (i := 11) (ls' := [(11, .ref m10), (10, .ref m9), (9, .ref m8), (8, .ref m7), (7, .ref m6), (6, .ref m5), (5, .ref m4), (4, .ref m3), (3, .ref m2), (2, .ref m1), (1, .ref q9), (0, .ref b)]) hC dL_law_64 (by decide) rfl ?_
  refine y_bipush (v := 12) hC dL_law_66 (by decide) ?_
  refine y_newa (t := 0) (N := 12) (ty := .int) hC hY (List.mem_of_getElem? (i := 3) rfl) rfl rfl (by simp) rfl (by decide) (Nat.le_of_ble_eq_true rfl) (Nat.le_of_ble_eq_true rfl) dL_law_68 (fun m11 => ?_)
  refine y_astore (i := 12) (ls' := [(12, .ref m11), (11, .ref m10), (10, .ref m9), (9, .ref m8), (8, .ref m7), (7, .ref m6), (6, .ref m5), (5, .ref m4), (4, .ref m3), (3, .ref m2), (2, .ref m1), (1, .ref q9), (0, .ref b)]) hC dL_law_70 (by decide) rfl ?_
  refine y_bipush (v := 12) hC dL_law_72 (by decide) ?_
  refine y_newa (t := 0) (N := 12) (ty := .int) hC hY (List.mem_of_getElem? (i := 3) rfl) rfl rfl (by simp) rfl (by decide) (Nat.le_of_ble_eq_true rfl) (Nat.le_of_ble_eq_true rfl) dL_law_74 (fun m12 => ?_)
  refine y_astore (i := 13) (ls' := [(13, .ref m12), (12, .ref m11), (11, .ref m10), (10, .ref m9), (9, .ref m8), (8, .ref m7), (7, .ref m6), (6, .ref m5), (5, .ref m4), (4, .ref m3), (3, .ref m2), (2, .ref m1), (1, .ref q9), (0, .ref b)]) hC dL_law_76 (by decide) rfl ?_
  refine y_iconst (v := 0) hC dL_law_78 (by decide) ?_
  refine y_istore (i := 14) (ls' := [(14, .int (nI 0)), (13, .ref m12), (12, .ref m11), (11, .ref m10), (10, .ref m9), (9, .ref m8), (8, .ref m7), (7, .ref m6), (6, .ref m5), (5, .ref m4), (4, .ref m3), (3, .ref m2), (2, .ref m1), (1, .ref q9), (0, .ref b)]) hC dL_law_79 (by decide) rfl ?_
  refine y_eq (w' := u9 ++ y_U g m1 m2 m3 m4 m5 m6 m7 m8 m9 m10 m11 m12) (by simp [y_U]) ?_
  exact kk q9 m1 m2 m3 m4 m5 m6 m7 m8 m9 m10 m11 m12 u9 h9
