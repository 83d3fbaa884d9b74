/-! the class's constructor -/
def y_hil (g : xG) (hq qa : Nat) (a0 a1 a2 a3 a4 a5 : Nat → Nat) : va_W := (hq, .inr (1, [.ref qa, .int 0, .int 0])) :: (qa, .inl (x_k g 3, 6, .inr (.inr (.inr (.inr (va_up (va_up (va_up (va_up (va_up (va_up (fun _ => none) 0 (some (a0 0))) 1 (some (a1 0))) 2 (some (a2 0))) 3 (some (a3 0))) 4 (some (a4 0))) 5 (some (a5 0)))))))) :: (((((([] ++ y_evl g a0) ++ y_evl g a1) ++ y_evl g a2) ++ y_evl g a3) ++ y_evl g a4) ++ y_evl g a5)
def rmi_X9 : Room := { frames := 4, cells := 192, slots := 2363, locals := 160 }
def wd_X9 (g : xG) : Nat → va_W → Prop := fun h0 u => ∃ (qh qa qs qb qp p1 qr r1 r2 r3 qw w1 : Nat) (e0 a0 a1 a2 a3 a4 a5 s0 s1 : Nat → Nat), u = (h0, .inr (9, [.ref (e0 0), .ref qh, .ref qs, .ref qb, .ref qp, .ref qr, .ref qw])) :: ((((((((y_evl g e0 ++ y_hil g qh qa a0 a1 a2 a3 a4 a5) ++ [(qs, .inl (x_k g 3, 2, .inr (.inr (.inr (.inr (va_up (va_up (fun _ => none) 0 (some (s0 0))) 1 (some (s1 0))))))))]) ++ y_evl g s0) ++ y_evl g s1) ++ [(qb, .inl (x_k g 1, 2, .inl (fun _ => 0)))]) ++ [(qp, .inr (2, [.ref p1, .int 0])), (p1, .inl (x_k g 2, 60, .inl (fun _ => 0)))]) ++ [(qr, .inr (3, [.ref r1, .ref r2, .ref r3, .int 0, .int 0])), (r1, .inl (x_k g 0, 15, .inl (fun _ => 0))), (r2, .inl (x_k g 0, 15, .inl (fun _ => 0))), (r3, .inl (x_k g 0, 15, .inl (fun _ => 0)))]) ++ [(qw, .inr (5, [.ref w1, .int 0, .int 0])), (w1, .inl (x_k g 0, 12, .inl (fun _ => 0)))])
theorem ci_X9 (g : xG) : y_MV g yX9_init wsX9_init rmi_X9 9 [.null, .null, .null, .null, .null, .null, .null] 192 2363 (wd_X9 g) := by
  refine y_start (cc := cX9_init) (n := 2) (own := RX9) (by decide) rfl rfl rfl (by decide) (fun h0 sz x hC hr hY hM => ?_)
  refine y_aload_n (i := 0) (q := 0) hC dX9_init_0 rfl rfl ?_
  refine y_objInit hC (List.mem_of_getElem? (i := 1) rfl) (List.mem_of_getElem? (i := 2) rfl) (List.mem_of_getElem? (i := 3) rfl) (by decide) (by decide) dX9_init_1 ?_
  refine y_aload_n (i := 0) (q := 0) hC dX9_init_4 rfl rfl ?_
  refine y_newO (ci := 0) (fs := [.null, .null, .null, .null, .int 0, .int 0]) hC hY rfl (by decide +kernel) tyX0 tyX0_ok (by decide +kernel) (by decide +kernel) (by decide +kernel) (fun j hj => by rcases (show j = 0 ∨ j = 1 ∨ j = 2 ∨ j = 3 ∨ j = 4 ∨ j = 5 by omega) with rfl | rfl | rfl | rfl | rfl | rfl <;> rfl) (Nat.le_of_ble_eq_true rfl) (Nat.le_of_ble_eq_true rfl) dX9_init_5 (fun qe => ?_)
  refine y_dup hC dX9_init_8 rfl ?_
  refine y_callN (host := RX9) hC hY (ci_X0 _) gX9_init_X0_init_n11 rfl rfl rfl (by decide +kernel) (by decide +kernel) (by decide +kernel) rfl ⟨by decide, by decide, by decide +kernel⟩ ⟨Nat.le_of_ble_eq_true rfl, Nat.le_of_ble_eq_true rfl⟩ ⟨Nat.le_of_ble_eq_true rfl, Nat.le_of_ble_eq_true rfl⟩ (Nat.le_of_ble_eq_true rfl) rfl (y_ndR _) dX9_init_9 (fun u hu => ?_)
  obtain ⟨e0, rfl, rfl⟩ := hu
  refine y_putF (q0 := 0) (ci := 9) (k := 0) (q := (RX9, TX9, 7)) hC hM rfl rfl (by decide +kernel) rfl rfl rfl rfl rfl (Nat.le_of_ble_eq_true rfl) dX9_init_12 ?_
  refine y_eq (w' := (h0, .inr (9, [.ref (e0 0), .null, .null, .null, .null, .null, .null])) :: y_evl g e0) rfl ?_
  refine y_aload_n (i := 0) (q := 0) hC dX9_init_15 rfl rfl ?_
  refine y_newO (ci := 1) (fs := [.null, .int 0, .int 0]) hC hY rfl (by decide +kernel) tyX1 tyX1_ok (by decide +kernel) (by decide +kernel) (by decide +kernel) (fun j hj => by rcases (show j = 0 ∨ j = 1 ∨ j = 2 by omega) with rfl | rfl | rfl <;> rfl) (Nat.le_of_ble_eq_true rfl) (Nat.le_of_ble_eq_true rfl) dX9_init_16 (fun qh => ?_)
  refine y_dup hC dX9_init_19 rfl ?_
  refine y_callI hC hY (ci_X1 _) gX9_init_X1_init rfl rfl rfl (by decide +kernel) (by decide +kernel) (by decide +kernel) rfl ⟨by decide, by decide, by decide +kernel⟩ ⟨Nat.le_of_ble_eq_true rfl, Nat.le_of_ble_eq_true rfl⟩ ⟨Nat.le_of_ble_eq_true rfl, Nat.le_of_ble_eq_true rfl⟩ (Nat.le_of_ble_eq_true rfl) rfl (y_ndR _) dX9_init_20 (fun u hu => ?_)
  obtain ⟨qa, a0, a1, a2, a3, a4, a5, rfl⟩ := hu
  refine y_putF (q0 := 0) (ci := 9) (k := 1) (q := (RX9, TX9, 7)) hC hM rfl rfl (by decide +kernel) rfl rfl rfl rfl rfl (Nat.le_of_ble_eq_true rfl) dX9_init_23 ?_
  refine y_eq (w' := (h0, .inr (9, [.ref (e0 0), .ref qh, .null, .null, .null, .null, .null])) :: (y_evl g e0 ++ y_hil g qh qa a0 a1 a2 a3 a4 a5)) rfl ?_
  refine y_aload_n (i := 0) (q := 0) hC dX9_init_26 rfl rfl ?_
  refine y_iconst (v := 2) hC dX9_init_27 (by decide) ?_
  refine y_anew (N := 2) hC hY (by decide +kernel) rfl (by decide) (Nat.le_of_ble_eq_true rfl) (Nat.le_of_ble_eq_true rfl) dX9_init_28 (fun qs => ?_)
  refine y_putF (q0 := 0) (ci := 9) (k := 2) (q := (RX9, TX9, 7)) hC hM rfl rfl (by decide +kernel) rfl rfl rfl rfl rfl (Nat.le_of_ble_eq_true rfl) dX9_init_31 ?_
  refine y_eq (w' := (h0, .inr (9, [.ref (e0 0), .ref qh, .ref qs, .null, .null, .null, .null])) :: ((y_evl g e0 ++ y_hil g qh qa a0 a1 a2 a3 a4 a5) ++ [(qs, .inl (x_k g 3, 2, .inr (.inr (.inr (.inr (fun _ => none))))))])) rfl ?_
  refine y_iconst (v := 0) hC dX9_init_34 (by decide) ?_
  refine y_istore_n (i := 1) (ls' := [(1, .int (nI 0)), (0, .ref h0)]) hC dX9_init_35 rfl (by decide) rfl ?_
  refine y_iload_n (i := 1) (q := 0) hC dX9_init_36 rfl rfl ?_
  refine y_iconst (v := 2) hC dX9_init_37 (by decide) ?_
  refine y_icmp_ge (t := 60) hC dX9_init_38 (by decide) (fun h => absurd h (by decide)) (fun _ => ?_)
  refine y_aload_n (i := 0) (q := 1) hC dX9_init_41 rfl rfl ?_
  refine y_get (q0 := 0) (ci := 9) (k := 2) (q := (RX9, TX9, 7)) hC rfl rfl (by decide +kernel) rfl dX9_init_42 ?_
  refine y_iload_n (i := 1) (q := 0) hC dX9_init_45 rfl rfl ?_
  refine y_newO (ci := 0) (fs := [.null, .null, .null, .null, .int 0, .int 0]) hC hY rfl (by decide +kernel) tyX0 tyX0_ok (by decide +kernel) (by decide +kernel) (by decide +kernel) (fun j hj => by rcases (show j = 0 ∨ j = 1 ∨ j = 2 ∨ j = 3 ∨ j = 4 ∨ j = 5 by omega) with rfl | rfl | rfl | rfl | rfl | rfl <;> rfl) (Nat.le_of_ble_eq_true rfl) (Nat.le_of_ble_eq_true rfl) dX9_init_46 (fun qv0 => ?_)
  refine y_dup hC dX9_init_49 rfl ?_
  refine y_callN (host := RX9) hC hY (ci_X0 _) gX9_init_X0_init_n11 rfl rfl rfl (by decide +kernel) (by decide +kernel) (by decide +kernel) rfl ⟨by decide, by decide, by decide +kernel⟩ ⟨Nat.le_of_ble_eq_true rfl, Nat.le_of_ble_eq_true rfl⟩ ⟨Nat.le_of_ble_eq_true rfl, Nat.le_of_ble_eq_true rfl⟩ (Nat.le_of_ble_eq_true rfl) rfl (y_ndR _) dX9_init_50 (fun u hu => ?_)
  obtain ⟨s0, rfl, rfl⟩ := hu
  refine y_astq (q0 := 143) (qk := 144) (N := 2) (f := fun _ => none) (vs := [.ref (s0 1), .ref (s0 6), .ref (s0 11), .ref (s0 15), .int 0, .int 0]) hC rfl rfl (x_vi (n := 0) (by omega) (by omega)) dX9_init_53 ?_
  refine y_eq (w' := (h0, .inr (9, [.ref (e0 0), .ref qh, .ref qs, .null, .null, .null, .null])) :: (((y_evl g e0 ++ y_hil g qh qa a0 a1 a2 a3 a4 a5) ++ [(qs, .inl (x_k g 3, 2, .inr (.inr (.inr (.inr (va_up (fun _ => none) 0 (some (s0 0))))))))]) ++ y_evl g s0)) rfl ?_
  refine y_iinc (k := 0) (v' := nI 1) (ls' := [(1, .int (nI 1)), (0, .ref h0)]) hC dX9_init_54 rfl (nI_1 0) (by decide) rfl ?_
  refine y_goto (t := 36) hC dX9_init_57 (by decide) ?_
  refine y_iload_n (i := 1) (q := 0) hC dX9_init_36 rfl rfl ?_
  refine y_iconst (v := 2) hC dX9_init_37 (by decide) ?_
  refine y_icmp_ge (t := 60) hC dX9_init_38 (by decide) (fun h => absurd h (by decide)) (fun _ => ?_)
  refine y_aload_n (i := 0) (q := 1) hC dX9_init_41 rfl rfl ?_
  refine y_get (q0 := 0) (ci := 9) (k := 2) (q := (RX9, TX9, 7)) hC rfl rfl (by decide +kernel) rfl dX9_init_42 ?_
  refine y_iload_n (i := 1) (q := 0) hC dX9_init_45 rfl rfl ?_
  refine y_newO (ci := 0) (fs := [.null, .null, .null, .null, .int 0, .int 0]) hC hY rfl (by decide +kernel) tyX0 tyX0_ok (by decide +kernel) (by decide +kernel) (by decide +kernel) (fun j hj => by rcases (show j = 0 ∨ j = 1 ∨ j = 2 ∨ j = 3 ∨ j = 4 ∨ j = 5 by omega) with rfl | rfl | rfl | rfl | rfl | rfl <;> rfl) (Nat.le_of_ble_eq_true rfl) (Nat.le_of_ble_eq_true rfl) dX9_init_46 (fun qv1 => ?_)
  refine y_dup hC dX9_init_49 rfl ?_
  refine y_callN (host := RX9) hC hY (ci_X0 _) gX9_init_X0_init_n11 rfl rfl rfl (by decide +kernel) (by decide +kernel) (by decide +kernel) rfl ⟨by decide, by decide, by decide +kernel⟩ ⟨Nat.le_of_ble_eq_true rfl, Nat.le_of_ble_eq_true rfl⟩ ⟨Nat.le_of_ble_eq_true rfl, Nat.le_of_ble_eq_true rfl⟩ (Nat.le_of_ble_eq_true rfl) rfl (y_ndR _) dX9_init_50 (fun u hu => ?_)
  obtain ⟨s1, rfl, rfl⟩ := hu
  refine y_astq (q0 := 143) (qk := 164) (N := 2) (f := va_up (fun _ => none) 0 (some (s0 0))) (vs := [.ref (s1 1), .ref (s1 6), .ref (s1 11), .ref (s1 15), .int 0, .int 0]) hC rfl rfl (x_vi (n := 1) (by omega) (by omega)) dX9_init_53 ?_
  refine y_eq (w' := (h0, .inr (9, [.ref (e0 0), .ref qh, .ref qs, .null, .null, .null, .null])) :: ((((y_evl g e0 ++ y_hil g qh qa a0 a1 a2 a3 a4 a5) ++ [(qs, .inl (x_k g 3, 2, .inr (.inr (.inr (.inr (va_up (va_up (fun _ => none) 0 (some (s0 0))) 1 (some (s1 0))))))))]) ++ y_evl g s0) ++ y_evl g s1)) rfl ?_
  refine y_iinc (k := 0) (v' := nI 2) (ls' := [(1, .int (nI 2)), (0, .ref h0)]) hC dX9_init_54 rfl (nI_1 1) (by decide) rfl ?_
  refine y_goto (t := 36) hC dX9_init_57 (by decide) ?_
  refine y_iload_n (i := 1) (q := 0) hC dX9_init_36 rfl rfl ?_
  refine y_iconst (v := 2) hC dX9_init_37 (by decide) ?_
  refine y_icmp_ge (t := 60) hC dX9_init_38 (by decide) (fun _ => ?_) (fun h => absurd (by decide) h)
  refine y_aload_n (i := 0) (q := 1) hC dX9_init_60 rfl rfl ?_
  refine y_iconst (v := 2) hC dX9_init_61 (by decide) ?_
  refine y_newa (t := 1) (N := 2) (ty := .boolean) hC hY (by decide +kernel) rfl rfl (by simp) rfl (by decide) (Nat.le_of_ble_eq_true rfl) (Nat.le_of_ble_eq_true rfl) dX9_init_62 (fun qb => ?_)
  refine y_putF (q0 := 0) (ci := 9) (k := 3) (q := (RX9, TX9, 7)) hC hM rfl rfl (by decide +kernel) rfl rfl rfl rfl rfl (Nat.le_of_ble_eq_true rfl) dX9_init_64 ?_
  refine y_eq (w' := (h0, .inr (9, [.ref (e0 0), .ref qh, .ref qs, .ref qb, .null, .null, .null])) :: (((((y_evl g e0 ++ y_hil g qh qa a0 a1 a2 a3 a4 a5) ++ [(qs, .inl (x_k g 3, 2, .inr (.inr (.inr (.inr (va_up (va_up (fun _ => none) 0 (some (s0 0))) 1 (some (s1 0))))))))]) ++ y_evl g s0) ++ y_evl g s1) ++ [(qb, .inl (x_k g 1, 2, .inl (fun _ => 0)))])) rfl ?_
  refine y_aload_n (i := 0) (q := 1) hC dX9_init_67 rfl rfl ?_
  refine y_newO (ci := 2) (fs := [.null, .int 0]) hC hY rfl (by decide +kernel) tyX2 tyX2_ok (by decide +kernel) (by decide +kernel) (by decide +kernel) (fun j hj => by rcases (show j = 0 ∨ j = 1 by omega) with rfl | rfl <;> rfl) (Nat.le_of_ble_eq_true rfl) (Nat.le_of_ble_eq_true rfl) dX9_init_68 (fun qp => ?_)
  refine y_dup hC dX9_init_71 rfl ?_
  refine y_callN (host := RX9) hC hY (ci_X2 _) gX9_init_X2_init_n33 rfl rfl rfl (by decide +kernel) (by decide +kernel) (by decide +kernel) rfl ⟨by decide, by decide, by decide +kernel⟩ ⟨Nat.le_of_ble_eq_true rfl, Nat.le_of_ble_eq_true rfl⟩ ⟨Nat.le_of_ble_eq_true rfl, Nat.le_of_ble_eq_true rfl⟩ (Nat.le_of_ble_eq_true rfl) rfl (y_ndR _) dX9_init_72 (fun u hu => ?_)
  obtain ⟨p1, rfl⟩ := hu
  refine y_putF (q0 := 0) (ci := 9) (k := 4) (q := (RX9, TX9, 7)) hC hM rfl rfl (by decide +kernel) rfl rfl rfl rfl rfl (Nat.le_of_ble_eq_true rfl) dX9_init_75 ?_
  refine y_eq (w' := (h0, .inr (9, [.ref (e0 0), .ref qh, .ref qs, .ref qb, .ref qp, .null, .null])) :: ((((((y_evl g e0 ++ y_hil g qh qa a0 a1 a2 a3 a4 a5) ++ [(qs, .inl (x_k g 3, 2, .inr (.inr (.inr (.inr (va_up (va_up (fun _ => none) 0 (some (s0 0))) 1 (some (s1 0))))))))]) ++ y_evl g s0) ++ y_evl g s1) ++ [(qb, .inl (x_k g 1, 2, .inl (fun _ => 0)))]) ++ [(qp, .inr (2, [.ref p1, .int 0])), (p1, .inl (x_k g 2, 60, .inl (fun _ => 0)))])) rfl ?_
  refine y_aload_n (i := 0) (q := 1) hC dX9_init_78 rfl rfl ?_
  refine y_newO (ci := 3) (fs := [.null, .null, .null, .int 0, .int 0]) hC hY rfl (by decide +kernel) tyX3 tyX3_ok (by decide +kernel) (by decide +kernel) (by decide +kernel) (fun j hj => by rcases (show j = 0 ∨ j = 1 ∨ j = 2 ∨ j = 3 ∨ j = 4 by omega) with rfl | rfl | rfl | rfl | rfl <;> rfl) (Nat.le_of_ble_eq_true rfl) (Nat.le_of_ble_eq_true rfl) dX9_init_79 (fun qr => ?_)
  refine y_dup hC dX9_init_82 rfl ?_
  refine y_callN (host := RX9) hC hY (ci_X3 _) gX9_init_X3_init_n40 rfl rfl rfl (by decide +kernel) (by decide +kernel) (by decide +kernel) rfl ⟨by decide, by decide, by decide +kernel⟩ ⟨Nat.le_of_ble_eq_true rfl, Nat.le_of_ble_eq_true rfl⟩ ⟨Nat.le_of_ble_eq_true rfl, Nat.le_of_ble_eq_true rfl⟩ (Nat.le_of_ble_eq_true rfl) rfl (y_ndR _) dX9_init_83 (fun u hu => ?_)
  obtain ⟨r1, r2, r3, rfl⟩ := hu
  refine y_putF (q0 := 0) (ci := 9) (k := 5) (q := (RX9, TX9, 7)) hC hM rfl rfl (by decide +kernel) rfl rfl rfl rfl rfl (Nat.le_of_ble_eq_true rfl) dX9_init_86 ?_
  refine y_eq (w' := (h0, .inr (9, [.ref (e0 0), .ref qh, .ref qs, .ref qb, .ref qp, .ref qr, .null])) :: (((((((y_evl g e0 ++ y_hil g qh qa a0 a1 a2 a3 a4 a5) ++ [(qs, .inl (x_k g 3, 2, .inr (.inr (.inr (.inr (va_up (va_up (fun _ => none) 0 (some (s0 0))) 1 (some (s1 0))))))))]) ++ y_evl g s0) ++ y_evl g s1) ++ [(qb, .inl (x_k g 1, 2, .inl (fun _ => 0)))]) ++ [(qp, .inr (2, [.ref p1, .int 0])), (p1, .inl (x_k g 2, 60, .inl (fun _ => 0)))]) ++ [(qr, .inr (3, [.ref r1, .ref r2, .ref r3, .int 0, .int 0])), (r1, .inl (x_k g 0, 15, .inl (fun _ => 0))), (r2, .inl (x_k g 0, 15, .inl (fun _ => 0))), (r3, .inl (x_k g 0, 15, .inl (fun _ => 0)))])) rfl ?_
  refine y_aload_n (i := 0) (q := 1) hC dX9_init_89 rfl rfl ?_
  refine y_newO (ci := 5) (fs := [.null, .int 0, .int 0]) hC hY rfl (by decide +kernel) tyX5 tyX5_ok (by decide +kernel) (by decide +kernel) (by decide +kernel) (fun j hj => by rcases (show j = 0 ∨ j = 1 ∨ j = 2 by omega) with rfl | rfl | rfl <;> rfl) (Nat.le_of_ble_eq_true rfl) (Nat.le_of_ble_eq_true rfl) dX9_init_90 (fun qw => ?_)
  refine y_dup hC dX9_init_93 rfl ?_
  refine y_callN (host := RX9) hC hY (ci_X5 _) gX9_init_X5_init_n47 rfl rfl rfl (by decide +kernel) (by decide +kernel) (by decide +kernel) rfl ⟨by decide, by decide, by decide +kernel⟩ ⟨Nat.le_of_ble_eq_true rfl, Nat.le_of_ble_eq_true rfl⟩ ⟨Nat.le_of_ble_eq_true rfl, Nat.le_of_ble_eq_true rfl⟩ (Nat.le_of_ble_eq_true rfl) rfl (y_ndR _) dX9_init_94 (fun u hu => ?_)
  obtain ⟨w1, rfl⟩ := hu
  refine y_putF (q0 := 0) (ci := 9) (k := 6) (q := (RX9, TX9, 7)) hC hM rfl rfl (by decide +kernel) rfl rfl rfl rfl rfl (Nat.le_of_ble_eq_true rfl) dX9_init_97 ?_
  refine y_eq (w' := (h0, .inr (9, [.ref (e0 0), .ref qh, .ref qs, .ref qb, .ref qp, .ref qr, .ref qw])) :: ((((((((y_evl g e0 ++ y_hil g qh qa a0 a1 a2 a3 a4 a5) ++ [(qs, .inl (x_k g 3, 2, .inr (.inr (.inr (.inr (va_up (va_up (fun _ => none) 0 (some (s0 0))) 1 (some (s1 0))))))))]) ++ y_evl g s0) ++ y_evl g s1) ++ [(qb, .inl (x_k g 1, 2, .inl (fun _ => 0)))]) ++ [(qp, .inr (2, [.ref p1, .int 0])), (p1, .inl (x_k g 2, 60, .inl (fun _ => 0)))]) ++ [(qr, .inr (3, [.ref r1, .ref r2, .ref r3, .int 0, .int 0])), (r1, .inl (x_k g 0, 15, .inl (fun _ => 0))), (r2, .inl (x_k g 0, 15, .inl (fun _ => 0))), (r3, .inl (x_k g 0, 15, .inl (fun _ => 0)))]) ++ [(qw, .inr (5, [.ref w1, .int 0, .int 0])), (w1, .inl (x_k g 0, 12, .inl (fun _ => 0)))])) rfl ?_
  exact y_vret hC hr dX9_init_100 ⟨qh, qa, qs, qb, qp, p1, qr, r1, r2, r3, qw, w1, e0, a0, a1, a2, a3, a4, a5, s0, s1, rfl⟩
