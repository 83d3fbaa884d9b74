/-! the law's start: its two objects -/
variable {x : xX} {g : xG} {Q : State → Prop}
theorem y_u9 : ∀ w ∈ u_ws RX9 TX9 7, w ∈ wsL_law := by decide +kernel
theorem y_u10 : ∀ w ∈ u_ws RX10 TX10 12, w ∈ wsL_law := by decide +kernel
theorem lw_begin {b : Nat} (hC : x_cx x g room_1 code RL 4 wsL_law) (hY : y_new x g) (kk : ∀ (q9 q10 : Nat) (u9 u10 : va_W), wd_X9 g q9 u9 → wd_X10 g q10 u10 → y_W x g 4 Q (u9 ++ u10) 200 4834 18 [(3, .int (nI 0)), (2, .ref q10), (1, .ref q9), (0, .ref b)] []) : y_W x g 4 Q [] 0 0 0 [(0, .ref b)] [] := by
  refine y_newO (ci := 9) (fs := [.null, .null, .null, .null, .null, .null, .null]) hC hY rfl y_u9 tyX9 tyX9_ok (List.mem_of_getElem? (i := 0) rfl) (List.mem_of_getElem? (i := 1) rfl) (List.mem_of_getElem? (i := 2) rfl) (fun j hj => by rcases (show j = 0 ∨ j = 1 ∨ j = 2 ∨ j = 3 ∨ j = 4 ∨ j = 5 ∨ j = 6 by omega) with rfl | rfl | rfl | rfl | rfl | rfl | rfl <;> rfl) (Nat.le_of_ble_eq_true rfl) (Nat.le_of_ble_eq_true rfl) dL_law_0 (fun q9 => ?_)
  refine y_dup hC dL_law_3 rfl ?_
  refine y_callI hC hY (ci_X9 g) gL_law_X9_init rfl rfl rfl (List.mem_of_getElem? (i := 7) rfl) (List.mem_of_getElem? (i := 2) rfl) (List.mem_of_getElem? (i := 8) rfl) rfl ⟨by decide, by decide, by decide +kernel⟩ ⟨Nat.le_of_ble_eq_true rfl, Nat.le_of_ble_eq_true rfl⟩ ⟨Nat.le_of_ble_eq_true rfl, Nat.le_of_ble_eq_true rfl⟩ (Nat.le_of_ble_eq_true rfl) rfl (y_ndR _) dL_law_4 (fun u9 h9 => ?_)
  refine y_astore_n (i := 1) (ls' := [(1, .ref q9), (0, .ref b)]) hC dL_law_7 rfl (by decide) rfl ?_
  refine y_newO (ci := 10) (fs := [.null, .null, .null, .int 0, .null, .null, .null, .int 0, .int 0, .int 0, .int 0, .int 0]) hC hY rfl y_u10 tyX10 tyX10_ok (List.mem_of_getElem? (i := 3) rfl) (List.mem_of_getElem? (i := 4) rfl) (List.mem_of_getElem? (i := 5) rfl) (fun j hj => by rcases (show j = 0 ∨ j = 1 ∨ j = 2 ∨ j = 3 ∨ j = 4 ∨ j = 5 ∨ j = 6 ∨ j = 7 ∨ j = 8 ∨ j = 9 ∨ j = 10 ∨ j = 11 by omega) with rfl | rfl | rfl | rfl | rfl | rfl | rfl | rfl | rfl | rfl | rfl | rfl <;> rfl) (Nat.le_of_ble_eq_true rfl) (Nat.le_of_ble_eq_true rfl) dL_law_8 (fun q10 => ?_)
  refine y_dup hC dL_law_11 rfl ?_
  refine y_callI hC hY (ci_X10 g) gL_law_X10_init rfl rfl rfl (List.mem_of_getElem? (i := 104) rfl) (List.mem_of_getElem? (i := 5) rfl) (List.mem_of_getElem? (i := 105) rfl) rfl ⟨by decide, by decide, by decide +kernel⟩ ⟨Nat.le_of_ble_eq_true rfl, Nat.le_of_ble_eq_true rfl⟩ ⟨Nat.le_of_ble_eq_true rfl, Nat.le_of_ble_eq_true rfl⟩ (Nat.le_of_ble_eq_true rfl) rfl (y_ndR _) dL_law_12 (fun u10 h10 => ?_)
  refine y_astore_n (i := 2) (ls' := [(2, .ref q10), (1, .ref q9), (0, .ref b)]) hC dL_law_15 rfl (by decide) rfl ?_
  refine y_iconst (v := 0) hC dL_law_16 (by decide) ?_
  refine y_istore_n (i := 3) (ls' := [(3, .int (nI 0)), (2, .ref q10), (1, .ref q9), (0, .ref b)]) hC dL_law_17 rfl (by decide) rfl ?_
  exact kk q9 q10 u9 u10 h9 h10
