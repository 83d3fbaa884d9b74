def vc_L_law_1 (g : xG) (v14 : Int32) (M : xM) (K1 : Int32 → xM → Prop) (K2 : Int32 → Int32 → Int32 → Int32 → xM → Prop) (K3 : Int32 → Int32 → Int32 → xM → Prop) (K4 : Int32 → Int32 → Int32 → xM → Prop) (K5 : Int32 → Int32 → xM → Prop) (K6 : Int32 → Int32 → xM → Prop) (K7 : Int32 → Int32 → Int32 → Int32 → xM → Prop) (K8 : Int32 → Int32 → xM → Prop) (K9 : Int32 → Int32 → Int32 → Int32 → Int32 → xM → Prop) (K10 : Int32 → Int32 → xM → Prop) : Prop := (((30 : Int32) ≤ v14 → True) ∧ (¬ ((30 : Int32) ≤ v14) → (vp_in v14 30 ∧ ∀ r1 : Int32, (∃ J2 : Int32 → xM → Prop, (((5 : Int32) ≤ v14 → (mi_L_low g r1 (12 : Int32) M (fun r9 N10 => J2 r9 N10))) ∧ (¬ ((5 : Int32) ≤ v14) → J2 (v14 - v14 / (2 : Int32) * (2 : Int32)) M)) ∧ (∀ (j3 : Int32) (N4 : xM), J2 j3 N4 → (((2 : Int32) ≤ j3 → (((8 : Int32) ≤ j3 → ((¬ j3 = (8 : Int32) → ((¬ j3 = (9 : Int32) → K8 v14 r1 N4) ∧ (j3 = (9 : Int32) → (vp_in (2 : Int32) 8 ∧ (((N4 193 ((2 : Int32)).toNatClampNeg) ≤ 0 → K8 v14 r1 N4) ∧ (¬ ((N4 193 ((2 : Int32)).toNatClampNeg) ≤ 0) → K6 v14 r1 N4)))))) ∧ (j3 = (8 : Int32) → K5 v14 r1 N4))) ∧ (¬ ((8 : Int32) ≤ j3) → K4 v14 r1 (0 : Int32) N4))) ∧ (¬ ((2 : Int32) ≤ j3) → (mi_L_low g (r1 >>> ((4 : Int32) &&& 31)) (30 : Int32) N4 (fun r5 N6 => (mi_L_low g (r1 >>> ((9 : Int32) &&& 31)) (31 : Int32) N6 (fun r7 N8 => ((¬ j3 = 0 → K3 v14 r1 r5 N8) ∧ (j3 = 0 → K2 v14 r1 r5 (r5 + r7) N8)))))))))))))
def vc_L_law_2 (g : xG) (v14 : Int32) (v15 : Int32) (v17 : Int32) (v18 : Int32) (M : xM) (K1 : Int32 → xM → Prop) (K2 : Int32 → Int32 → Int32 → Int32 → xM → Prop) (K3 : Int32 → Int32 → Int32 → xM → Prop) (K4 : Int32 → Int32 → Int32 → xM → Prop) (K5 : Int32 → Int32 → xM → Prop) (K6 : Int32 → Int32 → xM → Prop) (K7 : Int32 → Int32 → Int32 → Int32 → xM → Prop) (K8 : Int32 → Int32 → xM → Prop) (K9 : Int32 → Int32 → Int32 → Int32 → Int32 → xM → Prop) (K10 : Int32 → Int32 → xM → Prop) : Prop := (mi_X9_singer g v17 v18 M (fun r74 N75 => (vp_in (0 : Int32) 8 ∧ (∃ J76 : Int32 → Prop, ((¬ (N75 193 ((0 : Int32)).toNatClampNeg) = (12 : Int32) → (vp_in (0 : Int32) 8 ∧ J76 (N75 193 ((0 : Int32)).toNatClampNeg))) ∧ ((N75 193 ((0 : Int32)).toNatClampNeg) = (12 : Int32) → J76 (-4 : Int32))) ∧ (∀ (j77 : Int32), J76 j77 → ((r74 = j77 → (vp_in (0 : Int32) 8 ∧ (((12 : Int32) ≤ (N75 193 ((0 : Int32)).toNatClampNeg) → K10 v14 v15 N75) ∧ (¬ ((12 : Int32) ≤ (N75 193 ((0 : Int32)).toNatClampNeg)) → (vp_in (0 : Int32) 8 ∧ (vp_in ((4 : Int32) * (N75 193 ((0 : Int32)).toNatClampNeg)) 48 ∧ (vp_in (0 : Int32) 8 ∧ (vp_in (((4 : Int32) * ((x_up N75 194 (((4 : Int32) * (N75 193 ((0 : Int32)).toNatClampNeg))).toNatClampNeg v17) 193 ((0 : Int32)).toNatClampNeg)) + (1 : Int32)) 48 ∧ (∀ N78 : xM, N78 = (x_up (x_up N75 194 (((4 : Int32) * (N75 193 ((0 : Int32)).toNatClampNeg))).toNatClampNeg v17) 194 ((((4 : Int32) * ((x_up N75 194 (((4 : Int32) * (N75 193 ((0 : Int32)).toNatClampNeg))).toNatClampNeg v17) 193 ((0 : Int32)).toNatClampNeg)) + (1 : Int32))).toNatClampNeg v18) → (vp_in (3 : Int32) 8 ∧ (vp_in (0 : Int32) 8 ∧ (vp_in (0 : Int32) 8 ∧ (vp_in (3 : Int32) 8 ∧ (∀ N79 : xM, N79 = (x_up (x_up N78 193 ((0 : Int32)).toNatClampNeg ((N78 193 ((0 : Int32)).toNatClampNeg) + (1 : Int32))) 193 ((3 : Int32)).toNatClampNeg ((N78 193 ((3 : Int32)).toNatClampNeg) ||| ((1 : Int32) <<< ((N78 193 ((0 : Int32)).toNatClampNeg) &&& 31)))) → K10 v14 v15 N79)))))))))))))) ∧ (¬ (r74 = j77) → False)))))))
def vc_L_law_3 (g : xG) (v14 : Int32) (v15 : Int32) (v17 : Int32) (M : xM) (K1 : Int32 → xM → Prop) (K2 : Int32 → Int32 → Int32 → Int32 → xM → Prop) (K3 : Int32 → Int32 → Int32 → xM → Prop) (K4 : Int32 → Int32 → Int32 → xM → Prop) (K5 : Int32 → Int32 → xM → Prop) (K6 : Int32 → Int32 → xM → Prop) (K7 : Int32 → Int32 → Int32 → Int32 → xM → Prop) (K8 : Int32 → Int32 → xM → Prop) (K9 : Int32 → Int32 → Int32 → Int32 → Int32 → xM → Prop) (K10 : Int32 → Int32 → xM → Prop) : Prop := (mi_L_low g (v15 >>> ((9 : Int32) &&& 31)) (20 : Int32) M (fun r64 N65 => (mi_L_low g (v15 >>> ((13 : Int32) &&& 31)) (9 : Int32) N65 (fun r66 N67 => (mi_X9_song g v17 (v17 + r64) ((1 : Int32) + r66) N67 (fun r68 N69 => (vp_in (1 : Int32) 8 ∧ (∃ J70 : Int32 → Prop, ((¬ (N69 193 ((1 : Int32)).toNatClampNeg) = (16 : Int32) → (vp_in (1 : Int32) 8 ∧ J70 (N69 193 ((1 : Int32)).toNatClampNeg))) ∧ ((N69 193 ((1 : Int32)).toNatClampNeg) = (16 : Int32) → J70 (-4 : Int32))) ∧ (∀ (j71 : Int32), J70 j71 → ((r68 = j71 → (vp_in (1 : Int32) 8 ∧ (((16 : Int32) ≤ (N69 193 ((1 : Int32)).toNatClampNeg) → K10 v14 v15 N69) ∧ (¬ ((16 : Int32) ≤ (N69 193 ((1 : Int32)).toNatClampNeg)) → (vp_in (1 : Int32) 8 ∧ (vp_in ((4 : Int32) * (N69 193 ((1 : Int32)).toNatClampNeg)) 64 ∧ (vp_in (1 : Int32) 8 ∧ (vp_in (((4 : Int32) * ((x_up N69 195 (((4 : Int32) * (N69 193 ((1 : Int32)).toNatClampNeg))).toNatClampNeg v17) 193 ((1 : Int32)).toNatClampNeg)) + (1 : Int32)) 64 ∧ (∀ N72 : xM, N72 = (x_up (x_up N69 195 (((4 : Int32) * (N69 193 ((1 : Int32)).toNatClampNeg))).toNatClampNeg v17) 195 ((((4 : Int32) * ((x_up N69 195 (((4 : Int32) * (N69 193 ((1 : Int32)).toNatClampNeg))).toNatClampNeg v17) 193 ((1 : Int32)).toNatClampNeg)) + (1 : Int32))).toNatClampNeg (v17 + r64)) → (vp_in (1 : Int32) 8 ∧ (vp_in (1 : Int32) 8 ∧ (vp_in (((4 : Int32) * (N72 193 ((1 : Int32)).toNatClampNeg)) + (2 : Int32)) 64 ∧ (∀ N73 : xM, N73 = (x_up (x_up N72 193 ((1 : Int32)).toNatClampNeg ((N72 193 ((1 : Int32)).toNatClampNeg) + (1 : Int32))) 195 ((((4 : Int32) * (N72 193 ((1 : Int32)).toNatClampNeg)) + (2 : Int32))).toNatClampNeg ((1 : Int32) + r66)) → K10 v14 v15 N73))))))))))))) ∧ (¬ (r68 = j71) → False)))))))))))
def vc_L_law_4 (g : xG) (v14 : Int32) (v15 : Int32) (v17 : Int32) (M : xM) (K1 : Int32 → xM → Prop) (K2 : Int32 → Int32 → Int32 → Int32 → xM → Prop) (K3 : Int32 → Int32 → Int32 → xM → Prop) (K4 : Int32 → Int32 → Int32 → xM → Prop) (K5 : Int32 → Int32 → xM → Prop) (K6 : Int32 → Int32 → xM → Prop) (K7 : Int32 → Int32 → Int32 → Int32 → xM → Prop) (K8 : Int32 → Int32 → xM → Prop) (K9 : Int32 → Int32 → Int32 → Int32 → Int32 → xM → Prop) (K10 : Int32 → Int32 → xM → Prop) : Prop := (((3 : Int32) ≤ v17 → K10 v14 v15 M) ∧ (¬ ((3 : Int32) ≤ v17) → (vp_in (0 : Int32) 8 ∧ (mi_L_low g (v15 >>> (((4 : Int32) + v17) &&& 31)) (M 193 ((0 : Int32)).toNatClampNeg) M (fun r34 N35 => (mi_L_low g (v15 >>> (((8 : Int32) + v17) &&& 31)) (2 : Int32) N35 (fun r36 N37 => (∃ J38 : Int32 → xM → Prop, ((¬ r36 = 0 → J38 (-1 : Int32) N37) ∧ (r36 = 0 → (vp_in (0 : Int32) 8 ∧ (mi_L_low g (v15 >>> (((9 : Int32) + v17) &&& 31)) (N37 193 ((0 : Int32)).toNatClampNeg) N37 (fun r62 N63 => J38 r62 N63))))) ∧ (∀ (j39 : Int32) (N40 : xM), J38 j39 N40 → (vp_in (1 : Int32) 8 ∧ (mi_L_low g (v15 >>> (((12 : Int32) + v17) &&& 31)) (N40 193 ((1 : Int32)).toNatClampNeg) N40 (fun r41 N42 => (∃ J43 : Int32 → xM → Prop, ((¬ r34 = j39 → (vp_in (2 : Int32) 8 ∧ ((¬ (N42 193 ((2 : Int32)).toNatClampNeg) = (20 : Int32) → (mi_L_key g r34 j39 r41 N42 (fun r60 N61 => ((0 ≤ r60 → (vp_in (2 : Int32) 8 ∧ J43 (N61 193 ((2 : Int32)).toNatClampNeg) N61)) ∧ (¬ (0 ≤ r60) → J43 (-5 : Int32) N61))))) ∧ ((N42 193 ((2 : Int32)).toNatClampNeg) = (20 : Int32) → J43 (-4 : Int32) N42)))) ∧ (r34 = j39 → J43 (-2 : Int32) N42)) ∧ (∀ (j44 : Int32) (N45 : xM), J43 j44 N45 → (∃ J46 : Int32 → Prop, ((0 ≤ j39 → J46 j39) ∧ (¬ (0 ≤ j39) → J46 (-6 : Int32))) ∧ (∀ (j47 : Int32), J46 j47 → (mi_X9_key g r34 j47 r41 N45 (fun r48 N49 => (∃ J50 : Int32 → xM → Prop, ((¬ r34 = j39 → (mi_L_key g r34 j39 r41 N49 (fun r58 N59 => J50 r58 N59))) ∧ (r34 = j39 → J50 (-2 : Int32) N49)) ∧ (∀ (j51 : Int32) (N52 : xM), J50 j51 N52 → ((¬ r48 = j51 → False) ∧ (r48 = j51 → (∃ J53 : Int32 → Prop, ((0 ≤ j39 → J53 j39) ∧ (¬ (0 ≤ j39) → J53 (-6 : Int32))) ∧ (∀ (j54 : Int32), J53 j54 → (mi_X9_wish g r34 j54 r41 N52 (fun r55 N56 => ((r55 = j44 → ((j44 < 0 → K4 v14 v15 (v17 + (1 : Int32)) N56) ∧ (¬ (j44 < 0) → (vp_in (2 : Int32) 8 ∧ (vp_in (2 : Int32) 8 ∧ (vp_in (N56 193 ((2 : Int32)).toNatClampNeg) 20 ∧ (∀ N57 : xM, N57 = (x_up (x_up N56 193 ((2 : Int32)).toNatClampNeg ((N56 193 ((2 : Int32)).toNatClampNeg) + (1 : Int32))) 196 ((N56 193 ((2 : Int32)).toNatClampNeg)).toNatClampNeg ((((10000 : Int32) * r41) + ((100 : Int32) * (j39 + (1 : Int32)))) + r34)) → K4 v14 v15 (v17 + (1 : Int32)) N57))))))) ∧ (¬ (r55 = j44) → False))))))))))))))))))))))))))))
def vc_L_law_5 (g : xG) (v14 : Int32) (v15 : Int32) (M : xM) (K1 : Int32 → xM → Prop) (K2 : Int32 → Int32 → Int32 → Int32 → xM → Prop) (K3 : Int32 → Int32 → Int32 → xM → Prop) (K4 : Int32 → Int32 → Int32 → xM → Prop) (K5 : Int32 → Int32 → xM → Prop) (K6 : Int32 → Int32 → xM → Prop) (K7 : Int32 → Int32 → Int32 → Int32 → xM → Prop) (K8 : Int32 → Int32 → xM → Prop) (K9 : Int32 → Int32 → Int32 → Int32 → Int32 → xM → Prop) (K10 : Int32 → Int32 → xM → Prop) : Prop := (vp_in (0 : Int32) 8 ∧ (mi_L_low g (v15 >>> ((4 : Int32) &&& 31)) (M 193 ((0 : Int32)).toNatClampNeg) M (fun r17 N18 => (mi_L_low g (v15 >>> ((8 : Int32) &&& 31)) (2 : Int32) N18 (fun r19 N20 => (∃ J21 : Int32 → Prop, ((¬ r19 = 0 → J21 (0 : Int32)) ∧ (r19 = 0 → J21 (1 : Int32))) ∧ (∀ (j22 : Int32), J21 j22 → (vp_in (3 : Int32) 8 ∧ (∃ J23 : Int32 → Prop, ((¬ (((N20 193 ((3 : Int32)).toNatClampNeg) >>> (r17 &&& 31)) &&& (1 : Int32)) = (1 : Int32) → J23 (0 : Int32)) ∧ ((((N20 193 ((3 : Int32)).toNatClampNeg) >>> (r17 &&& 31)) &&& (1 : Int32)) = (1 : Int32) → J23 (1 : Int32))) ∧ (∀ (j24 : Int32), J23 j24 → (∃ J25 : xM → Prop, ((¬ j24 = j22 → J25 N20) ∧ (j24 = j22 → (vp_in (3 : Int32) 8 ∧ (vp_in (3 : Int32) 8 ∧ J25 (x_up N20 193 ((3 : Int32)).toNatClampNeg ((N20 193 ((3 : Int32)).toNatClampNeg) ^^^ ((1 : Int32) <<< (r17 &&& 31)))))))) ∧ (∀ (N26 : xM), J25 N26 → (mi_X9_leave g r17 j22 N26 (fun r27 N28 => (∃ J29 : Int32 → xM → Prop, ((¬ j24 = j22 → J29 (-5 : Int32) N28) ∧ (j24 = j22 → (vp_in (3 : Int32) 8 ∧ (mi_L_bits g (N28 193 ((3 : Int32)).toNatClampNeg) N28 (fun r32 N33 => J29 r32 N33))))) ∧ (∀ (j30 : Int32) (N31 : xM), J29 j30 N31 → ((r27 = j30 → K10 v14 v15 N31) ∧ (¬ (r27 = j30) → False))))))))))))))))))
def vc_L_law_6 (g : xG) (v14 : Int32) (v15 : Int32) (M : xM) (K1 : Int32 → xM → Prop) (K2 : Int32 → Int32 → Int32 → Int32 → xM → Prop) (K3 : Int32 → Int32 → Int32 → xM → Prop) (K4 : Int32 → Int32 → Int32 → xM → Prop) (K5 : Int32 → Int32 → xM → Prop) (K6 : Int32 → Int32 → xM → Prop) (K7 : Int32 → Int32 → Int32 → Int32 → xM → Prop) (K8 : Int32 → Int32 → xM → Prop) (K9 : Int32 → Int32 → Int32 → Int32 → Int32 → xM → Prop) (K10 : Int32 → Int32 → xM → Prop) : Prop := (vp_in (2 : Int32) 8 ∧ (mi_L_low g (v15 >>> ((4 : Int32) &&& 31)) (M 193 ((2 : Int32)).toNatClampNeg) M (fun r15 N16 => K7 v14 v15 r15 r15 N16)))
def vc_L_law_7 (g : xG) (v14 : Int32) (v15 : Int32) (v17 : Int32) (v18 : Int32) (M : xM) (K1 : Int32 → xM → Prop) (K2 : Int32 → Int32 → Int32 → Int32 → xM → Prop) (K3 : Int32 → Int32 → Int32 → xM → Prop) (K4 : Int32 → Int32 → Int32 → xM → Prop) (K5 : Int32 → Int32 → xM → Prop) (K6 : Int32 → Int32 → xM → Prop) (K7 : Int32 → Int32 → Int32 → Int32 → xM → Prop) (K8 : Int32 → Int32 → xM → Prop) (K9 : Int32 → Int32 → Int32 → Int32 → Int32 → xM → Prop) (K10 : Int32 → Int32 → xM → Prop) : Prop := (vp_in (2 : Int32) 8 ∧ (((M 193 ((2 : Int32)).toNatClampNeg) ≤ (v18 + (1 : Int32)) → (mi_X9_takeBack g v17 M (fun r86 N87 => (vp_in (2 : Int32) 8 ∧ (vp_in (2 : Int32) 8 ∧ ((r86 = ((N87 193 ((2 : Int32)).toNatClampNeg) - (1 : Int32)) → K10 v14 v15 (x_up N87 193 ((2 : Int32)).toNatClampNeg ((N87 193 ((2 : Int32)).toNatClampNeg) - (1 : Int32)))) ∧ (¬ (r86 = ((N87 193 ((2 : Int32)).toNatClampNeg) - (1 : Int32))) → False))))))) ∧ (¬ ((M 193 ((2 : Int32)).toNatClampNeg) ≤ (v18 + (1 : Int32))) → (vp_in (v18 + (1 : Int32)) 20 ∧ (vp_in v18 20 ∧ K7 v14 v15 v17 (v18 + (1 : Int32)) (x_up M 196 (v18).toNatClampNeg (M 196 ((v18 + (1 : Int32))).toNatClampNeg)))))))
def vc_L_law_8 (g : xG) (v14 : Int32) (v15 : Int32) (M : xM) (K1 : Int32 → xM → Prop) (K2 : Int32 → Int32 → Int32 → Int32 → xM → Prop) (K3 : Int32 → Int32 → Int32 → xM → Prop) (K4 : Int32 → Int32 → Int32 → xM → Prop) (K5 : Int32 → Int32 → xM → Prop) (K6 : Int32 → Int32 → xM → Prop) (K7 : Int32 → Int32 → Int32 → Int32 → xM → Prop) (K8 : Int32 → Int32 → xM → Prop) (K9 : Int32 → Int32 → Int32 → Int32 → Int32 → xM → Prop) (K10 : Int32 → Int32 → xM → Prop) : Prop := (mi_L_low g (v15 >>> ((4 : Int32) &&& 31)) (6 : Int32) M (fun r11 N12 => (mi_L_next g 193 194 196 N12 (fun r13 N14 => K9 v14 v15 ((1 : Int32) + r11) (0 : Int32) r13 N14))))
def vc_L_law_9 (g : xG) (v14 : Int32) (v15 : Int32) (v17 : Int32) (v18 : Int32) (v19 : Int32) (M : xM) (K1 : Int32 → xM → Prop) (K2 : Int32 → Int32 → Int32 → Int32 → xM → Prop) (K3 : Int32 → Int32 → Int32 → xM → Prop) (K4 : Int32 → Int32 → Int32 → xM → Prop) (K5 : Int32 → Int32 → xM → Prop) (K6 : Int32 → Int32 → xM → Prop) (K7 : Int32 → Int32 → Int32 → Int32 → xM → Prop) (K8 : Int32 → Int32 → xM → Prop) (K9 : Int32 → Int32 → Int32 → Int32 → Int32 → xM → Prop) (K10 : Int32 → Int32 → xM → Prop) : Prop := (∃ J80 : Prop, ((v17 ≤ v18 → J80) ∧ (¬ (v17 ≤ v18) → ((v19 < 0 → J80) ∧ (¬ (v19 < 0) → (mi_L_sing g v19 193 194 195 196 197 198 M (fun N83 => (mi_L_next g 193 194 196 N83 (fun r84 N85 => K9 v14 v15 v17 (v18 + (1 : Int32)) r84 N85)))))))) ∧ (J80 → (mi_X9_sing g v17 M (fun r81 N82 => ((r81 = v18 → K10 v14 v15 N82) ∧ (¬ (r81 = v18) → False))))))
def vc_L_law_10 (g : xG) (v14 : Int32) (v15 : Int32) (M : xM) (K1 : Int32 → xM → Prop) (K2 : Int32 → Int32 → Int32 → Int32 → xM → Prop) (K3 : Int32 → Int32 → Int32 → xM → Prop) (K4 : Int32 → Int32 → Int32 → xM → Prop) (K5 : Int32 → Int32 → xM → Prop) (K6 : Int32 → Int32 → xM → Prop) (K7 : Int32 → Int32 → Int32 → Int32 → xM → Prop) (K8 : Int32 → Int32 → xM → Prop) (K9 : Int32 → Int32 → Int32 → Int32 → Int32 → xM → Prop) (K10 : Int32 → Int32 → xM → Prop) : Prop := (mi_L_same g (v15 >>> ((3 : Int32) &&& 31)) M (fun r88 N89 => ((¬ r88 = 0 → K1 (v14 + (1 : Int32)) N89) ∧ (r88 = 0 → False))))
set_option maxRecDepth 100000 in
set_option maxHeartbeats 4000000 in
theorem wk_L_law {x : xX} {g : xG} {b L : Nat} {xs : Nat → Int32} (hC : x_cx x g room_1 code RL 22 wsL_law) (hX : x_scr x g b L xs) (hW : x_lw x g b) (hL : L ≤ 260) (I1 : Nat → Int32 → xM → Prop) (I2 : Nat → Int32 → Int32 → Int32 → Int32 → xM → Prop) (I3 : Nat → Int32 → Int32 → Int32 → xM → Prop) (I4 : Nat → Int32 → Int32 → Int32 → xM → Prop) (I5 : Nat → Int32 → Int32 → xM → Prop) (I6 : Nat → Int32 → Int32 → xM → Prop) (I7 : Nat → Int32 → Int32 → Int32 → Int32 → xM → Prop) (I8 : Nat → Int32 → Int32 → xM → Prop) (I9 : Nat → Int32 → Int32 → Int32 → Int32 → Int32 → xM → Prop) (I10 : Nat → Int32 → Int32 → xM → Prop) (h1 : ∀ (n : Nat) (v14 : Int32) (N : xM), I1 n v14 N → vc_L_law_1 g v14 N (fun v14 N => ∃ k, k < n ∧ I1 k v14 N) (fun v14 v15 v17 v18 N => ∃ k, k < n ∧ I2 k v14 v15 v17 v18 N) (fun v14 v15 v17 N => ∃ k, k < n ∧ I3 k v14 v15 v17 N) (fun v14 v15 v17 N => ∃ k, k < n ∧ I4 k v14 v15 v17 N) (fun v14 v15 N => ∃ k, k < n ∧ I5 k v14 v15 N) (fun v14 v15 N => ∃ k, k < n ∧ I6 k v14 v15 N) (fun v14 v15 v17 v18 N => ∃ k, k < n ∧ I7 k v14 v15 v17 v18 N) (fun v14 v15 N => ∃ k, k < n ∧ I8 k v14 v15 N) (fun v14 v15 v17 v18 v19 N => ∃ k, k < n ∧ I9 k v14 v15 v17 v18 v19 N) (fun v14 v15 N => ∃ k, k < n ∧ I10 k v14 v15 N)) (h2 : ∀ (n : Nat) (v14 : Int32) (v15 : Int32) (v17 : Int32) (v18 : Int32) (N : xM), I2 n v14 v15 v17 v18 N → vc_L_law_2 g v14 v15 v17 v18 N (fun v14 N => ∃ k, k < n ∧ I1 k v14 N) (fun v14 v15 v17 v18 N => ∃ k, k < n ∧ I2 k v14 v15 v17 v18 N) (fun v14 v15 v17 N => ∃ k, k < n ∧ I3 k v14 v15 v17 N) (fun v14 v15 v17 N => ∃ k, k < n ∧ I4 k v14 v15 v17 N) (fun v14 v15 N => ∃ k, k < n ∧ I5 k v14 v15 N) (fun v14 v15 N => ∃ k, k < n ∧ I6 k v14 v15 N) (fun v14 v15 v17 v18 N => ∃ k, k < n ∧ I7 k v14 v15 v17 v18 N) (fun v14 v15 N => ∃ k, k < n ∧ I8 k v14 v15 N) (fun v14 v15 v17 v18 v19 N => ∃ k, k < n ∧ I9 k v14 v15 v17 v18 v19 N) (fun v14 v15 N => ∃ k, k < n ∧ I10 k v14 v15 N)) (h3 : ∀ (n : Nat) (v14 : Int32) (v15 : Int32) (v17 : Int32) (N : xM), I3 n v14 v15 v17 N → vc_L_law_3 g v14 v15 v17 N (fun v14 N => ∃ k, k < n ∧ I1 k v14 N) (fun v14 v15 v17 v18 N => ∃ k, k < n ∧ I2 k v14 v15 v17 v18 N) (fun v14 v15 v17 N => ∃ k, k < n ∧ I3 k v14 v15 v17 N) (fun v14 v15 v17 N => ∃ k, k < n ∧ I4 k v14 v15 v17 N) (fun v14 v15 N => ∃ k, k < n ∧ I5 k v14 v15 N) (fun v14 v15 N => ∃ k, k < n ∧ I6 k v14 v15 N) (fun v14 v15 v17 v18 N => ∃ k, k < n ∧ I7 k v14 v15 v17 v18 N) (fun v14 v15 N => ∃ k, k < n ∧ I8 k v14 v15 N) (fun v14 v15 v17 v18 v19 N => ∃ k, k < n ∧ I9 k v14 v15 v17 v18 v19 N) (fun v14 v15 N => ∃ k, k < n ∧ I10 k v14 v15 N)) (h4 : ∀ (n : Nat) (v14 : Int32) (v15 : Int32) (v17 : Int32) (N : xM), I4 n v14 v15 v17 N → vc_L_law_4 g v14 v15 v17 N (fun v14 N => ∃ k, k < n ∧ I1 k v14 N) (fun v14 v15 v17 v18 N => ∃ k, k < n ∧ I2 k v14 v15 v17 v18 N) (fun v14 v15 v17 N => ∃ k, k < n ∧ I3 k v14 v15 v17 N) (fun v14 v15 v17 N => ∃ k, k < n ∧ I4 k v14 v15 v17 N) (fun v14 v15 N => ∃ k, k < n ∧ I5 k v14 v15 N) (fun v14 v15 N => ∃ k, k < n ∧ I6 k v14 v15 N) (fun v14 v15 v17 v18 N => ∃ k, k < n ∧ I7 k v14 v15 v17 v18 N) (fun v14 v15 N => ∃ k, k < n ∧ I8 k v14 v15 N) (fun v14 v15 v17 v18 v19 N => ∃ k, k < n ∧ I9 k v14 v15 v17 v18 v19 N) (fun v14 v15 N => ∃ k, k < n ∧ I10 k v14 v15 N)) (h5 : ∀ (n : Nat) (v14 : Int32) (v15 : Int32) (N : xM), I5 n v14 v15 N → vc_L_law_5 g v14 v15 N (fun v14 N => ∃ k, k < n ∧ I1 k v14 N) (fun v14 v15 v17 v18 N => ∃ k, k < n ∧ I2 k v14 v15 v17 v18 N) (fun v14 v15 v17 N => ∃ k, k < n ∧ I3 k v14 v15 v17 N) (fun v14 v15 v17 N => ∃ k, k < n ∧ I4 k v14 v15 v17 N) (fun v14 v15 N => ∃ k, k < n ∧ I5 k v14 v15 N) (fun v14 v15 N => ∃ k, k < n ∧ I6 k v14 v15 N) (fun v14 v15 v17 v18 N => ∃ k, k < n ∧ I7 k v14 v15 v17 v18 N) (fun v14 v15 N => ∃ k, k < n ∧ I8 k v14 v15 N) (fun v14 v15 v17 v18 v19 N => ∃ k, k < n ∧ I9 k v14 v15 v17 v18 v19 N) (fun v14 v15 N => ∃ k, k < n ∧ I10 k v14 v15 N)) (h6 : ∀ (n : Nat) (v14 : Int32) (v15 : Int32) (N : xM), I6 n v14 v15 N → vc_L_law_6 g v14 v15 N (fun v14 N => ∃ k, k < n ∧ I1 k v14 N) (fun v14 v15 v17 v18 N => ∃ k, k < n ∧ I2 k v14 v15 v17 v18 N) (fun v14 v15 v17 N => ∃ k, k < n ∧ I3 k v14 v15 v17 N) (fun v14 v15 v17 N => ∃ k, k < n ∧ I4 k v14 v15 v17 N) (fun v14 v15 N => ∃ k, k < n ∧ I5 k v14 v15 N) (fun v14 v15 N => ∃ k, k < n ∧ I6 k v14 v15 N) (fun v14 v15 v17 v18 N => ∃ k, k < n ∧ I7 k v14 v15 v17 v18 N) (fun v14 v15 N => ∃ k, k < n ∧ I8 k v14 v15 N) (fun v14 v15 v17 v18 v19 N => ∃ k, k < n ∧ I9 k v14 v15 v17 v18 v19 N) (fun v14 v15 N => ∃ k, k < n ∧ I10 k v14 v15 N)) (h7 : ∀ (n : Nat) (v14 : Int32) (v15 : Int32) (v17 : Int32) (v18 : Int32) (N : xM), I7 n v14 v15 v17 v18 N → vc_L_law_7 g v14 v15 v17 v18 N (fun v14 N => ∃ k, k < n ∧ I1 k v14 N) (fun v14 v15 v17 v18 N => ∃ k, k < n ∧ I2 k v14 v15 v17 v18 N) (fun v14 v15 v17 N => ∃ k, k < n ∧ I3 k v14 v15 v17 N) (fun v14 v15 v17 N => ∃ k, k < n ∧ I4 k v14 v15 v17 N) (fun v14 v15 N => ∃ k, k < n ∧ I5 k v14 v15 N) (fun v14 v15 N => ∃ k, k < n ∧ I6 k v14 v15 N) (fun v14 v15 v17 v18 N => ∃ k, k < n ∧ I7 k v14 v15 v17 v18 N) (fun v14 v15 N => ∃ k, k < n ∧ I8 k v14 v15 N) (fun v14 v15 v17 v18 v19 N => ∃ k, k < n ∧ I9 k v14 v15 v17 v18 v19 N) (fun v14 v15 N => ∃ k, k < n ∧ I10 k v14 v15 N)) (h8 : ∀ (n : Nat) (v14 : Int32) (v15 : Int32) (N : xM), I8 n v14 v15 N → vc_L_law_8 g v14 v15 N (fun v14 N => ∃ k, k < n ∧ I1 k v14 N) (fun v14 v15 v17 v18 N => ∃ k, k < n ∧ I2 k v14 v15 v17 v18 N) (fun v14 v15 v17 N => ∃ k, k < n ∧ I3 k v14 v15 v17 N) (fun v14 v15 v17 N => ∃ k, k < n ∧ I4 k v14 v15 v17 N) (fun v14 v15 N => ∃ k, k < n ∧ I5 k v14 v15 N) (fun v14 v15 N => ∃ k, k < n ∧ I6 k v14 v15 N) (fun v14 v15 v17 v18 N => ∃ k, k < n ∧ I7 k v14 v15 v17 v18 N) (fun v14 v15 N => ∃ k, k < n ∧ I8 k v14 v15 N) (fun v14 v15 v17 v18 v19 N => ∃ k, k < n ∧ I9 k v14 v15 v17 v18 v19 N) (fun v14 v15 N => ∃ k, k < n ∧ I10 k v14 v15 N)) (h9 : ∀ (n : Nat) (v14 : Int32) (v15 : Int32) (v17 : Int32) (v18 : Int32) (v19 : Int32) (N : xM), I9 n v14 v15 v17 v18 v19 N → vc_L_law_9 g v14 v15 v17 v18 v19 N (fun v14 N => ∃ k, k < n ∧ I1 k v14 N) (fun v14 v15 v17 v18 N => ∃ k, k < n ∧ I2 k v14 v15 v17 v18 N) (fun v14 v15 v17 N => ∃ k, k < n ∧ I3 k v14 v15 v17 N) (fun v14 v15 v17 N => ∃ k, k < n ∧ I4 k v14 v15 v17 N) (fun v14 v15 N => ∃ k, k < n ∧ I5 k v14 v15 N) (fun v14 v15 N => ∃ k, k < n ∧ I6 k v14 v15 N) (fun v14 v15 v17 v18 N => ∃ k, k < n ∧ I7 k v14 v15 v17 v18 N) (fun v14 v15 N => ∃ k, k < n ∧ I8 k v14 v15 N) (fun v14 v15 v17 v18 v19 N => ∃ k, k < n ∧ I9 k v14 v15 v17 v18 v19 N) (fun v14 v15 N => ∃ k, k < n ∧ I10 k v14 v15 N)) (h10 : ∀ (n : Nat) (v14 : Int32) (v15 : Int32) (N : xM), I10 n v14 v15 N → vc_L_law_10 g v14 v15 N (fun v14 N => ∃ k, k < n ∧ I1 k v14 N) (fun v14 v15 v17 v18 N => ∃ k, k < n ∧ I2 k v14 v15 v17 v18 N) (fun v14 v15 v17 N => ∃ k, k < n ∧ I3 k v14 v15 v17 N) (fun v14 v15 v17 N => ∃ k, k < n ∧ I4 k v14 v15 v17 N) (fun v14 v15 N => ∃ k, k < n ∧ I5 k v14 v15 N) (fun v14 v15 N => ∃ k, k < n ∧ I6 k v14 v15 N) (fun v14 v15 v17 v18 N => ∃ k, k < n ∧ I7 k v14 v15 v17 v18 N) (fun v14 v15 N => ∃ k, k < n ∧ I8 k v14 v15 N) (fun v14 v15 v17 v18 v19 N => ∃ k, k < n ∧ I9 k v14 v15 v17 v18 v19 N) (fun v14 v15 N => ∃ k, k < n ∧ I10 k v14 v15 N)) : ∀ n : Nat, (∀ (v14 : Int32) (N : xM), I1 n v14 N → x_W x g 22 (x_lQ x b) N 81 [(0, .ref b), (1, .ref (x_a g 180)), (2, .ref (x_a g 193)), (3, .ref (x_a g 194)), (4, .ref (x_a g 195)), (5, .ref (x_a g 196)), (6, .ref (x_a g 197)), (7, .ref (x_a g 198)), (8, .ref (x_a g 199)), (9, .ref (x_a g 200)), (10, .ref (x_a g 201)), (11, .ref (x_a g 202)), (12, .ref (x_a g 203)), (13, .ref (x_a g 204)), (14, .int v14)] []) ∧ (∀ (v14 : Int32) (v15 : Int32) (v17 : Int32) (v18 : Int32) (N : xM), I2 n v14 v15 v17 v18 N → x_W x g 22 (x_lQ x b) N 155 [(0, .ref b), (1, .ref (x_a g 180)), (2, .ref (x_a g 193)), (3, .ref (x_a g 194)), (4, .ref (x_a g 195)), (5, .ref (x_a g 196)), (6, .ref (x_a g 197)), (7, .ref (x_a g 198)), (8, .ref (x_a g 199)), (9, .ref (x_a g 200)), (10, .ref (x_a g 201)), (11, .ref (x_a g 202)), (12, .ref (x_a g 203)), (13, .ref (x_a g 204)), (14, .int v14), (15, .int v15), (17, .int v17), (18, .int v18)] []) ∧ (∀ (v14 : Int32) (v15 : Int32) (v17 : Int32) (N : xM), I3 n v14 v15 v17 N → x_W x g 22 (x_lQ x b) N 231 [(0, .ref b), (1, .ref (x_a g 180)), (2, .ref (x_a g 193)), (3, .ref (x_a g 194)), (4, .ref (x_a g 195)), (5, .ref (x_a g 196)), (6, .ref (x_a g 197)), (7, .ref (x_a g 198)), (8, .ref (x_a g 199)), (9, .ref (x_a g 200)), (10, .ref (x_a g 201)), (11, .ref (x_a g 202)), (12, .ref (x_a g 203)), (13, .ref (x_a g 204)), (14, .int v14), (15, .int v15), (17, .int v17)] []) ∧ (∀ (v14 : Int32) (v15 : Int32) (v17 : Int32) (N : xM), I4 n v14 v15 v17 N → x_W x g 22 (x_lQ x b) N 351 [(0, .ref b), (1, .ref (x_a g 180)), (2, .ref (x_a g 193)), (3, .ref (x_a g 194)), (4, .ref (x_a g 195)), (5, .ref (x_a g 196)), (6, .ref (x_a g 197)), (7, .ref (x_a g 198)), (8, .ref (x_a g 199)), (9, .ref (x_a g 200)), (10, .ref (x_a g 201)), (11, .ref (x_a g 202)), (12, .ref (x_a g 203)), (13, .ref (x_a g 204)), (14, .int v14), (15, .int v15), (17, .int v17)] []) ∧ (∀ (v14 : Int32) (v15 : Int32) (N : xM), I5 n v14 v15 N → x_W x g 22 (x_lQ x b) N 596 [(0, .ref b), (1, .ref (x_a g 180)), (2, .ref (x_a g 193)), (3, .ref (x_a g 194)), (4, .ref (x_a g 195)), (5, .ref (x_a g 196)), (6, .ref (x_a g 197)), (7, .ref (x_a g 198)), (8, .ref (x_a g 199)), (9, .ref (x_a g 200)), (10, .ref (x_a g 201)), (11, .ref (x_a g 202)), (12, .ref (x_a g 203)), (13, .ref (x_a g 204)), (14, .int v14), (15, .int v15)] []) ∧ (∀ (v14 : Int32) (v15 : Int32) (N : xM), I6 n v14 v15 N → x_W x g 22 (x_lQ x b) N 710 [(0, .ref b), (1, .ref (x_a g 180)), (2, .ref (x_a g 193)), (3, .ref (x_a g 194)), (4, .ref (x_a g 195)), (5, .ref (x_a g 196)), (6, .ref (x_a g 197)), (7, .ref (x_a g 198)), (8, .ref (x_a g 199)), (9, .ref (x_a g 200)), (10, .ref (x_a g 201)), (11, .ref (x_a g 202)), (12, .ref (x_a g 203)), (13, .ref (x_a g 204)), (14, .int v14), (15, .int v15)] []) ∧ (∀ (v14 : Int32) (v15 : Int32) (v17 : Int32) (v18 : Int32) (N : xM), I7 n v14 v15 v17 v18 N → x_W x g 22 (x_lQ x b) N 726 [(0, .ref b), (1, .ref (x_a g 180)), (2, .ref (x_a g 193)), (3, .ref (x_a g 194)), (4, .ref (x_a g 195)), (5, .ref (x_a g 196)), (6, .ref (x_a g 197)), (7, .ref (x_a g 198)), (8, .ref (x_a g 199)), (9, .ref (x_a g 200)), (10, .ref (x_a g 201)), (11, .ref (x_a g 202)), (12, .ref (x_a g 203)), (13, .ref (x_a g 204)), (14, .int v14), (15, .int v15), (17, .int v17), (18, .int v18)] []) ∧ (∀ (v14 : Int32) (v15 : Int32) (N : xM), I8 n v14 v15 N → x_W x g 22 (x_lQ x b) N 776 [(0, .ref b), (1, .ref (x_a g 180)), (2, .ref (x_a g 193)), (3, .ref (x_a g 194)), (4, .ref (x_a g 195)), (5, .ref (x_a g 196)), (6, .ref (x_a g 197)), (7, .ref (x_a g 198)), (8, .ref (x_a g 199)), (9, .ref (x_a g 200)), (10, .ref (x_a g 201)), (11, .ref (x_a g 202)), (12, .ref (x_a g 203)), (13, .ref (x_a g 204)), (14, .int v14), (15, .int v15)] []) ∧ (∀ (v14 : Int32) (v15 : Int32) (v17 : Int32) (v18 : Int32) (v19 : Int32) (N : xM), I9 n v14 v15 v17 v18 v19 N → x_W x g 22 (x_lQ x b) N 801 [(0, .ref b), (1, .ref (x_a g 180)), (2, .ref (x_a g 193)), (3, .ref (x_a g 194)), (4, .ref (x_a g 195)), (5, .ref (x_a g 196)), (6, .ref (x_a g 197)), (7, .ref (x_a g 198)), (8, .ref (x_a g 199)), (9, .ref (x_a g 200)), (10, .ref (x_a g 201)), (11, .ref (x_a g 202)), (12, .ref (x_a g 203)), (13, .ref (x_a g 204)), (14, .int v14), (15, .int v15), (17, .int v17), (18, .int v18), (19, .int v19)] []) ∧ (∀ (v14 : Int32) (v15 : Int32) (N : xM), I10 n v14 v15 N → x_W x g 22 (x_lQ x b) N 856 [(0, .ref b), (1, .ref (x_a g 180)), (2, .ref (x_a g 193)), (3, .ref (x_a g 194)), (4, .ref (x_a g 195)), (5, .ref (x_a g 196)), (6, .ref (x_a g 197)), (7, .ref (x_a g 198)), (8, .ref (x_a g 199)), (9, .ref (x_a g 200)), (10, .ref (x_a g 201)), (11, .ref (x_a g 202)), (12, .ref (x_a g 203)), (13, .ref (x_a g 204)), (14, .int v14), (15, .int v15)] []) := by
    intro n
    induction n using Nat.strongRecOn with
    | ind n ih =>
      refine ⟨?_, ?_, ?_, ?_, ?_, ?_, ?_, ?_, ?_, ?_⟩
      · intro v14 M hI
        have h := h1 n v14 M hI
        unfold vc_L_law_1 at h
        refine x_iload (q := 14) hC dL_law_81 rfl ?_
        refine x_bipush (v := 30) hC dL_law_83 (by decide) ?_
        refine x_icmp_ge (t := 897) hC dL_law_85 (by decide) (fun q => ?_) (fun q => ?_)
        · replace h := h.1 q
          refine x_iconst (v := 1) hC dL_law_897 (by decide) ?_
          exact x_lret hC hW dL_law_898
        · replace h := h.2 q
          refine x_aload_n (i := 0) (q := 0) hC dL_law_88 rfl rfl ?_
          refine x_iload (q := 14) hC dL_law_89 rfl ?_
          refine x_callCell hC hX hL h.1 (Nat.le_of_ble_eq_true rfl) dL_law_91 (fun r1 => ?_)
          replace h := h.2 r1
          refine x_istore (ls' := [(15, .int r1), (0, .ref b), (1, .ref (x_a g 180)), (2, .ref (x_a g 193)), (3, .ref (x_a g 194)), (4, .ref (x_a g 195)), (5, .ref (x_a g 196)), (6, .ref (x_a g 197)), (7, .ref (x_a g 198)), (8, .ref (x_a g 199)), (9, .ref (x_a g 200)), (10, .ref (x_a g 201)), (11, .ref (x_a g 202)), (12, .ref (x_a g 203)), (13, .ref (x_a g 204)), (14, .int v14)]) hC dL_law_94 (by decide) rfl ?_
          refine x_iload (q := 15) hC dL_law_96 rfl ?_
          refine x_iconst (v := 5) hC dL_law_98 (by decide) ?_
          obtain ⟨J2, h, hJ2⟩ := h
          have HJ2 : ∀ (j3 : Int32) (N4 : xM), J2 j3 N4 → x_W x g 22 (x_lQ x b) N4 116 [(0, .ref b), (1, .ref (x_a g 180)), (2, .ref (x_a g 193)), (3, .ref (x_a g 194)), (4, .ref (x_a g 195)), (5, .ref (x_a g 196)), (6, .ref (x_a g 197)), (7, .ref (x_a g 198)), (8, .ref (x_a g 199)), (9, .ref (x_a g 200)), (10, .ref (x_a g 201)), (11, .ref (x_a g 202)), (12, .ref (x_a g 203)), (13, .ref (x_a g 204)), (14, .int v14), (15, .int r1)] [.int j3] := by
            intro j3 N4 hj
            have h := hJ2 j3 N4 hj
            refine x_istore (ls' := [(16, .int j3), (0, .ref b), (1, .ref (x_a g 180)), (2, .ref (x_a g 193)), (3, .ref (x_a g 194)), (4, .ref (x_a g 195)), (5, .ref (x_a g 196)), (6, .ref (x_a g 197)), (7, .ref (x_a g 198)), (8, .ref (x_a g 199)), (9, .ref (x_a g 200)), (10, .ref (x_a g 201)), (11, .ref (x_a g 202)), (12, .ref (x_a g 203)), (13, .ref (x_a g 204)), (14, .int v14), (15, .int r1)]) hC dL_law_116 (by decide) rfl ?_
            refine x_iload (q := 0) hC dL_law_118 rfl ?_
            refine x_iconst (v := 2) hC dL_law_120 (by decide) ?_
            refine x_icmp_ge (t := 341) hC dL_law_121 (by decide) (fun q => ?_) (fun q => ?_)
            · replace h := h.1 q
              refine x_iload (q := 0) hC dL_law_341 rfl ?_
              refine x_bipush (v := 8) hC dL_law_343 (by decide) ?_
              refine x_icmp_ge (t := 589) hC dL_law_345 (by decide) (fun q => ?_) (fun q => ?_)
              · replace h := h.1 q
                refine x_iload (q := 0) hC dL_law_589 rfl ?_
                refine x_bipush (v := 8) hC dL_law_591 (by decide) ?_
                refine x_icmp_ne (t := 697) hC dL_law_593 (by decide) (fun q => ?_) (fun q => ?_)
                · replace h := h.1 q
                  refine x_iload (q := 0) hC dL_law_697 rfl ?_
                  refine x_bipush (v := 9) hC dL_law_699 (by decide) ?_
                  refine x_icmp_ne (t := 776) hC dL_law_701 (by decide) (fun q => ?_) (fun q => ?_)
                  · replace h := h.1 q
                    obtain ⟨n_8, hn, h⟩ := h
                    exact x_sub [1, 2, 3, 4, 5, 6, 7, 8, 9, 10, 11, 12, 13, 14, 15, 16] rfl ((ih n_8 hn).2.2.2.2.2.2.2.1 _ _ _ h)
                  · replace h := h.2 q
                    refine x_aload_n (i := 2) (q := 3) hC dL_law_704 rfl rfl ?_
                    refine x_iconst (v := 2) hC dL_law_705 (by decide) ?_
                    refine x_iald (len := 8) hC xa_193 h.1 dL_law_706 ?_
                    replace h := h.2
                    refine x_if_le (t := 776) hC dL_law_707 (by decide) (fun q => ?_) (fun q => ?_)
                    · replace h := h.1 q
                      obtain ⟨n_8, hn, h⟩ := h
                      exact x_sub [1, 2, 3, 4, 5, 6, 7, 8, 9, 10, 11, 12, 13, 14, 15, 16] rfl ((ih n_8 hn).2.2.2.2.2.2.2.1 _ _ _ h)
                    · replace h := h.2 q
                      obtain ⟨n_6, hn, h⟩ := h
                      exact x_sub [1, 2, 3, 4, 5, 6, 7, 8, 9, 10, 11, 12, 13, 14, 15, 16] rfl ((ih n_6 hn).2.2.2.2.2.1 _ _ _ h)
                · replace h := h.2 q
                  obtain ⟨n_5, hn, h⟩ := h
                  exact x_sub [1, 2, 3, 4, 5, 6, 7, 8, 9, 10, 11, 12, 13, 14, 15, 16] rfl ((ih n_5 hn).2.2.2.2.1 _ _ _ h)
              · replace h := h.2 q
                refine x_iconst (v := 0) hC dL_law_348 (by decide) ?_
                refine x_istore (ls' := [(17, .int (0 : Int32)), (16, .int j3), (0, .ref b), (1, .ref (x_a g 180)), (2, .ref (x_a g 193)), (3, .ref (x_a g 194)), (4, .ref (x_a g 195)), (5, .ref (x_a g 196)), (6, .ref (x_a g 197)), (7, .ref (x_a g 198)), (8, .ref (x_a g 199)), (9, .ref (x_a g 200)), (10, .ref (x_a g 201)), (11, .ref (x_a g 202)), (12, .ref (x_a g 203)), (13, .ref (x_a g 204)), (14, .int v14), (15, .int r1)]) hC dL_law_349 (by decide) rfl ?_
                obtain ⟨n_4, hn, h⟩ := h
                exact x_sub [2, 3, 4, 5, 6, 7, 8, 9, 10, 11, 12, 13, 14, 15, 16, 17, 0] rfl ((ih n_4 hn).2.2.2.1 _ _ _ _ h)
            · replace h := h.2 q
              refine x_iload (q := 16) hC dL_law_124 rfl ?_
              refine x_iconst (v := 4) hC dL_law_126 (by decide) ?_
              refine x_ishr hC dL_law_127 ?_
              refine x_bipush (v := 30) hC dL_law_128 (by decide) ?_
              refine x_callSi (As := [.int (r1 >>> ((4 : Int32) &&& 31)), .int (30 : Int32)]) hC h gL_law_L_low rfl rfl rfl hy_L_low.2 ⟨Nat.le_of_ble_eq_true rfl, Nat.le_of_ble_eq_true rfl⟩ rfl (Nat.le_of_ble_eq_true rfl) rfl dL_law_130 (fun r5 N6 h => ?_)
              refine x_istore (ls' := [(17, .int r5), (16, .int j3), (0, .ref b), (1, .ref (x_a g 180)), (2, .ref (x_a g 193)), (3, .ref (x_a g 194)), (4, .ref (x_a g 195)), (5, .ref (x_a g 196)), (6, .ref (x_a g 197)), (7, .ref (x_a g 198)), (8, .ref (x_a g 199)), (9, .ref (x_a g 200)), (10, .ref (x_a g 201)), (11, .ref (x_a g 202)), (12, .ref (x_a g 203)), (13, .ref (x_a g 204)), (14, .int v14), (15, .int r1)]) hC dL_law_133 (by decide) rfl ?_
              refine x_iload (q := 0) hC dL_law_135 rfl ?_
              refine x_iload (q := 17) hC dL_law_137 rfl ?_
              refine x_bipush (v := 9) hC dL_law_139 (by decide) ?_
              refine x_ishr hC dL_law_141 ?_
              refine x_bipush (v := 31) hC dL_law_142 (by decide) ?_
              refine x_callSi (As := [.int (r1 >>> ((9 : Int32) &&& 31)), .int (31 : Int32)]) hC h gL_law_L_low rfl rfl rfl hy_L_low.2 ⟨Nat.le_of_ble_eq_true rfl, Nat.le_of_ble_eq_true rfl⟩ rfl (Nat.le_of_ble_eq_true rfl) rfl dL_law_144 (fun r7 N8 h => ?_)
              refine x_iadd hC dL_law_147 ?_
              refine x_istore (ls' := [(18, .int (r5 + r7)), (17, .int r5), (16, .int j3), (0, .ref b), (1, .ref (x_a g 180)), (2, .ref (x_a g 193)), (3, .ref (x_a g 194)), (4, .ref (x_a g 195)), (5, .ref (x_a g 196)), (6, .ref (x_a g 197)), (7, .ref (x_a g 198)), (8, .ref (x_a g 199)), (9, .ref (x_a g 200)), (10, .ref (x_a g 201)), (11, .ref (x_a g 202)), (12, .ref (x_a g 203)), (13, .ref (x_a g 204)), (14, .int v14), (15, .int r1)]) hC dL_law_148 (by decide) rfl ?_
              refine x_iload (q := 2) hC dL_law_150 rfl ?_
              refine x_if_ne (t := 231) hC dL_law_152 (by decide) (fun q => ?_) (fun q => ?_)
              · replace h := h.1 q
                obtain ⟨n_3, hn, h⟩ := h
                exact x_sub [3, 4, 5, 6, 7, 8, 9, 10, 11, 12, 13, 14, 15, 16, 17, 18, 1] rfl ((ih n_3 hn).2.2.1 _ _ _ _ h)
              · replace h := h.2 q
                obtain ⟨n_2, hn, h⟩ := h
                exact x_sub [3, 4, 5, 6, 7, 8, 9, 10, 11, 12, 13, 14, 15, 16, 17, 18, 1, 0] rfl ((ih n_2 hn).2.1 _ _ _ _ _ h)
          refine x_icmp_ge (t := 109) hC dL_law_99 (by decide) (fun q => ?_) (fun q => ?_)
          · replace h := h.1 q
            refine x_iload (q := 0) hC dL_law_109 rfl ?_
            refine x_bipush (v := 12) hC dL_law_111 (by decide) ?_
            refine x_callSi (As := [.int r1, .int (12 : Int32)]) hC h gL_law_L_low rfl rfl rfl hy_L_low.2 ⟨Nat.le_of_ble_eq_true rfl, Nat.le_of_ble_eq_true rfl⟩ rfl (Nat.le_of_ble_eq_true rfl) rfl dL_law_113 (fun r9 N10 h => ?_)
            exact x_sub [1, 2, 3, 4, 5, 6, 7, 8, 9, 10, 11, 12, 13, 14, 15, 0] rfl (HJ2 _ _ h)
          · replace h := h.2 q
            refine x_iload (q := 15) hC dL_law_102 rfl ?_
            refine x_iconst (v := 2) hC dL_law_104 (by decide) ?_
            refine x_irem hC (by decide) dL_law_105 ?_
            refine x_goto (t := 116) hC dL_law_106 (by decide) ?_
            exact x_sub [1, 2, 3, 4, 5, 6, 7, 8, 9, 10, 11, 12, 13, 14, 15, 0] rfl (HJ2 _ _ h)
      · intro v14 v15 v17 v18 M hI
        have h := h2 n v14 v15 v17 v18 M hI
        unfold vc_L_law_2 at h
        refine x_aload_n (i := 1) (q := 1) hC dL_law_155 rfl rfl ?_
        refine x_iload (q := 16) hC dL_law_156 rfl ?_
        refine x_iload (q := 17) hC dL_law_158 rfl ?_
        refine x_callVi (q := (RX9, TX9, 7)) (As := [.int v17, .int v18]) hC xo_180 rfl h gL_law_X9_singer rfl rfl rfl hy_X9_singer ⟨Nat.le_of_ble_eq_true rfl, Nat.le_of_ble_eq_true rfl⟩ rfl (Nat.le_of_ble_eq_true rfl) rfl dL_law_160 (fun r74 N75 h => ?_)
        refine x_aload_n (i := 2) (q := 2) hC dL_law_163 rfl rfl ?_
        refine x_iconst (v := 0) hC dL_law_164 (by decide) ?_
        refine x_iald (len := 8) hC xa_193 h.1 dL_law_165 ?_
        replace h := h.2
        refine x_bipush (v := 12) hC dL_law_166 (by decide) ?_
        obtain ⟨J76, h, hJ76⟩ := h
        have HJ76 : ∀ (j77 : Int32), J76 j77 → x_W x g 22 (x_lQ x b) N75 179 [(0, .ref b), (1, .ref (x_a g 180)), (2, .ref (x_a g 193)), (3, .ref (x_a g 194)), (4, .ref (x_a g 195)), (5, .ref (x_a g 196)), (6, .ref (x_a g 197)), (7, .ref (x_a g 198)), (8, .ref (x_a g 199)), (9, .ref (x_a g 200)), (10, .ref (x_a g 201)), (11, .ref (x_a g 202)), (12, .ref (x_a g 203)), (13, .ref (x_a g 204)), (14, .int v14), (15, .int v15), (17, .int v17), (18, .int v18)] [.int j77, .int r74] := by
          intro j77 hj
          have h := hJ76 j77 hj
          refine x_icmp_eq (t := 184) hC dL_law_179 (by decide) (fun q => ?_) (fun q => ?_)
          · replace h := h.1 q
            refine x_aload_n (i := 2) (q := 2) hC dL_law_184 rfl rfl ?_
            refine x_iconst (v := 0) hC dL_law_185 (by decide) ?_
            refine x_iald (len := 8) hC xa_193 h.1 dL_law_186 ?_
            replace h := h.2
            refine x_bipush (v := 12) hC dL_law_187 (by decide) ?_
            refine x_icmp_ge (t := 338) hC dL_law_189 (by decide) (fun q => ?_) (fun q => ?_)
            · replace h := h.1 q
              refine x_goto (t := 856) hC dL_law_338 (by decide) ?_
              obtain ⟨n_10, hn, h⟩ := h
              exact x_sub [0, 1, 2, 3, 4, 5, 6, 7, 8, 9, 10, 11, 12, 13, 14, 15] rfl ((ih n_10 hn).2.2.2.2.2.2.2.2.2 _ _ _ h)
            · replace h := h.2 q
              refine x_aload_n (i := 3) (q := 3) hC dL_law_192 rfl rfl ?_
              refine x_iconst (v := 4) hC dL_law_193 (by decide) ?_
              refine x_aload_n (i := 2) (q := 2) hC dL_law_194 rfl rfl ?_
              refine x_iconst (v := 0) hC dL_law_195 (by decide) ?_
              refine x_iald (len := 8) hC xa_193 h.1 dL_law_196 ?_
              replace h := h.2
              refine x_imul hC dL_law_197 ?_
              refine x_iload (q := 16) hC dL_law_198 rfl ?_
              refine x_iast (len := 48) hC xa_194 h.1 dL_law_200 ?_
              replace h := h.2
              refine x_aload_n (i := 3) (q := 3) hC dL_law_201 rfl rfl ?_
              refine x_iconst (v := 4) hC dL_law_202 (by decide) ?_
              refine x_aload_n (i := 2) (q := 2) hC dL_law_203 rfl rfl ?_
              refine x_iconst (v := 0) hC dL_law_204 (by decide) ?_
              refine x_iald (len := 8) hC xa_193 h.1 dL_law_205 ?_
              replace h := h.2
              refine x_imul hC dL_law_206 ?_
              refine x_iconst (v := 1) hC dL_law_207 (by decide) ?_
              refine x_iadd hC dL_law_208 ?_
              refine x_iload (q := 17) hC dL_law_209 rfl ?_
              refine x_iast (len := 48) hC xa_194 h.1 dL_law_211 ?_
              replace h := h.2
              refine x_topM (fun N78 qN78 => ?_)
              replace h := h N78 qN78
              refine x_aload_n (i := 2) (q := 2) hC dL_law_212 rfl rfl ?_
              refine x_iconst (v := 3) hC dL_law_213 (by decide) ?_
              refine x_dup2 hC dL_law_214 rfl rfl ?_
              refine x_iald (len := 8) hC xa_193 h.1 dL_law_215 ?_
              replace h := h.2
              refine x_iconst (v := 1) hC dL_law_216 (by decide) ?_
              refine x_aload_n (i := 2) (q := 2) hC dL_law_217 rfl rfl ?_
              refine x_iconst (v := 0) hC dL_law_218 (by decide) ?_
              refine x_dup2 hC dL_law_219 rfl rfl ?_
              refine x_iald (len := 8) hC xa_193 h.1 dL_law_220 ?_
              replace h := h.2
              refine x_dup_x2 hC dL_law_221 rfl rfl rfl ?_
              refine x_iconst (v := 1) hC dL_law_222 (by decide) ?_
              refine x_iadd hC dL_law_223 ?_
              refine x_iast (len := 8) hC xa_193 h.1 dL_law_224 ?_
              replace h := h.2
              refine x_ishl hC dL_law_225 ?_
              refine x_ior hC dL_law_226 ?_
              refine x_iast (len := 8) hC xa_193 h.1 dL_law_227 ?_
              replace h := h.2
              refine x_topM (fun N79 qN79 => ?_)
              replace h := h N79 qN79
              refine x_goto (t := 338) hC dL_law_228 (by decide) ?_
              refine x_goto (t := 856) hC dL_law_338 (by decide) ?_
              obtain ⟨n_10, hn, h⟩ := h
              exact x_sub [0, 1, 2, 3, 4, 5, 6, 7, 8, 9, 10, 11, 12, 13, 14, 15] rfl ((ih n_10 hn).2.2.2.2.2.2.2.2.2 _ _ _ h)
          · replace h := h.2 q
            refine x_iconst (v := 0) hC dL_law_182 (by decide) ?_
            exact h.elim
        refine x_icmp_ne (t := 176) hC dL_law_168 (by decide) (fun q => ?_) (fun q => ?_)
        · replace h := h.1 q
          refine x_aload_n (i := 2) (q := 2) hC dL_law_176 rfl rfl ?_
          refine x_iconst (v := 0) hC dL_law_177 (by decide) ?_
          refine x_iald (len := 8) hC xa_193 h.1 dL_law_178 ?_
          replace h := h.2
          exact x_sub [0, 1, 2, 3, 4, 5, 6, 7, 8, 9, 10, 11, 12, 13, 14, 15, 16, 17] rfl (HJ76 _ h)
        · replace h := h.2 q
          refine x_bipush (v := -4) hC dL_law_171 (by decide) ?_
          refine x_goto (t := 179) hC dL_law_173 (by decide) ?_
          exact x_sub [0, 1, 2, 3, 4, 5, 6, 7, 8, 9, 10, 11, 12, 13, 14, 15, 16, 17] rfl (HJ76 _ h)
      · intro v14 v15 v17 M hI
        have h := h3 n v14 v15 v17 M hI
        unfold vc_L_law_3 at h
        refine x_iload (q := 16) hC dL_law_231 rfl ?_
        refine x_iload (q := 15) hC dL_law_233 rfl ?_
        refine x_bipush (v := 9) hC dL_law_235 (by decide) ?_
        refine x_ishr hC dL_law_237 ?_
        refine x_bipush (v := 20) hC dL_law_238 (by decide) ?_
        refine x_callSi (As := [.int (v15 >>> ((9 : Int32) &&& 31)), .int (20 : Int32)]) hC h gL_law_L_low rfl rfl rfl hy_L_low.2 ⟨Nat.le_of_ble_eq_true rfl, Nat.le_of_ble_eq_true rfl⟩ rfl (Nat.le_of_ble_eq_true rfl) rfl dL_law_240 (fun r64 N65 h => ?_)
        refine x_iadd hC dL_law_243 ?_
        refine x_istore (ls' := [(18, .int (v17 + r64)), (0, .ref b), (1, .ref (x_a g 180)), (2, .ref (x_a g 193)), (3, .ref (x_a g 194)), (4, .ref (x_a g 195)), (5, .ref (x_a g 196)), (6, .ref (x_a g 197)), (7, .ref (x_a g 198)), (8, .ref (x_a g 199)), (9, .ref (x_a g 200)), (10, .ref (x_a g 201)), (11, .ref (x_a g 202)), (12, .ref (x_a g 203)), (13, .ref (x_a g 204)), (14, .int v14), (15, .int v15), (17, .int v17)]) hC dL_law_244 (by decide) rfl ?_
        refine x_iconst (v := 1) hC dL_law_246 (by decide) ?_
        refine x_iload (q := 16) hC dL_law_247 rfl ?_
        refine x_bipush (v := 13) hC dL_law_249 (by decide) ?_
        refine x_ishr hC dL_law_251 ?_
        refine x_bipush (v := 9) hC dL_law_252 (by decide) ?_
        refine x_callSi (As := [.int (v15 >>> ((13 : Int32) &&& 31)), .int (9 : Int32)]) hC h gL_law_L_low rfl rfl rfl hy_L_low.2 ⟨Nat.le_of_ble_eq_true rfl, Nat.le_of_ble_eq_true rfl⟩ rfl (Nat.le_of_ble_eq_true rfl) rfl dL_law_254 (fun r66 N67 h => ?_)
        refine x_iadd hC dL_law_257 ?_
        refine x_istore (ls' := [(19, .int ((1 : Int32) + r66)), (18, .int (v17 + r64)), (0, .ref b), (1, .ref (x_a g 180)), (2, .ref (x_a g 193)), (3, .ref (x_a g 194)), (4, .ref (x_a g 195)), (5, .ref (x_a g 196)), (6, .ref (x_a g 197)), (7, .ref (x_a g 198)), (8, .ref (x_a g 199)), (9, .ref (x_a g 200)), (10, .ref (x_a g 201)), (11, .ref (x_a g 202)), (12, .ref (x_a g 203)), (13, .ref (x_a g 204)), (14, .int v14), (15, .int v15), (17, .int v17)]) hC dL_law_258 (by decide) rfl ?_
        refine x_aload_n (i := 1) (q := 3) hC dL_law_260 rfl rfl ?_
        refine x_iload (q := 18) hC dL_law_261 rfl ?_
        refine x_iload (q := 1) hC dL_law_263 rfl ?_
        refine x_iload (q := 0) hC dL_law_265 rfl ?_
        refine x_callVi (q := (RX9, TX9, 7)) (As := [.int v17, .int (v17 + r64), .int ((1 : Int32) + r66)]) hC xo_180 rfl h gL_law_X9_song rfl rfl rfl hy_X9_song ⟨Nat.le_of_ble_eq_true rfl, Nat.le_of_ble_eq_true rfl⟩ rfl (Nat.le_of_ble_eq_true rfl) rfl dL_law_267 (fun r68 N69 h => ?_)
        refine x_aload_n (i := 2) (q := 4) hC dL_law_270 rfl rfl ?_
        refine x_iconst (v := 1) hC dL_law_271 (by decide) ?_
        refine x_iald (len := 8) hC xa_193 h.1 dL_law_272 ?_
        replace h := h.2
        refine x_bipush (v := 16) hC dL_law_273 (by decide) ?_
        obtain ⟨J70, h, hJ70⟩ := h
        have HJ70 : ∀ (j71 : Int32), J70 j71 → x_W x g 22 (x_lQ x b) N69 286 [(0, .ref b), (1, .ref (x_a g 180)), (2, .ref (x_a g 193)), (3, .ref (x_a g 194)), (4, .ref (x_a g 195)), (5, .ref (x_a g 196)), (6, .ref (x_a g 197)), (7, .ref (x_a g 198)), (8, .ref (x_a g 199)), (9, .ref (x_a g 200)), (10, .ref (x_a g 201)), (11, .ref (x_a g 202)), (12, .ref (x_a g 203)), (13, .ref (x_a g 204)), (14, .int v14), (15, .int v15), (17, .int v17), (18, .int (v17 + r64)), (19, .int ((1 : Int32) + r66))] [.int j71, .int r68] := by
          intro j71 hj
          have h := hJ70 j71 hj
          refine x_icmp_eq (t := 291) hC dL_law_286 (by decide) (fun q => ?_) (fun q => ?_)
          · replace h := h.1 q
            refine x_aload_n (i := 2) (q := 2) hC dL_law_291 rfl rfl ?_
            refine x_iconst (v := 1) hC dL_law_292 (by decide) ?_
            refine x_iald (len := 8) hC xa_193 h.1 dL_law_293 ?_
            replace h := h.2
            refine x_bipush (v := 16) hC dL_law_294 (by decide) ?_
            refine x_icmp_ge (t := 338) hC dL_law_296 (by decide) (fun q => ?_) (fun q => ?_)
            · replace h := h.1 q
              refine x_goto (t := 856) hC dL_law_338 (by decide) ?_
              obtain ⟨n_10, hn, h⟩ := h
              exact x_sub [0, 1, 2, 3, 4, 5, 6, 7, 8, 9, 10, 11, 12, 13, 14, 15] rfl ((ih n_10 hn).2.2.2.2.2.2.2.2.2 _ _ _ h)
            · replace h := h.2 q
              refine x_aload (q := 4) hC dL_law_299 rfl ?_
              refine x_iconst (v := 4) hC dL_law_301 (by decide) ?_
              refine x_aload_n (i := 2) (q := 2) hC dL_law_302 rfl rfl ?_
              refine x_iconst (v := 1) hC dL_law_303 (by decide) ?_
              refine x_iald (len := 8) hC xa_193 h.1 dL_law_304 ?_
              replace h := h.2
              refine x_imul hC dL_law_305 ?_
              refine x_iload (q := 16) hC dL_law_306 rfl ?_
              refine x_iast (len := 64) hC xa_195 h.1 dL_law_308 ?_
              replace h := h.2
              refine x_aload (q := 4) hC dL_law_309 rfl ?_
              refine x_iconst (v := 4) hC dL_law_311 (by decide) ?_
              refine x_aload_n (i := 2) (q := 2) hC dL_law_312 rfl rfl ?_
              refine x_iconst (v := 1) hC dL_law_313 (by decide) ?_
              refine x_iald (len := 8) hC xa_193 h.1 dL_law_314 ?_
              replace h := h.2
              refine x_imul hC dL_law_315 ?_
              refine x_iconst (v := 1) hC dL_law_316 (by decide) ?_
              refine x_iadd hC dL_law_317 ?_
              refine x_iload (q := 17) hC dL_law_318 rfl ?_
              refine x_iast (len := 64) hC xa_195 h.1 dL_law_320 ?_
              replace h := h.2
              refine x_topM (fun N72 qN72 => ?_)
              replace h := h N72 qN72
              refine x_aload (q := 4) hC dL_law_321 rfl ?_
              refine x_iconst (v := 4) hC dL_law_323 (by decide) ?_
              refine x_aload_n (i := 2) (q := 2) hC dL_law_324 rfl rfl ?_
              refine x_iconst (v := 1) hC dL_law_325 (by decide) ?_
              refine x_dup2 hC dL_law_326 rfl rfl ?_
              refine x_iald (len := 8) hC xa_193 h.1 dL_law_327 ?_
              replace h := h.2
              refine x_dup_x2 hC dL_law_328 rfl rfl rfl ?_
              refine x_iconst (v := 1) hC dL_law_329 (by decide) ?_
              refine x_iadd hC dL_law_330 ?_
              refine x_iast (len := 8) hC xa_193 h.1 dL_law_331 ?_
              replace h := h.2
              refine x_imul hC dL_law_332 ?_
              refine x_iconst (v := 2) hC dL_law_333 (by decide) ?_
              refine x_iadd hC dL_law_334 ?_
              refine x_iload (q := 18) hC dL_law_335 rfl ?_
              refine x_iast (len := 64) hC xa_195 h.1 dL_law_337 ?_
              replace h := h.2
              refine x_topM (fun N73 qN73 => ?_)
              replace h := h N73 qN73
              refine x_goto (t := 856) hC dL_law_338 (by decide) ?_
              obtain ⟨n_10, hn, h⟩ := h
              exact x_sub [0, 1, 2, 3, 4, 5, 6, 7, 8, 9, 10, 11, 12, 13, 14, 15] rfl ((ih n_10 hn).2.2.2.2.2.2.2.2.2 _ _ _ h)
          · replace h := h.2 q
            refine x_iconst (v := 0) hC dL_law_289 (by decide) ?_
            exact h.elim
        refine x_icmp_ne (t := 283) hC dL_law_275 (by decide) (fun q => ?_) (fun q => ?_)
        · replace h := h.1 q
          refine x_aload_n (i := 2) (q := 4) hC dL_law_283 rfl rfl ?_
          refine x_iconst (v := 1) hC dL_law_284 (by decide) ?_
          refine x_iald (len := 8) hC xa_193 h.1 dL_law_285 ?_
          replace h := h.2
          exact x_sub [2, 3, 4, 5, 6, 7, 8, 9, 10, 11, 12, 13, 14, 15, 16, 17, 18, 1, 0] rfl (HJ70 _ h)
        · replace h := h.2 q
          refine x_bipush (v := -4) hC dL_law_278 (by decide) ?_
          refine x_goto (t := 286) hC dL_law_280 (by decide) ?_
          exact x_sub [2, 3, 4, 5, 6, 7, 8, 9, 10, 11, 12, 13, 14, 15, 16, 17, 18, 1, 0] rfl (HJ70 _ h)
      · intro v14 v15 v17 M hI
        have h := h4 n v14 v15 v17 M hI
        unfold vc_L_law_4 at h
        refine x_iload (q := 16) hC dL_law_351 rfl ?_
        refine x_iconst (v := 3) hC dL_law_353 (by decide) ?_
        refine x_icmp_ge (t := 586) hC dL_law_354 (by decide) (fun q => ?_) (fun q => ?_)
        · replace h := h.1 q
          refine x_goto (t := 856) hC dL_law_586 (by decide) ?_
          obtain ⟨n_10, hn, h⟩ := h
          exact x_sub [0, 1, 2, 3, 4, 5, 6, 7, 8, 9, 10, 11, 12, 13, 14, 15] rfl ((ih n_10 hn).2.2.2.2.2.2.2.2.2 _ _ _ h)
        · replace h := h.2 q
          refine x_iload (q := 15) hC dL_law_357 rfl ?_
          refine x_iconst (v := 4) hC dL_law_359 (by decide) ?_
          refine x_iload (q := 16) hC dL_law_360 rfl ?_
          refine x_iadd hC dL_law_362 ?_
          refine x_ishr hC dL_law_363 ?_
          refine x_aload_n (i := 2) (q := 2) hC dL_law_364 rfl rfl ?_
          refine x_iconst (v := 0) hC dL_law_365 (by decide) ?_
          refine x_iald (len := 8) hC xa_193 h.1 dL_law_366 ?_
          replace h := h.2
          refine x_callSi (As := [.int (v15 >>> (((4 : Int32) + v17) &&& 31)), .int (M 193 ((0 : Int32)).toNatClampNeg)]) hC h gL_law_L_low rfl rfl rfl hy_L_low.2 ⟨Nat.le_of_ble_eq_true rfl, Nat.le_of_ble_eq_true rfl⟩ rfl (Nat.le_of_ble_eq_true rfl) rfl dL_law_367 (fun r34 N35 h => ?_)
          refine x_istore (ls' := [(18, .int r34), (0, .ref b), (1, .ref (x_a g 180)), (2, .ref (x_a g 193)), (3, .ref (x_a g 194)), (4, .ref (x_a g 195)), (5, .ref (x_a g 196)), (6, .ref (x_a g 197)), (7, .ref (x_a g 198)), (8, .ref (x_a g 199)), (9, .ref (x_a g 200)), (10, .ref (x_a g 201)), (11, .ref (x_a g 202)), (12, .ref (x_a g 203)), (13, .ref (x_a g 204)), (14, .int v14), (15, .int v15), (17, .int v17)]) hC dL_law_370 (by decide) rfl ?_
          refine x_iload (q := 16) hC dL_law_372 rfl ?_
          refine x_bipush (v := 8) hC dL_law_374 (by decide) ?_
          refine x_iload (q := 17) hC dL_law_376 rfl ?_
          refine x_iadd hC dL_law_378 ?_
          refine x_ishr hC dL_law_379 ?_
          refine x_iconst (v := 2) hC dL_law_380 (by decide) ?_
          refine x_callSi (As := [.int (v15 >>> (((8 : Int32) + v17) &&& 31)), .int (2 : Int32)]) hC h gL_law_L_low rfl rfl rfl hy_L_low.2 ⟨Nat.le_of_ble_eq_true rfl, Nat.le_of_ble_eq_true rfl⟩ rfl (Nat.le_of_ble_eq_true rfl) rfl dL_law_381 (fun r36 N37 h => ?_)
          obtain ⟨J38, h, hJ38⟩ := h
          have HJ38 : ∀ (j39 : Int32) (N40 : xM), J38 j39 N40 → x_W x g 22 (x_lQ x b) N40 405 [(0, .ref b), (1, .ref (x_a g 180)), (2, .ref (x_a g 193)), (3, .ref (x_a g 194)), (4, .ref (x_a g 195)), (5, .ref (x_a g 196)), (6, .ref (x_a g 197)), (7, .ref (x_a g 198)), (8, .ref (x_a g 199)), (9, .ref (x_a g 200)), (10, .ref (x_a g 201)), (11, .ref (x_a g 202)), (12, .ref (x_a g 203)), (13, .ref (x_a g 204)), (14, .int v14), (15, .int v15), (17, .int v17), (18, .int r34)] [.int j39] := by
            intro j39 N40 hj
            have h := hJ38 j39 N40 hj
            refine x_istore (ls' := [(19, .int j39), (0, .ref b), (1, .ref (x_a g 180)), (2, .ref (x_a g 193)), (3, .ref (x_a g 194)), (4, .ref (x_a g 195)), (5, .ref (x_a g 196)), (6, .ref (x_a g 197)), (7, .ref (x_a g 198)), (8, .ref (x_a g 199)), (9, .ref (x_a g 200)), (10, .ref (x_a g 201)), (11, .ref (x_a g 202)), (12, .ref (x_a g 203)), (13, .ref (x_a g 204)), (14, .int v14), (15, .int v15), (17, .int v17), (18, .int r34)]) hC dL_law_405 (by decide) rfl ?_
            refine x_iload (q := 16) hC dL_law_407 rfl ?_
            refine x_bipush (v := 12) hC dL_law_409 (by decide) ?_
            refine x_iload (q := 17) hC dL_law_411 rfl ?_
            refine x_iadd hC dL_law_413 ?_
            refine x_ishr hC dL_law_414 ?_
            refine x_aload_n (i := 2) (q := 3) hC dL_law_415 rfl rfl ?_
            refine x_iconst (v := 1) hC dL_law_416 (by decide) ?_
            refine x_iald (len := 8) hC xa_193 h.1 dL_law_417 ?_
            replace h := h.2
            refine x_callSi (As := [.int (v15 >>> (((12 : Int32) + v17) &&& 31)), .int (N40 193 ((1 : Int32)).toNatClampNeg)]) hC h gL_law_L_low rfl rfl rfl hy_L_low.2 ⟨Nat.le_of_ble_eq_true rfl, Nat.le_of_ble_eq_true rfl⟩ rfl (Nat.le_of_ble_eq_true rfl) rfl dL_law_418 (fun r41 N42 h => ?_)
            refine x_istore (ls' := [(20, .int r41), (19, .int j39), (0, .ref b), (1, .ref (x_a g 180)), (2, .ref (x_a g 193)), (3, .ref (x_a g 194)), (4, .ref (x_a g 195)), (5, .ref (x_a g 196)), (6, .ref (x_a g 197)), (7, .ref (x_a g 198)), (8, .ref (x_a g 199)), (9, .ref (x_a g 200)), (10, .ref (x_a g 201)), (11, .ref (x_a g 202)), (12, .ref (x_a g 203)), (13, .ref (x_a g 204)), (14, .int v14), (15, .int v15), (17, .int v17), (18, .int r34)]) hC dL_law_421 (by decide) rfl ?_
            refine x_iload (q := 19) hC dL_law_423 rfl ?_
            refine x_iload (q := 1) hC dL_law_425 rfl ?_
            obtain ⟨J43, h, hJ43⟩ := h
            have HJ43 : ∀ (j44 : Int32) (N45 : xM), J43 j44 N45 → x_W x g 22 (x_lQ x b) N45 471 [(0, .ref b), (1, .ref (x_a g 180)), (2, .ref (x_a g 193)), (3, .ref (x_a g 194)), (4, .ref (x_a g 195)), (5, .ref (x_a g 196)), (6, .ref (x_a g 197)), (7, .ref (x_a g 198)), (8, .ref (x_a g 199)), (9, .ref (x_a g 200)), (10, .ref (x_a g 201)), (11, .ref (x_a g 202)), (12, .ref (x_a g 203)), (13, .ref (x_a g 204)), (14, .int v14), (15, .int v15), (17, .int v17), (18, .int r34), (19, .int j39), (20, .int r41)] [.int j44] := by
              intro j44 N45 hj
              have h := hJ43 j44 N45 hj
              refine x_istore (ls' := [(21, .int j44), (0, .ref b), (1, .ref (x_a g 180)), (2, .ref (x_a g 193)), (3, .ref (x_a g 194)), (4, .ref (x_a g 195)), (5, .ref (x_a g 196)), (6, .ref (x_a g 197)), (7, .ref (x_a g 198)), (8, .ref (x_a g 199)), (9, .ref (x_a g 200)), (10, .ref (x_a g 201)), (11, .ref (x_a g 202)), (12, .ref (x_a g 203)), (13, .ref (x_a g 204)), (14, .int v14), (15, .int v15), (17, .int v17), (18, .int r34), (19, .int j39), (20, .int r41)]) hC dL_law_471 (by decide) rfl ?_
              refine x_aload_n (i := 1) (q := 2) hC dL_law_473 rfl rfl ?_
              refine x_iload (q := 18) hC dL_law_474 rfl ?_
              refine x_iload (q := 19) hC dL_law_476 rfl ?_
              obtain ⟨J46, h, hJ46⟩ := h
              have HJ46 : ∀ (j47 : Int32), J46 j47 → x_W x g 22 (x_lQ x b) N45 488 [(0, .ref b), (1, .ref (x_a g 180)), (2, .ref (x_a g 193)), (3, .ref (x_a g 194)), (4, .ref (x_a g 195)), (5, .ref (x_a g 196)), (6, .ref (x_a g 197)), (7, .ref (x_a g 198)), (8, .ref (x_a g 199)), (9, .ref (x_a g 200)), (10, .ref (x_a g 201)), (11, .ref (x_a g 202)), (12, .ref (x_a g 203)), (13, .ref (x_a g 204)), (14, .int v14), (15, .int v15), (17, .int v17), (18, .int r34), (19, .int j39), (20, .int r41), (21, .int j44)] [.int j47, .int r34, .ref (x_a g 180)] := by
                intro j47 hj
                have h := hJ46 j47 hj
                refine x_iload (q := 19) hC dL_law_488 rfl ?_
                refine x_callVi (q := (RX9, TX9, 7)) (As := [.int r34, .int j47, .int r41]) hC xo_180 rfl h gL_law_X9_key rfl rfl rfl hy_X9_key ⟨Nat.le_of_ble_eq_true rfl, Nat.le_of_ble_eq_true rfl⟩ rfl (Nat.le_of_ble_eq_true rfl) rfl dL_law_490 (fun r48 N49 h => ?_)
                refine x_iload (q := 17) hC dL_law_493 rfl ?_
                refine x_iload (q := 18) hC dL_law_495 rfl ?_
                obtain ⟨J50, h, hJ50⟩ := h
                have HJ50 : ∀ (j51 : Int32) (N52 : xM), J50 j51 N52 → x_W x g 22 (x_lQ x b) N52 517 [(0, .ref b), (1, .ref (x_a g 180)), (2, .ref (x_a g 193)), (3, .ref (x_a g 194)), (4, .ref (x_a g 195)), (5, .ref (x_a g 196)), (6, .ref (x_a g 197)), (7, .ref (x_a g 198)), (8, .ref (x_a g 199)), (9, .ref (x_a g 200)), (10, .ref (x_a g 201)), (11, .ref (x_a g 202)), (12, .ref (x_a g 203)), (13, .ref (x_a g 204)), (14, .int v14), (15, .int v15), (17, .int v17), (18, .int r34), (19, .int j39), (20, .int r41), (21, .int j44)] [.int j51, .int r48] := by
                  intro j51 N52 hj
                  have h := hJ50 j51 N52 hj
                  refine x_icmp_ne (t := 545) hC dL_law_517 (by decide) (fun q => ?_) (fun q => ?_)
                  · replace h := h.1 q
                    refine x_iconst (v := 0) hC dL_law_545 (by decide) ?_
                    exact h.elim
                  · replace h := h.2 q
                    refine x_aload_n (i := 1) (q := 1) hC dL_law_520 rfl rfl ?_
                    refine x_iload (q := 17) hC dL_law_521 rfl ?_
                    refine x_iload (q := 18) hC dL_law_523 rfl ?_
                    obtain ⟨J53, h, hJ53⟩ := h
                    have HJ53 : ∀ (j54 : Int32), J53 j54 → x_W x g 22 (x_lQ x b) N52 535 [(0, .ref b), (1, .ref (x_a g 180)), (2, .ref (x_a g 193)), (3, .ref (x_a g 194)), (4, .ref (x_a g 195)), (5, .ref (x_a g 196)), (6, .ref (x_a g 197)), (7, .ref (x_a g 198)), (8, .ref (x_a g 199)), (9, .ref (x_a g 200)), (10, .ref (x_a g 201)), (11, .ref (x_a g 202)), (12, .ref (x_a g 203)), (13, .ref (x_a g 204)), (14, .int v14), (15, .int v15), (17, .int v17), (18, .int r34), (19, .int j39), (20, .int r41), (21, .int j44)] [.int j54, .int r34, .ref (x_a g 180)] := by
                      intro j54 hj
                      have h := hJ53 j54 hj
                      refine x_iload (q := 19) hC dL_law_535 rfl ?_
                      refine x_callVi (q := (RX9, TX9, 7)) (As := [.int r34, .int j54, .int r41]) hC xo_180 rfl h gL_law_X9_wish rfl rfl rfl hy_X9_wish ⟨Nat.le_of_ble_eq_true rfl, Nat.le_of_ble_eq_true rfl⟩ rfl (Nat.le_of_ble_eq_true rfl) rfl dL_law_537 (fun r55 N56 h => ?_)
                      refine x_iload (q := 20) hC dL_law_540 rfl ?_
                      refine x_icmp_eq (t := 547) hC dL_law_542 (by decide) (fun q => ?_) (fun q => ?_)
                      · replace h := h.1 q
                        refine x_iload (q := 20) hC dL_law_547 rfl ?_
                        refine x_if_lt (t := 580) hC dL_law_549 (by decide) (fun q => ?_) (fun q => ?_)
                        · replace h := h.1 q
                          refine x_iinc (k := 16) (v' := (v17 + (1 : Int32))) (ls' := [(17, .int (v17 + (1 : Int32))), (0, .ref b), (1, .ref (x_a g 180)), (2, .ref (x_a g 193)), (3, .ref (x_a g 194)), (4, .ref (x_a g 195)), (5, .ref (x_a g 196)), (6, .ref (x_a g 197)), (7, .ref (x_a g 198)), (8, .ref (x_a g 199)), (9, .ref (x_a g 200)), (10, .ref (x_a g 201)), (11, .ref (x_a g 202)), (12, .ref (x_a g 203)), (13, .ref (x_a g 204)), (14, .int v14), (15, .int v15), (18, .int r34), (19, .int j39), (20, .int r41), (21, .int j44)]) hC dL_law_580 rfl rfl (by decide) rfl ?_
                          refine x_goto (t := 351) hC dL_law_583 (by decide) ?_
                          obtain ⟨n_4, hn, h⟩ := h
                          exact x_sub [1, 2, 3, 4, 5, 6, 7, 8, 9, 10, 11, 12, 13, 14, 15, 16, 0] rfl ((ih n_4 hn).2.2.2.1 _ _ _ _ h)
                        · replace h := h.2 q
                          refine x_aload (q := 5) hC dL_law_552 rfl ?_
                          refine x_aload_n (i := 2) (q := 2) hC dL_law_554 rfl rfl ?_
                          refine x_iconst (v := 2) hC dL_law_555 (by decide) ?_
                          refine x_dup2 hC dL_law_556 rfl rfl ?_
                          refine x_iald (len := 8) hC xa_193 h.1 dL_law_557 ?_
                          replace h := h.2
                          refine x_dup_x2 hC dL_law_558 rfl rfl rfl ?_
                          refine x_iconst (v := 1) hC dL_law_559 (by decide) ?_
                          refine x_iadd hC dL_law_560 ?_
                          refine x_iast (len := 8) hC xa_193 h.1 dL_law_561 ?_
                          replace h := h.2
                          refine x_sipush (v := 10000) hC dL_law_562 (by decide) ?_
                          refine x_iload (q := 19) hC dL_law_565 rfl ?_
                          refine x_imul hC dL_law_567 ?_
                          refine x_bipush (v := 100) hC dL_law_568 (by decide) ?_
                          refine x_iload (q := 18) hC dL_law_570 rfl ?_
                          refine x_iconst (v := 1) hC dL_law_572 (by decide) ?_
                          refine x_iadd hC dL_law_573 ?_
                          refine x_imul hC dL_law_574 ?_
                          refine x_iadd hC dL_law_575 ?_
                          refine x_iload (q := 17) hC dL_law_576 rfl ?_
                          refine x_iadd hC dL_law_578 ?_
                          refine x_iast (len := 20) hC xa_196 h.1 dL_law_579 ?_
                          replace h := h.2
                          refine x_topM (fun N57 qN57 => ?_)
                          replace h := h N57 qN57
                          refine x_iinc (k := 16) (v' := (v17 + (1 : Int32))) (ls' := [(17, .int (v17 + (1 : Int32))), (0, .ref b), (1, .ref (x_a g 180)), (2, .ref (x_a g 193)), (3, .ref (x_a g 194)), (4, .ref (x_a g 195)), (5, .ref (x_a g 196)), (6, .ref (x_a g 197)), (7, .ref (x_a g 198)), (8, .ref (x_a g 199)), (9, .ref (x_a g 200)), (10, .ref (x_a g 201)), (11, .ref (x_a g 202)), (12, .ref (x_a g 203)), (13, .ref (x_a g 204)), (14, .int v14), (15, .int v15), (18, .int r34), (19, .int j39), (20, .int r41), (21, .int j44)]) hC dL_law_580 rfl rfl (by decide) rfl ?_
                          refine x_goto (t := 351) hC dL_law_583 (by decide) ?_
                          obtain ⟨n_4, hn, h⟩ := h
                          exact x_sub [1, 2, 3, 4, 5, 6, 7, 8, 9, 10, 11, 12, 13, 14, 15, 16, 0] rfl ((ih n_4 hn).2.2.2.1 _ _ _ _ h)
                      · replace h := h.2 q
                        refine x_iconst (v := 0) hC dL_law_545 (by decide) ?_
                        exact h.elim
                    refine x_if_ge (t := 533) hC dL_law_525 (by decide) (fun q => ?_) (fun q => ?_)
                    · replace h := h.1 q
                      refine x_iload (q := 18) hC dL_law_533 rfl ?_
                      exact x_sub [0, 1, 2, 3, 4, 5, 6, 7, 8, 9, 10, 11, 12, 13, 14, 15, 16, 17, 18, 19, 20] rfl (HJ53 _ h)
                    · replace h := h.2 q
                      refine x_bipush (v := -6) hC dL_law_528 (by decide) ?_
                      refine x_goto (t := 535) hC dL_law_530 (by decide) ?_
                      exact x_sub [0, 1, 2, 3, 4, 5, 6, 7, 8, 9, 10, 11, 12, 13, 14, 15, 16, 17, 18, 19, 20] rfl (HJ53 _ h)
                refine x_icmp_ne (t := 505) hC dL_law_497 (by decide) (fun q => ?_) (fun q => ?_)
                · replace h := h.1 q
                  refine x_iload (q := 17) hC dL_law_505 rfl ?_
                  refine x_iload (q := 18) hC dL_law_507 rfl ?_
                  refine x_iload (q := 19) hC dL_law_509 rfl ?_
                  refine x_aload_n (i := 3) (q := 3) hC dL_law_511 rfl rfl ?_
                  refine x_aload (q := 4) hC dL_law_512 rfl ?_
                  refine x_callSi (As := [.int r34, .int j39, .int r41, .ref (x_a g 194), .ref (x_a g 195)]) hC h gL_law_L_key rfl rfl rfl hy_L_key.2 ⟨Nat.le_of_ble_eq_true rfl, Nat.le_of_ble_eq_true rfl⟩ rfl (Nat.le_of_ble_eq_true rfl) rfl dL_law_514 (fun r58 N59 h => ?_)
                  exact x_sub [0, 1, 2, 3, 4, 5, 6, 7, 8, 9, 10, 11, 12, 13, 14, 15, 16, 17, 18, 19, 20] rfl (HJ50 _ _ h)
                · replace h := h.2 q
                  refine x_bipush (v := -2) hC dL_law_500 (by decide) ?_
                  refine x_goto (t := 517) hC dL_law_502 (by decide) ?_
                  exact x_sub [0, 1, 2, 3, 4, 5, 6, 7, 8, 9, 10, 11, 12, 13, 14, 15, 16, 17, 18, 19, 20] rfl (HJ50 _ _ h)
              refine x_if_ge (t := 486) hC dL_law_478 (by decide) (fun q => ?_) (fun q => ?_)
              · replace h := h.1 q
                refine x_iload (q := 19) hC dL_law_486 rfl ?_
                exact x_sub [1, 2, 3, 4, 5, 6, 7, 8, 9, 10, 11, 12, 13, 14, 15, 16, 17, 18, 19, 20, 0] rfl (HJ46 _ h)
              · replace h := h.2 q
                refine x_bipush (v := -6) hC dL_law_481 (by decide) ?_
                refine x_goto (t := 488) hC dL_law_483 (by decide) ?_
                exact x_sub [1, 2, 3, 4, 5, 6, 7, 8, 9, 10, 11, 12, 13, 14, 15, 16, 17, 18, 19, 20, 0] rfl (HJ46 _ h)
            refine x_icmp_ne (t := 435) hC dL_law_427 (by decide) (fun q => ?_) (fun q => ?_)
            · replace h := h.1 q
              refine x_aload_n (i := 2) (q := 4) hC dL_law_435 rfl rfl ?_
              refine x_iconst (v := 2) hC dL_law_436 (by decide) ?_
              refine x_iald (len := 8) hC xa_193 h.1 dL_law_437 ?_
              replace h := h.2
              refine x_bipush (v := 20) hC dL_law_438 (by decide) ?_
              refine x_icmp_ne (t := 448) hC dL_law_440 (by decide) (fun q => ?_) (fun q => ?_)
              · replace h := h.1 q
                refine x_iload (q := 19) hC dL_law_448 rfl ?_
                refine x_iload (q := 1) hC dL_law_450 rfl ?_
                refine x_iload (q := 0) hC dL_law_452 rfl ?_
                refine x_aload_n (i := 3) (q := 5) hC dL_law_454 rfl rfl ?_
                refine x_aload (q := 6) hC dL_law_455 rfl ?_
                refine x_callSi (As := [.int r34, .int j39, .int r41, .ref (x_a g 194), .ref (x_a g 195)]) hC h gL_law_L_key rfl rfl rfl hy_L_key.2 ⟨Nat.le_of_ble_eq_true rfl, Nat.le_of_ble_eq_true rfl⟩ rfl (Nat.le_of_ble_eq_true rfl) rfl dL_law_457 (fun r60 N61 h => ?_)
                refine x_if_ge (t := 468) hC dL_law_460 (by decide) (fun q => ?_) (fun q => ?_)
                · replace h := h.1 q
                  refine x_aload_n (i := 2) (q := 4) hC dL_law_468 rfl rfl ?_
                  refine x_iconst (v := 2) hC dL_law_469 (by decide) ?_
                  refine x_iald (len := 8) hC xa_193 h.1 dL_law_470 ?_
                  replace h := h.2
                  exact x_sub [2, 3, 4, 5, 6, 7, 8, 9, 10, 11, 12, 13, 14, 15, 16, 17, 18, 19, 1, 0] rfl (HJ43 _ _ h)
                · replace h := h.2 q
                  refine x_bipush (v := -5) hC dL_law_463 (by decide) ?_
                  refine x_goto (t := 471) hC dL_law_465 (by decide) ?_
                  exact x_sub [2, 3, 4, 5, 6, 7, 8, 9, 10, 11, 12, 13, 14, 15, 16, 17, 18, 19, 1, 0] rfl (HJ43 _ _ h)
              · replace h := h.2 q
                refine x_bipush (v := -4) hC dL_law_443 (by decide) ?_
                refine x_goto (t := 471) hC dL_law_445 (by decide) ?_
                exact x_sub [2, 3, 4, 5, 6, 7, 8, 9, 10, 11, 12, 13, 14, 15, 16, 17, 18, 19, 1, 0] rfl (HJ43 _ _ h)
            · replace h := h.2 q
              refine x_bipush (v := -2) hC dL_law_430 (by decide) ?_
              refine x_goto (t := 471) hC dL_law_432 (by decide) ?_
              exact x_sub [2, 3, 4, 5, 6, 7, 8, 9, 10, 11, 12, 13, 14, 15, 16, 17, 18, 19, 1, 0] rfl (HJ43 _ _ h)
          refine x_if_ne (t := 404) hC dL_law_384 (by decide) (fun q => ?_) (fun q => ?_)
          · replace h := h.1 q
            refine x_iconst (v := -1) hC dL_law_404 (by decide) ?_
            exact x_sub [1, 2, 3, 4, 5, 6, 7, 8, 9, 10, 11, 12, 13, 14, 15, 16, 17, 0] rfl (HJ38 _ _ h)
          · replace h := h.2 q
            refine x_iload (q := 16) hC dL_law_387 rfl ?_
            refine x_bipush (v := 9) hC dL_law_389 (by decide) ?_
            refine x_iload (q := 17) hC dL_law_391 rfl ?_
            refine x_iadd hC dL_law_393 ?_
            refine x_ishr hC dL_law_394 ?_
            refine x_aload_n (i := 2) (q := 3) hC dL_law_395 rfl rfl ?_
            refine x_iconst (v := 0) hC dL_law_396 (by decide) ?_
            refine x_iald (len := 8) hC xa_193 h.1 dL_law_397 ?_
            replace h := h.2
            refine x_callSi (As := [.int (v15 >>> (((9 : Int32) + v17) &&& 31)), .int (N37 193 ((0 : Int32)).toNatClampNeg)]) hC h gL_law_L_low rfl rfl rfl hy_L_low.2 ⟨Nat.le_of_ble_eq_true rfl, Nat.le_of_ble_eq_true rfl⟩ rfl (Nat.le_of_ble_eq_true rfl) rfl dL_law_398 (fun r62 N63 h => ?_)
            refine x_goto (t := 405) hC dL_law_401 (by decide) ?_
            exact x_sub [1, 2, 3, 4, 5, 6, 7, 8, 9, 10, 11, 12, 13, 14, 15, 16, 17, 0] rfl (HJ38 _ _ h)
      · intro v14 v15 M hI
        have h := h5 n v14 v15 M hI
        unfold vc_L_law_5 at h
        refine x_iload (q := 15) hC dL_law_596 rfl ?_
        refine x_iconst (v := 4) hC dL_law_598 (by decide) ?_
        refine x_ishr hC dL_law_599 ?_
        refine x_aload_n (i := 2) (q := 2) hC dL_law_600 rfl rfl ?_
        refine x_iconst (v := 0) hC dL_law_601 (by decide) ?_
        refine x_iald (len := 8) hC xa_193 h.1 dL_law_602 ?_
        replace h := h.2
        refine x_callSi (As := [.int (v15 >>> ((4 : Int32) &&& 31)), .int (M 193 ((0 : Int32)).toNatClampNeg)]) hC h gL_law_L_low rfl rfl rfl hy_L_low.2 ⟨Nat.le_of_ble_eq_true rfl, Nat.le_of_ble_eq_true rfl⟩ rfl (Nat.le_of_ble_eq_true rfl) rfl dL_law_603 (fun r17 N18 h => ?_)
        refine x_istore (ls' := [(17, .int r17), (0, .ref b), (1, .ref (x_a g 180)), (2, .ref (x_a g 193)), (3, .ref (x_a g 194)), (4, .ref (x_a g 195)), (5, .ref (x_a g 196)), (6, .ref (x_a g 197)), (7, .ref (x_a g 198)), (8, .ref (x_a g 199)), (9, .ref (x_a g 200)), (10, .ref (x_a g 201)), (11, .ref (x_a g 202)), (12, .ref (x_a g 203)), (13, .ref (x_a g 204)), (14, .int v14), (15, .int v15)]) hC dL_law_606 (by decide) rfl ?_
        refine x_iload (q := 16) hC dL_law_608 rfl ?_
        refine x_bipush (v := 8) hC dL_law_610 (by decide) ?_
        refine x_ishr hC dL_law_612 ?_
        refine x_iconst (v := 2) hC dL_law_613 (by decide) ?_
        refine x_callSi (As := [.int (v15 >>> ((8 : Int32) &&& 31)), .int (2 : Int32)]) hC h gL_law_L_low rfl rfl rfl hy_L_low.2 ⟨Nat.le_of_ble_eq_true rfl, Nat.le_of_ble_eq_true rfl⟩ rfl (Nat.le_of_ble_eq_true rfl) rfl dL_law_614 (fun r19 N20 h => ?_)
        obtain ⟨J21, h, hJ21⟩ := h
        have HJ21 : ∀ (j22 : Int32), J21 j22 → x_W x g 22 (x_lQ x b) N20 625 [(0, .ref b), (1, .ref (x_a g 180)), (2, .ref (x_a g 193)), (3, .ref (x_a g 194)), (4, .ref (x_a g 195)), (5, .ref (x_a g 196)), (6, .ref (x_a g 197)), (7, .ref (x_a g 198)), (8, .ref (x_a g 199)), (9, .ref (x_a g 200)), (10, .ref (x_a g 201)), (11, .ref (x_a g 202)), (12, .ref (x_a g 203)), (13, .ref (x_a g 204)), (14, .int v14), (15, .int v15), (17, .int r17)] [.int j22] := by
          intro j22 hj
          have h := hJ21 j22 hj
          refine x_istore (ls' := [(18, .int j22), (0, .ref b), (1, .ref (x_a g 180)), (2, .ref (x_a g 193)), (3, .ref (x_a g 194)), (4, .ref (x_a g 195)), (5, .ref (x_a g 196)), (6, .ref (x_a g 197)), (7, .ref (x_a g 198)), (8, .ref (x_a g 199)), (9, .ref (x_a g 200)), (10, .ref (x_a g 201)), (11, .ref (x_a g 202)), (12, .ref (x_a g 203)), (13, .ref (x_a g 204)), (14, .int v14), (15, .int v15), (17, .int r17)]) hC dL_law_625 (by decide) rfl ?_
          refine x_aload_n (i := 2) (q := 3) hC dL_law_627 rfl rfl ?_
          refine x_iconst (v := 3) hC dL_law_628 (by decide) ?_
          refine x_iald (len := 8) hC xa_193 h.1 dL_law_629 ?_
          replace h := h.2
          refine x_iload (q := 17) hC dL_law_630 rfl ?_
          refine x_ishr hC dL_law_632 ?_
          refine x_iconst (v := 1) hC dL_law_633 (by decide) ?_
          refine x_iand hC dL_law_634 ?_
          refine x_iconst (v := 1) hC dL_law_635 (by decide) ?_
          obtain ⟨J23, h, hJ23⟩ := h
          have HJ23 : ∀ (j24 : Int32), J23 j24 → x_W x g 22 (x_lQ x b) N20 644 [(0, .ref b), (1, .ref (x_a g 180)), (2, .ref (x_a g 193)), (3, .ref (x_a g 194)), (4, .ref (x_a g 195)), (5, .ref (x_a g 196)), (6, .ref (x_a g 197)), (7, .ref (x_a g 198)), (8, .ref (x_a g 199)), (9, .ref (x_a g 200)), (10, .ref (x_a g 201)), (11, .ref (x_a g 202)), (12, .ref (x_a g 203)), (13, .ref (x_a g 204)), (14, .int v14), (15, .int v15), (17, .int r17), (18, .int j22)] [.int j24] := by
            intro j24 hj
            have h := hJ23 j24 hj
            refine x_istore (ls' := [(19, .int j24), (0, .ref b), (1, .ref (x_a g 180)), (2, .ref (x_a g 193)), (3, .ref (x_a g 194)), (4, .ref (x_a g 195)), (5, .ref (x_a g 196)), (6, .ref (x_a g 197)), (7, .ref (x_a g 198)), (8, .ref (x_a g 199)), (9, .ref (x_a g 200)), (10, .ref (x_a g 201)), (11, .ref (x_a g 202)), (12, .ref (x_a g 203)), (13, .ref (x_a g 204)), (14, .int v14), (15, .int v15), (17, .int r17), (18, .int j22)]) hC dL_law_644 (by decide) rfl ?_
            refine x_iload (q := 0) hC dL_law_646 rfl ?_
            refine x_iload (q := 18) hC dL_law_648 rfl ?_
            obtain ⟨J25, h, hJ25⟩ := h
            have HJ25 : ∀ (N26 : xM), J25 N26 → x_W x g 22 (x_lQ x b) N26 663 [(0, .ref b), (1, .ref (x_a g 180)), (2, .ref (x_a g 193)), (3, .ref (x_a g 194)), (4, .ref (x_a g 195)), (5, .ref (x_a g 196)), (6, .ref (x_a g 197)), (7, .ref (x_a g 198)), (8, .ref (x_a g 199)), (9, .ref (x_a g 200)), (10, .ref (x_a g 201)), (11, .ref (x_a g 202)), (12, .ref (x_a g 203)), (13, .ref (x_a g 204)), (14, .int v14), (15, .int v15), (17, .int r17), (18, .int j22), (19, .int j24)] [] := by
              intro N26 hj
              have h := hJ25 N26 hj
              refine x_aload_n (i := 1) (q := 1) hC dL_law_663 rfl rfl ?_
              refine x_iload (q := 16) hC dL_law_664 rfl ?_
              refine x_iload (q := 17) hC dL_law_666 rfl ?_
              refine x_callVi (q := (RX9, TX9, 7)) (As := [.int r17, .int j22]) hC xo_180 rfl h gL_law_X9_leave rfl rfl rfl hy_X9_leave ⟨Nat.le_of_ble_eq_true rfl, Nat.le_of_ble_eq_true rfl⟩ rfl (Nat.le_of_ble_eq_true rfl) rfl dL_law_668 (fun r27 N28 h => ?_)
              refine x_iload (q := 18) hC dL_law_671 rfl ?_
              refine x_iload (q := 17) hC dL_law_673 rfl ?_
              obtain ⟨J29, h, hJ29⟩ := h
              have HJ29 : ∀ (j30 : Int32) (N31 : xM), J29 j30 N31 → x_W x g 22 (x_lQ x b) N31 689 [(0, .ref b), (1, .ref (x_a g 180)), (2, .ref (x_a g 193)), (3, .ref (x_a g 194)), (4, .ref (x_a g 195)), (5, .ref (x_a g 196)), (6, .ref (x_a g 197)), (7, .ref (x_a g 198)), (8, .ref (x_a g 199)), (9, .ref (x_a g 200)), (10, .ref (x_a g 201)), (11, .ref (x_a g 202)), (12, .ref (x_a g 203)), (13, .ref (x_a g 204)), (14, .int v14), (15, .int v15)] [.int j30, .int r27] := by
                intro j30 N31 hj
                have h := hJ29 j30 N31 hj
                refine x_icmp_eq (t := 694) hC dL_law_689 (by decide) (fun q => ?_) (fun q => ?_)
                · replace h := h.1 q
                  refine x_goto (t := 856) hC dL_law_694 (by decide) ?_
                  obtain ⟨n_10, hn, h⟩ := h
                  exact x_sub [0, 1, 2, 3, 4, 5, 6, 7, 8, 9, 10, 11, 12, 13, 14, 15] rfl ((ih n_10 hn).2.2.2.2.2.2.2.2.2 _ _ _ h)
                · replace h := h.2 q
                  refine x_iconst (v := 0) hC dL_law_692 (by decide) ?_
                  exact h.elim
              refine x_icmp_ne (t := 687) hC dL_law_675 (by decide) (fun q => ?_) (fun q => ?_)
              · replace h := h.1 q
                refine x_bipush (v := -5) hC dL_law_687 (by decide) ?_
                exact x_sub [0, 1, 2, 3, 4, 5, 6, 7, 8, 9, 10, 11, 12, 13, 14, 15] rfl (HJ29 _ _ h)
              · replace h := h.2 q
                refine x_aload_n (i := 2) (q := 2) hC dL_law_678 rfl rfl ?_
                refine x_iconst (v := 3) hC dL_law_679 (by decide) ?_
                refine x_iald (len := 8) hC xa_193 h.1 dL_law_680 ?_
                replace h := h.2
                refine x_callSi (As := [.int (N28 193 ((3 : Int32)).toNatClampNeg)]) hC h gL_law_L_bits rfl rfl rfl hy_L_bits.2 ⟨Nat.le_of_ble_eq_true rfl, Nat.le_of_ble_eq_true rfl⟩ rfl (Nat.le_of_ble_eq_true rfl) rfl dL_law_681 (fun r32 N33 h => ?_)
                refine x_goto (t := 689) hC dL_law_684 (by decide) ?_
                exact x_sub [0, 1, 2, 3, 4, 5, 6, 7, 8, 9, 10, 11, 12, 13, 14, 15] rfl (HJ29 _ _ h)
            refine x_icmp_ne (t := 663) hC dL_law_650 (by decide) (fun q => ?_) (fun q => ?_)
            · replace h := h.1 q
              exact x_sub [1, 2, 3, 4, 5, 6, 7, 8, 9, 10, 11, 12, 13, 14, 15, 16, 17, 18, 0] rfl (HJ25 _ h)
            · replace h := h.2 q
              refine x_aload_n (i := 2) (q := 3) hC dL_law_653 rfl rfl ?_
              refine x_iconst (v := 3) hC dL_law_654 (by decide) ?_
              refine x_dup2 hC dL_law_655 rfl rfl ?_
              refine x_iald (len := 8) hC xa_193 h.1 dL_law_656 ?_
              replace h := h.2
              refine x_iconst (v := 1) hC dL_law_657 (by decide) ?_
              refine x_iload (q := 17) hC dL_law_658 rfl ?_
              refine x_ishl hC dL_law_660 ?_
              refine x_ixor hC dL_law_661 ?_
              refine x_iast (len := 8) hC xa_193 h.1 dL_law_662 ?_
              replace h := h.2
              exact x_sub [1, 2, 3, 4, 5, 6, 7, 8, 9, 10, 11, 12, 13, 14, 15, 16, 17, 18, 0] rfl (HJ25 _ h)
          refine x_icmp_ne (t := 643) hC dL_law_636 (by decide) (fun q => ?_) (fun q => ?_)
          · replace h := h.1 q
            refine x_iconst (v := 0) hC dL_law_643 (by decide) ?_
            exact x_sub [1, 2, 3, 4, 5, 6, 7, 8, 9, 10, 11, 12, 13, 14, 15, 16, 17, 0] rfl (HJ23 _ h)
          · replace h := h.2 q
            refine x_iconst (v := 1) hC dL_law_639 (by decide) ?_
            refine x_goto (t := 644) hC dL_law_640 (by decide) ?_
            exact x_sub [1, 2, 3, 4, 5, 6, 7, 8, 9, 10, 11, 12, 13, 14, 15, 16, 17, 0] rfl (HJ23 _ h)
        refine x_if_ne (t := 624) hC dL_law_617 (by decide) (fun q => ?_) (fun q => ?_)
        · replace h := h.1 q
          refine x_iconst (v := 0) hC dL_law_624 (by decide) ?_
          exact x_sub [1, 2, 3, 4, 5, 6, 7, 8, 9, 10, 11, 12, 13, 14, 15, 16, 0] rfl (HJ21 _ h)
        · replace h := h.2 q
          refine x_iconst (v := 1) hC dL_law_620 (by decide) ?_
          refine x_goto (t := 625) hC dL_law_621 (by decide) ?_
          exact x_sub [1, 2, 3, 4, 5, 6, 7, 8, 9, 10, 11, 12, 13, 14, 15, 16, 0] rfl (HJ21 _ h)
      · intro v14 v15 M hI
        have h := h6 n v14 v15 M hI
        unfold vc_L_law_6 at h
        refine x_iload (q := 15) hC dL_law_710 rfl ?_
        refine x_iconst (v := 4) hC dL_law_712 (by decide) ?_
        refine x_ishr hC dL_law_713 ?_
        refine x_aload_n (i := 2) (q := 2) hC dL_law_714 rfl rfl ?_
        refine x_iconst (v := 2) hC dL_law_715 (by decide) ?_
        refine x_iald (len := 8) hC xa_193 h.1 dL_law_716 ?_
        replace h := h.2
        refine x_callSi (As := [.int (v15 >>> ((4 : Int32) &&& 31)), .int (M 193 ((2 : Int32)).toNatClampNeg)]) hC h gL_law_L_low rfl rfl rfl hy_L_low.2 ⟨Nat.le_of_ble_eq_true rfl, Nat.le_of_ble_eq_true rfl⟩ rfl (Nat.le_of_ble_eq_true rfl) rfl dL_law_717 (fun r15 N16 h => ?_)
        refine x_istore (ls' := [(17, .int r15), (0, .ref b), (1, .ref (x_a g 180)), (2, .ref (x_a g 193)), (3, .ref (x_a g 194)), (4, .ref (x_a g 195)), (5, .ref (x_a g 196)), (6, .ref (x_a g 197)), (7, .ref (x_a g 198)), (8, .ref (x_a g 199)), (9, .ref (x_a g 200)), (10, .ref (x_a g 201)), (11, .ref (x_a g 202)), (12, .ref (x_a g 203)), (13, .ref (x_a g 204)), (14, .int v14), (15, .int v15)]) hC dL_law_720 (by decide) rfl ?_
        refine x_iload (q := 0) hC dL_law_722 rfl ?_
        refine x_istore (ls' := [(18, .int r15), (17, .int r15), (0, .ref b), (1, .ref (x_a g 180)), (2, .ref (x_a g 193)), (3, .ref (x_a g 194)), (4, .ref (x_a g 195)), (5, .ref (x_a g 196)), (6, .ref (x_a g 197)), (7, .ref (x_a g 198)), (8, .ref (x_a g 199)), (9, .ref (x_a g 200)), (10, .ref (x_a g 201)), (11, .ref (x_a g 202)), (12, .ref (x_a g 203)), (13, .ref (x_a g 204)), (14, .int v14), (15, .int v15)]) hC dL_law_724 (by decide) rfl ?_
        obtain ⟨n_7, hn, h⟩ := h
        exact x_sub [2, 3, 4, 5, 6, 7, 8, 9, 10, 11, 12, 13, 14, 15, 16, 17, 1, 0] rfl ((ih n_7 hn).2.2.2.2.2.2.1 _ _ _ _ _ h)
      · intro v14 v15 v17 v18 M hI
        have h := h7 n v14 v15 v17 v18 M hI
        unfold vc_L_law_7 at h
        refine x_iload (q := 17) hC dL_law_726 rfl ?_
        refine x_iconst (v := 1) hC dL_law_728 (by decide) ?_
        refine x_iadd hC dL_law_729 ?_
        refine x_aload_n (i := 2) (q := 2) hC dL_law_730 rfl rfl ?_
        refine x_iconst (v := 2) hC dL_law_731 (by decide) ?_
        refine x_iald (len := 8) hC xa_193 h.1 dL_law_732 ?_
        replace h := h.2
        refine x_icmp_ge (t := 754) hC dL_law_733 (by decide) (fun q => ?_) (fun q => ?_)
        · replace h := h.1 q
          refine x_aload_n (i := 1) (q := 1) hC dL_law_754 rfl rfl ?_
          refine x_iload (q := 16) hC dL_law_755 rfl ?_
          refine x_callVi (q := (RX9, TX9, 7)) (As := [.int v17]) hC xo_180 rfl h gL_law_X9_takeBack rfl rfl rfl hy_X9_takeBack ⟨Nat.le_of_ble_eq_true rfl, Nat.le_of_ble_eq_true rfl⟩ rfl (Nat.le_of_ble_eq_true rfl) rfl dL_law_757 (fun r86 N87 h => ?_)
          refine x_aload_n (i := 2) (q := 2) hC dL_law_760 rfl rfl ?_
          refine x_iconst (v := 2) hC dL_law_761 (by decide) ?_
          refine x_dup2 hC dL_law_762 rfl rfl ?_
          refine x_iald (len := 8) hC xa_193 h.1 dL_law_763 ?_
          replace h := h.2
          refine x_iconst (v := 1) hC dL_law_764 (by decide) ?_
          refine x_isub hC dL_law_765 ?_
          refine x_dup_x2 hC dL_law_766 rfl rfl rfl ?_
          refine x_iast (len := 8) hC xa_193 h.1 dL_law_767 ?_
          replace h := h.2
          refine x_icmp_eq (t := 773) hC dL_law_768 (by decide) (fun q => ?_) (fun q => ?_)
          · replace h := h.1 q
            refine x_goto (t := 856) hC dL_law_773 (by decide) ?_
            obtain ⟨n_10, hn, h⟩ := h
            exact x_sub [0, 1, 2, 3, 4, 5, 6, 7, 8, 9, 10, 11, 12, 13, 14, 15] rfl ((ih n_10 hn).2.2.2.2.2.2.2.2.2 _ _ _ h)
          · replace h := h.2 q
            refine x_iconst (v := 0) hC dL_law_771 (by decide) ?_
            exact h.elim
        · replace h := h.2 q
          refine x_aload (q := 5) hC dL_law_736 rfl ?_
          refine x_iload (q := 17) hC dL_law_738 rfl ?_
          refine x_aload (q := 5) hC dL_law_740 rfl ?_
          refine x_iload (q := 17) hC dL_law_742 rfl ?_
          refine x_iconst (v := 1) hC dL_law_744 (by decide) ?_
          refine x_iadd hC dL_law_745 ?_
          refine x_iald (len := 20) hC xa_196 h.1 dL_law_746 ?_
          replace h := h.2
          refine x_iast (len := 20) hC xa_196 h.1 dL_law_747 ?_
          replace h := h.2
          refine x_iinc (k := 17) (v' := (v18 + (1 : Int32))) (ls' := [(18, .int (v18 + (1 : Int32))), (0, .ref b), (1, .ref (x_a g 180)), (2, .ref (x_a g 193)), (3, .ref (x_a g 194)), (4, .ref (x_a g 195)), (5, .ref (x_a g 196)), (6, .ref (x_a g 197)), (7, .ref (x_a g 198)), (8, .ref (x_a g 199)), (9, .ref (x_a g 200)), (10, .ref (x_a g 201)), (11, .ref (x_a g 202)), (12, .ref (x_a g 203)), (13, .ref (x_a g 204)), (14, .int v14), (15, .int v15), (17, .int v17)]) hC dL_law_748 rfl rfl (by decide) rfl ?_
          refine x_goto (t := 726) hC dL_law_751 (by decide) ?_
          obtain ⟨n_7, hn, h⟩ := h
          exact x_sub [1, 2, 3, 4, 5, 6, 7, 8, 9, 10, 11, 12, 13, 14, 15, 16, 17, 0] rfl ((ih n_7 hn).2.2.2.2.2.2.1 _ _ _ _ _ h)
      · intro v14 v15 M hI
        have h := h8 n v14 v15 M hI
        unfold vc_L_law_8 at h
        refine x_iconst (v := 1) hC dL_law_776 (by decide) ?_
        refine x_iload (q := 15) hC dL_law_777 rfl ?_
        refine x_iconst (v := 4) hC dL_law_779 (by decide) ?_
        refine x_ishr hC dL_law_780 ?_
        refine x_bipush (v := 6) hC dL_law_781 (by decide) ?_
        refine x_callSi (As := [.int (v15 >>> ((4 : Int32) &&& 31)), .int (6 : Int32)]) hC h gL_law_L_low rfl rfl rfl hy_L_low.2 ⟨Nat.le_of_ble_eq_true rfl, Nat.le_of_ble_eq_true rfl⟩ rfl (Nat.le_of_ble_eq_true rfl) rfl dL_law_783 (fun r11 N12 h => ?_)
        refine x_iadd hC dL_law_786 ?_
        refine x_istore (ls' := [(17, .int ((1 : Int32) + r11)), (0, .ref b), (1, .ref (x_a g 180)), (2, .ref (x_a g 193)), (3, .ref (x_a g 194)), (4, .ref (x_a g 195)), (5, .ref (x_a g 196)), (6, .ref (x_a g 197)), (7, .ref (x_a g 198)), (8, .ref (x_a g 199)), (9, .ref (x_a g 200)), (10, .ref (x_a g 201)), (11, .ref (x_a g 202)), (12, .ref (x_a g 203)), (13, .ref (x_a g 204)), (14, .int v14), (15, .int v15)]) hC dL_law_787 (by decide) rfl ?_
        refine x_iconst (v := 0) hC dL_law_789 (by decide) ?_
        refine x_istore (ls' := [(18, .int (0 : Int32)), (17, .int ((1 : Int32) + r11)), (0, .ref b), (1, .ref (x_a g 180)), (2, .ref (x_a g 193)), (3, .ref (x_a g 194)), (4, .ref (x_a g 195)), (5, .ref (x_a g 196)), (6, .ref (x_a g 197)), (7, .ref (x_a g 198)), (8, .ref (x_a g 199)), (9, .ref (x_a g 200)), (10, .ref (x_a g 201)), (11, .ref (x_a g 202)), (12, .ref (x_a g 203)), (13, .ref (x_a g 204)), (14, .int v14), (15, .int v15)]) hC dL_law_790 (by decide) rfl ?_
        refine x_aload_n (i := 2) (q := 4) hC dL_law_792 rfl rfl ?_
        refine x_aload_n (i := 3) (q := 5) hC dL_law_793 rfl rfl ?_
        refine x_aload (q := 7) hC dL_law_794 rfl ?_
        refine x_callSi (As := [.ref (x_a g 193), .ref (x_a g 194), .ref (x_a g 196)]) hC h gL_law_L_next rfl rfl rfl hy_L_next.2 ⟨Nat.le_of_ble_eq_true rfl, Nat.le_of_ble_eq_true rfl⟩ rfl (Nat.le_of_ble_eq_true rfl) rfl dL_law_796 (fun r13 N14 h => ?_)
        refine x_istore (ls' := [(19, .int r13), (18, .int (0 : Int32)), (17, .int ((1 : Int32) + r11)), (0, .ref b), (1, .ref (x_a g 180)), (2, .ref (x_a g 193)), (3, .ref (x_a g 194)), (4, .ref (x_a g 195)), (5, .ref (x_a g 196)), (6, .ref (x_a g 197)), (7, .ref (x_a g 198)), (8, .ref (x_a g 199)), (9, .ref (x_a g 200)), (10, .ref (x_a g 201)), (11, .ref (x_a g 202)), (12, .ref (x_a g 203)), (13, .ref (x_a g 204)), (14, .int v14), (15, .int v15)]) hC dL_law_799 (by decide) rfl ?_
        obtain ⟨n_9, hn, h⟩ := h
        exact x_sub [3, 4, 5, 6, 7, 8, 9, 10, 11, 12, 13, 14, 15, 16, 17, 18, 2, 1, 0] rfl ((ih n_9 hn).2.2.2.2.2.2.2.2.1 _ _ _ _ _ _ h)
      · intro v14 v15 v17 v18 v19 M hI
        have h := h9 n v14 v15 v17 v18 v19 M hI
        unfold vc_L_law_9 at h
        refine x_iload (q := 17) hC dL_law_801 rfl ?_
        refine x_iload (q := 16) hC dL_law_803 rfl ?_
        obtain ⟨J80, h, hJ80⟩ := h
        have HJ80 : J80 → x_W x g 22 (x_lQ x b) M 843 [(0, .ref b), (1, .ref (x_a g 180)), (2, .ref (x_a g 193)), (3, .ref (x_a g 194)), (4, .ref (x_a g 195)), (5, .ref (x_a g 196)), (6, .ref (x_a g 197)), (7, .ref (x_a g 198)), (8, .ref (x_a g 199)), (9, .ref (x_a g 200)), (10, .ref (x_a g 201)), (11, .ref (x_a g 202)), (12, .ref (x_a g 203)), (13, .ref (x_a g 204)), (14, .int v14), (15, .int v15), (17, .int v17), (18, .int v18)] [] := by
          intro hj
          have h := hJ80 hj
          refine x_aload_n (i := 1) (q := 1) hC dL_law_843 rfl rfl ?_
          refine x_iload (q := 16) hC dL_law_844 rfl ?_
          refine x_callVi (q := (RX9, TX9, 7)) (As := [.int v17]) hC xo_180 rfl h gL_law_X9_sing rfl rfl rfl hy_X9_sing ⟨Nat.le_of_ble_eq_true rfl, Nat.le_of_ble_eq_true rfl⟩ rfl (Nat.le_of_ble_eq_true rfl) rfl dL_law_846 (fun r81 N82 h => ?_)
          refine x_iload (q := 17) hC dL_law_849 rfl ?_
          refine x_icmp_eq (t := 856) hC dL_law_851 (by decide) (fun q => ?_) (fun q => ?_)
          · replace h := h.1 q
            obtain ⟨n_10, hn, h⟩ := h
            exact x_sub [0, 1, 2, 3, 4, 5, 6, 7, 8, 9, 10, 11, 12, 13, 14, 15] rfl ((ih n_10 hn).2.2.2.2.2.2.2.2.2 _ _ _ h)
          · replace h := h.2 q
            refine x_iconst (v := 0) hC dL_law_854 (by decide) ?_
            exact h.elim
        refine x_icmp_ge (t := 843) hC dL_law_805 (by decide) (fun q => ?_) (fun q => ?_)
        · replace h := h.1 q
          exact x_sub [0, 1, 2, 3, 4, 5, 6, 7, 8, 9, 10, 11, 12, 13, 14, 15, 16, 17] rfl (HJ80 h)
        · replace h := h.2 q
          refine x_iload (q := 18) hC dL_law_808 rfl ?_
          refine x_if_lt (t := 843) hC dL_law_810 (by decide) (fun q => ?_) (fun q => ?_)
          · replace h := h.1 q
            exact x_sub [0, 1, 2, 3, 4, 5, 6, 7, 8, 9, 10, 11, 12, 13, 14, 15, 16, 17] rfl (HJ80 h)
          · replace h := h.2 q
            refine x_iload (q := 18) hC dL_law_813 rfl ?_
            refine x_aload_n (i := 2) (q := 2) hC dL_law_815 rfl rfl ?_
            refine x_aload_n (i := 3) (q := 3) hC dL_law_816 rfl rfl ?_
            refine x_aload (q := 4) hC dL_law_817 rfl ?_
            refine x_aload (q := 5) hC dL_law_819 rfl ?_
            refine x_aload (q := 6) hC dL_law_821 rfl ?_
            refine x_aload (q := 7) hC dL_law_823 rfl ?_
            refine x_callSv (As := [.int v19, .ref (x_a g 193), .ref (x_a g 194), .ref (x_a g 195), .ref (x_a g 196), .ref (x_a g 197), .ref (x_a g 198)]) hC h gL_law_L_sing rfl rfl rfl hy_L_sing.2 ⟨Nat.le_of_ble_eq_true rfl, Nat.le_of_ble_eq_true rfl⟩ rfl (Nat.le_of_ble_eq_true rfl) rfl dL_law_825 (fun N83 h => ?_)
            refine x_iinc (k := 17) (v' := (v18 + (1 : Int32))) (ls' := [(18, .int (v18 + (1 : Int32))), (0, .ref b), (1, .ref (x_a g 180)), (2, .ref (x_a g 193)), (3, .ref (x_a g 194)), (4, .ref (x_a g 195)), (5, .ref (x_a g 196)), (6, .ref (x_a g 197)), (7, .ref (x_a g 198)), (8, .ref (x_a g 199)), (9, .ref (x_a g 200)), (10, .ref (x_a g 201)), (11, .ref (x_a g 202)), (12, .ref (x_a g 203)), (13, .ref (x_a g 204)), (14, .int v14), (15, .int v15), (17, .int v17), (19, .int v19)]) hC dL_law_828 rfl rfl (by decide) rfl ?_
            refine x_aload_n (i := 2) (q := 3) hC dL_law_831 rfl rfl ?_
            refine x_aload_n (i := 3) (q := 4) hC dL_law_832 rfl rfl ?_
            refine x_aload (q := 6) hC dL_law_833 rfl ?_
            refine x_callSi (As := [.ref (x_a g 193), .ref (x_a g 194), .ref (x_a g 196)]) hC h gL_law_L_next rfl rfl rfl hy_L_next.2 ⟨Nat.le_of_ble_eq_true rfl, Nat.le_of_ble_eq_true rfl⟩ rfl (Nat.le_of_ble_eq_true rfl) rfl dL_law_835 (fun r84 N85 h => ?_)
            refine x_istore (ls' := [(19, .int r84), (18, .int (v18 + (1 : Int32))), (0, .ref b), (1, .ref (x_a g 180)), (2, .ref (x_a g 193)), (3, .ref (x_a g 194)), (4, .ref (x_a g 195)), (5, .ref (x_a g 196)), (6, .ref (x_a g 197)), (7, .ref (x_a g 198)), (8, .ref (x_a g 199)), (9, .ref (x_a g 200)), (10, .ref (x_a g 201)), (11, .ref (x_a g 202)), (12, .ref (x_a g 203)), (13, .ref (x_a g 204)), (14, .int v14), (15, .int v15), (17, .int v17)]) hC dL_law_838 (by decide) rfl ?_
            refine x_goto (t := 801) hC dL_law_840 (by decide) ?_
            obtain ⟨n_9, hn, h⟩ := h
            exact x_sub [2, 3, 4, 5, 6, 7, 8, 9, 10, 11, 12, 13, 14, 15, 16, 17, 18, 1, 0] rfl ((ih n_9 hn).2.2.2.2.2.2.2.2.1 _ _ _ _ _ _ h)
      · intro v14 v15 M hI
        have h := h10 n v14 v15 M hI
        unfold vc_L_law_10 at h
        refine x_aload_n (i := 1) (q := 1) hC dL_law_856 rfl rfl ?_
        refine x_iload (q := 15) hC dL_law_857 rfl ?_
        refine x_iconst (v := 3) hC dL_law_859 (by decide) ?_
        refine x_ishr hC dL_law_860 ?_
        refine x_aload_n (i := 2) (q := 2) hC dL_law_861 rfl rfl ?_
        refine x_aload_n (i := 3) (q := 3) hC dL_law_862 rfl rfl ?_
        refine x_aload (q := 4) hC dL_law_863 rfl ?_
        refine x_aload (q := 5) hC dL_law_865 rfl ?_
        refine x_aload (q := 6) hC dL_law_867 rfl ?_
        refine x_aload (q := 7) hC dL_law_869 rfl ?_
        refine x_aload (q := 8) hC dL_law_871 rfl ?_
        refine x_aload (q := 9) hC dL_law_873 rfl ?_
        refine x_aload (q := 10) hC dL_law_875 rfl ?_
        refine x_aload (q := 11) hC dL_law_877 rfl ?_
        refine x_aload (q := 12) hC dL_law_879 rfl ?_
        refine x_aload (q := 13) hC dL_law_881 rfl ?_
        refine x_callSi (As := [.ref (x_a g 180), .int (v15 >>> ((3 : Int32) &&& 31)), .ref (x_a g 193), .ref (x_a g 194), .ref (x_a g 195), .ref (x_a g 196), .ref (x_a g 197), .ref (x_a g 198), .ref (x_a g 199), .ref (x_a g 200), .ref (x_a g 201), .ref (x_a g 202), .ref (x_a g 203), .ref (x_a g 204)]) hC h gL_law_L_same rfl rfl rfl hy_L_same.2 ⟨Nat.le_of_ble_eq_true rfl, Nat.le_of_ble_eq_true rfl⟩ rfl (Nat.le_of_ble_eq_true rfl) rfl dL_law_883 (fun r88 N89 h => ?_)
        refine x_if_ne (t := 891) hC dL_law_886 (by decide) (fun q => ?_) (fun q => ?_)
        · replace h := h.1 q
          refine x_iinc (k := 14) (v' := (v14 + (1 : Int32))) (ls' := [(14, .int (v14 + (1 : Int32))), (0, .ref b), (1, .ref (x_a g 180)), (2, .ref (x_a g 193)), (3, .ref (x_a g 194)), (4, .ref (x_a g 195)), (5, .ref (x_a g 196)), (6, .ref (x_a g 197)), (7, .ref (x_a g 198)), (8, .ref (x_a g 199)), (9, .ref (x_a g 200)), (10, .ref (x_a g 201)), (11, .ref (x_a g 202)), (12, .ref (x_a g 203)), (13, .ref (x_a g 204)), (15, .int v15)]) hC dL_law_891 rfl rfl (by decide) rfl ?_
          refine x_goto (t := 81) hC dL_law_894 (by decide) ?_
          obtain ⟨n_1, hn, h⟩ := h
          exact x_sub [1, 2, 3, 4, 5, 6, 7, 8, 9, 10, 11, 12, 13, 14, 0] rfl ((ih n_1 hn).1 _ _ h)
        · replace h := h.2 q
          refine x_iconst (v := 0) hC dL_law_889 (by decide) ?_
          exact h.elim
