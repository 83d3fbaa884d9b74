def vc_L_same (g : xG) (v1 : Int32) (M : xM) (P : Int32 → xM → Prop) (K1 : Int32 → Int32 → Int32 → Int32 → xM → Prop) (K2 : Int32 → Int32 → Int32 → Int32 → Int32 → xM → Prop) (K3 : Int32 → Int32 → Int32 → Int32 → Int32 → Int32 → Int32 → Int32 → xM → Prop) (K4 : Int32 → Int32 → Int32 → Int32 → xM → Prop) (K5 : Int32 → Int32 → Int32 → xM → Prop) (K6 : Int32 → Int32 → Int32 → Int32 → Int32 → Int32 → xM → Prop) (K7 : Int32 → Int32 → Int32 → xM → Prop) (K8 : Int32 → Int32 → Int32 → Int32 → Int32 → Int32 → xM → Prop) (K9 : Int32 → Int32 → Int32 → xM → Prop) (K10 : Int32 → Int32 → Int32 → Int32 → Int32 → xM → Prop) (K11 : Int32 → Int32 → Int32 → xM → Prop) (K12 : Int32 → Int32 → xM → Prop) : Prop := (vp_in (5 : Int32) 8 ∧ K1 v1 (0 : Int32) (M 193 ((5 : Int32)).toNatClampNeg) (0 : Int32) M)
def vc_L_same_1 (g : xG) (v1 : Int32) (v14 : Int32) (v15 : Int32) (v16 : Int32) (M : xM) (P : Int32 → xM → Prop) (K1 : Int32 → Int32 → Int32 → Int32 → xM → Prop) (K2 : Int32 → Int32 → Int32 → Int32 → Int32 → xM → Prop) (K3 : Int32 → Int32 → Int32 → Int32 → Int32 → Int32 → Int32 → Int32 → xM → Prop) (K4 : Int32 → Int32 → Int32 → Int32 → xM → Prop) (K5 : Int32 → Int32 → Int32 → xM → Prop) (K6 : Int32 → Int32 → Int32 → Int32 → Int32 → Int32 → xM → Prop) (K7 : Int32 → Int32 → Int32 → xM → Prop) (K8 : Int32 → Int32 → Int32 → Int32 → Int32 → Int32 → xM → Prop) (K9 : Int32 → Int32 → Int32 → xM → Prop) (K10 : Int32 → Int32 → Int32 → Int32 → Int32 → xM → Prop) (K11 : Int32 → Int32 → Int32 → xM → Prop) (K12 : Int32 → Int32 → xM → Prop) : Prop := (vp_in (2 : Int32) 8 ∧ (((M 193 ((2 : Int32)).toNatClampNeg) ≤ v16 → K5 v14 v15 (0 : Int32) M) ∧ (¬ ((M 193 ((2 : Int32)).toNatClampNeg) ≤ v16) → (vp_in v16 20 ∧ (∀ y1 : Int32, y1 = ((M 196 (v16).toNatClampNeg) - (M 196 (v16).toNatClampNeg) / (100 : Int32) * (100 : Int32)) → (∀ y2 : Int32, y2 = ((((M 196 (v16).toNatClampNeg) / (100 : Int32)) - ((M 196 (v16).toNatClampNeg) / (100 : Int32)) / (100 : Int32) * (100 : Int32)) - (1 : Int32)) → (mi_L_set g (M 196 (v16).toNatClampNeg) M (fun r3 N4 => (vp_in (3 : Int32) 8 ∧ (∃ J5 : Int32 → Prop, ((¬ (r3 &&& ((N4 193 ((3 : Int32)).toNatClampNeg) ^^^ (-1 : Int32))) = 0 → J5 (0 : Int32)) ∧ ((r3 &&& ((N4 193 ((3 : Int32)).toNatClampNeg) ^^^ (-1 : Int32))) = 0 → J5 (1 : Int32))) ∧ (∀ (j6 : Int32), J5 j6 → (∃ J7 : Int32 → Prop, ((j6 = 0 → J7 (0 : Int32)) ∧ (¬ (j6 = 0) → J7 (1 : Int32))) ∧ (∀ (j8 : Int32), J7 j8 → (∃ J9 : Int32 → Prop, ((j6 = 0 → J9 (0 : Int32)) ∧ (¬ (j6 = 0) → (vp_in (((4 : Int32) * ((M 196 (v16).toNatClampNeg) / (10000 : Int32))) + (2 : Int32)) 64 ∧ J9 (N4 195 ((((4 : Int32) * ((M 196 (v16).toNatClampNeg) / (10000 : Int32))) + (2 : Int32))).toNatClampNeg)))) ∧ (∀ (j10 : Int32), J9 j10 → (mi_X9_inQueue g v16 (0 : Int32) N4 (fun r11 N12 => ((¬ r11 = y1 → P (0 : Int32) N12) ∧ (r11 = y1 → (mi_X9_inQueue g v16 (1 : Int32) N12 (fun r13 N14 => (∃ J15 : Int32 → Prop, ((0 ≤ y2 → J15 y2) ∧ (¬ (0 ≤ y2) → J15 (-6 : Int32))) ∧ (∀ (j16 : Int32), J15 j16 → ((¬ r13 = j16 → P (0 : Int32) N14) ∧ (r13 = j16 → (mi_X9_inQueue g v16 (2 : Int32) N14 (fun r17 N18 => ((¬ r17 = ((M 196 (v16).toNatClampNeg) / (10000 : Int32)) → P (0 : Int32) N18) ∧ (r17 = ((M 196 (v16).toNatClampNeg) / (10000 : Int32)) → (mi_X9_inQueue g v16 (3 : Int32) N18 (fun r19 N20 => (mi_L_key g y1 y2 ((M 196 (v16).toNatClampNeg) / (10000 : Int32)) N20 (fun r21 N22 => ((¬ r19 = r21 → P (0 : Int32) N22) ∧ (r19 = r21 → (mi_X9_inQueue g v16 (4 : Int32) N22 (fun r23 N24 => (∃ J25 : Int32 → Prop, ((j6 = 0 → J25 (0 : Int32)) ∧ (¬ (j6 = 0) → J25 (1 : Int32))) ∧ (∀ (j26 : Int32), J25 j26 → ((¬ r23 = j26 → P (0 : Int32) N24) ∧ (r23 = j26 → (mi_X9_inQueue g v16 (5 : Int32) N24 (fun r27 N28 => (mi_L_set g (M 196 (v16).toNatClampNeg) N28 (fun r29 N30 => (vp_in (4 : Int32) 8 ∧ (∃ J31 : Int32 → Prop, ((¬ (r29 &&& (N30 193 ((4 : Int32)).toNatClampNeg)) = 0 → J31 (0 : Int32)) ∧ ((r29 &&& (N30 193 ((4 : Int32)).toNatClampNeg)) = 0 → J31 (1 : Int32))) ∧ (∀ (j32 : Int32), J31 j32 → ((¬ r27 = j32 → P (0 : Int32) N30) ∧ (r27 = j32 → (mi_X9_inQueue g v16 (6 : Int32) N30 (fun r33 N34 => (mi_L_turns g (M 196 (v16).toNatClampNeg) 194 N34 (fun r35 N36 => ((r33 = r35 → K2 v1 (v14 + j8) (v15 + j10) v16 j6 N36) ∧ (¬ (r33 = r35) → P (0 : Int32) N36))))))))))))))))))))))))))))))))))))))))))))))))))))))))
def vc_L_same_2 (g : xG) (v1 : Int32) (v14 : Int32) (v15 : Int32) (v16 : Int32) (v20 : Int32) (M : xM) (P : Int32 → xM → Prop) (K1 : Int32 → Int32 → Int32 → Int32 → xM → Prop) (K2 : Int32 → Int32 → Int32 → Int32 → Int32 → xM → Prop) (K3 : Int32 → Int32 → Int32 → Int32 → Int32 → Int32 → Int32 → Int32 → xM → Prop) (K4 : Int32 → Int32 → Int32 → Int32 → xM → Prop) (K5 : Int32 → Int32 → Int32 → xM → Prop) (K6 : Int32 → Int32 → Int32 → Int32 → Int32 → Int32 → xM → Prop) (K7 : Int32 → Int32 → Int32 → xM → Prop) (K8 : Int32 → Int32 → Int32 → Int32 → Int32 → Int32 → xM → Prop) (K9 : Int32 → Int32 → Int32 → xM → Prop) (K10 : Int32 → Int32 → Int32 → Int32 → Int32 → xM → Prop) (K11 : Int32 → Int32 → Int32 → xM → Prop) (K12 : Int32 → Int32 → xM → Prop) : Prop := ((¬ v20 = 0 → (mi_L_comes g v16 (-1 : Int32) M (fun r37 N38 => (mi_X9_turnOf g v16 (0 : Int32) N38 (fun r39 N40 => ((¬ r39 = (r37 / (10000 : Int32)) → P (0 : Int32) N40) ∧ (r39 = (r37 / (10000 : Int32)) → (mi_X9_turnOf g v16 (1 : Int32) N40 (fun r41 N42 => (vp_in (5 : Int32) 8 ∧ ((r41 = ((N42 193 ((5 : Int32)).toNatClampNeg) + (r37 - r37 / (10000 : Int32) * (10000 : Int32))) → (vp_in (2 : Int32) 8 ∧ (mi_L_low g v1 (N42 193 ((2 : Int32)).toNatClampNeg) N42 (fun r43 N44 => ((¬ v16 = r43 → K4 v1 v14 v15 v16 N44) ∧ (v16 = r43 → (vp_in (2 : Int32) 8 ∧ ((¬ (N44 193 ((2 : Int32)).toNatClampNeg) = (1 : Int32) → K3 v1 v14 v15 v16 r37 (-1 : Int32) (0 : Int32) (0 : Int32) N44) ∧ ((N44 193 ((2 : Int32)).toNatClampNeg) = (1 : Int32) → K4 v1 v14 v15 v16 N44))))))))) ∧ (¬ (r41 = ((N42 193 ((5 : Int32)).toNatClampNeg) + (r37 - r37 / (10000 : Int32) * (10000 : Int32)))) → P (0 : Int32) N42)))))))))))) ∧ (v20 = 0 → (mi_X9_turnOf g v16 (0 : Int32) M (fun r45 N46 => ((¬ r45 = (-6 : Int32) → P (0 : Int32) N46) ∧ (r45 = (-6 : Int32) → (mi_X9_heldUpBy g v16 (1 : Int32) N46 (fun r47 N48 => ((r47 = (-6 : Int32) → K4 v1 v14 v15 v16 N48) ∧ (¬ (r47 = (-6 : Int32)) → P (0 : Int32) N48))))))))))
def vc_L_same_3 (g : xG) (v1 : Int32) (v14 : Int32) (v15 : Int32) (v16 : Int32) (v21 : Int32) (v22 : Int32) (v23 : Int32) (v24 : Int32) (M : xM) (P : Int32 → xM → Prop) (K1 : Int32 → Int32 → Int32 → Int32 → xM → Prop) (K2 : Int32 → Int32 → Int32 → Int32 → Int32 → xM → Prop) (K3 : Int32 → Int32 → Int32 → Int32 → Int32 → Int32 → Int32 → Int32 → xM → Prop) (K4 : Int32 → Int32 → Int32 → Int32 → xM → Prop) (K5 : Int32 → Int32 → Int32 → xM → Prop) (K6 : Int32 → Int32 → Int32 → Int32 → Int32 → Int32 → xM → Prop) (K7 : Int32 → Int32 → Int32 → xM → Prop) (K8 : Int32 → Int32 → Int32 → Int32 → Int32 → Int32 → xM → Prop) (K9 : Int32 → Int32 → Int32 → xM → Prop) (K10 : Int32 → Int32 → Int32 → Int32 → Int32 → xM → Prop) (K11 : Int32 → Int32 → Int32 → xM → Prop) (K12 : Int32 → Int32 → xM → Prop) : Prop := (vp_in (2 : Int32) 8 ∧ (((M 193 ((2 : Int32)).toNatClampNeg) ≤ v24 → (mi_X9_heldUpBy g v16 (0 : Int32) M (fun r71 N72 => ((¬ r71 = v22 → P (0 : Int32) N72) ∧ (r71 = v22 → (mi_X9_heldUpBy g v16 (1 : Int32) N72 (fun r73 N74 => ((r73 = v23 → K4 v1 v14 v15 v16 N74) ∧ (¬ (r73 = v23) → P (0 : Int32) N74))))))))) ∧ (¬ ((M 193 ((2 : Int32)).toNatClampNeg) ≤ v24) → ((¬ v24 = v16 → (mi_L_comes g v16 v24 M (fun r75 N76 => (∀ y77 : Int32, y77 = ((v21 - v21 / (10000 : Int32) * (10000 : Int32)) - (r75 - r75 / (10000 : Int32) * (10000 : Int32))) → ((v22 < 0 → K3 v1 v14 v15 v16 v21 v24 y77 (v24 + (1 : Int32)) N76) ∧ (¬ (v22 < 0) → ((y77 ≤ v23 → K3 v1 v14 v15 v16 v21 v22 v23 (v24 + (1 : Int32)) N76) ∧ (¬ (y77 ≤ v23) → K3 v1 v14 v15 v16 v21 v24 y77 (v24 + (1 : Int32)) N76)))))))) ∧ (v24 = v16 → K3 v1 v14 v15 v16 v21 v22 v23 (v24 + (1 : Int32)) M)))))
def vc_L_same_4 (g : xG) (v1 : Int32) (v14 : Int32) (v15 : Int32) (v16 : Int32) (M : xM) (P : Int32 → xM → Prop) (K1 : Int32 → Int32 → Int32 → Int32 → xM → Prop) (K2 : Int32 → Int32 → Int32 → Int32 → Int32 → xM → Prop) (K3 : Int32 → Int32 → Int32 → Int32 → Int32 → Int32 → Int32 → Int32 → xM → Prop) (K4 : Int32 → Int32 → Int32 → Int32 → xM → Prop) (K5 : Int32 → Int32 → Int32 → xM → Prop) (K6 : Int32 → Int32 → Int32 → Int32 → Int32 → Int32 → xM → Prop) (K7 : Int32 → Int32 → Int32 → xM → Prop) (K8 : Int32 → Int32 → Int32 → Int32 → Int32 → Int32 → xM → Prop) (K9 : Int32 → Int32 → Int32 → xM → Prop) (K10 : Int32 → Int32 → Int32 → Int32 → Int32 → xM → Prop) (K11 : Int32 → Int32 → Int32 → xM → Prop) (K12 : Int32 → Int32 → xM → Prop) : Prop := K1 v1 v14 v15 (v16 + (1 : Int32)) M
def vc_L_same_5 (g : xG) (v14 : Int32) (v15 : Int32) (v16 : Int32) (M : xM) (P : Int32 → xM → Prop) (K1 : Int32 → Int32 → Int32 → Int32 → xM → Prop) (K2 : Int32 → Int32 → Int32 → Int32 → Int32 → xM → Prop) (K3 : Int32 → Int32 → Int32 → Int32 → Int32 → Int32 → Int32 → Int32 → xM → Prop) (K4 : Int32 → Int32 → Int32 → Int32 → xM → Prop) (K5 : Int32 → Int32 → Int32 → xM → Prop) (K6 : Int32 → Int32 → Int32 → Int32 → Int32 → Int32 → xM → Prop) (K7 : Int32 → Int32 → Int32 → xM → Prop) (K8 : Int32 → Int32 → Int32 → Int32 → Int32 → Int32 → xM → Prop) (K9 : Int32 → Int32 → Int32 → xM → Prop) (K10 : Int32 → Int32 → Int32 → Int32 → Int32 → xM → Prop) (K11 : Int32 → Int32 → Int32 → xM → Prop) (K12 : Int32 → Int32 → xM → Prop) : Prop := (vp_in (0 : Int32) 8 ∧ (((M 193 ((0 : Int32)).toNatClampNeg) ≤ v16 → K9 v14 v15 (0 : Int32) M) ∧ (¬ ((M 193 ((0 : Int32)).toNatClampNeg) ≤ v16) → K6 v14 v15 v16 (0 : Int32) (0 : Int32) (0 : Int32) M)))
def vc_L_same_6 (g : xG) (v14 : Int32) (v15 : Int32) (v16 : Int32) (v17 : Int32) (v18 : Int32) (v19 : Int32) (M : xM) (P : Int32 → xM → Prop) (K1 : Int32 → Int32 → Int32 → Int32 → xM → Prop) (K2 : Int32 → Int32 → Int32 → Int32 → Int32 → xM → Prop) (K3 : Int32 → Int32 → Int32 → Int32 → Int32 → Int32 → Int32 → Int32 → xM → Prop) (K4 : Int32 → Int32 → Int32 → Int32 → xM → Prop) (K5 : Int32 → Int32 → Int32 → xM → Prop) (K6 : Int32 → Int32 → Int32 → Int32 → Int32 → Int32 → xM → Prop) (K7 : Int32 → Int32 → Int32 → xM → Prop) (K8 : Int32 → Int32 → Int32 → Int32 → Int32 → Int32 → xM → Prop) (K9 : Int32 → Int32 → Int32 → xM → Prop) (K10 : Int32 → Int32 → Int32 → Int32 → Int32 → xM → Prop) (K11 : Int32 → Int32 → Int32 → xM → Prop) (K12 : Int32 → Int32 → xM → Prop) : Prop := (vp_in (2 : Int32) 8 ∧ (((M 193 ((2 : Int32)).toNatClampNeg) ≤ v19 → (mi_X9_of g v16 (0 : Int32) M (fun r49 N50 => (vp_in ((4 : Int32) * v16) 48 ∧ ((¬ r49 = (N50 194 (((4 : Int32) * v16)).toNatClampNeg) → P (0 : Int32) N50) ∧ (r49 = (N50 194 (((4 : Int32) * v16)).toNatClampNeg) → (mi_X9_of g v16 (1 : Int32) N50 (fun r51 N52 => (vp_in (((4 : Int32) * v16) + (1 : Int32)) 48 ∧ ((¬ r51 = (N52 194 ((((4 : Int32) * v16) + (1 : Int32))).toNatClampNeg) → P (0 : Int32) N52) ∧ (r51 = (N52 194 ((((4 : Int32) * v16) + (1 : Int32))).toNatClampNeg) → (mi_X9_of g v16 (2 : Int32) N52 (fun r53 N54 => (vp_in (3 : Int32) 8 ∧ ((¬ r53 = (((N54 193 ((3 : Int32)).toNatClampNeg) >>> (v16 &&& 31)) &&& (1 : Int32)) → P (0 : Int32) N54) ∧ (r53 = (((N54 193 ((3 : Int32)).toNatClampNeg) >>> (v16 &&& 31)) &&& (1 : Int32)) → (mi_X9_of g v16 (3 : Int32) N54 (fun r55 N56 => (vp_in (((4 : Int32) * v16) + (2 : Int32)) 48 ∧ ((¬ r55 = (N56 194 ((((4 : Int32) * v16) + (2 : Int32))).toNatClampNeg) → P (0 : Int32) N56) ∧ (r55 = (N56 194 ((((4 : Int32) * v16) + (2 : Int32))).toNatClampNeg) → (mi_X9_of g v16 (4 : Int32) N56 (fun r57 N58 => (vp_in (4 : Int32) 8 ∧ ((¬ r57 = (((N58 193 ((4 : Int32)).toNatClampNeg) >>> (v16 &&& 31)) &&& (1 : Int32)) → P (0 : Int32) N58) ∧ (r57 = (((N58 193 ((4 : Int32)).toNatClampNeg) >>> (v16 &&& 31)) &&& (1 : Int32)) → (mi_X9_of g v16 (5 : Int32) N58 (fun r59 N60 => ((¬ r59 = v17 → P (0 : Int32) N60) ∧ (r59 = v17 → (mi_X9_of g v16 (6 : Int32) N60 (fun r61 N62 => (vp_in (((4 : Int32) * v16) + (3 : Int32)) 48 ∧ ((¬ r61 = (N62 194 ((((4 : Int32) * v16) + (3 : Int32))).toNatClampNeg) → P (0 : Int32) N62) ∧ (r61 = (N62 194 ((((4 : Int32) * v16) + (3 : Int32))).toNatClampNeg) → (mi_X9_ifLeft g v16 N62 (fun r63 N64 => ((r63 = v18 → K7 v14 v15 v16 N64) ∧ (¬ (r63 = v18) → P (0 : Int32) N64))))))))))))))))))))))))))))))))))))))) ∧ (¬ ((M 193 ((2 : Int32)).toNatClampNeg) ≤ v19) → (vp_in v19 20 ∧ (mi_L_set g (M 196 (v19).toNatClampNeg) M (fun r65 N66 => (vp_in v19 20 ∧ (mi_L_set g (N66 196 (v19).toNatClampNeg) N66 (fun r67 N68 => (vp_in (3 : Int32) 8 ∧ (∃ J69 : Int32 → Prop, (((r67 &&& (((N68 193 ((3 : Int32)).toNatClampNeg) &&& (((1 : Int32) <<< (v16 &&& 31)) ^^^ (-1 : Int32))) ^^^ (-1 : Int32))) = 0 → J69 (0 : Int32)) ∧ (¬ ((r67 &&& (((N68 193 ((3 : Int32)).toNatClampNeg) &&& (((1 : Int32) <<< (v16 &&& 31)) ^^^ (-1 : Int32))) ^^^ (-1 : Int32))) = 0) → J69 (1 : Int32))) ∧ (∀ (j70 : Int32), J69 j70 → K6 v14 v15 v16 (v17 + ((r65 >>> (v16 &&& 31)) &&& (1 : Int32))) (v18 + j70) (v19 + (1 : Int32)) N68))))))))))))
def vc_L_same_7 (g : xG) (v14 : Int32) (v15 : Int32) (v16 : Int32) (M : xM) (P : Int32 → xM → Prop) (K1 : Int32 → Int32 → Int32 → Int32 → xM → Prop) (K2 : Int32 → Int32 → Int32 → Int32 → Int32 → xM → Prop) (K3 : Int32 → Int32 → Int32 → Int32 → Int32 → Int32 → Int32 → Int32 → xM → Prop) (K4 : Int32 → Int32 → Int32 → Int32 → xM → Prop) (K5 : Int32 → Int32 → Int32 → xM → Prop) (K6 : Int32 → Int32 → Int32 → Int32 → Int32 → Int32 → xM → Prop) (K7 : Int32 → Int32 → Int32 → xM → Prop) (K8 : Int32 → Int32 → Int32 → Int32 → Int32 → Int32 → xM → Prop) (K9 : Int32 → Int32 → Int32 → xM → Prop) (K10 : Int32 → Int32 → Int32 → Int32 → Int32 → xM → Prop) (K11 : Int32 → Int32 → Int32 → xM → Prop) (K12 : Int32 → Int32 → xM → Prop) : Prop := (vp_in (0 : Int32) 8 ∧ (¬ (M 193 ((0 : Int32)).toNatClampNeg) = 0 ∧ (∀ y98 : Int32, y98 = ((v16 + (1 : Int32)) - (v16 + (1 : Int32)) / (M 193 ((0 : Int32)).toNatClampNeg) * (M 193 ((0 : Int32)).toNatClampNeg)) → K8 v14 v15 v16 y98 (0 : Int32) (0 : Int32) M)))
def vc_L_same_8 (g : xG) (v14 : Int32) (v15 : Int32) (v16 : Int32) (v19 : Int32) (v20 : Int32) (v21 : Int32) (M : xM) (P : Int32 → xM → Prop) (K1 : Int32 → Int32 → Int32 → Int32 → xM → Prop) (K2 : Int32 → Int32 → Int32 → Int32 → Int32 → xM → Prop) (K3 : Int32 → Int32 → Int32 → Int32 → Int32 → Int32 → Int32 → Int32 → xM → Prop) (K4 : Int32 → Int32 → Int32 → Int32 → xM → Prop) (K5 : Int32 → Int32 → Int32 → xM → Prop) (K6 : Int32 → Int32 → Int32 → Int32 → Int32 → Int32 → xM → Prop) (K7 : Int32 → Int32 → Int32 → xM → Prop) (K8 : Int32 → Int32 → Int32 → Int32 → Int32 → Int32 → xM → Prop) (K9 : Int32 → Int32 → Int32 → xM → Prop) (K10 : Int32 → Int32 → Int32 → Int32 → Int32 → xM → Prop) (K11 : Int32 → Int32 → Int32 → xM → Prop) (K12 : Int32 → Int32 → xM → Prop) : Prop := (vp_in (1 : Int32) 8 ∧ (((M 193 ((1 : Int32)).toNatClampNeg) ≤ v21 → (mi_X9_together g v16 v19 M (fun r123 N124 => (∃ J125 : Int32 → Prop, ((¬ v19 = v16 → J125 v20) ∧ (v19 = v16 → J125 (-2 : Int32))) ∧ (∀ (j126 : Int32), J125 j126 → ((r123 = j126 → K5 v14 v15 (v16 + (1 : Int32)) N124) ∧ (¬ (r123 = j126) → P (0 : Int32) N124))))))) ∧ (¬ ((M 193 ((1 : Int32)).toNatClampNeg) ≤ v21) → (∃ J127 : Int32 → xM → Prop, ((v19 = v16 → J127 (0 : Int32) M) ∧ (¬ (v19 = v16) → (mi_L_key g v16 v19 v21 M (fun r130 N131 => ((r130 < 0 → J127 (0 : Int32) N131) ∧ (¬ (r130 < 0) → J127 (1 : Int32) N131)))))) ∧ (∀ (j128 : Int32) (N129 : xM), J127 j128 N129 → K8 v14 v15 v16 v19 (v20 + j128) (v21 + (1 : Int32)) N129)))))
def vc_L_same_9 (g : xG) (v14 : Int32) (v15 : Int32) (v16 : Int32) (M : xM) (P : Int32 → xM → Prop) (K1 : Int32 → Int32 → Int32 → Int32 → xM → Prop) (K2 : Int32 → Int32 → Int32 → Int32 → Int32 → xM → Prop) (K3 : Int32 → Int32 → Int32 → Int32 → Int32 → Int32 → Int32 → Int32 → xM → Prop) (K4 : Int32 → Int32 → Int32 → Int32 → xM → Prop) (K5 : Int32 → Int32 → Int32 → xM → Prop) (K6 : Int32 → Int32 → Int32 → Int32 → Int32 → Int32 → xM → Prop) (K7 : Int32 → Int32 → Int32 → xM → Prop) (K8 : Int32 → Int32 → Int32 → Int32 → Int32 → Int32 → xM → Prop) (K9 : Int32 → Int32 → Int32 → xM → Prop) (K10 : Int32 → Int32 → Int32 → Int32 → Int32 → xM → Prop) (K11 : Int32 → Int32 → Int32 → xM → Prop) (K12 : Int32 → Int32 → xM → Prop) : Prop := (vp_in (1 : Int32) 8 ∧ (((M 193 ((1 : Int32)).toNatClampNeg) ≤ v16 → K11 v14 v15 (0 : Int32) M) ∧ (¬ ((M 193 ((1 : Int32)).toNatClampNeg) ≤ v16) → K10 v14 v15 v16 (0 : Int32) (0 : Int32) M)))
def vc_L_same_10 (g : xG) (v14 : Int32) (v15 : Int32) (v16 : Int32) (v17 : Int32) (v18 : Int32) (M : xM) (P : Int32 → xM → Prop) (K1 : Int32 → Int32 → Int32 → Int32 → xM → Prop) (K2 : Int32 → Int32 → Int32 → Int32 → Int32 → xM → Prop) (K3 : Int32 → Int32 → Int32 → Int32 → Int32 → Int32 → Int32 → Int32 → xM → Prop) (K4 : Int32 → Int32 → Int32 → Int32 → xM → Prop) (K5 : Int32 → Int32 → Int32 → xM → Prop) (K6 : Int32 → Int32 → Int32 → Int32 → Int32 → Int32 → xM → Prop) (K7 : Int32 → Int32 → Int32 → xM → Prop) (K8 : Int32 → Int32 → Int32 → Int32 → Int32 → Int32 → xM → Prop) (K9 : Int32 → Int32 → Int32 → xM → Prop) (K10 : Int32 → Int32 → Int32 → Int32 → Int32 → xM → Prop) (K11 : Int32 → Int32 → Int32 → xM → Prop) (K12 : Int32 → Int32 → xM → Prop) : Prop := (vp_in (0 : Int32) 8 ∧ (((M 193 ((0 : Int32)).toNatClampNeg) ≤ v18 → (mi_X9_ofSong g v16 (2 : Int32) M (fun r88 N89 => (vp_in (((4 : Int32) * v16) + (2 : Int32)) 64 ∧ ((¬ r88 = (N89 195 ((((4 : Int32) * v16) + (2 : Int32))).toNatClampNeg) → P (0 : Int32) N89) ∧ (r88 = (N89 195 ((((4 : Int32) * v16) + (2 : Int32))).toNatClampNeg) → (mi_X9_ofSong g v16 (3 : Int32) N89 (fun r90 N91 => ((¬ r90 = v17 → P (0 : Int32) N91) ∧ (r90 = v17 → (mi_X9_ofSong g v16 (4 : Int32) N91 (fun r92 N93 => (vp_in (((4 : Int32) * v16) + (3 : Int32)) 64 ∧ ((r92 = (N93 195 ((((4 : Int32) * v16) + (3 : Int32))).toNatClampNeg) → K9 v14 v15 (v16 + (1 : Int32)) N93) ∧ (¬ (r92 = (N93 195 ((((4 : Int32) * v16) + (3 : Int32))).toNatClampNeg)) → P (0 : Int32) N93))))))))))))))) ∧ (¬ ((M 193 ((0 : Int32)).toNatClampNeg) ≤ v18) → (mi_L_key g v18 (-1 : Int32) v16 M (fun r94 N95 => (∃ J96 : Int32 → Prop, ((r94 < 0 → J96 (0 : Int32)) ∧ (¬ (r94 < 0) → J96 ((1 : Int32) <<< (v18 &&& 31)))) ∧ (∀ (j97 : Int32), J96 j97 → K10 v14 v15 v16 (v17 ||| j97) (v18 + (1 : Int32)) N95)))))))
def vc_L_same_11 (g : xG) (v14 : Int32) (v15 : Int32) (v16 : Int32) (M : xM) (P : Int32 → xM → Prop) (K1 : Int32 → Int32 → Int32 → Int32 → xM → Prop) (K2 : Int32 → Int32 → Int32 → Int32 → Int32 → xM → Prop) (K3 : Int32 → Int32 → Int32 → Int32 → Int32 → Int32 → Int32 → Int32 → xM → Prop) (K4 : Int32 → Int32 → Int32 → Int32 → xM → Prop) (K5 : Int32 → Int32 → Int32 → xM → Prop) (K6 : Int32 → Int32 → Int32 → Int32 → Int32 → Int32 → xM → Prop) (K7 : Int32 → Int32 → Int32 → xM → Prop) (K8 : Int32 → Int32 → Int32 → Int32 → Int32 → Int32 → xM → Prop) (K9 : Int32 → Int32 → Int32 → xM → Prop) (K10 : Int32 → Int32 → Int32 → Int32 → Int32 → xM → Prop) (K11 : Int32 → Int32 → Int32 → xM → Prop) (K12 : Int32 → Int32 → xM → Prop) : Prop := (vp_in (7 : Int32) 8 ∧ (((M 193 ((7 : Int32)).toNatClampNeg) ≤ v16 → K12 v14 v15 M) ∧ (¬ ((M 193 ((7 : Int32)).toNatClampNeg) ≤ v16) → (mi_X9_past g v16 (0 : Int32) M (fun r78 N79 => (vp_in v16 12 ∧ ((¬ r78 = ((N79 197 (v16).toNatClampNeg) - (N79 197 (v16).toNatClampNeg) / (100 : Int32) * (100 : Int32)) → P (0 : Int32) N79) ∧ (r78 = ((N79 197 (v16).toNatClampNeg) - (N79 197 (v16).toNatClampNeg) / (100 : Int32) * (100 : Int32)) → (mi_X9_past g v16 (1 : Int32) N79 (fun r80 N81 => (vp_in v16 12 ∧ (∃ J82 : Int32 → Prop, ((¬ (((N81 197 (v16).toNatClampNeg) / (100 : Int32)) - ((N81 197 (v16).toNatClampNeg) / (100 : Int32)) / (100 : Int32) * (100 : Int32)) = 0 → (vp_in v16 12 ∧ J82 ((((N81 197 (v16).toNatClampNeg) / (100 : Int32)) - ((N81 197 (v16).toNatClampNeg) / (100 : Int32)) / (100 : Int32) * (100 : Int32)) - (1 : Int32)))) ∧ ((((N81 197 (v16).toNatClampNeg) / (100 : Int32)) - ((N81 197 (v16).toNatClampNeg) / (100 : Int32)) / (100 : Int32) * (100 : Int32)) = 0 → J82 (-6 : Int32))) ∧ (∀ (j83 : Int32), J82 j83 → ((¬ r80 = j83 → P (0 : Int32) N81) ∧ (r80 = j83 → (mi_X9_past g v16 (2 : Int32) N81 (fun r84 N85 => (vp_in v16 12 ∧ ((¬ r84 = ((N85 197 (v16).toNatClampNeg) / (10000 : Int32)) → P (0 : Int32) N85) ∧ (r84 = ((N85 197 (v16).toNatClampNeg) / (10000 : Int32)) → (mi_X9_past g v16 (3 : Int32) N85 (fun r86 N87 => (vp_in v16 12 ∧ ((r86 = (N87 198 (v16).toNatClampNeg) → K11 v14 v15 (v16 + (1 : Int32)) N87) ∧ (¬ (r86 = (N87 198 (v16).toNatClampNeg)) → P (0 : Int32) N87)))))))))))))))))))))))))
def vc_L_same_12 (g : xG) (v14 : Int32) (v15 : Int32) (M : xM) (P : Int32 → xM → Prop) (K1 : Int32 → Int32 → Int32 → Int32 → xM → Prop) (K2 : Int32 → Int32 → Int32 → Int32 → Int32 → xM → Prop) (K3 : Int32 → Int32 → Int32 → Int32 → Int32 → Int32 → Int32 → Int32 → xM → Prop) (K4 : Int32 → Int32 → Int32 → Int32 → xM → Prop) (K5 : Int32 → Int32 → Int32 → xM → Prop) (K6 : Int32 → Int32 → Int32 → Int32 → Int32 → Int32 → xM → Prop) (K7 : Int32 → Int32 → Int32 → xM → Prop) (K8 : Int32 → Int32 → Int32 → Int32 → Int32 → Int32 → xM → Prop) (K9 : Int32 → Int32 → Int32 → xM → Prop) (K10 : Int32 → Int32 → Int32 → Int32 → Int32 → xM → Prop) (K11 : Int32 → Int32 → Int32 → xM → Prop) (K12 : Int32 → Int32 → xM → Prop) : Prop := (vp_in (7 : Int32) 8 ∧ (mi_X9_past g (M 193 ((7 : Int32)).toNatClampNeg) (0 : Int32) M (fun r99 N100 => ((¬ r99 = (-1 : Int32) → P (0 : Int32) N100) ∧ (r99 = (-1 : Int32) → (mi_X9_count g (0 : Int32) N100 (fun r101 N102 => (vp_in (0 : Int32) 8 ∧ ((¬ r101 = (N102 193 ((0 : Int32)).toNatClampNeg) → P (0 : Int32) N102) ∧ (r101 = (N102 193 ((0 : Int32)).toNatClampNeg) → (mi_X9_count g (1 : Int32) N102 (fun r103 N104 => (vp_in (3 : Int32) 8 ∧ ((¬ r103 = (N104 193 ((3 : Int32)).toNatClampNeg) → P (0 : Int32) N104) ∧ (r103 = (N104 193 ((3 : Int32)).toNatClampNeg) → (mi_X9_count g (2 : Int32) N104 (fun r105 N106 => (vp_in (1 : Int32) 8 ∧ ((¬ r105 = (N106 193 ((1 : Int32)).toNatClampNeg) → P (0 : Int32) N106) ∧ (r105 = (N106 193 ((1 : Int32)).toNatClampNeg) → (mi_X9_count g (3 : Int32) N106 (fun r107 N108 => (vp_in (2 : Int32) 8 ∧ ((¬ r107 = (N108 193 ((2 : Int32)).toNatClampNeg) → P (0 : Int32) N108) ∧ (r107 = (N108 193 ((2 : Int32)).toNatClampNeg) → (mi_X9_count g (4 : Int32) N108 (fun r109 N110 => ((¬ r109 = v14 → P (0 : Int32) N110) ∧ (r109 = v14 → (mi_X9_count g (5 : Int32) N110 (fun r111 N112 => (mi_L_next g 193 194 196 N112 (fun r113 N114 => ((¬ r111 = r113 → P (0 : Int32) N114) ∧ (r111 = r113 → (mi_X9_count g (6 : Int32) N114 (fun r115 N116 => (vp_in (5 : Int32) 8 ∧ ((¬ r115 = (N116 193 ((5 : Int32)).toNatClampNeg) → P (0 : Int32) N116) ∧ (r115 = (N116 193 ((5 : Int32)).toNatClampNeg) → (mi_X9_count g (7 : Int32) N116 (fun r117 N118 => (vp_in (6 : Int32) 8 ∧ ((¬ r117 = (N118 193 ((6 : Int32)).toNatClampNeg) → P (0 : Int32) N118) ∧ (r117 = (N118 193 ((6 : Int32)).toNatClampNeg) → (mi_X9_count g (8 : Int32) N118 (fun r119 N120 => (vp_in (4 : Int32) 8 ∧ ((¬ r119 = (N120 193 ((4 : Int32)).toNatClampNeg) → P (0 : Int32) N120) ∧ (r119 = (N120 193 ((4 : Int32)).toNatClampNeg) → (mi_X9_endOfAll g N120 (fun r121 N122 => ((¬ r121 = v15 → P (0 : Int32) N122) ∧ (r121 = v15 → P (1 : Int32) N122))))))))))))))))))))))))))))))))))))))))))))))))))))))
set_option maxRecDepth 100000 in
set_option maxHeartbeats 4000000 in
theorem wk_L_same {g : xG} (v1 : Int32) (M : xM) (P : Int32 → xM → Prop) (I1 : Nat → Int32 → Int32 → Int32 → Int32 → xM → Prop) (I2 : Nat → Int32 → Int32 → Int32 → Int32 → Int32 → xM → Prop) (I3 : Nat → Int32 → Int32 → Int32 → Int32 → Int32 → Int32 → Int32 → Int32 → xM → Prop) (I4 : Nat → Int32 → Int32 → Int32 → Int32 → xM → Prop) (I5 : Nat → Int32 → Int32 → Int32 → xM → Prop) (I6 : Nat → Int32 → Int32 → Int32 → Int32 → Int32 → Int32 → xM → Prop) (I7 : Nat → Int32 → Int32 → Int32 → xM → Prop) (I8 : Nat → Int32 → Int32 → Int32 → Int32 → Int32 → Int32 → xM → Prop) (I9 : Nat → Int32 → Int32 → Int32 → xM → Prop) (I10 : Nat → Int32 → Int32 → Int32 → Int32 → Int32 → xM → Prop) (I11 : Nat → Int32 → Int32 → Int32 → xM → Prop) (I12 : Nat → Int32 → Int32 → xM → Prop) (h0 : vc_L_same g v1 M P (fun v1 v14 v15 v16 N => ∃ k, I1 k v1 v14 v15 v16 N) (fun v1 v14 v15 v16 v20 N => ∃ k, I2 k v1 v14 v15 v16 v20 N) (fun v1 v14 v15 v16 v21 v22 v23 v24 N => ∃ k, I3 k v1 v14 v15 v16 v21 v22 v23 v24 N) (fun v1 v14 v15 v16 N => ∃ k, I4 k v1 v14 v15 v16 N) (fun v14 v15 v16 N => ∃ k, I5 k v14 v15 v16 N) (fun v14 v15 v16 v17 v18 v19 N => ∃ k, I6 k v14 v15 v16 v17 v18 v19 N) (fun v14 v15 v16 N => ∃ k, I7 k v14 v15 v16 N) (fun v14 v15 v16 v19 v20 v21 N => ∃ k, I8 k v14 v15 v16 v19 v20 v21 N) (fun v14 v15 v16 N => ∃ k, I9 k v14 v15 v16 N) (fun v14 v15 v16 v17 v18 N => ∃ k, I10 k v14 v15 v16 v17 v18 N) (fun v14 v15 v16 N => ∃ k, I11 k v14 v15 v16 N) (fun v14 v15 N => ∃ k, I12 k v14 v15 N)) (h1 : ∀ (n : Nat) (v1 : Int32) (v14 : Int32) (v15 : Int32) (v16 : Int32) (N : xM), I1 n v1 v14 v15 v16 N → vc_L_same_1 g v1 v14 v15 v16 N P (fun v1 v14 v15 v16 N => ∃ k, k < n ∧ I1 k v1 v14 v15 v16 N) (fun v1 v14 v15 v16 v20 N => ∃ k, k < n ∧ I2 k v1 v14 v15 v16 v20 N) (fun v1 v14 v15 v16 v21 v22 v23 v24 N => ∃ k, k < n ∧ I3 k v1 v14 v15 v16 v21 v22 v23 v24 N) (fun v1 v14 v15 v16 N => ∃ k, k < n ∧ I4 k v1 v14 v15 v16 N) (fun v14 v15 v16 N => ∃ k, k < n ∧ I5 k v14 v15 v16 N) (fun v14 v15 v16 v17 v18 v19 N => ∃ k, k < n ∧ I6 k v14 v15 v16 v17 v18 v19 N) (fun v14 v15 v16 N => ∃ k, k < n ∧ I7 k v14 v15 v16 N) (fun v14 v15 v16 v19 v20 v21 N => ∃ k, k < n ∧ I8 k v14 v15 v16 v19 v20 v21 N) (fun v14 v15 v16 N => ∃ k, k < n ∧ I9 k v14 v15 v16 N) (fun v14 v15 v16 v17 v18 N => ∃ k, k < n ∧ I10 k v14 v15 v16 v17 v18 N) (fun v14 v15 v16 N => ∃ k, k < n ∧ I11 k v14 v15 v16 N) (fun v14 v15 N => ∃ k, k < n ∧ I12 k v14 v15 N)) (h2 : ∀ (n : Nat) (v1 : Int32) (v14 : Int32) (v15 : Int32) (v16 : Int32) (v20 : Int32) (N : xM), I2 n v1 v14 v15 v16 v20 N → vc_L_same_2 g v1 v14 v15 v16 v20 N P (fun v1 v14 v15 v16 N => ∃ k, k < n ∧ I1 k v1 v14 v15 v16 N) (fun v1 v14 v15 v16 v20 N => ∃ k, k < n ∧ I2 k v1 v14 v15 v16 v20 N) (fun v1 v14 v15 v16 v21 v22 v23 v24 N => ∃ k, k < n ∧ I3 k v1 v14 v15 v16 v21 v22 v23 v24 N) (fun v1 v14 v15 v16 N => ∃ k, k < n ∧ I4 k v1 v14 v15 v16 N) (fun v14 v15 v16 N => ∃ k, k < n ∧ I5 k v14 v15 v16 N) (fun v14 v15 v16 v17 v18 v19 N => ∃ k, k < n ∧ I6 k v14 v15 v16 v17 v18 v19 N) (fun v14 v15 v16 N => ∃ k, k < n ∧ I7 k v14 v15 v16 N) (fun v14 v15 v16 v19 v20 v21 N => ∃ k, k < n ∧ I8 k v14 v15 v16 v19 v20 v21 N) (fun v14 v15 v16 N => ∃ k, k < n ∧ I9 k v14 v15 v16 N) (fun v14 v15 v16 v17 v18 N => ∃ k, k < n ∧ I10 k v14 v15 v16 v17 v18 N) (fun v14 v15 v16 N => ∃ k, k < n ∧ I11 k v14 v15 v16 N) (fun v14 v15 N => ∃ k, k < n ∧ I12 k v14 v15 N)) (h3 : ∀ (n : Nat) (v1 : Int32) (v14 : Int32) (v15 : Int32) (v16 : Int32) (v21 : Int32) (v22 : Int32) (v23 : Int32) (v24 : Int32) (N : xM), I3 n v1 v14 v15 v16 v21 v22 v23 v24 N → vc_L_same_3 g v1 v14 v15 v16 v21 v22 v23 v24 N P (fun v1 v14 v15 v16 N => ∃ k, k < n ∧ I1 k v1 v14 v15 v16 N) (fun v1 v14 v15 v16 v20 N => ∃ k, k < n ∧ I2 k v1 v14 v15 v16 v20 N) (fun v1 v14 v15 v16 v21 v22 v23 v24 N => ∃ k, k < n ∧ I3 k v1 v14 v15 v16 v21 v22 v23 v24 N) (fun v1 v14 v15 v16 N => ∃ k, k < n ∧ I4 k v1 v14 v15 v16 N) (fun v14 v15 v16 N => ∃ k, k < n ∧ I5 k v14 v15 v16 N) (fun v14 v15 v16 v17 v18 v19 N => ∃ k, k < n ∧ I6 k v14 v15 v16 v17 v18 v19 N) (fun v14 v15 v16 N => ∃ k, k < n ∧ I7 k v14 v15 v16 N) (fun v14 v15 v16 v19 v20 v21 N => ∃ k, k < n ∧ I8 k v14 v15 v16 v19 v20 v21 N) (fun v14 v15 v16 N => ∃ k, k < n ∧ I9 k v14 v15 v16 N) (fun v14 v15 v16 v17 v18 N => ∃ k, k < n ∧ I10 k v14 v15 v16 v17 v18 N) (fun v14 v15 v16 N => ∃ k, k < n ∧ I11 k v14 v15 v16 N) (fun v14 v15 N => ∃ k, k < n ∧ I12 k v14 v15 N)) (h4 : ∀ (n : Nat) (v1 : Int32) (v14 : Int32) (v15 : Int32) (v16 : Int32) (N : xM), I4 n v1 v14 v15 v16 N → vc_L_same_4 g v1 v14 v15 v16 N P (fun v1 v14 v15 v16 N => ∃ k, k < n ∧ I1 k v1 v14 v15 v16 N) (fun v1 v14 v15 v16 v20 N => ∃ k, k < n ∧ I2 k v1 v14 v15 v16 v20 N) (fun v1 v14 v15 v16 v21 v22 v23 v24 N => ∃ k, k < n ∧ I3 k v1 v14 v15 v16 v21 v22 v23 v24 N) (fun v1 v14 v15 v16 N => ∃ k, k < n ∧ I4 k v1 v14 v15 v16 N) (fun v14 v15 v16 N => ∃ k, k < n ∧ I5 k v14 v15 v16 N) (fun v14 v15 v16 v17 v18 v19 N => ∃ k, k < n ∧ I6 k v14 v15 v16 v17 v18 v19 N) (fun v14 v15 v16 N => ∃ k, k < n ∧ I7 k v14 v15 v16 N) (fun v14 v15 v16 v19 v20 v21 N => ∃ k, k < n ∧ I8 k v14 v15 v16 v19 v20 v21 N) (fun v14 v15 v16 N => ∃ k, k < n ∧ I9 k v14 v15 v16 N) (fun v14 v15 v16 v17 v18 N => ∃ k, k < n ∧ I10 k v14 v15 v16 v17 v18 N) (fun v14 v15 v16 N => ∃ k, k < n ∧ I11 k v14 v15 v16 N) (fun v14 v15 N => ∃ k, k < n ∧ I12 k v14 v15 N)) (h5 : ∀ (n : Nat) (v14 : Int32) (v15 : Int32) (v16 : Int32) (N : xM), I5 n v14 v15 v16 N → vc_L_same_5 g v14 v15 v16 N P (fun v1 v14 v15 v16 N => ∃ k, k < n ∧ I1 k v1 v14 v15 v16 N) (fun v1 v14 v15 v16 v20 N => ∃ k, k < n ∧ I2 k v1 v14 v15 v16 v20 N) (fun v1 v14 v15 v16 v21 v22 v23 v24 N => ∃ k, k < n ∧ I3 k v1 v14 v15 v16 v21 v22 v23 v24 N) (fun v1 v14 v15 v16 N => ∃ k, k < n ∧ I4 k v1 v14 v15 v16 N) (fun v14 v15 v16 N => ∃ k, k < n ∧ I5 k v14 v15 v16 N) (fun v14 v15 v16 v17 v18 v19 N => ∃ k, k < n ∧ I6 k v14 v15 v16 v17 v18 v19 N) (fun v14 v15 v16 N => ∃ k, k < n ∧ I7 k v14 v15 v16 N) (fun v14 v15 v16 v19 v20 v21 N => ∃ k, k < n ∧ I8 k v14 v15 v16 v19 v20 v21 N) (fun v14 v15 v16 N => ∃ k, k < n ∧ I9 k v14 v15 v16 N) (fun v14 v15 v16 v17 v18 N => ∃ k, k < n ∧ I10 k v14 v15 v16 v17 v18 N) (fun v14 v15 v16 N => ∃ k, k < n ∧ I11 k v14 v15 v16 N) (fun v14 v15 N => ∃ k, k < n ∧ I12 k v14 v15 N)) (h6 : ∀ (n : Nat) (v14 : Int32) (v15 : Int32) (v16 : Int32) (v17 : Int32) (v18 : Int32) (v19 : Int32) (N : xM), I6 n v14 v15 v16 v17 v18 v19 N → vc_L_same_6 g v14 v15 v16 v17 v18 v19 N P (fun v1 v14 v15 v16 N => ∃ k, k < n ∧ I1 k v1 v14 v15 v16 N) (fun v1 v14 v15 v16 v20 N => ∃ k, k < n ∧ I2 k v1 v14 v15 v16 v20 N) (fun v1 v14 v15 v16 v21 v22 v23 v24 N => ∃ k, k < n ∧ I3 k v1 v14 v15 v16 v21 v22 v23 v24 N) (fun v1 v14 v15 v16 N => ∃ k, k < n ∧ I4 k v1 v14 v15 v16 N) (fun v14 v15 v16 N => ∃ k, k < n ∧ I5 k v14 v15 v16 N) (fun v14 v15 v16 v17 v18 v19 N => ∃ k, k < n ∧ I6 k v14 v15 v16 v17 v18 v19 N) (fun v14 v15 v16 N => ∃ k, k < n ∧ I7 k v14 v15 v16 N) (fun v14 v15 v16 v19 v20 v21 N => ∃ k, k < n ∧ I8 k v14 v15 v16 v19 v20 v21 N) (fun v14 v15 v16 N => ∃ k, k < n ∧ I9 k v14 v15 v16 N) (fun v14 v15 v16 v17 v18 N => ∃ k, k < n ∧ I10 k v14 v15 v16 v17 v18 N) (fun v14 v15 v16 N => ∃ k, k < n ∧ I11 k v14 v15 v16 N) (fun v14 v15 N => ∃ k, k < n ∧ I12 k v14 v15 N)) (h7 : ∀ (n : Nat) (v14 : Int32) (v15 : Int32) (v16 : Int32) (N : xM), I7 n v14 v15 v16 N → vc_L_same_7 g v14 v15 v16 N P (fun v1 v14 v15 v16 N => ∃ k, k < n ∧ I1 k v1 v14 v15 v16 N) (fun v1 v14 v15 v16 v20 N => ∃ k, k < n ∧ I2 k v1 v14 v15 v16 v20 N) (fun v1 v14 v15 v16 v21 v22 v23 v24 N => ∃ k, k < n ∧ I3 k v1 v14 v15 v16 v21 v22 v23 v24 N) (fun v1 v14 v15 v16 N => ∃ k, k < n ∧ I4 k v1 v14 v15 v16 N) (fun v14 v15 v16 N => ∃ k, k < n ∧ I5 k v14 v15 v16 N) (fun v14 v15 v16 v17 v18 v19 N => ∃ k, k < n ∧ I6 k v14 v15 v16 v17 v18 v19 N) (fun v14 v15 v16 N => ∃ k, k < n ∧ I7 k v14 v15 v16 N) (fun v14 v15 v16 v19 v20 v21 N => ∃ k, k < n ∧ I8 k v14 v15 v16 v19 v20 v21 N) (fun v14 v15 v16 N => ∃ k, k < n ∧ I9 k v14 v15 v16 N) (fun v14 v15 v16 v17 v18 N => ∃ k, k < n ∧ I10 k v14 v15 v16 v17 v18 N) (fun v14 v15 v16 N => ∃ k, k < n ∧ I11 k v14 v15 v16 N) (fun v14 v15 N => ∃ k, k < n ∧ I12 k v14 v15 N)) (h8 : ∀ (n : Nat) (v14 : Int32) (v15 : Int32) (v16 : Int32) (v19 : Int32) (v20 : Int32) (v21 : Int32) (N : xM), I8 n v14 v15 v16 v19 v20 v21 N → vc_L_same_8 g v14 v15 v16 v19 v20 v21 N P (fun v1 v14 v15 v16 N => ∃ k, k < n ∧ I1 k v1 v14 v15 v16 N) (fun v1 v14 v15 v16 v20 N => ∃ k, k < n ∧ I2 k v1 v14 v15 v16 v20 N) (fun v1 v14 v15 v16 v21 v22 v23 v24 N => ∃ k, k < n ∧ I3 k v1 v14 v15 v16 v21 v22 v23 v24 N) (fun v1 v14 v15 v16 N => ∃ k, k < n ∧ I4 k v1 v14 v15 v16 N) (fun v14 v15 v16 N => ∃ k, k < n ∧ I5 k v14 v15 v16 N) (fun v14 v15 v16 v17 v18 v19 N => ∃ k, k < n ∧ I6 k v14 v15 v16 v17 v18 v19 N) (fun v14 v15 v16 N => ∃ k, k < n ∧ I7 k v14 v15 v16 N) (fun v14 v15 v16 v19 v20 v21 N => ∃ k, k < n ∧ I8 k v14 v15 v16 v19 v20 v21 N) (fun v14 v15 v16 N => ∃ k, k < n ∧ I9 k v14 v15 v16 N) (fun v14 v15 v16 v17 v18 N => ∃ k, k < n ∧ I10 k v14 v15 v16 v17 v18 N) (fun v14 v15 v16 N => ∃ k, k < n ∧ I11 k v14 v15 v16 N) (fun v14 v15 N => ∃ k, k < n ∧ I12 k v14 v15 N)) (h9 : ∀ (n : Nat) (v14 : Int32) (v15 : Int32) (v16 : Int32) (N : xM), I9 n v14 v15 v16 N → vc_L_same_9 g v14 v15 v16 N P (fun v1 v14 v15 v16 N => ∃ k, k < n ∧ I1 k v1 v14 v15 v16 N) (fun v1 v14 v15 v16 v20 N => ∃ k, k < n ∧ I2 k v1 v14 v15 v16 v20 N) (fun v1 v14 v15 v16 v21 v22 v23 v24 N => ∃ k, k < n ∧ I3 k v1 v14 v15 v16 v21 v22 v23 v24 N) (fun v1 v14 v15 v16 N => ∃ k, k < n ∧ I4 k v1 v14 v15 v16 N) (fun v14 v15 v16 N => ∃ k, k < n ∧ I5 k v14 v15 v16 N) (fun v14 v15 v16 v17 v18 v19 N => ∃ k, k < n ∧ I6 k v14 v15 v16 v17 v18 v19 N) (fun v14 v15 v16 N => ∃ k, k < n ∧ I7 k v14 v15 v16 N) (fun v14 v15 v16 v19 v20 v21 N => ∃ k, k < n ∧ I8 k v14 v15 v16 v19 v20 v21 N) (fun v14 v15 v16 N => ∃ k, k < n ∧ I9 k v14 v15 v16 N) (fun v14 v15 v16 v17 v18 N => ∃ k, k < n ∧ I10 k v14 v15 v16 v17 v18 N) (fun v14 v15 v16 N => ∃ k, k < n ∧ I11 k v14 v15 v16 N) (fun v14 v15 N => ∃ k, k < n ∧ I12 k v14 v15 N)) (h10 : ∀ (n : Nat) (v14 : Int32) (v15 : Int32) (v16 : Int32) (v17 : Int32) (v18 : Int32) (N : xM), I10 n v14 v15 v16 v17 v18 N → vc_L_same_10 g v14 v15 v16 v17 v18 N P (fun v1 v14 v15 v16 N => ∃ k, k < n ∧ I1 k v1 v14 v15 v16 N) (fun v1 v14 v15 v16 v20 N => ∃ k, k < n ∧ I2 k v1 v14 v15 v16 v20 N) (fun v1 v14 v15 v16 v21 v22 v23 v24 N => ∃ k, k < n ∧ I3 k v1 v14 v15 v16 v21 v22 v23 v24 N) (fun v1 v14 v15 v16 N => ∃ k, k < n ∧ I4 k v1 v14 v15 v16 N) (fun v14 v15 v16 N => ∃ k, k < n ∧ I5 k v14 v15 v16 N) (fun v14 v15 v16 v17 v18 v19 N => ∃ k, k < n ∧ I6 k v14 v15 v16 v17 v18 v19 N) (fun v14 v15 v16 N => ∃ k, k < n ∧ I7 k v14 v15 v16 N) (fun v14 v15 v16 v19 v20 v21 N => ∃ k, k < n ∧ I8 k v14 v15 v16 v19 v20 v21 N) (fun v14 v15 v16 N => ∃ k, k < n ∧ I9 k v14 v15 v16 N) (fun v14 v15 v16 v17 v18 N => ∃ k, k < n ∧ I10 k v14 v15 v16 v17 v18 N) (fun v14 v15 v16 N => ∃ k, k < n ∧ I11 k v14 v15 v16 N) (fun v14 v15 N => ∃ k, k < n ∧ I12 k v14 v15 N)) (h11 : ∀ (n : Nat) (v14 : Int32) (v15 : Int32) (v16 : Int32) (N : xM), I11 n v14 v15 v16 N → vc_L_same_11 g v14 v15 v16 N P (fun v1 v14 v15 v16 N => ∃ k, k < n ∧ I1 k v1 v14 v15 v16 N) (fun v1 v14 v15 v16 v20 N => ∃ k, k < n ∧ I2 k v1 v14 v15 v16 v20 N) (fun v1 v14 v15 v16 v21 v22 v23 v24 N => ∃ k, k < n ∧ I3 k v1 v14 v15 v16 v21 v22 v23 v24 N) (fun v1 v14 v15 v16 N => ∃ k, k < n ∧ I4 k v1 v14 v15 v16 N) (fun v14 v15 v16 N => ∃ k, k < n ∧ I5 k v14 v15 v16 N) (fun v14 v15 v16 v17 v18 v19 N => ∃ k, k < n ∧ I6 k v14 v15 v16 v17 v18 v19 N) (fun v14 v15 v16 N => ∃ k, k < n ∧ I7 k v14 v15 v16 N) (fun v14 v15 v16 v19 v20 v21 N => ∃ k, k < n ∧ I8 k v14 v15 v16 v19 v20 v21 N) (fun v14 v15 v16 N => ∃ k, k < n ∧ I9 k v14 v15 v16 N) (fun v14 v15 v16 v17 v18 N => ∃ k, k < n ∧ I10 k v14 v15 v16 v17 v18 N) (fun v14 v15 v16 N => ∃ k, k < n ∧ I11 k v14 v15 v16 N) (fun v14 v15 N => ∃ k, k < n ∧ I12 k v14 v15 N)) (h12 : ∀ (n : Nat) (v14 : Int32) (v15 : Int32) (N : xM), I12 n v14 v15 N → vc_L_same_12 g v14 v15 N P (fun v1 v14 v15 v16 N => ∃ k, k < n ∧ I1 k v1 v14 v15 v16 N) (fun v1 v14 v15 v16 v20 N => ∃ k, k < n ∧ I2 k v1 v14 v15 v16 v20 N) (fun v1 v14 v15 v16 v21 v22 v23 v24 N => ∃ k, k < n ∧ I3 k v1 v14 v15 v16 v21 v22 v23 v24 N) (fun v1 v14 v15 v16 N => ∃ k, k < n ∧ I4 k v1 v14 v15 v16 N) (fun v14 v15 v16 N => ∃ k, k < n ∧ I5 k v14 v15 v16 N) (fun v14 v15 v16 v17 v18 v19 N => ∃ k, k < n ∧ I6 k v14 v15 v16 v17 v18 v19 N) (fun v14 v15 v16 N => ∃ k, k < n ∧ I7 k v14 v15 v16 N) (fun v14 v15 v16 v19 v20 v21 N => ∃ k, k < n ∧ I8 k v14 v15 v16 v19 v20 v21 N) (fun v14 v15 v16 N => ∃ k, k < n ∧ I9 k v14 v15 v16 N) (fun v14 v15 v16 v17 v18 N => ∃ k, k < n ∧ I10 k v14 v15 v16 v17 v18 N) (fun v14 v15 v16 N => ∃ k, k < n ∧ I11 k v14 v15 v16 N) (fun v14 v15 N => ∃ k, k < n ∧ I12 k v14 v15 N)) : mi_L_same g v1 M P := by
  refine x_startI (as := [.ref (x_a g 180), .int v1, .ref (x_a g 193), .ref (x_a g 194), .ref (x_a g 195), .ref (x_a g 196), .ref (x_a g 197), .ref (x_a g 198), .ref (x_a g 199), .ref (x_a g 200), .ref (x_a g 201), .ref (x_a g 202), .ref (x_a g 203), .ref (x_a g 204)]) (cc := cL_same) (n := 26) (ret := (some .boolean)) (own := RL) (by decide) rfl rfl (Nat.le_of_ble_eq_true rfl) (fun x hC hr => ?_)
  have L : ∀ n : Nat, (∀ (v1 : Int32) (v14 : Int32) (v15 : Int32) (v16 : Int32) (N : xM), I1 n v1 v14 v15 v16 N → x_W x g 26 (x_Qi x g P) N 11 [(0, .ref (x_a g 180)), (1, .int v1), (2, .ref (x_a g 193)), (3, .ref (x_a g 194)), (4, .ref (x_a g 195)), (5, .ref (x_a g 196)), (6, .ref (x_a g 197)), (7, .ref (x_a g 198)), (8, .ref (x_a g 199)), (9, .ref (x_a g 200)), (10, .ref (x_a g 201)), (11, .ref (x_a g 202)), (12, .ref (x_a g 203)), (13, .ref (x_a g 204)), (14, .int v14), (15, .int v15), (16, .int v16)] []) ∧ (∀ (v1 : Int32) (v14 : Int32) (v15 : Int32) (v16 : Int32) (v20 : Int32) (N : xM), I2 n v1 v14 v15 v16 v20 N → x_W x g 26 (x_Qi x g P) N 250 [(0, .ref (x_a g 180)), (1, .int v1), (2, .ref (x_a g 193)), (3, .ref (x_a g 194)), (4, .ref (x_a g 195)), (5, .ref (x_a g 196)), (6, .ref (x_a g 197)), (7, .ref (x_a g 198)), (8, .ref (x_a g 199)), (9, .ref (x_a g 200)), (10, .ref (x_a g 201)), (11, .ref (x_a g 202)), (12, .ref (x_a g 203)), (13, .ref (x_a g 204)), (14, .int v14), (15, .int v15), (16, .int v16), (20, .int v20)] []) ∧ (∀ (v1 : Int32) (v14 : Int32) (v15 : Int32) (v16 : Int32) (v21 : Int32) (v22 : Int32) (v23 : Int32) (v24 : Int32) (N : xM), I3 n v1 v14 v15 v16 v21 v22 v23 v24 N → x_W x g 26 (x_Qi x g P) N 376 [(0, .ref (x_a g 180)), (1, .int v1), (2, .ref (x_a g 193)), (3, .ref (x_a g 194)), (4, .ref (x_a g 195)), (5, .ref (x_a g 196)), (6, .ref (x_a g 197)), (7, .ref (x_a g 198)), (8, .ref (x_a g 199)), (9, .ref (x_a g 200)), (10, .ref (x_a g 201)), (11, .ref (x_a g 202)), (12, .ref (x_a g 203)), (13, .ref (x_a g 204)), (14, .int v14), (15, .int v15), (16, .int v16), (21, .int v21), (22, .int v22), (23, .int v23), (24, .int v24)] []) ∧ (∀ (v1 : Int32) (v14 : Int32) (v15 : Int32) (v16 : Int32) (N : xM), I4 n v1 v14 v15 v16 N → x_W x g 26 (x_Qi x g P) N 484 [(0, .ref (x_a g 180)), (1, .int v1), (2, .ref (x_a g 193)), (3, .ref (x_a g 194)), (4, .ref (x_a g 195)), (5, .ref (x_a g 196)), (6, .ref (x_a g 197)), (7, .ref (x_a g 198)), (8, .ref (x_a g 199)), (9, .ref (x_a g 200)), (10, .ref (x_a g 201)), (11, .ref (x_a g 202)), (12, .ref (x_a g 203)), (13, .ref (x_a g 204)), (14, .int v14), (15, .int v15), (16, .int v16)] []) ∧ (∀ (v14 : Int32) (v15 : Int32) (v16 : Int32) (N : xM), I5 n v14 v15 v16 N → x_W x g 26 (x_Qi x g P) N 493 [(0, .ref (x_a g 180)), (2, .ref (x_a g 193)), (3, .ref (x_a g 194)), (4, .ref (x_a g 195)), (5, .ref (x_a g 196)), (6, .ref (x_a g 197)), (7, .ref (x_a g 198)), (14, .int v14), (15, .int v15), (16, .int v16)] []) ∧ (∀ (v14 : Int32) (v15 : Int32) (v16 : Int32) (v17 : Int32) (v18 : Int32) (v19 : Int32) (N : xM), I6 n v14 v15 v16 v17 v18 v19 N → x_W x g 26 (x_Qi x g P) N 510 [(0, .ref (x_a g 180)), (2, .ref (x_a g 193)), (3, .ref (x_a g 194)), (4, .ref (x_a g 195)), (5, .ref (x_a g 196)), (6, .ref (x_a g 197)), (7, .ref (x_a g 198)), (14, .int v14), (15, .int v15), (16, .int v16), (17, .int v17), (18, .int v18), (19, .int v19)] []) ∧ (∀ (v14 : Int32) (v15 : Int32) (v16 : Int32) (N : xM), I7 n v14 v15 v16 N → x_W x g 26 (x_Qi x g P) N 708 [(0, .ref (x_a g 180)), (2, .ref (x_a g 193)), (3, .ref (x_a g 194)), (4, .ref (x_a g 195)), (5, .ref (x_a g 196)), (6, .ref (x_a g 197)), (7, .ref (x_a g 198)), (14, .int v14), (15, .int v15), (16, .int v16)] []) ∧ (∀ (v14 : Int32) (v15 : Int32) (v16 : Int32) (v19 : Int32) (v20 : Int32) (v21 : Int32) (N : xM), I8 n v14 v15 v16 v19 v20 v21 N → x_W x g 26 (x_Qi x g P) N 724 [(0, .ref (x_a g 180)), (2, .ref (x_a g 193)), (3, .ref (x_a g 194)), (4, .ref (x_a g 195)), (5, .ref (x_a g 196)), (6, .ref (x_a g 197)), (7, .ref (x_a g 198)), (14, .int v14), (15, .int v15), (16, .int v16), (19, .int v19), (20, .int v20), (21, .int v21)] []) ∧ (∀ (v14 : Int32) (v15 : Int32) (v16 : Int32) (N : xM), I9 n v14 v15 v16 N → x_W x g 26 (x_Qi x g P) N 806 [(0, .ref (x_a g 180)), (2, .ref (x_a g 193)), (3, .ref (x_a g 194)), (4, .ref (x_a g 195)), (5, .ref (x_a g 196)), (6, .ref (x_a g 197)), (7, .ref (x_a g 198)), (14, .int v14), (15, .int v15), (16, .int v16)] []) ∧ (∀ (v14 : Int32) (v15 : Int32) (v16 : Int32) (v17 : Int32) (v18 : Int32) (N : xM), I10 n v14 v15 v16 v17 v18 N → x_W x g 26 (x_Qi x g P) N 820 [(0, .ref (x_a g 180)), (2, .ref (x_a g 193)), (3, .ref (x_a g 194)), (4, .ref (x_a g 195)), (5, .ref (x_a g 196)), (6, .ref (x_a g 197)), (7, .ref (x_a g 198)), (14, .int v14), (15, .int v15), (16, .int v16), (17, .int v17), (18, .int v18)] []) ∧ (∀ (v14 : Int32) (v15 : Int32) (v16 : Int32) (N : xM), I11 n v14 v15 v16 N → x_W x g 26 (x_Qi x g P) N 922 [(0, .ref (x_a g 180)), (2, .ref (x_a g 193)), (3, .ref (x_a g 194)), (5, .ref (x_a g 196)), (6, .ref (x_a g 197)), (7, .ref (x_a g 198)), (14, .int v14), (15, .int v15), (16, .int v16)] []) ∧ (∀ (v14 : Int32) (v15 : Int32) (N : xM), I12 n v14 v15 N → x_W x g 26 (x_Qi x g P) N 1033 [(0, .ref (x_a g 180)), (2, .ref (x_a g 193)), (3, .ref (x_a g 194)), (5, .ref (x_a g 196)), (14, .int v14), (15, .int v15)] []) := by
    intro n
    induction n using Nat.strongRecOn with
    | ind n ih =>
      refine ⟨?_, ?_, ?_, ?_, ?_, ?_, ?_, ?_, ?_, ?_, ?_, ?_⟩
      · intro v1 v14 v15 v16 M hI
        have h := h1 n v1 v14 v15 v16 M hI
        unfold vc_L_same_1 at h
        refine x_iload (q := 16) hC dL_same_11 rfl ?_
        refine x_aload_n (i := 2) (q := 2) hC dL_same_13 rfl rfl ?_
        refine x_iconst (v := 2) hC dL_same_14 (by decide) ?_
        refine x_iald (len := 8) hC xa_193 h.1 dL_same_15 ?_
        replace h := h.2
        refine x_icmp_ge (t := 490) hC dL_same_16 (by decide) (fun q => ?_) (fun q => ?_)
        · replace h := h.1 q
          refine x_iconst (v := 0) hC dL_same_490 (by decide) ?_
          refine x_istore (ls' := [(16, .int (0 : Int32)), (0, .ref (x_a g 180)), (1, .int v1), (2, .ref (x_a g 193)), (3, .ref (x_a g 194)), (4, .ref (x_a g 195)), (5, .ref (x_a g 196)), (6, .ref (x_a g 197)), (7, .ref (x_a g 198)), (8, .ref (x_a g 199)), (9, .ref (x_a g 200)), (10, .ref (x_a g 201)), (11, .ref (x_a g 202)), (12, .ref (x_a g 203)), (13, .ref (x_a g 204)), (14, .int v14), (15, .int v15)]) hC dL_same_491 (by decide) rfl ?_
          obtain ⟨n_5, hn, h⟩ := h
          exact x_sub [1, 3, 4, 5, 6, 7, 8, 15, 16, 0] rfl ((ih n_5 hn).2.2.2.2.1 _ _ _ _ h)
        · replace h := h.2 q
          refine x_aload (q := 5) hC dL_same_19 rfl ?_
          refine x_iload (q := 16) hC dL_same_21 rfl ?_
          refine x_iald (len := 20) hC xa_196 h.1 dL_same_23 ?_
          replace h := h.2
          refine x_istore (ls' := [(17, .int (M 196 (v16).toNatClampNeg)), (0, .ref (x_a g 180)), (1, .int v1), (2, .ref (x_a g 193)), (3, .ref (x_a g 194)), (4, .ref (x_a g 195)), (5, .ref (x_a g 196)), (6, .ref (x_a g 197)), (7, .ref (x_a g 198)), (8, .ref (x_a g 199)), (9, .ref (x_a g 200)), (10, .ref (x_a g 201)), (11, .ref (x_a g 202)), (12, .ref (x_a g 203)), (13, .ref (x_a g 204)), (14, .int v14), (15, .int v15), (16, .int v16)]) hC dL_same_24 (by decide) rfl ?_
          refine x_iload (q := 0) hC dL_same_26 rfl ?_
          refine x_bipush (v := 100) hC dL_same_28 (by decide) ?_
          refine x_irem hC (by decide) dL_same_30 ?_
          refine x_topi (fun y1 qy1 => ?_)
          replace h := h y1 qy1
          refine x_istore (ls' := [(18, .int y1), (17, .int (M 196 (v16).toNatClampNeg)), (0, .ref (x_a g 180)), (1, .int v1), (2, .ref (x_a g 193)), (3, .ref (x_a g 194)), (4, .ref (x_a g 195)), (5, .ref (x_a g 196)), (6, .ref (x_a g 197)), (7, .ref (x_a g 198)), (8, .ref (x_a g 199)), (9, .ref (x_a g 200)), (10, .ref (x_a g 201)), (11, .ref (x_a g 202)), (12, .ref (x_a g 203)), (13, .ref (x_a g 204)), (14, .int v14), (15, .int v15), (16, .int v16)]) hC dL_same_31 (by decide) rfl ?_
          refine x_iload (q := 1) hC dL_same_33 rfl ?_
          refine x_bipush (v := 100) hC dL_same_35 (by decide) ?_
          refine x_idiv hC (by decide) dL_same_37 ?_
          refine x_bipush (v := 100) hC dL_same_38 (by decide) ?_
          refine x_irem hC (by decide) dL_same_40 ?_
          refine x_iconst (v := 1) hC dL_same_41 (by decide) ?_
          refine x_isub hC dL_same_42 ?_
          refine x_topi (fun y2 qy2 => ?_)
          replace h := h y2 qy2
          refine x_istore (ls' := [(19, .int y2), (18, .int y1), (17, .int (M 196 (v16).toNatClampNeg)), (0, .ref (x_a g 180)), (1, .int v1), (2, .ref (x_a g 193)), (3, .ref (x_a g 194)), (4, .ref (x_a g 195)), (5, .ref (x_a g 196)), (6, .ref (x_a g 197)), (7, .ref (x_a g 198)), (8, .ref (x_a g 199)), (9, .ref (x_a g 200)), (10, .ref (x_a g 201)), (11, .ref (x_a g 202)), (12, .ref (x_a g 203)), (13, .ref (x_a g 204)), (14, .int v14), (15, .int v15), (16, .int v16)]) hC dL_same_43 (by decide) rfl ?_
          refine x_iload (q := 2) hC dL_same_45 rfl ?_
          refine x_callSi (As := [.int (M 196 (v16).toNatClampNeg)]) hC h gL_same_L_set rfl rfl rfl hy_L_set.2 ⟨Nat.le_of_ble_eq_true rfl, Nat.le_of_ble_eq_true rfl⟩ rfl (Nat.le_of_ble_eq_true rfl) rfl dL_same_47 (fun r3 N4 h => ?_)
          refine x_aload_n (i := 2) (q := 5) hC dL_same_50 rfl rfl ?_
          refine x_iconst (v := 3) hC dL_same_51 (by decide) ?_
          refine x_iald (len := 8) hC xa_193 h.1 dL_same_52 ?_
          replace h := h.2
          refine x_iconst (v := -1) hC dL_same_53 (by decide) ?_
          refine x_ixor hC dL_same_54 ?_
          refine x_iand hC dL_same_55 ?_
          obtain ⟨J5, h, hJ5⟩ := h
          have HJ5 : ∀ (j6 : Int32), J5 j6 → x_W x g 26 (x_Qi x g P) N4 64 [(0, .ref (x_a g 180)), (1, .int v1), (2, .ref (x_a g 193)), (3, .ref (x_a g 194)), (4, .ref (x_a g 195)), (5, .ref (x_a g 196)), (6, .ref (x_a g 197)), (7, .ref (x_a g 198)), (8, .ref (x_a g 199)), (9, .ref (x_a g 200)), (10, .ref (x_a g 201)), (11, .ref (x_a g 202)), (12, .ref (x_a g 203)), (13, .ref (x_a g 204)), (14, .int v14), (15, .int v15), (16, .int v16), (17, .int (M 196 (v16).toNatClampNeg)), (18, .int y1), (19, .int y2)] [.int j6] := by
            intro j6 hj
            have h := hJ5 j6 hj
            refine x_istore (ls' := [(20, .int j6), (0, .ref (x_a g 180)), (1, .int v1), (2, .ref (x_a g 193)), (3, .ref (x_a g 194)), (4, .ref (x_a g 195)), (5, .ref (x_a g 196)), (6, .ref (x_a g 197)), (7, .ref (x_a g 198)), (8, .ref (x_a g 199)), (9, .ref (x_a g 200)), (10, .ref (x_a g 201)), (11, .ref (x_a g 202)), (12, .ref (x_a g 203)), (13, .ref (x_a g 204)), (14, .int v14), (15, .int v15), (16, .int v16), (17, .int (M 196 (v16).toNatClampNeg)), (18, .int y1), (19, .int y2)]) hC dL_same_64 (by decide) rfl ?_
            refine x_iload (q := 15) hC dL_same_66 rfl ?_
            refine x_iload (q := 0) hC dL_same_68 rfl ?_
            obtain ⟨J7, h, hJ7⟩ := h
            have HJ7 : ∀ (j8 : Int32), J7 j8 → x_W x g 26 (x_Qi x g P) N4 78 [(0, .ref (x_a g 180)), (1, .int v1), (2, .ref (x_a g 193)), (3, .ref (x_a g 194)), (4, .ref (x_a g 195)), (5, .ref (x_a g 196)), (6, .ref (x_a g 197)), (7, .ref (x_a g 198)), (8, .ref (x_a g 199)), (9, .ref (x_a g 200)), (10, .ref (x_a g 201)), (11, .ref (x_a g 202)), (12, .ref (x_a g 203)), (13, .ref (x_a g 204)), (15, .int v15), (16, .int v16), (17, .int (M 196 (v16).toNatClampNeg)), (18, .int y1), (19, .int y2), (20, .int j6)] [.int j8, .int v14] := by
              intro j8 hj
              have h := hJ7 j8 hj
              refine x_iadd hC dL_same_78 ?_
              refine x_istore (ls' := [(14, .int (v14 + j8)), (0, .ref (x_a g 180)), (1, .int v1), (2, .ref (x_a g 193)), (3, .ref (x_a g 194)), (4, .ref (x_a g 195)), (5, .ref (x_a g 196)), (6, .ref (x_a g 197)), (7, .ref (x_a g 198)), (8, .ref (x_a g 199)), (9, .ref (x_a g 200)), (10, .ref (x_a g 201)), (11, .ref (x_a g 202)), (12, .ref (x_a g 203)), (13, .ref (x_a g 204)), (15, .int v15), (16, .int v16), (17, .int (M 196 (v16).toNatClampNeg)), (18, .int y1), (19, .int y2), (20, .int j6)]) hC dL_same_79 (by decide) rfl ?_
              refine x_iload (q := 15) hC dL_same_81 rfl ?_
              refine x_iload (q := 20) hC dL_same_83 rfl ?_
              obtain ⟨J9, h, hJ9⟩ := h
              have HJ9 : ∀ (j10 : Int32), J9 j10 → x_W x g 26 (x_Qi x g P) N4 105 [(0, .ref (x_a g 180)), (1, .int v1), (2, .ref (x_a g 193)), (3, .ref (x_a g 194)), (4, .ref (x_a g 195)), (5, .ref (x_a g 196)), (6, .ref (x_a g 197)), (7, .ref (x_a g 198)), (8, .ref (x_a g 199)), (9, .ref (x_a g 200)), (10, .ref (x_a g 201)), (11, .ref (x_a g 202)), (12, .ref (x_a g 203)), (13, .ref (x_a g 204)), (14, .int (v14 + j8)), (16, .int v16), (17, .int (M 196 (v16).toNatClampNeg)), (18, .int y1), (19, .int y2), (20, .int j6)] [.int j10, .int v15] := by
                intro j10 hj
                have h := hJ9 j10 hj
                refine x_iadd hC dL_same_105 ?_
                refine x_istore (ls' := [(15, .int (v15 + j10)), (0, .ref (x_a g 180)), (1, .int v1), (2, .ref (x_a g 193)), (3, .ref (x_a g 194)), (4, .ref (x_a g 195)), (5, .ref (x_a g 196)), (6, .ref (x_a g 197)), (7, .ref (x_a g 198)), (8, .ref (x_a g 199)), (9, .ref (x_a g 200)), (10, .ref (x_a g 201)), (11, .ref (x_a g 202)), (12, .ref (x_a g 203)), (13, .ref (x_a g 204)), (14, .int (v14 + j8)), (16, .int v16), (17, .int (M 196 (v16).toNatClampNeg)), (18, .int y1), (19, .int y2), (20, .int j6)]) hC dL_same_106 (by decide) rfl ?_
                refine x_aload_n (i := 0) (q := 1) hC dL_same_108 rfl rfl ?_
                refine x_iload (q := 16) hC dL_same_109 rfl ?_
                refine x_iconst (v := 0) hC dL_same_111 (by decide) ?_
                refine x_callVi (q := (RX9, TX9, 7)) (As := [.int v16, .int (0 : Int32)]) hC xo_180 rfl h gL_same_X9_inQueue rfl rfl rfl hy_X9_inQueue ⟨Nat.le_of_ble_eq_true rfl, Nat.le_of_ble_eq_true rfl⟩ rfl (Nat.le_of_ble_eq_true rfl) rfl dL_same_112 (fun r11 N12 h => ?_)
                refine x_iload (q := 18) hC dL_same_115 rfl ?_
                refine x_icmp_ne (t := 248) hC dL_same_117 (by decide) (fun q => ?_) (fun q => ?_)
                · replace h := h.1 q
                  refine x_iconst (v := 0) hC dL_same_248 (by decide) ?_
                  exact x_zret hC hr dL_same_249 rfl h
                · replace h := h.2 q
                  refine x_aload_n (i := 0) (q := 1) hC dL_same_120 rfl rfl ?_
                  refine x_iload (q := 16) hC dL_same_121 rfl ?_
                  refine x_iconst (v := 1) hC dL_same_123 (by decide) ?_
                  refine x_callVi (q := (RX9, TX9, 7)) (As := [.int v16, .int (1 : Int32)]) hC xo_180 rfl h gL_same_X9_inQueue rfl rfl rfl hy_X9_inQueue ⟨Nat.le_of_ble_eq_true rfl, Nat.le_of_ble_eq_true rfl⟩ rfl (Nat.le_of_ble_eq_true rfl) rfl dL_same_124 (fun r13 N14 h => ?_)
                  refine x_iload (q := 19) hC dL_same_127 rfl ?_
                  obtain ⟨J15, h, hJ15⟩ := h
                  have HJ15 : ∀ (j16 : Int32), J15 j16 → x_W x g 26 (x_Qi x g P) N14 139 [(0, .ref (x_a g 180)), (1, .int v1), (2, .ref (x_a g 193)), (3, .ref (x_a g 194)), (4, .ref (x_a g 195)), (5, .ref (x_a g 196)), (6, .ref (x_a g 197)), (7, .ref (x_a g 198)), (8, .ref (x_a g 199)), (9, .ref (x_a g 200)), (10, .ref (x_a g 201)), (11, .ref (x_a g 202)), (12, .ref (x_a g 203)), (13, .ref (x_a g 204)), (14, .int (v14 + j8)), (15, .int (v15 + j10)), (16, .int v16), (17, .int (M 196 (v16).toNatClampNeg)), (18, .int y1), (19, .int y2), (20, .int j6)] [.int j16, .int r13] := by
                    intro j16 hj
                    have h := hJ15 j16 hj
                    refine x_icmp_ne (t := 248) hC dL_same_139 (by decide) (fun q => ?_) (fun q => ?_)
                    · replace h := h.1 q
                      refine x_iconst (v := 0) hC dL_same_248 (by decide) ?_
                      exact x_zret hC hr dL_same_249 rfl h
                    · replace h := h.2 q
                      refine x_aload_n (i := 0) (q := 0) hC dL_same_142 rfl rfl ?_
                      refine x_iload (q := 16) hC dL_same_143 rfl ?_
                      refine x_iconst (v := 2) hC dL_same_145 (by decide) ?_
                      refine x_callVi (q := (RX9, TX9, 7)) (As := [.int v16, .int (2 : Int32)]) hC xo_180 rfl h gL_same_X9_inQueue rfl rfl rfl hy_X9_inQueue ⟨Nat.le_of_ble_eq_true rfl, Nat.le_of_ble_eq_true rfl⟩ rfl (Nat.le_of_ble_eq_true rfl) rfl dL_same_146 (fun r17 N18 h => ?_)
                      refine x_iload (q := 17) hC dL_same_149 rfl ?_
                      refine x_sipush (v := 10000) hC dL_same_151 (by decide) ?_
                      refine x_idiv hC (by decide) dL_same_154 ?_
                      refine x_icmp_ne (t := 248) hC dL_same_155 (by decide) (fun q => ?_) (fun q => ?_)
                      · replace h := h.1 q
                        refine x_iconst (v := 0) hC dL_same_248 (by decide) ?_
                        exact x_zret hC hr dL_same_249 rfl h
                      · replace h := h.2 q
                        refine x_aload_n (i := 0) (q := 0) hC dL_same_158 rfl rfl ?_
                        refine x_iload (q := 16) hC dL_same_159 rfl ?_
                        refine x_iconst (v := 3) hC dL_same_161 (by decide) ?_
                        refine x_callVi (q := (RX9, TX9, 7)) (As := [.int v16, .int (3 : Int32)]) hC xo_180 rfl h gL_same_X9_inQueue rfl rfl rfl hy_X9_inQueue ⟨Nat.le_of_ble_eq_true rfl, Nat.le_of_ble_eq_true rfl⟩ rfl (Nat.le_of_ble_eq_true rfl) rfl dL_same_162 (fun r19 N20 h => ?_)
                        refine x_iload (q := 18) hC dL_same_165 rfl ?_
                        refine x_iload (q := 19) hC dL_same_167 rfl ?_
                        refine x_iload (q := 17) hC dL_same_169 rfl ?_
                        refine x_sipush (v := 10000) hC dL_same_171 (by decide) ?_
                        refine x_idiv hC (by decide) dL_same_174 ?_
                        refine x_aload_n (i := 3) (q := 3) hC dL_same_175 rfl rfl ?_
                        refine x_aload (q := 4) hC dL_same_176 rfl ?_
                        refine x_callSi (As := [.int y1, .int y2, .int ((M 196 (v16).toNatClampNeg) / (10000 : Int32)), .ref (x_a g 194), .ref (x_a g 195)]) hC h gL_same_L_key rfl rfl rfl hy_L_key.2 ⟨Nat.le_of_ble_eq_true rfl, Nat.le_of_ble_eq_true rfl⟩ rfl (Nat.le_of_ble_eq_true rfl) rfl dL_same_178 (fun r21 N22 h => ?_)
                        refine x_icmp_ne (t := 248) hC dL_same_181 (by decide) (fun q => ?_) (fun q => ?_)
                        · replace h := h.1 q
                          refine x_iconst (v := 0) hC dL_same_248 (by decide) ?_
                          exact x_zret hC hr dL_same_249 rfl h
                        · replace h := h.2 q
                          refine x_aload_n (i := 0) (q := 0) hC dL_same_184 rfl rfl ?_
                          refine x_iload (q := 16) hC dL_same_185 rfl ?_
                          refine x_iconst (v := 4) hC dL_same_187 (by decide) ?_
                          refine x_callVi (q := (RX9, TX9, 7)) (As := [.int v16, .int (4 : Int32)]) hC xo_180 rfl h gL_same_X9_inQueue rfl rfl rfl hy_X9_inQueue ⟨Nat.le_of_ble_eq_true rfl, Nat.le_of_ble_eq_true rfl⟩ rfl (Nat.le_of_ble_eq_true rfl) rfl dL_same_188 (fun r23 N24 h => ?_)
                          refine x_iload (q := 20) hC dL_same_191 rfl ?_
                          obtain ⟨J25, h, hJ25⟩ := h
                          have HJ25 : ∀ (j26 : Int32), J25 j26 → x_W x g 26 (x_Qi x g P) N24 201 [(0, .ref (x_a g 180)), (1, .int v1), (2, .ref (x_a g 193)), (3, .ref (x_a g 194)), (4, .ref (x_a g 195)), (5, .ref (x_a g 196)), (6, .ref (x_a g 197)), (7, .ref (x_a g 198)), (8, .ref (x_a g 199)), (9, .ref (x_a g 200)), (10, .ref (x_a g 201)), (11, .ref (x_a g 202)), (12, .ref (x_a g 203)), (13, .ref (x_a g 204)), (14, .int (v14 + j8)), (15, .int (v15 + j10)), (16, .int v16), (17, .int (M 196 (v16).toNatClampNeg)), (20, .int j6)] [.int j26, .int r23] := by
                            intro j26 hj
                            have h := hJ25 j26 hj
                            refine x_icmp_ne (t := 248) hC dL_same_201 (by decide) (fun q => ?_) (fun q => ?_)
                            · replace h := h.1 q
                              refine x_iconst (v := 0) hC dL_same_248 (by decide) ?_
                              exact x_zret hC hr dL_same_249 rfl h
                            · replace h := h.2 q
                              refine x_aload_n (i := 0) (q := 0) hC dL_same_204 rfl rfl ?_
                              refine x_iload (q := 16) hC dL_same_205 rfl ?_
                              refine x_iconst (v := 5) hC dL_same_207 (by decide) ?_
                              refine x_callVi (q := (RX9, TX9, 7)) (As := [.int v16, .int (5 : Int32)]) hC xo_180 rfl h gL_same_X9_inQueue rfl rfl rfl hy_X9_inQueue ⟨Nat.le_of_ble_eq_true rfl, Nat.le_of_ble_eq_true rfl⟩ rfl (Nat.le_of_ble_eq_true rfl) rfl dL_same_208 (fun r27 N28 h => ?_)
                              refine x_iload (q := 17) hC dL_same_211 rfl ?_
                              refine x_callSi (As := [.int (M 196 (v16).toNatClampNeg)]) hC h gL_same_L_set rfl rfl rfl hy_L_set.2 ⟨Nat.le_of_ble_eq_true rfl, Nat.le_of_ble_eq_true rfl⟩ rfl (Nat.le_of_ble_eq_true rfl) rfl dL_same_213 (fun r29 N30 h => ?_)
                              refine x_aload_n (i := 2) (q := 2) hC dL_same_216 rfl rfl ?_
                              refine x_iconst (v := 4) hC dL_same_217 (by decide) ?_
                              refine x_iald (len := 8) hC xa_193 h.1 dL_same_218 ?_
                              replace h := h.2
                              refine x_iand hC dL_same_219 ?_
                              obtain ⟨J31, h, hJ31⟩ := h
                              have HJ31 : ∀ (j32 : Int32), J31 j32 → x_W x g 26 (x_Qi x g P) N30 228 [(0, .ref (x_a g 180)), (1, .int v1), (2, .ref (x_a g 193)), (3, .ref (x_a g 194)), (4, .ref (x_a g 195)), (5, .ref (x_a g 196)), (6, .ref (x_a g 197)), (7, .ref (x_a g 198)), (8, .ref (x_a g 199)), (9, .ref (x_a g 200)), (10, .ref (x_a g 201)), (11, .ref (x_a g 202)), (12, .ref (x_a g 203)), (13, .ref (x_a g 204)), (14, .int (v14 + j8)), (15, .int (v15 + j10)), (16, .int v16), (17, .int (M 196 (v16).toNatClampNeg)), (20, .int j6)] [.int j32, .int r27] := by
                                intro j32 hj
                                have h := hJ31 j32 hj
                                refine x_icmp_ne (t := 248) hC dL_same_228 (by decide) (fun q => ?_) (fun q => ?_)
                                · replace h := h.1 q
                                  refine x_iconst (v := 0) hC dL_same_248 (by decide) ?_
                                  exact x_zret hC hr dL_same_249 rfl h
                                · replace h := h.2 q
                                  refine x_aload_n (i := 0) (q := 0) hC dL_same_231 rfl rfl ?_
                                  refine x_iload (q := 16) hC dL_same_232 rfl ?_
                                  refine x_bipush (v := 6) hC dL_same_234 (by decide) ?_
                                  refine x_callVi (q := (RX9, TX9, 7)) (As := [.int v16, .int (6 : Int32)]) hC xo_180 rfl h gL_same_X9_inQueue rfl rfl rfl hy_X9_inQueue ⟨Nat.le_of_ble_eq_true rfl, Nat.le_of_ble_eq_true rfl⟩ rfl (Nat.le_of_ble_eq_true rfl) rfl dL_same_236 (fun r33 N34 h => ?_)
                                  refine x_iload (q := 17) hC dL_same_239 rfl ?_
                                  refine x_aload_n (i := 3) (q := 3) hC dL_same_241 rfl rfl ?_
                                  refine x_callSi (As := [.int (M 196 (v16).toNatClampNeg), .ref (x_a g 194)]) hC h gL_same_L_turns rfl rfl rfl hy_L_turns.2 ⟨Nat.le_of_ble_eq_true rfl, Nat.le_of_ble_eq_true rfl⟩ rfl (Nat.le_of_ble_eq_true rfl) rfl dL_same_242 (fun r35 N36 h => ?_)
                                  refine x_icmp_eq (t := 250) hC dL_same_245 (by decide) (fun q => ?_) (fun q => ?_)
                                  · replace h := h.1 q
                                    obtain ⟨n_2, hn, h⟩ := h
                                    exact x_sub [0, 1, 2, 3, 4, 5, 6, 7, 8, 9, 10, 11, 12, 13, 14, 15, 16, 18] rfl ((ih n_2 hn).2.1 _ _ _ _ _ _ h)
                                  · replace h := h.2 q
                                    refine x_iconst (v := 0) hC dL_same_248 (by decide) ?_
                                    exact x_zret hC hr dL_same_249 rfl h
                              refine x_if_ne (t := 227) hC dL_same_220 (by decide) (fun q => ?_) (fun q => ?_)
                              · replace h := h.1 q
                                refine x_iconst (v := 0) hC dL_same_227 (by decide) ?_
                                exact x_sub [0, 1, 2, 3, 4, 5, 6, 7, 8, 9, 10, 11, 12, 13, 14, 15, 16, 17, 18] rfl (HJ31 _ h)
                              · replace h := h.2 q
                                refine x_iconst (v := 1) hC dL_same_223 (by decide) ?_
                                refine x_goto (t := 228) hC dL_same_224 (by decide) ?_
                                exact x_sub [0, 1, 2, 3, 4, 5, 6, 7, 8, 9, 10, 11, 12, 13, 14, 15, 16, 17, 18] rfl (HJ31 _ h)
                          refine x_if_eq (t := 200) hC dL_same_193 (by decide) (fun q => ?_) (fun q => ?_)
                          · replace h := h.1 q
                            refine x_iconst (v := 0) hC dL_same_200 (by decide) ?_
                            exact x_sub [0, 1, 2, 3, 4, 5, 6, 7, 8, 9, 10, 11, 12, 13, 14, 15, 16, 17, 20] rfl (HJ25 _ h)
                          · replace h := h.2 q
                            refine x_iconst (v := 1) hC dL_same_196 (by decide) ?_
                            refine x_goto (t := 201) hC dL_same_197 (by decide) ?_
                            exact x_sub [0, 1, 2, 3, 4, 5, 6, 7, 8, 9, 10, 11, 12, 13, 14, 15, 16, 17, 20] rfl (HJ25 _ h)
                  refine x_if_ge (t := 137) hC dL_same_129 (by decide) (fun q => ?_) (fun q => ?_)
                  · replace h := h.1 q
                    refine x_iload (q := 19) hC dL_same_137 rfl ?_
                    exact x_sub [1, 2, 3, 4, 5, 6, 7, 8, 9, 10, 11, 12, 13, 14, 15, 0, 16, 17, 18, 19, 20] rfl (HJ15 _ h)
                  · replace h := h.2 q
                    refine x_bipush (v := -6) hC dL_same_132 (by decide) ?_
                    refine x_goto (t := 139) hC dL_same_134 (by decide) ?_
                    exact x_sub [1, 2, 3, 4, 5, 6, 7, 8, 9, 10, 11, 12, 13, 14, 15, 0, 16, 17, 18, 19, 20] rfl (HJ15 _ h)
              refine x_if_eq (t := 104) hC dL_same_85 (by decide) (fun q => ?_) (fun q => ?_)
              · replace h := h.1 q
                refine x_iconst (v := 0) hC dL_same_104 (by decide) ?_
                exact x_sub [1, 2, 3, 4, 5, 6, 7, 8, 9, 10, 11, 12, 13, 14, 0, 16, 17, 18, 19, 20] rfl (HJ9 _ h)
              · replace h := h.2 q
                refine x_aload (q := 5) hC dL_same_88 rfl ?_
                refine x_iconst (v := 4) hC dL_same_90 (by decide) ?_
                refine x_iload (q := 17) hC dL_same_91 rfl ?_
                refine x_sipush (v := 10000) hC dL_same_93 (by decide) ?_
                refine x_idiv hC (by decide) dL_same_96 ?_
                refine x_imul hC dL_same_97 ?_
                refine x_iconst (v := 2) hC dL_same_98 (by decide) ?_
                refine x_iadd hC dL_same_99 ?_
                refine x_iald (len := 64) hC xa_195 h.1 dL_same_100 ?_
                replace h := h.2
                refine x_goto (t := 105) hC dL_same_101 (by decide) ?_
                exact x_sub [1, 2, 3, 4, 5, 6, 7, 8, 9, 10, 11, 12, 13, 14, 0, 16, 17, 18, 19, 20] rfl (HJ9 _ h)
            refine x_if_eq (t := 77) hC dL_same_70 (by decide) (fun q => ?_) (fun q => ?_)
            · replace h := h.1 q
              refine x_iconst (v := 0) hC dL_same_77 (by decide) ?_
              exact x_sub [1, 2, 3, 4, 5, 6, 7, 8, 9, 10, 11, 12, 13, 14, 16, 17, 18, 19, 20, 0] rfl (HJ7 _ h)
            · replace h := h.2 q
              refine x_iconst (v := 1) hC dL_same_73 (by decide) ?_
              refine x_goto (t := 78) hC dL_same_74 (by decide) ?_
              exact x_sub [1, 2, 3, 4, 5, 6, 7, 8, 9, 10, 11, 12, 13, 14, 16, 17, 18, 19, 20, 0] rfl (HJ7 _ h)
          refine x_if_ne (t := 63) hC dL_same_56 (by decide) (fun q => ?_) (fun q => ?_)
          · replace h := h.1 q
            refine x_iconst (v := 0) hC dL_same_63 (by decide) ?_
            exact x_sub [3, 4, 5, 6, 7, 8, 9, 10, 11, 12, 13, 14, 15, 16, 17, 18, 19, 2, 1, 0] rfl (HJ5 _ h)
          · replace h := h.2 q
            refine x_iconst (v := 1) hC dL_same_59 (by decide) ?_
            refine x_goto (t := 64) hC dL_same_60 (by decide) ?_
            exact x_sub [3, 4, 5, 6, 7, 8, 9, 10, 11, 12, 13, 14, 15, 16, 17, 18, 19, 2, 1, 0] rfl (HJ5 _ h)
      · intro v1 v14 v15 v16 v20 M hI
        have h := h2 n v1 v14 v15 v16 v20 M hI
        unfold vc_L_same_2 at h
        refine x_iload (q := 17) hC dL_same_250 rfl ?_
        refine x_if_ne (t := 281) hC dL_same_252 (by decide) (fun q => ?_) (fun q => ?_)
        · replace h := h.1 q
          refine x_iload (q := 16) hC dL_same_281 rfl ?_
          refine x_iconst (v := -1) hC dL_same_283 (by decide) ?_
          refine x_aload_n (i := 2) (q := 2) hC dL_same_284 rfl rfl ?_
          refine x_aload_n (i := 3) (q := 3) hC dL_same_285 rfl rfl ?_
          refine x_aload (q := 4) hC dL_same_286 rfl ?_
          refine x_aload (q := 5) hC dL_same_288 rfl ?_
          refine x_aload (q := 8) hC dL_same_290 rfl ?_
          refine x_aload (q := 9) hC dL_same_292 rfl ?_
          refine x_aload (q := 10) hC dL_same_294 rfl ?_
          refine x_aload (q := 11) hC dL_same_296 rfl ?_
          refine x_aload (q := 12) hC dL_same_298 rfl ?_
          refine x_aload (q := 13) hC dL_same_300 rfl ?_
          refine x_callSi (As := [.int v16, .int (-1 : Int32), .ref (x_a g 193), .ref (x_a g 194), .ref (x_a g 195), .ref (x_a g 196), .ref (x_a g 199), .ref (x_a g 200), .ref (x_a g 201), .ref (x_a g 202), .ref (x_a g 203), .ref (x_a g 204)]) hC h gL_same_L_comes rfl rfl rfl hy_L_comes.2 ⟨Nat.le_of_ble_eq_true rfl, Nat.le_of_ble_eq_true rfl⟩ rfl (Nat.le_of_ble_eq_true rfl) rfl dL_same_302 (fun r37 N38 h => ?_)
          refine x_istore (ls' := [(21, .int r37), (0, .ref (x_a g 180)), (1, .int v1), (2, .ref (x_a g 193)), (3, .ref (x_a g 194)), (4, .ref (x_a g 195)), (5, .ref (x_a g 196)), (6, .ref (x_a g 197)), (7, .ref (x_a g 198)), (8, .ref (x_a g 199)), (9, .ref (x_a g 200)), (10, .ref (x_a g 201)), (11, .ref (x_a g 202)), (12, .ref (x_a g 203)), (13, .ref (x_a g 204)), (14, .int v14), (15, .int v15), (16, .int v16), (20, .int v20)]) hC dL_same_305 (by decide) rfl ?_
          refine x_aload_n (i := 0) (q := 1) hC dL_same_307 rfl rfl ?_
          refine x_iload (q := 17) hC dL_same_308 rfl ?_
          refine x_iconst (v := 0) hC dL_same_310 (by decide) ?_
          refine x_callVi (q := (RX9, TX9, 7)) (As := [.int v16, .int (0 : Int32)]) hC xo_180 rfl h gL_same_X9_turnOf rfl rfl rfl hy_X9_turnOf ⟨Nat.le_of_ble_eq_true rfl, Nat.le_of_ble_eq_true rfl⟩ rfl (Nat.le_of_ble_eq_true rfl) rfl dL_same_311 (fun r39 N40 h => ?_)
          refine x_iload (q := 0) hC dL_same_314 rfl ?_
          refine x_sipush (v := 10000) hC dL_same_316 (by decide) ?_
          refine x_idiv hC (by decide) dL_same_319 ?_
          refine x_icmp_ne (t := 343) hC dL_same_320 (by decide) (fun q => ?_) (fun q => ?_)
          · replace h := h.1 q
            refine x_iconst (v := 0) hC dL_same_343 (by decide) ?_
            exact x_zret hC hr dL_same_344 rfl h
          · replace h := h.2 q
            refine x_aload_n (i := 0) (q := 1) hC dL_same_323 rfl rfl ?_
            refine x_iload (q := 17) hC dL_same_324 rfl ?_
            refine x_iconst (v := 1) hC dL_same_326 (by decide) ?_
            refine x_callVi (q := (RX9, TX9, 7)) (As := [.int v16, .int (1 : Int32)]) hC xo_180 rfl h gL_same_X9_turnOf rfl rfl rfl hy_X9_turnOf ⟨Nat.le_of_ble_eq_true rfl, Nat.le_of_ble_eq_true rfl⟩ rfl (Nat.le_of_ble_eq_true rfl) rfl dL_same_327 (fun r41 N42 h => ?_)
            refine x_aload_n (i := 2) (q := 3) hC dL_same_330 rfl rfl ?_
            refine x_iconst (v := 5) hC dL_same_331 (by decide) ?_
            refine x_iald (len := 8) hC xa_193 h.1 dL_same_332 ?_
            replace h := h.2
            refine x_iload (q := 0) hC dL_same_333 rfl ?_
            refine x_sipush (v := 10000) hC dL_same_335 (by decide) ?_
            refine x_irem hC (by decide) dL_same_338 ?_
            refine x_iadd hC dL_same_339 ?_
            refine x_icmp_eq (t := 345) hC dL_same_340 (by decide) (fun q => ?_) (fun q => ?_)
            · replace h := h.1 q
              refine x_iload (q := 17) hC dL_same_345 rfl ?_
              refine x_iload_n (i := 1) (q := 2) hC dL_same_347 rfl rfl ?_
              refine x_aload_n (i := 2) (q := 3) hC dL_same_348 rfl rfl ?_
              refine x_iconst (v := 2) hC dL_same_349 (by decide) ?_
              refine x_iald (len := 8) hC xa_193 h.1 dL_same_350 ?_
              replace h := h.2
              refine x_callSi (As := [.int v1, .int (N42 193 ((2 : Int32)).toNatClampNeg)]) hC h gL_same_L_low rfl rfl rfl hy_L_low.2 ⟨Nat.le_of_ble_eq_true rfl, Nat.le_of_ble_eq_true rfl⟩ rfl (Nat.le_of_ble_eq_true rfl) rfl dL_same_351 (fun r43 N44 h => ?_)
              refine x_icmp_ne (t := 484) hC dL_same_354 (by decide) (fun q => ?_) (fun q => ?_)
              · replace h := h.1 q
                obtain ⟨n_4, hn, h⟩ := h
                exact x_sub [1, 2, 3, 4, 5, 6, 7, 8, 9, 10, 11, 12, 13, 14, 15, 16, 17] rfl ((ih n_4 hn).2.2.2.1 _ _ _ _ _ h)
              · replace h := h.2 q
                refine x_aload_n (i := 2) (q := 3) hC dL_same_357 rfl rfl ?_
                refine x_iconst (v := 2) hC dL_same_358 (by decide) ?_
                refine x_iald (len := 8) hC xa_193 h.1 dL_same_359 ?_
                replace h := h.2
                refine x_iconst (v := 1) hC dL_same_360 (by decide) ?_
                refine x_icmp_ne (t := 367) hC dL_same_361 (by decide) (fun q => ?_) (fun q => ?_)
                · replace h := h.1 q
                  refine x_iconst (v := -1) hC dL_same_367 (by decide) ?_
                  refine x_istore (ls' := [(22, .int (-1 : Int32)), (21, .int r37), (0, .ref (x_a g 180)), (1, .int v1), (2, .ref (x_a g 193)), (3, .ref (x_a g 194)), (4, .ref (x_a g 195)), (5, .ref (x_a g 196)), (6, .ref (x_a g 197)), (7, .ref (x_a g 198)), (8, .ref (x_a g 199)), (9, .ref (x_a g 200)), (10, .ref (x_a g 201)), (11, .ref (x_a g 202)), (12, .ref (x_a g 203)), (13, .ref (x_a g 204)), (14, .int v14), (15, .int v15), (16, .int v16), (20, .int v20)]) hC dL_same_368 (by decide) rfl ?_
                  refine x_iconst (v := 0) hC dL_same_370 (by decide) ?_
                  refine x_istore (ls' := [(23, .int (0 : Int32)), (22, .int (-1 : Int32)), (21, .int r37), (0, .ref (x_a g 180)), (1, .int v1), (2, .ref (x_a g 193)), (3, .ref (x_a g 194)), (4, .ref (x_a g 195)), (5, .ref (x_a g 196)), (6, .ref (x_a g 197)), (7, .ref (x_a g 198)), (8, .ref (x_a g 199)), (9, .ref (x_a g 200)), (10, .ref (x_a g 201)), (11, .ref (x_a g 202)), (12, .ref (x_a g 203)), (13, .ref (x_a g 204)), (14, .int v14), (15, .int v15), (16, .int v16), (20, .int v20)]) hC dL_same_371 (by decide) rfl ?_
                  refine x_iconst (v := 0) hC dL_same_373 (by decide) ?_
                  refine x_istore (ls' := [(24, .int (0 : Int32)), (23, .int (0 : Int32)), (22, .int (-1 : Int32)), (21, .int r37), (0, .ref (x_a g 180)), (1, .int v1), (2, .ref (x_a g 193)), (3, .ref (x_a g 194)), (4, .ref (x_a g 195)), (5, .ref (x_a g 196)), (6, .ref (x_a g 197)), (7, .ref (x_a g 198)), (8, .ref (x_a g 199)), (9, .ref (x_a g 200)), (10, .ref (x_a g 201)), (11, .ref (x_a g 202)), (12, .ref (x_a g 203)), (13, .ref (x_a g 204)), (14, .int v14), (15, .int v15), (16, .int v16), (20, .int v20)]) hC dL_same_374 (by decide) rfl ?_
                  obtain ⟨n_3, hn, h⟩ := h
                  exact x_sub [4, 5, 6, 7, 8, 9, 10, 11, 12, 13, 14, 15, 16, 17, 18, 19, 20, 3, 2, 1, 0] rfl ((ih n_3 hn).2.2.1 _ _ _ _ _ _ _ _ _ h)
                · replace h := h.2 q
                  refine x_goto (t := 484) hC dL_same_364 (by decide) ?_
                  obtain ⟨n_4, hn, h⟩ := h
                  exact x_sub [1, 2, 3, 4, 5, 6, 7, 8, 9, 10, 11, 12, 13, 14, 15, 16, 17] rfl ((ih n_4 hn).2.2.2.1 _ _ _ _ _ h)
            · replace h := h.2 q
              refine x_iconst (v := 0) hC dL_same_343 (by decide) ?_
              exact x_zret hC hr dL_same_344 rfl h
        · replace h := h.2 q
          refine x_aload_n (i := 0) (q := 0) hC dL_same_255 rfl rfl ?_
          refine x_iload (q := 16) hC dL_same_256 rfl ?_
          refine x_iconst (v := 0) hC dL_same_258 (by decide) ?_
          refine x_callVi (q := (RX9, TX9, 7)) (As := [.int v16, .int (0 : Int32)]) hC xo_180 rfl h gL_same_X9_turnOf rfl rfl rfl hy_X9_turnOf ⟨Nat.le_of_ble_eq_true rfl, Nat.le_of_ble_eq_true rfl⟩ rfl (Nat.le_of_ble_eq_true rfl) rfl dL_same_259 (fun r45 N46 h => ?_)
          refine x_bipush (v := -6) hC dL_same_262 (by decide) ?_
          refine x_icmp_ne (t := 279) hC dL_same_264 (by decide) (fun q => ?_) (fun q => ?_)
          · replace h := h.1 q
            refine x_iconst (v := 0) hC dL_same_279 (by decide) ?_
            exact x_zret hC hr dL_same_280 rfl h
          · replace h := h.2 q
            refine x_aload_n (i := 0) (q := 0) hC dL_same_267 rfl rfl ?_
            refine x_iload (q := 16) hC dL_same_268 rfl ?_
            refine x_iconst (v := 1) hC dL_same_270 (by decide) ?_
            refine x_callVi (q := (RX9, TX9, 7)) (As := [.int v16, .int (1 : Int32)]) hC xo_180 rfl h gL_same_X9_heldUpBy rfl rfl rfl hy_X9_heldUpBy ⟨Nat.le_of_ble_eq_true rfl, Nat.le_of_ble_eq_true rfl⟩ rfl (Nat.le_of_ble_eq_true rfl) rfl dL_same_271 (fun r47 N48 h => ?_)
            refine x_bipush (v := -6) hC dL_same_274 (by decide) ?_
            refine x_icmp_eq (t := 484) hC dL_same_276 (by decide) (fun q => ?_) (fun q => ?_)
            · replace h := h.1 q
              obtain ⟨n_4, hn, h⟩ := h
              exact x_sub [0, 1, 2, 3, 4, 5, 6, 7, 8, 9, 10, 11, 12, 13, 14, 15, 16] rfl ((ih n_4 hn).2.2.2.1 _ _ _ _ _ h)
            · replace h := h.2 q
              refine x_iconst (v := 0) hC dL_same_279 (by decide) ?_
              exact x_zret hC hr dL_same_280 rfl h
      · intro v1 v14 v15 v16 v21 v22 v23 v24 M hI
        have h := h3 n v1 v14 v15 v16 v21 v22 v23 v24 M hI
        unfold vc_L_same_3 at h
        refine x_iload (q := 20) hC dL_same_376 rfl ?_
        refine x_aload_n (i := 2) (q := 2) hC dL_same_378 rfl rfl ?_
        refine x_iconst (v := 2) hC dL_same_379 (by decide) ?_
        refine x_iald (len := 8) hC xa_193 h.1 dL_same_380 ?_
        replace h := h.2
        refine x_icmp_ge (t := 458) hC dL_same_381 (by decide) (fun q => ?_) (fun q => ?_)
        · replace h := h.1 q
          refine x_aload_n (i := 0) (q := 0) hC dL_same_458 rfl rfl ?_
          refine x_iload (q := 16) hC dL_same_459 rfl ?_
          refine x_iconst (v := 0) hC dL_same_461 (by decide) ?_
          refine x_callVi (q := (RX9, TX9, 7)) (As := [.int v16, .int (0 : Int32)]) hC xo_180 rfl h gL_same_X9_heldUpBy rfl rfl rfl hy_X9_heldUpBy ⟨Nat.le_of_ble_eq_true rfl, Nat.le_of_ble_eq_true rfl⟩ rfl (Nat.le_of_ble_eq_true rfl) rfl dL_same_462 (fun r71 N72 h => ?_)
          refine x_iload (q := 18) hC dL_same_465 rfl ?_
          refine x_icmp_ne (t := 482) hC dL_same_467 (by decide) (fun q => ?_) (fun q => ?_)
          · replace h := h.1 q
            refine x_iconst (v := 0) hC dL_same_482 (by decide) ?_
            exact x_zret hC hr dL_same_483 rfl h
          · replace h := h.2 q
            refine x_aload_n (i := 0) (q := 0) hC dL_same_470 rfl rfl ?_
            refine x_iload (q := 16) hC dL_same_471 rfl ?_
            refine x_iconst (v := 1) hC dL_same_473 (by decide) ?_
            refine x_callVi (q := (RX9, TX9, 7)) (As := [.int v16, .int (1 : Int32)]) hC xo_180 rfl h gL_same_X9_heldUpBy rfl rfl rfl hy_X9_heldUpBy ⟨Nat.le_of_ble_eq_true rfl, Nat.le_of_ble_eq_true rfl⟩ rfl (Nat.le_of_ble_eq_true rfl) rfl dL_same_474 (fun r73 N74 h => ?_)
            refine x_iload (q := 19) hC dL_same_477 rfl ?_
            refine x_icmp_eq (t := 484) hC dL_same_479 (by decide) (fun q => ?_) (fun q => ?_)
            · replace h := h.1 q
              obtain ⟨n_4, hn, h⟩ := h
              exact x_sub [0, 1, 2, 3, 4, 5, 6, 7, 8, 9, 10, 11, 12, 13, 14, 15, 16] rfl ((ih n_4 hn).2.2.2.1 _ _ _ _ _ h)
            · replace h := h.2 q
              refine x_iconst (v := 0) hC dL_same_482 (by decide) ?_
              exact x_zret hC hr dL_same_483 rfl h
        · replace h := h.2 q
          refine x_iload (q := 20) hC dL_same_384 rfl ?_
          refine x_iload (q := 16) hC dL_same_386 rfl ?_
          refine x_icmp_ne (t := 394) hC dL_same_388 (by decide) (fun q => ?_) (fun q => ?_)
          · replace h := h.1 q
            refine x_iload (q := 17) hC dL_same_394 rfl ?_
            refine x_sipush (v := 10000) hC dL_same_396 (by decide) ?_
            refine x_irem hC (by decide) dL_same_399 ?_
            refine x_iload (q := 16) hC dL_same_400 rfl ?_
            refine x_iload (q := 20) hC dL_same_402 rfl ?_
            refine x_aload_n (i := 2) (q := 2) hC dL_same_404 rfl rfl ?_
            refine x_aload_n (i := 3) (q := 3) hC dL_same_405 rfl rfl ?_
            refine x_aload (q := 4) hC dL_same_406 rfl ?_
            refine x_aload (q := 5) hC dL_same_408 rfl ?_
            refine x_aload (q := 8) hC dL_same_410 rfl ?_
            refine x_aload (q := 9) hC dL_same_412 rfl ?_
            refine x_aload (q := 10) hC dL_same_414 rfl ?_
            refine x_aload (q := 11) hC dL_same_416 rfl ?_
            refine x_aload (q := 12) hC dL_same_418 rfl ?_
            refine x_aload (q := 13) hC dL_same_420 rfl ?_
            refine x_callSi (As := [.int v16, .int v24, .ref (x_a g 193), .ref (x_a g 194), .ref (x_a g 195), .ref (x_a g 196), .ref (x_a g 199), .ref (x_a g 200), .ref (x_a g 201), .ref (x_a g 202), .ref (x_a g 203), .ref (x_a g 204)]) hC h gL_same_L_comes rfl rfl rfl hy_L_comes.2 ⟨Nat.le_of_ble_eq_true rfl, Nat.le_of_ble_eq_true rfl⟩ rfl (Nat.le_of_ble_eq_true rfl) rfl dL_same_422 (fun r75 N76 h => ?_)
            refine x_sipush (v := 10000) hC dL_same_425 (by decide) ?_
            refine x_irem hC (by decide) dL_same_428 ?_
            refine x_isub hC dL_same_429 ?_
            refine x_topi (fun y77 qy77 => ?_)
            replace h := h y77 qy77
            refine x_istore (ls' := [(25, .int y77), (0, .ref (x_a g 180)), (1, .int v1), (2, .ref (x_a g 193)), (3, .ref (x_a g 194)), (4, .ref (x_a g 195)), (5, .ref (x_a g 196)), (6, .ref (x_a g 197)), (7, .ref (x_a g 198)), (8, .ref (x_a g 199)), (9, .ref (x_a g 200)), (10, .ref (x_a g 201)), (11, .ref (x_a g 202)), (12, .ref (x_a g 203)), (13, .ref (x_a g 204)), (14, .int v14), (15, .int v15), (16, .int v16), (21, .int v21), (22, .int v22), (23, .int v23), (24, .int v24)]) hC dL_same_430 (by decide) rfl ?_
            refine x_iload (q := 19) hC dL_same_432 rfl ?_
            refine x_if_lt (t := 444) hC dL_same_434 (by decide) (fun q => ?_) (fun q => ?_)
            · replace h := h.1 q
              refine x_iload (q := 21) hC dL_same_444 rfl ?_
              refine x_istore (ls' := [(22, .int v24), (25, .int y77), (0, .ref (x_a g 180)), (1, .int v1), (2, .ref (x_a g 193)), (3, .ref (x_a g 194)), (4, .ref (x_a g 195)), (5, .ref (x_a g 196)), (6, .ref (x_a g 197)), (7, .ref (x_a g 198)), (8, .ref (x_a g 199)), (9, .ref (x_a g 200)), (10, .ref (x_a g 201)), (11, .ref (x_a g 202)), (12, .ref (x_a g 203)), (13, .ref (x_a g 204)), (14, .int v14), (15, .int v15), (16, .int v16), (21, .int v21), (23, .int v23), (24, .int v24)]) hC dL_same_446 (by decide) rfl ?_
              refine x_iload (q := 1) hC dL_same_448 rfl ?_
              refine x_istore (ls' := [(23, .int y77), (22, .int v24), (25, .int y77), (0, .ref (x_a g 180)), (1, .int v1), (2, .ref (x_a g 193)), (3, .ref (x_a g 194)), (4, .ref (x_a g 195)), (5, .ref (x_a g 196)), (6, .ref (x_a g 197)), (7, .ref (x_a g 198)), (8, .ref (x_a g 199)), (9, .ref (x_a g 200)), (10, .ref (x_a g 201)), (11, .ref (x_a g 202)), (12, .ref (x_a g 203)), (13, .ref (x_a g 204)), (14, .int v14), (15, .int v15), (16, .int v16), (21, .int v21), (24, .int v24)]) hC dL_same_450 (by decide) rfl ?_
              refine x_iinc (k := 21) (v' := (v24 + (1 : Int32))) (ls' := [(24, .int (v24 + (1 : Int32))), (23, .int y77), (22, .int v24), (25, .int y77), (0, .ref (x_a g 180)), (1, .int v1), (2, .ref (x_a g 193)), (3, .ref (x_a g 194)), (4, .ref (x_a g 195)), (5, .ref (x_a g 196)), (6, .ref (x_a g 197)), (7, .ref (x_a g 198)), (8, .ref (x_a g 199)), (9, .ref (x_a g 200)), (10, .ref (x_a g 201)), (11, .ref (x_a g 202)), (12, .ref (x_a g 203)), (13, .ref (x_a g 204)), (14, .int v14), (15, .int v15), (16, .int v16), (21, .int v21)]) hC dL_same_452 rfl rfl (by decide) rfl ?_
              refine x_goto (t := 376) hC dL_same_455 (by decide) ?_
              obtain ⟨n_3, hn, h⟩ := h
              exact x_sub [4, 5, 6, 7, 8, 9, 10, 11, 12, 13, 14, 15, 16, 17, 18, 19, 20, 21, 2, 1, 0] rfl ((ih n_3 hn).2.2.1 _ _ _ _ _ _ _ _ _ h)
            · replace h := h.2 q
              refine x_iload (q := 0) hC dL_same_437 rfl ?_
              refine x_iload (q := 20) hC dL_same_439 rfl ?_
              refine x_icmp_le (t := 452) hC dL_same_441 (by decide) (fun q => ?_) (fun q => ?_)
              · replace h := h.1 q
                refine x_iinc (k := 21) (v' := (v24 + (1 : Int32))) (ls' := [(24, .int (v24 + (1 : Int32))), (25, .int y77), (0, .ref (x_a g 180)), (1, .int v1), (2, .ref (x_a g 193)), (3, .ref (x_a g 194)), (4, .ref (x_a g 195)), (5, .ref (x_a g 196)), (6, .ref (x_a g 197)), (7, .ref (x_a g 198)), (8, .ref (x_a g 199)), (9, .ref (x_a g 200)), (10, .ref (x_a g 201)), (11, .ref (x_a g 202)), (12, .ref (x_a g 203)), (13, .ref (x_a g 204)), (14, .int v14), (15, .int v15), (16, .int v16), (21, .int v21), (22, .int v22), (23, .int v23)]) hC dL_same_452 rfl rfl (by decide) rfl ?_
                refine x_goto (t := 376) hC dL_same_455 (by decide) ?_
                obtain ⟨n_3, hn, h⟩ := h
                exact x_sub [2, 3, 4, 5, 6, 7, 8, 9, 10, 11, 12, 13, 14, 15, 16, 17, 18, 19, 20, 21, 0] rfl ((ih n_3 hn).2.2.1 _ _ _ _ _ _ _ _ _ h)
              · replace h := h.2 q
                refine x_iload (q := 21) hC dL_same_444 rfl ?_
                refine x_istore (ls' := [(22, .int v24), (25, .int y77), (0, .ref (x_a g 180)), (1, .int v1), (2, .ref (x_a g 193)), (3, .ref (x_a g 194)), (4, .ref (x_a g 195)), (5, .ref (x_a g 196)), (6, .ref (x_a g 197)), (7, .ref (x_a g 198)), (8, .ref (x_a g 199)), (9, .ref (x_a g 200)), (10, .ref (x_a g 201)), (11, .ref (x_a g 202)), (12, .ref (x_a g 203)), (13, .ref (x_a g 204)), (14, .int v14), (15, .int v15), (16, .int v16), (21, .int v21), (23, .int v23), (24, .int v24)]) hC dL_same_446 (by decide) rfl ?_
                refine x_iload (q := 1) hC dL_same_448 rfl ?_
                refine x_istore (ls' := [(23, .int y77), (22, .int v24), (25, .int y77), (0, .ref (x_a g 180)), (1, .int v1), (2, .ref (x_a g 193)), (3, .ref (x_a g 194)), (4, .ref (x_a g 195)), (5, .ref (x_a g 196)), (6, .ref (x_a g 197)), (7, .ref (x_a g 198)), (8, .ref (x_a g 199)), (9, .ref (x_a g 200)), (10, .ref (x_a g 201)), (11, .ref (x_a g 202)), (12, .ref (x_a g 203)), (13, .ref (x_a g 204)), (14, .int v14), (15, .int v15), (16, .int v16), (21, .int v21), (24, .int v24)]) hC dL_same_450 (by decide) rfl ?_
                refine x_iinc (k := 21) (v' := (v24 + (1 : Int32))) (ls' := [(24, .int (v24 + (1 : Int32))), (23, .int y77), (22, .int v24), (25, .int y77), (0, .ref (x_a g 180)), (1, .int v1), (2, .ref (x_a g 193)), (3, .ref (x_a g 194)), (4, .ref (x_a g 195)), (5, .ref (x_a g 196)), (6, .ref (x_a g 197)), (7, .ref (x_a g 198)), (8, .ref (x_a g 199)), (9, .ref (x_a g 200)), (10, .ref (x_a g 201)), (11, .ref (x_a g 202)), (12, .ref (x_a g 203)), (13, .ref (x_a g 204)), (14, .int v14), (15, .int v15), (16, .int v16), (21, .int v21)]) hC dL_same_452 rfl rfl (by decide) rfl ?_
                refine x_goto (t := 376) hC dL_same_455 (by decide) ?_
                obtain ⟨n_3, hn, h⟩ := h
                exact x_sub [4, 5, 6, 7, 8, 9, 10, 11, 12, 13, 14, 15, 16, 17, 18, 19, 20, 21, 2, 1, 0] rfl ((ih n_3 hn).2.2.1 _ _ _ _ _ _ _ _ _ h)
          · replace h := h.2 q
            refine x_goto (t := 452) hC dL_same_391 (by decide) ?_
            refine x_iinc (k := 20) (v' := (v24 + (1 : Int32))) (ls' := [(24, .int (v24 + (1 : Int32))), (0, .ref (x_a g 180)), (1, .int v1), (2, .ref (x_a g 193)), (3, .ref (x_a g 194)), (4, .ref (x_a g 195)), (5, .ref (x_a g 196)), (6, .ref (x_a g 197)), (7, .ref (x_a g 198)), (8, .ref (x_a g 199)), (9, .ref (x_a g 200)), (10, .ref (x_a g 201)), (11, .ref (x_a g 202)), (12, .ref (x_a g 203)), (13, .ref (x_a g 204)), (14, .int v14), (15, .int v15), (16, .int v16), (21, .int v21), (22, .int v22), (23, .int v23)]) hC dL_same_452 rfl rfl (by decide) rfl ?_
            refine x_goto (t := 376) hC dL_same_455 (by decide) ?_
            obtain ⟨n_3, hn, h⟩ := h
            exact x_sub [1, 2, 3, 4, 5, 6, 7, 8, 9, 10, 11, 12, 13, 14, 15, 16, 17, 18, 19, 20, 0] rfl ((ih n_3 hn).2.2.1 _ _ _ _ _ _ _ _ _ h)
      · intro v1 v14 v15 v16 M hI
        have h := h4 n v1 v14 v15 v16 M hI
        unfold vc_L_same_4 at h
        refine x_iinc (k := 16) (v' := (v16 + (1 : Int32))) (ls' := [(16, .int (v16 + (1 : Int32))), (0, .ref (x_a g 180)), (1, .int v1), (2, .ref (x_a g 193)), (3, .ref (x_a g 194)), (4, .ref (x_a g 195)), (5, .ref (x_a g 196)), (6, .ref (x_a g 197)), (7, .ref (x_a g 198)), (8, .ref (x_a g 199)), (9, .ref (x_a g 200)), (10, .ref (x_a g 201)), (11, .ref (x_a g 202)), (12, .ref (x_a g 203)), (13, .ref (x_a g 204)), (14, .int v14), (15, .int v15)]) hC dL_same_484 rfl rfl (by decide) rfl ?_
        refine x_goto (t := 11) hC dL_same_487 (by decide) ?_
        obtain ⟨n_1, hn, h⟩ := h
        exact x_sub [1, 2, 3, 4, 5, 6, 7, 8, 9, 10, 11, 12, 13, 14, 15, 16, 0] rfl ((ih n_1 hn).1 _ _ _ _ _ h)
      · intro v14 v15 v16 M hI
        have h := h5 n v14 v15 v16 M hI
        unfold vc_L_same_5 at h
        refine x_iload (q := 9) hC dL_same_493 rfl ?_
        refine x_aload_n (i := 2) (q := 1) hC dL_same_495 rfl rfl ?_
        refine x_iconst (v := 0) hC dL_same_496 (by decide) ?_
        refine x_iald (len := 8) hC xa_193 h.1 dL_same_497 ?_
        replace h := h.2
        refine x_icmp_ge (t := 803) hC dL_same_498 (by decide) (fun q => ?_) (fun q => ?_)
        · replace h := h.1 q
          refine x_iconst (v := 0) hC dL_same_803 (by decide) ?_
          refine x_istore (ls' := [(16, .int (0 : Int32)), (0, .ref (x_a g 180)), (2, .ref (x_a g 193)), (3, .ref (x_a g 194)), (4, .ref (x_a g 195)), (5, .ref (x_a g 196)), (6, .ref (x_a g 197)), (7, .ref (x_a g 198)), (14, .int v14), (15, .int v15)]) hC dL_same_804 (by decide) rfl ?_
          obtain ⟨n_9, hn, h⟩ := h
          exact x_sub [1, 2, 3, 4, 5, 6, 7, 8, 9, 0] rfl ((ih n_9 hn).2.2.2.2.2.2.2.2.1 _ _ _ _ h)
        · replace h := h.2 q
          refine x_iconst (v := 0) hC dL_same_501 (by decide) ?_
          refine x_istore (ls' := [(17, .int (0 : Int32)), (0, .ref (x_a g 180)), (2, .ref (x_a g 193)), (3, .ref (x_a g 194)), (4, .ref (x_a g 195)), (5, .ref (x_a g 196)), (6, .ref (x_a g 197)), (7, .ref (x_a g 198)), (14, .int v14), (15, .int v15), (16, .int v16)]) hC dL_same_502 (by decide) rfl ?_
          refine x_iconst (v := 0) hC dL_same_504 (by decide) ?_
          refine x_istore (ls' := [(18, .int (0 : Int32)), (17, .int (0 : Int32)), (0, .ref (x_a g 180)), (2, .ref (x_a g 193)), (3, .ref (x_a g 194)), (4, .ref (x_a g 195)), (5, .ref (x_a g 196)), (6, .ref (x_a g 197)), (7, .ref (x_a g 198)), (14, .int v14), (15, .int v15), (16, .int v16)]) hC dL_same_505 (by decide) rfl ?_
          refine x_iconst (v := 0) hC dL_same_507 (by decide) ?_
          refine x_istore (ls' := [(19, .int (0 : Int32)), (18, .int (0 : Int32)), (17, .int (0 : Int32)), (0, .ref (x_a g 180)), (2, .ref (x_a g 193)), (3, .ref (x_a g 194)), (4, .ref (x_a g 195)), (5, .ref (x_a g 196)), (6, .ref (x_a g 197)), (7, .ref (x_a g 198)), (14, .int v14), (15, .int v15), (16, .int v16)]) hC dL_same_508 (by decide) rfl ?_
          obtain ⟨n_6, hn, h⟩ := h
          exact x_sub [3, 4, 5, 6, 7, 8, 9, 10, 11, 12, 2, 1, 0] rfl ((ih n_6 hn).2.2.2.2.2.1 _ _ _ _ _ _ _ h)
      · intro v14 v15 v16 v17 v18 v19 M hI
        have h := h6 n v14 v15 v16 v17 v18 v19 M hI
        unfold vc_L_same_6 at h
        refine x_iload (q := 12) hC dL_same_510 rfl ?_
        refine x_aload_n (i := 2) (q := 1) hC dL_same_512 rfl rfl ?_
        refine x_iconst (v := 2) hC dL_same_513 (by decide) ?_
        refine x_iald (len := 8) hC xa_193 h.1 dL_same_514 ?_
        replace h := h.2
        refine x_icmp_ge (t := 576) hC dL_same_515 (by decide) (fun q => ?_) (fun q => ?_)
        · replace h := h.1 q
          refine x_aload_n (i := 0) (q := 0) hC dL_same_576 rfl rfl ?_
          refine x_iload (q := 9) hC dL_same_577 rfl ?_
          refine x_iconst (v := 0) hC dL_same_579 (by decide) ?_
          refine x_callVi (q := (RX9, TX9, 7)) (As := [.int v16, .int (0 : Int32)]) hC xo_180 rfl h gL_same_X9_of rfl rfl rfl hy_X9_of ⟨Nat.le_of_ble_eq_true rfl, Nat.le_of_ble_eq_true rfl⟩ rfl (Nat.le_of_ble_eq_true rfl) rfl dL_same_580 (fun r49 N50 h => ?_)
          refine x_aload_n (i := 3) (q := 2) hC dL_same_583 rfl rfl ?_
          refine x_iconst (v := 4) hC dL_same_584 (by decide) ?_
          refine x_iload (q := 9) hC dL_same_585 rfl ?_
          refine x_imul hC dL_same_587 ?_
          refine x_iald (len := 48) hC xa_194 h.1 dL_same_588 ?_
          replace h := h.2
          refine x_icmp_ne (t := 706) hC dL_same_589 (by decide) (fun q => ?_) (fun q => ?_)
          · replace h := h.1 q
            refine x_iconst (v := 0) hC dL_same_706 (by decide) ?_
            exact x_zret hC hr dL_same_707 rfl h
          · replace h := h.2 q
            refine x_aload_n (i := 0) (q := 0) hC dL_same_592 rfl rfl ?_
            refine x_iload (q := 9) hC dL_same_593 rfl ?_
            refine x_iconst (v := 1) hC dL_same_595 (by decide) ?_
            refine x_callVi (q := (RX9, TX9, 7)) (As := [.int v16, .int (1 : Int32)]) hC xo_180 rfl h gL_same_X9_of rfl rfl rfl hy_X9_of ⟨Nat.le_of_ble_eq_true rfl, Nat.le_of_ble_eq_true rfl⟩ rfl (Nat.le_of_ble_eq_true rfl) rfl dL_same_596 (fun r51 N52 h => ?_)
            refine x_aload_n (i := 3) (q := 2) hC dL_same_599 rfl rfl ?_
            refine x_iconst (v := 4) hC dL_same_600 (by decide) ?_
            refine x_iload (q := 9) hC dL_same_601 rfl ?_
            refine x_imul hC dL_same_603 ?_
            refine x_iconst (v := 1) hC dL_same_604 (by decide) ?_
            refine x_iadd hC dL_same_605 ?_
            refine x_iald (len := 48) hC xa_194 h.1 dL_same_606 ?_
            replace h := h.2
            refine x_icmp_ne (t := 706) hC dL_same_607 (by decide) (fun q => ?_) (fun q => ?_)
            · replace h := h.1 q
              refine x_iconst (v := 0) hC dL_same_706 (by decide) ?_
              exact x_zret hC hr dL_same_707 rfl h
            · replace h := h.2 q
              refine x_aload_n (i := 0) (q := 0) hC dL_same_610 rfl rfl ?_
              refine x_iload (q := 9) hC dL_same_611 rfl ?_
              refine x_iconst (v := 2) hC dL_same_613 (by decide) ?_
              refine x_callVi (q := (RX9, TX9, 7)) (As := [.int v16, .int (2 : Int32)]) hC xo_180 rfl h gL_same_X9_of rfl rfl rfl hy_X9_of ⟨Nat.le_of_ble_eq_true rfl, Nat.le_of_ble_eq_true rfl⟩ rfl (Nat.le_of_ble_eq_true rfl) rfl dL_same_614 (fun r53 N54 h => ?_)
              refine x_aload_n (i := 2) (q := 1) hC dL_same_617 rfl rfl ?_
              refine x_iconst (v := 3) hC dL_same_618 (by decide) ?_
              refine x_iald (len := 8) hC xa_193 h.1 dL_same_619 ?_
              replace h := h.2
              refine x_iload (q := 9) hC dL_same_620 rfl ?_
              refine x_ishr hC dL_same_622 ?_
              refine x_iconst (v := 1) hC dL_same_623 (by decide) ?_
              refine x_iand hC dL_same_624 ?_
              refine x_icmp_ne (t := 706) hC dL_same_625 (by decide) (fun q => ?_) (fun q => ?_)
              · replace h := h.1 q
                refine x_iconst (v := 0) hC dL_same_706 (by decide) ?_
                exact x_zret hC hr dL_same_707 rfl h
              · replace h := h.2 q
                refine x_aload_n (i := 0) (q := 0) hC dL_same_628 rfl rfl ?_
                refine x_iload (q := 9) hC dL_same_629 rfl ?_
                refine x_iconst (v := 3) hC dL_same_631 (by decide) ?_
                refine x_callVi (q := (RX9, TX9, 7)) (As := [.int v16, .int (3 : Int32)]) hC xo_180 rfl h gL_same_X9_of rfl rfl rfl hy_X9_of ⟨Nat.le_of_ble_eq_true rfl, Nat.le_of_ble_eq_true rfl⟩ rfl (Nat.le_of_ble_eq_true rfl) rfl dL_same_632 (fun r55 N56 h => ?_)
                refine x_aload_n (i := 3) (q := 2) hC dL_same_635 rfl rfl ?_
                refine x_iconst (v := 4) hC dL_same_636 (by decide) ?_
                refine x_iload (q := 9) hC dL_same_637 rfl ?_
                refine x_imul hC dL_same_639 ?_
                refine x_iconst (v := 2) hC dL_same_640 (by decide) ?_
                refine x_iadd hC dL_same_641 ?_
                refine x_iald (len := 48) hC xa_194 h.1 dL_same_642 ?_
                replace h := h.2
                refine x_icmp_ne (t := 706) hC dL_same_643 (by decide) (fun q => ?_) (fun q => ?_)
                · replace h := h.1 q
                  refine x_iconst (v := 0) hC dL_same_706 (by decide) ?_
                  exact x_zret hC hr dL_same_707 rfl h
                · replace h := h.2 q
                  refine x_aload_n (i := 0) (q := 0) hC dL_same_646 rfl rfl ?_
                  refine x_iload (q := 9) hC dL_same_647 rfl ?_
                  refine x_iconst (v := 4) hC dL_same_649 (by decide) ?_
                  refine x_callVi (q := (RX9, TX9, 7)) (As := [.int v16, .int (4 : Int32)]) hC xo_180 rfl h gL_same_X9_of rfl rfl rfl hy_X9_of ⟨Nat.le_of_ble_eq_true rfl, Nat.le_of_ble_eq_true rfl⟩ rfl (Nat.le_of_ble_eq_true rfl) rfl dL_same_650 (fun r57 N58 h => ?_)
                  refine x_aload_n (i := 2) (q := 1) hC dL_same_653 rfl rfl ?_
                  refine x_iconst (v := 4) hC dL_same_654 (by decide) ?_
                  refine x_iald (len := 8) hC xa_193 h.1 dL_same_655 ?_
                  replace h := h.2
                  refine x_iload (q := 9) hC dL_same_656 rfl ?_
                  refine x_ishr hC dL_same_658 ?_
                  refine x_iconst (v := 1) hC dL_same_659 (by decide) ?_
                  refine x_iand hC dL_same_660 ?_
                  refine x_icmp_ne (t := 706) hC dL_same_661 (by decide) (fun q => ?_) (fun q => ?_)
                  · replace h := h.1 q
                    refine x_iconst (v := 0) hC dL_same_706 (by decide) ?_
                    exact x_zret hC hr dL_same_707 rfl h
                  · replace h := h.2 q
                    refine x_aload_n (i := 0) (q := 0) hC dL_same_664 rfl rfl ?_
                    refine x_iload (q := 9) hC dL_same_665 rfl ?_
                    refine x_iconst (v := 5) hC dL_same_667 (by decide) ?_
                    refine x_callVi (q := (RX9, TX9, 7)) (As := [.int v16, .int (5 : Int32)]) hC xo_180 rfl h gL_same_X9_of rfl rfl rfl hy_X9_of ⟨Nat.le_of_ble_eq_true rfl, Nat.le_of_ble_eq_true rfl⟩ rfl (Nat.le_of_ble_eq_true rfl) rfl dL_same_668 (fun r59 N60 h => ?_)
                    refine x_iload (q := 10) hC dL_same_671 rfl ?_
                    refine x_icmp_ne (t := 706) hC dL_same_673 (by decide) (fun q => ?_) (fun q => ?_)
                    · replace h := h.1 q
                      refine x_iconst (v := 0) hC dL_same_706 (by decide) ?_
                      exact x_zret hC hr dL_same_707 rfl h
                    · replace h := h.2 q
                      refine x_aload_n (i := 0) (q := 0) hC dL_same_676 rfl rfl ?_
                      refine x_iload (q := 9) hC dL_same_677 rfl ?_
                      refine x_bipush (v := 6) hC dL_same_679 (by decide) ?_
                      refine x_callVi (q := (RX9, TX9, 7)) (As := [.int v16, .int (6 : Int32)]) hC xo_180 rfl h gL_same_X9_of rfl rfl rfl hy_X9_of ⟨Nat.le_of_ble_eq_true rfl, Nat.le_of_ble_eq_true rfl⟩ rfl (Nat.le_of_ble_eq_true rfl) rfl dL_same_681 (fun r61 N62 h => ?_)
                      refine x_aload_n (i := 3) (q := 2) hC dL_same_684 rfl rfl ?_
                      refine x_iconst (v := 4) hC dL_same_685 (by decide) ?_
                      refine x_iload (q := 9) hC dL_same_686 rfl ?_
                      refine x_imul hC dL_same_688 ?_
                      refine x_iconst (v := 3) hC dL_same_689 (by decide) ?_
                      refine x_iadd hC dL_same_690 ?_
                      refine x_iald (len := 48) hC xa_194 h.1 dL_same_691 ?_
                      replace h := h.2
                      refine x_icmp_ne (t := 706) hC dL_same_692 (by decide) (fun q => ?_) (fun q => ?_)
                      · replace h := h.1 q
                        refine x_iconst (v := 0) hC dL_same_706 (by decide) ?_
                        exact x_zret hC hr dL_same_707 rfl h
                      · replace h := h.2 q
                        refine x_aload_n (i := 0) (q := 0) hC dL_same_695 rfl rfl ?_
                        refine x_iload (q := 9) hC dL_same_696 rfl ?_
                        refine x_callVi (q := (RX9, TX9, 7)) (As := [.int v16]) hC xo_180 rfl h gL_same_X9_ifLeft rfl rfl rfl hy_X9_ifLeft ⟨Nat.le_of_ble_eq_true rfl, Nat.le_of_ble_eq_true rfl⟩ rfl (Nat.le_of_ble_eq_true rfl) rfl dL_same_698 (fun r63 N64 h => ?_)
                        refine x_iload (q := 11) hC dL_same_701 rfl ?_
                        refine x_icmp_eq (t := 708) hC dL_same_703 (by decide) (fun q => ?_) (fun q => ?_)
                        · replace h := h.1 q
                          obtain ⟨n_7, hn, h⟩ := h
                          exact x_sub [0, 1, 2, 3, 4, 5, 6, 7, 8, 9] rfl ((ih n_7 hn).2.2.2.2.2.2.1 _ _ _ _ h)
                        · replace h := h.2 q
                          refine x_iconst (v := 0) hC dL_same_706 (by decide) ?_
                          exact x_zret hC hr dL_same_707 rfl h
        · replace h := h.2 q
          refine x_iload (q := 10) hC dL_same_518 rfl ?_
          refine x_aload (q := 4) hC dL_same_520 rfl ?_
          refine x_iload (q := 12) hC dL_same_522 rfl ?_
          refine x_iald (len := 20) hC xa_196 h.1 dL_same_524 ?_
          replace h := h.2
          refine x_callSi (As := [.int (M 196 (v19).toNatClampNeg)]) hC h gL_same_L_set rfl rfl rfl hy_L_set.2 ⟨Nat.le_of_ble_eq_true rfl, Nat.le_of_ble_eq_true rfl⟩ rfl (Nat.le_of_ble_eq_true rfl) rfl dL_same_525 (fun r65 N66 h => ?_)
          refine x_iload (q := 9) hC dL_same_528 rfl ?_
          refine x_ishr hC dL_same_530 ?_
          refine x_iconst (v := 1) hC dL_same_531 (by decide) ?_
          refine x_iand hC dL_same_532 ?_
          refine x_iadd hC dL_same_533 ?_
          refine x_istore (ls' := [(17, .int (v17 + ((r65 >>> (v16 &&& 31)) &&& (1 : Int32)))), (0, .ref (x_a g 180)), (2, .ref (x_a g 193)), (3, .ref (x_a g 194)), (4, .ref (x_a g 195)), (5, .ref (x_a g 196)), (6, .ref (x_a g 197)), (7, .ref (x_a g 198)), (14, .int v14), (15, .int v15), (16, .int v16), (18, .int v18), (19, .int v19)]) hC dL_same_534 (by decide) rfl ?_
          refine x_iload (q := 11) hC dL_same_536 rfl ?_
          refine x_aload (q := 5) hC dL_same_538 rfl ?_
          refine x_iload (q := 12) hC dL_same_540 rfl ?_
          refine x_iald (len := 20) hC xa_196 h.1 dL_same_542 ?_
          replace h := h.2
          refine x_callSi (As := [.int (N66 196 (v19).toNatClampNeg)]) hC h gL_same_L_set rfl rfl rfl hy_L_set.2 ⟨Nat.le_of_ble_eq_true rfl, Nat.le_of_ble_eq_true rfl⟩ rfl (Nat.le_of_ble_eq_true rfl) rfl dL_same_543 (fun r67 N68 h => ?_)
          refine x_aload_n (i := 2) (q := 2) hC dL_same_546 rfl rfl ?_
          refine x_iconst (v := 3) hC dL_same_547 (by decide) ?_
          refine x_iald (len := 8) hC xa_193 h.1 dL_same_548 ?_
          replace h := h.2
          refine x_iconst (v := 1) hC dL_same_549 (by decide) ?_
          refine x_iload (q := 10) hC dL_same_550 rfl ?_
          refine x_ishl hC dL_same_552 ?_
          refine x_iconst (v := -1) hC dL_same_553 (by decide) ?_
          refine x_ixor hC dL_same_554 ?_
          refine x_iand hC dL_same_555 ?_
          refine x_iconst (v := -1) hC dL_same_556 (by decide) ?_
          refine x_ixor hC dL_same_557 ?_
          refine x_iand hC dL_same_558 ?_
          obtain ⟨J69, h, hJ69⟩ := h
          have HJ69 : ∀ (j70 : Int32), J69 j70 → x_W x g 26 (x_Qi x g P) N68 567 [(0, .ref (x_a g 180)), (2, .ref (x_a g 193)), (3, .ref (x_a g 194)), (4, .ref (x_a g 195)), (5, .ref (x_a g 196)), (6, .ref (x_a g 197)), (7, .ref (x_a g 198)), (14, .int v14), (15, .int v15), (16, .int v16), (17, .int (v17 + ((r65 >>> (v16 &&& 31)) &&& (1 : Int32)))), (19, .int v19)] [.int j70, .int v18] := by
            intro j70 hj
            have h := hJ69 j70 hj
            refine x_iadd hC dL_same_567 ?_
            refine x_istore (ls' := [(18, .int (v18 + j70)), (0, .ref (x_a g 180)), (2, .ref (x_a g 193)), (3, .ref (x_a g 194)), (4, .ref (x_a g 195)), (5, .ref (x_a g 196)), (6, .ref (x_a g 197)), (7, .ref (x_a g 198)), (14, .int v14), (15, .int v15), (16, .int v16), (17, .int (v17 + ((r65 >>> (v16 &&& 31)) &&& (1 : Int32)))), (19, .int v19)]) hC dL_same_568 (by decide) rfl ?_
            refine x_iinc (k := 12) (v' := (v19 + (1 : Int32))) (ls' := [(19, .int (v19 + (1 : Int32))), (18, .int (v18 + j70)), (0, .ref (x_a g 180)), (2, .ref (x_a g 193)), (3, .ref (x_a g 194)), (4, .ref (x_a g 195)), (5, .ref (x_a g 196)), (6, .ref (x_a g 197)), (7, .ref (x_a g 198)), (14, .int v14), (15, .int v15), (16, .int v16), (17, .int (v17 + ((r65 >>> (v16 &&& 31)) &&& (1 : Int32))))]) hC dL_same_570 rfl rfl (by decide) rfl ?_
            refine x_goto (t := 510) hC dL_same_573 (by decide) ?_
            obtain ⟨n_6, hn, h⟩ := h
            exact x_sub [2, 3, 4, 5, 6, 7, 8, 9, 10, 11, 12, 1, 0] rfl ((ih n_6 hn).2.2.2.2.2.1 _ _ _ _ _ _ _ h)
          refine x_if_eq (t := 566) hC dL_same_559 (by decide) (fun q => ?_) (fun q => ?_)
          · replace h := h.1 q
            refine x_iconst (v := 0) hC dL_same_566 (by decide) ?_
            exact x_sub [1, 2, 3, 4, 5, 6, 7, 8, 9, 10, 0, 12] rfl (HJ69 _ h)
          · replace h := h.2 q
            refine x_iconst (v := 1) hC dL_same_562 (by decide) ?_
            refine x_goto (t := 567) hC dL_same_563 (by decide) ?_
            exact x_sub [1, 2, 3, 4, 5, 6, 7, 8, 9, 10, 0, 12] rfl (HJ69 _ h)
      · intro v14 v15 v16 M hI
        have h := h7 n v14 v15 v16 M hI
        unfold vc_L_same_7 at h
        refine x_iload (q := 9) hC dL_same_708 rfl ?_
        refine x_iconst (v := 1) hC dL_same_710 (by decide) ?_
        refine x_iadd hC dL_same_711 ?_
        refine x_aload_n (i := 2) (q := 1) hC dL_same_712 rfl rfl ?_
        refine x_iconst (v := 0) hC dL_same_713 (by decide) ?_
        refine x_iald (len := 8) hC xa_193 h.1 dL_same_714 ?_
        replace h := h.2
        refine x_irem hC h.1 dL_same_715 ?_
        replace h := h.2
        refine x_topi (fun y98 qy98 => ?_)
        replace h := h y98 qy98
        refine x_istore (ls' := [(19, .int y98), (0, .ref (x_a g 180)), (2, .ref (x_a g 193)), (3, .ref (x_a g 194)), (4, .ref (x_a g 195)), (5, .ref (x_a g 196)), (6, .ref (x_a g 197)), (7, .ref (x_a g 198)), (14, .int v14), (15, .int v15), (16, .int v16)]) hC dL_same_716 (by decide) rfl ?_
        refine x_iconst (v := 0) hC dL_same_718 (by decide) ?_
        refine x_istore (ls' := [(20, .int (0 : Int32)), (19, .int y98), (0, .ref (x_a g 180)), (2, .ref (x_a g 193)), (3, .ref (x_a g 194)), (4, .ref (x_a g 195)), (5, .ref (x_a g 196)), (6, .ref (x_a g 197)), (7, .ref (x_a g 198)), (14, .int v14), (15, .int v15), (16, .int v16)]) hC dL_same_719 (by decide) rfl ?_
        refine x_iconst (v := 0) hC dL_same_721 (by decide) ?_
        refine x_istore (ls' := [(21, .int (0 : Int32)), (20, .int (0 : Int32)), (19, .int y98), (0, .ref (x_a g 180)), (2, .ref (x_a g 193)), (3, .ref (x_a g 194)), (4, .ref (x_a g 195)), (5, .ref (x_a g 196)), (6, .ref (x_a g 197)), (7, .ref (x_a g 198)), (14, .int v14), (15, .int v15), (16, .int v16)]) hC dL_same_722 (by decide) rfl ?_
        obtain ⟨n_8, hn, h⟩ := h
        exact x_sub [3, 4, 5, 6, 7, 8, 9, 10, 11, 12, 2, 1, 0] rfl ((ih n_8 hn).2.2.2.2.2.2.2.1 _ _ _ _ _ _ _ h)
      · intro v14 v15 v16 v19 v20 v21 M hI
        have h := h8 n v14 v15 v16 v19 v20 v21 M hI
        unfold vc_L_same_8 at h
        refine x_iload (q := 12) hC dL_same_724 rfl ?_
        refine x_aload_n (i := 2) (q := 1) hC dL_same_726 rfl rfl ?_
        refine x_iconst (v := 1) hC dL_same_727 (by decide) ?_
        refine x_iald (len := 8) hC xa_193 h.1 dL_same_728 ?_
        replace h := h.2
        refine x_icmp_ge (t := 770) hC dL_same_729 (by decide) (fun q => ?_) (fun q => ?_)
        · replace h := h.1 q
          refine x_aload_n (i := 0) (q := 0) hC dL_same_770 rfl rfl ?_
          refine x_iload (q := 9) hC dL_same_771 rfl ?_
          refine x_iload (q := 10) hC dL_same_773 rfl ?_
          refine x_callVi (q := (RX9, TX9, 7)) (As := [.int v16, .int v19]) hC xo_180 rfl h gL_same_X9_together rfl rfl rfl hy_X9_together ⟨Nat.le_of_ble_eq_true rfl, Nat.le_of_ble_eq_true rfl⟩ rfl (Nat.le_of_ble_eq_true rfl) rfl dL_same_775 (fun r123 N124 h => ?_)
          refine x_iload (q := 10) hC dL_same_778 rfl ?_
          refine x_iload (q := 9) hC dL_same_780 rfl ?_
          obtain ⟨J125, h, hJ125⟩ := h
          have HJ125 : ∀ (j126 : Int32), J125 j126 → x_W x g 26 (x_Qi x g P) N124 792 [(0, .ref (x_a g 180)), (2, .ref (x_a g 193)), (3, .ref (x_a g 194)), (4, .ref (x_a g 195)), (5, .ref (x_a g 196)), (6, .ref (x_a g 197)), (7, .ref (x_a g 198)), (14, .int v14), (15, .int v15), (16, .int v16)] [.int j126, .int r123] := by
            intro j126 hj
            have h := hJ125 j126 hj
            refine x_icmp_eq (t := 797) hC dL_same_792 (by decide) (fun q => ?_) (fun q => ?_)
            · replace h := h.1 q
              refine x_iinc (k := 9) (v' := (v16 + (1 : Int32))) (ls' := [(16, .int (v16 + (1 : Int32))), (0, .ref (x_a g 180)), (2, .ref (x_a g 193)), (3, .ref (x_a g 194)), (4, .ref (x_a g 195)), (5, .ref (x_a g 196)), (6, .ref (x_a g 197)), (7, .ref (x_a g 198)), (14, .int v14), (15, .int v15)]) hC dL_same_797 rfl rfl (by decide) rfl ?_
              refine x_goto (t := 493) hC dL_same_800 (by decide) ?_
              obtain ⟨n_5, hn, h⟩ := h
              exact x_sub [1, 2, 3, 4, 5, 6, 7, 8, 9, 0] rfl ((ih n_5 hn).2.2.2.2.1 _ _ _ _ h)
            · replace h := h.2 q
              refine x_iconst (v := 0) hC dL_same_795 (by decide) ?_
              exact x_zret hC hr dL_same_796 rfl h
          refine x_icmp_ne (t := 790) hC dL_same_782 (by decide) (fun q => ?_) (fun q => ?_)
          · replace h := h.1 q
            refine x_iload (q := 11) hC dL_same_790 rfl ?_
            exact x_sub [0, 1, 2, 3, 4, 5, 6, 7, 8, 9] rfl (HJ125 _ h)
          · replace h := h.2 q
            refine x_bipush (v := -2) hC dL_same_785 (by decide) ?_
            refine x_goto (t := 792) hC dL_same_787 (by decide) ?_
            exact x_sub [0, 1, 2, 3, 4, 5, 6, 7, 8, 9] rfl (HJ125 _ h)
        · replace h := h.2 q
          refine x_iload (q := 11) hC dL_same_732 rfl ?_
          refine x_iload (q := 10) hC dL_same_734 rfl ?_
          refine x_iload (q := 9) hC dL_same_736 rfl ?_
          obtain ⟨J127, h, hJ127⟩ := h
          have HJ127 : ∀ (j128 : Int32) (N129 : xM), J127 j128 N129 → x_W x g 26 (x_Qi x g P) N129 761 [(0, .ref (x_a g 180)), (2, .ref (x_a g 193)), (3, .ref (x_a g 194)), (4, .ref (x_a g 195)), (5, .ref (x_a g 196)), (6, .ref (x_a g 197)), (7, .ref (x_a g 198)), (14, .int v14), (15, .int v15), (16, .int v16), (19, .int v19), (21, .int v21)] [.int j128, .int v20] := by
            intro j128 N129 hj
            have h := hJ127 j128 N129 hj
            refine x_iadd hC dL_same_761 ?_
            refine x_istore (ls' := [(20, .int (v20 + j128)), (0, .ref (x_a g 180)), (2, .ref (x_a g 193)), (3, .ref (x_a g 194)), (4, .ref (x_a g 195)), (5, .ref (x_a g 196)), (6, .ref (x_a g 197)), (7, .ref (x_a g 198)), (14, .int v14), (15, .int v15), (16, .int v16), (19, .int v19), (21, .int v21)]) hC dL_same_762 (by decide) rfl ?_
            refine x_iinc (k := 12) (v' := (v21 + (1 : Int32))) (ls' := [(21, .int (v21 + (1 : Int32))), (20, .int (v20 + j128)), (0, .ref (x_a g 180)), (2, .ref (x_a g 193)), (3, .ref (x_a g 194)), (4, .ref (x_a g 195)), (5, .ref (x_a g 196)), (6, .ref (x_a g 197)), (7, .ref (x_a g 198)), (14, .int v14), (15, .int v15), (16, .int v16), (19, .int v19)]) hC dL_same_764 rfl rfl (by decide) rfl ?_
            refine x_goto (t := 724) hC dL_same_767 (by decide) ?_
            obtain ⟨n_8, hn, h⟩ := h
            exact x_sub [2, 3, 4, 5, 6, 7, 8, 9, 10, 11, 12, 1, 0] rfl ((ih n_8 hn).2.2.2.2.2.2.2.1 _ _ _ _ _ _ _ h)
          refine x_icmp_eq (t := 760) hC dL_same_738 (by decide) (fun q => ?_) (fun q => ?_)
          · replace h := h.1 q
            refine x_iconst (v := 0) hC dL_same_760 (by decide) ?_
            exact x_sub [0, 1, 2, 3, 4, 5, 6, 7, 8, 9, 10, 12] rfl (HJ127 _ _ h)
          · replace h := h.2 q
            refine x_iload (q := 9) hC dL_same_741 rfl ?_
            refine x_iload (q := 10) hC dL_same_743 rfl ?_
            refine x_iload (q := 12) hC dL_same_745 rfl ?_
            refine x_aload_n (i := 3) (q := 2) hC dL_same_747 rfl rfl ?_
            refine x_aload (q := 3) hC dL_same_748 rfl ?_
            refine x_callSi (As := [.int v16, .int v19, .int v21, .ref (x_a g 194), .ref (x_a g 195)]) hC h gL_same_L_key rfl rfl rfl hy_L_key.2 ⟨Nat.le_of_ble_eq_true rfl, Nat.le_of_ble_eq_true rfl⟩ rfl (Nat.le_of_ble_eq_true rfl) rfl dL_same_750 (fun r130 N131 h => ?_)
            refine x_if_lt (t := 760) hC dL_same_753 (by decide) (fun q => ?_) (fun q => ?_)
            · replace h := h.1 q
              refine x_iconst (v := 0) hC dL_same_760 (by decide) ?_
              exact x_sub [0, 1, 2, 3, 4, 5, 6, 7, 8, 9, 10, 12] rfl (HJ127 _ _ h)
            · replace h := h.2 q
              refine x_iconst (v := 1) hC dL_same_756 (by decide) ?_
              refine x_goto (t := 761) hC dL_same_757 (by decide) ?_
              exact x_sub [0, 1, 2, 3, 4, 5, 6, 7, 8, 9, 10, 12] rfl (HJ127 _ _ h)
      · intro v14 v15 v16 M hI
        have h := h9 n v14 v15 v16 M hI
        unfold vc_L_same_9 at h
        refine x_iload (q := 9) hC dL_same_806 rfl ?_
        refine x_aload_n (i := 2) (q := 1) hC dL_same_808 rfl rfl ?_
        refine x_iconst (v := 1) hC dL_same_809 (by decide) ?_
        refine x_iald (len := 8) hC xa_193 h.1 dL_same_810 ?_
        replace h := h.2
        refine x_icmp_ge (t := 919) hC dL_same_811 (by decide) (fun q => ?_) (fun q => ?_)
        · replace h := h.1 q
          refine x_iconst (v := 0) hC dL_same_919 (by decide) ?_
          refine x_istore (ls' := [(16, .int (0 : Int32)), (0, .ref (x_a g 180)), (2, .ref (x_a g 193)), (3, .ref (x_a g 194)), (4, .ref (x_a g 195)), (5, .ref (x_a g 196)), (6, .ref (x_a g 197)), (7, .ref (x_a g 198)), (14, .int v14), (15, .int v15)]) hC dL_same_920 (by decide) rfl ?_
          obtain ⟨n_11, hn, h⟩ := h
          exact x_sub [1, 2, 3, 5, 6, 7, 8, 9, 0] rfl ((ih n_11 hn).2.2.2.2.2.2.2.2.2.2.1 _ _ _ _ h)
        · replace h := h.2 q
          refine x_iconst (v := 0) hC dL_same_814 (by decide) ?_
          refine x_istore (ls' := [(17, .int (0 : Int32)), (0, .ref (x_a g 180)), (2, .ref (x_a g 193)), (3, .ref (x_a g 194)), (4, .ref (x_a g 195)), (5, .ref (x_a g 196)), (6, .ref (x_a g 197)), (7, .ref (x_a g 198)), (14, .int v14), (15, .int v15), (16, .int v16)]) hC dL_same_815 (by decide) rfl ?_
          refine x_iconst (v := 0) hC dL_same_817 (by decide) ?_
          refine x_istore (ls' := [(18, .int (0 : Int32)), (17, .int (0 : Int32)), (0, .ref (x_a g 180)), (2, .ref (x_a g 193)), (3, .ref (x_a g 194)), (4, .ref (x_a g 195)), (5, .ref (x_a g 196)), (6, .ref (x_a g 197)), (7, .ref (x_a g 198)), (14, .int v14), (15, .int v15), (16, .int v16)]) hC dL_same_818 (by decide) rfl ?_
          obtain ⟨n_10, hn, h⟩ := h
          exact x_sub [2, 3, 4, 5, 6, 7, 8, 9, 10, 11, 1, 0] rfl ((ih n_10 hn).2.2.2.2.2.2.2.2.2.1 _ _ _ _ _ _ h)
      · intro v14 v15 v16 v17 v18 M hI
        have h := h10 n v14 v15 v16 v17 v18 M hI
        unfold vc_L_same_10 at h
        refine x_iload (q := 11) hC dL_same_820 rfl ?_
        refine x_aload_n (i := 2) (q := 1) hC dL_same_822 rfl rfl ?_
        refine x_iconst (v := 0) hC dL_same_823 (by decide) ?_
        refine x_iald (len := 8) hC xa_193 h.1 dL_same_824 ?_
        replace h := h.2
        refine x_icmp_ge (t := 861) hC dL_same_825 (by decide) (fun q => ?_) (fun q => ?_)
        · replace h := h.1 q
          refine x_aload_n (i := 0) (q := 0) hC dL_same_861 rfl rfl ?_
          refine x_iload (q := 9) hC dL_same_862 rfl ?_
          refine x_iconst (v := 2) hC dL_same_864 (by decide) ?_
          refine x_callVi (q := (RX9, TX9, 7)) (As := [.int v16, .int (2 : Int32)]) hC xo_180 rfl h gL_same_X9_ofSong rfl rfl rfl hy_X9_ofSong ⟨Nat.le_of_ble_eq_true rfl, Nat.le_of_ble_eq_true rfl⟩ rfl (Nat.le_of_ble_eq_true rfl) rfl dL_same_865 (fun r88 N89 h => ?_)
          refine x_aload (q := 3) hC dL_same_868 rfl ?_
          refine x_iconst (v := 4) hC dL_same_870 (by decide) ?_
          refine x_iload (q := 9) hC dL_same_871 rfl ?_
          refine x_imul hC dL_same_873 ?_
          refine x_iconst (v := 2) hC dL_same_874 (by decide) ?_
          refine x_iadd hC dL_same_875 ?_
          refine x_iald (len := 64) hC xa_195 h.1 dL_same_876 ?_
          replace h := h.2
          refine x_icmp_ne (t := 911) hC dL_same_877 (by decide) (fun q => ?_) (fun q => ?_)
          · replace h := h.1 q
            refine x_iconst (v := 0) hC dL_same_911 (by decide) ?_
            exact x_zret hC hr dL_same_912 rfl h
          · replace h := h.2 q
            refine x_aload_n (i := 0) (q := 0) hC dL_same_880 rfl rfl ?_
            refine x_iload (q := 9) hC dL_same_881 rfl ?_
            refine x_iconst (v := 3) hC dL_same_883 (by decide) ?_
            refine x_callVi (q := (RX9, TX9, 7)) (As := [.int v16, .int (3 : Int32)]) hC xo_180 rfl h gL_same_X9_ofSong rfl rfl rfl hy_X9_ofSong ⟨Nat.le_of_ble_eq_true rfl, Nat.le_of_ble_eq_true rfl⟩ rfl (Nat.le_of_ble_eq_true rfl) rfl dL_same_884 (fun r90 N91 h => ?_)
            refine x_iload (q := 10) hC dL_same_887 rfl ?_
            refine x_icmp_ne (t := 911) hC dL_same_889 (by decide) (fun q => ?_) (fun q => ?_)
            · replace h := h.1 q
              refine x_iconst (v := 0) hC dL_same_911 (by decide) ?_
              exact x_zret hC hr dL_same_912 rfl h
            · replace h := h.2 q
              refine x_aload_n (i := 0) (q := 0) hC dL_same_892 rfl rfl ?_
              refine x_iload (q := 9) hC dL_same_893 rfl ?_
              refine x_iconst (v := 4) hC dL_same_895 (by decide) ?_
              refine x_callVi (q := (RX9, TX9, 7)) (As := [.int v16, .int (4 : Int32)]) hC xo_180 rfl h gL_same_X9_ofSong rfl rfl rfl hy_X9_ofSong ⟨Nat.le_of_ble_eq_true rfl, Nat.le_of_ble_eq_true rfl⟩ rfl (Nat.le_of_ble_eq_true rfl) rfl dL_same_896 (fun r92 N93 h => ?_)
              refine x_aload (q := 3) hC dL_same_899 rfl ?_
              refine x_iconst (v := 4) hC dL_same_901 (by decide) ?_
              refine x_iload (q := 9) hC dL_same_902 rfl ?_
              refine x_imul hC dL_same_904 ?_
              refine x_iconst (v := 3) hC dL_same_905 (by decide) ?_
              refine x_iadd hC dL_same_906 ?_
              refine x_iald (len := 64) hC xa_195 h.1 dL_same_907 ?_
              replace h := h.2
              refine x_icmp_eq (t := 913) hC dL_same_908 (by decide) (fun q => ?_) (fun q => ?_)
              · replace h := h.1 q
                refine x_iinc (k := 9) (v' := (v16 + (1 : Int32))) (ls' := [(16, .int (v16 + (1 : Int32))), (0, .ref (x_a g 180)), (2, .ref (x_a g 193)), (3, .ref (x_a g 194)), (4, .ref (x_a g 195)), (5, .ref (x_a g 196)), (6, .ref (x_a g 197)), (7, .ref (x_a g 198)), (14, .int v14), (15, .int v15), (17, .int v17), (18, .int v18)]) hC dL_same_913 rfl rfl (by decide) rfl ?_
                refine x_goto (t := 806) hC dL_same_916 (by decide) ?_
                obtain ⟨n_9, hn, h⟩ := h
                exact x_sub [1, 2, 3, 4, 5, 6, 7, 8, 9, 0] rfl ((ih n_9 hn).2.2.2.2.2.2.2.2.1 _ _ _ _ h)
              · replace h := h.2 q
                refine x_iconst (v := 0) hC dL_same_911 (by decide) ?_
                exact x_zret hC hr dL_same_912 rfl h
        · replace h := h.2 q
          refine x_iload (q := 10) hC dL_same_828 rfl ?_
          refine x_iload (q := 11) hC dL_same_830 rfl ?_
          refine x_iconst (v := -1) hC dL_same_832 (by decide) ?_
          refine x_iload (q := 9) hC dL_same_833 rfl ?_
          refine x_aload_n (i := 3) (q := 2) hC dL_same_835 rfl rfl ?_
          refine x_aload (q := 3) hC dL_same_836 rfl ?_
          refine x_callSi (As := [.int v18, .int (-1 : Int32), .int v16, .ref (x_a g 194), .ref (x_a g 195)]) hC h gL_same_L_key rfl rfl rfl hy_L_key.2 ⟨Nat.le_of_ble_eq_true rfl, Nat.le_of_ble_eq_true rfl⟩ rfl (Nat.le_of_ble_eq_true rfl) rfl dL_same_838 (fun r94 N95 h => ?_)
          obtain ⟨J96, h, hJ96⟩ := h
          have HJ96 : ∀ (j97 : Int32), J96 j97 → x_W x g 26 (x_Qi x g P) N95 852 [(0, .ref (x_a g 180)), (2, .ref (x_a g 193)), (3, .ref (x_a g 194)), (4, .ref (x_a g 195)), (5, .ref (x_a g 196)), (6, .ref (x_a g 197)), (7, .ref (x_a g 198)), (14, .int v14), (15, .int v15), (16, .int v16), (18, .int v18)] [.int j97, .int v17] := by
            intro j97 hj
            have h := hJ96 j97 hj
            refine x_ior hC dL_same_852 ?_
            refine x_istore (ls' := [(17, .int (v17 ||| j97)), (0, .ref (x_a g 180)), (2, .ref (x_a g 193)), (3, .ref (x_a g 194)), (4, .ref (x_a g 195)), (5, .ref (x_a g 196)), (6, .ref (x_a g 197)), (7, .ref (x_a g 198)), (14, .int v14), (15, .int v15), (16, .int v16), (18, .int v18)]) hC dL_same_853 (by decide) rfl ?_
            refine x_iinc (k := 11) (v' := (v18 + (1 : Int32))) (ls' := [(18, .int (v18 + (1 : Int32))), (17, .int (v17 ||| j97)), (0, .ref (x_a g 180)), (2, .ref (x_a g 193)), (3, .ref (x_a g 194)), (4, .ref (x_a g 195)), (5, .ref (x_a g 196)), (6, .ref (x_a g 197)), (7, .ref (x_a g 198)), (14, .int v14), (15, .int v15), (16, .int v16)]) hC dL_same_855 rfl rfl (by decide) rfl ?_
            refine x_goto (t := 820) hC dL_same_858 (by decide) ?_
            obtain ⟨n_10, hn, h⟩ := h
            exact x_sub [2, 3, 4, 5, 6, 7, 8, 9, 10, 11, 1, 0] rfl ((ih n_10 hn).2.2.2.2.2.2.2.2.2.1 _ _ _ _ _ _ h)
          refine x_if_lt (t := 851) hC dL_same_841 (by decide) (fun q => ?_) (fun q => ?_)
          · replace h := h.1 q
            refine x_iconst (v := 0) hC dL_same_851 (by decide) ?_
            exact x_sub [0, 1, 2, 3, 4, 5, 6, 7, 8, 9, 11] rfl (HJ96 _ h)
          · replace h := h.2 q
            refine x_iconst (v := 1) hC dL_same_844 (by decide) ?_
            refine x_iload (q := 11) hC dL_same_845 rfl ?_
            refine x_ishl hC dL_same_847 ?_
            refine x_goto (t := 852) hC dL_same_848 (by decide) ?_
            exact x_sub [0, 1, 2, 3, 4, 5, 6, 7, 8, 9, 11] rfl (HJ96 _ h)
      · intro v14 v15 v16 M hI
        have h := h11 n v14 v15 v16 M hI
        unfold vc_L_same_11 at h
        refine x_iload (q := 8) hC dL_same_922 rfl ?_
        refine x_aload_n (i := 2) (q := 1) hC dL_same_924 rfl rfl ?_
        refine x_bipush (v := 7) hC dL_same_925 (by decide) ?_
        refine x_iald (len := 8) hC xa_193 h.1 dL_same_927 ?_
        replace h := h.2
        refine x_icmp_ge (t := 1033) hC dL_same_928 (by decide) (fun q => ?_) (fun q => ?_)
        · replace h := h.1 q
          obtain ⟨n_12, hn, h⟩ := h
          exact x_sub [0, 1, 2, 3, 6, 7] rfl ((ih n_12 hn).2.2.2.2.2.2.2.2.2.2.2 _ _ _ h)
        · replace h := h.2 q
          refine x_aload_n (i := 0) (q := 0) hC dL_same_931 rfl rfl ?_
          refine x_iload (q := 8) hC dL_same_932 rfl ?_
          refine x_iconst (v := 0) hC dL_same_934 (by decide) ?_
          refine x_callVi (q := (RX9, TX9, 7)) (As := [.int v16, .int (0 : Int32)]) hC xo_180 rfl h gL_same_X9_past rfl rfl rfl hy_X9_past ⟨Nat.le_of_ble_eq_true rfl, Nat.le_of_ble_eq_true rfl⟩ rfl (Nat.le_of_ble_eq_true rfl) rfl dL_same_935 (fun r78 N79 h => ?_)
          refine x_aload (q := 4) hC dL_same_938 rfl ?_
          refine x_iload (q := 8) hC dL_same_940 rfl ?_
          refine x_iald (len := 12) hC xa_197 h.1 dL_same_942 ?_
          replace h := h.2
          refine x_bipush (v := 100) hC dL_same_943 (by decide) ?_
          refine x_irem hC (by decide) dL_same_945 ?_
          refine x_icmp_ne (t := 1025) hC dL_same_946 (by decide) (fun q => ?_) (fun q => ?_)
          · replace h := h.1 q
            refine x_iconst (v := 0) hC dL_same_1025 (by decide) ?_
            exact x_zret hC hr dL_same_1026 rfl h
          · replace h := h.2 q
            refine x_aload_n (i := 0) (q := 0) hC dL_same_949 rfl rfl ?_
            refine x_iload (q := 8) hC dL_same_950 rfl ?_
            refine x_iconst (v := 1) hC dL_same_952 (by decide) ?_
            refine x_callVi (q := (RX9, TX9, 7)) (As := [.int v16, .int (1 : Int32)]) hC xo_180 rfl h gL_same_X9_past rfl rfl rfl hy_X9_past ⟨Nat.le_of_ble_eq_true rfl, Nat.le_of_ble_eq_true rfl⟩ rfl (Nat.le_of_ble_eq_true rfl) rfl dL_same_953 (fun r80 N81 h => ?_)
            refine x_aload (q := 4) hC dL_same_956 rfl ?_
            refine x_iload (q := 8) hC dL_same_958 rfl ?_
            refine x_iald (len := 12) hC xa_197 h.1 dL_same_960 ?_
            replace h := h.2
            refine x_bipush (v := 100) hC dL_same_961 (by decide) ?_
            refine x_idiv hC (by decide) dL_same_963 ?_
            refine x_bipush (v := 100) hC dL_same_964 (by decide) ?_
            refine x_irem hC (by decide) dL_same_966 ?_
            obtain ⟨J82, h, hJ82⟩ := h
            have HJ82 : ∀ (j83 : Int32), J82 j83 → x_W x g 26 (x_Qi x g P) N81 988 [(0, .ref (x_a g 180)), (2, .ref (x_a g 193)), (3, .ref (x_a g 194)), (5, .ref (x_a g 196)), (6, .ref (x_a g 197)), (7, .ref (x_a g 198)), (14, .int v14), (15, .int v15), (16, .int v16)] [.int j83, .int r80] := by
              intro j83 hj
              have h := hJ82 j83 hj
              refine x_icmp_ne (t := 1025) hC dL_same_988 (by decide) (fun q => ?_) (fun q => ?_)
              · replace h := h.1 q
                refine x_iconst (v := 0) hC dL_same_1025 (by decide) ?_
                exact x_zret hC hr dL_same_1026 rfl h
              · replace h := h.2 q
                refine x_aload_n (i := 0) (q := 0) hC dL_same_991 rfl rfl ?_
                refine x_iload (q := 8) hC dL_same_992 rfl ?_
                refine x_iconst (v := 2) hC dL_same_994 (by decide) ?_
                refine x_callVi (q := (RX9, TX9, 7)) (As := [.int v16, .int (2 : Int32)]) hC xo_180 rfl h gL_same_X9_past rfl rfl rfl hy_X9_past ⟨Nat.le_of_ble_eq_true rfl, Nat.le_of_ble_eq_true rfl⟩ rfl (Nat.le_of_ble_eq_true rfl) rfl dL_same_995 (fun r84 N85 h => ?_)
                refine x_aload (q := 4) hC dL_same_998 rfl ?_
                refine x_iload (q := 8) hC dL_same_1000 rfl ?_
                refine x_iald (len := 12) hC xa_197 h.1 dL_same_1002 ?_
                replace h := h.2
                refine x_sipush (v := 10000) hC dL_same_1003 (by decide) ?_
                refine x_idiv hC (by decide) dL_same_1006 ?_
                refine x_icmp_ne (t := 1025) hC dL_same_1007 (by decide) (fun q => ?_) (fun q => ?_)
                · replace h := h.1 q
                  refine x_iconst (v := 0) hC dL_same_1025 (by decide) ?_
                  exact x_zret hC hr dL_same_1026 rfl h
                · replace h := h.2 q
                  refine x_aload_n (i := 0) (q := 0) hC dL_same_1010 rfl rfl ?_
                  refine x_iload (q := 8) hC dL_same_1011 rfl ?_
                  refine x_iconst (v := 3) hC dL_same_1013 (by decide) ?_
                  refine x_callVi (q := (RX9, TX9, 7)) (As := [.int v16, .int (3 : Int32)]) hC xo_180 rfl h gL_same_X9_past rfl rfl rfl hy_X9_past ⟨Nat.le_of_ble_eq_true rfl, Nat.le_of_ble_eq_true rfl⟩ rfl (Nat.le_of_ble_eq_true rfl) rfl dL_same_1014 (fun r86 N87 h => ?_)
                  refine x_aload (q := 5) hC dL_same_1017 rfl ?_
                  refine x_iload (q := 8) hC dL_same_1019 rfl ?_
                  refine x_iald (len := 12) hC xa_198 h.1 dL_same_1021 ?_
                  replace h := h.2
                  refine x_icmp_eq (t := 1027) hC dL_same_1022 (by decide) (fun q => ?_) (fun q => ?_)
                  · replace h := h.1 q
                    refine x_iinc (k := 8) (v' := (v16 + (1 : Int32))) (ls' := [(16, .int (v16 + (1 : Int32))), (0, .ref (x_a g 180)), (2, .ref (x_a g 193)), (3, .ref (x_a g 194)), (5, .ref (x_a g 196)), (6, .ref (x_a g 197)), (7, .ref (x_a g 198)), (14, .int v14), (15, .int v15)]) hC dL_same_1027 rfl rfl (by decide) rfl ?_
                    refine x_goto (t := 922) hC dL_same_1030 (by decide) ?_
                    obtain ⟨n_11, hn, h⟩ := h
                    exact x_sub [1, 2, 3, 4, 5, 6, 7, 8, 0] rfl ((ih n_11 hn).2.2.2.2.2.2.2.2.2.2.1 _ _ _ _ h)
                  · replace h := h.2 q
                    refine x_iconst (v := 0) hC dL_same_1025 (by decide) ?_
                    exact x_zret hC hr dL_same_1026 rfl h
            refine x_if_ne (t := 975) hC dL_same_967 (by decide) (fun q => ?_) (fun q => ?_)
            · replace h := h.1 q
              refine x_aload (q := 4) hC dL_same_975 rfl ?_
              refine x_iload (q := 8) hC dL_same_977 rfl ?_
              refine x_iald (len := 12) hC xa_197 h.1 dL_same_979 ?_
              replace h := h.2
              refine x_bipush (v := 100) hC dL_same_980 (by decide) ?_
              refine x_idiv hC (by decide) dL_same_982 ?_
              refine x_bipush (v := 100) hC dL_same_983 (by decide) ?_
              refine x_irem hC (by decide) dL_same_985 ?_
              refine x_iconst (v := 1) hC dL_same_986 (by decide) ?_
              refine x_isub hC dL_same_987 ?_
              exact x_sub [0, 1, 2, 3, 4, 5, 6, 7, 8] rfl (HJ82 _ h)
            · replace h := h.2 q
              refine x_bipush (v := -6) hC dL_same_970 (by decide) ?_
              refine x_goto (t := 988) hC dL_same_972 (by decide) ?_
              exact x_sub [0, 1, 2, 3, 4, 5, 6, 7, 8] rfl (HJ82 _ h)
      · intro v14 v15 M hI
        have h := h12 n v14 v15 M hI
        unfold vc_L_same_12 at h
        refine x_aload_n (i := 0) (q := 0) hC dL_same_1033 rfl rfl ?_
        refine x_aload_n (i := 2) (q := 1) hC dL_same_1034 rfl rfl ?_
        refine x_bipush (v := 7) hC dL_same_1035 (by decide) ?_
        refine x_iald (len := 8) hC xa_193 h.1 dL_same_1037 ?_
        replace h := h.2
        refine x_iconst (v := 0) hC dL_same_1038 (by decide) ?_
        refine x_callVi (q := (RX9, TX9, 7)) (As := [.int (M 193 ((7 : Int32)).toNatClampNeg), .int (0 : Int32)]) hC xo_180 rfl h gL_same_X9_past rfl rfl rfl hy_X9_past ⟨Nat.le_of_ble_eq_true rfl, Nat.le_of_ble_eq_true rfl⟩ rfl (Nat.le_of_ble_eq_true rfl) rfl dL_same_1039 (fun r99 N100 h => ?_)
        refine x_iconst (v := -1) hC dL_same_1042 (by decide) ?_
        refine x_icmp_ne (t := 1165) hC dL_same_1043 (by decide) (fun q => ?_) (fun q => ?_)
        · replace h := h.1 q
          refine x_iconst (v := 0) hC dL_same_1165 (by decide) ?_
          exact x_zret hC hr dL_same_1166 rfl h
        · replace h := h.2 q
          refine x_aload_n (i := 0) (q := 0) hC dL_same_1046 rfl rfl ?_
          refine x_iconst (v := 0) hC dL_same_1047 (by decide) ?_
          refine x_callVi (q := (RX9, TX9, 7)) (As := [.int (0 : Int32)]) hC xo_180 rfl h gL_same_X9_count rfl rfl rfl hy_X9_count ⟨Nat.le_of_ble_eq_true rfl, Nat.le_of_ble_eq_true rfl⟩ rfl (Nat.le_of_ble_eq_true rfl) rfl dL_same_1048 (fun r101 N102 h => ?_)
          refine x_aload_n (i := 2) (q := 1) hC dL_same_1051 rfl rfl ?_
          refine x_iconst (v := 0) hC dL_same_1052 (by decide) ?_
          refine x_iald (len := 8) hC xa_193 h.1 dL_same_1053 ?_
          replace h := h.2
          refine x_icmp_ne (t := 1165) hC dL_same_1054 (by decide) (fun q => ?_) (fun q => ?_)
          · replace h := h.1 q
            refine x_iconst (v := 0) hC dL_same_1165 (by decide) ?_
            exact x_zret hC hr dL_same_1166 rfl h
          · replace h := h.2 q
            refine x_aload_n (i := 0) (q := 0) hC dL_same_1057 rfl rfl ?_
            refine x_iconst (v := 1) hC dL_same_1058 (by decide) ?_
            refine x_callVi (q := (RX9, TX9, 7)) (As := [.int (1 : Int32)]) hC xo_180 rfl h gL_same_X9_count rfl rfl rfl hy_X9_count ⟨Nat.le_of_ble_eq_true rfl, Nat.le_of_ble_eq_true rfl⟩ rfl (Nat.le_of_ble_eq_true rfl) rfl dL_same_1059 (fun r103 N104 h => ?_)
            refine x_aload_n (i := 2) (q := 1) hC dL_same_1062 rfl rfl ?_
            refine x_iconst (v := 3) hC dL_same_1063 (by decide) ?_
            refine x_iald (len := 8) hC xa_193 h.1 dL_same_1064 ?_
            replace h := h.2
            refine x_icmp_ne (t := 1165) hC dL_same_1065 (by decide) (fun q => ?_) (fun q => ?_)
            · replace h := h.1 q
              refine x_iconst (v := 0) hC dL_same_1165 (by decide) ?_
              exact x_zret hC hr dL_same_1166 rfl h
            · replace h := h.2 q
              refine x_aload_n (i := 0) (q := 0) hC dL_same_1068 rfl rfl ?_
              refine x_iconst (v := 2) hC dL_same_1069 (by decide) ?_
              refine x_callVi (q := (RX9, TX9, 7)) (As := [.int (2 : Int32)]) hC xo_180 rfl h gL_same_X9_count rfl rfl rfl hy_X9_count ⟨Nat.le_of_ble_eq_true rfl, Nat.le_of_ble_eq_true rfl⟩ rfl (Nat.le_of_ble_eq_true rfl) rfl dL_same_1070 (fun r105 N106 h => ?_)
              refine x_aload_n (i := 2) (q := 1) hC dL_same_1073 rfl rfl ?_
              refine x_iconst (v := 1) hC dL_same_1074 (by decide) ?_
              refine x_iald (len := 8) hC xa_193 h.1 dL_same_1075 ?_
              replace h := h.2
              refine x_icmp_ne (t := 1165) hC dL_same_1076 (by decide) (fun q => ?_) (fun q => ?_)
              · replace h := h.1 q
                refine x_iconst (v := 0) hC dL_same_1165 (by decide) ?_
                exact x_zret hC hr dL_same_1166 rfl h
              · replace h := h.2 q
                refine x_aload_n (i := 0) (q := 0) hC dL_same_1079 rfl rfl ?_
                refine x_iconst (v := 3) hC dL_same_1080 (by decide) ?_
                refine x_callVi (q := (RX9, TX9, 7)) (As := [.int (3 : Int32)]) hC xo_180 rfl h gL_same_X9_count rfl rfl rfl hy_X9_count ⟨Nat.le_of_ble_eq_true rfl, Nat.le_of_ble_eq_true rfl⟩ rfl (Nat.le_of_ble_eq_true rfl) rfl dL_same_1081 (fun r107 N108 h => ?_)
                refine x_aload_n (i := 2) (q := 1) hC dL_same_1084 rfl rfl ?_
                refine x_iconst (v := 2) hC dL_same_1085 (by decide) ?_
                refine x_iald (len := 8) hC xa_193 h.1 dL_same_1086 ?_
                replace h := h.2
                refine x_icmp_ne (t := 1165) hC dL_same_1087 (by decide) (fun q => ?_) (fun q => ?_)
                · replace h := h.1 q
                  refine x_iconst (v := 0) hC dL_same_1165 (by decide) ?_
                  exact x_zret hC hr dL_same_1166 rfl h
                · replace h := h.2 q
                  refine x_aload_n (i := 0) (q := 0) hC dL_same_1090 rfl rfl ?_
                  refine x_iconst (v := 4) hC dL_same_1091 (by decide) ?_
                  refine x_callVi (q := (RX9, TX9, 7)) (As := [.int (4 : Int32)]) hC xo_180 rfl h gL_same_X9_count rfl rfl rfl hy_X9_count ⟨Nat.le_of_ble_eq_true rfl, Nat.le_of_ble_eq_true rfl⟩ rfl (Nat.le_of_ble_eq_true rfl) rfl dL_same_1092 (fun r109 N110 h => ?_)
                  refine x_iload (q := 4) hC dL_same_1095 rfl ?_
                  refine x_icmp_ne (t := 1165) hC dL_same_1097 (by decide) (fun q => ?_) (fun q => ?_)
                  · replace h := h.1 q
                    refine x_iconst (v := 0) hC dL_same_1165 (by decide) ?_
                    exact x_zret hC hr dL_same_1166 rfl h
                  · replace h := h.2 q
                    refine x_aload_n (i := 0) (q := 0) hC dL_same_1100 rfl rfl ?_
                    refine x_iconst (v := 5) hC dL_same_1101 (by decide) ?_
                    refine x_callVi (q := (RX9, TX9, 7)) (As := [.int (5 : Int32)]) hC xo_180 rfl h gL_same_X9_count rfl rfl rfl hy_X9_count ⟨Nat.le_of_ble_eq_true rfl, Nat.le_of_ble_eq_true rfl⟩ rfl (Nat.le_of_ble_eq_true rfl) rfl dL_same_1102 (fun r111 N112 h => ?_)
                    refine x_aload_n (i := 2) (q := 1) hC dL_same_1105 rfl rfl ?_
                    refine x_aload_n (i := 3) (q := 2) hC dL_same_1106 rfl rfl ?_
                    refine x_aload (q := 3) hC dL_same_1107 rfl ?_
                    refine x_callSi (As := [.ref (x_a g 193), .ref (x_a g 194), .ref (x_a g 196)]) hC h gL_same_L_next rfl rfl rfl hy_L_next.2 ⟨Nat.le_of_ble_eq_true rfl, Nat.le_of_ble_eq_true rfl⟩ rfl (Nat.le_of_ble_eq_true rfl) rfl dL_same_1109 (fun r113 N114 h => ?_)
                    refine x_icmp_ne (t := 1165) hC dL_same_1112 (by decide) (fun q => ?_) (fun q => ?_)
                    · replace h := h.1 q
                      refine x_iconst (v := 0) hC dL_same_1165 (by decide) ?_
                      exact x_zret hC hr dL_same_1166 rfl h
                    · replace h := h.2 q
                      refine x_aload_n (i := 0) (q := 0) hC dL_same_1115 rfl rfl ?_
                      refine x_bipush (v := 6) hC dL_same_1116 (by decide) ?_
                      refine x_callVi (q := (RX9, TX9, 7)) (As := [.int (6 : Int32)]) hC xo_180 rfl h gL_same_X9_count rfl rfl rfl hy_X9_count ⟨Nat.le_of_ble_eq_true rfl, Nat.le_of_ble_eq_true rfl⟩ rfl (Nat.le_of_ble_eq_true rfl) rfl dL_same_1118 (fun r115 N116 h => ?_)
                      refine x_aload_n (i := 2) (q := 1) hC dL_same_1121 rfl rfl ?_
                      refine x_iconst (v := 5) hC dL_same_1122 (by decide) ?_
                      refine x_iald (len := 8) hC xa_193 h.1 dL_same_1123 ?_
                      replace h := h.2
                      refine x_icmp_ne (t := 1165) hC dL_same_1124 (by decide) (fun q => ?_) (fun q => ?_)
                      · replace h := h.1 q
                        refine x_iconst (v := 0) hC dL_same_1165 (by decide) ?_
                        exact x_zret hC hr dL_same_1166 rfl h
                      · replace h := h.2 q
                        refine x_aload_n (i := 0) (q := 0) hC dL_same_1127 rfl rfl ?_
                        refine x_bipush (v := 7) hC dL_same_1128 (by decide) ?_
                        refine x_callVi (q := (RX9, TX9, 7)) (As := [.int (7 : Int32)]) hC xo_180 rfl h gL_same_X9_count rfl rfl rfl hy_X9_count ⟨Nat.le_of_ble_eq_true rfl, Nat.le_of_ble_eq_true rfl⟩ rfl (Nat.le_of_ble_eq_true rfl) rfl dL_same_1130 (fun r117 N118 h => ?_)
                        refine x_aload_n (i := 2) (q := 1) hC dL_same_1133 rfl rfl ?_
                        refine x_bipush (v := 6) hC dL_same_1134 (by decide) ?_
                        refine x_iald (len := 8) hC xa_193 h.1 dL_same_1136 ?_
                        replace h := h.2
                        refine x_icmp_ne (t := 1165) hC dL_same_1137 (by decide) (fun q => ?_) (fun q => ?_)
                        · replace h := h.1 q
                          refine x_iconst (v := 0) hC dL_same_1165 (by decide) ?_
                          exact x_zret hC hr dL_same_1166 rfl h
                        · replace h := h.2 q
                          refine x_aload_n (i := 0) (q := 0) hC dL_same_1140 rfl rfl ?_
                          refine x_bipush (v := 8) hC dL_same_1141 (by decide) ?_
                          refine x_callVi (q := (RX9, TX9, 7)) (As := [.int (8 : Int32)]) hC xo_180 rfl h gL_same_X9_count rfl rfl rfl hy_X9_count ⟨Nat.le_of_ble_eq_true rfl, Nat.le_of_ble_eq_true rfl⟩ rfl (Nat.le_of_ble_eq_true rfl) rfl dL_same_1143 (fun r119 N120 h => ?_)
                          refine x_aload_n (i := 2) (q := 1) hC dL_same_1146 rfl rfl ?_
                          refine x_iconst (v := 4) hC dL_same_1147 (by decide) ?_
                          refine x_iald (len := 8) hC xa_193 h.1 dL_same_1148 ?_
                          replace h := h.2
                          refine x_icmp_ne (t := 1165) hC dL_same_1149 (by decide) (fun q => ?_) (fun q => ?_)
                          · replace h := h.1 q
                            refine x_iconst (v := 0) hC dL_same_1165 (by decide) ?_
                            exact x_zret hC hr dL_same_1166 rfl h
                          · replace h := h.2 q
                            refine x_aload_n (i := 0) (q := 0) hC dL_same_1152 rfl rfl ?_
                            refine x_callVi (q := (RX9, TX9, 7)) (As := []) hC xo_180 rfl h gL_same_X9_endOfAll rfl rfl rfl hy_X9_endOfAll ⟨Nat.le_of_ble_eq_true rfl, Nat.le_of_ble_eq_true rfl⟩ rfl (Nat.le_of_ble_eq_true rfl) rfl dL_same_1153 (fun r121 N122 h => ?_)
                            refine x_iload (q := 5) hC dL_same_1156 rfl ?_
                            refine x_icmp_ne (t := 1165) hC dL_same_1158 (by decide) (fun q => ?_) (fun q => ?_)
                            · replace h := h.1 q
                              refine x_iconst (v := 0) hC dL_same_1165 (by decide) ?_
                              exact x_zret hC hr dL_same_1166 rfl h
                            · replace h := h.2 q
                              refine x_iconst (v := 1) hC dL_same_1161 (by decide) ?_
                              refine x_goto (t := 1166) hC dL_same_1162 (by decide) ?_
                              exact x_zret hC hr dL_same_1166 rfl h
  have h := h0
  unfold vc_L_same at h
  refine x_iconst (v := 0) hC dL_same_0 (by decide) ?_
  refine x_istore (ls' := [(14, .int (0 : Int32)), (0, .ref (x_a g 180)), (1, .int v1), (2, .ref (x_a g 193)), (3, .ref (x_a g 194)), (4, .ref (x_a g 195)), (5, .ref (x_a g 196)), (6, .ref (x_a g 197)), (7, .ref (x_a g 198)), (8, .ref (x_a g 199)), (9, .ref (x_a g 200)), (10, .ref (x_a g 201)), (11, .ref (x_a g 202)), (12, .ref (x_a g 203)), (13, .ref (x_a g 204))]) hC dL_same_1 (by decide) rfl ?_
  refine x_aload_n (i := 2) (q := 3) hC dL_same_3 rfl rfl ?_
  refine x_iconst (v := 5) hC dL_same_4 (by decide) ?_
  refine x_iald (len := 8) hC xa_193 h.1 dL_same_5 ?_
  replace h := h.2
  refine x_istore (ls' := [(15, .int (M 193 ((5 : Int32)).toNatClampNeg)), (14, .int (0 : Int32)), (0, .ref (x_a g 180)), (1, .int v1), (2, .ref (x_a g 193)), (3, .ref (x_a g 194)), (4, .ref (x_a g 195)), (5, .ref (x_a g 196)), (6, .ref (x_a g 197)), (7, .ref (x_a g 198)), (8, .ref (x_a g 199)), (9, .ref (x_a g 200)), (10, .ref (x_a g 201)), (11, .ref (x_a g 202)), (12, .ref (x_a g 203)), (13, .ref (x_a g 204))]) hC dL_same_6 (by decide) rfl ?_
  refine x_iconst (v := 0) hC dL_same_8 (by decide) ?_
  refine x_istore (ls' := [(16, .int (0 : Int32)), (15, .int (M 193 ((5 : Int32)).toNatClampNeg)), (14, .int (0 : Int32)), (0, .ref (x_a g 180)), (1, .int v1), (2, .ref (x_a g 193)), (3, .ref (x_a g 194)), (4, .ref (x_a g 195)), (5, .ref (x_a g 196)), (6, .ref (x_a g 197)), (7, .ref (x_a g 198)), (8, .ref (x_a g 199)), (9, .ref (x_a g 200)), (10, .ref (x_a g 201)), (11, .ref (x_a g 202)), (12, .ref (x_a g 203)), (13, .ref (x_a g 204))]) hC dL_same_9 (by decide) rfl ?_
  obtain ⟨n_1, h⟩ := h
  exact x_sub [3, 4, 5, 6, 7, 8, 9, 10, 11, 12, 13, 14, 15, 16, 2, 1, 0] rfl ((L n_1).1 _ _ _ _ _ h)
