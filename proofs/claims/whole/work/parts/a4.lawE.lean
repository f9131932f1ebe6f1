/-! the law's loop: picture and walk -/
def fL_law (xs : Nat → Int32) (L N : Nat) (i : Int32) (S : sw_St) : Option (Int32 × sw_St) :=
  sw_fx1 (fun rec1 x3_1 S1 => (if x3_1 > ((Int32.ofNat L) - (6 : Int32)) then (some ((1 : Int32), S1)) else (sw_gd (sw_in x3_1 L) (if ((xs x3_1.toNatClampNeg) &&& (63 : Int32)) = (0 : Int32) then (fL_c0 xs L N rec1 x3_1 S1) else (if ((xs x3_1.toNatClampNeg) &&& (63 : Int32)) = (1 : Int32) then (fL_c1 xs L N rec1 x3_1 S1) else (if ((xs x3_1.toNatClampNeg) &&& (63 : Int32)) = (2 : Int32) then (fL_c2 xs L N rec1 x3_1 S1) else (if ((xs x3_1.toNatClampNeg) &&& (63 : Int32)) = (3 : Int32) then (fL_c3 xs L N rec1 x3_1 S1) else (if ((xs x3_1.toNatClampNeg) &&& (63 : Int32)) = (4 : Int32) then (fL_c4 xs L N rec1 x3_1 S1) else (if ((xs x3_1.toNatClampNeg) &&& (63 : Int32)) = (5 : Int32) then (fL_c5 xs L N rec1 x3_1 S1) else (if ((xs x3_1.toNatClampNeg) &&& (63 : Int32)) = (6 : Int32) then (fL_c6 xs L N rec1 x3_1 S1) else (if ((xs x3_1.toNatClampNeg) &&& (63 : Int32)) = (7 : Int32) then (fL_c7 xs L N rec1 x3_1 S1) else (if ((xs x3_1.toNatClampNeg) &&& (63 : Int32)) = (8 : Int32) then (fL_c8 xs L N rec1 x3_1 S1) else (if ((xs x3_1.toNatClampNeg) &&& (63 : Int32)) = (9 : Int32) then (fL_c9 xs L N rec1 x3_1 S1) else (if ((xs x3_1.toNatClampNeg) &&& (63 : Int32)) = (10 : Int32) then (fL_c10 xs L N rec1 x3_1 S1) else (if ((xs x3_1.toNatClampNeg) &&& (63 : Int32)) = (11 : Int32) then (fL_c11 xs L N rec1 x3_1 S1) else (if ((xs x3_1.toNatClampNeg) &&& (63 : Int32)) = (12 : Int32) then (fL_c12 xs L N rec1 x3_1 S1) else (if ((xs x3_1.toNatClampNeg) &&& (63 : Int32)) = (13 : Int32) then (fL_c13 xs L N rec1 x3_1 S1) else (if ((xs x3_1.toNatClampNeg) &&& (63 : Int32)) = (14 : Int32) then (fL_c14 xs L N rec1 x3_1 S1) else (if ((xs x3_1.toNatClampNeg) &&& (63 : Int32)) = (15 : Int32) then (fL_c15 xs L N rec1 x3_1 S1) else (if ((xs x3_1.toNatClampNeg) &&& (63 : Int32)) = (16 : Int32) then (fL_c16 xs L N rec1 x3_1 S1) else (if ((xs x3_1.toNatClampNeg) &&& (63 : Int32)) = (17 : Int32) then (fL_c17 xs L N rec1 x3_1 S1) else (if ((xs x3_1.toNatClampNeg) &&& (63 : Int32)) = (18 : Int32) then (fL_c18 xs L N rec1 x3_1 S1) else (if ((xs x3_1.toNatClampNeg) &&& (63 : Int32)) = (19 : Int32) then (fL_c19 xs L N rec1 x3_1 S1) else (if ((xs x3_1.toNatClampNeg) &&& (63 : Int32)) = (20 : Int32) then (fL_c20 xs L N rec1 x3_1 S1) else (if ((xs x3_1.toNatClampNeg) &&& (63 : Int32)) = (21 : Int32) then (fL_c21 xs L N rec1 x3_1 S1) else (if ((xs x3_1.toNatClampNeg) &&& (63 : Int32)) = (22 : Int32) then (fL_c22 xs L N rec1 x3_1 S1) else (if ((xs x3_1.toNatClampNeg) &&& (63 : Int32)) = (23 : Int32) then (fL_c23 xs L N rec1 x3_1 S1) else (if ((xs x3_1.toNatClampNeg) &&& (63 : Int32)) = (24 : Int32) then (fL_c24 xs L N rec1 x3_1 S1) else (if ((xs x3_1.toNatClampNeg) &&& (63 : Int32)) = (25 : Int32) then (fL_c25 xs L N rec1 x3_1 S1) else (if ((xs x3_1.toNatClampNeg) &&& (63 : Int32)) = (26 : Int32) then (fL_c26 xs L N rec1 x3_1 S1) else (if ((xs x3_1.toNatClampNeg) &&& (63 : Int32)) = (27 : Int32) then (fL_c27 xs L N rec1 x3_1 S1) else (if ((xs x3_1.toNatClampNeg) &&& (63 : Int32)) = (28 : Int32) then (fL_c28 xs L N rec1 x3_1 S1) else (if ((xs x3_1.toNatClampNeg) &&& (63 : Int32)) = (29 : Int32) then (fL_c29 xs L N rec1 x3_1 S1) else (if ((xs x3_1.toNatClampNeg) &&& (63 : Int32)) = (30 : Int32) then (fL_c30 xs L N rec1 x3_1 S1) else (if ((xs x3_1.toNatClampNeg) &&& (63 : Int32)) = (31 : Int32) then (fL_c31 xs L N rec1 x3_1 S1) else (if ((xs x3_1.toNatClampNeg) &&& (63 : Int32)) = (32 : Int32) then (fL_c32 xs L N rec1 x3_1 S1) else (if ((xs x3_1.toNatClampNeg) &&& (63 : Int32)) = (33 : Int32) then (fL_c33 xs L N rec1 x3_1 S1) else (if ((xs x3_1.toNatClampNeg) &&& (63 : Int32)) = (34 : Int32) then (fL_c34 xs L N rec1 x3_1 S1) else (if ((xs x3_1.toNatClampNeg) &&& (63 : Int32)) = (35 : Int32) then (fL_c35 xs L N rec1 x3_1 S1) else (if ((xs x3_1.toNatClampNeg) &&& (63 : Int32)) = (36 : Int32) then (fL_c36 xs L N rec1 x3_1 S1) else (if ((xs x3_1.toNatClampNeg) &&& (63 : Int32)) = (37 : Int32) then (fL_c37 xs L N rec1 x3_1 S1) else (if ((xs x3_1.toNatClampNeg) &&& (63 : Int32)) = (38 : Int32) then (fL_c38 xs L N rec1 x3_1 S1) else (if ((xs x3_1.toNatClampNeg) &&& (63 : Int32)) = (39 : Int32) then (fL_c39 xs L N rec1 x3_1 S1) else (rec1 (x3_1 + (6 : Int32)) S1)))))))))))))))))))))))))))))))))))))))))))) N i S
set_option maxRecDepth 100000 in
set_option maxHeartbeats 4000000 in
theorem hL_law {G : sw_G} {b L N : Nat} {xs : Nat → Int32} {i : Int32} {S : sw_St} : sw_Rn G RL cL_law 4 ret room_1 128 sw_SL (sw_Zl G b L xs) 18 [some (.ref b), some (sw_vr G 0), some (sw_vr G 105), some (.int i)] [] S (fL_law xs L N i S) := by
  unfold fL_law
  refine sw_lp1 (lv := fun x3_1 => [some (.ref b), some (sw_vr G 0), some (sw_vr G 105), some (.int x3_1)]) (fun rec1 hrec1 x3_1 S1 => ?_) _ _ _
  refine sw_ild_4_3 (np := 19) dL_law_18 rfl ?_
  refine sw_ald_4_0 (np := 20) dL_law_19 rfl ?_
  refine sw_slen (np := 21) dL_law_20 rfl ?_
  refine sw_bipush (np := 23) dL_law_21 sw_bc_6 rfl ?_
  refine sw_isub (np := 24) dL_law_23 rfl ?_
  refine sw_icmp_gt (np := 27) (tp := 1465) dL_law_24 rfl rfl ?_ ?_
  · refine sw_iconst (np := 1466) dL_law_1465 sw_ic_1 rfl ?_
    exact sw_ret1 dL_law_1466
  · refine sw_ald_4_0 (np := 28) dL_law_27 rfl ?_
    refine sw_ild_4_3 (np := 29) dL_law_28 rfl ?_
    refine sw_sld (np := 30) dL_law_29 rfl ?_
    refine sw_bipush (np := 32) dL_law_30 sw_bc_63 rfl ?_
    refine sw_iand (np := 33) dL_law_32 rfl ?_
    refine sw_ite (fun hs0 => ?_) (fun hs0 => ?_)
    · exact sw_tabIn (tp := 208) dL_law_33 (by rw [hs0]; decide) (by rw [hs0]; decide) (by rw [hs0]; rfl) rfl (hL_c0 hrec1 _ _)
    refine sw_ite (fun hs1 => ?_) (fun hs1 => ?_)
    · exact sw_tabIn (tp := 241) dL_law_33 (by rw [hs1]; decide) (by rw [hs1]; decide) (by rw [hs1]; rfl) rfl (hL_c1 hrec1 _ _)
    refine sw_ite (fun hs2 => ?_) (fun hs2 => ?_)
    · exact sw_tabIn (tp := 284) dL_law_33 (by rw [hs2]; decide) (by rw [hs2]; decide) (by rw [hs2]; rfl) rfl (hL_c2 hrec1 _ _)
    refine sw_ite (fun hs3 => ?_) (fun hs3 => ?_)
    · exact sw_tabIn (tp := 327) dL_law_33 (by rw [hs3]; decide) (by rw [hs3]; decide) (by rw [hs3]; rfl) rfl (hL_c3 hrec1 _ _)
    refine sw_ite (fun hs4 => ?_) (fun hs4 => ?_)
    · exact sw_tabIn (tp := 360) dL_law_33 (by rw [hs4]; decide) (by rw [hs4]; decide) (by rw [hs4]; rfl) rfl (hL_c4 hrec1 _ _)
    refine sw_ite (fun hs5 => ?_) (fun hs5 => ?_)
    · exact sw_tabIn (tp := 383) dL_law_33 (by rw [hs5]; decide) (by rw [hs5]; decide) (by rw [hs5]; rfl) rfl (hL_c5 hrec1 _ _)
    refine sw_ite (fun hs6 => ?_) (fun hs6 => ?_)
    · exact sw_tabIn (tp := 396) dL_law_33 (by rw [hs6]; decide) (by rw [hs6]; decide) (by rw [hs6]; rfl) rfl (hL_c6 hrec1 _ _)
    refine sw_ite (fun hs7 => ?_) (fun hs7 => ?_)
    · exact sw_tabIn (tp := 419) dL_law_33 (by rw [hs7]; decide) (by rw [hs7]; decide) (by rw [hs7]; rfl) rfl (hL_c7 hrec1 _ _)
    refine sw_ite (fun hs8 => ?_) (fun hs8 => ?_)
    · exact sw_tabIn (tp := 462) dL_law_33 (by rw [hs8]; decide) (by rw [hs8]; decide) (by rw [hs8]; rfl) rfl (hL_c8 hrec1 _ _)
    refine sw_ite (fun hs9 => ?_) (fun hs9 => ?_)
    · exact sw_tabIn (tp := 505) dL_law_33 (by rw [hs9]; decide) (by rw [hs9]; decide) (by rw [hs9]; rfl) rfl (hL_c9 hrec1 _ _)
    refine sw_ite (fun hs10 => ?_) (fun hs10 => ?_)
    · exact sw_tabIn (tp := 548) dL_law_33 (by rw [hs10]; decide) (by rw [hs10]; decide) (by rw [hs10]; rfl) rfl (hL_c10 hrec1 _ _)
    refine sw_ite (fun hs11 => ?_) (fun hs11 => ?_)
    · exact sw_tabIn (tp := 571) dL_law_33 (by rw [hs11]; decide) (by rw [hs11]; decide) (by rw [hs11]; rfl) rfl (hL_c11 hrec1 _ _)
    refine sw_ite (fun hs12 => ?_) (fun hs12 => ?_)
    · exact sw_tabIn (tp := 604) dL_law_33 (by rw [hs12]; decide) (by rw [hs12]; decide) (by rw [hs12]; rfl) rfl (hL_c12 hrec1 _ _)
    refine sw_ite (fun hs13 => ?_) (fun hs13 => ?_)
    · exact sw_tabIn (tp := 627) dL_law_33 (by rw [hs13]; decide) (by rw [hs13]; decide) (by rw [hs13]; rfl) rfl (hL_c13 hrec1 _ _)
    refine sw_ite (fun hs14 => ?_) (fun hs14 => ?_)
    · exact sw_tabIn (tp := 660) dL_law_33 (by rw [hs14]; decide) (by rw [hs14]; decide) (by rw [hs14]; rfl) rfl (hL_c14 hrec1 _ _)
    refine sw_ite (fun hs15 => ?_) (fun hs15 => ?_)
    · exact sw_tabIn (tp := 683) dL_law_33 (by rw [hs15]; decide) (by rw [hs15]; decide) (by rw [hs15]; rfl) rfl (hL_c15 hrec1 _ _)
    refine sw_ite (fun hs16 => ?_) (fun hs16 => ?_)
    · exact sw_tabIn (tp := 716) dL_law_33 (by rw [hs16]; decide) (by rw [hs16]; decide) (by rw [hs16]; rfl) rfl (hL_c16 hrec1 _ _)
    refine sw_ite (fun hs17 => ?_) (fun hs17 => ?_)
    · exact sw_tabIn (tp := 759) dL_law_33 (by rw [hs17]; decide) (by rw [hs17]; decide) (by rw [hs17]; rfl) rfl (hL_c17 hrec1 _ _)
    refine sw_ite (fun hs18 => ?_) (fun hs18 => ?_)
    · exact sw_tabIn (tp := 782) dL_law_33 (by rw [hs18]; decide) (by rw [hs18]; decide) (by rw [hs18]; rfl) rfl (hL_c18 hrec1 _ _)
    refine sw_ite (fun hs19 => ?_) (fun hs19 => ?_)
    · exact sw_tabIn (tp := 805) dL_law_33 (by rw [hs19]; decide) (by rw [hs19]; decide) (by rw [hs19]; rfl) rfl (hL_c19 hrec1 _ _)
    refine sw_ite (fun hs20 => ?_) (fun hs20 => ?_)
    · exact sw_tabIn (tp := 838) dL_law_33 (by rw [hs20]; decide) (by rw [hs20]; decide) (by rw [hs20]; rfl) rfl (hL_c20 hrec1 _ _)
    refine sw_ite (fun hs21 => ?_) (fun hs21 => ?_)
    · exact sw_tabIn (tp := 881) dL_law_33 (by rw [hs21]; decide) (by rw [hs21]; decide) (by rw [hs21]; rfl) rfl (hL_c21 hrec1 _ _)
    refine sw_ite (fun hs22 => ?_) (fun hs22 => ?_)
    · exact sw_tabIn (tp := 904) dL_law_33 (by rw [hs22]; decide) (by rw [hs22]; decide) (by rw [hs22]; rfl) rfl (hL_c22 hrec1 _ _)
    refine sw_ite (fun hs23 => ?_) (fun hs23 => ?_)
    · exact sw_tabIn (tp := 937) dL_law_33 (by rw [hs23]; decide) (by rw [hs23]; decide) (by rw [hs23]; rfl) rfl (hL_c23 hrec1 _ _)
    refine sw_ite (fun hs24 => ?_) (fun hs24 => ?_)
    · exact sw_tabIn (tp := 960) dL_law_33 (by rw [hs24]; decide) (by rw [hs24]; decide) (by rw [hs24]; rfl) rfl (hL_c24 hrec1 _ _)
    refine sw_ite (fun hs25 => ?_) (fun hs25 => ?_)
    · exact sw_tabIn (tp := 993) dL_law_33 (by rw [hs25]; decide) (by rw [hs25]; decide) (by rw [hs25]; rfl) rfl (hL_c25 hrec1 _ _)
    refine sw_ite (fun hs26 => ?_) (fun hs26 => ?_)
    · exact sw_tabIn (tp := 1016) dL_law_33 (by rw [hs26]; decide) (by rw [hs26]; decide) (by rw [hs26]; rfl) rfl (hL_c26 hrec1 _ _)
    refine sw_ite (fun hs27 => ?_) (fun hs27 => ?_)
    · exact sw_tabIn (tp := 1029) dL_law_33 (by rw [hs27]; decide) (by rw [hs27]; decide) (by rw [hs27]; rfl) rfl (hL_c27 hrec1 _ _)
    refine sw_ite (fun hs28 => ?_) (fun hs28 => ?_)
    · exact sw_tabIn (tp := 1042) dL_law_33 (by rw [hs28]; decide) (by rw [hs28]; decide) (by rw [hs28]; rfl) rfl (hL_c28 hrec1 _ _)
    refine sw_ite (fun hs29 => ?_) (fun hs29 => ?_)
    · exact sw_tabIn (tp := 1055) dL_law_33 (by rw [hs29]; decide) (by rw [hs29]; decide) (by rw [hs29]; rfl) rfl (hL_c29 hrec1 _ _)
    refine sw_ite (fun hs30 => ?_) (fun hs30 => ?_)
    · exact sw_tabIn (tp := 1068) dL_law_33 (by rw [hs30]; decide) (by rw [hs30]; decide) (by rw [hs30]; rfl) rfl (hL_c30 hrec1 _ _)
    refine sw_ite (fun hs31 => ?_) (fun hs31 => ?_)
    · exact sw_tabIn (tp := 1091) dL_law_33 (by rw [hs31]; decide) (by rw [hs31]; decide) (by rw [hs31]; rfl) rfl (hL_c31 hrec1 _ _)
    refine sw_ite (fun hs32 => ?_) (fun hs32 => ?_)
    · exact sw_tabIn (tp := 1134) dL_law_33 (by rw [hs32]; decide) (by rw [hs32]; decide) (by rw [hs32]; rfl) rfl (hL_c32 hrec1 _ _)
    refine sw_ite (fun hs33 => ?_) (fun hs33 => ?_)
    · exact sw_tabIn (tp := 1157) dL_law_33 (by rw [hs33]; decide) (by rw [hs33]; decide) (by rw [hs33]; rfl) rfl (hL_c33 hrec1 _ _)
    refine sw_ite (fun hs34 => ?_) (fun hs34 => ?_)
    · exact sw_tabIn (tp := 1190) dL_law_33 (by rw [hs34]; decide) (by rw [hs34]; decide) (by rw [hs34]; rfl) rfl (hL_c34 hrec1 _ _)
    refine sw_ite (fun hs35 => ?_) (fun hs35 => ?_)
    · exact sw_tabIn (tp := 1233) dL_law_33 (by rw [hs35]; decide) (by rw [hs35]; decide) (by rw [hs35]; rfl) rfl (hL_c35 hrec1 _ _)
    refine sw_ite (fun hs36 => ?_) (fun hs36 => ?_)
    · exact sw_tabIn (tp := 1306) dL_law_33 (by rw [hs36]; decide) (by rw [hs36]; decide) (by rw [hs36]; rfl) rfl (hL_c36 hrec1 _ _)
    refine sw_ite (fun hs37 => ?_) (fun hs37 => ?_)
    · exact sw_tabIn (tp := 1340) dL_law_33 (by rw [hs37]; decide) (by rw [hs37]; decide) (by rw [hs37]; rfl) rfl (hL_c37 hrec1 _ _)
    refine sw_ite (fun hs38 => ?_) (fun hs38 => ?_)
    · exact sw_tabIn (tp := 1403) dL_law_33 (by rw [hs38]; decide) (by rw [hs38]; decide) (by rw [hs38]; rfl) rfl (hL_c38 hrec1 _ _)
    refine sw_ite (fun hs39 => ?_) (fun hs39 => ?_)
    · exact sw_tabIn (tp := 1436) dL_law_33 (by rw [hs39]; decide) (by rw [hs39]; decide) (by rw [hs39]; rfl) rfl (hL_c39 hrec1 _ _)
    have hs0n := sw_neI sw_ic_0 (by decide) (by decide) hs0
    have hs1n := sw_neI sw_ic_1 (by decide) (by decide) hs1
    have hs2n := sw_neI sw_ic_2 (by decide) (by decide) hs2
    have hs3n := sw_neI sw_ic_3 (by decide) (by decide) hs3
    have hs4n := sw_neI sw_ic_4 (by decide) (by decide) hs4
    have hs5n := sw_neI sw_ic_5 (by decide) (by decide) hs5
    have hs6n := sw_neI sw_ic_6 (by decide) (by decide) hs6
    have hs7n := sw_neI sw_ic_7 (by decide) (by decide) hs7
    have hs8n := sw_neI sw_ic_8 (by decide) (by decide) hs8
    have hs9n := sw_neI sw_ic_9 (by decide) (by decide) hs9
    have hs10n := sw_neI sw_ic_10 (by decide) (by decide) hs10
    have hs11n := sw_neI sw_ic_11 (by decide) (by decide) hs11
    have hs12n := sw_neI sw_ic_12 (by decide) (by decide) hs12
    have hs13n := sw_neI sw_ic_13 (by decide) (by decide) hs13
    have hs14n := sw_neI sw_ic_14 (by decide) (by decide) hs14
    have hs15n := sw_neI sw_ic_15 (by decide) (by decide) hs15
    have hs16n := sw_neI sw_ic_16 (by decide) (by decide) hs16
    have hs17n := sw_neI sw_ic_17 (by decide) (by decide) hs17
    have hs18n := sw_neI sw_ic_18 (by decide) (by decide) hs18
    have hs19n := sw_neI sw_ic_19 (by decide) (by decide) hs19
    have hs20n := sw_neI sw_ic_20 (by decide) (by decide) hs20
    have hs21n := sw_neI sw_ic_21 (by decide) (by decide) hs21
    have hs22n := sw_neI sw_ic_22 (by decide) (by decide) hs22
    have hs23n := sw_neI sw_ic_23 (by decide) (by decide) hs23
    have hs24n := sw_neI sw_ic_24 (by decide) (by decide) hs24
    have hs25n := sw_neI sw_ic_25 (by decide) (by decide) hs25
    have hs26n := sw_neI sw_ic_26 (by decide) (by decide) hs26
    have hs27n := sw_neI sw_ic_27 (by decide) (by decide) hs27
    have hs28n := sw_neI sw_ic_28 (by decide) (by decide) hs28
    have hs29n := sw_neI sw_ic_29 (by decide) (by decide) hs29
    have hs30n := sw_neI sw_ic_30 (by decide) (by decide) hs30
    have hs31n := sw_neI sw_ic_31 (by decide) (by decide) hs31
    have hs32n := sw_neI sw_ic_32 (by decide) (by decide) hs32
    have hs33n := sw_neI sw_ic_33 (by decide) (by decide) hs33
    have hs34n := sw_neI sw_ic_34 (by decide) (by decide) hs34
    have hs35n := sw_neI sw_ic_35 (by decide) (by decide) hs35
    have hs36n := sw_neI sw_ic_36 (by decide) (by decide) hs36
    have hs37n := sw_neI sw_ic_37 (by decide) (by decide) hs37
    have hs38n := sw_neI sw_ic_38 (by decide) (by decide) hs38
    have hs39n := sw_neI sw_ic_39 (by decide) (by decide) hs39
    refine sw_tabOut (tp := 1459) dL_law_33 (by omega) rfl ?_
    refine sw_inc_4_3 (np := 1462) dL_law_1459 sw_ic_6 rfl rfl ?_
    refine sw_goto (tp := 18) dL_law_1462 rfl ?_
    exact hrec1 _ _
