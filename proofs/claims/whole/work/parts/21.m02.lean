/-- SwordAttic$Night.add(III)I -/
def fX4_add (N : Nat) (o : Nat) (p1 : Int32) (p2 : Int32) (p3 : Int32) (S : sw_St) : Option (Int32 × sw_St) :=
  sw_ls (sw_si S o 0 ((S.1 o 0) + (1 : Int32))) (fun S1 => (sw_li (S.1 o 0) (fun x4_1 => (sw_gd (sw_in x4_1 10) (sw_ls (sw_si S1 (o + 1) x4_1.toNatClampNeg p1) (fun S2 => (sw_gd (sw_in x4_1 10) (sw_ls (sw_si S2 (o + 2) x4_1.toNatClampNeg p2) (fun S3 => (sw_gd (sw_in x4_1 10) (sw_ls (sw_si S3 (o + 3) x4_1.toNatClampNeg p3) (fun S4 => (sw_gd (sw_in x4_1 10) (sw_ls (sw_si S4 (o + 4) x4_1.toNatClampNeg (20 : Int32)) (fun S5 => (sw_gd (sw_in x4_1 10) (sw_ls (sw_si S5 (o + 5) x4_1.toNatClampNeg (0 : Int32)) (fun S6 => (sw_gd (sw_in p1 12) (sw_ls (sw_si S6 (o + 6) p1.toNatClampNeg x4_1) (fun S7 => (some (x4_1, S7)))))))))))))))))))))))
theorem hX4_add {G : sw_G} {N d : Nat} (hd : 1 ≤ d) {o : Nat} {p1 : Int32} {p2 : Int32} {p3 : Int32} (ho : sw_kd o = 4) {S : sw_St} : sw_Ev G yX4_add cX4_add 5 (some .int) d sw_ei [sw_vr G o, .int p1, .int p2, .int p3] S (fX4_add N o p1 p2 p3 S) := by
  refine sw_Ev_of (own := RX4) (lv0 := [some (sw_vr G o), some (.int p1), some (.int p2), some (.int p3), none]) (by decide) rfl (Nat.le_of_ble_eq_true rfl) rfl ?_
  unfold fX4_add
  refine sw_ald_5_0 (np := 1) dX4_add_0 rfl ?_
  refine sw_dup (np := 2) dX4_add_1 rfl rfl ?_
  refine sw_gI (np := 5) sw_f_RX4_9 ho dX4_add_2 rfl ?_
  refine sw_dup_x1 (np := 6) dX4_add_5 rfl rfl rfl ?_
  refine sw_iconst (np := 7) dX4_add_6 sw_ic_1 rfl ?_
  refine sw_iadd (np := 8) dX4_add_7 rfl ?_
  refine sw_pI (np := 11) sw_f_RX4_9 sw_fp_4_0 ho dX4_add_8 rfl (fun S1 => ?_)
  refine sw_isl_5_4 (np := 13) dX4_add_11 rfl rfl (fun x4_1 => ?_)
  refine sw_ald_5_0 (np := 14) dX4_add_13 rfl ?_
  refine sw_gR (np := 17) sw_f_RX4_27 ho (sw_rf_4_5 ho) dX4_add_14 rfl ?_
  refine sw_ild_5_4 (np := 19) dX4_add_17 rfl ?_
  refine sw_ild_5_1 (np := 20) dX4_add_19 rfl ?_
  refine sw_sI (np := 21) (sw_kd_4_5 ho) (sw_ln_4_5 ho) dX4_add_20 rfl (fun S2 => ?_)
  refine sw_ald_5_0 (np := 22) dX4_add_21 rfl ?_
  refine sw_gR (np := 25) sw_f_RX4_31 ho (sw_rf_4_6 ho) dX4_add_22 rfl ?_
  refine sw_ild_5_4 (np := 27) dX4_add_25 rfl ?_
  refine sw_ild_5_2 (np := 28) dX4_add_27 rfl ?_
  refine sw_sI (np := 29) (sw_kd_4_6 ho) (sw_ln_4_6 ho) dX4_add_28 rfl (fun S3 => ?_)
  refine sw_ald_5_0 (np := 30) dX4_add_29 rfl ?_
  refine sw_gR (np := 33) sw_f_RX4_34 ho (sw_rf_4_7 ho) dX4_add_30 rfl ?_
  refine sw_ild_5_4 (np := 35) dX4_add_33 rfl ?_
  refine sw_ild_5_3 (np := 36) dX4_add_35 rfl ?_
  refine sw_sI (np := 37) (sw_kd_4_7 ho) (sw_ln_4_7 ho) dX4_add_36 rfl (fun S4 => ?_)
  refine sw_ald_5_0 (np := 38) dX4_add_37 rfl ?_
  refine sw_gR (np := 41) sw_f_RX4_37 ho (sw_rf_4_8 ho) dX4_add_38 rfl ?_
  refine sw_ild_5_4 (np := 43) dX4_add_41 rfl ?_
  refine sw_bipush (np := 45) dX4_add_43 sw_bc_20 rfl ?_
  refine sw_sI (np := 46) (sw_kd_4_8 ho) (sw_ln_4_8 ho) dX4_add_45 rfl (fun S5 => ?_)
  refine sw_ald_5_0 (np := 47) dX4_add_46 rfl ?_
  refine sw_gR (np := 50) sw_f_RX4_40 ho (sw_rf_4_9 ho) dX4_add_47 rfl ?_
  refine sw_ild_5_4 (np := 52) dX4_add_50 rfl ?_
  refine sw_iconst (np := 53) dX4_add_52 sw_ic_0 rfl ?_
  refine sw_sI (np := 54) (sw_kd_4_9 ho) (sw_ln_4_9 ho) dX4_add_53 rfl (fun S6 => ?_)
  refine sw_ald_5_0 (np := 55) dX4_add_54 rfl ?_
  refine sw_gR (np := 58) sw_f_RX4_43 ho (sw_rf_4_10 ho) dX4_add_55 rfl ?_
  refine sw_ild_5_1 (np := 59) dX4_add_58 rfl ?_
  refine sw_ild_5_4 (np := 61) dX4_add_59 rfl ?_
  refine sw_sI (np := 62) (sw_kd_4_10 ho) (sw_ln_4_10 ho) dX4_add_61 rfl (fun S7 => ?_)
  refine sw_ild_5_4 (np := 64) dX4_add_62 rfl ?_
  exact sw_iret dX4_add_64
/-- SwordAttic$Shelf.hasPlaces(II)Z -/
def fX5_hasPlaces (N : Nat) (o : Nat) (p1 : Int32) (p2 : Int32) (S : sw_St) : Option (Int32 × sw_St) :=
  if p1 < 0 then (some (vp_nar .boolean (0 : Int32), S)) else (if p2 < 0 then (some (vp_nar .boolean (0 : Int32), S)) else (if (lg_cmp (p1.toInt64 + p2.toInt64) ((S.1 o 2).toInt64)) > 0 then (some (vp_nar .boolean (0 : Int32), S)) else (some (vp_nar .boolean (1 : Int32), S))))
theorem hX5_hasPlaces {G : sw_G} {N d : Nat} (hd : 1 ≤ d) {o : Nat} {p1 : Int32} {p2 : Int32} (ho : sw_kd o = 5) {S : sw_St} : sw_Ev G yX5_hasPlaces cX5_hasPlaces 3 (some .boolean) d sw_ei [sw_vr G o, .int p1, .int p2] S (fX5_hasPlaces N o p1 p2 S) := by
  refine sw_Ev_of (own := RX5) (lv0 := [some (sw_vr G o), some (.int p1), some (.int p2)]) (by decide) rfl (Nat.le_of_ble_eq_true rfl) rfl ?_
  unfold fX5_hasPlaces
  refine sw_ild_3_1 (np := 1) dX5_hasPlaces_0 rfl ?_
  refine sw_if_lt (np := 4) (tp := 26) dX5_hasPlaces_1 rfl rfl ?_ ?_
  · refine sw_iconst (np := 27) dX5_hasPlaces_26 sw_ic_0 rfl ?_
    exact sw_zret dX5_hasPlaces_27
  · refine sw_ild_3_2 (np := 5) dX5_hasPlaces_4 rfl ?_
    refine sw_if_lt (np := 8) (tp := 26) dX5_hasPlaces_5 rfl rfl ?_ ?_
    · refine sw_iconst (np := 27) dX5_hasPlaces_26 sw_ic_0 rfl ?_
      exact sw_zret dX5_hasPlaces_27
    · refine sw_ild_3_1 (np := 9) dX5_hasPlaces_8 rfl ?_
      refine sw_i2l (np := 10) dX5_hasPlaces_9 rfl ?_
      refine sw_ild_3_2 (np := 11) dX5_hasPlaces_10 rfl ?_
      refine sw_i2l (np := 12) dX5_hasPlaces_11 rfl ?_
      refine sw_ladd (np := 13) dX5_hasPlaces_12 rfl ?_
      refine sw_ald_3_0 (np := 14) dX5_hasPlaces_13 rfl ?_
      refine sw_gI (np := 17) sw_f_RX5_18 ho dX5_hasPlaces_14 rfl ?_
      refine sw_i2l (np := 18) dX5_hasPlaces_17 rfl ?_
      refine sw_lcmp (np := 19) dX5_hasPlaces_18 rfl ?_
      refine sw_if_gt (np := 22) (tp := 26) dX5_hasPlaces_19 rfl rfl ?_ ?_
      · refine sw_iconst (np := 27) dX5_hasPlaces_26 sw_ic_0 rfl ?_
        exact sw_zret dX5_hasPlaces_27
      · refine sw_iconst (np := 23) dX5_hasPlaces_22 sw_ic_1 rfl ?_
        refine sw_goto (tp := 27) dX5_hasPlaces_23 rfl ?_
        exact sw_zret dX5_hasPlaces_27
/-- SwordAttic$Shelf.byteAt(I)I -/
def fX5_byteAt (N : Nat) (o : Nat) (p1 : Int32) (S : sw_St) : Option (Int32 × sw_St) :=
  sw_bd (fX5_hasPlaces N o p1 (1 : Int32) S) (fun r1 S1 => (if r1 = 0 then (some ((-1 : Int32), S1)) else (sw_gd (sw_in p1 60) (some ((S1.2 (o + 1) p1.toNatClampNeg).toInt32, S1)))))
theorem hX5_byteAt {G : sw_G} {N d : Nat} (hd : 2 ≤ d) {o : Nat} {p1 : Int32} (ho : sw_kd o = 5) {S : sw_St} : sw_Ev G yX5_byteAt cX5_byteAt 2 (some .int) d sw_ei [sw_vr G o, .int p1] S (fX5_byteAt N o p1 S) := by
  refine sw_Ev_of (own := RX5) (lv0 := [some (sw_vr G o), some (.int p1)]) (by decide) rfl (Nat.le_of_ble_eq_true rfl) rfl ?_
  unfold fX5_byteAt
  refine sw_ald_2_0 (np := 1) dX5_byteAt_0 rfl ?_
  refine sw_ild_2_1 (np := 2) dX5_byteAt_1 rfl ?_
  refine sw_iconst (np := 3) dX5_byteAt_2 sw_ic_1 rfl ?_
  refine sw_cV2i (np := 6) (hX5_hasPlaces (d := d - 1) (by omega) ho) sw_mv_X5_hasPlaces ho sw_wl_RX5_28 dX5_byteAt_3 (sw_fit_rm (by omega) (by decide)) (Nat.le_of_ble_eq_true rfl) rfl (fun r1 S1 => ?_)
  refine sw_if_eq (np := 9) (tp := 19) dX5_byteAt_6 rfl rfl ?_ ?_
  · refine sw_iconst (np := 20) dX5_byteAt_19 sw_ic_m1 rfl ?_
    exact sw_iret dX5_byteAt_20
  · refine sw_ald_2_0 (np := 10) dX5_byteAt_9 rfl ?_
    refine sw_gR (np := 13) sw_f_RX5_21 ho (sw_rf_5_3 ho) dX5_byteAt_10 rfl ?_
    refine sw_ild_2_1 (np := 14) dX5_byteAt_13 rfl ?_
    refine sw_lald (np := 15) (sw_kd_5_3 ho) (sw_ln_5_3 ho) dX5_byteAt_14 rfl ?_
    refine sw_l2i (np := 16) dX5_byteAt_15 rfl ?_
    refine sw_goto (tp := 20) dX5_byteAt_16 rfl ?_
    exact sw_iret dX5_byteAt_20
/-- SwordAttic$Night.addFrom(LSwordAttic$Shelf;II)I -/
def fX4_addFrom (N : Nat) (o : Nat) (o1 : Nat) (p2 : Int32) (p3 : Int32) (S : sw_St) : Option (Int32 × sw_St) :=
  sw_fx1 (fun rec1 x4_1 S1 => (if x4_1 ≥ p3 then (some (x4_1, S1)) else (if (S1.1 o 0) ≥ (10 : Int32) then (some (x4_1, S1)) else (sw_li (p2 + ((3 : Int32) * x4_1)) (fun x5_1 => (sw_bd (fX5_hasPlaces N o1 x5_1 (3 : Int32) S1) (fun r1 S2 => (if r1 = 0 then (some (x4_1, S2)) else (sw_bd (fX5_byteAt N o1 x5_1 S2) (fun r2 S3 => (sw_bd (fX5_byteAt N o1 (x5_1 + (1 : Int32)) S3) (fun r3 S4 => (sw_bd (fX5_byteAt N o1 (x5_1 + (2 : Int32)) S4) (fun r4 S5 => (sw_bd (fX4_mayCome N o r2 r3 r4 S5) (fun r5 S6 => (if r5 = 0 then (some (x4_1, S6)) else (sw_bd (fX5_byteAt N o1 x5_1 S6) (fun r6 S7 => (sw_bd (fX5_byteAt N o1 (x5_1 + (1 : Int32)) S7) (fun r7 S8 => (sw_bd (fX5_byteAt N o1 (x5_1 + (2 : Int32)) S8) (fun r8 S9 => (sw_bd (fX4_add N o r6 r7 r8 S9) (fun r9 S10 => (rec1 (x4_1 + (1 : Int32)) S10)))))))))))))))))))))))))) N (0 : Int32) S
theorem hX4_addFrom {G : sw_G} {N d : Nat} (hd : 4 ≤ d) {o : Nat} {o1 : Nat} {p2 : Int32} {p3 : Int32} (ho : sw_kd o = 4) (ho1 : sw_kd o1 = 5) {S : sw_St} : sw_Ev G yX4_addFrom cX4_addFrom 6 (some .int) d sw_ei [sw_vr G o, sw_vr G o1, .int p2, .int p3] S (fX4_addFrom N o o1 p2 p3 S) := by
  refine sw_Ev_of (own := RX4) (lv0 := [some (sw_vr G o), some (sw_vr G o1), some (.int p2), some (.int p3), none, none]) (by decide) rfl (Nat.le_of_ble_eq_true rfl) rfl ?_
  unfold fX4_addFrom
  refine sw_iconst (np := 1) dX4_addFrom_0 sw_ic_0 rfl ?_
  refine sw_ist_6_4 (np := 3) dX4_addFrom_1 rfl rfl ?_
  refine sw_lp1 (lv := fun x4_1 => [some (sw_vr G o), some (sw_vr G o1), some (.int p2), some (.int p3), some (.int x4_1), none]) (fun rec1 hrec1 x4_1 S1 => ?_) _ _ _
  refine sw_ild_6_4 (np := 5) dX4_addFrom_3 rfl ?_
  refine sw_ild_6_3 (np := 6) dX4_addFrom_5 rfl ?_
  refine sw_icmp_ge (np := 9) (tp := 104) dX4_addFrom_6 rfl rfl ?_ ?_
  · refine sw_ild_6_4 (np := 106) dX4_addFrom_104 rfl ?_
    exact sw_iret dX4_addFrom_106
  · refine sw_ald_6_0 (np := 10) dX4_addFrom_9 rfl ?_
    refine sw_gI (np := 13) sw_f_RX4_9 ho dX4_addFrom_10 rfl ?_
    refine sw_bipush (np := 15) dX4_addFrom_13 sw_bc_10 rfl ?_
    refine sw_icmp_ge (np := 18) (tp := 104) dX4_addFrom_15 rfl rfl ?_ ?_
    · refine sw_ild_6_4 (np := 106) dX4_addFrom_104 rfl ?_
      exact sw_iret dX4_addFrom_106
    · refine sw_ild_6_2 (np := 19) dX4_addFrom_18 rfl ?_
      refine sw_iconst (np := 20) dX4_addFrom_19 sw_ic_3 rfl ?_
      refine sw_ild_6_4 (np := 22) dX4_addFrom_20 rfl ?_
      refine sw_imul (np := 23) dX4_addFrom_22 rfl ?_
      refine sw_iadd (np := 24) dX4_addFrom_23 rfl ?_
      refine sw_isl_6_5 (np := 26) dX4_addFrom_24 rfl rfl (fun x5_1 => ?_)
      refine sw_ald_6_1 (np := 27) dX4_addFrom_26 rfl ?_
      refine sw_ild_6_5 (np := 29) dX4_addFrom_27 rfl ?_
      refine sw_iconst (np := 30) dX4_addFrom_29 sw_ic_3 rfl ?_
      refine sw_cV2i (np := 33) (hX5_hasPlaces (d := d - 1) (by omega) ho1) sw_mv_X5_hasPlaces ho1 sw_wl_RX4_73 dX4_addFrom_30 (sw_fit_rm (by omega) (by decide)) (Nat.le_of_ble_eq_true rfl) rfl (fun r1 S2 => ?_)
      refine sw_if_ne (np := 36) (tp := 39) dX4_addFrom_33 rfl rfl ?_ ?_
      · refine sw_ald_6_0 (np := 40) dX4_addFrom_39 rfl ?_
        refine sw_ald_6_1 (np := 41) dX4_addFrom_40 rfl ?_
        refine sw_ild_6_5 (np := 43) dX4_addFrom_41 rfl ?_
        refine sw_cV1i (np := 46) (hX5_byteAt (d := d - 1) (by omega) ho1) sw_mv_X5_byteAt ho1 sw_wl_RX4_79 dX4_addFrom_43 (sw_fit_rm (by omega) (by decide)) (Nat.le_of_ble_eq_true rfl) rfl (fun r2 S3 => ?_)
        refine sw_ald_6_1 (np := 47) dX4_addFrom_46 rfl ?_
        refine sw_ild_6_5 (np := 49) dX4_addFrom_47 rfl ?_
        refine sw_iconst (np := 50) dX4_addFrom_49 sw_ic_1 rfl ?_
        refine sw_iadd (np := 51) dX4_addFrom_50 rfl ?_
        refine sw_cV1i (np := 54) (hX5_byteAt (d := d - 1) (by omega) ho1) sw_mv_X5_byteAt ho1 sw_wl_RX4_79 dX4_addFrom_51 (sw_fit_rm (by omega) (by decide)) (Nat.le_of_ble_eq_true rfl) rfl (fun r3 S4 => ?_)
        refine sw_ald_6_1 (np := 55) dX4_addFrom_54 rfl ?_
        refine sw_ild_6_5 (np := 57) dX4_addFrom_55 rfl ?_
        refine sw_iconst (np := 58) dX4_addFrom_57 sw_ic_2 rfl ?_
        refine sw_iadd (np := 59) dX4_addFrom_58 rfl ?_
        refine sw_cV1i (np := 62) (hX5_byteAt (d := d - 1) (by omega) ho1) sw_mv_X5_byteAt ho1 sw_wl_RX4_79 dX4_addFrom_59 (sw_fit_rm (by omega) (by decide)) (Nat.le_of_ble_eq_true rfl) rfl (fun r4 S5 => ?_)
        refine sw_cV3i (np := 65) (hX4_mayCome (d := d - 1) (by omega) ho) sw_mv_X4_mayCome ho sw_wl_RX4_83 dX4_addFrom_62 (sw_fit_rm (by omega) (by decide)) (Nat.le_of_ble_eq_true rfl) rfl (fun r5 S6 => ?_)
        refine sw_if_ne (np := 68) (tp := 71) dX4_addFrom_65 rfl rfl ?_ ?_
        · refine sw_ald_6_0 (np := 72) dX4_addFrom_71 rfl ?_
          refine sw_ald_6_1 (np := 73) dX4_addFrom_72 rfl ?_
          refine sw_ild_6_5 (np := 75) dX4_addFrom_73 rfl ?_
          refine sw_cV1i (np := 78) (hX5_byteAt (d := d - 1) (by omega) ho1) sw_mv_X5_byteAt ho1 sw_wl_RX4_79 dX4_addFrom_75 (sw_fit_rm (by omega) (by decide)) (Nat.le_of_ble_eq_true rfl) rfl (fun r6 S7 => ?_)
          refine sw_ald_6_1 (np := 79) dX4_addFrom_78 rfl ?_
          refine sw_ild_6_5 (np := 81) dX4_addFrom_79 rfl ?_
          refine sw_iconst (np := 82) dX4_addFrom_81 sw_ic_1 rfl ?_
          refine sw_iadd (np := 83) dX4_addFrom_82 rfl ?_
          refine sw_cV1i (np := 86) (hX5_byteAt (d := d - 1) (by omega) ho1) sw_mv_X5_byteAt ho1 sw_wl_RX4_79 dX4_addFrom_83 (sw_fit_rm (by omega) (by decide)) (Nat.le_of_ble_eq_true rfl) rfl (fun r7 S8 => ?_)
          refine sw_ald_6_1 (np := 87) dX4_addFrom_86 rfl ?_
          refine sw_ild_6_5 (np := 89) dX4_addFrom_87 rfl ?_
          refine sw_iconst (np := 90) dX4_addFrom_89 sw_ic_2 rfl ?_
          refine sw_iadd (np := 91) dX4_addFrom_90 rfl ?_
          refine sw_cV1i (np := 94) (hX5_byteAt (d := d - 1) (by omega) ho1) sw_mv_X5_byteAt ho1 sw_wl_RX4_79 dX4_addFrom_91 (sw_fit_rm (by omega) (by decide)) (Nat.le_of_ble_eq_true rfl) rfl (fun r8 S9 => ?_)
          refine sw_cV3i (np := 97) (hX4_add (d := d - 1) (by omega) ho) sw_mv_X4_add ho sw_wl_RX4_86 dX4_addFrom_94 (sw_fit_rm (by omega) (by decide)) (Nat.le_of_ble_eq_true rfl) rfl (fun r9 S10 => ?_)
          refine sw_pop (np := 98) dX4_addFrom_97 rfl rfl ?_
          refine sw_inc_6_4 (np := 101) dX4_addFrom_98 sw_ic_1 rfl rfl ?_
          refine sw_goto (tp := 3) dX4_addFrom_101 rfl ?_
          refine sw_dr_6_5 ?_
          exact hrec1 _ _
        · refine sw_goto (tp := 104) dX4_addFrom_68 rfl ?_
          refine sw_ild_6_4 (np := 106) dX4_addFrom_104 rfl ?_
          exact sw_iret dX4_addFrom_106
      · refine sw_goto (tp := 104) dX4_addFrom_36 rfl ?_
        refine sw_ild_6_4 (np := 106) dX4_addFrom_104 rfl ?_
        exact sw_iret dX4_addFrom_106
/-- SwordAttic$Night.get(II)I -/
def fX4_get (N : Nat) (o : Nat) (p1 : Int32) (p2 : Int32) (S : sw_St) : Option (Int32 × sw_St) :=
  if p2 = (0 : Int32) then (sw_gd (sw_in p1 10) (some ((S.1 (o + 1) p1.toNatClampNeg), S))) else (if p2 = (1 : Int32) then (sw_gd (sw_in p1 10) (some ((S.1 (o + 2) p1.toNatClampNeg), S))) else (if p2 = (2 : Int32) then (sw_gd (sw_in p1 10) (some ((S.1 (o + 3) p1.toNatClampNeg), S))) else (if p2 = (3 : Int32) then (sw_gd (sw_in p1 10) (some ((S.1 (o + 4) p1.toNatClampNeg), S))) else (if p2 = (4 : Int32) then (sw_gd (sw_in p1 10) (some ((S.1 (o + 5) p1.toNatClampNeg), S))) else (if p2 = (5 : Int32) then (some ((S.1 o 1), S)) else (if p2 = (6 : Int32) then (some ((S.1 o 2), S)) else (some ((S.1 o 3), S))))))))
theorem hX4_get {G : sw_G} {N d : Nat} (hd : 1 ≤ d) {o : Nat} {p1 : Int32} {p2 : Int32} (ho : sw_kd o = 4) {S : sw_St} : sw_Ev G yX4_get cX4_get 3 (some .int) d sw_ei [sw_vr G o, .int p1, .int p2] S (fX4_get N o p1 p2 S) := by
  refine sw_Ev_of (own := RX4) (lv0 := [some (sw_vr G o), some (.int p1), some (.int p2)]) (by decide) rfl (Nat.le_of_ble_eq_true rfl) rfl ?_
  unfold fX4_get
  refine sw_ild_3_2 (np := 1) dX4_get_0 rfl ?_
  refine sw_ite (fun hs1 => ?_) (fun hs1 => ?_)
  · refine sw_tabIn (tp := 44) dX4_get_1 (by rw [hs1]; decide) (by rw [hs1]; decide) (by rw [hs1]; rfl) rfl ?_
    refine sw_ald_3_0 (np := 45) dX4_get_44 rfl ?_
    refine sw_gR (np := 48) sw_f_RX4_27 ho (sw_rf_4_5 ho) dX4_get_45 rfl ?_
    refine sw_ild_3_1 (np := 49) dX4_get_48 rfl ?_
    refine sw_iald (np := 50) (sw_kd_4_5 ho) (sw_ln_4_5 ho) dX4_get_49 rfl ?_
    exact sw_iret dX4_get_50
  · refine sw_ite (fun hs2 => ?_) (fun hs2 => ?_)
    · refine sw_tabIn (tp := 51) dX4_get_1 (by rw [hs2]; decide) (by rw [hs2]; decide) (by rw [hs2]; rfl) rfl ?_
      refine sw_ald_3_0 (np := 52) dX4_get_51 rfl ?_
      refine sw_gR (np := 55) sw_f_RX4_31 ho (sw_rf_4_6 ho) dX4_get_52 rfl ?_
      refine sw_ild_3_1 (np := 56) dX4_get_55 rfl ?_
      refine sw_iald (np := 57) (sw_kd_4_6 ho) (sw_ln_4_6 ho) dX4_get_56 rfl ?_
      exact sw_iret dX4_get_57
    · refine sw_ite (fun hs3 => ?_) (fun hs3 => ?_)
      · refine sw_tabIn (tp := 58) dX4_get_1 (by rw [hs3]; decide) (by rw [hs3]; decide) (by rw [hs3]; rfl) rfl ?_
        refine sw_ald_3_0 (np := 59) dX4_get_58 rfl ?_
        refine sw_gR (np := 62) sw_f_RX4_34 ho (sw_rf_4_7 ho) dX4_get_59 rfl ?_
        refine sw_ild_3_1 (np := 63) dX4_get_62 rfl ?_
        refine sw_iald (np := 64) (sw_kd_4_7 ho) (sw_ln_4_7 ho) dX4_get_63 rfl ?_
        exact sw_iret dX4_get_64
      · refine sw_ite (fun hs4 => ?_) (fun hs4 => ?_)
        · refine sw_tabIn (tp := 65) dX4_get_1 (by rw [hs4]; decide) (by rw [hs4]; decide) (by rw [hs4]; rfl) rfl ?_
          refine sw_ald_3_0 (np := 66) dX4_get_65 rfl ?_
          refine sw_gR (np := 69) sw_f_RX4_37 ho (sw_rf_4_8 ho) dX4_get_66 rfl ?_
          refine sw_ild_3_1 (np := 70) dX4_get_69 rfl ?_
          refine sw_iald (np := 71) (sw_kd_4_8 ho) (sw_ln_4_8 ho) dX4_get_70 rfl ?_
          exact sw_iret dX4_get_71
        · refine sw_ite (fun hs5 => ?_) (fun hs5 => ?_)
          · refine sw_tabIn (tp := 72) dX4_get_1 (by rw [hs5]; decide) (by rw [hs5]; decide) (by rw [hs5]; rfl) rfl ?_
            refine sw_ald_3_0 (np := 73) dX4_get_72 rfl ?_
            refine sw_gR (np := 76) sw_f_RX4_40 ho (sw_rf_4_9 ho) dX4_get_73 rfl ?_
            refine sw_ild_3_1 (np := 77) dX4_get_76 rfl ?_
            refine sw_iald (np := 78) (sw_kd_4_9 ho) (sw_ln_4_9 ho) dX4_get_77 rfl ?_
            exact sw_iret dX4_get_78
          · refine sw_ite (fun hs6 => ?_) (fun hs6 => ?_)
            · refine sw_tabIn (tp := 79) dX4_get_1 (by rw [hs6]; decide) (by rw [hs6]; decide) (by rw [hs6]; rfl) rfl ?_
              refine sw_ald_3_0 (np := 80) dX4_get_79 rfl ?_
              refine sw_gI (np := 83) sw_f_RX4_15 ho dX4_get_80 rfl ?_
              exact sw_iret dX4_get_83
            · refine sw_ite (fun hs7 => ?_) (fun hs7 => ?_)
              · refine sw_tabIn (tp := 84) dX4_get_1 (by rw [hs7]; decide) (by rw [hs7]; decide) (by rw [hs7]; rfl) rfl ?_
                refine sw_ald_3_0 (np := 85) dX4_get_84 rfl ?_
                refine sw_gI (np := 88) sw_f_RX4_18 ho dX4_get_85 rfl ?_
                exact sw_iret dX4_get_88
              · have hs1n := sw_neI sw_ic_0 (by decide) (by decide) hs1
                have hs2n := sw_neI sw_ic_1 (by decide) (by decide) hs2
                have hs3n := sw_neI sw_ic_2 (by decide) (by decide) hs3
                have hs4n := sw_neI sw_ic_3 (by decide) (by decide) hs4
                have hs5n := sw_neI sw_ic_4 (by decide) (by decide) hs5
                have hs6n := sw_neI sw_ic_5 (by decide) (by decide) hs6
                have hs7n := sw_neI sw_ic_6 (by decide) (by decide) hs7
                refine sw_tabOut (tp := 89) dX4_get_1 (by omega) rfl ?_
                refine sw_ald_3_0 (np := 90) dX4_get_89 rfl ?_
                refine sw_gI (np := 93) sw_f_RX4_21 ho dX4_get_90 rfl ?_
                exact sw_iret dX4_get_93
/-- SwordAttic$Night.changeCots(II)V -/
def fX4_changeCots (N : Nat) (o : Nat) (p1 : Int32) (p2 : Int32) (S : sw_St) : Option (Unit × sw_St) :=
  sw_gd (sw_in p1 12) (sw_li (S.1 (o + 6) p1.toNatClampNeg) (fun x3_1 => (sw_gd (sw_in p2 12) (sw_li (S.1 (o + 6) p2.toNatClampNeg) (fun x4_1 => (sw_gd (sw_in p1 12) (sw_ls (sw_si S (o + 6) p1.toNatClampNeg x4_1) (fun S1 => (sw_gd (sw_in p2 12) (sw_ls (sw_si S1 (o + 6) p2.toNatClampNeg x3_1) (fun S2 => (if x3_1 < 0 then (if x4_1 < 0 then (some ((), S2)) else (sw_gd (sw_in x4_1 10) (sw_ls (sw_si S2 (o + 1) x4_1.toNatClampNeg p1) (fun S3 => (some ((), S3)))))) else (sw_gd (sw_in x3_1 10) (sw_ls (sw_si S2 (o + 1) x3_1.toNatClampNeg p2) (fun S4 => (if x4_1 < 0 then (some ((), S4)) else (sw_gd (sw_in x4_1 10) (sw_ls (sw_si S4 (o + 1) x4_1.toNatClampNeg p1) (fun S5 => (some ((), S5)))))))))))))))))))))
theorem hX4_changeCots {G : sw_G} {N d : Nat} (hd : 1 ≤ d) {o : Nat} {p1 : Int32} {p2 : Int32} (ho : sw_kd o = 4) {S : sw_St} : sw_Ev G yX4_changeCots cX4_changeCots 5 none d sw_ev [sw_vr G o, .int p1, .int p2] S (fX4_changeCots N o p1 p2 S) := by
  refine sw_Ev_of (own := RX4) (lv0 := [some (sw_vr G o), some (.int p1), some (.int p2), none, none]) (by decide) rfl (Nat.le_of_ble_eq_true rfl) rfl ?_
  unfold fX4_changeCots
  refine sw_ald_5_0 (np := 1) dX4_changeCots_0 rfl ?_
  refine sw_gR (np := 4) sw_f_RX4_43 ho (sw_rf_4_10 ho) dX4_changeCots_1 rfl ?_
  refine sw_ild_5_1 (np := 5) dX4_changeCots_4 rfl ?_
  refine sw_iald (np := 6) (sw_kd_4_10 ho) (sw_ln_4_10 ho) dX4_changeCots_5 rfl ?_
  refine sw_isl_5_3 (np := 7) dX4_changeCots_6 rfl rfl (fun x3_1 => ?_)
  refine sw_ald_5_0 (np := 8) dX4_changeCots_7 rfl ?_
  refine sw_gR (np := 11) sw_f_RX4_43 ho (sw_rf_4_10 ho) dX4_changeCots_8 rfl ?_
  refine sw_ild_5_2 (np := 12) dX4_changeCots_11 rfl ?_
  refine sw_iald (np := 13) (sw_kd_4_10 ho) (sw_ln_4_10 ho) dX4_changeCots_12 rfl ?_
  refine sw_isl_5_4 (np := 15) dX4_changeCots_13 rfl rfl (fun x4_1 => ?_)
  refine sw_ald_5_0 (np := 16) dX4_changeCots_15 rfl ?_
  refine sw_gR (np := 19) sw_f_RX4_43 ho (sw_rf_4_10 ho) dX4_changeCots_16 rfl ?_
  refine sw_ild_5_1 (np := 20) dX4_changeCots_19 rfl ?_
  refine sw_ild_5_4 (np := 22) dX4_changeCots_20 rfl ?_
  refine sw_sI (np := 23) (sw_kd_4_10 ho) (sw_ln_4_10 ho) dX4_changeCots_22 rfl (fun S1 => ?_)
  refine sw_ald_5_0 (np := 24) dX4_changeCots_23 rfl ?_
  refine sw_gR (np := 27) sw_f_RX4_43 ho (sw_rf_4_10 ho) dX4_changeCots_24 rfl ?_
  refine sw_ild_5_2 (np := 28) dX4_changeCots_27 rfl ?_
  refine sw_ild_5_3 (np := 29) dX4_changeCots_28 rfl ?_
  refine sw_sI (np := 30) (sw_kd_4_10 ho) (sw_ln_4_10 ho) dX4_changeCots_29 rfl (fun S2 => ?_)
  refine sw_ild_5_3 (np := 31) dX4_changeCots_30 rfl ?_
  refine sw_if_lt (np := 34) (tp := 41) dX4_changeCots_31 rfl rfl ?_ ?_
  · refine sw_ild_5_4 (np := 43) dX4_changeCots_41 rfl ?_
    refine sw_if_lt (np := 46) (tp := 54) dX4_changeCots_43 rfl rfl ?_ ?_
    · exact sw_vret dX4_changeCots_54
    · refine sw_ald_5_0 (np := 47) dX4_changeCots_46 rfl ?_
      refine sw_gR (np := 50) sw_f_RX4_27 ho (sw_rf_4_5 ho) dX4_changeCots_47 rfl ?_
      refine sw_ild_5_4 (np := 52) dX4_changeCots_50 rfl ?_
      refine sw_ild_5_1 (np := 53) dX4_changeCots_52 rfl ?_
      refine sw_sI (np := 54) (sw_kd_4_5 ho) (sw_ln_4_5 ho) dX4_changeCots_53 rfl (fun S3 => ?_)
      exact sw_vret dX4_changeCots_54
  · refine sw_ald_5_0 (np := 35) dX4_changeCots_34 rfl ?_
    refine sw_gR (np := 38) sw_f_RX4_27 ho (sw_rf_4_5 ho) dX4_changeCots_35 rfl ?_
    refine sw_ild_5_3 (np := 39) dX4_changeCots_38 rfl ?_
    refine sw_ild_5_2 (np := 40) dX4_changeCots_39 rfl ?_
    refine sw_sI (np := 41) (sw_kd_4_5 ho) (sw_ln_4_5 ho) dX4_changeCots_40 rfl (fun S4 => ?_)
    refine sw_ild_5_4 (np := 43) dX4_changeCots_41 rfl ?_
    refine sw_if_lt (np := 46) (tp := 54) dX4_changeCots_43 rfl rfl ?_ ?_
    · exact sw_vret dX4_changeCots_54
    · refine sw_ald_5_0 (np := 47) dX4_changeCots_46 rfl ?_
      refine sw_gR (np := 50) sw_f_RX4_27 ho (sw_rf_4_5 ho) dX4_changeCots_47 rfl ?_
      refine sw_ild_5_4 (np := 52) dX4_changeCots_50 rfl ?_
      refine sw_ild_5_1 (np := 53) dX4_changeCots_52 rfl ?_
      refine sw_sI (np := 54) (sw_kd_4_5 ho) (sw_ln_4_5 ho) dX4_changeCots_53 rfl (fun S5 => ?_)
      exact sw_vret dX4_changeCots_54
/-- SwordAttic$Night.isAwake(I)Z -/
def fX4_isAwake (N : Nat) (o : Nat) (p1 : Int32) (S : sw_St) : Option (Int32 × sw_St) :=
  sw_gd (sw_in p1 10) (if (S.1 (o + 4) p1.toNatClampNeg) ≤ (S.1 o 2) then (some (vp_nar .boolean (0 : Int32), S)) else (some (vp_nar .boolean (1 : Int32), S)))
theorem hX4_isAwake {G : sw_G} {N d : Nat} (hd : 1 ≤ d) {o : Nat} {p1 : Int32} (ho : sw_kd o = 4) {S : sw_St} : sw_Ev G yX4_isAwake cX4_isAwake 2 (some .boolean) d sw_ei [sw_vr G o, .int p1] S (fX4_isAwake N o p1 S) := by
  refine sw_Ev_of (own := RX4) (lv0 := [some (sw_vr G o), some (.int p1)]) (by decide) rfl (Nat.le_of_ble_eq_true rfl) rfl ?_
  unfold fX4_isAwake
  refine sw_ald_2_0 (np := 1) dX4_isAwake_0 rfl ?_
  refine sw_gR (np := 4) sw_f_RX4_37 ho (sw_rf_4_8 ho) dX4_isAwake_1 rfl ?_
  refine sw_ild_2_1 (np := 5) dX4_isAwake_4 rfl ?_
  refine sw_iald (np := 6) (sw_kd_4_8 ho) (sw_ln_4_8 ho) dX4_isAwake_5 rfl ?_
  refine sw_ald_2_0 (np := 7) dX4_isAwake_6 rfl ?_
  refine sw_gI (np := 10) sw_f_RX4_18 ho dX4_isAwake_7 rfl ?_
  refine sw_icmp_le (np := 13) (tp := 17) dX4_isAwake_10 rfl rfl ?_ ?_
  · refine sw_iconst (np := 18) dX4_isAwake_17 sw_ic_0 rfl ?_
    exact sw_zret dX4_isAwake_18
  · refine sw_iconst (np := 14) dX4_isAwake_13 sw_ic_1 rfl ?_
    refine sw_goto (tp := 18) dX4_isAwake_14 rfl ?_
    exact sw_zret dX4_isAwake_18
/-- SwordAttic$Night.awakeSwords()I -/
def fX4_awakeSwords (N : Nat) (o : Nat) (S : sw_St) : Option (Int32 × sw_St) :=
  sw_fx2 (fun rec1 x1_1 x2_1 S1 => (if x2_1 ≥ (S1.1 o 0) then (some (x1_1, S1)) else (sw_bd (fX4_isAwake N o x2_1 S1) (fun r1 S2 => (if r1 = 0 then (sw_li (x1_1 ||| (0 : Int32)) (fun x1_2 => (rec1 x1_2 (x2_1 + (1 : Int32)) S2))) else (sw_li (x1_1 ||| ((1 : Int32) <<< (x2_1 &&& 31))) (fun x1_3 => (rec1 x1_3 (x2_1 + (1 : Int32)) S2)))))))) N (0 : Int32) (0 : Int32) S
theorem hX4_awakeSwords {G : sw_G} {N d : Nat} (hd : 2 ≤ d) {o : Nat} (ho : sw_kd o = 4) {S : sw_St} : sw_Ev G yX4_awakeSwords cX4_awakeSwords 3 (some .int) d sw_ei [sw_vr G o] S (fX4_awakeSwords N o S) := by
  refine sw_Ev_of (own := RX4) (lv0 := [some (sw_vr G o), none, none]) (by decide) rfl (Nat.le_of_ble_eq_true rfl) rfl ?_
  unfold fX4_awakeSwords
  refine sw_iconst (np := 1) dX4_awakeSwords_0 sw_ic_0 rfl ?_
  refine sw_ist_3_1 (np := 2) dX4_awakeSwords_1 rfl rfl ?_
  refine sw_iconst (np := 3) dX4_awakeSwords_2 sw_ic_0 rfl ?_
  refine sw_ist_3_2 (np := 4) dX4_awakeSwords_3 rfl rfl ?_
  refine sw_lp2 (lv := fun x1_1 x2_1 => [some (sw_vr G o), some (.int x1_1), some (.int x2_1)]) (fun rec1 hrec1 x1_1 x2_1 S1 => ?_) _ _ _ _
  refine sw_ild_3_2 (np := 5) dX4_awakeSwords_4 rfl ?_
  refine sw_ald_3_0 (np := 6) dX4_awakeSwords_5 rfl ?_
  refine sw_gI (np := 9) sw_f_RX4_9 ho dX4_awakeSwords_6 rfl ?_
  refine sw_icmp_ge (np := 12) (tp := 36) dX4_awakeSwords_9 rfl rfl ?_ ?_
  · refine sw_ild_3_1 (np := 37) dX4_awakeSwords_36 rfl ?_
    exact sw_iret dX4_awakeSwords_37
  · refine sw_ild_3_1 (np := 13) dX4_awakeSwords_12 rfl ?_
    refine sw_ald_3_0 (np := 14) dX4_awakeSwords_13 rfl ?_
    refine sw_ild_3_2 (np := 15) dX4_awakeSwords_14 rfl ?_
    refine sw_cV1i (np := 18) (hX4_isAwake (d := d - 1) (by omega) ho) sw_mv_X4_isAwake ho sw_wl_RX4_94 dX4_awakeSwords_15 (sw_fit_rm (by omega) (by decide)) (Nat.le_of_ble_eq_true rfl) rfl (fun r1 S2 => ?_)
    refine sw_if_eq (np := 21) (tp := 27) dX4_awakeSwords_18 rfl rfl ?_ ?_
    · refine sw_iconst (np := 28) dX4_awakeSwords_27 sw_ic_0 rfl ?_
      refine sw_ior (np := 29) dX4_awakeSwords_28 rfl ?_
      refine sw_isl_3_1 (np := 30) dX4_awakeSwords_29 rfl rfl (fun x1_2 => ?_)
      refine sw_inc_3_2 (np := 33) dX4_awakeSwords_30 sw_ic_1 rfl rfl ?_
      refine sw_goto (tp := 4) dX4_awakeSwords_33 rfl ?_
      exact hrec1 _ _ _
    · refine sw_iconst (np := 22) dX4_awakeSwords_21 sw_ic_1 rfl ?_
      refine sw_ild_3_2 (np := 23) dX4_awakeSwords_22 rfl ?_
      refine sw_ishl (np := 24) dX4_awakeSwords_23 rfl ?_
      refine sw_goto (tp := 28) dX4_awakeSwords_24 rfl ?_
      refine sw_ior (np := 29) dX4_awakeSwords_28 rfl ?_
      refine sw_isl_3_1 (np := 30) dX4_awakeSwords_29 rfl rfl (fun x1_3 => ?_)
      refine sw_inc_3_2 (np := 33) dX4_awakeSwords_30 sw_ic_1 rfl rfl ?_
      refine sw_goto (tp := 4) dX4_awakeSwords_33 rfl ?_
      exact hrec1 _ _ _
/-- SwordAttic$Night.awakeCots()I -/
def fX4_awakeCots (N : Nat) (o : Nat) (S : sw_St) : Option (Int32 × sw_St) :=
  sw_fx2 (fun rec1 x1_1 x2_1 S1 => (if x2_1 ≥ (S1.1 o 0) then (some (x1_1, S1)) else (sw_bd (fX4_isAwake N o x2_1 S1) (fun r1 S2 => (if r1 = 0 then (sw_li (x1_1 ||| (0 : Int32)) (fun x1_2 => (rec1 x1_2 (x2_1 + (1 : Int32)) S2))) else (sw_gd (sw_in x2_1 10) (sw_li (x1_1 ||| ((1 : Int32) <<< ((S2.1 (o + 1) x2_1.toNatClampNeg) &&& 31))) (fun x1_3 => (rec1 x1_3 (x2_1 + (1 : Int32)) S2))))))))) N (0 : Int32) (0 : Int32) S
theorem hX4_awakeCots {G : sw_G} {N d : Nat} (hd : 2 ≤ d) {o : Nat} (ho : sw_kd o = 4) {S : sw_St} : sw_Ev G yX4_awakeCots cX4_awakeCots 3 (some .int) d sw_ei [sw_vr G o] S (fX4_awakeCots N o S) := by
  refine sw_Ev_of (own := RX4) (lv0 := [some (sw_vr G o), none, none]) (by decide) rfl (Nat.le_of_ble_eq_true rfl) rfl ?_
  unfold fX4_awakeCots
  refine sw_iconst (np := 1) dX4_awakeCots_0 sw_ic_0 rfl ?_
  refine sw_ist_3_1 (np := 2) dX4_awakeCots_1 rfl rfl ?_
  refine sw_iconst (np := 3) dX4_awakeCots_2 sw_ic_0 rfl ?_
  refine sw_ist_3_2 (np := 4) dX4_awakeCots_3 rfl rfl ?_
  refine sw_lp2 (lv := fun x1_1 x2_1 => [some (sw_vr G o), some (.int x1_1), some (.int x2_1)]) (fun rec1 hrec1 x1_1 x2_1 S1 => ?_) _ _ _ _
  refine sw_ild_3_2 (np := 5) dX4_awakeCots_4 rfl ?_
  refine sw_ald_3_0 (np := 6) dX4_awakeCots_5 rfl ?_
  refine sw_gI (np := 9) sw_f_RX4_9 ho dX4_awakeCots_6 rfl ?_
  refine sw_icmp_ge (np := 12) (tp := 41) dX4_awakeCots_9 rfl rfl ?_ ?_
  · refine sw_ild_3_1 (np := 42) dX4_awakeCots_41 rfl ?_
    exact sw_iret dX4_awakeCots_42
  · refine sw_ild_3_1 (np := 13) dX4_awakeCots_12 rfl ?_
    refine sw_ald_3_0 (np := 14) dX4_awakeCots_13 rfl ?_
    refine sw_ild_3_2 (np := 15) dX4_awakeCots_14 rfl ?_
    refine sw_cV1i (np := 18) (hX4_isAwake (d := d - 1) (by omega) ho) sw_mv_X4_isAwake ho sw_wl_RX4_94 dX4_awakeCots_15 (sw_fit_rm (by omega) (by decide)) (Nat.le_of_ble_eq_true rfl) rfl (fun r1 S2 => ?_)
    refine sw_if_eq (np := 21) (tp := 32) dX4_awakeCots_18 rfl rfl ?_ ?_
    · refine sw_iconst (np := 33) dX4_awakeCots_32 sw_ic_0 rfl ?_
      refine sw_ior (np := 34) dX4_awakeCots_33 rfl ?_
      refine sw_isl_3_1 (np := 35) dX4_awakeCots_34 rfl rfl (fun x1_2 => ?_)
      refine sw_inc_3_2 (np := 38) dX4_awakeCots_35 sw_ic_1 rfl rfl ?_
      refine sw_goto (tp := 4) dX4_awakeCots_38 rfl ?_
      exact hrec1 _ _ _
    · refine sw_iconst (np := 22) dX4_awakeCots_21 sw_ic_1 rfl ?_
      refine sw_ald_3_0 (np := 23) dX4_awakeCots_22 rfl ?_
      refine sw_gR (np := 26) sw_f_RX4_27 ho (sw_rf_4_5 ho) dX4_awakeCots_23 rfl ?_
      refine sw_ild_3_2 (np := 27) dX4_awakeCots_26 rfl ?_
      refine sw_iald (np := 28) (sw_kd_4_5 ho) (sw_ln_4_5 ho) dX4_awakeCots_27 rfl ?_
      refine sw_ishl (np := 29) dX4_awakeCots_28 rfl ?_
      refine sw_goto (tp := 33) dX4_awakeCots_29 rfl ?_
      refine sw_ior (np := 34) dX4_awakeCots_33 rfl ?_
      refine sw_isl_3_1 (np := 35) dX4_awakeCots_34 rfl rfl (fun x1_3 => ?_)
      refine sw_inc_3_2 (np := 38) dX4_awakeCots_35 sw_ic_1 rfl rfl ?_
      refine sw_goto (tp := 4) dX4_awakeCots_38 rfl ?_
      exact hrec1 _ _ _
/-- java/lang/Integer.bitCount(I)I -/
def fJ6_bitCount_0f7a4 (N : Nat) (p0 : Int32) (S : sw_St) : Option (Int32 × sw_St) :=
  sw_li (p0 - (((p0.toUInt32 >>> ((1 : Int32).toUInt32 &&& Int32.toUInt32 31)).toInt32) &&& (1431655765 : Int32))) (fun x0_1 => (sw_li ((x0_1 &&& (858993459 : Int32)) + (((x0_1.toUInt32 >>> ((2 : Int32).toUInt32 &&& Int32.toUInt32 31)).toInt32) &&& (858993459 : Int32))) (fun x0_2 => (sw_li ((x0_2 + ((x0_2.toUInt32 >>> ((4 : Int32).toUInt32 &&& Int32.toUInt32 31)).toInt32)) &&& (252645135 : Int32)) (fun x0_3 => (sw_li (x0_3 + ((x0_3.toUInt32 >>> ((8 : Int32).toUInt32 &&& Int32.toUInt32 31)).toInt32)) (fun x0_4 => (sw_li (x0_4 + ((x0_4.toUInt32 >>> ((16 : Int32).toUInt32 &&& Int32.toUInt32 31)).toInt32)) (fun x0_5 => (some ((x0_5 &&& (63 : Int32)), S)))))))))))
theorem hJ6_bitCount_0f7a4 {G : sw_G} {N d : Nat} (hd : 1 ≤ d) {p0 : Int32}  {S : sw_St} : sw_Ev G yJ6_bitCount_0f7a4 cJ6_bitCount_0f7a4 1 (some .int) d sw_ei [.int p0] S (fJ6_bitCount_0f7a4 N p0 S) := by
  refine sw_Ev_of (own := RJ6) (lv0 := [some (.int p0)]) (by decide) rfl (Nat.le_of_ble_eq_true rfl) rfl ?_
  unfold fJ6_bitCount_0f7a4
  refine sw_ild_1_0 (np := 1) dJ6_bitCount_0f7a4_0 rfl ?_
  refine sw_ild_1_0 (np := 2) dJ6_bitCount_0f7a4_1 rfl ?_
  refine sw_iconst (np := 3) dJ6_bitCount_0f7a4_2 sw_ic_1 rfl ?_
  refine sw_iushr (np := 4) dJ6_bitCount_0f7a4_3 rfl ?_
  refine sw_ldcw (np := 7) sw_wc_RJ6_265 dJ6_bitCount_0f7a4_4 rfl ?_
  refine sw_iand (np := 8) dJ6_bitCount_0f7a4_7 rfl ?_
  refine sw_isub (np := 9) dJ6_bitCount_0f7a4_8 rfl ?_
  refine sw_isl_1_0 (np := 10) dJ6_bitCount_0f7a4_9 rfl (fun x0_1 => ?_)
  refine sw_ild_1_0 (np := 11) dJ6_bitCount_0f7a4_10 rfl ?_
  refine sw_ldcw (np := 14) sw_wc_RJ6_266 dJ6_bitCount_0f7a4_11 rfl ?_
  refine sw_iand (np := 15) dJ6_bitCount_0f7a4_14 rfl ?_
  refine sw_ild_1_0 (np := 16) dJ6_bitCount_0f7a4_15 rfl ?_
  refine sw_iconst (np := 17) dJ6_bitCount_0f7a4_16 sw_ic_2 rfl ?_
  refine sw_iushr (np := 18) dJ6_bitCount_0f7a4_17 rfl ?_
  refine sw_ldcw (np := 21) sw_wc_RJ6_266 dJ6_bitCount_0f7a4_18 rfl ?_
  refine sw_iand (np := 22) dJ6_bitCount_0f7a4_21 rfl ?_
  refine sw_iadd (np := 23) dJ6_bitCount_0f7a4_22 rfl ?_
  refine sw_isl_1_0 (np := 24) dJ6_bitCount_0f7a4_23 rfl (fun x0_2 => ?_)
  refine sw_ild_1_0 (np := 25) dJ6_bitCount_0f7a4_24 rfl ?_
  refine sw_ild_1_0 (np := 26) dJ6_bitCount_0f7a4_25 rfl ?_
  refine sw_iconst (np := 27) dJ6_bitCount_0f7a4_26 sw_ic_4 rfl ?_
  refine sw_iushr (np := 28) dJ6_bitCount_0f7a4_27 rfl ?_
  refine sw_iadd (np := 29) dJ6_bitCount_0f7a4_28 rfl ?_
  refine sw_ldcw (np := 32) sw_wc_RJ6_267 dJ6_bitCount_0f7a4_29 rfl ?_
  refine sw_iand (np := 33) dJ6_bitCount_0f7a4_32 rfl ?_
  refine sw_isl_1_0 (np := 34) dJ6_bitCount_0f7a4_33 rfl (fun x0_3 => ?_)
  refine sw_ild_1_0 (np := 35) dJ6_bitCount_0f7a4_34 rfl ?_
  refine sw_ild_1_0 (np := 36) dJ6_bitCount_0f7a4_35 rfl ?_
  refine sw_bipush (np := 38) dJ6_bitCount_0f7a4_36 sw_bc_8 rfl ?_
  refine sw_iushr (np := 39) dJ6_bitCount_0f7a4_38 rfl ?_
  refine sw_iadd (np := 40) dJ6_bitCount_0f7a4_39 rfl ?_
  refine sw_isl_1_0 (np := 41) dJ6_bitCount_0f7a4_40 rfl (fun x0_4 => ?_)
  refine sw_ild_1_0 (np := 42) dJ6_bitCount_0f7a4_41 rfl ?_
  refine sw_ild_1_0 (np := 43) dJ6_bitCount_0f7a4_42 rfl ?_
  refine sw_bipush (np := 45) dJ6_bitCount_0f7a4_43 sw_bc_16 rfl ?_
  refine sw_iushr (np := 46) dJ6_bitCount_0f7a4_45 rfl ?_
  refine sw_iadd (np := 47) dJ6_bitCount_0f7a4_46 rfl ?_
  refine sw_isl_1_0 (np := 48) dJ6_bitCount_0f7a4_47 rfl (fun x0_5 => ?_)
  refine sw_ild_1_0 (np := 49) dJ6_bitCount_0f7a4_48 rfl ?_
  refine sw_bipush (np := 51) dJ6_bitCount_0f7a4_49 sw_bc_63 rfl ?_
  refine sw_iand (np := 52) dJ6_bitCount_0f7a4_51 rfl ?_
  exact sw_iret dJ6_bitCount_0f7a4_52
/-- SwordAttic$Night.howManyAwake()I -/
def fX4_howManyAwake (N : Nat) (o : Nat) (S : sw_St) : Option (Int32 × sw_St) :=
  sw_bd (fX4_awakeSwords N o S) (fun r1 S1 => (sw_bd (fJ6_bitCount_0f7a4 N r1 S1) (fun r2 S2 => (some (r2, S2)))))
theorem hX4_howManyAwake {G : sw_G} {N d : Nat} (hd : 3 ≤ d) {o : Nat} (ho : sw_kd o = 4) {S : sw_St} : sw_Ev G yX4_howManyAwake cX4_howManyAwake 1 (some .int) d sw_ei [sw_vr G o] S (fX4_howManyAwake N o S) := by
  refine sw_Ev_of (own := RX4) (lv0 := [some (sw_vr G o)]) (by decide) rfl (Nat.le_of_ble_eq_true rfl) rfl ?_
  unfold fX4_howManyAwake
  refine sw_ald_1_0 (np := 1) dX4_howManyAwake_0 rfl ?_
  refine sw_cV0i (np := 4) (hX4_awakeSwords (d := d - 1) (by omega) ho) sw_mv_X4_awakeSwords ho sw_wl_RX4_97 dX4_howManyAwake_1 (sw_fit_rm (by omega) (by decide)) (Nat.le_of_ble_eq_true rfl) rfl (fun r1 S1 => ?_)
  refine sw_cS1i (np := 7) (hJ6_bitCount_0f7a4 (d := d - 1) (by omega) ) sw_ms_J6_bitCount_0f7a4 sw_wl_RX4_101 dX4_howManyAwake_4 (sw_fit_rm (by omega) (by decide)) (Nat.le_of_ble_eq_true rfl) rfl (fun r2 S2 => ?_)
  exact sw_iret dX4_howManyAwake_7
/-- SwordAttic$Night.mindOfAll()I -/
def fX4_mindOfAll (N : Nat) (o : Nat) (S : sw_St) : Option (Int32 × sw_St) :=
  sw_fx2 (fun rec1 x1_1 x2_1 S1 => (if x2_1 ≥ (S1.1 o 0) then (some (x1_1, S1)) else (sw_gd (sw_in x2_1 10) (sw_li (x1_1 + (S1.1 (o + 4) x2_1.toNatClampNeg)) (fun x1_2 => (rec1 x1_2 (x2_1 + (1 : Int32)) S1)))))) N (0 : Int32) (0 : Int32) S
theorem hX4_mindOfAll {G : sw_G} {N d : Nat} (hd : 1 ≤ d) {o : Nat} (ho : sw_kd o = 4) {S : sw_St} : sw_Ev G yX4_mindOfAll cX4_mindOfAll 3 (some .int) d sw_ei [sw_vr G o] S (fX4_mindOfAll N o S) := by
  refine sw_Ev_of (own := RX4) (lv0 := [some (sw_vr G o), none, none]) (by decide) rfl (Nat.le_of_ble_eq_true rfl) rfl ?_
  unfold fX4_mindOfAll
  refine sw_iconst (np := 1) dX4_mindOfAll_0 sw_ic_0 rfl ?_
  refine sw_ist_3_1 (np := 2) dX4_mindOfAll_1 rfl rfl ?_
  refine sw_iconst (np := 3) dX4_mindOfAll_2 sw_ic_0 rfl ?_
  refine sw_ist_3_2 (np := 4) dX4_mindOfAll_3 rfl rfl ?_
  refine sw_lp2 (lv := fun x1_1 x2_1 => [some (sw_vr G o), some (.int x1_1), some (.int x2_1)]) (fun rec1 hrec1 x1_1 x2_1 S1 => ?_) _ _ _ _
  refine sw_ild_3_2 (np := 5) dX4_mindOfAll_4 rfl ?_
  refine sw_ald_3_0 (np := 6) dX4_mindOfAll_5 rfl ?_
  refine sw_gI (np := 9) sw_f_RX4_9 ho dX4_mindOfAll_6 rfl ?_
  refine sw_icmp_ge (np := 12) (tp := 27) dX4_mindOfAll_9 rfl rfl ?_ ?_
  · refine sw_ild_3_1 (np := 28) dX4_mindOfAll_27 rfl ?_
    exact sw_iret dX4_mindOfAll_28
  · refine sw_ild_3_1 (np := 13) dX4_mindOfAll_12 rfl ?_
    refine sw_ald_3_0 (np := 14) dX4_mindOfAll_13 rfl ?_
    refine sw_gR (np := 17) sw_f_RX4_37 ho (sw_rf_4_8 ho) dX4_mindOfAll_14 rfl ?_
    refine sw_ild_3_2 (np := 18) dX4_mindOfAll_17 rfl ?_
    refine sw_iald (np := 19) (sw_kd_4_8 ho) (sw_ln_4_8 ho) dX4_mindOfAll_18 rfl ?_
    refine sw_iadd (np := 20) dX4_mindOfAll_19 rfl ?_
    refine sw_isl_3_1 (np := 21) dX4_mindOfAll_20 rfl rfl (fun x1_2 => ?_)
    refine sw_inc_3_2 (np := 24) dX4_mindOfAll_21 sw_ic_1 rfl rfl ?_
    refine sw_goto (tp := 4) dX4_mindOfAll_24 rfl ?_
    exact hrec1 _ _ _
/-- SwordAttic$Night.growth(LSwordAttic$Law;III)I -/
def fX4_growth (N : Nat) (o : Nat) (o1 : Nat) (p2 : Int32) (p3 : Int32) (p4 : Int32) (S : sw_St) : Option (Int32 × sw_St) :=
  sw_gd (sw_in p2 10) (sw_gd (sw_in (S.1 (o + 1) p2.toNatClampNeg) 12) (sw_bd (fJ6_bitCount_0f7a4 N (p3 &&& ((sw_tb 1).getD (S.1 (o + 1) p2.toNatClampNeg).toNatClampNeg 0)) S) (fun r1 S1 => (sw_gd (sw_in p2 10) (sw_gd (sw_in p2 10) (sw_gd (sw_in p2 10) (sw_bd (fX3_growth N o1 (S1.1 (o + 2) p2.toNatClampNeg) (S1.1 (o + 3) p2.toNatClampNeg) (S1.1 (o + 4) p2.toNatClampNeg) r1 p4 (S1.1 o 1) S1) (fun r2 S2 => (some (r2, S2))))))))))
theorem hX4_growth {G : sw_G} {N d : Nat} (hd : 4 ≤ d) {o : Nat} {o1 : Nat} {p2 : Int32} {p3 : Int32} {p4 : Int32} (ho : sw_kd o = 4) (ho1 : sw_kd o1 = 3) {S : sw_St} : sw_Ev G yX4_growth cX4_growth 6 (some .int) d sw_ei [sw_vr G o, sw_vr G o1, .int p2, .int p3, .int p4] S (fX4_growth N o o1 p2 p3 p4 S) := by
  refine sw_Ev_of (own := RX4) (lv0 := [some (sw_vr G o), some (sw_vr G o1), some (.int p2), some (.int p3), some (.int p4), none]) (by decide) rfl (Nat.le_of_ble_eq_true rfl) rfl ?_
  unfold fX4_growth
  refine sw_ild_6_3 (np := 1) dX4_growth_0 rfl ?_
  refine sw_getsN (np := 4) (fun _ _ h => sw_hs_1 h) rfl sw_wz_RX4_106 dX4_growth_1 rfl ?_
  refine sw_ald_6_0 (np := 5) dX4_growth_4 rfl ?_
  refine sw_gR (np := 8) sw_f_RX4_27 ho (sw_rf_4_5 ho) dX4_growth_5 rfl ?_
  refine sw_ild_6_2 (np := 9) dX4_growth_8 rfl ?_
  refine sw_iald (np := 10) (sw_kd_4_5 ho) (sw_ln_4_5 ho) dX4_growth_9 rfl ?_
  refine sw_tald (np := 11) (fun _ _ h => sw_hs_1 h) dX4_growth_10 rfl ?_
  refine sw_iand (np := 12) dX4_growth_11 rfl ?_
  refine sw_cS1i (np := 15) (hJ6_bitCount_0f7a4 (d := d - 1) (by omega) ) sw_ms_J6_bitCount_0f7a4 sw_wl_RX4_101 dX4_growth_12 (sw_fit_rm (by omega) (by decide)) (Nat.le_of_ble_eq_true rfl) rfl (fun r1 S1 => ?_)
  refine sw_ist_6_5 (np := 17) dX4_growth_15 rfl rfl ?_
  refine sw_ald_6_1 (np := 18) dX4_growth_17 rfl ?_
  refine sw_ald_6_0 (np := 19) dX4_growth_18 rfl ?_
  refine sw_gR (np := 22) sw_f_RX4_31 ho (sw_rf_4_6 ho) dX4_growth_19 rfl ?_
  refine sw_ild_6_2 (np := 23) dX4_growth_22 rfl ?_
  refine sw_iald (np := 24) (sw_kd_4_6 ho) (sw_ln_4_6 ho) dX4_growth_23 rfl ?_
  refine sw_ald_6_0 (np := 25) dX4_growth_24 rfl ?_
  refine sw_gR (np := 28) sw_f_RX4_34 ho (sw_rf_4_7 ho) dX4_growth_25 rfl ?_
  refine sw_ild_6_2 (np := 29) dX4_growth_28 rfl ?_
  refine sw_iald (np := 30) (sw_kd_4_7 ho) (sw_ln_4_7 ho) dX4_growth_29 rfl ?_
  refine sw_ald_6_0 (np := 31) dX4_growth_30 rfl ?_
  refine sw_gR (np := 34) sw_f_RX4_37 ho (sw_rf_4_8 ho) dX4_growth_31 rfl ?_
  refine sw_ild_6_2 (np := 35) dX4_growth_34 rfl ?_
  refine sw_iald (np := 36) (sw_kd_4_8 ho) (sw_ln_4_8 ho) dX4_growth_35 rfl ?_
  refine sw_ild_6_5 (np := 38) dX4_growth_36 rfl ?_
  refine sw_ild_6_4 (np := 40) dX4_growth_38 rfl ?_
  refine sw_ald_6_0 (np := 41) dX4_growth_40 rfl ?_
  refine sw_gI (np := 44) sw_f_RX4_15 ho dX4_growth_41 rfl ?_
  refine sw_cV6i (np := 47) (hX3_growth (d := d - 1) (by omega) ho1) sw_mv_X3_growth ho1 sw_wl_RX4_109 dX4_growth_44 (sw_fit_rm (by omega) (by decide)) (Nat.le_of_ble_eq_true rfl) rfl (fun r2 S2 => ?_)
  exact sw_iret dX4_growth_47
/-- SwordAttic$Night.growthNow(LSwordAttic$Law;I)I -/
def fX4_growthNow (N : Nat) (o : Nat) (o1 : Nat) (p2 : Int32) (S : sw_St) : Option (Int32 × sw_St) :=
  sw_bd (fX4_awakeCots N o S) (fun r1 S1 => (sw_gd (sw_in p2 10) (if (S1.1 (o + 1) p2.toNatClampNeg) = (S1.1 o 3) then (sw_bd (fX4_growth N o o1 p2 r1 (1 : Int32) S1) (fun r3 S3 => (some (r3, S3)))) else (sw_bd (fX4_growth N o o1 p2 r1 (0 : Int32) S1) (fun r2 S2 => (some (r2, S2)))))))
theorem hX4_growthNow {G : sw_G} {N d : Nat} (hd : 5 ≤ d) {o : Nat} {o1 : Nat} {p2 : Int32} (ho : sw_kd o = 4) (ho1 : sw_kd o1 = 3) {S : sw_St} : sw_Ev G yX4_growthNow cX4_growthNow 3 (some .int) d sw_ei [sw_vr G o, sw_vr G o1, .int p2] S (fX4_growthNow N o o1 p2 S) := by
  refine sw_Ev_of (own := RX4) (lv0 := [some (sw_vr G o), some (sw_vr G o1), some (.int p2)]) (by decide) rfl (Nat.le_of_ble_eq_true rfl) rfl ?_
  unfold fX4_growthNow
  refine sw_ald_3_0 (np := 1) dX4_growthNow_0 rfl ?_
  refine sw_ald_3_1 (np := 2) dX4_growthNow_1 rfl ?_
  refine sw_ild_3_2 (np := 3) dX4_growthNow_2 rfl ?_
  refine sw_ald_3_0 (np := 4) dX4_growthNow_3 rfl ?_
  refine sw_cV0i (np := 7) (hX4_awakeCots (d := d - 1) (by omega) ho) sw_mv_X4_awakeCots ho sw_wl_RX4_115 dX4_growthNow_4 (sw_fit_rm (by omega) (by decide)) (Nat.le_of_ble_eq_true rfl) rfl (fun r1 S1 => ?_)
  refine sw_ald_3_0 (np := 8) dX4_growthNow_7 rfl ?_
  refine sw_gR (np := 11) sw_f_RX4_27 ho (sw_rf_4_5 ho) dX4_growthNow_8 rfl ?_
  refine sw_ild_3_2 (np := 12) dX4_growthNow_11 rfl ?_
  refine sw_iald (np := 13) (sw_kd_4_5 ho) (sw_ln_4_5 ho) dX4_growthNow_12 rfl ?_
  refine sw_ald_3_0 (np := 14) dX4_growthNow_13 rfl ?_
  refine sw_gI (np := 17) sw_f_RX4_21 ho dX4_growthNow_14 rfl ?_
  refine sw_icmp_ne (np := 20) (tp := 24) dX4_growthNow_17 rfl rfl ?_ ?_
  · refine sw_iconst (np := 25) dX4_growthNow_24 sw_ic_0 rfl ?_
    refine sw_cV4i (np := 28) (hX4_growth (d := d - 1) (by omega) ho ho1) sw_mv_X4_growth ho sw_wl_RX4_118 dX4_growthNow_25 (sw_fit_rm (by omega) (by decide)) (Nat.le_of_ble_eq_true rfl) rfl (fun r2 S2 => ?_)
    exact sw_iret dX4_growthNow_28
  · refine sw_iconst (np := 21) dX4_growthNow_20 sw_ic_1 rfl ?_
    refine sw_goto (tp := 25) dX4_growthNow_21 rfl ?_
    refine sw_cV4i (np := 28) (hX4_growth (d := d - 1) (by omega) ho ho1) sw_mv_X4_growth ho sw_wl_RX4_118 dX4_growthNow_25 (sw_fit_rm (by omega) (by decide)) (Nat.le_of_ble_eq_true rfl) rfl (fun r3 S3 => ?_)
    exact sw_iret dX4_growthNow_28
/-- SwordAttic$Night.grow(II)V -/
def fX4_grow (N : Nat) (o : Nat) (p1 : Int32) (p2 : Int32) (S : sw_St) : Option (Unit × sw_St) :=
  sw_gd (sw_in p1 10) (sw_gd (sw_in p1 10) (sw_bd (fX8_heldWithin N (((S.1 (o + 4) p1.toNatClampNeg) + p2) - ((3 : Int32) * (S.1 (o + 5) p1.toNatClampNeg))) (0 : Int32) (99 : Int32) S) (fun r1 S1 => (sw_gd (sw_in p1 10) (sw_ls (sw_si S1 (o + 4) p1.toNatClampNeg r1) (fun S2 => (some ((), S2))))))))
theorem hX4_grow {G : sw_G} {N d : Nat} (hd : 2 ≤ d) {o : Nat} {p1 : Int32} {p2 : Int32} (ho : sw_kd o = 4) {S : sw_St} : sw_Ev G yX4_grow cX4_grow 3 none d sw_ev [sw_vr G o, .int p1, .int p2] S (fX4_grow N o p1 p2 S) := by
  refine sw_Ev_of (own := RX4) (lv0 := [some (sw_vr G o), some (.int p1), some (.int p2)]) (by decide) rfl (Nat.le_of_ble_eq_true rfl) rfl ?_
  unfold fX4_grow
  refine sw_ald_3_0 (np := 1) dX4_grow_0 rfl ?_
  refine sw_gR (np := 4) sw_f_RX4_37 ho (sw_rf_4_8 ho) dX4_grow_1 rfl ?_
  refine sw_ild_3_1 (np := 5) dX4_grow_4 rfl ?_
  refine sw_ald_3_0 (np := 6) dX4_grow_5 rfl ?_
  refine sw_gR (np := 9) sw_f_RX4_37 ho (sw_rf_4_8 ho) dX4_grow_6 rfl ?_
  refine sw_ild_3_1 (np := 10) dX4_grow_9 rfl ?_
  refine sw_iald (np := 11) (sw_kd_4_8 ho) (sw_ln_4_8 ho) dX4_grow_10 rfl ?_
  refine sw_ild_3_2 (np := 12) dX4_grow_11 rfl ?_
  refine sw_iadd (np := 13) dX4_grow_12 rfl ?_
  refine sw_iconst (np := 14) dX4_grow_13 sw_ic_3 rfl ?_
  refine sw_ald_3_0 (np := 15) dX4_grow_14 rfl ?_
  refine sw_gR (np := 18) sw_f_RX4_40 ho (sw_rf_4_9 ho) dX4_grow_15 rfl ?_
  refine sw_ild_3_1 (np := 19) dX4_grow_18 rfl ?_
  refine sw_iald (np := 20) (sw_kd_4_9 ho) (sw_ln_4_9 ho) dX4_grow_19 rfl ?_
  refine sw_imul (np := 21) dX4_grow_20 rfl ?_
  refine sw_isub (np := 22) dX4_grow_21 rfl ?_
  refine sw_iconst (np := 23) dX4_grow_22 sw_ic_0 rfl ?_
  refine sw_bipush (np := 25) dX4_grow_23 sw_bc_99 rfl ?_
  refine sw_cT3i (np := 28) (hX8_heldWithin (d := d - 1) (by omega) ) sw_ms_X8_heldWithin sw_wn_RX4_124 dX4_grow_25 (sw_fit_rm (by omega) (by decide)) (Nat.le_of_ble_eq_true rfl) rfl (fun r1 S1 => ?_)
  refine sw_sI (np := 29) (sw_kd_4_8 ho) (sw_ln_4_8 ho) dX4_grow_28 rfl (fun S2 => ?_)
  exact sw_vret dX4_grow_29
/-- SwordAttic$Night.passHour(LSwordAttic$Law;I)V -/
def fX4_passHour (N : Nat) (o : Nat) (o1 : Nat) (p2 : Int32) (S : sw_St) : Option (Unit × sw_St) :=
  sw_bd (fX4_awakeCots N o S) (fun r1 S1 => (sw_fx1 (fun rec1 x4_1 S2 => (if x4_1 ≥ (S2.1 o 0) then (sw_fx1 (fun rec2 x4_2 S3 => (if x4_2 ≥ (S3.1 o 0) then (sw_ls (sw_si S3 o 1 (((S3.1 o 1) + (1 : Int32)) - ((S3.1 o 1) + (1 : Int32)) / (12 : Int32) * (12 : Int32))) (fun S4 => (some ((), S4)))) else (sw_gd (sw_in x4_2 10) (sw_bd (fX4_grow N o x4_2 (S3.1 (o + 7) x4_2.toNatClampNeg) S3) (fun _ S5 => (rec2 (x4_2 + (1 : Int32)) S5)))))) N (0 : Int32) S2) else (sw_gd (sw_in x4_1 10) (if (S2.1 (o + 1) x4_1.toNatClampNeg) = p2 then (sw_bd (fX4_growth N o o1 x4_1 r1 (1 : Int32) S2) (fun r4 S8 => (sw_gd (sw_in x4_1 10) (sw_ls (sw_si S8 (o + 7) x4_1.toNatClampNeg r4) (fun S9 => (rec1 (x4_1 + (1 : Int32)) S9)))))) else (sw_bd (fX4_growth N o o1 x4_1 r1 (0 : Int32) S2) (fun r3 S6 => (sw_gd (sw_in x4_1 10) (sw_ls (sw_si S6 (o + 7) x4_1.toNatClampNeg r3) (fun S7 => (rec1 (x4_1 + (1 : Int32)) S7)))))))))) N (0 : Int32) S1))
theorem hX4_passHour {G : sw_G} {N d : Nat} (hd : 5 ≤ d) {o : Nat} {o1 : Nat} {p2 : Int32} (ho : sw_kd o = 4) (ho1 : sw_kd o1 = 3) {S : sw_St} : sw_Ev G yX4_passHour cX4_passHour 5 none d sw_ev [sw_vr G o, sw_vr G o1, .int p2] S (fX4_passHour N o o1 p2 S) := by
  refine sw_Ev_of (own := RX4) (lv0 := [some (sw_vr G o), some (sw_vr G o1), some (.int p2), none, none]) (by decide) rfl (Nat.le_of_ble_eq_true rfl) rfl ?_
  unfold fX4_passHour
  refine sw_ald_5_0 (np := 1) dX4_passHour_0 rfl ?_
  refine sw_cV0i (np := 4) (hX4_awakeCots (d := d - 1) (by omega) ho) sw_mv_X4_awakeCots ho sw_wl_RX4_115 dX4_passHour_1 (sw_fit_rm (by omega) (by decide)) (Nat.le_of_ble_eq_true rfl) rfl (fun r1 S1 => ?_)
  refine sw_ist_5_3 (np := 5) dX4_passHour_4 rfl rfl ?_
  refine sw_iconst (np := 6) dX4_passHour_5 sw_ic_0 rfl ?_
  refine sw_ist_5_4 (np := 8) dX4_passHour_6 rfl rfl ?_
  refine sw_lp1 (lv := fun x4_1 => [some (sw_vr G o), some (sw_vr G o1), some (.int p2), some (.int r1), some (.int x4_1)]) (fun rec1 hrec1 x4_1 S2 => ?_) _ _ _
  refine sw_ild_5_4 (np := 10) dX4_passHour_8 rfl ?_
  refine sw_ald_5_0 (np := 11) dX4_passHour_10 rfl ?_
  refine sw_gI (np := 14) sw_f_RX4_9 ho dX4_passHour_11 rfl ?_
  refine sw_icmp_ge (np := 17) (tp := 54) dX4_passHour_14 rfl rfl ?_ ?_
  · refine sw_iconst (np := 55) dX4_passHour_54 sw_ic_0 rfl ?_
    refine sw_ist_5_4 (np := 57) dX4_passHour_55 rfl rfl ?_
    refine sw_dr_5_1 ?_
    refine sw_dr_5_2 ?_
    refine sw_dr_5_3 ?_
    refine sw_lp1 (lv := fun x4_2 => [some (sw_vr G o), none, none, none, some (.int x4_2)]) (fun rec2 hrec2 x4_2 S3 => ?_) _ _ _
    refine sw_ild_5_4 (np := 59) dX4_passHour_57 rfl ?_
    refine sw_ald_5_0 (np := 60) dX4_passHour_59 rfl ?_
    refine sw_gI (np := 63) sw_f_RX4_9 ho dX4_passHour_60 rfl ?_
    refine sw_icmp_ge (np := 66) (tp := 85) dX4_passHour_63 rfl rfl ?_ ?_
    · refine sw_ald_5_0 (np := 86) dX4_passHour_85 rfl ?_
      refine sw_ald_5_0 (np := 87) dX4_passHour_86 rfl ?_
      refine sw_gI (np := 90) sw_f_RX4_15 ho dX4_passHour_87 rfl ?_
      refine sw_iconst (np := 91) dX4_passHour_90 sw_ic_1 rfl ?_
      refine sw_iadd (np := 92) dX4_passHour_91 rfl ?_
      refine sw_bipush (np := 94) dX4_passHour_92 sw_bc_12 rfl ?_
      refine sw_irem (np := 95) dX4_passHour_94 (by decide) rfl ?_
      refine sw_pI (np := 98) sw_f_RX4_15 sw_fp_4_1 ho dX4_passHour_95 rfl (fun S4 => ?_)
      exact sw_vret dX4_passHour_98
    · refine sw_ald_5_0 (np := 67) dX4_passHour_66 rfl ?_
      refine sw_ild_5_4 (np := 69) dX4_passHour_67 rfl ?_
      refine sw_ald_5_0 (np := 70) dX4_passHour_69 rfl ?_
      refine sw_gR (np := 73) sw_f_RX4_46 ho (sw_rf_4_11 ho) dX4_passHour_70 rfl ?_
      refine sw_ild_5_4 (np := 75) dX4_passHour_73 rfl ?_
      refine sw_iald (np := 76) (sw_kd_4_11 ho) (sw_ln_4_11 ho) dX4_passHour_75 rfl ?_
      refine sw_cV2v (np := 79) (hX4_grow (d := d - 1) (by omega) ho) sw_mv_X4_grow ho sw_wl_RX4_121 dX4_passHour_76 (sw_fit_rm (by omega) (by decide)) (Nat.le_of_ble_eq_true rfl) rfl (fun _ S5 => ?_)
      refine sw_inc_5_4 (np := 82) dX4_passHour_79 sw_ic_1 rfl rfl ?_
      refine sw_goto (tp := 57) dX4_passHour_82 rfl ?_
      exact hrec2 _ _
  · refine sw_ald_5_0 (np := 18) dX4_passHour_17 rfl ?_
    refine sw_gR (np := 21) sw_f_RX4_46 ho (sw_rf_4_11 ho) dX4_passHour_18 rfl ?_
    refine sw_ild_5_4 (np := 23) dX4_passHour_21 rfl ?_
    refine sw_ald_5_0 (np := 24) dX4_passHour_23 rfl ?_
    refine sw_ald_5_1 (np := 25) dX4_passHour_24 rfl ?_
    refine sw_ild_5_4 (np := 27) dX4_passHour_25 rfl ?_
    refine sw_ild_5_3 (np := 28) dX4_passHour_27 rfl ?_
    refine sw_ald_5_0 (np := 29) dX4_passHour_28 rfl ?_
    refine sw_gR (np := 32) sw_f_RX4_27 ho (sw_rf_4_5 ho) dX4_passHour_29 rfl ?_
    refine sw_ild_5_4 (np := 34) dX4_passHour_32 rfl ?_
    refine sw_iald (np := 35) (sw_kd_4_5 ho) (sw_ln_4_5 ho) dX4_passHour_34 rfl ?_
    refine sw_ild_5_2 (np := 36) dX4_passHour_35 rfl ?_
    refine sw_icmp_ne (np := 39) (tp := 43) dX4_passHour_36 rfl rfl ?_ ?_
    · refine sw_iconst (np := 44) dX4_passHour_43 sw_ic_0 rfl ?_
      refine sw_cV4i (np := 47) (hX4_growth (d := d - 1) (by omega) ho ho1) sw_mv_X4_growth ho sw_wl_RX4_118 dX4_passHour_44 (sw_fit_rm (by omega) (by decide)) (Nat.le_of_ble_eq_true rfl) rfl (fun r3 S6 => ?_)
      refine sw_sI (np := 48) (sw_kd_4_11 ho) (sw_ln_4_11 ho) dX4_passHour_47 rfl (fun S7 => ?_)
      refine sw_inc_5_4 (np := 51) dX4_passHour_48 sw_ic_1 rfl rfl ?_
      refine sw_goto (tp := 8) dX4_passHour_51 rfl ?_
      exact hrec1 _ _
    · refine sw_iconst (np := 40) dX4_passHour_39 sw_ic_1 rfl ?_
      refine sw_goto (tp := 44) dX4_passHour_40 rfl ?_
      refine sw_cV4i (np := 47) (hX4_growth (d := d - 1) (by omega) ho ho1) sw_mv_X4_growth ho sw_wl_RX4_118 dX4_passHour_44 (sw_fit_rm (by omega) (by decide)) (Nat.le_of_ble_eq_true rfl) rfl (fun r4 S8 => ?_)
      refine sw_sI (np := 48) (sw_kd_4_11 ho) (sw_ln_4_11 ho) dX4_passHour_47 rfl (fun S9 => ?_)
      refine sw_inc_5_4 (np := 51) dX4_passHour_48 sw_ic_1 rfl rfl ?_
      refine sw_goto (tp := 8) dX4_passHour_51 rfl ?_
      exact hrec1 _ _
/-- SwordAttic$Night.foresee(LSwordAttic$Law;)V -/
def fX4_foresee (N : Nat) (o : Nat) (o1 : Nat) (S : sw_St) : Option (Unit × sw_St) :=
  sw_bd (fX4_awakeCots N o S) (fun r1 S1 => (sw_fx1 (fun rec1 x3_1 S2 => (if x3_1 ≥ (S2.1 o 0) then (some ((), S2)) else (sw_bd (fX4_growth N o o1 x3_1 r1 (0 : Int32) S2) (fun r2 S3 => (sw_gd (sw_in x3_1 10) (sw_ls (sw_si S3 (o + 7) x3_1.toNatClampNeg r2) (fun S4 => (sw_bd (fX4_growth N o o1 x3_1 r1 (1 : Int32) S4) (fun r3 S5 => (sw_gd (sw_in x3_1 10) (sw_ls (sw_si S5 (o + 8) x3_1.toNatClampNeg r3) (fun S6 => (rec1 (x3_1 + (1 : Int32)) S6))))))))))))) N (0 : Int32) S1))
theorem hX4_foresee {G : sw_G} {N d : Nat} (hd : 5 ≤ d) {o : Nat} {o1 : Nat} (ho : sw_kd o = 4) (ho1 : sw_kd o1 = 3) {S : sw_St} : sw_Ev G yX4_foresee cX4_foresee 4 none d sw_ev [sw_vr G o, sw_vr G o1] S (fX4_foresee N o o1 S) := by
  refine sw_Ev_of (own := RX4) (lv0 := [some (sw_vr G o), some (sw_vr G o1), none, none]) (by decide) rfl (Nat.le_of_ble_eq_true rfl) rfl ?_
  unfold fX4_foresee
  refine sw_ald_4_0 (np := 1) dX4_foresee_0 rfl ?_
  refine sw_cV0i (np := 4) (hX4_awakeCots (d := d - 1) (by omega) ho) sw_mv_X4_awakeCots ho sw_wl_RX4_115 dX4_foresee_1 (sw_fit_rm (by omega) (by decide)) (Nat.le_of_ble_eq_true rfl) rfl (fun r1 S1 => ?_)
  refine sw_ist_4_2 (np := 5) dX4_foresee_4 rfl rfl ?_
  refine sw_iconst (np := 6) dX4_foresee_5 sw_ic_0 rfl ?_
  refine sw_ist_4_3 (np := 7) dX4_foresee_6 rfl rfl ?_
  refine sw_lp1 (lv := fun x3_1 => [some (sw_vr G o), some (sw_vr G o1), some (.int r1), some (.int x3_1)]) (fun rec1 hrec1 x3_1 S2 => ?_) _ _ _
  refine sw_ild_4_3 (np := 8) dX4_foresee_7 rfl ?_
  refine sw_ald_4_0 (np := 9) dX4_foresee_8 rfl ?_
  refine sw_gI (np := 12) sw_f_RX4_9 ho dX4_foresee_9 rfl ?_
  refine sw_icmp_ge (np := 15) (tp := 49) dX4_foresee_12 rfl rfl ?_ ?_
  · exact sw_vret dX4_foresee_49
  · refine sw_ald_4_0 (np := 16) dX4_foresee_15 rfl ?_
    refine sw_gR (np := 19) sw_f_RX4_46 ho (sw_rf_4_11 ho) dX4_foresee_16 rfl ?_
    refine sw_ild_4_3 (np := 20) dX4_foresee_19 rfl ?_
    refine sw_ald_4_0 (np := 21) dX4_foresee_20 rfl ?_
    refine sw_ald_4_1 (np := 22) dX4_foresee_21 rfl ?_
    refine sw_ild_4_3 (np := 23) dX4_foresee_22 rfl ?_
    refine sw_ild_4_2 (np := 24) dX4_foresee_23 rfl ?_
    refine sw_iconst (np := 25) dX4_foresee_24 sw_ic_0 rfl ?_
    refine sw_cV4i (np := 28) (hX4_growth (d := d - 1) (by omega) ho ho1) sw_mv_X4_growth ho sw_wl_RX4_118 dX4_foresee_25 (sw_fit_rm (by omega) (by decide)) (Nat.le_of_ble_eq_true rfl) rfl (fun r2 S3 => ?_)
    refine sw_sI (np := 29) (sw_kd_4_11 ho) (sw_ln_4_11 ho) dX4_foresee_28 rfl (fun S4 => ?_)
    refine sw_ald_4_0 (np := 30) dX4_foresee_29 rfl ?_
    refine sw_gR (np := 33) sw_f_RX4_49 ho (sw_rf_4_12 ho) dX4_foresee_30 rfl ?_
    refine sw_ild_4_3 (np := 34) dX4_foresee_33 rfl ?_
    refine sw_ald_4_0 (np := 35) dX4_foresee_34 rfl ?_
    refine sw_ald_4_1 (np := 36) dX4_foresee_35 rfl ?_
    refine sw_ild_4_3 (np := 37) dX4_foresee_36 rfl ?_
    refine sw_ild_4_2 (np := 38) dX4_foresee_37 rfl ?_
    refine sw_iconst (np := 39) dX4_foresee_38 sw_ic_1 rfl ?_
    refine sw_cV4i (np := 42) (hX4_growth (d := d - 1) (by omega) ho ho1) sw_mv_X4_growth ho sw_wl_RX4_118 dX4_foresee_39 (sw_fit_rm (by omega) (by decide)) (Nat.le_of_ble_eq_true rfl) rfl (fun r3 S5 => ?_)
    refine sw_sI (np := 43) (sw_kd_4_12 ho) (sw_ln_4_12 ho) dX4_foresee_42 rfl (fun S6 => ?_)
    refine sw_inc_4_3 (np := 46) dX4_foresee_43 sw_ic_1 rfl rfl ?_
    refine sw_goto (tp := 7) dX4_foresee_46 rfl ?_
    exact hrec1 _ _
/-- SwordAttic$Night.passHourBehind(LSwordAttic$Night;I)V -/
def fX4_passHourBehind (N : Nat) (o : Nat) (o1 : Nat) (p2 : Int32) (S : sw_St) : Option (Unit × sw_St) :=
  sw_bd (fX4_becomeInMind N o o1 S) (fun _ S1 => (sw_fx1 (fun rec1 x3_1 S2 => (if x3_1 ≥ (S2.1 o 0) then (sw_ls (sw_si S2 o 1 (((S2.1 o 1) + (1 : Int32)) - ((S2.1 o 1) + (1 : Int32)) / (12 : Int32) * (12 : Int32))) (fun S3 => (some ((), S3)))) else (sw_gd (sw_in x3_1 10) (if (S2.1 (o + 1) x3_1.toNatClampNeg) = p2 then (sw_gd (sw_in x3_1 10) (sw_bd (fX4_grow N o x3_1 (S2.1 (o1 + 8) x3_1.toNatClampNeg) S2) (fun _ S5 => (rec1 (x3_1 + (1 : Int32)) S5)))) else (sw_gd (sw_in x3_1 10) (sw_bd (fX4_grow N o x3_1 (S2.1 (o1 + 7) x3_1.toNatClampNeg) S2) (fun _ S4 => (rec1 (x3_1 + (1 : Int32)) S4)))))))) N (0 : Int32) S1))
theorem hX4_passHourBehind {G : sw_G} {N d : Nat} (hd : 3 ≤ d) {o : Nat} {o1 : Nat} {p2 : Int32} (ho : sw_kd o = 4) (ho1 : sw_kd o1 = 4) {S : sw_St} : sw_Ev G yX4_passHourBehind cX4_passHourBehind 4 none d sw_ev [sw_vr G o, sw_vr G o1, .int p2] S (fX4_passHourBehind N o o1 p2 S) := by
  refine sw_Ev_of (own := RX4) (lv0 := [some (sw_vr G o), some (sw_vr G o1), some (.int p2), none]) (by decide) rfl (Nat.le_of_ble_eq_true rfl) rfl ?_
  unfold fX4_passHourBehind
  refine sw_ald_4_0 (np := 1) dX4_passHourBehind_0 rfl ?_
  refine sw_ald_4_1 (np := 2) dX4_passHourBehind_1 rfl ?_
  refine sw_cV1v (np := 5) (hX4_becomeInMind (d := d - 1) (by omega) ho ho1) sw_mv_X4_becomeInMind ho sw_wl_RX4_61 dX4_passHourBehind_2 (sw_fit_rm (by omega) (by decide)) (Nat.le_of_ble_eq_true rfl) rfl (fun _ S1 => ?_)
  refine sw_iconst (np := 6) dX4_passHourBehind_5 sw_ic_0 rfl ?_
  refine sw_ist_4_3 (np := 7) dX4_passHourBehind_6 rfl rfl ?_
  refine sw_lp1 (lv := fun x3_1 => [some (sw_vr G o), some (sw_vr G o1), some (.int p2), some (.int x3_1)]) (fun rec1 hrec1 x3_1 S2 => ?_) _ _ _
  refine sw_ild_4_3 (np := 8) dX4_passHourBehind_7 rfl ?_
  refine sw_ald_4_0 (np := 9) dX4_passHourBehind_8 rfl ?_
  refine sw_gI (np := 12) sw_f_RX4_9 ho dX4_passHourBehind_9 rfl ?_
  refine sw_icmp_ge (np := 15) (tp := 51) dX4_passHourBehind_12 rfl rfl ?_ ?_
  · refine sw_ald_4_0 (np := 52) dX4_passHourBehind_51 rfl ?_
    refine sw_ald_4_0 (np := 53) dX4_passHourBehind_52 rfl ?_
    refine sw_gI (np := 56) sw_f_RX4_15 ho dX4_passHourBehind_53 rfl ?_
    refine sw_iconst (np := 57) dX4_passHourBehind_56 sw_ic_1 rfl ?_
    refine sw_iadd (np := 58) dX4_passHourBehind_57 rfl ?_
    refine sw_bipush (np := 60) dX4_passHourBehind_58 sw_bc_12 rfl ?_
    refine sw_irem (np := 61) dX4_passHourBehind_60 (by decide) rfl ?_
    refine sw_pI (np := 64) sw_f_RX4_15 sw_fp_4_1 ho dX4_passHourBehind_61 rfl (fun S3 => ?_)
    exact sw_vret dX4_passHourBehind_64
  · refine sw_ald_4_0 (np := 16) dX4_passHourBehind_15 rfl ?_
    refine sw_ild_4_3 (np := 17) dX4_passHourBehind_16 rfl ?_
    refine sw_ald_4_0 (np := 18) dX4_passHourBehind_17 rfl ?_
    refine sw_gR (np := 21) sw_f_RX4_27 ho (sw_rf_4_5 ho) dX4_passHourBehind_18 rfl ?_
    refine sw_ild_4_3 (np := 22) dX4_passHourBehind_21 rfl ?_
    refine sw_iald (np := 23) (sw_kd_4_5 ho) (sw_ln_4_5 ho) dX4_passHourBehind_22 rfl ?_
    refine sw_ild_4_2 (np := 24) dX4_passHourBehind_23 rfl ?_
    refine sw_icmp_ne (np := 27) (tp := 36) dX4_passHourBehind_24 rfl rfl ?_ ?_
    · refine sw_ald_4_1 (np := 37) dX4_passHourBehind_36 rfl ?_
      refine sw_gR (np := 40) sw_f_RX4_46 ho1 (sw_rf_4_11 ho1) dX4_passHourBehind_37 rfl ?_
      refine sw_ild_4_3 (np := 41) dX4_passHourBehind_40 rfl ?_
      refine sw_iald (np := 42) (sw_kd_4_11 ho1) (sw_ln_4_11 ho1) dX4_passHourBehind_41 rfl ?_
      refine sw_cV2v (np := 45) (hX4_grow (d := d - 1) (by omega) ho) sw_mv_X4_grow ho sw_wl_RX4_121 dX4_passHourBehind_42 (sw_fit_rm (by omega) (by decide)) (Nat.le_of_ble_eq_true rfl) rfl (fun _ S4 => ?_)
      refine sw_inc_4_3 (np := 48) dX4_passHourBehind_45 sw_ic_1 rfl rfl ?_
      refine sw_goto (tp := 7) dX4_passHourBehind_48 rfl ?_
      exact hrec1 _ _
    · refine sw_ald_4_1 (np := 28) dX4_passHourBehind_27 rfl ?_
      refine sw_gR (np := 31) sw_f_RX4_49 ho1 (sw_rf_4_12 ho1) dX4_passHourBehind_28 rfl ?_
      refine sw_ild_4_3 (np := 32) dX4_passHourBehind_31 rfl ?_
      refine sw_iald (np := 33) (sw_kd_4_12 ho1) (sw_ln_4_12 ho1) dX4_passHourBehind_32 rfl ?_
      refine sw_goto (tp := 42) dX4_passHourBehind_33 rfl ?_
      refine sw_cV2v (np := 45) (hX4_grow (d := d - 1) (by omega) ho) sw_mv_X4_grow ho sw_wl_RX4_121 dX4_passHourBehind_42 (sw_fit_rm (by omega) (by decide)) (Nat.le_of_ble_eq_true rfl) rfl (fun _ S5 => ?_)
      refine sw_inc_4_3 (np := 48) dX4_passHourBehind_45 sw_ic_1 rfl rfl ?_
      refine sw_goto (tp := 7) dX4_passHourBehind_48 rfl ?_
      exact hrec1 _ _
/-- SwordAttic$Night.tellAt(II)V -/
def fX4_tellAt (N : Nat) (o : Nat) (p1 : Int32) (p2 : Int32) (S : sw_St) : Option (Unit × sw_St) :=
  sw_gd (sw_in p1 12) (sw_li (S.1 (o + 6) p1.toNatClampNeg) (fun x3_1 => (if x3_1 ≥ 0 then (sw_gd (sw_in x3_1 10) (if (S.1 (o + 2) x3_1.toNatClampNeg) > p2 then (sw_gd (sw_in x3_1 10) (sw_li ((S.1 (o + 4) x3_1.toNatClampNeg) + p2) (fun x4_1 => (sw_bd (fX8_heldWithin N x4_1 (0 : Int32) (99 : Int32) S) (fun r1 S1 => (sw_gd (sw_in x3_1 10) (sw_ls (sw_si S1 (o + 4) x3_1.toNatClampNeg r1) (fun S2 => (some ((), S2)))))))))) else (sw_gd (sw_in x3_1 10) (sw_li ((S.1 (o + 4) x3_1.toNatClampNeg) - ((2 : Int32) * p2)) (fun x4_2 => (sw_bd (fX8_heldWithin N x4_2 (0 : Int32) (99 : Int32) S) (fun r2 S3 => (sw_gd (sw_in x3_1 10) (sw_ls (sw_si S3 (o + 4) x3_1.toNatClampNeg r2) (fun S4 => (some ((), S4)))))))))))) else (some ((), S)))))
theorem hX4_tellAt {G : sw_G} {N d : Nat} (hd : 2 ≤ d) {o : Nat} {p1 : Int32} {p2 : Int32} (ho : sw_kd o = 4) {S : sw_St} : sw_Ev G yX4_tellAt cX4_tellAt 5 none d sw_ev [sw_vr G o, .int p1, .int p2] S (fX4_tellAt N o p1 p2 S) := by
  refine sw_Ev_of (own := RX4) (lv0 := [some (sw_vr G o), some (.int p1), some (.int p2), none, none]) (by decide) rfl (Nat.le_of_ble_eq_true rfl) rfl ?_
  unfold fX4_tellAt
  refine sw_ald_5_0 (np := 1) dX4_tellAt_0 rfl ?_
  refine sw_gR (np := 4) sw_f_RX4_43 ho (sw_rf_4_10 ho) dX4_tellAt_1 rfl ?_
  refine sw_ild_5_1 (np := 5) dX4_tellAt_4 rfl ?_
  refine sw_iald (np := 6) (sw_kd_4_10 ho) (sw_ln_4_10 ho) dX4_tellAt_5 rfl ?_
  refine sw_isl_5_3 (np := 7) dX4_tellAt_6 rfl rfl (fun x3_1 => ?_)
  refine sw_ild_5_3 (np := 8) dX4_tellAt_7 rfl ?_
  refine sw_if_ge (np := 11) (tp := 12) dX4_tellAt_8 rfl rfl ?_ ?_
  · refine sw_ald_5_0 (np := 13) dX4_tellAt_12 rfl ?_
    refine sw_gR (np := 16) sw_f_RX4_31 ho (sw_rf_4_6 ho) dX4_tellAt_13 rfl ?_
    refine sw_ild_5_3 (np := 17) dX4_tellAt_16 rfl ?_
    refine sw_iald (np := 18) (sw_kd_4_6 ho) (sw_ln_4_6 ho) dX4_tellAt_17 rfl ?_
    refine sw_ild_5_2 (np := 19) dX4_tellAt_18 rfl ?_
    refine sw_icmp_gt (np := 22) (tp := 35) dX4_tellAt_19 rfl rfl ?_ ?_
    · refine sw_ald_5_0 (np := 36) dX4_tellAt_35 rfl ?_
      refine sw_gR (np := 39) sw_f_RX4_37 ho (sw_rf_4_8 ho) dX4_tellAt_36 rfl ?_
      refine sw_ild_5_3 (np := 40) dX4_tellAt_39 rfl ?_
      refine sw_iald (np := 41) (sw_kd_4_8 ho) (sw_ln_4_8 ho) dX4_tellAt_40 rfl ?_
      refine sw_ild_5_2 (np := 42) dX4_tellAt_41 rfl ?_
      refine sw_iadd (np := 43) dX4_tellAt_42 rfl ?_
      refine sw_isl_5_4 (np := 45) dX4_tellAt_43 rfl rfl (fun x4_1 => ?_)
      refine sw_ald_5_0 (np := 46) dX4_tellAt_45 rfl ?_
      refine sw_gR (np := 49) sw_f_RX4_37 ho (sw_rf_4_8 ho) dX4_tellAt_46 rfl ?_
      refine sw_ild_5_3 (np := 50) dX4_tellAt_49 rfl ?_
      refine sw_ild_5_4 (np := 52) dX4_tellAt_50 rfl ?_
      refine sw_iconst (np := 53) dX4_tellAt_52 sw_ic_0 rfl ?_
      refine sw_bipush (np := 55) dX4_tellAt_53 sw_bc_99 rfl ?_
      refine sw_cT3i (np := 58) (hX8_heldWithin (d := d - 1) (by omega) ) sw_ms_X8_heldWithin sw_wn_RX4_124 dX4_tellAt_55 (sw_fit_rm (by omega) (by decide)) (Nat.le_of_ble_eq_true rfl) rfl (fun r1 S1 => ?_)
      refine sw_sI (np := 59) (sw_kd_4_8 ho) (sw_ln_4_8 ho) dX4_tellAt_58 rfl (fun S2 => ?_)
      exact sw_vret dX4_tellAt_59
    · refine sw_ald_5_0 (np := 23) dX4_tellAt_22 rfl ?_
      refine sw_gR (np := 26) sw_f_RX4_37 ho (sw_rf_4_8 ho) dX4_tellAt_23 rfl ?_
      refine sw_ild_5_3 (np := 27) dX4_tellAt_26 rfl ?_
      refine sw_iald (np := 28) (sw_kd_4_8 ho) (sw_ln_4_8 ho) dX4_tellAt_27 rfl ?_
      refine sw_iconst (np := 29) dX4_tellAt_28 sw_ic_2 rfl ?_
      refine sw_ild_5_2 (np := 30) dX4_tellAt_29 rfl ?_
      refine sw_imul (np := 31) dX4_tellAt_30 rfl ?_
      refine sw_isub (np := 32) dX4_tellAt_31 rfl ?_
      refine sw_goto (tp := 43) dX4_tellAt_32 rfl ?_
      refine sw_isl_5_4 (np := 45) dX4_tellAt_43 rfl rfl (fun x4_2 => ?_)
      refine sw_ald_5_0 (np := 46) dX4_tellAt_45 rfl ?_
      refine sw_gR (np := 49) sw_f_RX4_37 ho (sw_rf_4_8 ho) dX4_tellAt_46 rfl ?_
      refine sw_ild_5_3 (np := 50) dX4_tellAt_49 rfl ?_
      refine sw_ild_5_4 (np := 52) dX4_tellAt_50 rfl ?_
      refine sw_iconst (np := 53) dX4_tellAt_52 sw_ic_0 rfl ?_
      refine sw_bipush (np := 55) dX4_tellAt_53 sw_bc_99 rfl ?_
      refine sw_cT3i (np := 58) (hX8_heldWithin (d := d - 1) (by omega) ) sw_ms_X8_heldWithin sw_wn_RX4_124 dX4_tellAt_55 (sw_fit_rm (by omega) (by decide)) (Nat.le_of_ble_eq_true rfl) rfl (fun r2 S3 => ?_)
      refine sw_sI (np := 59) (sw_kd_4_8 ho) (sw_ln_4_8 ho) dX4_tellAt_58 rfl (fun S4 => ?_)
      exact sw_vret dX4_tellAt_59
  · exact sw_vret dX4_tellAt_11
/-- SwordAttic$Night.isWokenByTouch(I)Z -/
def fX4_isWokenByTouch (N : Nat) (o : Nat) (p1 : Int32) (S : sw_St) : Option (Int32 × sw_St) :=
  sw_bd (fX4_isAwake N o p1 S) (fun r1 S1 => (sw_gd (sw_in p1 10) (sw_gd (sw_in p1 10) (sw_ls (sw_si S1 (o + 4) p1.toNatClampNeg (sw_mn (99 : Int32) ((S1.1 (o + 4) p1.toNatClampNeg) + (15 : Int32)))) (fun S2 => (sw_jn1 (fun y1 S3 => (if y1 = 0 then (sw_ls (sw_si S3 o 4 ((S3.1 o 4) ||| (0 : Int32))) (fun S4 => (some (vp_nar .boolean y1, S4)))) else (sw_ls (sw_si S3 o 4 ((S3.1 o 4) ||| ((1 : Int32) <<< (p1 &&& 31)))) (fun S5 => (some (vp_nar .boolean y1, S5)))))) (fun k1 => (if r1 = 0 then (sw_bd (fX4_isAwake N o p1 S2) (fun r2 S6 => (if r2 = 0 then (k1 (0 : Int32) S6) else (k1 (1 : Int32) S6)))) else (k1 (0 : Int32) S2)))))))))
theorem hX4_isWokenByTouch {G : sw_G} {N d : Nat} (hd : 2 ≤ d) {o : Nat} {p1 : Int32} (ho : sw_kd o = 4) {S : sw_St} : sw_Ev G yX4_isWokenByTouch cX4_isWokenByTouch 4 (some .boolean) d sw_ei [sw_vr G o, .int p1] S (fX4_isWokenByTouch N o p1 S) := by
  refine sw_Ev_of (own := RX4) (lv0 := [some (sw_vr G o), some (.int p1), none, none]) (by decide) rfl (Nat.le_of_ble_eq_true rfl) rfl ?_
  unfold fX4_isWokenByTouch
  refine sw_ald_4_0 (np := 1) dX4_isWokenByTouch_0 rfl ?_
  refine sw_ild_4_1 (np := 2) dX4_isWokenByTouch_1 rfl ?_
  refine sw_cV1i (np := 5) (hX4_isAwake (d := d - 1) (by omega) ho) sw_mv_X4_isAwake ho sw_wl_RX4_94 dX4_isWokenByTouch_2 (sw_fit_rm (by omega) (by decide)) (Nat.le_of_ble_eq_true rfl) rfl (fun r1 S1 => ?_)
  refine sw_ist_4_2 (np := 6) dX4_isWokenByTouch_5 rfl rfl ?_
  refine sw_ald_4_0 (np := 7) dX4_isWokenByTouch_6 rfl ?_
  refine sw_gR (np := 10) sw_f_RX4_37 ho (sw_rf_4_8 ho) dX4_isWokenByTouch_7 rfl ?_
  refine sw_ild_4_1 (np := 11) dX4_isWokenByTouch_10 rfl ?_
  refine sw_bipush (np := 13) dX4_isWokenByTouch_11 sw_bc_99 rfl ?_
  refine sw_ald_4_0 (np := 14) dX4_isWokenByTouch_13 rfl ?_
  refine sw_gR (np := 17) sw_f_RX4_37 ho (sw_rf_4_8 ho) dX4_isWokenByTouch_14 rfl ?_
  refine sw_ild_4_1 (np := 18) dX4_isWokenByTouch_17 rfl ?_
  refine sw_iald (np := 19) (sw_kd_4_8 ho) (sw_ln_4_8 ho) dX4_isWokenByTouch_18 rfl ?_
  refine sw_bipush (np := 21) dX4_isWokenByTouch_19 sw_bc_15 rfl ?_
  refine sw_iadd (np := 22) dX4_isWokenByTouch_21 rfl ?_
  refine sw_mmin (np := 25) sw_mth_min sw_wm_RX4_130 (by show 1 ≤ d; omega) (sw_room (by omega) (Nat.le_of_ble_eq_true rfl)) (Nat.zero_le _) (Nat.zero_le _) dX4_isWokenByTouch_22 rfl ?_
  refine sw_sI (np := 26) (sw_kd_4_8 ho) (sw_ln_4_8 ho) dX4_isWokenByTouch_25 rfl (fun S2 => ?_)
  refine sw_ild_4_2 (np := 27) dX4_isWokenByTouch_26 rfl ?_
  refine sw_jm1 (pj := 43) (fun y1 => [some (sw_vr G o), some (.int p1), none, none]) (fun y1 => [.int y1]) (fun y1 S3 => ?_) (fun k1 hk1 => ?_)
  · refine sw_ist_4_3 (np := 44) dX4_isWokenByTouch_43 rfl rfl ?_
    refine sw_ald_4_0 (np := 45) dX4_isWokenByTouch_44 rfl ?_
    refine sw_dup (np := 46) dX4_isWokenByTouch_45 rfl rfl ?_
    refine sw_gI (np := 49) sw_f_RX4_24 ho dX4_isWokenByTouch_46 rfl ?_
    refine sw_ild_4_3 (np := 50) dX4_isWokenByTouch_49 rfl ?_
    refine sw_if_eq (np := 53) (tp := 59) dX4_isWokenByTouch_50 rfl rfl ?_ ?_
    · refine sw_iconst (np := 60) dX4_isWokenByTouch_59 sw_ic_0 rfl ?_
      refine sw_ior (np := 61) dX4_isWokenByTouch_60 rfl ?_
      refine sw_pI (np := 64) sw_f_RX4_24 sw_fp_4_4 ho dX4_isWokenByTouch_61 rfl (fun S4 => ?_)
      refine sw_ild_4_3 (np := 65) dX4_isWokenByTouch_64 rfl ?_
      exact sw_zret dX4_isWokenByTouch_65
    · refine sw_iconst (np := 54) dX4_isWokenByTouch_53 sw_ic_1 rfl ?_
      refine sw_ild_4_1 (np := 55) dX4_isWokenByTouch_54 rfl ?_
      refine sw_ishl (np := 56) dX4_isWokenByTouch_55 rfl ?_
      refine sw_goto (tp := 60) dX4_isWokenByTouch_56 rfl ?_
      refine sw_ior (np := 61) dX4_isWokenByTouch_60 rfl ?_
      refine sw_pI (np := 64) sw_f_RX4_24 sw_fp_4_4 ho dX4_isWokenByTouch_61 rfl (fun S5 => ?_)
      refine sw_ild_4_3 (np := 65) dX4_isWokenByTouch_64 rfl ?_
      exact sw_zret dX4_isWokenByTouch_65
  · refine sw_if_ne (np := 30) (tp := 42) dX4_isWokenByTouch_27 rfl rfl ?_ ?_
    · refine sw_iconst (np := 43) dX4_isWokenByTouch_42 sw_ic_0 rfl ?_
      refine sw_dr_4_2 ?_
      exact hk1 _ _
    · refine sw_ald_4_0 (np := 31) dX4_isWokenByTouch_30 rfl ?_
      refine sw_ild_4_1 (np := 32) dX4_isWokenByTouch_31 rfl ?_
      refine sw_cV1i (np := 35) (hX4_isAwake (d := d - 1) (by omega) ho) sw_mv_X4_isAwake ho sw_wl_RX4_94 dX4_isWokenByTouch_32 (sw_fit_rm (by omega) (by decide)) (Nat.le_of_ble_eq_true rfl) rfl (fun r2 S6 => ?_)
      refine sw_if_eq (np := 38) (tp := 42) dX4_isWokenByTouch_35 rfl rfl ?_ ?_
      · refine sw_iconst (np := 43) dX4_isWokenByTouch_42 sw_ic_0 rfl ?_
        refine sw_dr_4_2 ?_
        exact hk1 _ _
      · refine sw_iconst (np := 39) dX4_isWokenByTouch_38 sw_ic_1 rfl ?_
        refine sw_goto (tp := 43) dX4_isWokenByTouch_39 rfl ?_
        refine sw_dr_4_2 ?_
        exact hk1 _ _
/-- SwordAttic$Night.touchFrom(I)I -/
def fX4_touchFrom (N : Nat) (o : Nat) (p1 : Int32) (S : sw_St) : Option (Int32 × sw_St) :=
  sw_ls (sw_si S o 4 (0 : Int32)) (fun S1 => (sw_li ((1 : Int32) <<< (p1 &&& 31)) (fun x3_1 => (sw_gd (sw_in p1 12) (sw_jn1 (fun x2_1 S2 => (sw_fx3 (fun rec1 x2_2 x3_2 x4_1 S3 => (if x4_1 ≥ x2_2 then (some (x2_2, S3)) else (if x4_1 ≥ (12 : Int32) then (some (x2_2, S3)) else (sw_gd (sw_in x4_1 12) (sw_li (S3.1 (o + 9) x4_1.toNatClampNeg) (fun x5_1 => (sw_gd (sw_in x5_1 12) (sw_bd (fX4_isWokenByTouch N o (S3.1 (o + 6) x5_1.toNatClampNeg) S3) (fun r1 S4 => (if r1 = 0 then (rec1 x2_2 x3_2 (x4_1 + (1 : Int32)) S4) else (sw_fx3 (fun rec2 x2_3 x3_3 x6_1 S5 => (if x6_1 ≥ (12 : Int32) then (rec1 x2_3 x3_3 (x4_1 + (1 : Int32)) S5) else (sw_gd (sw_in x5_1 12) (sw_jn1 (fun y1 S6 => (if y1 = 0 then (rec2 x2_3 x3_3 (x6_1 + (1 : Int32)) S6) else (sw_gd (sw_in x6_1 12) (if (S6.1 (o + 6) x6_1.toNatClampNeg) < 0 then (rec2 x2_3 x3_3 (x6_1 + (1 : Int32)) S6) else (if x2_3 ≥ (12 : Int32) then (rec2 x2_3 x3_3 (x6_1 + (1 : Int32)) S6) else (sw_gd (sw_in x2_3 12) (sw_ls (sw_si S6 (o + 9) x2_3.toNatClampNeg x6_1) (fun S7 => (sw_li (x3_3 ||| ((1 : Int32) <<< (x6_1 &&& 31))) (fun x3_4 => (rec2 (x2_3 + (1 : Int32)) x3_4 (x6_1 + (1 : Int32)) S7))))))))))) (fun k2 => (if ((((sw_tb 1).getD x5_1.toNatClampNeg 0) &&& (x3_3 ^^^ (-1 : Int32))) &&& ((1 : Int32) <<< (x6_1 &&& 31))) = 0 then (k2 (0 : Int32) S5) else (k2 (1 : Int32) S5))))))) N x2_2 x3_2 (0 : Int32) S4))))))))))) N x2_1 x3_1 (0 : Int32) S2)) (fun k1 => (if (S1.1 (o + 6) p1.toNatClampNeg) < 0 then (k1 (0 : Int32) S1) else (sw_gd (sw_in (0 : Int32) 12) (sw_ls (sw_si S1 (o + 9) (0 : Int32).toNatClampNeg p1) (fun S8 => (k1 ((0 : Int32) + (1 : Int32)) S8)))))))))))
theorem hX4_touchFrom {G : sw_G} {N d : Nat} (hd : 3 ≤ d) {o : Nat} {p1 : Int32} (ho : sw_kd o = 4) {S : sw_St} : sw_Ev G yX4_touchFrom cX4_touchFrom 8 (some .int) d sw_ei [sw_vr G o, .int p1] S (fX4_touchFrom N o p1 S) := by
  refine sw_Ev_of (own := RX4) (lv0 := [some (sw_vr G o), some (.int p1), none, none, none, none, none, none]) (by decide) rfl (Nat.le_of_ble_eq_true rfl) rfl ?_
  unfold fX4_touchFrom
  refine sw_ald_8_0 (np := 1) dX4_touchFrom_0 rfl ?_
  refine sw_iconst (np := 2) dX4_touchFrom_1 sw_ic_0 rfl ?_
  refine sw_pI (np := 5) sw_f_RX4_24 sw_fp_4_4 ho dX4_touchFrom_2 rfl (fun S1 => ?_)
  refine sw_iconst (np := 6) dX4_touchFrom_5 sw_ic_0 rfl ?_
  refine sw_ist_8_2 (np := 7) dX4_touchFrom_6 rfl rfl ?_
  refine sw_iconst (np := 8) dX4_touchFrom_7 sw_ic_1 rfl ?_
  refine sw_ild_8_1 (np := 9) dX4_touchFrom_8 rfl ?_
  refine sw_ishl (np := 10) dX4_touchFrom_9 rfl ?_
  refine sw_isl_8_3 (np := 11) dX4_touchFrom_10 rfl rfl (fun x3_1 => ?_)
  refine sw_ald_8_0 (np := 12) dX4_touchFrom_11 rfl ?_
  refine sw_gR (np := 15) sw_f_RX4_43 ho (sw_rf_4_10 ho) dX4_touchFrom_12 rfl ?_
  refine sw_ild_8_1 (np := 16) dX4_touchFrom_15 rfl ?_
  refine sw_iald (np := 17) (sw_kd_4_10 ho) (sw_ln_4_10 ho) dX4_touchFrom_16 rfl ?_
  refine sw_jm1 (pj := 30) (fun x2_1 => [some (sw_vr G o), none, some (.int x2_1), some (.int x3_1), none, none, none, none]) (fun x2_1 => []) (fun x2_1 S2 => ?_) (fun k1 hk1 => ?_)
  · refine sw_iconst (np := 31) dX4_touchFrom_30 sw_ic_0 rfl ?_
    refine sw_ist_8_4 (np := 33) dX4_touchFrom_31 rfl rfl ?_
    refine sw_lp3 (lv := fun x2_2 x3_2 x4_1 => [some (sw_vr G o), none, some (.int x2_2), some (.int x3_2), some (.int x4_1), none, none, none]) (fun rec1 hrec1 x2_2 x3_2 x4_1 S3 => ?_) _ _ _ _ _
    refine sw_ild_8_4 (np := 35) dX4_touchFrom_33 rfl ?_
    refine sw_ild_8_2 (np := 36) dX4_touchFrom_35 rfl ?_
    refine sw_icmp_ge (np := 39) (tp := 158) dX4_touchFrom_36 rfl rfl ?_ ?_
    · refine sw_ild_8_2 (np := 159) dX4_touchFrom_158 rfl ?_
      exact sw_iret dX4_touchFrom_159
    · refine sw_ild_8_4 (np := 41) dX4_touchFrom_39 rfl ?_
      refine sw_bipush (np := 43) dX4_touchFrom_41 sw_bc_12 rfl ?_
      refine sw_icmp_ge (np := 46) (tp := 158) dX4_touchFrom_43 rfl rfl ?_ ?_
      · refine sw_ild_8_2 (np := 159) dX4_touchFrom_158 rfl ?_
        exact sw_iret dX4_touchFrom_159
      · refine sw_ald_8_0 (np := 47) dX4_touchFrom_46 rfl ?_
        refine sw_gR (np := 50) sw_f_RX4_52 ho (sw_rf_4_13 ho) dX4_touchFrom_47 rfl ?_
        refine sw_ild_8_4 (np := 52) dX4_touchFrom_50 rfl ?_
        refine sw_iald (np := 53) (sw_kd_4_13 ho) (sw_ln_4_13 ho) dX4_touchFrom_52 rfl ?_
        refine sw_isl_8_5 (np := 55) dX4_touchFrom_53 rfl rfl (fun x5_1 => ?_)
        refine sw_ald_8_0 (np := 56) dX4_touchFrom_55 rfl ?_
        refine sw_ald_8_0 (np := 57) dX4_touchFrom_56 rfl ?_
        refine sw_gR (np := 60) sw_f_RX4_43 ho (sw_rf_4_10 ho) dX4_touchFrom_57 rfl ?_
        refine sw_ild_8_5 (np := 62) dX4_touchFrom_60 rfl ?_
        refine sw_iald (np := 63) (sw_kd_4_10 ho) (sw_ln_4_10 ho) dX4_touchFrom_62 rfl ?_
        refine sw_cV1i (np := 66) (hX4_isWokenByTouch (d := d - 1) (by omega) ho) sw_mv_X4_isWokenByTouch ho sw_wl_RX4_127 dX4_touchFrom_63 (sw_fit_rm (by omega) (by decide)) (Nat.le_of_ble_eq_true rfl) rfl (fun r1 S4 => ?_)
        refine sw_if_ne (np := 69) (tp := 72) dX4_touchFrom_66 rfl rfl ?_ ?_
        · refine sw_iconst (np := 73) dX4_touchFrom_72 sw_ic_0 rfl ?_
          refine sw_ist_8_6 (np := 75) dX4_touchFrom_73 rfl rfl ?_
          refine sw_lp3 (lv := fun x2_3 x3_3 x6_1 => [some (sw_vr G o), none, some (.int x2_3), some (.int x3_3), some (.int x4_1), some (.int x5_1), some (.int x6_1), none]) (fun rec2 hrec2 x2_3 x3_3 x6_1 S5 => ?_) _ _ _ _ _
          refine sw_ild_8_6 (np := 77) dX4_touchFrom_75 rfl ?_
          refine sw_bipush (np := 79) dX4_touchFrom_77 sw_bc_12 rfl ?_
          refine sw_icmp_ge (np := 82) (tp := 152) dX4_touchFrom_79 rfl rfl ?_ ?_
          · refine sw_inc_8_4 (np := 155) dX4_touchFrom_152 sw_ic_1 rfl rfl ?_
            refine sw_goto (tp := 33) dX4_touchFrom_155 rfl ?_
            refine sw_dr_8_5 ?_
            refine sw_dr_8_6 ?_
            exact hrec1 _ _ _ _
          · refine sw_getsN (np := 85) (fun _ _ h => sw_hs_1 h) rfl sw_wz_RX4_106 dX4_touchFrom_82 rfl ?_
            refine sw_ild_8_5 (np := 87) dX4_touchFrom_85 rfl ?_
            refine sw_tald (np := 88) (fun _ _ h => sw_hs_1 h) dX4_touchFrom_87 rfl ?_
            refine sw_ild_8_3 (np := 89) dX4_touchFrom_88 rfl ?_
            refine sw_iconst (np := 90) dX4_touchFrom_89 sw_ic_m1 rfl ?_
            refine sw_ixor (np := 91) dX4_touchFrom_90 rfl ?_
            refine sw_iand (np := 92) dX4_touchFrom_91 rfl ?_
            refine sw_iconst (np := 93) dX4_touchFrom_92 sw_ic_1 rfl ?_
            refine sw_ild_8_6 (np := 95) dX4_touchFrom_93 rfl ?_
            refine sw_ishl (np := 96) dX4_touchFrom_95 rfl ?_
            refine sw_iand (np := 97) dX4_touchFrom_96 rfl ?_
            refine sw_jm1 (pj := 105) (fun y1 => [some (sw_vr G o), none, some (.int x2_3), some (.int x3_3), some (.int x4_1), some (.int x5_1), some (.int x6_1), none]) (fun y1 => [.int y1]) (fun y1 S6 => ?_) (fun k2 hk2 => ?_)
            · refine sw_ist_8_7 (np := 107) dX4_touchFrom_105 rfl rfl ?_
              refine sw_ild_8_7 (np := 109) dX4_touchFrom_107 rfl ?_
              refine sw_if_eq (np := 112) (tp := 146) dX4_touchFrom_109 rfl rfl ?_ ?_
              · refine sw_inc_8_6 (np := 149) dX4_touchFrom_146 sw_ic_1 rfl rfl ?_
                refine sw_goto (tp := 75) dX4_touchFrom_149 rfl ?_
                refine sw_dr_8_7 ?_
                exact hrec2 _ _ _ _
              · refine sw_ald_8_0 (np := 113) dX4_touchFrom_112 rfl ?_
                refine sw_gR (np := 116) sw_f_RX4_43 ho (sw_rf_4_10 ho) dX4_touchFrom_113 rfl ?_
                refine sw_ild_8_6 (np := 118) dX4_touchFrom_116 rfl ?_
                refine sw_iald (np := 119) (sw_kd_4_10 ho) (sw_ln_4_10 ho) dX4_touchFrom_118 rfl ?_
                refine sw_if_lt (np := 122) (tp := 146) dX4_touchFrom_119 rfl rfl ?_ ?_
                · refine sw_inc_8_6 (np := 149) dX4_touchFrom_146 sw_ic_1 rfl rfl ?_
                  refine sw_goto (tp := 75) dX4_touchFrom_149 rfl ?_
                  refine sw_dr_8_7 ?_
                  exact hrec2 _ _ _ _
                · refine sw_ild_8_2 (np := 123) dX4_touchFrom_122 rfl ?_
                  refine sw_bipush (np := 125) dX4_touchFrom_123 sw_bc_12 rfl ?_
                  refine sw_icmp_ge (np := 128) (tp := 146) dX4_touchFrom_125 rfl rfl ?_ ?_
                  · refine sw_inc_8_6 (np := 149) dX4_touchFrom_146 sw_ic_1 rfl rfl ?_
                    refine sw_goto (tp := 75) dX4_touchFrom_149 rfl ?_
                    refine sw_dr_8_7 ?_
                    exact hrec2 _ _ _ _
                  · refine sw_ald_8_0 (np := 129) dX4_touchFrom_128 rfl ?_
                    refine sw_gR (np := 132) sw_f_RX4_52 ho (sw_rf_4_13 ho) dX4_touchFrom_129 rfl ?_
                    refine sw_ild_8_2 (np := 133) dX4_touchFrom_132 rfl ?_
                    refine sw_inc_8_2 (np := 136) dX4_touchFrom_133 sw_ic_1 rfl rfl ?_
                    refine sw_ild_8_6 (np := 138) dX4_touchFrom_136 rfl ?_
                    refine sw_sI (np := 139) (sw_kd_4_13 ho) (sw_ln_4_13 ho) dX4_touchFrom_138 rfl (fun S7 => ?_)
                    refine sw_ild_8_3 (np := 140) dX4_touchFrom_139 rfl ?_
                    refine sw_iconst (np := 141) dX4_touchFrom_140 sw_ic_1 rfl ?_
                    refine sw_ild_8_6 (np := 143) dX4_touchFrom_141 rfl ?_
                    refine sw_ishl (np := 144) dX4_touchFrom_143 rfl ?_
                    refine sw_ior (np := 145) dX4_touchFrom_144 rfl ?_
                    refine sw_isl_8_3 (np := 146) dX4_touchFrom_145 rfl rfl (fun x3_4 => ?_)
                    refine sw_inc_8_6 (np := 149) dX4_touchFrom_146 sw_ic_1 rfl rfl ?_
                    refine sw_goto (tp := 75) dX4_touchFrom_149 rfl ?_
                    refine sw_dr_8_7 ?_
                    exact hrec2 _ _ _ _
            · refine sw_if_eq (np := 100) (tp := 104) dX4_touchFrom_97 rfl rfl ?_ ?_
              · refine sw_iconst (np := 105) dX4_touchFrom_104 sw_ic_0 rfl ?_
                exact hk2 _ _
              · refine sw_iconst (np := 101) dX4_touchFrom_100 sw_ic_1 rfl ?_
                refine sw_goto (tp := 105) dX4_touchFrom_101 rfl ?_
                exact hk2 _ _
        · refine sw_goto (tp := 152) dX4_touchFrom_69 rfl ?_
          refine sw_inc_8_4 (np := 155) dX4_touchFrom_152 sw_ic_1 rfl rfl ?_
          refine sw_goto (tp := 33) dX4_touchFrom_155 rfl ?_
          refine sw_dr_8_5 ?_
          exact hrec1 _ _ _ _
  · refine sw_if_lt (np := 20) (tp := 30) dX4_touchFrom_17 rfl rfl ?_ ?_
    · refine sw_dr_8_1 ?_
      exact hk1 _ _
    · refine sw_ald_8_0 (np := 21) dX4_touchFrom_20 rfl ?_
      refine sw_gR (np := 24) sw_f_RX4_52 ho (sw_rf_4_13 ho) dX4_touchFrom_21 rfl ?_
      refine sw_ild_8_2 (np := 25) dX4_touchFrom_24 rfl ?_
      refine sw_inc_8_2 (np := 28) dX4_touchFrom_25 sw_ic_1 rfl rfl ?_
      refine sw_ild_8_1 (np := 29) dX4_touchFrom_28 rfl ?_
      refine sw_sI (np := 30) (sw_kd_4_13 ho) (sw_ln_4_13 ho) dX4_touchFrom_29 rfl (fun S8 => ?_)
      refine sw_dr_8_1 ?_
      exact hk1 _ _
/-- SwordAttic$Night.mindWhenTold(I)I -/
def fX4_mindWhenTold (N : Nat) (o : Nat) (p1 : Int32) (S : sw_St) : Option (Int32 × sw_St) :=
  sw_gd (sw_in p1 10) (some ((sw_mx (0 : Int32) ((S.1 (o + 4) p1.toNatClampNeg) - (18 : Int32))), S))
theorem hX4_mindWhenTold {G : sw_G} {N d : Nat} (hd : 1 ≤ d) {o : Nat} {p1 : Int32} (ho : sw_kd o = 4) {S : sw_St} : sw_Ev G yX4_mindWhenTold cX4_mindWhenTold 2 (some .int) d sw_ei [sw_vr G o, .int p1] S (fX4_mindWhenTold N o p1 S) := by
  refine sw_Ev_of (own := RX4) (lv0 := [some (sw_vr G o), some (.int p1)]) (by decide) rfl (Nat.le_of_ble_eq_true rfl) rfl ?_
  unfold fX4_mindWhenTold
  refine sw_iconst (np := 1) dX4_mindWhenTold_0 sw_ic_0 rfl ?_
  refine sw_ald_2_0 (np := 2) dX4_mindWhenTold_1 rfl ?_
  refine sw_gR (np := 5) sw_f_RX4_37 ho (sw_rf_4_8 ho) dX4_mindWhenTold_2 rfl ?_
  refine sw_ild_2_1 (np := 6) dX4_mindWhenTold_5 rfl ?_
  refine sw_iald (np := 7) (sw_kd_4_8 ho) (sw_ln_4_8 ho) dX4_mindWhenTold_6 rfl ?_
  refine sw_bipush (np := 9) dX4_mindWhenTold_7 sw_bc_18 rfl ?_
  refine sw_isub (np := 10) dX4_mindWhenTold_9 rfl ?_
  refine sw_mmax (np := 13) sw_mth_max sw_wm_RX4_136 (by show 1 ≤ d; omega) (sw_room (by omega) (Nat.le_of_ble_eq_true rfl)) (Nat.zero_le _) (Nat.zero_le _) dX4_mindWhenTold_10 rfl ?_
  exact sw_iret dX4_mindWhenTold_13
/-- SwordAttic$Night.canAllBeTold()Z -/
def fX4_canAllBeTold (N : Nat) (o : Nat) (S : sw_St) : Option (Int32 × sw_St) :=
  sw_fx1 (fun rec1 x1_1 S1 => (if x1_1 ≥ (S1.1 o 0) then (some (vp_nar .boolean (1 : Int32), S1)) else (sw_bd (fX4_isAwake N o x1_1 S1) (fun r1 S2 => (if r1 = 0 then (rec1 (x1_1 + (1 : Int32)) S2) else (sw_bd (fX4_mindWhenTold N o x1_1 S2) (fun r2 S3 => (if r2 ≤ (S3.1 o 2) then (rec1 (x1_1 + (1 : Int32)) S3) else (some (vp_nar .boolean (0 : Int32), S3)))))))))) N (0 : Int32) S
theorem hX4_canAllBeTold {G : sw_G} {N d : Nat} (hd : 2 ≤ d) {o : Nat} (ho : sw_kd o = 4) {S : sw_St} : sw_Ev G yX4_canAllBeTold cX4_canAllBeTold 2 (some .boolean) d sw_ei [sw_vr G o] S (fX4_canAllBeTold N o S) := by
  refine sw_Ev_of (own := RX4) (lv0 := [some (sw_vr G o), none]) (by decide) rfl (Nat.le_of_ble_eq_true rfl) rfl ?_
  unfold fX4_canAllBeTold
  refine sw_iconst (np := 1) dX4_canAllBeTold_0 sw_ic_0 rfl ?_
  refine sw_ist_2_1 (np := 2) dX4_canAllBeTold_1 rfl rfl ?_
  refine sw_lp1 (lv := fun x1_1 => [some (sw_vr G o), some (.int x1_1)]) (fun rec1 hrec1 x1_1 S1 => ?_) _ _ _
  refine sw_ild_2_1 (np := 3) dX4_canAllBeTold_2 rfl ?_
  refine sw_ald_2_0 (np := 4) dX4_canAllBeTold_3 rfl ?_
  refine sw_gI (np := 7) sw_f_RX4_9 ho dX4_canAllBeTold_4 rfl ?_
  refine sw_icmp_ge (np := 10) (tp := 38) dX4_canAllBeTold_7 rfl rfl ?_ ?_
  · refine sw_iconst (np := 39) dX4_canAllBeTold_38 sw_ic_1 rfl ?_
    exact sw_zret dX4_canAllBeTold_39
  · refine sw_ald_2_0 (np := 11) dX4_canAllBeTold_10 rfl ?_
    refine sw_ild_2_1 (np := 12) dX4_canAllBeTold_11 rfl ?_
    refine sw_cV1i (np := 15) (hX4_isAwake (d := d - 1) (by omega) ho) sw_mv_X4_isAwake ho sw_wl_RX4_94 dX4_canAllBeTold_12 (sw_fit_rm (by omega) (by decide)) (Nat.le_of_ble_eq_true rfl) rfl (fun r1 S2 => ?_)
    refine sw_if_eq (np := 18) (tp := 32) dX4_canAllBeTold_15 rfl rfl ?_ ?_
    · refine sw_inc_2_1 (np := 35) dX4_canAllBeTold_32 sw_ic_1 rfl rfl ?_
      refine sw_goto (tp := 2) dX4_canAllBeTold_35 rfl ?_
      exact hrec1 _ _
    · refine sw_ald_2_0 (np := 19) dX4_canAllBeTold_18 rfl ?_
      refine sw_ild_2_1 (np := 20) dX4_canAllBeTold_19 rfl ?_
      refine sw_cV1i (np := 23) (hX4_mindWhenTold (d := d - 1) (by omega) ho) sw_mv_X4_mindWhenTold ho sw_wl_RX4_139 dX4_canAllBeTold_20 (sw_fit_rm (by omega) (by decide)) (Nat.le_of_ble_eq_true rfl) rfl (fun r2 S3 => ?_)
      refine sw_ald_2_0 (np := 24) dX4_canAllBeTold_23 rfl ?_
      refine sw_gI (np := 27) sw_f_RX4_18 ho dX4_canAllBeTold_24 rfl ?_
      refine sw_icmp_le (np := 30) (tp := 32) dX4_canAllBeTold_27 rfl rfl ?_ ?_
      · refine sw_inc_2_1 (np := 35) dX4_canAllBeTold_32 sw_ic_1 rfl rfl ?_
        refine sw_goto (tp := 2) dX4_canAllBeTold_35 rfl ?_
        exact hrec1 _ _
      · refine sw_iconst (np := 31) dX4_canAllBeTold_30 sw_ic_0 rfl ?_
        exact sw_zret dX4_canAllBeTold_31
/-- SwordAttic$Night.mindOfAllTold()I -/
def fX4_mindOfAllTold (N : Nat) (o : Nat) (S : sw_St) : Option (Int32 × sw_St) :=
  sw_fx2 (fun rec1 x1_1 x2_1 S1 => (if x2_1 ≥ (S1.1 o 0) then (some (x1_1, S1)) else (sw_bd (fX4_isAwake N o x2_1 S1) (fun r1 S2 => (if r1 = 0 then (sw_gd (sw_in x2_1 10) (sw_li (x1_1 + (S2.1 (o + 4) x2_1.toNatClampNeg)) (fun x1_2 => (rec1 x1_2 (x2_1 + (1 : Int32)) S2)))) else (sw_bd (fX4_mindWhenTold N o x2_1 S2) (fun r2 S3 => (sw_li (x1_1 + r2) (fun x1_3 => (rec1 x1_3 (x2_1 + (1 : Int32)) S3)))))))))) N (0 : Int32) (0 : Int32) S
theorem hX4_mindOfAllTold {G : sw_G} {N d : Nat} (hd : 2 ≤ d) {o : Nat} (ho : sw_kd o = 4) {S : sw_St} : sw_Ev G yX4_mindOfAllTold cX4_mindOfAllTold 3 (some .int) d sw_ei [sw_vr G o] S (fX4_mindOfAllTold N o S) := by
  refine sw_Ev_of (own := RX4) (lv0 := [some (sw_vr G o), none, none]) (by decide) rfl (Nat.le_of_ble_eq_true rfl) rfl ?_
  unfold fX4_mindOfAllTold
  refine sw_iconst (np := 1) dX4_mindOfAllTold_0 sw_ic_0 rfl ?_
  refine sw_ist_3_1 (np := 2) dX4_mindOfAllTold_1 rfl rfl ?_
  refine sw_iconst (np := 3) dX4_mindOfAllTold_2 sw_ic_0 rfl ?_
  refine sw_ist_3_2 (np := 4) dX4_mindOfAllTold_3 rfl rfl ?_
  refine sw_lp2 (lv := fun x1_1 x2_1 => [some (sw_vr G o), some (.int x1_1), some (.int x2_1)]) (fun rec1 hrec1 x1_1 x2_1 S1 => ?_) _ _ _ _
  refine sw_ild_3_2 (np := 5) dX4_mindOfAllTold_4 rfl ?_
  refine sw_ald_3_0 (np := 6) dX4_mindOfAllTold_5 rfl ?_
  refine sw_gI (np := 9) sw_f_RX4_9 ho dX4_mindOfAllTold_6 rfl ?_
  refine sw_icmp_ge (np := 12) (tp := 43) dX4_mindOfAllTold_9 rfl rfl ?_ ?_
  · refine sw_ild_3_1 (np := 44) dX4_mindOfAllTold_43 rfl ?_
    exact sw_iret dX4_mindOfAllTold_44
  · refine sw_ild_3_1 (np := 13) dX4_mindOfAllTold_12 rfl ?_
    refine sw_ald_3_0 (np := 14) dX4_mindOfAllTold_13 rfl ?_
    refine sw_ild_3_2 (np := 15) dX4_mindOfAllTold_14 rfl ?_
    refine sw_cV1i (np := 18) (hX4_isAwake (d := d - 1) (by omega) ho) sw_mv_X4_isAwake ho sw_wl_RX4_94 dX4_mindOfAllTold_15 (sw_fit_rm (by omega) (by decide)) (Nat.le_of_ble_eq_true rfl) rfl (fun r1 S2 => ?_)
    refine sw_if_eq (np := 21) (tp := 29) dX4_mindOfAllTold_18 rfl rfl ?_ ?_
    · refine sw_ald_3_0 (np := 30) dX4_mindOfAllTold_29 rfl ?_
      refine sw_gR (np := 33) sw_f_RX4_37 ho (sw_rf_4_8 ho) dX4_mindOfAllTold_30 rfl ?_
      refine sw_ild_3_2 (np := 34) dX4_mindOfAllTold_33 rfl ?_
      refine sw_iald (np := 35) (sw_kd_4_8 ho) (sw_ln_4_8 ho) dX4_mindOfAllTold_34 rfl ?_
      refine sw_iadd (np := 36) dX4_mindOfAllTold_35 rfl ?_
      refine sw_isl_3_1 (np := 37) dX4_mindOfAllTold_36 rfl rfl (fun x1_2 => ?_)
      refine sw_inc_3_2 (np := 40) dX4_mindOfAllTold_37 sw_ic_1 rfl rfl ?_
      refine sw_goto (tp := 4) dX4_mindOfAllTold_40 rfl ?_
      exact hrec1 _ _ _
    · refine sw_ald_3_0 (np := 22) dX4_mindOfAllTold_21 rfl ?_
      refine sw_ild_3_2 (np := 23) dX4_mindOfAllTold_22 rfl ?_
      refine sw_cV1i (np := 26) (hX4_mindWhenTold (d := d - 1) (by omega) ho) sw_mv_X4_mindWhenTold ho sw_wl_RX4_139 dX4_mindOfAllTold_23 (sw_fit_rm (by omega) (by decide)) (Nat.le_of_ble_eq_true rfl) rfl (fun r2 S3 => ?_)
      refine sw_goto (tp := 35) dX4_mindOfAllTold_26 rfl ?_
      refine sw_iadd (np := 36) dX4_mindOfAllTold_35 rfl ?_
      refine sw_isl_3_1 (np := 37) dX4_mindOfAllTold_36 rfl rfl (fun x1_3 => ?_)
      refine sw_inc_3_2 (np := 40) dX4_mindOfAllTold_37 sw_ic_1 rfl rfl ?_
      refine sw_goto (tp := 4) dX4_mindOfAllTold_40 rfl ?_
      exact hrec1 _ _ _
/-- SwordAttic.steps(II)I -/
def fX8_steps (N : Nat) (p0 : Int32) (p1 : Int32) (S : sw_St) : Option (Int32 × sw_St) :=
  some (((sw_ab ((p0 - p0 / (6 : Int32) * (6 : Int32)) - (p1 - p1 / (6 : Int32) * (6 : Int32)))) + (sw_ab ((p0 / (6 : Int32)) - (p1 / (6 : Int32))))), S)
theorem hX8_steps {G : sw_G} {N d : Nat} (hd : 1 ≤ d) {p0 : Int32} {p1 : Int32}  {S : sw_St} : sw_Ev G yX8_steps cX8_steps 2 (some .int) d sw_ei [.int p0, .int p1] S (fX8_steps N p0 p1 S) := by
  refine sw_Ev_of (own := RX8) (lv0 := [some (.int p0), some (.int p1)]) (by decide) rfl (Nat.le_of_ble_eq_true rfl) rfl ?_
  unfold fX8_steps
  refine sw_ild_2_0 (np := 1) dX8_steps_0 rfl ?_
  refine sw_bipush (np := 3) dX8_steps_1 sw_bc_6 rfl ?_
  refine sw_irem (np := 4) dX8_steps_3 (by decide) rfl ?_
  refine sw_ild_2_1 (np := 5) dX8_steps_4 rfl ?_
  refine sw_bipush (np := 7) dX8_steps_5 sw_bc_6 rfl ?_
  refine sw_irem (np := 8) dX8_steps_7 (by decide) rfl ?_
  refine sw_isub (np := 9) dX8_steps_8 rfl ?_
  refine sw_mabs (np := 12) sw_mth_abs sw_wm_RX8_373 (by show 1 ≤ d; omega) (sw_room (by omega) (Nat.le_of_ble_eq_true rfl)) (Nat.zero_le _) (Nat.zero_le _) dX8_steps_9 rfl ?_
  refine sw_ild_2_0 (np := 13) dX8_steps_12 rfl ?_
  refine sw_bipush (np := 15) dX8_steps_13 sw_bc_6 rfl ?_
  refine sw_idiv (np := 16) dX8_steps_15 (by decide) rfl ?_
  refine sw_ild_2_1 (np := 17) dX8_steps_16 rfl ?_
  refine sw_bipush (np := 19) dX8_steps_17 sw_bc_6 rfl ?_
  refine sw_idiv (np := 20) dX8_steps_19 (by decide) rfl ?_
  refine sw_isub (np := 21) dX8_steps_20 rfl ?_
  refine sw_mabs (np := 24) sw_mth_abs sw_wm_RX8_373 (by show 1 ≤ d; omega) (sw_room (by omega) (Nat.le_of_ble_eq_true rfl)) (Nat.zero_le _) (Nat.zero_le _) dX8_steps_21 rfl ?_
  refine sw_iadd (np := 25) dX8_steps_24 rfl ?_
  exact sw_iret dX8_steps_25
/-- SwordAttic$Night.nearestAwakeCot()I -/
def fX4_nearestAwakeCot (N : Nat) (o : Nat) (S : sw_St) : Option (Int32 × sw_St) :=
  sw_fx2 (fun rec1 x1_1 x2_1 S1 => (if x2_1 ≥ (12 : Int32) then (some (x1_1, S1)) else (sw_gd (sw_in x2_1 12) (sw_jn1 (fun y1 S2 => (if y1 = 0 then (rec1 x1_1 (x2_1 + (1 : Int32)) S2) else (if x1_1 < 0 then (rec1 x2_1 (x2_1 + (1 : Int32)) S2) else (sw_bd (fX8_steps N (S2.1 o 3) x2_1 S2) (fun r1 S3 => (sw_bd (fX8_steps N (S3.1 o 3) x1_1 S3) (fun r2 S4 => (if r1 ≥ r2 then (rec1 x1_1 (x2_1 + (1 : Int32)) S4) else (rec1 x2_1 (x2_1 + (1 : Int32)) S4))))))))) (fun k1 => (if (S1.1 (o + 6) x2_1.toNatClampNeg) < 0 then (k1 (0 : Int32) S1) else (sw_gd (sw_in x2_1 12) (sw_bd (fX4_isAwake N o (S1.1 (o + 6) x2_1.toNatClampNeg) S1) (fun r3 S5 => (if r3 = 0 then (k1 (0 : Int32) S5) else (k1 (1 : Int32) S5))))))))))) N (-1 : Int32) (0 : Int32) S
theorem hX4_nearestAwakeCot {G : sw_G} {N d : Nat} (hd : 2 ≤ d) {o : Nat} (ho : sw_kd o = 4) {S : sw_St} : sw_Ev G yX4_nearestAwakeCot cX4_nearestAwakeCot 4 (some .int) d sw_ei [sw_vr G o] S (fX4_nearestAwakeCot N o S) := by
  refine sw_Ev_of (own := RX4) (lv0 := [some (sw_vr G o), none, none, none]) (by decide) rfl (Nat.le_of_ble_eq_true rfl) rfl ?_
  unfold fX4_nearestAwakeCot
  refine sw_iconst (np := 1) dX4_nearestAwakeCot_0 sw_ic_m1 rfl ?_
  refine sw_ist_4_1 (np := 2) dX4_nearestAwakeCot_1 rfl rfl ?_
  refine sw_iconst (np := 3) dX4_nearestAwakeCot_2 sw_ic_0 rfl ?_
  refine sw_ist_4_2 (np := 4) dX4_nearestAwakeCot_3 rfl rfl ?_
  refine sw_lp2 (lv := fun x1_1 x2_1 => [some (sw_vr G o), some (.int x1_1), some (.int x2_1), none]) (fun rec1 hrec1 x1_1 x2_1 S1 => ?_) _ _ _ _
  refine sw_ild_4_2 (np := 5) dX4_nearestAwakeCot_4 rfl ?_
  refine sw_bipush (np := 7) dX4_nearestAwakeCot_5 sw_bc_12 rfl ?_
  refine sw_icmp_ge (np := 10) (tp := 73) dX4_nearestAwakeCot_7 rfl rfl ?_ ?_
  · refine sw_ild_4_1 (np := 74) dX4_nearestAwakeCot_73 rfl ?_
    exact sw_iret dX4_nearestAwakeCot_74
  · refine sw_ald_4_0 (np := 11) dX4_nearestAwakeCot_10 rfl ?_
    refine sw_gR (np := 14) sw_f_RX4_43 ho (sw_rf_4_10 ho) dX4_nearestAwakeCot_11 rfl ?_
    refine sw_ild_4_2 (np := 15) dX4_nearestAwakeCot_14 rfl ?_
    refine sw_iald (np := 16) (sw_kd_4_10 ho) (sw_ln_4_10 ho) dX4_nearestAwakeCot_15 rfl ?_
    refine sw_jm1 (pj := 37) (fun y1 => [some (sw_vr G o), some (.int x1_1), some (.int x2_1), none]) (fun y1 => [.int y1]) (fun y1 S2 => ?_) (fun k1 hk1 => ?_)
    · refine sw_ist_4_3 (np := 38) dX4_nearestAwakeCot_37 rfl rfl ?_
      refine sw_ild_4_3 (np := 39) dX4_nearestAwakeCot_38 rfl ?_
      refine sw_if_eq (np := 42) (tp := 67) dX4_nearestAwakeCot_39 rfl rfl ?_ ?_
      · refine sw_inc_4_2 (np := 70) dX4_nearestAwakeCot_67 sw_ic_1 rfl rfl ?_
        refine sw_goto (tp := 4) dX4_nearestAwakeCot_70 rfl ?_
        refine sw_dr_4_3 ?_
        exact hrec1 _ _ _
      · refine sw_ild_4_1 (np := 43) dX4_nearestAwakeCot_42 rfl ?_
        refine sw_if_lt (np := 46) (tp := 65) dX4_nearestAwakeCot_43 rfl rfl ?_ ?_
        · refine sw_ild_4_2 (np := 66) dX4_nearestAwakeCot_65 rfl ?_
          refine sw_ist_4_1 (np := 67) dX4_nearestAwakeCot_66 rfl rfl ?_
          refine sw_inc_4_2 (np := 70) dX4_nearestAwakeCot_67 sw_ic_1 rfl rfl ?_
          refine sw_goto (tp := 4) dX4_nearestAwakeCot_70 rfl ?_
          refine sw_dr_4_3 ?_
          exact hrec1 _ _ _
        · refine sw_ald_4_0 (np := 47) dX4_nearestAwakeCot_46 rfl ?_
          refine sw_gI (np := 50) sw_f_RX4_21 ho dX4_nearestAwakeCot_47 rfl ?_
          refine sw_ild_4_2 (np := 51) dX4_nearestAwakeCot_50 rfl ?_
          refine sw_cT2i (np := 54) (hX8_steps (d := d - 1) (by omega) ) sw_ms_X8_steps sw_wn_RX4_142 dX4_nearestAwakeCot_51 (sw_fit_rm (by omega) (by decide)) (Nat.le_of_ble_eq_true rfl) rfl (fun r1 S3 => ?_)
          refine sw_ald_4_0 (np := 55) dX4_nearestAwakeCot_54 rfl ?_
          refine sw_gI (np := 58) sw_f_RX4_21 ho dX4_nearestAwakeCot_55 rfl ?_
          refine sw_ild_4_1 (np := 59) dX4_nearestAwakeCot_58 rfl ?_
          refine sw_cT2i (np := 62) (hX8_steps (d := d - 1) (by omega) ) sw_ms_X8_steps sw_wn_RX4_142 dX4_nearestAwakeCot_59 (sw_fit_rm (by omega) (by decide)) (Nat.le_of_ble_eq_true rfl) rfl (fun r2 S4 => ?_)
          refine sw_icmp_ge (np := 65) (tp := 67) dX4_nearestAwakeCot_62 rfl rfl ?_ ?_
          · refine sw_inc_4_2 (np := 70) dX4_nearestAwakeCot_67 sw_ic_1 rfl rfl ?_
            refine sw_goto (tp := 4) dX4_nearestAwakeCot_70 rfl ?_
            refine sw_dr_4_3 ?_
            exact hrec1 _ _ _
          · refine sw_ild_4_2 (np := 66) dX4_nearestAwakeCot_65 rfl ?_
            refine sw_ist_4_1 (np := 67) dX4_nearestAwakeCot_66 rfl rfl ?_
            refine sw_inc_4_2 (np := 70) dX4_nearestAwakeCot_67 sw_ic_1 rfl rfl ?_
            refine sw_goto (tp := 4) dX4_nearestAwakeCot_70 rfl ?_
            refine sw_dr_4_3 ?_
            exact hrec1 _ _ _
    · refine sw_if_lt (np := 19) (tp := 36) dX4_nearestAwakeCot_16 rfl rfl ?_ ?_
      · refine sw_iconst (np := 37) dX4_nearestAwakeCot_36 sw_ic_0 rfl ?_
        exact hk1 _ _
      · refine sw_ald_4_0 (np := 20) dX4_nearestAwakeCot_19 rfl ?_
        refine sw_ald_4_0 (np := 21) dX4_nearestAwakeCot_20 rfl ?_
        refine sw_gR (np := 24) sw_f_RX4_43 ho (sw_rf_4_10 ho) dX4_nearestAwakeCot_21 rfl ?_
        refine sw_ild_4_2 (np := 25) dX4_nearestAwakeCot_24 rfl ?_
        refine sw_iald (np := 26) (sw_kd_4_10 ho) (sw_ln_4_10 ho) dX4_nearestAwakeCot_25 rfl ?_
        refine sw_cV1i (np := 29) (hX4_isAwake (d := d - 1) (by omega) ho) sw_mv_X4_isAwake ho sw_wl_RX4_94 dX4_nearestAwakeCot_26 (sw_fit_rm (by omega) (by decide)) (Nat.le_of_ble_eq_true rfl) rfl (fun r3 S5 => ?_)
        refine sw_if_eq (np := 32) (tp := 36) dX4_nearestAwakeCot_29 rfl rfl ?_ ?_
        · refine sw_iconst (np := 37) dX4_nearestAwakeCot_36 sw_ic_0 rfl ?_
          exact hk1 _ _
        · refine sw_iconst (np := 33) dX4_nearestAwakeCot_32 sw_ic_1 rfl ?_
          refine sw_goto (tp := 37) dX4_nearestAwakeCot_33 rfl ?_
          exact hk1 _ _
/-- SwordAttic$Night.pairsOf(I)I -/
def fX4_pairsOf (N : Nat) (o : Nat) (p1 : Int32) (S : sw_St) : Option (Int32 × sw_St) :=
  sw_fx2 (fun rec1 x2_1 x3_1 S1 => (if x3_1 ≥ (S1.1 o 0) then (some (x2_1, S1)) else (sw_li (x3_1 + (1 : Int32)) (fun x4_1 => (sw_fx2 (fun rec2 x2_2 x4_2 S2 => (if x4_2 ≥ (S2.1 o 0) then (rec1 x2_2 (x3_1 + (1 : Int32)) S2) else (sw_gd (sw_in x3_1 10) (sw_gd (sw_in (S2.1 (o + 1) x3_1.toNatClampNeg) 12) (sw_gd (sw_in x4_2 10) (sw_jn1 (fun y1 S3 => (if y1 = 0 then (sw_li (x2_2 + (0 : Int32)) (fun x2_3 => (rec2 x2_3 (x4_2 + (1 : Int32)) S3))) else (sw_gd (sw_in x3_1 10) (sw_gd (sw_in x4_2 10) (if ((S3.1 (o + 2) x3_1.toNatClampNeg) + (S3.1 (o + 2) x4_2.toNatClampNeg)) < p1 then (sw_li (x2_2 + (0 : Int32)) (fun x2_4 => (rec2 x2_4 (x4_2 + (1 : Int32)) S3))) else (sw_li (x2_2 + (1 : Int32)) (fun x2_5 => (rec2 x2_5 (x4_2 + (1 : Int32)) S3)))))))) (fun k1 => (if (((sw_tb 1).getD (S2.1 (o + 1) x3_1.toNatClampNeg).toNatClampNeg 0) &&& ((1 : Int32) <<< ((S2.1 (o + 1) x4_2.toNatClampNeg) &&& 31))) = 0 then (k1 (0 : Int32) S2) else (k1 (1 : Int32) S2))))))))) N x2_1 x4_1 S1))))) N (0 : Int32) (0 : Int32) S
theorem hX4_pairsOf {G : sw_G} {N d : Nat} (hd : 1 ≤ d) {o : Nat} {p1 : Int32} (ho : sw_kd o = 4) {S : sw_St} : sw_Ev G yX4_pairsOf cX4_pairsOf 6 (some .int) d sw_ei [sw_vr G o, .int p1] S (fX4_pairsOf N o p1 S) := by
  refine sw_Ev_of (own := RX4) (lv0 := [some (sw_vr G o), some (.int p1), none, none, none, none]) (by decide) rfl (Nat.le_of_ble_eq_true rfl) rfl ?_
  unfold fX4_pairsOf
  refine sw_iconst (np := 1) dX4_pairsOf_0 sw_ic_0 rfl ?_
  refine sw_ist_6_2 (np := 2) dX4_pairsOf_1 rfl rfl ?_
  refine sw_iconst (np := 3) dX4_pairsOf_2 sw_ic_0 rfl ?_
  refine sw_ist_6_3 (np := 4) dX4_pairsOf_3 rfl rfl ?_
  refine sw_lp2 (lv := fun x2_1 x3_1 => [some (sw_vr G o), some (.int p1), some (.int x2_1), some (.int x3_1), none, none]) (fun rec1 hrec1 x2_1 x3_1 S1 => ?_) _ _ _ _
  refine sw_ild_6_3 (np := 5) dX4_pairsOf_4 rfl ?_
  refine sw_ald_6_0 (np := 6) dX4_pairsOf_5 rfl ?_
  refine sw_gI (np := 9) sw_f_RX4_9 ho dX4_pairsOf_6 rfl ?_
  refine sw_icmp_ge (np := 12) (tp := 99) dX4_pairsOf_9 rfl rfl ?_ ?_
  · refine sw_ild_6_2 (np := 100) dX4_pairsOf_99 rfl ?_
    exact sw_iret dX4_pairsOf_100
  · refine sw_ild_6_3 (np := 13) dX4_pairsOf_12 rfl ?_
    refine sw_iconst (np := 14) dX4_pairsOf_13 sw_ic_1 rfl ?_
    refine sw_iadd (np := 15) dX4_pairsOf_14 rfl ?_
    refine sw_isl_6_4 (np := 17) dX4_pairsOf_15 rfl rfl (fun x4_1 => ?_)
    refine sw_lp2 (lv := fun x2_2 x4_2 => [some (sw_vr G o), some (.int p1), some (.int x2_2), some (.int x3_1), some (.int x4_2), none]) (fun rec2 hrec2 x2_2 x4_2 S2 => ?_) _ _ _ _
    refine sw_ild_6_4 (np := 19) dX4_pairsOf_17 rfl ?_
    refine sw_ald_6_0 (np := 20) dX4_pairsOf_19 rfl ?_
    refine sw_gI (np := 23) sw_f_RX4_9 ho dX4_pairsOf_20 rfl ?_
    refine sw_icmp_ge (np := 26) (tp := 93) dX4_pairsOf_23 rfl rfl ?_ ?_
    · refine sw_inc_6_3 (np := 96) dX4_pairsOf_93 sw_ic_1 rfl rfl ?_
      refine sw_goto (tp := 4) dX4_pairsOf_96 rfl ?_
      refine sw_dr_6_4 ?_
      exact hrec1 _ _ _
    · refine sw_getsN (np := 29) (fun _ _ h => sw_hs_1 h) rfl sw_wz_RX4_106 dX4_pairsOf_26 rfl ?_
      refine sw_ald_6_0 (np := 30) dX4_pairsOf_29 rfl ?_
      refine sw_gR (np := 33) sw_f_RX4_27 ho (sw_rf_4_5 ho) dX4_pairsOf_30 rfl ?_
      refine sw_ild_6_3 (np := 34) dX4_pairsOf_33 rfl ?_
      refine sw_iald (np := 35) (sw_kd_4_5 ho) (sw_ln_4_5 ho) dX4_pairsOf_34 rfl ?_
      refine sw_tald (np := 36) (fun _ _ h => sw_hs_1 h) dX4_pairsOf_35 rfl ?_
      refine sw_iconst (np := 37) dX4_pairsOf_36 sw_ic_1 rfl ?_
      refine sw_ald_6_0 (np := 38) dX4_pairsOf_37 rfl ?_
      refine sw_gR (np := 41) sw_f_RX4_27 ho (sw_rf_4_5 ho) dX4_pairsOf_38 rfl ?_
      refine sw_ild_6_4 (np := 43) dX4_pairsOf_41 rfl ?_
      refine sw_iald (np := 44) (sw_kd_4_5 ho) (sw_ln_4_5 ho) dX4_pairsOf_43 rfl ?_
      refine sw_ishl (np := 45) dX4_pairsOf_44 rfl ?_
      refine sw_iand (np := 46) dX4_pairsOf_45 rfl ?_
      refine sw_jm1 (pj := 54) (fun y1 => [some (sw_vr G o), some (.int p1), some (.int x2_2), some (.int x3_1), some (.int x4_2), none]) (fun y1 => [.int y1]) (fun y1 S3 => ?_) (fun k1 hk1 => ?_)
      · refine sw_ist_6_5 (np := 56) dX4_pairsOf_54 rfl rfl ?_
        refine sw_ild_6_2 (np := 57) dX4_pairsOf_56 rfl ?_
        refine sw_ild_6_5 (np := 59) dX4_pairsOf_57 rfl ?_
        refine sw_if_eq (np := 62) (tp := 84) dX4_pairsOf_59 rfl rfl ?_ ?_
        · refine sw_iconst (np := 85) dX4_pairsOf_84 sw_ic_0 rfl ?_
          refine sw_iadd (np := 86) dX4_pairsOf_85 rfl ?_
          refine sw_isl_6_2 (np := 87) dX4_pairsOf_86 rfl rfl (fun x2_3 => ?_)
          refine sw_inc_6_4 (np := 90) dX4_pairsOf_87 sw_ic_1 rfl rfl ?_
          refine sw_goto (tp := 17) dX4_pairsOf_90 rfl ?_
          refine sw_dr_6_5 ?_
          exact hrec2 _ _ _
        · refine sw_ald_6_0 (np := 63) dX4_pairsOf_62 rfl ?_
          refine sw_gR (np := 66) sw_f_RX4_31 ho (sw_rf_4_6 ho) dX4_pairsOf_63 rfl ?_
          refine sw_ild_6_3 (np := 67) dX4_pairsOf_66 rfl ?_
          refine sw_iald (np := 68) (sw_kd_4_6 ho) (sw_ln_4_6 ho) dX4_pairsOf_67 rfl ?_
          refine sw_ald_6_0 (np := 69) dX4_pairsOf_68 rfl ?_
          refine sw_gR (np := 72) sw_f_RX4_31 ho (sw_rf_4_6 ho) dX4_pairsOf_69 rfl ?_
          refine sw_ild_6_4 (np := 74) dX4_pairsOf_72 rfl ?_
          refine sw_iald (np := 75) (sw_kd_4_6 ho) (sw_ln_4_6 ho) dX4_pairsOf_74 rfl ?_
          refine sw_iadd (np := 76) dX4_pairsOf_75 rfl ?_
          refine sw_ild_6_1 (np := 77) dX4_pairsOf_76 rfl ?_
          refine sw_icmp_lt (np := 80) (tp := 84) dX4_pairsOf_77 rfl rfl ?_ ?_
          · refine sw_iconst (np := 85) dX4_pairsOf_84 sw_ic_0 rfl ?_
            refine sw_iadd (np := 86) dX4_pairsOf_85 rfl ?_
            refine sw_isl_6_2 (np := 87) dX4_pairsOf_86 rfl rfl (fun x2_4 => ?_)
            refine sw_inc_6_4 (np := 90) dX4_pairsOf_87 sw_ic_1 rfl rfl ?_
            refine sw_goto (tp := 17) dX4_pairsOf_90 rfl ?_
            refine sw_dr_6_5 ?_
            exact hrec2 _ _ _
          · refine sw_iconst (np := 81) dX4_pairsOf_80 sw_ic_1 rfl ?_
            refine sw_goto (tp := 85) dX4_pairsOf_81 rfl ?_
            refine sw_iadd (np := 86) dX4_pairsOf_85 rfl ?_
            refine sw_isl_6_2 (np := 87) dX4_pairsOf_86 rfl rfl (fun x2_5 => ?_)
            refine sw_inc_6_4 (np := 90) dX4_pairsOf_87 sw_ic_1 rfl rfl ?_
            refine sw_goto (tp := 17) dX4_pairsOf_90 rfl ?_
            refine sw_dr_6_5 ?_
            exact hrec2 _ _ _
      · refine sw_if_eq (np := 49) (tp := 53) dX4_pairsOf_46 rfl rfl ?_ ?_
        · refine sw_iconst (np := 54) dX4_pairsOf_53 sw_ic_0 rfl ?_
          exact hk1 _ _
        · refine sw_iconst (np := 50) dX4_pairsOf_49 sw_ic_1 rfl ?_
          refine sw_goto (tp := 54) dX4_pairsOf_50 rfl ?_
          exact hk1 _ _
/-- SwordAttic$Night.areApart(I)Z -/
def fX4_areApart (N : Nat) (p0 : Int32) (S : sw_St) : Option (Int32 × sw_St) :=
  if (p0 &&& (p0 >>> ((6 : Int32) &&& 31))) = 0 then (if ((p0 &&& (p0 >>> ((1 : Int32) &&& 31))) &&& ((32 : Int32) ^^^ (-1 : Int32))) = 0 then (some (vp_nar .boolean (1 : Int32), S)) else (some (vp_nar .boolean (0 : Int32), S))) else (some (vp_nar .boolean (0 : Int32), S))
theorem hX4_areApart {G : sw_G} {N d : Nat} (hd : 1 ≤ d) {p0 : Int32}  {S : sw_St} : sw_Ev G yX4_areApart cX4_areApart 2 (some .boolean) d sw_ei [.int p0] S (fX4_areApart N p0 S) := by
  refine sw_Ev_of (own := RX4) (lv0 := [some (.int p0), none]) (by decide) rfl (Nat.le_of_ble_eq_true rfl) rfl ?_
  unfold fX4_areApart
  refine sw_bipush (np := 2) dX4_areApart_0 sw_bc_32 rfl ?_
  refine sw_ist_2_1 (np := 3) dX4_areApart_2 rfl rfl ?_
  refine sw_ild_2_0 (np := 4) dX4_areApart_3 rfl ?_
  refine sw_ild_2_0 (np := 5) dX4_areApart_4 rfl ?_
  refine sw_bipush (np := 7) dX4_areApart_5 sw_bc_6 rfl ?_
  refine sw_ishr (np := 8) dX4_areApart_7 rfl ?_
  refine sw_iand (np := 9) dX4_areApart_8 rfl ?_
  refine sw_if_ne (np := 12) (tp := 28) dX4_areApart_9 rfl rfl ?_ ?_
  · refine sw_iconst (np := 29) dX4_areApart_28 sw_ic_0 rfl ?_
    exact sw_zret dX4_areApart_29
  · refine sw_ild_2_0 (np := 13) dX4_areApart_12 rfl ?_
    refine sw_ild_2_0 (np := 14) dX4_areApart_13 rfl ?_
    refine sw_iconst (np := 15) dX4_areApart_14 sw_ic_1 rfl ?_
    refine sw_ishr (np := 16) dX4_areApart_15 rfl ?_
    refine sw_iand (np := 17) dX4_areApart_16 rfl ?_
    refine sw_ild_2_1 (np := 18) dX4_areApart_17 rfl ?_
    refine sw_iconst (np := 19) dX4_areApart_18 sw_ic_m1 rfl ?_
    refine sw_ixor (np := 20) dX4_areApart_19 rfl ?_
    refine sw_iand (np := 21) dX4_areApart_20 rfl ?_
    refine sw_if_ne (np := 24) (tp := 28) dX4_areApart_21 rfl rfl ?_ ?_
    · refine sw_iconst (np := 29) dX4_areApart_28 sw_ic_0 rfl ?_
      exact sw_zret dX4_areApart_29
    · refine sw_iconst (np := 25) dX4_areApart_24 sw_ic_1 rfl ?_
      refine sw_goto (tp := 29) dX4_areApart_25 rfl ?_
      exact sw_zret dX4_areApart_29
/-- SwordAttic$Night.mostApart()I -/
def fX4_mostApart (N : Nat) (o : Nat) (S : sw_St) : Option (Int32 × sw_St) :=
  sw_fx2 (fun rec1 x1_1 x2_1 S1 => (if x2_1 ≥ (S1.1 o 0) then (sw_fx2 (fun rec2 x2_2 x3_1 S2 => (if x3_1 ≥ (4096 : Int32) then (some (x2_2, S2)) else (sw_jn1 (fun y1 S3 => (if y1 = 0 then (rec2 x2_2 (x3_1 + (1 : Int32)) S3) else (sw_bd (fX4_areApart N x3_1 S3) (fun r1 S4 => (if r1 = 0 then (rec2 x2_2 (x3_1 + (1 : Int32)) S4) else (sw_bd (fJ6_bitCount_0f7a4 N x3_1 S4) (fun r2 S5 => (sw_bd (fJ6_bitCount_0f7a4 N x2_2 S5) (fun r3 S6 => (if r2 ≤ r3 then (rec2 x2_2 (x3_1 + (1 : Int32)) S6) else (rec2 x3_1 (x3_1 + (1 : Int32)) S6))))))))))) (fun k1 => (if (x3_1 &&& (x1_1 ^^^ (-1 : Int32))) = 0 then (k1 (1 : Int32) S2) else (k1 (0 : Int32) S2)))))) N (0 : Int32) (1 : Int32) S1) else (sw_gd (sw_in x2_1 10) (sw_li (x1_1 ||| ((1 : Int32) <<< ((S1.1 (o + 1) x2_1.toNatClampNeg) &&& 31))) (fun x1_2 => (rec1 x1_2 (x2_1 + (1 : Int32)) S1)))))) N (0 : Int32) (0 : Int32) S
theorem hX4_mostApart {G : sw_G} {N d : Nat} (hd : 2 ≤ d) {o : Nat} (ho : sw_kd o = 4) {S : sw_St} : sw_Ev G yX4_mostApart cX4_mostApart 5 (some .int) d sw_ei [sw_vr G o] S (fX4_mostApart N o S) := by
  refine sw_Ev_of (own := RX4) (lv0 := [some (sw_vr G o), none, none, none, none]) (by decide) rfl (Nat.le_of_ble_eq_true rfl) rfl ?_
  unfold fX4_mostApart
  refine sw_iconst (np := 1) dX4_mostApart_0 sw_ic_0 rfl ?_
  refine sw_ist_5_1 (np := 2) dX4_mostApart_1 rfl rfl ?_
  refine sw_iconst (np := 3) dX4_mostApart_2 sw_ic_0 rfl ?_
  refine sw_ist_5_2 (np := 4) dX4_mostApart_3 rfl rfl ?_
  refine sw_lp2 (lv := fun x1_1 x2_1 => [some (sw_vr G o), some (.int x1_1), some (.int x2_1), none, none]) (fun rec1 hrec1 x1_1 x2_1 S1 => ?_) _ _ _ _
  refine sw_ild_5_2 (np := 5) dX4_mostApart_4 rfl ?_
  refine sw_ald_5_0 (np := 6) dX4_mostApart_5 rfl ?_
  refine sw_gI (np := 9) sw_f_RX4_9 ho dX4_mostApart_6 rfl ?_
  refine sw_icmp_ge (np := 12) (tp := 29) dX4_mostApart_9 rfl rfl ?_ ?_
  · refine sw_iconst (np := 30) dX4_mostApart_29 sw_ic_0 rfl ?_
    refine sw_ist_5_2 (np := 31) dX4_mostApart_30 rfl rfl ?_
    refine sw_iconst (np := 32) dX4_mostApart_31 sw_ic_1 rfl ?_
    refine sw_ist_5_3 (np := 33) dX4_mostApart_32 rfl rfl ?_
    refine sw_dr_5_0 ?_
    refine sw_lp2 (lv := fun x2_2 x3_1 => [none, some (.int x1_1), some (.int x2_2), some (.int x3_1), none]) (fun rec2 hrec2 x2_2 x3_1 S2 => ?_) _ _ _ _
    refine sw_ild_5_3 (np := 34) dX4_mostApart_33 rfl ?_
    refine sw_sipush (np := 37) dX4_mostApart_34 sw_sc_4096 rfl ?_
    refine sw_icmp_ge (np := 40) (tp := 86) dX4_mostApart_37 rfl rfl ?_ ?_
    · refine sw_ild_5_2 (np := 87) dX4_mostApart_86 rfl ?_
      exact sw_iret dX4_mostApart_87
    · refine sw_ild_5_3 (np := 41) dX4_mostApart_40 rfl ?_
      refine sw_ild_5_1 (np := 42) dX4_mostApart_41 rfl ?_
      refine sw_iconst (np := 43) dX4_mostApart_42 sw_ic_m1 rfl ?_
      refine sw_ixor (np := 44) dX4_mostApart_43 rfl ?_
      refine sw_iand (np := 45) dX4_mostApart_44 rfl ?_
      refine sw_jm1 (pj := 53) (fun y1 => [none, some (.int x1_1), some (.int x2_2), some (.int x3_1), none]) (fun y1 => [.int y1]) (fun y1 S3 => ?_) (fun k1 hk1 => ?_)
      · refine sw_ist_5_4 (np := 55) dX4_mostApart_53 rfl rfl ?_
        refine sw_ild_5_4 (np := 57) dX4_mostApart_55 rfl ?_
        refine sw_if_eq (np := 60) (tp := 80) dX4_mostApart_57 rfl rfl ?_ ?_
        · refine sw_inc_5_3 (np := 83) dX4_mostApart_80 sw_ic_1 rfl rfl ?_
          refine sw_goto (tp := 33) dX4_mostApart_83 rfl ?_
          refine sw_dr_5_4 ?_
          exact hrec2 _ _ _
        · refine sw_ild_5_3 (np := 61) dX4_mostApart_60 rfl ?_
          refine sw_cS1i (np := 64) (hX4_areApart (d := d - 1) (by omega) ) sw_ms_X4_areApart sw_wl_RX4_145 dX4_mostApart_61 (sw_fit_rm (by omega) (by decide)) (Nat.le_of_ble_eq_true rfl) rfl (fun r1 S4 => ?_)
          refine sw_if_eq (np := 67) (tp := 80) dX4_mostApart_64 rfl rfl ?_ ?_
          · refine sw_inc_5_3 (np := 83) dX4_mostApart_80 sw_ic_1 rfl rfl ?_
            refine sw_goto (tp := 33) dX4_mostApart_83 rfl ?_
            refine sw_dr_5_4 ?_
            exact hrec2 _ _ _
          · refine sw_ild_5_3 (np := 68) dX4_mostApart_67 rfl ?_
            refine sw_cS1i (np := 71) (hJ6_bitCount_0f7a4 (d := d - 1) (by omega) ) sw_ms_J6_bitCount_0f7a4 sw_wl_RX4_101 dX4_mostApart_68 (sw_fit_rm (by omega) (by decide)) (Nat.le_of_ble_eq_true rfl) rfl (fun r2 S5 => ?_)
            refine sw_ild_5_2 (np := 72) dX4_mostApart_71 rfl ?_
            refine sw_cS1i (np := 75) (hJ6_bitCount_0f7a4 (d := d - 1) (by omega) ) sw_ms_J6_bitCount_0f7a4 sw_wl_RX4_101 dX4_mostApart_72 (sw_fit_rm (by omega) (by decide)) (Nat.le_of_ble_eq_true rfl) rfl (fun r3 S6 => ?_)
            refine sw_icmp_le (np := 78) (tp := 80) dX4_mostApart_75 rfl rfl ?_ ?_
            · refine sw_inc_5_3 (np := 83) dX4_mostApart_80 sw_ic_1 rfl rfl ?_
              refine sw_goto (tp := 33) dX4_mostApart_83 rfl ?_
              refine sw_dr_5_4 ?_
              exact hrec2 _ _ _
            · refine sw_ild_5_3 (np := 79) dX4_mostApart_78 rfl ?_
              refine sw_ist_5_2 (np := 80) dX4_mostApart_79 rfl rfl ?_
              refine sw_inc_5_3 (np := 83) dX4_mostApart_80 sw_ic_1 rfl rfl ?_
              refine sw_goto (tp := 33) dX4_mostApart_83 rfl ?_
              refine sw_dr_5_4 ?_
              exact hrec2 _ _ _
      · refine sw_if_ne (np := 48) (tp := 52) dX4_mostApart_45 rfl rfl ?_ ?_
        · refine sw_iconst (np := 53) dX4_mostApart_52 sw_ic_0 rfl ?_
          exact hk1 _ _
        · refine sw_iconst (np := 49) dX4_mostApart_48 sw_ic_1 rfl ?_
          refine sw_goto (tp := 53) dX4_mostApart_49 rfl ?_
          exact hk1 _ _
  · refine sw_ild_5_1 (np := 13) dX4_mostApart_12 rfl ?_
    refine sw_iconst (np := 14) dX4_mostApart_13 sw_ic_1 rfl ?_
    refine sw_ald_5_0 (np := 15) dX4_mostApart_14 rfl ?_
    refine sw_gR (np := 18) sw_f_RX4_27 ho (sw_rf_4_5 ho) dX4_mostApart_15 rfl ?_
    refine sw_ild_5_2 (np := 19) dX4_mostApart_18 rfl ?_
    refine sw_iald (np := 20) (sw_kd_4_5 ho) (sw_ln_4_5 ho) dX4_mostApart_19 rfl ?_
    refine sw_ishl (np := 21) dX4_mostApart_20 rfl ?_
    refine sw_ior (np := 22) dX4_mostApart_21 rfl ?_
    refine sw_isl_5_1 (np := 23) dX4_mostApart_22 rfl rfl (fun x1_2 => ?_)
    refine sw_inc_5_2 (np := 26) dX4_mostApart_23 sw_ic_1 rfl rfl ?_
    refine sw_goto (tp := 4) dX4_mostApart_26 rfl ?_
    exact hrec1 _ _ _
/-- SwordAttic$Shelf.holdsNothing()Z -/
def fX5_holdsNothing (N : Nat) (o : Nat) (S : sw_St) : Option (Int32 × sw_St) :=
  if (S.1 o 4) = 0 then (some (vp_nar .boolean (1 : Int32), S)) else (some (vp_nar .boolean (0 : Int32), S))
theorem hX5_holdsNothing {G : sw_G} {N d : Nat} (hd : 1 ≤ d) {o : Nat} (ho : sw_kd o = 5) {S : sw_St} : sw_Ev G yX5_holdsNothing cX5_holdsNothing 1 (some .boolean) d sw_ei [sw_vr G o] S (fX5_holdsNothing N o S) := by
  refine sw_Ev_of (own := RX5) (lv0 := [some (sw_vr G o)]) (by decide) rfl (Nat.le_of_ble_eq_true rfl) rfl ?_
  unfold fX5_holdsNothing
  refine sw_ald_1_0 (np := 1) dX5_holdsNothing_0 rfl ?_
  refine sw_gI (np := 4) sw_f_RX5_25 ho dX5_holdsNothing_1 rfl ?_
  refine sw_if_ne (np := 7) (tp := 11) dX5_holdsNothing_4 rfl rfl ?_ ?_
  · refine sw_iconst (np := 12) dX5_holdsNothing_11 sw_ic_0 rfl ?_
    exact sw_zret dX5_holdsNothing_12
  · refine sw_iconst (np := 8) dX5_holdsNothing_7 sw_ic_1 rfl ?_
    refine sw_goto (tp := 12) dX5_holdsNothing_8 rfl ?_
    exact sw_zret dX5_holdsNothing_12
/-- SwordAttic$Shelf.holdsBlade()Z -/
def fX5_holdsBlade (N : Nat) (o : Nat) (S : sw_St) : Option (Int32 × sw_St) :=
  if (S.1 o 4) = (1 : Int32) then (some (vp_nar .boolean (1 : Int32), S)) else (some (vp_nar .boolean (0 : Int32), S))
theorem hX5_holdsBlade {G : sw_G} {N d : Nat} (hd : 1 ≤ d) {o : Nat} (ho : sw_kd o = 5) {S : sw_St} : sw_Ev G yX5_holdsBlade cX5_holdsBlade 1 (some .boolean) d sw_ei [sw_vr G o] S (fX5_holdsBlade N o S) := by
  refine sw_Ev_of (own := RX5) (lv0 := [some (sw_vr G o)]) (by decide) rfl (Nat.le_of_ble_eq_true rfl) rfl ?_
  unfold fX5_holdsBlade
  refine sw_ald_1_0 (np := 1) dX5_holdsBlade_0 rfl ?_
  refine sw_gI (np := 4) sw_f_RX5_25 ho dX5_holdsBlade_1 rfl ?_
  refine sw_iconst (np := 5) dX5_holdsBlade_4 sw_ic_1 rfl ?_
  refine sw_icmp_ne (np := 8) (tp := 12) dX5_holdsBlade_5 rfl rfl ?_ ?_
  · refine sw_iconst (np := 13) dX5_holdsBlade_12 sw_ic_0 rfl ?_
    exact sw_zret dX5_holdsBlade_13
  · refine sw_iconst (np := 9) dX5_holdsBlade_8 sw_ic_1 rfl ?_
    refine sw_goto (tp := 13) dX5_holdsBlade_9 rfl ?_
    exact sw_zret dX5_holdsBlade_13
/-- SwordAttic$Shelf.holdsRow()Z -/
def fX5_holdsRow (N : Nat) (o : Nat) (S : sw_St) : Option (Int32 × sw_St) :=
  if (S.1 o 4) = (2 : Int32) then (some (vp_nar .boolean (1 : Int32), S)) else (some (vp_nar .boolean (0 : Int32), S))
theorem hX5_holdsRow {G : sw_G} {N d : Nat} (hd : 1 ≤ d) {o : Nat} (ho : sw_kd o = 5) {S : sw_St} : sw_Ev G yX5_holdsRow cX5_holdsRow 1 (some .boolean) d sw_ei [sw_vr G o] S (fX5_holdsRow N o S) := by
  refine sw_Ev_of (own := RX5) (lv0 := [some (sw_vr G o)]) (by decide) rfl (Nat.le_of_ble_eq_true rfl) rfl ?_
  unfold fX5_holdsRow
  refine sw_ald_1_0 (np := 1) dX5_holdsRow_0 rfl ?_
  refine sw_gI (np := 4) sw_f_RX5_25 ho dX5_holdsRow_1 rfl ?_
  refine sw_iconst (np := 5) dX5_holdsRow_4 sw_ic_2 rfl ?_
  refine sw_icmp_ne (np := 8) (tp := 12) dX5_holdsRow_5 rfl rfl ?_ ?_
  · refine sw_iconst (np := 13) dX5_holdsRow_12 sw_ic_0 rfl ?_
    exact sw_zret dX5_holdsRow_13
  · refine sw_iconst (np := 9) dX5_holdsRow_8 sw_ic_1 rfl ?_
    refine sw_goto (tp := 13) dX5_holdsRow_9 rfl ?_
    exact sw_zret dX5_holdsRow_13
/-- SwordAttic$Shelf.holdsBytes()Z -/
def fX5_holdsBytes (N : Nat) (o : Nat) (S : sw_St) : Option (Int32 × sw_St) :=
  if (S.1 o 4) = (2 : Int32) then (if (S.1 o 1) = 0 then (some (vp_nar .boolean (1 : Int32), S)) else (some (vp_nar .boolean (0 : Int32), S))) else (some (vp_nar .boolean (0 : Int32), S))
theorem hX5_holdsBytes {G : sw_G} {N d : Nat} (hd : 1 ≤ d) {o : Nat} (ho : sw_kd o = 5) {S : sw_St} : sw_Ev G yX5_holdsBytes cX5_holdsBytes 1 (some .boolean) d sw_ei [sw_vr G o] S (fX5_holdsBytes N o S) := by
  refine sw_Ev_of (own := RX5) (lv0 := [some (sw_vr G o)]) (by decide) rfl (Nat.le_of_ble_eq_true rfl) rfl ?_
  unfold fX5_holdsBytes
  refine sw_ald_1_0 (np := 1) dX5_holdsBytes_0 rfl ?_
  refine sw_gI (np := 4) sw_f_RX5_25 ho dX5_holdsBytes_1 rfl ?_
  refine sw_iconst (np := 5) dX5_holdsBytes_4 sw_ic_2 rfl ?_
  refine sw_icmp_ne (np := 8) (tp := 19) dX5_holdsBytes_5 rfl rfl ?_ ?_
  · refine sw_iconst (np := 20) dX5_holdsBytes_19 sw_ic_0 rfl ?_
    exact sw_zret dX5_holdsBytes_20
  · refine sw_ald_1_0 (np := 9) dX5_holdsBytes_8 rfl ?_
    refine sw_gI (np := 12) sw_f_RX5_15 ho dX5_holdsBytes_9 rfl ?_
    refine sw_if_ne (np := 15) (tp := 19) dX5_holdsBytes_12 rfl rfl ?_ ?_
    · refine sw_iconst (np := 20) dX5_holdsBytes_19 sw_ic_0 rfl ?_
      exact sw_zret dX5_holdsBytes_20
    · refine sw_iconst (np := 16) dX5_holdsBytes_15 sw_ic_1 rfl ?_
      refine sw_goto (tp := 20) dX5_holdsBytes_16 rfl ?_
      exact sw_zret dX5_holdsBytes_20
/-- SwordAttic$Shelf.clear()V -/
def fX5_clear (N : Nat) (o : Nat) (S : sw_St) : Option (Unit × sw_St) :=
  sw_ls (sw_si S o 4 (0 : Int32)) (fun S1 => (some ((), S1)))
theorem hX5_clear {G : sw_G} {N d : Nat} (hd : 1 ≤ d) {o : Nat} (ho : sw_kd o = 5) {S : sw_St} : sw_Ev G yX5_clear cX5_clear 1 none d sw_ev [sw_vr G o] S (fX5_clear N o S) := by
  refine sw_Ev_of (own := RX5) (lv0 := [some (sw_vr G o)]) (by decide) rfl (Nat.le_of_ble_eq_true rfl) rfl ?_
  unfold fX5_clear
  refine sw_ald_1_0 (np := 1) dX5_clear_0 rfl ?_
  refine sw_iconst (np := 2) dX5_clear_1 sw_ic_0 rfl ?_
  refine sw_pI (np := 5) sw_f_RX5_25 sw_fp_5_4 ho dX5_clear_2 rfl (fun S1 => ?_)
  exact sw_vret dX5_clear_5
/-- SwordAttic$Shelf.holdBlade(I)V -/
def fX5_holdBlade (N : Nat) (o : Nat) (p1 : Int32) (S : sw_St) : Option (Unit × sw_St) :=
  sw_ls (sw_si S o 4 (1 : Int32)) (fun S1 => (sw_ls (sw_si S1 o 0 p1) (fun S2 => (some ((), S2)))))
theorem hX5_holdBlade {G : sw_G} {N d : Nat} (hd : 1 ≤ d) {o : Nat} {p1 : Int32} (ho : sw_kd o = 5) {S : sw_St} : sw_Ev G yX5_holdBlade cX5_holdBlade 2 none d sw_ev [sw_vr G o, .int p1] S (fX5_holdBlade N o p1 S) := by
  refine sw_Ev_of (own := RX5) (lv0 := [some (sw_vr G o), some (.int p1)]) (by decide) rfl (Nat.le_of_ble_eq_true rfl) rfl ?_
  unfold fX5_holdBlade
  refine sw_ald_2_0 (np := 1) dX5_holdBlade_0 rfl ?_
  refine sw_iconst (np := 2) dX5_holdBlade_1 sw_ic_1 rfl ?_
  refine sw_pI (np := 5) sw_f_RX5_25 sw_fp_5_4 ho dX5_holdBlade_2 rfl (fun S1 => ?_)
  refine sw_ald_2_0 (np := 6) dX5_holdBlade_5 rfl ?_
  refine sw_ild_2_1 (np := 7) dX5_holdBlade_6 rfl ?_
  refine sw_pI (np := 10) sw_f_RX5_9 sw_fp_5_0 ho dX5_holdBlade_7 rfl (fun S2 => ?_)
  exact sw_vret dX5_holdBlade_10
/-- SwordAttic$Shelf.holdRow(II)V -/
def fX5_holdRow (N : Nat) (o : Nat) (p1 : Int32) (p2 : Int32) (S : sw_St) : Option (Unit × sw_St) :=
  sw_ls (sw_si S o 4 (2 : Int32)) (fun S1 => (sw_ls (sw_si S1 o 1 p1) (fun S2 => (sw_ls (sw_si S2 o 2 p2) (fun S3 => (sw_fx1 (fun rec1 x3_1 S4 => (if x3_1 ≥ (60 : Int32) then (some ((), S4)) else (sw_gd (sw_in x3_1 60) (sw_ls (sw_sj S4 (o + 1) x3_1.toNatClampNeg (0 : Int64)) (fun S5 => (rec1 (x3_1 + (1 : Int32)) S5)))))) N (0 : Int32) S3))))))
theorem hX5_holdRow {G : sw_G} {N d : Nat} (hd : 1 ≤ d) {o : Nat} {p1 : Int32} {p2 : Int32} (ho : sw_kd o = 5) {S : sw_St} : sw_Ev G yX5_holdRow cX5_holdRow 4 none d sw_ev [sw_vr G o, .int p1, .int p2] S (fX5_holdRow N o p1 p2 S) := by
  refine sw_Ev_of (own := RX5) (lv0 := [some (sw_vr G o), some (.int p1), some (.int p2), none]) (by decide) rfl (Nat.le_of_ble_eq_true rfl) rfl ?_
  unfold fX5_holdRow
  refine sw_ald_4_0 (np := 1) dX5_holdRow_0 rfl ?_
  refine sw_iconst (np := 2) dX5_holdRow_1 sw_ic_2 rfl ?_
  refine sw_pI (np := 5) sw_f_RX5_25 sw_fp_5_4 ho dX5_holdRow_2 rfl (fun S1 => ?_)
  refine sw_ald_4_0 (np := 6) dX5_holdRow_5 rfl ?_
  refine sw_ild_4_1 (np := 7) dX5_holdRow_6 rfl ?_
  refine sw_pI (np := 10) sw_f_RX5_15 sw_fp_5_1 ho dX5_holdRow_7 rfl (fun S2 => ?_)
  refine sw_ald_4_0 (np := 11) dX5_holdRow_10 rfl ?_
  refine sw_ild_4_2 (np := 12) dX5_holdRow_11 rfl ?_
  refine sw_pI (np := 15) sw_f_RX5_18 sw_fp_5_2 ho dX5_holdRow_12 rfl (fun S3 => ?_)
  refine sw_iconst (np := 16) dX5_holdRow_15 sw_ic_0 rfl ?_
  refine sw_ist_4_3 (np := 17) dX5_holdRow_16 rfl rfl ?_
  refine sw_dr_4_1 ?_
  refine sw_dr_4_2 ?_
  refine sw_lp1 (lv := fun x3_1 => [some (sw_vr G o), none, none, some (.int x3_1)]) (fun rec1 hrec1 x3_1 S4 => ?_) _ _ _
  refine sw_ild_4_3 (np := 18) dX5_holdRow_17 rfl ?_
  refine sw_bipush (np := 20) dX5_holdRow_18 sw_bc_60 rfl ?_
  refine sw_icmp_ge (np := 23) (tp := 36) dX5_holdRow_20 rfl rfl ?_ ?_
  · exact sw_vret dX5_holdRow_36
  · refine sw_ald_4_0 (np := 24) dX5_holdRow_23 rfl ?_
    refine sw_gR (np := 27) sw_f_RX5_21 ho (sw_rf_5_3 ho) dX5_holdRow_24 rfl ?_
    refine sw_ild_4_3 (np := 28) dX5_holdRow_27 rfl ?_
    refine sw_lconst (np := 29) dX5_holdRow_28 sw_lc_0 rfl ?_
    refine sw_sJ (np := 30) (sw_kd_5_3 ho) (sw_ln_5_3 ho) dX5_holdRow_29 rfl (fun S5 => ?_)
    refine sw_inc_4_3 (np := 33) dX5_holdRow_30 sw_ic_1 rfl rfl ?_
    refine sw_goto (tp := 17) dX5_holdRow_33 rfl ?_
    exact hrec1 _ _
/-- SwordAttic$Shelf.store(IJ)V -/
def fX5_store (N : Nat) (o : Nat) (p1 : Int32) (p2 : Int64) (S : sw_St) : Option (Unit × sw_St) :=
  if (S.1 o 1) = (0 : Int32) then (sw_gd (sw_in p1 60) (sw_ls (sw_sj S (o + 1) p1.toNatClampNeg p2.toInt32.toInt8.toInt32.toInt64) (fun S1 => (some ((), S1))))) else (if (S.1 o 1) = (1 : Int32) then (sw_gd (sw_in p1 60) (sw_ls (sw_sj S (o + 1) p1.toNatClampNeg p2.toInt32.toInt16.toInt32.toInt64) (fun S2 => (some ((), S2))))) else (if (S.1 o 1) = (2 : Int32) then (sw_gd (sw_in p1 60) (sw_ls (sw_sj S (o + 1) p1.toNatClampNeg p2.toInt32.toInt64) (fun S3 => (some ((), S3))))) else (if (S.1 o 1) = (3 : Int32) then (sw_gd (sw_in p1 60) (sw_ls (sw_sj S (o + 1) p1.toNatClampNeg p2) (fun S4 => (some ((), S4))))) else (if (lg_cmp p2 (0 : Int64)) = 0 then (sw_gd (sw_in p1 60) (sw_ls (sw_sj S (o + 1) p1.toNatClampNeg (0 : Int64)) (fun S5 => (some ((), S5))))) else (sw_gd (sw_in p1 60) (sw_ls (sw_sj S (o + 1) p1.toNatClampNeg (1 : Int64)) (fun S6 => (some ((), S6)))))))))
theorem hX5_store {G : sw_G} {N d : Nat} (hd : 1 ≤ d) {o : Nat} {p1 : Int32} {p2 : Int64} (ho : sw_kd o = 5) {S : sw_St} : sw_Ev G yX5_store cX5_store 4 none d sw_ev [sw_vr G o, .int p1, .long p2] S (fX5_store N o p1 p2 S) := by
  refine sw_Ev_of (own := RX5) (lv0 := [some (sw_vr G o), some (.int p1), some (.long p2), none]) (by decide) rfl (Nat.le_of_ble_eq_true rfl) rfl ?_
  unfold fX5_store
  refine sw_ald_4_0 (np := 1) dX5_store_0 rfl ?_
  refine sw_gI (np := 4) sw_f_RX5_15 ho dX5_store_1 rfl ?_
  refine sw_ite (fun hs1 => ?_) (fun hs1 => ?_)
  · refine sw_tabIn (tp := 36) dX5_store_4 (by rw [hs1]; decide) (by rw [hs1]; decide) (by rw [hs1]; rfl) rfl ?_
    refine sw_ald_4_0 (np := 37) dX5_store_36 rfl ?_
    refine sw_gR (np := 40) sw_f_RX5_21 ho (sw_rf_5_3 ho) dX5_store_37 rfl ?_
    refine sw_ild_4_1 (np := 41) dX5_store_40 rfl ?_
    refine sw_lld_4_2 (np := 42) dX5_store_41 rfl ?_
    refine sw_l2i (np := 43) dX5_store_42 rfl ?_
    refine sw_i2b (np := 44) dX5_store_43 rfl ?_
    refine sw_i2l (np := 45) dX5_store_44 rfl ?_
    refine sw_sJ (np := 46) (sw_kd_5_3 ho) (sw_ln_5_3 ho) dX5_store_45 rfl (fun S1 => ?_)
    refine sw_goto (tp := 101) dX5_store_46 rfl ?_
    exact sw_vret dX5_store_101
  · refine sw_ite (fun hs2 => ?_) (fun hs2 => ?_)
    · refine sw_tabIn (tp := 49) dX5_store_4 (by rw [hs2]; decide) (by rw [hs2]; decide) (by rw [hs2]; rfl) rfl ?_
      refine sw_ald_4_0 (np := 50) dX5_store_49 rfl ?_
      refine sw_gR (np := 53) sw_f_RX5_21 ho (sw_rf_5_3 ho) dX5_store_50 rfl ?_
      refine sw_ild_4_1 (np := 54) dX5_store_53 rfl ?_
      refine sw_lld_4_2 (np := 55) dX5_store_54 rfl ?_
      refine sw_l2i (np := 56) dX5_store_55 rfl ?_
      refine sw_i2s (np := 57) dX5_store_56 rfl ?_
      refine sw_i2l (np := 58) dX5_store_57 rfl ?_
      refine sw_sJ (np := 59) (sw_kd_5_3 ho) (sw_ln_5_3 ho) dX5_store_58 rfl (fun S2 => ?_)
      refine sw_goto (tp := 101) dX5_store_59 rfl ?_
      exact sw_vret dX5_store_101
    · refine sw_ite (fun hs3 => ?_) (fun hs3 => ?_)
      · refine sw_tabIn (tp := 62) dX5_store_4 (by rw [hs3]; decide) (by rw [hs3]; decide) (by rw [hs3]; rfl) rfl ?_
        refine sw_ald_4_0 (np := 63) dX5_store_62 rfl ?_
        refine sw_gR (np := 66) sw_f_RX5_21 ho (sw_rf_5_3 ho) dX5_store_63 rfl ?_
        refine sw_ild_4_1 (np := 67) dX5_store_66 rfl ?_
        refine sw_lld_4_2 (np := 68) dX5_store_67 rfl ?_
        refine sw_l2i (np := 69) dX5_store_68 rfl ?_
        refine sw_i2l (np := 70) dX5_store_69 rfl ?_
        refine sw_sJ (np := 71) (sw_kd_5_3 ho) (sw_ln_5_3 ho) dX5_store_70 rfl (fun S3 => ?_)
        refine sw_goto (tp := 101) dX5_store_71 rfl ?_
        exact sw_vret dX5_store_101
      · refine sw_ite (fun hs4 => ?_) (fun hs4 => ?_)
        · refine sw_tabIn (tp := 74) dX5_store_4 (by rw [hs4]; decide) (by rw [hs4]; decide) (by rw [hs4]; rfl) rfl ?_
          refine sw_ald_4_0 (np := 75) dX5_store_74 rfl ?_
          refine sw_gR (np := 78) sw_f_RX5_21 ho (sw_rf_5_3 ho) dX5_store_75 rfl ?_
          refine sw_ild_4_1 (np := 79) dX5_store_78 rfl ?_
          refine sw_lld_4_2 (np := 80) dX5_store_79 rfl ?_
          refine sw_sJ (np := 81) (sw_kd_5_3 ho) (sw_ln_5_3 ho) dX5_store_80 rfl (fun S4 => ?_)
          refine sw_goto (tp := 101) dX5_store_81 rfl ?_
          exact sw_vret dX5_store_101
        · have hs1n := sw_neI sw_ic_0 (by decide) (by decide) hs1
          have hs2n := sw_neI sw_ic_1 (by decide) (by decide) hs2
          have hs3n := sw_neI sw_ic_2 (by decide) (by decide) hs3
          have hs4n := sw_neI sw_ic_3 (by decide) (by decide) hs4
          refine sw_tabOut (tp := 84) dX5_store_4 (by omega) rfl ?_
          refine sw_ald_4_0 (np := 85) dX5_store_84 rfl ?_
          refine sw_gR (np := 88) sw_f_RX5_21 ho (sw_rf_5_3 ho) dX5_store_85 rfl ?_
          refine sw_ild_4_1 (np := 89) dX5_store_88 rfl ?_
          refine sw_lld_4_2 (np := 90) dX5_store_89 rfl ?_
          refine sw_lconst (np := 91) dX5_store_90 sw_lc_0 rfl ?_
          refine sw_lcmp (np := 92) dX5_store_91 rfl ?_
          refine sw_if_eq (np := 95) (tp := 99) dX5_store_92 rfl rfl ?_ ?_
          · refine sw_lconst (np := 100) dX5_store_99 sw_lc_0 rfl ?_
            refine sw_sJ (np := 101) (sw_kd_5_3 ho) (sw_ln_5_3 ho) dX5_store_100 rfl (fun S5 => ?_)
            exact sw_vret dX5_store_101
          · refine sw_lconst (np := 96) dX5_store_95 sw_lc_1 rfl ?_
            refine sw_goto (tp := 100) dX5_store_96 rfl ?_
            refine sw_sJ (np := 101) (sw_kd_5_3 ho) (sw_ln_5_3 ho) dX5_store_100 rfl (fun S6 => ?_)
            exact sw_vret dX5_store_101
/-- SwordAttic$Shelf.hours()I -/
def fX5_hours (N : Nat) (o : Nat) (S : sw_St) : Option (Int32 × sw_St) :=
  sw_fx1 (fun rec1 x1_1 S1 => (if x1_1 ≥ (24 : Int32) then (some (x1_1, S1)) else (if x1_1 ≥ (S1.1 o 2) then (some (x1_1, S1)) else (sw_gd (sw_in x1_1 60) (sw_bd (fX8_isCot N ((S1.2 (o + 1) x1_1.toNatClampNeg).toInt32) S1) (fun r1 S2 => (if r1 = 0 then (some (x1_1, S2)) else (rec1 (x1_1 + (1 : Int32)) S2)))))))) N (0 : Int32) S
theorem hX5_hours {G : sw_G} {N d : Nat} (hd : 3 ≤ d) {o : Nat} (ho : sw_kd o = 5) {S : sw_St} : sw_Ev G yX5_hours cX5_hours 2 (some .int) d sw_ei [sw_vr G o] S (fX5_hours N o S) := by
  refine sw_Ev_of (own := RX5) (lv0 := [some (sw_vr G o), none]) (by decide) rfl (Nat.le_of_ble_eq_true rfl) rfl ?_
  unfold fX5_hours
  refine sw_iconst (np := 1) dX5_hours_0 sw_ic_0 rfl ?_
  refine sw_ist_2_1 (np := 2) dX5_hours_1 rfl rfl ?_
  refine sw_lp1 (lv := fun x1_1 => [some (sw_vr G o), some (.int x1_1)]) (fun rec1 hrec1 x1_1 S1 => ?_) _ _ _
  refine sw_ild_2_1 (np := 3) dX5_hours_2 rfl ?_
  refine sw_bipush (np := 5) dX5_hours_3 sw_bc_24 rfl ?_
  refine sw_icmp_ge (np := 8) (tp := 35) dX5_hours_5 rfl rfl ?_ ?_
  · refine sw_ild_2_1 (np := 36) dX5_hours_35 rfl ?_
    exact sw_iret dX5_hours_36
  · refine sw_ild_2_1 (np := 9) dX5_hours_8 rfl ?_
    refine sw_ald_2_0 (np := 10) dX5_hours_9 rfl ?_
    refine sw_gI (np := 13) sw_f_RX5_18 ho dX5_hours_10 rfl ?_
    refine sw_icmp_ge (np := 16) (tp := 35) dX5_hours_13 rfl rfl ?_ ?_
    · refine sw_ild_2_1 (np := 36) dX5_hours_35 rfl ?_
      exact sw_iret dX5_hours_36
    · refine sw_ald_2_0 (np := 17) dX5_hours_16 rfl ?_
      refine sw_gR (np := 20) sw_f_RX5_21 ho (sw_rf_5_3 ho) dX5_hours_17 rfl ?_
      refine sw_ild_2_1 (np := 21) dX5_hours_20 rfl ?_
      refine sw_lald (np := 22) (sw_kd_5_3 ho) (sw_ln_5_3 ho) dX5_hours_21 rfl ?_
      refine sw_l2i (np := 23) dX5_hours_22 rfl ?_
      refine sw_cT1i (np := 26) (hX8_isCot (d := d - 1) (by omega) ) sw_ms_X8_isCot sw_wn_RX5_32 dX5_hours_23 (sw_fit_rm (by omega) (by decide)) (Nat.le_of_ble_eq_true rfl) rfl (fun r1 S2 => ?_)
      refine sw_if_eq (np := 29) (tp := 35) dX5_hours_26 rfl rfl ?_ ?_
      · refine sw_ild_2_1 (np := 36) dX5_hours_35 rfl ?_
        exact sw_iret dX5_hours_36
      · refine sw_inc_2_1 (np := 32) dX5_hours_29 sw_ic_1 rfl rfl ?_
        refine sw_goto (tp := 2) dX5_hours_32 rfl ?_
        exact hrec1 _ _
/-- SwordAttic$Tape.add(I)Z -/
def fX6_add (N : Nat) (p1 : Int32) (S : sw_St) : Option (Int32 × sw_St) :=
  if (S.1 16 0) < (120 : Int32) then (sw_ls (sw_si S 16 0 ((S.1 16 0) + (1 : Int32))) (fun S1 => (sw_gd (sw_in (S.1 16 0) 120) (sw_ls (sw_si S1 22 (S.1 16 0).toNatClampNeg p1) (fun S2 => (some (vp_nar .boolean (1 : Int32), S2))))))) else (some (vp_nar .boolean (0 : Int32), S))
theorem hX6_add {G : sw_G} {N d : Nat} (hd : 1 ≤ d) {p1 : Int32}  {S : sw_St} : sw_Ev G yX6_add cX6_add 2 (some .boolean) d sw_ei [sw_vr G 16, .int p1] S (fX6_add N p1 S) := by
  refine sw_Ev_of (own := RX6) (lv0 := [some (sw_vr G 16), some (.int p1)]) (by decide) rfl (Nat.le_of_ble_eq_true rfl) rfl ?_
  unfold fX6_add
  refine sw_ald_2_0 (np := 1) dX6_add_0 rfl ?_
  refine sw_gI (np := 4) sw_f_RX6_7 sw_k_16 dX6_add_1 rfl ?_
  refine sw_bipush (np := 6) dX6_add_4 sw_bc_120 rfl ?_
  refine sw_icmp_lt (np := 9) (tp := 11) dX6_add_6 rfl rfl ?_ ?_
  · refine sw_ald_2_0 (np := 12) dX6_add_11 rfl ?_
    refine sw_gR (np := 15) sw_f_RX6_20 sw_k_16 sw_r_16_2 dX6_add_12 rfl ?_
    refine sw_ald_2_0 (np := 16) dX6_add_15 rfl ?_
    refine sw_dup (np := 17) dX6_add_16 rfl rfl ?_
    refine sw_gI (np := 20) sw_f_RX6_7 sw_k_16 dX6_add_17 rfl ?_
    refine sw_dup_x1 (np := 21) dX6_add_20 rfl rfl rfl ?_
    refine sw_iconst (np := 22) dX6_add_21 sw_ic_1 rfl ?_
    refine sw_iadd (np := 23) dX6_add_22 rfl ?_
    refine sw_pI (np := 26) sw_f_RX6_7 sw_fp_6_0 sw_k_16 dX6_add_23 rfl (fun S1 => ?_)
    refine sw_ild_2_1 (np := 27) dX6_add_26 rfl ?_
    refine sw_sI (np := 28) sw_k_22 sw_n_22 dX6_add_27 rfl (fun S2 => ?_)
    refine sw_iconst (np := 29) dX6_add_28 sw_ic_1 rfl ?_
    exact sw_zret dX6_add_29
  · refine sw_iconst (np := 10) dX6_add_9 sw_ic_0 rfl ?_
    exact sw_zret dX6_add_10
/-- SwordAttic$Tape.next()I -/
def fX6_next (N : Nat)  (S : sw_St) : Option (Int32 × sw_St) :=
  if (S.1 16 4) ≥ 0 then (some ((-1 : Int32), S)) else (sw_bd (fX8_within N (S.1 16 3) (0 : Int32) ((S.1 16 0) - (1 : Int32)) S) (fun r1 S1 => (if r1 = 0 then (some ((-1 : Int32), S1)) else (sw_gd (sw_in (S1.1 16 3) 120) (some ((S1.1 22 (S1.1 16 3).toNatClampNeg), S1))))))
theorem hX6_next {G : sw_G} {N d : Nat} (hd : 2 ≤ d)   {S : sw_St} : sw_Ev G yX6_next cX6_next 1 (some .int) d sw_ei [sw_vr G 16] S (fX6_next N  S) := by
  refine sw_Ev_of (own := RX6) (lv0 := [some (sw_vr G 16)]) (by decide) rfl (Nat.le_of_ble_eq_true rfl) rfl ?_
  unfold fX6_next
  refine sw_ald_1_0 (np := 1) dX6_next_0 rfl ?_
  refine sw_gI (np := 4) sw_f_RX6_27 sw_k_16 dX6_next_1 rfl ?_
  refine sw_if_ge (np := 7) (tp := 36) dX6_next_4 rfl rfl ?_ ?_
  · refine sw_iconst (np := 37) dX6_next_36 sw_ic_m1 rfl ?_
    exact sw_iret dX6_next_37
  · refine sw_ald_1_0 (np := 8) dX6_next_7 rfl ?_
    refine sw_gI (np := 11) sw_f_RX6_24 sw_k_16 dX6_next_8 rfl ?_
    refine sw_iconst (np := 12) dX6_next_11 sw_ic_0 rfl ?_
    refine sw_ald_1_0 (np := 13) dX6_next_12 rfl ?_
    refine sw_gI (np := 16) sw_f_RX6_7 sw_k_16 dX6_next_13 rfl ?_
    refine sw_iconst (np := 17) dX6_next_16 sw_ic_1 rfl ?_
    refine sw_isub (np := 18) dX6_next_17 rfl ?_
    refine sw_cT3i (np := 21) (hX8_within (d := d - 1) (by omega) ) sw_ms_X8_within sw_wn_RX6_41 dX6_next_18 (sw_fit_rm (by omega) (by decide)) (Nat.le_of_ble_eq_true rfl) rfl (fun r1 S1 => ?_)
    refine sw_if_eq (np := 24) (tp := 36) dX6_next_21 rfl rfl ?_ ?_
    · refine sw_iconst (np := 37) dX6_next_36 sw_ic_m1 rfl ?_
      exact sw_iret dX6_next_37
    · refine sw_ald_1_0 (np := 25) dX6_next_24 rfl ?_
      refine sw_gR (np := 28) sw_f_RX6_20 sw_k_16 sw_r_16_2 dX6_next_25 rfl ?_
      refine sw_ald_1_0 (np := 29) dX6_next_28 rfl ?_
      refine sw_gI (np := 32) sw_f_RX6_24 sw_k_16 dX6_next_29 rfl ?_
      refine sw_iald (np := 33) sw_k_22 sw_n_22 dX6_next_32 rfl ?_
      refine sw_goto (tp := 37) dX6_next_33 rfl ?_
      exact sw_iret dX6_next_37
/-- SwordAttic$Tape.noteFault()V -/
def fX6_noteFault (N : Nat)  (S : sw_St) : Option (Unit × sw_St) :=
  if (S.1 16 4) ≥ 0 then (some ((), S)) else (sw_ls (sw_si S 16 4 (S.1 16 3)) (fun S1 => (some ((), S1))))
theorem hX6_noteFault {G : sw_G} {N d : Nat} (hd : 1 ≤ d)   {S : sw_St} : sw_Ev G yX6_noteFault cX6_noteFault 1 none d sw_ev [sw_vr G 16] S (fX6_noteFault N  S) := by
  refine sw_Ev_of (own := RX6) (lv0 := [some (sw_vr G 16)]) (by decide) rfl (Nat.le_of_ble_eq_true rfl) rfl ?_
  unfold fX6_noteFault
  refine sw_ald_1_0 (np := 1) dX6_noteFault_0 rfl ?_
  refine sw_gI (np := 4) sw_f_RX6_27 sw_k_16 dX6_noteFault_1 rfl ?_
  refine sw_if_ge (np := 7) (tp := 15) dX6_noteFault_4 rfl rfl ?_ ?_
  · exact sw_vret dX6_noteFault_15
  · refine sw_ald_1_0 (np := 8) dX6_noteFault_7 rfl ?_
    refine sw_ald_1_0 (np := 9) dX6_noteFault_8 rfl ?_
    refine sw_gI (np := 12) sw_f_RX6_24 sw_k_16 dX6_noteFault_9 rfl ?_
    refine sw_pI (np := 15) sw_f_RX6_27 sw_fp_6_4 sw_k_16 dX6_noteFault_12 rfl (fun S1 => ?_)
    exact sw_vret dX6_noteFault_15
/-- SwordAttic$Tape.nameOf(I)I -/
def fX6_nameOf (N : Nat) (p0 : Int32) (S : sw_St) : Option (Int32 × sw_St) :=
  if p0 = (98 : Int32) then (some ((3 : Int32), S)) else (if p0 = (99 : Int32) then (some ((4 : Int32), S)) else (if p0 = (100 : Int32) then (some ((0 : Int32), S)) else (if p0 = (109 : Int32) then (some ((2 : Int32), S)) else (if p0 = (116 : Int32) then (some ((5 : Int32), S)) else (if p0 = (121 : Int32) then (some ((1 : Int32), S)) else (some ((-1 : Int32), S)))))))
theorem hX6_nameOf {G : sw_G} {N d : Nat} (hd : 1 ≤ d) {p0 : Int32}  {S : sw_St} : sw_Ev G yX6_nameOf cX6_nameOf 1 (some .int) d sw_ei [.int p0] S (fX6_nameOf N p0 S) := by
  refine sw_Ev_of (own := RX6) (lv0 := [some (.int p0)]) (by decide) rfl (Nat.le_of_ble_eq_true rfl) rfl ?_
  unfold fX6_nameOf
  refine sw_ild_1_0 (np := 1) dX6_nameOf_0 rfl ?_
  refine sw_ite (fun hs1 => ?_) (fun hs1 => ?_)
  · refine sw_look (tp := 66) dX6_nameOf_1 (by decide) (by rw [hs1] <;> decide) rfl ?_
    refine sw_iconst (np := 67) dX6_nameOf_66 sw_ic_3 rfl ?_
    exact sw_iret dX6_nameOf_67
  · refine sw_ite (fun hs2 => ?_) (fun hs2 => ?_)
    · refine sw_look (tp := 68) dX6_nameOf_1 (by decide) (by rw [hs2] <;> decide) rfl ?_
      refine sw_iconst (np := 69) dX6_nameOf_68 sw_ic_4 rfl ?_
      exact sw_iret dX6_nameOf_69
    · refine sw_ite (fun hs3 => ?_) (fun hs3 => ?_)
      · refine sw_look (tp := 60) dX6_nameOf_1 (by decide) (by rw [hs3] <;> decide) rfl ?_
        refine sw_iconst (np := 61) dX6_nameOf_60 sw_ic_0 rfl ?_
        exact sw_iret dX6_nameOf_61
      · refine sw_ite (fun hs4 => ?_) (fun hs4 => ?_)
        · refine sw_look (tp := 64) dX6_nameOf_1 (by decide) (by rw [hs4] <;> decide) rfl ?_
          refine sw_iconst (np := 65) dX6_nameOf_64 sw_ic_2 rfl ?_
          exact sw_iret dX6_nameOf_65
        · refine sw_ite (fun hs5 => ?_) (fun hs5 => ?_)
          · refine sw_look (tp := 70) dX6_nameOf_1 (by decide) (by rw [hs5] <;> decide) rfl ?_
            refine sw_iconst (np := 71) dX6_nameOf_70 sw_ic_5 rfl ?_
            exact sw_iret dX6_nameOf_71
          · refine sw_ite (fun hs6 => ?_) (fun hs6 => ?_)
            · refine sw_look (tp := 62) dX6_nameOf_1 (by decide) (by rw [hs6] <;> decide) rfl ?_
              refine sw_iconst (np := 63) dX6_nameOf_62 sw_ic_1 rfl ?_
              exact sw_iret dX6_nameOf_63
            · refine sw_look (tp := 72) (off := 71) dX6_nameOf_1 (by decide) (by show Op.lookupswitch.offset [(98, 65), (99, 67), (100, 59), (109, 63), (116, 69), (121, 61)] 71 _ = _; rw [lv_osw hs1 (by decide), lv_osw hs2 (by decide), lv_osw hs3 (by decide), lv_osw hs4 (by decide), lv_osw hs5 (by decide), lv_osw hs6 (by decide)]; rfl) rfl ?_
              refine sw_iconst (np := 73) dX6_nameOf_72 sw_ic_m1 rfl ?_
              exact sw_iret dX6_nameOf_73
/-- SwordAttic$Tape.readNumber()V -/
def fX6_readNumber (N : Nat)  (S : sw_St) : Option (Unit × sw_St) :=
  sw_fx2 (fun rec1 x1_1 x2_1 S1 => (if x2_1 ≥ (4 : Int32) then (sw_bd (fX3_add N 17 (48 : Int32) x1_1 S1) (fun _ S2 => (some ((), S2)))) else (sw_bd (fX6_next N S1) (fun r2 S3 => (sw_bd (fX8_within N r2 (48 : Int32) (57 : Int32) S3) (fun r3 S4 => (if r3 = 0 then (sw_bd (fX3_add N 17 (48 : Int32) x1_1 S4) (fun _ S5 => (some ((), S5)))) else (sw_bd (fX6_next N S4) (fun r5 S6 => (sw_li (((x1_1 * (10 : Int32)) + r5) - (48 : Int32)) (fun x1_2 => (sw_ls (sw_si S6 16 3 ((S6.1 16 3) + (1 : Int32))) (fun S7 => (rec1 x1_2 (x2_1 + (1 : Int32)) S7)))))))))))))) N (0 : Int32) (0 : Int32) S
theorem hX6_readNumber {G : sw_G} {N d : Nat} (hd : 3 ≤ d)   {S : sw_St} : sw_Ev G yX6_readNumber cX6_readNumber 3 none d sw_ev [sw_vr G 16] S (fX6_readNumber N  S) := by
  refine sw_Ev_of (own := RX6) (lv0 := [some (sw_vr G 16), none, none]) (by decide) rfl (Nat.le_of_ble_eq_true rfl) rfl ?_
  unfold fX6_readNumber
  refine sw_iconst (np := 1) dX6_readNumber_0 sw_ic_0 rfl ?_
  refine sw_ist_3_1 (np := 2) dX6_readNumber_1 rfl rfl ?_
  refine sw_iconst (np := 3) dX6_readNumber_2 sw_ic_0 rfl ?_
  refine sw_ist_3_2 (np := 4) dX6_readNumber_3 rfl rfl ?_
  refine sw_lp2 (lv := fun x1_1 x2_1 => [some (sw_vr G 16), some (.int x1_1), some (.int x2_1)]) (fun rec1 hrec1 x1_1 x2_1 S1 => ?_) _ _ _ _
  refine sw_ild_3_2 (np := 5) dX6_readNumber_4 rfl ?_
  refine sw_iconst (np := 6) dX6_readNumber_5 sw_ic_4 rfl ?_
  refine sw_icmp_ge (np := 9) (tp := 52) dX6_readNumber_6 rfl rfl ?_ ?_
  · refine sw_ald_3_0 (np := 53) dX6_readNumber_52 rfl ?_
    refine sw_gR (np := 56) sw_f_RX6_16 sw_k_16 sw_r_16_1 dX6_readNumber_53 rfl ?_
    refine sw_bipush (np := 58) dX6_readNumber_56 sw_bc_48 rfl ?_
    refine sw_ild_3_1 (np := 59) dX6_readNumber_58 rfl ?_
    refine sw_cV2v (np := 62) (hX3_add (d := d - 1) (by omega) sw_k_17) sw_mv_X3_add sw_k_17 sw_wl_RX6_51 dX6_readNumber_59 (sw_fit_rm (by omega) (by decide)) (Nat.le_of_ble_eq_true rfl) rfl (fun _ S2 => ?_)
    exact sw_vret dX6_readNumber_62
  · refine sw_ald_3_0 (np := 10) dX6_readNumber_9 rfl ?_
    refine sw_cV0i (np := 13) (hX6_next (d := d - 1) (by omega) ) sw_mv_X6_next sw_k_16 sw_wl_RX6_34 dX6_readNumber_10 (sw_fit_rm (by omega) (by decide)) (Nat.le_of_ble_eq_true rfl) rfl (fun r2 S3 => ?_)
    refine sw_bipush (np := 15) dX6_readNumber_13 sw_bc_48 rfl ?_
    refine sw_bipush (np := 17) dX6_readNumber_15 sw_bc_57 rfl ?_
    refine sw_cT3i (np := 20) (hX8_within (d := d - 1) (by omega) ) sw_ms_X8_within sw_wn_RX6_41 dX6_readNumber_17 (sw_fit_rm (by omega) (by decide)) (Nat.le_of_ble_eq_true rfl) rfl (fun r3 S4 => ?_)
    refine sw_if_eq (np := 23) (tp := 52) dX6_readNumber_20 rfl rfl ?_ ?_
    · refine sw_ald_3_0 (np := 53) dX6_readNumber_52 rfl ?_
      refine sw_gR (np := 56) sw_f_RX6_16 sw_k_16 sw_r_16_1 dX6_readNumber_53 rfl ?_
      refine sw_bipush (np := 58) dX6_readNumber_56 sw_bc_48 rfl ?_
      refine sw_ild_3_1 (np := 59) dX6_readNumber_58 rfl ?_
      refine sw_cV2v (np := 62) (hX3_add (d := d - 1) (by omega) sw_k_17) sw_mv_X3_add sw_k_17 sw_wl_RX6_51 dX6_readNumber_59 (sw_fit_rm (by omega) (by decide)) (Nat.le_of_ble_eq_true rfl) rfl (fun _ S5 => ?_)
      exact sw_vret dX6_readNumber_62
    · refine sw_ild_3_1 (np := 24) dX6_readNumber_23 rfl ?_
      refine sw_bipush (np := 26) dX6_readNumber_24 sw_bc_10 rfl ?_
      refine sw_imul (np := 27) dX6_readNumber_26 rfl ?_
      refine sw_ald_3_0 (np := 28) dX6_readNumber_27 rfl ?_
      refine sw_cV0i (np := 31) (hX6_next (d := d - 1) (by omega) ) sw_mv_X6_next sw_k_16 sw_wl_RX6_34 dX6_readNumber_28 (sw_fit_rm (by omega) (by decide)) (Nat.le_of_ble_eq_true rfl) rfl (fun r5 S6 => ?_)
      refine sw_iadd (np := 32) dX6_readNumber_31 rfl ?_
      refine sw_bipush (np := 34) dX6_readNumber_32 sw_bc_48 rfl ?_
      refine sw_isub (np := 35) dX6_readNumber_34 rfl ?_
      refine sw_isl_3_1 (np := 36) dX6_readNumber_35 rfl rfl (fun x1_2 => ?_)
      refine sw_ald_3_0 (np := 37) dX6_readNumber_36 rfl ?_
      refine sw_dup (np := 38) dX6_readNumber_37 rfl rfl ?_
      refine sw_gI (np := 41) sw_f_RX6_24 sw_k_16 dX6_readNumber_38 rfl ?_
      refine sw_iconst (np := 42) dX6_readNumber_41 sw_ic_1 rfl ?_
      refine sw_iadd (np := 43) dX6_readNumber_42 rfl ?_
      refine sw_pI (np := 46) sw_f_RX6_24 sw_fp_6_3 sw_k_16 dX6_readNumber_43 rfl (fun S7 => ?_)
      refine sw_inc_3_2 (np := 49) dX6_readNumber_46 sw_ic_1 rfl rfl ?_
      refine sw_goto (tp := 4) dX6_readNumber_49 rfl ?_
      exact hrec1 _ _ _
