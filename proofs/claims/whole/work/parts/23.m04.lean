/-- SwordAttic$Thought.drawNights(IIIII)I -/
def fX7_drawNights (N : Nat) (p1 : Int32) (p2 : Int32) (p3 : Int32) (p4 : Int32) (p5 : Int32) (S : sw_St) : Option (Int32 × sw_St) :=
  sw_bd (fX7_fresh N S) (fun r1 S1 => sw_gd (decide (sw_kd r1 = 4)) (sw_fx3 (fun rec1 x6_1 x7_1 x9_1 S2 => (if x9_1 ≥ p2 then (some (x7_1, S2)) else (sw_bd (fX4_becomeInMind N r1 1 S2) (fun _ S3 => (sw_fx2 (fun rec2 x6_2 x10_1 S4 => (if x10_1 ≥ p3 then (if p5 ≥ 0 then (sw_gd (sw_in p5 10) (sw_li (x7_1 + (S4.1 (r1 + 4) p5.toNatClampNeg)) (fun x7_2 => (rec1 x6_2 x7_2 (x9_1 + (1 : Int32)) S4)))) else (sw_bd (fX4_howManyAwake N r1 S4) (fun r3 S5 => (sw_li (x7_1 + r3) (fun x7_3 => (rec1 x6_2 x7_3 (x9_1 + (1 : Int32)) S5)))))) else (sw_li ((x6_2 * (1103515245 : Int32)) + (12345 : Int32)) (fun x6_3 => (if (((x6_3.toUInt32 >>> ((20 : Int32).toUInt32 &&& Int32.toUInt32 31)).toInt32) - ((x6_3.toUInt32 >>> ((20 : Int32).toUInt32 &&& Int32.toUInt32 31)).toInt32) / (12 : Int32) * (12 : Int32)) ≥ p4 then (sw_bd (fX4_passHour N r1 11 (((x6_3.toUInt32 >>> ((8 : Int32).toUInt32 &&& Int32.toUInt32 31)).toInt32) - ((x6_3.toUInt32 >>> ((8 : Int32).toUInt32 &&& Int32.toUInt32 31)).toInt32) / (12 : Int32) * (12 : Int32)) S4) (fun _ S6 => (rec2 x6_3 (x10_1 + (1 : Int32)) S6))) else (sw_bd (fX4_touchFrom N r1 (((x6_3.toUInt32 >>> ((16 : Int32).toUInt32 &&& Int32.toUInt32 31)).toInt32) - ((x6_3.toUInt32 >>> ((16 : Int32).toUInt32 &&& Int32.toUInt32 31)).toInt32) / (12 : Int32) * (12 : Int32)) S4) (fun r5 S7 => (sw_bd (fX4_passHour N r1 11 (((x6_3.toUInt32 >>> ((8 : Int32).toUInt32 &&& Int32.toUInt32 31)).toInt32) - ((x6_3.toUInt32 >>> ((8 : Int32).toUInt32 &&& Int32.toUInt32 31)).toInt32) / (12 : Int32) * (12 : Int32)) S7) (fun _ S8 => (rec2 x6_3 (x10_1 + (1 : Int32)) S8)))))))))) N x6_1 (0 : Int32) S3))))) N p1 (0 : Int32) (0 : Int32) S1))
theorem hX7_drawNights {G : sw_G} {N d : Nat} (hd : 6 ≤ d) {p1 : Int32} {p2 : Int32} {p3 : Int32} {p4 : Int32} {p5 : Int32}  {S : sw_St} : sw_Ev G yX7_drawNights cX7_drawNights 11 (some .int) d sw_ei [sw_vr G 23, .int p1, .int p2, .int p3, .int p4, .int p5] S (fX7_drawNights N p1 p2 p3 p4 p5 S) := by
  refine sw_Ev_of (own := RX7) (lv0 := [some (sw_vr G 23), some (.int p1), some (.int p2), some (.int p3), some (.int p4), some (.int p5), none, none, none, none, none]) (by decide) rfl (Nat.le_of_ble_eq_true rfl) rfl ?_
  unfold fX7_drawNights
  refine sw_ild_11_1 (np := 1) dX7_drawNights_0 rfl ?_
  refine sw_ist_11_6 (np := 3) dX7_drawNights_1 rfl rfl ?_
  refine sw_iconst (np := 4) dX7_drawNights_3 sw_ic_0 rfl ?_
  refine sw_ist_11_7 (np := 6) dX7_drawNights_4 rfl rfl ?_
  refine sw_ald_11_0 (np := 7) dX7_drawNights_6 rfl ?_
  refine sw_cV0n (np := 10) (hX7_fresh (d := d - 1) (by omega) ) sw_mv_X7_fresh sw_k_23 sw_wl_RX7_62 dX7_drawNights_7 (sw_fit_rm (by omega) (by decide)) (Nat.le_of_ble_eq_true rfl) rfl (fun r1 S1 hq1 => ?_)
  refine sw_ast_11_8 (np := 12) dX7_drawNights_10 rfl rfl ?_
  refine sw_iconst (np := 13) dX7_drawNights_12 sw_ic_0 rfl ?_
  refine sw_ist_11_9 (np := 15) dX7_drawNights_13 rfl rfl ?_
  refine sw_dr_11_1 ?_
  refine sw_lp3 (lv := fun x6_1 x7_1 x9_1 => [some (sw_vr G 23), none, some (.int p2), some (.int p3), some (.int p4), some (.int p5), some (.int x6_1), some (.int x7_1), some (sw_vr G r1), some (.int x9_1), none]) (fun rec1 hrec1 x6_1 x7_1 x9_1 S2 => ?_) _ _ _ _ _
  refine sw_ild_11_9 (np := 17) dX7_drawNights_15 rfl ?_
  refine sw_ild_11_2 (np := 18) dX7_drawNights_17 rfl ?_
  refine sw_icmp_ge (np := 21) (tp := 132) dX7_drawNights_18 rfl rfl ?_ ?_
  · refine sw_ild_11_7 (np := 134) dX7_drawNights_132 rfl ?_
    exact sw_iret dX7_drawNights_134
  · refine sw_ald_11_8 (np := 23) dX7_drawNights_21 rfl ?_
    refine sw_ald_11_0 (np := 24) dX7_drawNights_23 rfl ?_
    refine sw_gR (np := 27) sw_f_RX7_49 sw_k_23 sw_r_23_7 dX7_drawNights_24 rfl ?_
    refine sw_cV1v (np := 30) (hX4_becomeInMind (d := d - 1) (by omega) hq1 sw_k_1) sw_mv_X4_becomeInMind hq1 sw_wl_RX7_168 dX7_drawNights_27 (sw_fit_rm (by omega) (by decide)) (Nat.le_of_ble_eq_true rfl) rfl (fun _ S3 => ?_)
    refine sw_iconst (np := 31) dX7_drawNights_30 sw_ic_0 rfl ?_
    refine sw_ist_11_10 (np := 33) dX7_drawNights_31 rfl rfl ?_
    refine sw_lp2 (lv := fun x6_2 x10_1 => [some (sw_vr G 23), none, some (.int p2), some (.int p3), some (.int p4), some (.int p5), some (.int x6_2), some (.int x7_1), some (sw_vr G r1), some (.int x9_1), some (.int x10_1)]) (fun rec2 hrec2 x6_2 x10_1 S4 => ?_) _ _ _ _
    refine sw_ild_11_10 (np := 35) dX7_drawNights_33 rfl ?_
    refine sw_ild_11_3 (np := 36) dX7_drawNights_35 rfl ?_
    refine sw_icmp_ge (np := 39) (tp := 100) dX7_drawNights_36 rfl rfl ?_ ?_
    · refine sw_ild_11_7 (np := 102) dX7_drawNights_100 rfl ?_
      refine sw_ild_11_5 (np := 104) dX7_drawNights_102 rfl ?_
      refine sw_if_ge (np := 107) (tp := 115) dX7_drawNights_104 rfl rfl ?_ ?_
      · refine sw_ald_11_8 (np := 117) dX7_drawNights_115 rfl ?_
        refine sw_gR (np := 120) sw_f_RX7_86 hq1 (sw_rf_4_8 hq1) dX7_drawNights_117 rfl ?_
        refine sw_ild_11_5 (np := 122) dX7_drawNights_120 rfl ?_
        refine sw_iald (np := 123) (sw_kd_4_8 hq1) (sw_ln_4_8 hq1) dX7_drawNights_122 rfl ?_
        refine sw_iadd (np := 124) dX7_drawNights_123 rfl ?_
        refine sw_isl_11_7 (np := 126) dX7_drawNights_124 rfl rfl (fun x7_2 => ?_)
        refine sw_inc_11_9 (np := 129) dX7_drawNights_126 sw_ic_1 rfl rfl ?_
        refine sw_goto (tp := 15) dX7_drawNights_129 rfl ?_
        refine sw_dr_11_10 ?_
        exact hrec1 _ _ _ _
      · refine sw_ald_11_8 (np := 109) dX7_drawNights_107 rfl ?_
        refine sw_cV0i (np := 112) (hX4_howManyAwake (d := d - 1) (by omega) hq1) sw_mv_X4_howManyAwake hq1 sw_wl_RX7_121 dX7_drawNights_109 (sw_fit_rm (by omega) (by decide)) (Nat.le_of_ble_eq_true rfl) rfl (fun r3 S5 => ?_)
        refine sw_goto (tp := 123) dX7_drawNights_112 rfl ?_
        refine sw_iadd (np := 124) dX7_drawNights_123 rfl ?_
        refine sw_isl_11_7 (np := 126) dX7_drawNights_124 rfl rfl (fun x7_3 => ?_)
        refine sw_inc_11_9 (np := 129) dX7_drawNights_126 sw_ic_1 rfl rfl ?_
        refine sw_goto (tp := 15) dX7_drawNights_129 rfl ?_
        refine sw_dr_11_10 ?_
        exact hrec1 _ _ _ _
    · refine sw_ild_11_6 (np := 41) dX7_drawNights_39 rfl ?_
      refine sw_ldc (np := 43) sw_wc_RX7_180 dX7_drawNights_41 rfl ?_
      refine sw_imul (np := 44) dX7_drawNights_43 rfl ?_
      refine sw_sipush (np := 47) dX7_drawNights_44 sw_sc_12345 rfl ?_
      refine sw_iadd (np := 48) dX7_drawNights_47 rfl ?_
      refine sw_isl_11_6 (np := 50) dX7_drawNights_48 rfl rfl (fun x6_3 => ?_)
      refine sw_ild_11_6 (np := 52) dX7_drawNights_50 rfl ?_
      refine sw_bipush (np := 54) dX7_drawNights_52 sw_bc_20 rfl ?_
      refine sw_iushr (np := 55) dX7_drawNights_54 rfl ?_
      refine sw_bipush (np := 57) dX7_drawNights_55 sw_bc_12 rfl ?_
      refine sw_irem (np := 58) dX7_drawNights_57 (by decide) rfl ?_
      refine sw_ild_11_4 (np := 60) dX7_drawNights_58 rfl ?_
      refine sw_icmp_ge (np := 63) (tp := 77) dX7_drawNights_60 rfl rfl ?_ ?_
      · refine sw_ald_11_8 (np := 79) dX7_drawNights_77 rfl ?_
        refine sw_ald_11_0 (np := 80) dX7_drawNights_79 rfl ?_
        refine sw_gR (np := 83) sw_f_RX7_53 sw_k_23 sw_r_23_8 dX7_drawNights_80 rfl ?_
        refine sw_ild_11_6 (np := 85) dX7_drawNights_83 rfl ?_
        refine sw_bipush (np := 87) dX7_drawNights_85 sw_bc_8 rfl ?_
        refine sw_iushr (np := 88) dX7_drawNights_87 rfl ?_
        refine sw_bipush (np := 90) dX7_drawNights_88 sw_bc_12 rfl ?_
        refine sw_irem (np := 91) dX7_drawNights_90 (by decide) rfl ?_
        refine sw_cV2v (np := 94) (hX4_passHour (d := d - 1) (by omega) hq1 sw_k_11) sw_mv_X4_passHour hq1 sw_wl_RX7_82 dX7_drawNights_91 (sw_fit_rm (by omega) (by decide)) (Nat.le_of_ble_eq_true rfl) rfl (fun _ S6 => ?_)
        refine sw_inc_11_10 (np := 97) dX7_drawNights_94 sw_ic_1 rfl rfl ?_
        refine sw_goto (tp := 33) dX7_drawNights_97 rfl ?_
        exact hrec2 _ _ _
      · refine sw_ald_11_8 (np := 65) dX7_drawNights_63 rfl ?_
        refine sw_ild_11_6 (np := 67) dX7_drawNights_65 rfl ?_
        refine sw_bipush (np := 69) dX7_drawNights_67 sw_bc_16 rfl ?_
        refine sw_iushr (np := 70) dX7_drawNights_69 rfl ?_
        refine sw_bipush (np := 72) dX7_drawNights_70 sw_bc_12 rfl ?_
        refine sw_irem (np := 73) dX7_drawNights_72 (by decide) rfl ?_
        refine sw_cV1i (np := 76) (hX4_touchFrom (d := d - 1) (by omega) hq1) sw_mv_X4_touchFrom hq1 sw_wl_RX7_177 dX7_drawNights_73 (sw_fit_rm (by omega) (by decide)) (Nat.le_of_ble_eq_true rfl) rfl (fun r5 S7 => ?_)
        refine sw_pop (np := 77) dX7_drawNights_76 rfl rfl ?_
        refine sw_ald_11_8 (np := 79) dX7_drawNights_77 rfl ?_
        refine sw_ald_11_0 (np := 80) dX7_drawNights_79 rfl ?_
        refine sw_gR (np := 83) sw_f_RX7_53 sw_k_23 sw_r_23_8 dX7_drawNights_80 rfl ?_
        refine sw_ild_11_6 (np := 85) dX7_drawNights_83 rfl ?_
        refine sw_bipush (np := 87) dX7_drawNights_85 sw_bc_8 rfl ?_
        refine sw_iushr (np := 88) dX7_drawNights_87 rfl ?_
        refine sw_bipush (np := 90) dX7_drawNights_88 sw_bc_12 rfl ?_
        refine sw_irem (np := 91) dX7_drawNights_90 (by decide) rfl ?_
        refine sw_cV2v (np := 94) (hX4_passHour (d := d - 1) (by omega) hq1 sw_k_11) sw_mv_X4_passHour hq1 sw_wl_RX7_82 dX7_drawNights_91 (sw_fit_rm (by omega) (by decide)) (Nat.le_of_ble_eq_true rfl) rfl (fun _ S8 => ?_)
        refine sw_inc_11_10 (np := 97) dX7_drawNights_94 sw_ic_1 rfl rfl ?_
        refine sw_goto (tp := 33) dX7_drawNights_97 rfl ?_
        exact hrec2 _ _ _
/-- SwordAttic.sword(II)I -/
def fX8_sword (N : Nat) (p1 : Int32) (p2 : Int32) (S : sw_St) : Option (Int32 × sw_St) :=
  sw_bd (fX4_mayCome N 1 p1 p2 (0 : Int32) S) (fun r1 S1 => (if r1 = 0 then (some ((-1 : Int32), S1)) else (if (S1.1 1 0) ≥ (10 : Int32) then (some ((-3 : Int32), S1)) else (sw_bd (fX4_add N 1 p1 p2 (50 : Int32) S1) (fun r2 S2 => (some (r2, S2)))))))
theorem hX8_sword {G : sw_G} {N d : Nat} (hd : 4 ≤ d) {p1 : Int32} {p2 : Int32}  {S : sw_St} : sw_Ev G yX8_sword cX8_sword 3 (some .int) d sw_ei [sw_vr G 0, .int p1, .int p2] S (fX8_sword N p1 p2 S) := by
  refine sw_Ev_of (own := RX8) (lv0 := [some (sw_vr G 0), some (.int p1), some (.int p2)]) (by decide) rfl (Nat.le_of_ble_eq_true rfl) rfl ?_
  unfold fX8_sword
  refine sw_ald_3_0 (np := 1) dX8_sword_0 rfl ?_
  refine sw_gR (np := 4) sw_f_RX8_10 sw_k_0 sw_r_0_0 dX8_sword_1 rfl ?_
  refine sw_ild_3_1 (np := 5) dX8_sword_4 rfl ?_
  refine sw_ild_3_2 (np := 6) dX8_sword_5 rfl ?_
  refine sw_iconst (np := 7) dX8_sword_6 sw_ic_0 rfl ?_
  refine sw_cV3i (np := 10) (hX4_mayCome (d := d - 1) (by omega) sw_k_1) sw_mv_X4_mayCome sw_k_1 sw_wl_RX8_67 dX8_sword_7 (sw_fit_rm (by omega) (by decide)) (Nat.le_of_ble_eq_true rfl) rfl (fun r1 S1 => ?_)
  refine sw_if_ne (np := 13) (tp := 15) dX8_sword_10 rfl rfl ?_ ?_
  · refine sw_ald_3_0 (np := 16) dX8_sword_15 rfl ?_
    refine sw_gR (np := 19) sw_f_RX8_10 sw_k_0 sw_r_0_0 dX8_sword_16 rfl ?_
    refine sw_gI (np := 22) sw_f_RX8_71 sw_k_1 dX8_sword_19 rfl ?_
    refine sw_bipush (np := 24) dX8_sword_22 sw_bc_10 rfl ?_
    refine sw_icmp_ge (np := 27) (tp := 41) dX8_sword_24 rfl rfl ?_ ?_
    · refine sw_bipush (np := 43) dX8_sword_41 sw_bc_m3 rfl ?_
      exact sw_iret dX8_sword_43
    · refine sw_ald_3_0 (np := 28) dX8_sword_27 rfl ?_
      refine sw_gR (np := 31) sw_f_RX8_10 sw_k_0 sw_r_0_0 dX8_sword_28 rfl ?_
      refine sw_ild_3_1 (np := 32) dX8_sword_31 rfl ?_
      refine sw_ild_3_2 (np := 33) dX8_sword_32 rfl ?_
      refine sw_bipush (np := 35) dX8_sword_33 sw_bc_50 rfl ?_
      refine sw_cV3i (np := 38) (hX4_add (d := d - 1) (by omega) sw_k_1) sw_mv_X4_add sw_k_1 sw_wl_RX8_75 dX8_sword_35 (sw_fit_rm (by omega) (by decide)) (Nat.le_of_ble_eq_true rfl) rfl (fun r2 S2 => ?_)
      refine sw_goto (tp := 43) dX8_sword_38 rfl ?_
      exact sw_iret dX8_sword_43
  · refine sw_iconst (np := 14) dX8_sword_13 sw_ic_m1 rfl ?_
    exact sw_iret dX8_sword_14
/-- SwordAttic.isShelf(I)Z -/
def fX8_isShelf (N : Nat) (p0 : Int32) (S : sw_St) : Option (Int32 × sw_St) :=
  sw_bd (fX8_within N p0 (0 : Int32) (5 : Int32) S) (fun r1 S1 => (some (vp_nar .boolean r1, S1)))
theorem hX8_isShelf {G : sw_G} {N d : Nat} (hd : 2 ≤ d) {p0 : Int32}  {S : sw_St} : sw_Ev G yX8_isShelf cX8_isShelf 1 (some .boolean) d sw_ei [.int p0] S (fX8_isShelf N p0 S) := by
  refine sw_Ev_of (own := RX8) (lv0 := [some (.int p0)]) (by decide) rfl (Nat.le_of_ble_eq_true rfl) rfl ?_
  unfold fX8_isShelf
  refine sw_ild_1_0 (np := 1) dX8_isShelf_0 rfl ?_
  refine sw_iconst (np := 2) dX8_isShelf_1 sw_ic_0 rfl ?_
  refine sw_iconst (np := 3) dX8_isShelf_2 sw_ic_5 rfl ?_
  refine sw_cS3i (np := 6) (hX8_within (d := d - 1) (by omega) ) sw_ms_X8_within sw_wl_RX8_83 dX8_isShelf_3 (sw_fit_rm (by omega) (by decide)) (Nat.le_of_ble_eq_true rfl) rfl (fun r1 S1 => ?_)
  exact sw_zret dX8_isShelf_6
/-- SwordAttic.swords(III)I -/
def fX8_swords (N : Nat) (p1 : Int32) (p2 : Int32) (p3 : Int32) (S : sw_St) : Option (Int32 × sw_St) :=
  sw_bd (fX8_isShelf N p1 S) (fun r1 S1 => (if r1 = 0 then (some ((-1 : Int32), S1)) else (sw_bd (fX8_within N p3 (1 : Int32) (10 : Int32) S1) (fun r2 S2 => (if r2 = 0 then (some ((-1 : Int32), S2)) else (sw_gd (sw_in p1 6) (sw_bd (fX5_holdsNothing N (93 + 2 * p1.toNatClampNeg) S2) (fun r3 S3 => (if r3 = 0 then (sw_bd (fX5_holdsBytes N (93 + 2 * p1.toNatClampNeg) S3) (fun r4 S4 => (if r4 = 0 then (some ((-12 : Int32), S4)) else (sw_bd (fX4_addFrom N 1 (93 + 2 * p1.toNatClampNeg) p2 p3 S4) (fun r5 S5 => (some (r5, S5))))))) else (some ((0 : Int32), S3)))))))))))
theorem hX8_swords {G : sw_G} {N d : Nat} (hd : 5 ≤ d) {p1 : Int32} {p2 : Int32} {p3 : Int32}  {S : sw_St} : sw_Ev G yX8_swords cX8_swords 5 (some .int) d sw_ei [sw_vr G 0, .int p1, .int p2, .int p3] S (fX8_swords N p1 p2 p3 S) := by
  refine sw_Ev_of (own := RX8) (lv0 := [some (sw_vr G 0), some (.int p1), some (.int p2), some (.int p3), none]) (by decide) rfl (Nat.le_of_ble_eq_true rfl) rfl ?_
  unfold fX8_swords
  refine sw_ild_5_1 (np := 1) dX8_swords_0 rfl ?_
  refine sw_cS1i (np := 4) (hX8_isShelf (d := d - 1) (by omega) ) sw_ms_X8_isShelf sw_wl_RX8_79 dX8_swords_1 (sw_fit_rm (by omega) (by decide)) (Nat.le_of_ble_eq_true rfl) rfl (fun r1 S1 => ?_)
  refine sw_if_eq (np := 7) (tp := 17) dX8_swords_4 rfl rfl ?_ ?_
  · refine sw_iconst (np := 18) dX8_swords_17 sw_ic_m1 rfl ?_
    exact sw_iret dX8_swords_18
  · refine sw_ild_5_3 (np := 8) dX8_swords_7 rfl ?_
    refine sw_iconst (np := 9) dX8_swords_8 sw_ic_1 rfl ?_
    refine sw_bipush (np := 11) dX8_swords_9 sw_bc_10 rfl ?_
    refine sw_cS3i (np := 14) (hX8_within (d := d - 1) (by omega) ) sw_ms_X8_within sw_wl_RX8_83 dX8_swords_11 (sw_fit_rm (by omega) (by decide)) (Nat.le_of_ble_eq_true rfl) rfl (fun r2 S2 => ?_)
    refine sw_if_ne (np := 17) (tp := 19) dX8_swords_14 rfl rfl ?_ ?_
    · refine sw_ald_5_0 (np := 20) dX8_swords_19 rfl ?_
      refine sw_gR (np := 23) sw_f_RX8_62 sw_k_0 sw_r_0_7 dX8_swords_20 rfl ?_
      refine sw_ild_5_1 (np := 24) dX8_swords_23 rfl ?_
      refine sw_aldS (np := 25) dX8_swords_24 rfl (fun hq1 => ?_)
      refine sw_ast_5_4 (np := 27) dX8_swords_25 rfl rfl ?_
      refine sw_ald_5_4 (np := 29) dX8_swords_27 rfl ?_
      refine sw_cV0i (np := 32) (hX5_holdsNothing (d := d - 1) (by omega) hq1) sw_mv_X5_holdsNothing hq1 sw_wl_RX8_86 dX8_swords_29 (sw_fit_rm (by omega) (by decide)) (Nat.le_of_ble_eq_true rfl) rfl (fun r3 S3 => ?_)
      refine sw_if_eq (np := 35) (tp := 37) dX8_swords_32 rfl rfl ?_ ?_
      · refine sw_ald_5_4 (np := 39) dX8_swords_37 rfl ?_
        refine sw_cV0i (np := 42) (hX5_holdsBytes (d := d - 1) (by omega) hq1) sw_mv_X5_holdsBytes hq1 sw_wl_RX8_90 dX8_swords_39 (sw_fit_rm (by omega) (by decide)) (Nat.le_of_ble_eq_true rfl) rfl (fun r4 S4 => ?_)
        refine sw_if_eq (np := 45) (tp := 59) dX8_swords_42 rfl rfl ?_ ?_
        · refine sw_bipush (np := 61) dX8_swords_59 sw_bc_m12 rfl ?_
          exact sw_iret dX8_swords_61
        · refine sw_ald_5_0 (np := 46) dX8_swords_45 rfl ?_
          refine sw_gR (np := 49) sw_f_RX8_10 sw_k_0 sw_r_0_0 dX8_swords_46 rfl ?_
          refine sw_ald_5_4 (np := 51) dX8_swords_49 rfl ?_
          refine sw_ild_5_2 (np := 52) dX8_swords_51 rfl ?_
          refine sw_ild_5_3 (np := 53) dX8_swords_52 rfl ?_
          refine sw_cV3i (np := 56) (hX4_addFrom (d := d - 1) (by omega) sw_k_1 hq1) sw_mv_X4_addFrom sw_k_1 sw_wl_RX8_93 dX8_swords_53 (sw_fit_rm (by omega) (by decide)) (Nat.le_of_ble_eq_true rfl) rfl (fun r5 S5 => ?_)
          refine sw_goto (tp := 61) dX8_swords_56 rfl ?_
          exact sw_iret dX8_swords_61
      · refine sw_iconst (np := 36) dX8_swords_35 sw_ic_0 rfl ?_
        exact sw_iret dX8_swords_36
    · refine sw_iconst (np := 18) dX8_swords_17 sw_ic_m1 rfl ?_
      exact sw_iret dX8_swords_18
/-- SwordAttic.isSword(I)Z -/
def fX8_isSword (N : Nat) (p1 : Int32) (S : sw_St) : Option (Int32 × sw_St) :=
  sw_bd (fX8_within N p1 (0 : Int32) ((S.1 1 0) - (1 : Int32)) S) (fun r1 S1 => (some (vp_nar .boolean r1, S1)))
theorem hX8_isSword {G : sw_G} {N d : Nat} (hd : 2 ≤ d) {p1 : Int32}  {S : sw_St} : sw_Ev G yX8_isSword cX8_isSword 2 (some .boolean) d sw_ei [sw_vr G 0, .int p1] S (fX8_isSword N p1 S) := by
  refine sw_Ev_of (own := RX8) (lv0 := [some (sw_vr G 0), some (.int p1)]) (by decide) rfl (Nat.le_of_ble_eq_true rfl) rfl ?_
  unfold fX8_isSword
  refine sw_ild_2_1 (np := 1) dX8_isSword_0 rfl ?_
  refine sw_iconst (np := 2) dX8_isSword_1 sw_ic_0 rfl ?_
  refine sw_ald_2_0 (np := 3) dX8_isSword_2 rfl ?_
  refine sw_gR (np := 6) sw_f_RX8_10 sw_k_0 sw_r_0_0 dX8_isSword_3 rfl ?_
  refine sw_gI (np := 9) sw_f_RX8_71 sw_k_1 dX8_isSword_6 rfl ?_
  refine sw_iconst (np := 10) dX8_isSword_9 sw_ic_1 rfl ?_
  refine sw_isub (np := 11) dX8_isSword_10 rfl ?_
  refine sw_cS3i (np := 14) (hX8_within (d := d - 1) (by omega) ) sw_ms_X8_within sw_wl_RX8_83 dX8_isSword_11 (sw_fit_rm (by omega) (by decide)) (Nat.le_of_ble_eq_true rfl) rfl (fun r1 S1 => ?_)
  exact sw_zret dX8_isSword_14
/-- SwordAttic.isMendable(II)Z -/
def fX8_isMendable (N : Nat) (p1 : Int32) (p2 : Int32) (S : sw_St) : Option (Int32 × sw_St) :=
  sw_bd (fX8_within N p2 (0 : Int32) (4 : Int32) S) (fun r1 S1 => (if r1 = 0 then (sw_bd (fX8_within N p2 (5 : Int32) (7 : Int32) S1) (fun r2 S2 => (if r2 = 0 then (some (vp_nar .boolean (0 : Int32), S2)) else (if p1 = 0 then (some (vp_nar .boolean (1 : Int32), S2)) else (some (vp_nar .boolean (0 : Int32), S2)))))) else (sw_bd (fX8_isSword N p1 S1) (fun r3 S3 => (some (vp_nar .boolean r3, S3))))))
theorem hX8_isMendable {G : sw_G} {N d : Nat} (hd : 3 ≤ d) {p1 : Int32} {p2 : Int32}  {S : sw_St} : sw_Ev G yX8_isMendable cX8_isMendable 3 (some .boolean) d sw_ei [sw_vr G 0, .int p1, .int p2] S (fX8_isMendable N p1 p2 S) := by
  refine sw_Ev_of (own := RX8) (lv0 := [some (sw_vr G 0), some (.int p1), some (.int p2)]) (by decide) rfl (Nat.le_of_ble_eq_true rfl) rfl ?_
  unfold fX8_isMendable
  refine sw_ild_3_2 (np := 1) dX8_isMendable_0 rfl ?_
  refine sw_iconst (np := 2) dX8_isMendable_1 sw_ic_0 rfl ?_
  refine sw_iconst (np := 3) dX8_isMendable_2 sw_ic_4 rfl ?_
  refine sw_cS3i (np := 6) (hX8_within (d := d - 1) (by omega) ) sw_ms_X8_within sw_wl_RX8_83 dX8_isMendable_3 (sw_fit_rm (by omega) (by decide)) (Nat.le_of_ble_eq_true rfl) rfl (fun r1 S1 => ?_)
  refine sw_if_eq (np := 9) (tp := 17) dX8_isMendable_6 rfl rfl ?_ ?_
  · refine sw_ild_3_2 (np := 18) dX8_isMendable_17 rfl ?_
    refine sw_iconst (np := 19) dX8_isMendable_18 sw_ic_5 rfl ?_
    refine sw_bipush (np := 21) dX8_isMendable_19 sw_bc_7 rfl ?_
    refine sw_cS3i (np := 24) (hX8_within (d := d - 1) (by omega) ) sw_ms_X8_within sw_wl_RX8_83 dX8_isMendable_21 (sw_fit_rm (by omega) (by decide)) (Nat.le_of_ble_eq_true rfl) rfl (fun r2 S2 => ?_)
    refine sw_if_eq (np := 27) (tp := 35) dX8_isMendable_24 rfl rfl ?_ ?_
    · refine sw_iconst (np := 36) dX8_isMendable_35 sw_ic_0 rfl ?_
      exact sw_zret dX8_isMendable_36
    · refine sw_ild_3_1 (np := 28) dX8_isMendable_27 rfl ?_
      refine sw_if_ne (np := 31) (tp := 35) dX8_isMendable_28 rfl rfl ?_ ?_
      · refine sw_iconst (np := 36) dX8_isMendable_35 sw_ic_0 rfl ?_
        exact sw_zret dX8_isMendable_36
      · refine sw_iconst (np := 32) dX8_isMendable_31 sw_ic_1 rfl ?_
        refine sw_goto (tp := 36) dX8_isMendable_32 rfl ?_
        exact sw_zret dX8_isMendable_36
  · refine sw_ald_3_0 (np := 10) dX8_isMendable_9 rfl ?_
    refine sw_ild_3_1 (np := 11) dX8_isMendable_10 rfl ?_
    refine sw_cV1i (np := 14) (hX8_isSword (d := d - 1) (by omega) ) sw_mv_X8_isSword sw_k_0 sw_wl_RX8_141 dX8_isMendable_11 (sw_fit_rm (by omega) (by decide)) (Nat.le_of_ble_eq_true rfl) rfl (fun r3 S3 => ?_)
    refine sw_goto (tp := 36) dX8_isMendable_14 rfl ?_
    exact sw_zret dX8_isMendable_36
/-- SwordAttic.mend(III)I -/
def fX8_mend (N : Nat) (p1 : Int32) (p2 : Int32) (p3 : Int32) (S : sw_St) : Option (Int32 × sw_St) :=
  sw_bd (fX8_isMendable N p1 p2 S) (fun r1 S1 => (if r1 = 0 then (some ((-1 : Int32), S1)) else (sw_gd (sw_in p2 8) (sw_bd (fX8_within N p3 (0 : Int32) ((sw_tb 0).getD p2.toNatClampNeg 0) S1) (fun r2 S2 => (if r2 = 0 then (some ((-1 : Int32), S2)) else (sw_jn0 (fun S3 => (sw_bd (fX4_get N 1 p1 p2 S3) (fun r3 S4 => (if r3 = p3 then (some (r3, S4)) else (sw_bd (fX4_set N 1 p1 p2 p3 S4) (fun _ S5 => (sw_bd (fX1_add N p1 p2 r3 p3 S5) (fun _ S6 => (some (r3, S6)))))))))) (fun k1 => (if p2 = 0 then (sw_bd (fX4_isTakenByOther N 1 p3 p1 S2) (fun r6 S7 => (if r6 = 0 then (k1 S7) else (some ((-1 : Int32), S7))))) else (k1 S2))))))))))
theorem hX8_mend {G : sw_G} {N d : Nat} (hd : 4 ≤ d) {p1 : Int32} {p2 : Int32} {p3 : Int32}  {S : sw_St} : sw_Ev G yX8_mend cX8_mend 5 (some .int) d sw_ei [sw_vr G 0, .int p1, .int p2, .int p3] S (fX8_mend N p1 p2 p3 S) := by
  refine sw_Ev_of (own := RX8) (lv0 := [some (sw_vr G 0), some (.int p1), some (.int p2), some (.int p3), none]) (by decide) rfl (Nat.le_of_ble_eq_true rfl) rfl ?_
  unfold fX8_mend
  refine sw_ald_5_0 (np := 1) dX8_mend_0 rfl ?_
  refine sw_ild_5_1 (np := 2) dX8_mend_1 rfl ?_
  refine sw_ild_5_2 (np := 3) dX8_mend_2 rfl ?_
  refine sw_cV2i (np := 6) (hX8_isMendable (d := d - 1) (by omega) ) sw_mv_X8_isMendable sw_k_0 sw_wl_RX8_97 dX8_mend_3 (sw_fit_rm (by omega) (by decide)) (Nat.le_of_ble_eq_true rfl) rfl (fun r1 S1 => ?_)
  refine sw_if_eq (np := 9) (tp := 22) dX8_mend_6 rfl rfl ?_ ?_
  · refine sw_iconst (np := 23) dX8_mend_22 sw_ic_m1 rfl ?_
    exact sw_iret dX8_mend_23
  · refine sw_ild_5_3 (np := 10) dX8_mend_9 rfl ?_
    refine sw_iconst (np := 11) dX8_mend_10 sw_ic_0 rfl ?_
    refine sw_gets (np := 14) (fun _ _ h => sw_hs_0 h) rfl sw_ws_RX8_101 dX8_mend_11 rfl ?_
    refine sw_ild_5_2 (np := 15) dX8_mend_14 rfl ?_
    refine sw_tald (np := 16) (fun _ _ h => sw_hs_0 h) dX8_mend_15 rfl ?_
    refine sw_cS3i (np := 19) (hX8_within (d := d - 1) (by omega) ) sw_ms_X8_within sw_wl_RX8_83 dX8_mend_16 (sw_fit_rm (by omega) (by decide)) (Nat.le_of_ble_eq_true rfl) rfl (fun r2 S2 => ?_)
    refine sw_if_ne (np := 22) (tp := 24) dX8_mend_19 rfl rfl ?_ ?_
    · refine sw_ild_5_2 (np := 25) dX8_mend_24 rfl ?_
      refine sw_jm0 (pj := 42) ([some (sw_vr G 0), some (.int p1), some (.int p2), some (.int p3), none]) ([]) (fun S3 => ?_) (fun k1 hk1 => ?_)
      · refine sw_ald_5_0 (np := 43) dX8_mend_42 rfl ?_
        refine sw_gR (np := 46) sw_f_RX8_10 sw_k_0 sw_r_0_0 dX8_mend_43 rfl ?_
        refine sw_ild_5_1 (np := 47) dX8_mend_46 rfl ?_
        refine sw_ild_5_2 (np := 48) dX8_mend_47 rfl ?_
        refine sw_cV2i (np := 51) (hX4_get (d := d - 1) (by omega) sw_k_1) sw_mv_X4_get sw_k_1 sw_wl_RX8_108 dX8_mend_48 (sw_fit_rm (by omega) (by decide)) (Nat.le_of_ble_eq_true rfl) rfl (fun r3 S4 => ?_)
        refine sw_ist_5_4 (np := 53) dX8_mend_51 rfl rfl ?_
        refine sw_ild_5_4 (np := 55) dX8_mend_53 rfl ?_
        refine sw_ild_5_3 (np := 56) dX8_mend_55 rfl ?_
        refine sw_icmp_eq (np := 59) (tp := 81) dX8_mend_56 rfl rfl ?_ ?_
        · refine sw_ild_5_4 (np := 83) dX8_mend_81 rfl ?_
          exact sw_iret dX8_mend_83
        · refine sw_ald_5_0 (np := 60) dX8_mend_59 rfl ?_
          refine sw_gR (np := 63) sw_f_RX8_10 sw_k_0 sw_r_0_0 dX8_mend_60 rfl ?_
          refine sw_ild_5_1 (np := 64) dX8_mend_63 rfl ?_
          refine sw_ild_5_2 (np := 65) dX8_mend_64 rfl ?_
          refine sw_ild_5_3 (np := 66) dX8_mend_65 rfl ?_
          refine sw_cV3v (np := 69) (hX4_set (d := d - 1) (by omega) sw_k_1) sw_mv_X4_set sw_k_1 sw_wl_RX8_112 dX8_mend_66 (sw_fit_rm (by omega) (by decide)) (Nat.le_of_ble_eq_true rfl) rfl (fun _ S5 => ?_)
          refine sw_ald_5_0 (np := 70) dX8_mend_69 rfl ?_
          refine sw_gR (np := 73) sw_f_RX8_42 sw_k_0 sw_r_0_4 dX8_mend_70 rfl ?_
          refine sw_ild_5_1 (np := 74) dX8_mend_73 rfl ?_
          refine sw_ild_5_2 (np := 75) dX8_mend_74 rfl ?_
          refine sw_ild_5_4 (np := 77) dX8_mend_75 rfl ?_
          refine sw_ild_5_3 (np := 78) dX8_mend_77 rfl ?_
          refine sw_cV4v (np := 81) (hX1_add (d := d - 1) (by omega) ) sw_mv_X1_add sw_k_79 sw_wl_RX8_116 dX8_mend_78 (sw_fit_rm (by omega) (by decide)) (Nat.le_of_ble_eq_true rfl) rfl (fun _ S6 => ?_)
          refine sw_ild_5_4 (np := 83) dX8_mend_81 rfl ?_
          exact sw_iret dX8_mend_83
      · refine sw_if_ne (np := 28) (tp := 42) dX8_mend_25 rfl rfl ?_ ?_
        · exact hk1 _
        · refine sw_ald_5_0 (np := 29) dX8_mend_28 rfl ?_
          refine sw_gR (np := 32) sw_f_RX8_10 sw_k_0 sw_r_0_0 dX8_mend_29 rfl ?_
          refine sw_ild_5_3 (np := 33) dX8_mend_32 rfl ?_
          refine sw_ild_5_1 (np := 34) dX8_mend_33 rfl ?_
          refine sw_cV2i (np := 37) (hX4_isTakenByOther (d := d - 1) (by omega) sw_k_1) sw_mv_X4_isTakenByOther sw_k_1 sw_wl_RX8_105 dX8_mend_34 (sw_fit_rm (by omega) (by decide)) (Nat.le_of_ble_eq_true rfl) rfl (fun r6 S7 => ?_)
          refine sw_if_eq (np := 40) (tp := 42) dX8_mend_37 rfl rfl ?_ ?_
          · exact hk1 _
          · refine sw_iconst (np := 41) dX8_mend_40 sw_ic_m1 rfl ?_
            exact sw_iret dX8_mend_41
    · refine sw_iconst (np := 23) dX8_mend_22 sw_ic_m1 rfl ?_
      exact sw_iret dX8_mend_23
/-- SwordAttic.of(II)I -/
def fX8_of (N : Nat) (p1 : Int32) (p2 : Int32) (S : sw_St) : Option (Int32 × sw_St) :=
  if p2 = (8 : Int32) then (sw_bd (fX8_isCot N p1 S) (fun r3 S3 => (if r3 = 0 then (some ((-1 : Int32), S3)) else (sw_gd (sw_in p1 12) (if (S3.1 (1 + 6) p1.toNatClampNeg) ≥ 0 then (sw_gd (sw_in p1 12) (some ((S3.1 (1 + 6) p1.toNatClampNeg), S3))) else (some ((-2 : Int32), S3))))))) else (sw_bd (fX8_isMendable N p1 p2 S) (fun r1 S1 => (if r1 = 0 then (some ((-1 : Int32), S1)) else (sw_bd (fX4_get N 1 p1 p2 S1) (fun r2 S2 => (some (r2, S2)))))))
theorem hX8_of {G : sw_G} {N d : Nat} (hd : 4 ≤ d) {p1 : Int32} {p2 : Int32}  {S : sw_St} : sw_Ev G yX8_of cX8_of 3 (some .int) d sw_ei [sw_vr G 0, .int p1, .int p2] S (fX8_of N p1 p2 S) := by
  refine sw_Ev_of (own := RX8) (lv0 := [some (sw_vr G 0), some (.int p1), some (.int p2)]) (by decide) rfl (Nat.le_of_ble_eq_true rfl) rfl ?_
  unfold fX8_of
  refine sw_ild_3_2 (np := 1) dX8_of_0 rfl ?_
  refine sw_bipush (np := 3) dX8_of_1 sw_bc_8 rfl ?_
  refine sw_icmp_ne (np := 6) (tp := 44) dX8_of_3 rfl rfl ?_ ?_
  · refine sw_ald_3_0 (np := 45) dX8_of_44 rfl ?_
    refine sw_ild_3_1 (np := 46) dX8_of_45 rfl ?_
    refine sw_ild_3_2 (np := 47) dX8_of_46 rfl ?_
    refine sw_cV2i (np := 50) (hX8_isMendable (d := d - 1) (by omega) ) sw_mv_X8_isMendable sw_k_0 sw_wl_RX8_97 dX8_of_47 (sw_fit_rm (by omega) (by decide)) (Nat.le_of_ble_eq_true rfl) rfl (fun r1 S1 => ?_)
    refine sw_if_eq (np := 53) (tp := 65) dX8_of_50 rfl rfl ?_ ?_
    · refine sw_iconst (np := 66) dX8_of_65 sw_ic_m1 rfl ?_
      exact sw_iret dX8_of_66
    · refine sw_ald_3_0 (np := 54) dX8_of_53 rfl ?_
      refine sw_gR (np := 57) sw_f_RX8_10 sw_k_0 sw_r_0_0 dX8_of_54 rfl ?_
      refine sw_ild_3_1 (np := 58) dX8_of_57 rfl ?_
      refine sw_ild_3_2 (np := 59) dX8_of_58 rfl ?_
      refine sw_cV2i (np := 62) (hX4_get (d := d - 1) (by omega) sw_k_1) sw_mv_X4_get sw_k_1 sw_wl_RX8_108 dX8_of_59 (sw_fit_rm (by omega) (by decide)) (Nat.le_of_ble_eq_true rfl) rfl (fun r2 S2 => ?_)
      refine sw_goto (tp := 66) dX8_of_62 rfl ?_
      exact sw_iret dX8_of_66
  · refine sw_ild_3_1 (np := 7) dX8_of_6 rfl ?_
    refine sw_cS1i (np := 10) (hX8_isCot (d := d - 1) (by omega) ) sw_ms_X8_isCot sw_wl_RX8_119 dX8_of_7 (sw_fit_rm (by omega) (by decide)) (Nat.le_of_ble_eq_true rfl) rfl (fun r3 S3 => ?_)
    refine sw_if_eq (np := 13) (tp := 42) dX8_of_10 rfl rfl ?_ ?_
    · refine sw_iconst (np := 43) dX8_of_42 sw_ic_m1 rfl ?_
      exact sw_iret dX8_of_43
    · refine sw_ald_3_0 (np := 14) dX8_of_13 rfl ?_
      refine sw_gR (np := 17) sw_f_RX8_10 sw_k_0 sw_r_0_0 dX8_of_14 rfl ?_
      refine sw_gR (np := 20) sw_f_RX8_122 sw_k_1 (sw_rf_4_10 sw_k_1) dX8_of_17 rfl ?_
      refine sw_ild_3_1 (np := 21) dX8_of_20 rfl ?_
      refine sw_iald (np := 22) (sw_kd_4_10 sw_k_1) (sw_ln_4_10 sw_k_1) dX8_of_21 rfl ?_
      refine sw_if_ge (np := 25) (tp := 30) dX8_of_22 rfl rfl ?_ ?_
      · refine sw_ald_3_0 (np := 31) dX8_of_30 rfl ?_
        refine sw_gR (np := 34) sw_f_RX8_10 sw_k_0 sw_r_0_0 dX8_of_31 rfl ?_
        refine sw_gR (np := 37) sw_f_RX8_122 sw_k_1 (sw_rf_4_10 sw_k_1) dX8_of_34 rfl ?_
        refine sw_ild_3_1 (np := 38) dX8_of_37 rfl ?_
        refine sw_iald (np := 39) (sw_kd_4_10 sw_k_1) (sw_ln_4_10 sw_k_1) dX8_of_38 rfl ?_
        refine sw_goto (tp := 43) dX8_of_39 rfl ?_
        exact sw_iret dX8_of_43
      · refine sw_bipush (np := 27) dX8_of_25 sw_bc_m2 rfl ?_
        refine sw_goto (tp := 43) dX8_of_27 rfl ?_
        exact sw_iret dX8_of_43
/-- SwordAttic.feed(I)I -/
def fX8_feed (N : Nat) (p1 : Int32) (S : sw_St) : Option (Int32 × sw_St) :=
  sw_bd (fX8_within N p1 (0 : Int32) (255 : Int32) S) (fun r1 S1 => (if r1 = 0 then (some ((-1 : Int32), S1)) else (sw_bd (fX6_add N p1 S1) (fun r2 S2 => (if r2 = 0 then (some ((-3 : Int32), S2)) else (some ((S2.1 16 0), S2)))))))
theorem hX8_feed {G : sw_G} {N d : Nat} (hd : 2 ≤ d) {p1 : Int32}  {S : sw_St} : sw_Ev G yX8_feed cX8_feed 2 (some .int) d sw_ei [sw_vr G 0, .int p1] S (fX8_feed N p1 S) := by
  refine sw_Ev_of (own := RX8) (lv0 := [some (sw_vr G 0), some (.int p1)]) (by decide) rfl (Nat.le_of_ble_eq_true rfl) rfl ?_
  unfold fX8_feed
  refine sw_ild_2_1 (np := 1) dX8_feed_0 rfl ?_
  refine sw_iconst (np := 2) dX8_feed_1 sw_ic_0 rfl ?_
  refine sw_sipush (np := 5) dX8_feed_2 sw_sc_255 rfl ?_
  refine sw_cS3i (np := 8) (hX8_within (d := d - 1) (by omega) ) sw_ms_X8_within sw_wl_RX8_83 dX8_feed_5 (sw_fit_rm (by omega) (by decide)) (Nat.le_of_ble_eq_true rfl) rfl (fun r1 S1 => ?_)
  refine sw_if_ne (np := 11) (tp := 13) dX8_feed_8 rfl rfl ?_ ?_
  · refine sw_ald_2_0 (np := 14) dX8_feed_13 rfl ?_
    refine sw_gR (np := 17) sw_f_RX8_26 sw_k_0 sw_r_0_2 dX8_feed_14 rfl ?_
    refine sw_ild_2_1 (np := 18) dX8_feed_17 rfl ?_
    refine sw_cV1i (np := 21) (hX6_add (d := d - 1) (by omega) ) sw_mv_X6_add sw_k_16 sw_wl_RX8_125 dX8_feed_18 (sw_fit_rm (by omega) (by decide)) (Nat.le_of_ble_eq_true rfl) rfl (fun r2 S2 => ?_)
    refine sw_if_eq (np := 24) (tp := 34) dX8_feed_21 rfl rfl ?_ ?_
    · refine sw_bipush (np := 36) dX8_feed_34 sw_bc_m3 rfl ?_
      exact sw_iret dX8_feed_36
    · refine sw_ald_2_0 (np := 25) dX8_feed_24 rfl ?_
      refine sw_gR (np := 28) sw_f_RX8_26 sw_k_0 sw_r_0_2 dX8_feed_25 rfl ?_
      refine sw_gI (np := 31) sw_f_RX8_127 sw_k_16 dX8_feed_28 rfl ?_
      refine sw_goto (tp := 36) dX8_feed_31 rfl ?_
      exact sw_iret dX8_feed_36
  · refine sw_iconst (np := 12) dX8_feed_11 sw_ic_m1 rfl ?_
    exact sw_iret dX8_feed_12
/-- SwordAttic.law()I -/
def fX8_law (N : Nat)  (S : sw_St) : Option (Int32 × sw_St) :=
  sw_bd (fX6_read N S) (fun r1 S1 => (sw_ls (sw_si S1 16 0 (0 : Int32)) (fun S2 => (if r1 < 0 then (sw_bd (fX3_become N 11 17 S2) (fun _ S3 => (some ((1 : Int32), S3)))) else (some (((-100 : Int32) - r1), S2))))))
theorem hX8_law {G : sw_G} {N d : Nat} (hd : 107 ≤ d)   {S : sw_St} : sw_Ev G yX8_law cX8_law 2 (some .int) d sw_ei [sw_vr G 0] S (fX8_law N  S) := by
  refine sw_Ev_of (own := RX8) (lv0 := [some (sw_vr G 0), none]) (by decide) rfl (Nat.le_of_ble_eq_true rfl) rfl ?_
  unfold fX8_law
  refine sw_ald_2_0 (np := 1) dX8_law_0 rfl ?_
  refine sw_gR (np := 4) sw_f_RX8_26 sw_k_0 sw_r_0_2 dX8_law_1 rfl ?_
  refine sw_cV0i (np := 7) (hX6_read (d := d - 1) (by omega) ) sw_mv_X6_read sw_k_16 sw_wl_RX8_130 dX8_law_4 (sw_fit_rm (by omega) (by decide)) (Nat.le_of_ble_eq_true rfl) rfl (fun r1 S1 => ?_)
  refine sw_ist_2_1 (np := 8) dX8_law_7 rfl rfl ?_
  refine sw_ald_2_0 (np := 9) dX8_law_8 rfl ?_
  refine sw_gR (np := 12) sw_f_RX8_26 sw_k_0 sw_r_0_2 dX8_law_9 rfl ?_
  refine sw_iconst (np := 13) dX8_law_12 sw_ic_0 rfl ?_
  refine sw_pI (np := 16) sw_f_RX8_127 sw_fp_6_0 sw_k_16 dX8_law_13 rfl (fun S2 => ?_)
  refine sw_ild_2_1 (np := 17) dX8_law_16 rfl ?_
  refine sw_if_lt (np := 20) (tp := 25) dX8_law_17 rfl rfl ?_ ?_
  · refine sw_ald_2_0 (np := 26) dX8_law_25 rfl ?_
    refine sw_gR (np := 29) sw_f_RX8_19 sw_k_0 sw_r_0_1 dX8_law_26 rfl ?_
    refine sw_ald_2_0 (np := 30) dX8_law_29 rfl ?_
    refine sw_gR (np := 33) sw_f_RX8_26 sw_k_0 sw_r_0_2 dX8_law_30 rfl ?_
    refine sw_gR (np := 36) sw_f_RX8_134 sw_k_16 sw_r_16_1 dX8_law_33 rfl ?_
    refine sw_cV1v (np := 39) (hX3_become (d := d - 1) (by omega) sw_k_11 sw_k_17) sw_mv_X3_become sw_k_11 sw_wl_RX8_137 dX8_law_36 (sw_fit_rm (by omega) (by decide)) (Nat.le_of_ble_eq_true rfl) rfl (fun _ S3 => ?_)
    refine sw_iconst (np := 40) dX8_law_39 sw_ic_1 rfl ?_
    exact sw_iret dX8_law_40
  · refine sw_bipush (np := 22) dX8_law_20 sw_bc_m100 rfl ?_
    refine sw_ild_2_1 (np := 23) dX8_law_22 rfl ?_
    refine sw_isub (np := 24) dX8_law_23 rfl ?_
    exact sw_iret dX8_law_24
/-- SwordAttic.grows(I)I -/
def fX8_grows (N : Nat) (p1 : Int32) (S : sw_St) : Option (Int32 × sw_St) :=
  sw_bd (fX8_isSword N p1 S) (fun r1 S1 => (if r1 = 0 then (some ((-2000000000 : Int32), S1)) else (sw_bd (fX4_growthNow N 1 11 p1 S1) (fun r2 S2 => (some (r2, S2))))))
theorem hX8_grows {G : sw_G} {N d : Nat} (hd : 6 ≤ d) {p1 : Int32}  {S : sw_St} : sw_Ev G yX8_grows cX8_grows 2 (some .int) d sw_ei [sw_vr G 0, .int p1] S (fX8_grows N p1 S) := by
  refine sw_Ev_of (own := RX8) (lv0 := [some (sw_vr G 0), some (.int p1)]) (by decide) rfl (Nat.le_of_ble_eq_true rfl) rfl ?_
  unfold fX8_grows
  refine sw_ald_2_0 (np := 1) dX8_grows_0 rfl ?_
  refine sw_ild_2_1 (np := 2) dX8_grows_1 rfl ?_
  refine sw_cV1i (np := 5) (hX8_isSword (d := d - 1) (by omega) ) sw_mv_X8_isSword sw_k_0 sw_wl_RX8_141 dX8_grows_2 (sw_fit_rm (by omega) (by decide)) (Nat.le_of_ble_eq_true rfl) rfl (fun r1 S1 => ?_)
  refine sw_if_eq (np := 8) (tp := 23) dX8_grows_5 rfl rfl ?_ ?_
  · refine sw_ldc (np := 25) sw_wc_RX8_148 dX8_grows_23 rfl ?_
    exact sw_iret dX8_grows_25
  · refine sw_ald_2_0 (np := 9) dX8_grows_8 rfl ?_
    refine sw_gR (np := 12) sw_f_RX8_10 sw_k_0 sw_r_0_0 dX8_grows_9 rfl ?_
    refine sw_ald_2_0 (np := 13) dX8_grows_12 rfl ?_
    refine sw_gR (np := 16) sw_f_RX8_19 sw_k_0 sw_r_0_1 dX8_grows_13 rfl ?_
    refine sw_ild_2_1 (np := 17) dX8_grows_16 rfl ?_
    refine sw_cV2i (np := 20) (hX4_growthNow (d := d - 1) (by omega) sw_k_1 sw_k_11) sw_mv_X4_growthNow sw_k_1 sw_wl_RX8_144 dX8_grows_17 (sw_fit_rm (by omega) (by decide)) (Nat.le_of_ble_eq_true rfl) rfl (fun r2 S2 => ?_)
    refine sw_goto (tp := 25) dX8_grows_20 rfl ?_
    exact sw_iret dX8_grows_25
/-- SwordAttic.refusalOfBytes(LSwordAttic$Shelf;)I -/
def fX8_refusalOfBytes (N : Nat) (o0 : Nat) (S : sw_St) : Option (Int32 × sw_St) :=
  sw_bd (fX5_holdsNothing N o0 S) (fun r1 S1 => (if r1 = 0 then (sw_bd (fX5_holdsBytes N o0 S1) (fun r2 S2 => (if r2 = 0 then (some ((-12 : Int32), S2)) else (some ((0 : Int32), S2))))) else (some ((-11 : Int32), S1))))
theorem hX8_refusalOfBytes {G : sw_G} {N d : Nat} (hd : 2 ≤ d) {o0 : Nat} (ho0 : sw_kd o0 = 5) {S : sw_St} : sw_Ev G yX8_refusalOfBytes cX8_refusalOfBytes 1 (some .int) d sw_ei [sw_vr G o0] S (fX8_refusalOfBytes N o0 S) := by
  refine sw_Ev_of (own := RX8) (lv0 := [some (sw_vr G o0)]) (by decide) rfl (Nat.le_of_ble_eq_true rfl) rfl ?_
  unfold fX8_refusalOfBytes
  refine sw_ald_1_0 (np := 1) dX8_refusalOfBytes_0 rfl ?_
  refine sw_cV0i (np := 4) (hX5_holdsNothing (d := d - 1) (by omega) ho0) sw_mv_X5_holdsNothing ho0 sw_wl_RX8_86 dX8_refusalOfBytes_1 (sw_fit_rm (by omega) (by decide)) (Nat.le_of_ble_eq_true rfl) rfl (fun r1 S1 => ?_)
  refine sw_if_eq (np := 7) (tp := 10) dX8_refusalOfBytes_4 rfl rfl ?_ ?_
  · refine sw_ald_1_0 (np := 11) dX8_refusalOfBytes_10 rfl ?_
    refine sw_cV0i (np := 14) (hX5_holdsBytes (d := d - 1) (by omega) ho0) sw_mv_X5_holdsBytes ho0 sw_wl_RX8_90 dX8_refusalOfBytes_11 (sw_fit_rm (by omega) (by decide)) (Nat.le_of_ble_eq_true rfl) rfl (fun r2 S2 => ?_)
    refine sw_if_eq (np := 17) (tp := 21) dX8_refusalOfBytes_14 rfl rfl ?_ ?_
    · refine sw_bipush (np := 23) dX8_refusalOfBytes_21 sw_bc_m12 rfl ?_
      exact sw_iret dX8_refusalOfBytes_23
    · refine sw_iconst (np := 18) dX8_refusalOfBytes_17 sw_ic_0 rfl ?_
      refine sw_goto (tp := 23) dX8_refusalOfBytes_18 rfl ?_
      exact sw_iret dX8_refusalOfBytes_23
  · refine sw_bipush (np := 9) dX8_refusalOfBytes_7 sw_bc_m11 rfl ?_
    exact sw_iret dX8_refusalOfBytes_9
/-- SwordAttic.later(III)I -/
def fX8_later (N : Nat) (p1 : Int32) (p2 : Int32) (p3 : Int32) (S : sw_St) : Option (Int32 × sw_St) :=
  sw_bd (fX8_isShelf N p1 S) (fun r1 S1 => (if r1 = 0 then (some ((-1 : Int32), S1)) else (sw_bd (fX8_within N p2 (0 : Int32) (24 : Int32) S1) (fun r2 S2 => (if r2 = 0 then (some ((-1 : Int32), S2)) else (sw_bd (fX8_isSword N p3 S2) (fun r3 S3 => (if r3 = 0 then (some ((-1 : Int32), S3)) else (sw_gd (sw_in p1 6) (sw_bd (fX8_refusalOfBytes N (93 + 2 * p1.toNatClampNeg) S3) (fun r4 S4 => (if r4 = 0 then (sw_gd (sw_in p1 6) (sw_bd (fX7_behind N (93 + 2 * p1.toNatClampNeg) p2 S4) (fun r5 S5 => sw_gd (decide (sw_kd r5 = 4)) (sw_gd (sw_in p3 10) (some ((S5.1 (r5 + 4) p3.toNatClampNeg), S5)))))) else (some (r4, S4))))))))))))))
theorem hX8_later {G : sw_G} {N d : Nat} (hd : 7 ≤ d) {p1 : Int32} {p2 : Int32} {p3 : Int32}  {S : sw_St} : sw_Ev G yX8_later cX8_later 5 (some .int) d sw_ei [sw_vr G 0, .int p1, .int p2, .int p3] S (fX8_later N p1 p2 p3 S) := by
  refine sw_Ev_of (own := RX8) (lv0 := [some (sw_vr G 0), some (.int p1), some (.int p2), some (.int p3), none]) (by decide) rfl (Nat.le_of_ble_eq_true rfl) rfl ?_
  unfold fX8_later
  refine sw_ild_5_1 (np := 1) dX8_later_0 rfl ?_
  refine sw_cS1i (np := 4) (hX8_isShelf (d := d - 1) (by omega) ) sw_ms_X8_isShelf sw_wl_RX8_79 dX8_later_1 (sw_fit_rm (by omega) (by decide)) (Nat.le_of_ble_eq_true rfl) rfl (fun r1 S1 => ?_)
  refine sw_if_eq (np := 7) (tp := 25) dX8_later_4 rfl rfl ?_ ?_
  · refine sw_iconst (np := 26) dX8_later_25 sw_ic_m1 rfl ?_
    exact sw_iret dX8_later_26
  · refine sw_ild_5_2 (np := 8) dX8_later_7 rfl ?_
    refine sw_iconst (np := 9) dX8_later_8 sw_ic_0 rfl ?_
    refine sw_bipush (np := 11) dX8_later_9 sw_bc_24 rfl ?_
    refine sw_cS3i (np := 14) (hX8_within (d := d - 1) (by omega) ) sw_ms_X8_within sw_wl_RX8_83 dX8_later_11 (sw_fit_rm (by omega) (by decide)) (Nat.le_of_ble_eq_true rfl) rfl (fun r2 S2 => ?_)
    refine sw_if_eq (np := 17) (tp := 25) dX8_later_14 rfl rfl ?_ ?_
    · refine sw_iconst (np := 26) dX8_later_25 sw_ic_m1 rfl ?_
      exact sw_iret dX8_later_26
    · refine sw_ald_5_0 (np := 18) dX8_later_17 rfl ?_
      refine sw_ild_5_3 (np := 19) dX8_later_18 rfl ?_
      refine sw_cV1i (np := 22) (hX8_isSword (d := d - 1) (by omega) ) sw_mv_X8_isSword sw_k_0 sw_wl_RX8_141 dX8_later_19 (sw_fit_rm (by omega) (by decide)) (Nat.le_of_ble_eq_true rfl) rfl (fun r3 S3 => ?_)
      refine sw_if_ne (np := 25) (tp := 27) dX8_later_22 rfl rfl ?_ ?_
      · refine sw_ald_5_0 (np := 28) dX8_later_27 rfl ?_
        refine sw_gR (np := 31) sw_f_RX8_62 sw_k_0 sw_r_0_7 dX8_later_28 rfl ?_
        refine sw_ild_5_1 (np := 32) dX8_later_31 rfl ?_
        refine sw_aldS (np := 33) dX8_later_32 rfl (fun hq1 => ?_)
        refine sw_cS1i (np := 36) (hX8_refusalOfBytes (d := d - 1) (by omega) hq1) sw_ms_X8_refusalOfBytes sw_wl_RX8_149 dX8_later_33 (sw_fit_rm (by omega) (by decide)) (Nat.le_of_ble_eq_true rfl) rfl (fun r4 S4 => ?_)
        refine sw_ist_5_4 (np := 38) dX8_later_36 rfl rfl ?_
        refine sw_ild_5_4 (np := 40) dX8_later_38 rfl ?_
        refine sw_if_eq (np := 43) (tp := 48) dX8_later_40 rfl rfl ?_ ?_
        · refine sw_ald_5_0 (np := 49) dX8_later_48 rfl ?_
          refine sw_gR (np := 52) sw_f_RX8_35 sw_k_0 sw_r_0_3 dX8_later_49 rfl ?_
          refine sw_ald_5_0 (np := 53) dX8_later_52 rfl ?_
          refine sw_gR (np := 56) sw_f_RX8_62 sw_k_0 sw_r_0_7 dX8_later_53 rfl ?_
          refine sw_ild_5_1 (np := 57) dX8_later_56 rfl ?_
          refine sw_aldS (np := 58) dX8_later_57 rfl (fun hq2 => ?_)
          refine sw_ild_5_2 (np := 59) dX8_later_58 rfl ?_
          refine sw_cV2n (np := 62) (hX7_behind (d := d - 1) (by omega) hq2) sw_mv_X7_behind sw_k_23 sw_wl_RX8_153 dX8_later_59 (sw_fit_rm (by omega) (by decide)) (Nat.le_of_ble_eq_true rfl) rfl (fun r5 S5 hq3 => ?_)
          refine sw_gR (np := 65) sw_f_RX8_157 hq3 (sw_rf_4_8 hq3) dX8_later_62 rfl ?_
          refine sw_ild_5_3 (np := 66) dX8_later_65 rfl ?_
          refine sw_iald (np := 67) (sw_kd_4_8 hq3) (sw_ln_4_8 hq3) dX8_later_66 rfl ?_
          exact sw_iret dX8_later_67
        · refine sw_ild_5_4 (np := 45) dX8_later_43 rfl ?_
          refine sw_goto (tp := 67) dX8_later_45 rfl ?_
          exact sw_iret dX8_later_67
      · refine sw_iconst (np := 26) dX8_later_25 sw_ic_m1 rfl ?_
        exact sw_iret dX8_later_26
/-- SwordAttic.awake(III)I -/
def fX8_awake (N : Nat) (p1 : Int32) (p2 : Int32) (p3 : Int32) (S : sw_St) : Option (Int32 × sw_St) :=
  sw_bd (fX8_isShelf N p1 S) (fun r1 S1 => (if r1 = 0 then (some ((-1 : Int32), S1)) else (sw_bd (fX8_within N p2 (0 : Int32) (24 : Int32) S1) (fun r2 S2 => (if r2 = 0 then (some ((-1 : Int32), S2)) else (sw_bd (fX8_within N p3 (0 : Int32) (1 : Int32) S2) (fun r3 S3 => (if r3 = 0 then (some ((-1 : Int32), S3)) else (sw_gd (sw_in p1 6) (sw_bd (fX8_refusalOfBytes N (93 + 2 * p1.toNatClampNeg) S3) (fun r4 S4 => (if r4 = 0 then (sw_gd (sw_in p1 6) (sw_bd (fX7_behind N (93 + 2 * p1.toNatClampNeg) p2 S4) (fun r5 S5 => sw_gd (decide (sw_kd r5 = 4)) (if p3 = 0 then (sw_bd (fX4_awakeSwords N r5 S5) (fun r7 S7 => (some (r7, S7)))) else (sw_bd (fX4_mindOfAll N r5 S5) (fun r6 S6 => (some (r6, S6)))))))) else (some (r4, S4))))))))))))))
theorem hX8_awake {G : sw_G} {N d : Nat} (hd : 7 ≤ d) {p1 : Int32} {p2 : Int32} {p3 : Int32}  {S : sw_St} : sw_Ev G yX8_awake cX8_awake 6 (some .int) d sw_ei [sw_vr G 0, .int p1, .int p2, .int p3] S (fX8_awake N p1 p2 p3 S) := by
  refine sw_Ev_of (own := RX8) (lv0 := [some (sw_vr G 0), some (.int p1), some (.int p2), some (.int p3), none, none]) (by decide) rfl (Nat.le_of_ble_eq_true rfl) rfl ?_
  unfold fX8_awake
  refine sw_ild_6_1 (np := 1) dX8_awake_0 rfl ?_
  refine sw_cS1i (np := 4) (hX8_isShelf (d := d - 1) (by omega) ) sw_ms_X8_isShelf sw_wl_RX8_79 dX8_awake_1 (sw_fit_rm (by omega) (by decide)) (Nat.le_of_ble_eq_true rfl) rfl (fun r1 S1 => ?_)
  refine sw_if_eq (np := 7) (tp := 26) dX8_awake_4 rfl rfl ?_ ?_
  · refine sw_iconst (np := 27) dX8_awake_26 sw_ic_m1 rfl ?_
    exact sw_iret dX8_awake_27
  · refine sw_ild_6_2 (np := 8) dX8_awake_7 rfl ?_
    refine sw_iconst (np := 9) dX8_awake_8 sw_ic_0 rfl ?_
    refine sw_bipush (np := 11) dX8_awake_9 sw_bc_24 rfl ?_
    refine sw_cS3i (np := 14) (hX8_within (d := d - 1) (by omega) ) sw_ms_X8_within sw_wl_RX8_83 dX8_awake_11 (sw_fit_rm (by omega) (by decide)) (Nat.le_of_ble_eq_true rfl) rfl (fun r2 S2 => ?_)
    refine sw_if_eq (np := 17) (tp := 26) dX8_awake_14 rfl rfl ?_ ?_
    · refine sw_iconst (np := 27) dX8_awake_26 sw_ic_m1 rfl ?_
      exact sw_iret dX8_awake_27
    · refine sw_ild_6_3 (np := 18) dX8_awake_17 rfl ?_
      refine sw_iconst (np := 19) dX8_awake_18 sw_ic_0 rfl ?_
      refine sw_iconst (np := 20) dX8_awake_19 sw_ic_1 rfl ?_
      refine sw_cS3i (np := 23) (hX8_within (d := d - 1) (by omega) ) sw_ms_X8_within sw_wl_RX8_83 dX8_awake_20 (sw_fit_rm (by omega) (by decide)) (Nat.le_of_ble_eq_true rfl) rfl (fun r3 S3 => ?_)
      refine sw_if_ne (np := 26) (tp := 28) dX8_awake_23 rfl rfl ?_ ?_
      · refine sw_ald_6_0 (np := 29) dX8_awake_28 rfl ?_
        refine sw_gR (np := 32) sw_f_RX8_62 sw_k_0 sw_r_0_7 dX8_awake_29 rfl ?_
        refine sw_ild_6_1 (np := 33) dX8_awake_32 rfl ?_
        refine sw_aldS (np := 34) dX8_awake_33 rfl (fun hq1 => ?_)
        refine sw_cS1i (np := 37) (hX8_refusalOfBytes (d := d - 1) (by omega) hq1) sw_ms_X8_refusalOfBytes sw_wl_RX8_149 dX8_awake_34 (sw_fit_rm (by omega) (by decide)) (Nat.le_of_ble_eq_true rfl) rfl (fun r4 S4 => ?_)
        refine sw_ist_6_4 (np := 39) dX8_awake_37 rfl rfl ?_
        refine sw_ild_6_4 (np := 41) dX8_awake_39 rfl ?_
        refine sw_if_eq (np := 44) (tp := 47) dX8_awake_41 rfl rfl ?_ ?_
        · refine sw_ald_6_0 (np := 48) dX8_awake_47 rfl ?_
          refine sw_gR (np := 51) sw_f_RX8_35 sw_k_0 sw_r_0_3 dX8_awake_48 rfl ?_
          refine sw_ald_6_0 (np := 52) dX8_awake_51 rfl ?_
          refine sw_gR (np := 55) sw_f_RX8_62 sw_k_0 sw_r_0_7 dX8_awake_52 rfl ?_
          refine sw_ild_6_1 (np := 56) dX8_awake_55 rfl ?_
          refine sw_aldS (np := 57) dX8_awake_56 rfl (fun hq2 => ?_)
          refine sw_ild_6_2 (np := 58) dX8_awake_57 rfl ?_
          refine sw_cV2n (np := 61) (hX7_behind (d := d - 1) (by omega) hq2) sw_mv_X7_behind sw_k_23 sw_wl_RX8_153 dX8_awake_58 (sw_fit_rm (by omega) (by decide)) (Nat.le_of_ble_eq_true rfl) rfl (fun r5 S5 hq3 => ?_)
          refine sw_ast_6_5 (np := 63) dX8_awake_61 rfl rfl ?_
          refine sw_ild_6_3 (np := 64) dX8_awake_63 rfl ?_
          refine sw_if_ne (np := 67) (tp := 75) dX8_awake_64 rfl rfl ?_ ?_
          · refine sw_ald_6_5 (np := 77) dX8_awake_75 rfl ?_
            refine sw_cV0i (np := 80) (hX4_mindOfAll (d := d - 1) (by omega) hq3) sw_mv_X4_mindOfAll hq3 sw_wl_RX8_163 dX8_awake_77 (sw_fit_rm (by omega) (by decide)) (Nat.le_of_ble_eq_true rfl) rfl (fun r6 S6 => ?_)
            exact sw_iret dX8_awake_80
          · refine sw_ald_6_5 (np := 69) dX8_awake_67 rfl ?_
            refine sw_cV0i (np := 72) (hX4_awakeSwords (d := d - 1) (by omega) hq3) sw_mv_X4_awakeSwords hq3 sw_wl_RX8_160 dX8_awake_69 (sw_fit_rm (by omega) (by decide)) (Nat.le_of_ble_eq_true rfl) rfl (fun r7 S7 => ?_)
            refine sw_goto (tp := 80) dX8_awake_72 rfl ?_
            exact sw_iret dX8_awake_80
        · refine sw_ild_6_4 (np := 46) dX8_awake_44 rfl ?_
          exact sw_iret dX8_awake_46
      · refine sw_iconst (np := 27) dX8_awake_26 sw_ic_m1 rfl ?_
        exact sw_iret dX8_awake_27
/-- SwordAttic.cries(III)I -/
def fX8_cries (N : Nat) (p1 : Int32) (p2 : Int32) (p3 : Int32) (S : sw_St) : Option (Int32 × sw_St) :=
  sw_bd (fX8_isShelf N p1 S) (fun r1 S1 => (if r1 = 0 then (some ((-1 : Int32), S1)) else (sw_bd (fX8_isSword N p2 S1) (fun r2 S2 => (if r2 = 0 then (some ((-1 : Int32), S2)) else (sw_bd (fX8_within N p3 (0 : Int32) (99 : Int32) S2) (fun r3 S3 => (if r3 = 0 then (some ((-1 : Int32), S3)) else (sw_gd (sw_in p1 6) (sw_bd (fX8_refusalOfBytes N (93 + 2 * p1.toNatClampNeg) S3) (fun r4 S4 => (if r4 = 0 then (sw_gd (sw_in p1 6) (sw_bd (fX7_firstCry N (93 + 2 * p1.toNatClampNeg) p2 p3 S4) (fun r5 S5 => (some (r5, S5))))) else (some (r4, S4))))))))))))))
theorem hX8_cries {G : sw_G} {N d : Nat} (hd : 7 ≤ d) {p1 : Int32} {p2 : Int32} {p3 : Int32}  {S : sw_St} : sw_Ev G yX8_cries cX8_cries 5 (some .int) d sw_ei [sw_vr G 0, .int p1, .int p2, .int p3] S (fX8_cries N p1 p2 p3 S) := by
  refine sw_Ev_of (own := RX8) (lv0 := [some (sw_vr G 0), some (.int p1), some (.int p2), some (.int p3), none]) (by decide) rfl (Nat.le_of_ble_eq_true rfl) rfl ?_
  unfold fX8_cries
  refine sw_ild_5_1 (np := 1) dX8_cries_0 rfl ?_
  refine sw_cS1i (np := 4) (hX8_isShelf (d := d - 1) (by omega) ) sw_ms_X8_isShelf sw_wl_RX8_79 dX8_cries_1 (sw_fit_rm (by omega) (by decide)) (Nat.le_of_ble_eq_true rfl) rfl (fun r1 S1 => ?_)
  refine sw_if_eq (np := 7) (tp := 25) dX8_cries_4 rfl rfl ?_ ?_
  · refine sw_iconst (np := 26) dX8_cries_25 sw_ic_m1 rfl ?_
    exact sw_iret dX8_cries_26
  · refine sw_ald_5_0 (np := 8) dX8_cries_7 rfl ?_
    refine sw_ild_5_2 (np := 9) dX8_cries_8 rfl ?_
    refine sw_cV1i (np := 12) (hX8_isSword (d := d - 1) (by omega) ) sw_mv_X8_isSword sw_k_0 sw_wl_RX8_141 dX8_cries_9 (sw_fit_rm (by omega) (by decide)) (Nat.le_of_ble_eq_true rfl) rfl (fun r2 S2 => ?_)
    refine sw_if_eq (np := 15) (tp := 25) dX8_cries_12 rfl rfl ?_ ?_
    · refine sw_iconst (np := 26) dX8_cries_25 sw_ic_m1 rfl ?_
      exact sw_iret dX8_cries_26
    · refine sw_ild_5_3 (np := 16) dX8_cries_15 rfl ?_
      refine sw_iconst (np := 17) dX8_cries_16 sw_ic_0 rfl ?_
      refine sw_bipush (np := 19) dX8_cries_17 sw_bc_99 rfl ?_
      refine sw_cS3i (np := 22) (hX8_within (d := d - 1) (by omega) ) sw_ms_X8_within sw_wl_RX8_83 dX8_cries_19 (sw_fit_rm (by omega) (by decide)) (Nat.le_of_ble_eq_true rfl) rfl (fun r3 S3 => ?_)
      refine sw_if_ne (np := 25) (tp := 27) dX8_cries_22 rfl rfl ?_ ?_
      · refine sw_ald_5_0 (np := 28) dX8_cries_27 rfl ?_
        refine sw_gR (np := 31) sw_f_RX8_62 sw_k_0 sw_r_0_7 dX8_cries_28 rfl ?_
        refine sw_ild_5_1 (np := 32) dX8_cries_31 rfl ?_
        refine sw_aldS (np := 33) dX8_cries_32 rfl (fun hq1 => ?_)
        refine sw_cS1i (np := 36) (hX8_refusalOfBytes (d := d - 1) (by omega) hq1) sw_ms_X8_refusalOfBytes sw_wl_RX8_149 dX8_cries_33 (sw_fit_rm (by omega) (by decide)) (Nat.le_of_ble_eq_true rfl) rfl (fun r4 S4 => ?_)
        refine sw_ist_5_4 (np := 38) dX8_cries_36 rfl rfl ?_
        refine sw_ild_5_4 (np := 40) dX8_cries_38 rfl ?_
        refine sw_if_eq (np := 43) (tp := 48) dX8_cries_40 rfl rfl ?_ ?_
        · refine sw_ald_5_0 (np := 49) dX8_cries_48 rfl ?_
          refine sw_gR (np := 52) sw_f_RX8_35 sw_k_0 sw_r_0_3 dX8_cries_49 rfl ?_
          refine sw_ald_5_0 (np := 53) dX8_cries_52 rfl ?_
          refine sw_gR (np := 56) sw_f_RX8_62 sw_k_0 sw_r_0_7 dX8_cries_53 rfl ?_
          refine sw_ild_5_1 (np := 57) dX8_cries_56 rfl ?_
          refine sw_aldS (np := 58) dX8_cries_57 rfl (fun hq2 => ?_)
          refine sw_ild_5_2 (np := 59) dX8_cries_58 rfl ?_
          refine sw_ild_5_3 (np := 60) dX8_cries_59 rfl ?_
          refine sw_cV3i (np := 63) (hX7_firstCry (d := d - 1) (by omega) hq2) sw_mv_X7_firstCry sw_k_23 sw_wl_RX8_166 dX8_cries_60 (sw_fit_rm (by omega) (by decide)) (Nat.le_of_ble_eq_true rfl) rfl (fun r5 S5 => ?_)
          exact sw_iret dX8_cries_63
        · refine sw_ild_5_4 (np := 45) dX8_cries_43 rfl ?_
          refine sw_goto (tp := 63) dX8_cries_45 rfl ?_
          exact sw_iret dX8_cries_63
      · refine sw_iconst (np := 26) dX8_cries_25 sw_ic_m1 rfl ?_
        exact sw_iret dX8_cries_26
/-- SwordAttic.asleep(I)I -/
def fX8_asleep (N : Nat) (p1 : Int32) (S : sw_St) : Option (Int32 × sw_St) :=
  sw_bd (fX8_isShelf N p1 S) (fun r1 S1 => (if r1 = 0 then (some ((-1 : Int32), S1)) else (sw_gd (sw_in p1 6) (sw_bd (fX8_refusalOfBytes N (93 + 2 * p1.toNatClampNeg) S1) (fun r2 S2 => (if r2 = 0 then (sw_gd (sw_in p1 6) (sw_bd (fX7_firstSilence N (93 + 2 * p1.toNatClampNeg) S2) (fun r3 S3 => (some (r3, S3))))) else (some (r2, S2))))))))
theorem hX8_asleep {G : sw_G} {N d : Nat} (hd : 7 ≤ d) {p1 : Int32}  {S : sw_St} : sw_Ev G yX8_asleep cX8_asleep 3 (some .int) d sw_ei [sw_vr G 0, .int p1] S (fX8_asleep N p1 S) := by
  refine sw_Ev_of (own := RX8) (lv0 := [some (sw_vr G 0), some (.int p1), none]) (by decide) rfl (Nat.le_of_ble_eq_true rfl) rfl ?_
  unfold fX8_asleep
  refine sw_ild_3_1 (np := 1) dX8_asleep_0 rfl ?_
  refine sw_cS1i (np := 4) (hX8_isShelf (d := d - 1) (by omega) ) sw_ms_X8_isShelf sw_wl_RX8_79 dX8_asleep_1 (sw_fit_rm (by omega) (by decide)) (Nat.le_of_ble_eq_true rfl) rfl (fun r1 S1 => ?_)
  refine sw_if_ne (np := 7) (tp := 9) dX8_asleep_4 rfl rfl ?_ ?_
  · refine sw_ald_3_0 (np := 10) dX8_asleep_9 rfl ?_
    refine sw_gR (np := 13) sw_f_RX8_62 sw_k_0 sw_r_0_7 dX8_asleep_10 rfl ?_
    refine sw_ild_3_1 (np := 14) dX8_asleep_13 rfl ?_
    refine sw_aldS (np := 15) dX8_asleep_14 rfl (fun hq1 => ?_)
    refine sw_cS1i (np := 18) (hX8_refusalOfBytes (d := d - 1) (by omega) hq1) sw_ms_X8_refusalOfBytes sw_wl_RX8_149 dX8_asleep_15 (sw_fit_rm (by omega) (by decide)) (Nat.le_of_ble_eq_true rfl) rfl (fun r2 S2 => ?_)
    refine sw_ist_3_2 (np := 19) dX8_asleep_18 rfl rfl ?_
    refine sw_ild_3_2 (np := 20) dX8_asleep_19 rfl ?_
    refine sw_if_eq (np := 23) (tp := 27) dX8_asleep_20 rfl rfl ?_ ?_
    · refine sw_ald_3_0 (np := 28) dX8_asleep_27 rfl ?_
      refine sw_gR (np := 31) sw_f_RX8_35 sw_k_0 sw_r_0_3 dX8_asleep_28 rfl ?_
      refine sw_ald_3_0 (np := 32) dX8_asleep_31 rfl ?_
      refine sw_gR (np := 35) sw_f_RX8_62 sw_k_0 sw_r_0_7 dX8_asleep_32 rfl ?_
      refine sw_ild_3_1 (np := 36) dX8_asleep_35 rfl ?_
      refine sw_aldS (np := 37) dX8_asleep_36 rfl (fun hq2 => ?_)
      refine sw_cV1i (np := 40) (hX7_firstSilence (d := d - 1) (by omega) hq2) sw_mv_X7_firstSilence sw_k_23 sw_wl_RX8_169 dX8_asleep_37 (sw_fit_rm (by omega) (by decide)) (Nat.le_of_ble_eq_true rfl) rfl (fun r3 S3 => ?_)
      exact sw_iret dX8_asleep_40
    · refine sw_ild_3_2 (np := 24) dX8_asleep_23 rfl ?_
      refine sw_goto (tp := 40) dX8_asleep_24 rfl ?_
      exact sw_iret dX8_asleep_40
  · refine sw_iconst (np := 8) dX8_asleep_7 sw_ic_m1 rfl ?_
    exact sw_iret dX8_asleep_8
/-- SwordAttic.bestRound(II)I -/
def fX8_bestRound (N : Nat) (p1 : Int32) (p2 : Int32) (S : sw_St) : Option (Int32 × sw_St) :=
  sw_bd (fX8_within N p1 (0 : Int32) (3 : Int32) S) (fun r1 S1 => (if r1 = 0 then (some ((-1 : Int32), S1)) else (sw_bd (fX8_within N p2 (-2 : Int32) (p1 - (1 : Int32)) S1) (fun r2 S2 => (if r2 = 0 then (some ((-1 : Int32), S2)) else (sw_bd (fX7_planRound N p1 S2) (fun _ S3 => (if p2 = (-1 : Int32) then (some ((S3.1 23 0), S3)) else (if p2 = (-2 : Int32) then (some ((S3.1 23 1), S3)) else (sw_gd (sw_in p2 3) (some ((S3.1 24 p2.toNatClampNeg), S3))))))))))))
theorem hX8_bestRound {G : sw_G} {N d : Nat} (hd : 108 ≤ d) {p1 : Int32} {p2 : Int32}  {S : sw_St} : sw_Ev G yX8_bestRound cX8_bestRound 3 (some .int) d sw_ei [sw_vr G 0, .int p1, .int p2] S (fX8_bestRound N p1 p2 S) := by
  refine sw_Ev_of (own := RX8) (lv0 := [some (sw_vr G 0), some (.int p1), some (.int p2)]) (by decide) rfl (Nat.le_of_ble_eq_true rfl) rfl ?_
  unfold fX8_bestRound
  refine sw_ild_3_1 (np := 1) dX8_bestRound_0 rfl ?_
  refine sw_iconst (np := 2) dX8_bestRound_1 sw_ic_0 rfl ?_
  refine sw_iconst (np := 3) dX8_bestRound_2 sw_ic_3 rfl ?_
  refine sw_cS3i (np := 6) (hX8_within (d := d - 1) (by omega) ) sw_ms_X8_within sw_wl_RX8_83 dX8_bestRound_3 (sw_fit_rm (by omega) (by decide)) (Nat.le_of_ble_eq_true rfl) rfl (fun r1 S1 => ?_)
  refine sw_if_eq (np := 9) (tp := 21) dX8_bestRound_6 rfl rfl ?_ ?_
  · refine sw_iconst (np := 22) dX8_bestRound_21 sw_ic_m1 rfl ?_
    exact sw_iret dX8_bestRound_22
  · refine sw_ild_3_2 (np := 10) dX8_bestRound_9 rfl ?_
    refine sw_bipush (np := 12) dX8_bestRound_10 sw_bc_m2 rfl ?_
    refine sw_ild_3_1 (np := 13) dX8_bestRound_12 rfl ?_
    refine sw_iconst (np := 14) dX8_bestRound_13 sw_ic_1 rfl ?_
    refine sw_isub (np := 15) dX8_bestRound_14 rfl ?_
    refine sw_cS3i (np := 18) (hX8_within (d := d - 1) (by omega) ) sw_ms_X8_within sw_wl_RX8_83 dX8_bestRound_15 (sw_fit_rm (by omega) (by decide)) (Nat.le_of_ble_eq_true rfl) rfl (fun r2 S2 => ?_)
    refine sw_if_ne (np := 21) (tp := 23) dX8_bestRound_18 rfl rfl ?_ ?_
    · refine sw_ald_3_0 (np := 24) dX8_bestRound_23 rfl ?_
      refine sw_gR (np := 27) sw_f_RX8_35 sw_k_0 sw_r_0_3 dX8_bestRound_24 rfl ?_
      refine sw_ild_3_1 (np := 28) dX8_bestRound_27 rfl ?_
      refine sw_cV1v (np := 31) (hX7_planRound (d := d - 1) (by omega) ) sw_mv_X7_planRound sw_k_23 sw_wl_RX8_172 dX8_bestRound_28 (sw_fit_rm (by omega) (by decide)) (Nat.le_of_ble_eq_true rfl) rfl (fun _ S3 => ?_)
      refine sw_ild_3_2 (np := 32) dX8_bestRound_31 rfl ?_
      refine sw_iconst (np := 33) dX8_bestRound_32 sw_ic_m1 rfl ?_
      refine sw_icmp_ne (np := 36) (tp := 44) dX8_bestRound_33 rfl rfl ?_ ?_
      · refine sw_ild_3_2 (np := 45) dX8_bestRound_44 rfl ?_
        refine sw_bipush (np := 47) dX8_bestRound_45 sw_bc_m2 rfl ?_
        refine sw_icmp_ne (np := 50) (tp := 60) dX8_bestRound_47 rfl rfl ?_ ?_
        · refine sw_ald_3_0 (np := 61) dX8_bestRound_60 rfl ?_
          refine sw_gR (np := 64) sw_f_RX8_35 sw_k_0 sw_r_0_3 dX8_bestRound_61 rfl ?_
          refine sw_gR (np := 67) sw_f_RX8_182 sw_k_23 sw_r_23_2 dX8_bestRound_64 rfl ?_
          refine sw_ild_3_2 (np := 68) dX8_bestRound_67 rfl ?_
          refine sw_iald (np := 69) sw_k_24 sw_n_24 dX8_bestRound_68 rfl ?_
          exact sw_iret dX8_bestRound_69
        · refine sw_ald_3_0 (np := 51) dX8_bestRound_50 rfl ?_
          refine sw_gR (np := 54) sw_f_RX8_35 sw_k_0 sw_r_0_3 dX8_bestRound_51 rfl ?_
          refine sw_gI (np := 57) sw_f_RX8_179 sw_k_23 dX8_bestRound_54 rfl ?_
          refine sw_goto (tp := 69) dX8_bestRound_57 rfl ?_
          exact sw_iret dX8_bestRound_69
      · refine sw_ald_3_0 (np := 37) dX8_bestRound_36 rfl ?_
        refine sw_gR (np := 40) sw_f_RX8_35 sw_k_0 sw_r_0_3 dX8_bestRound_37 rfl ?_
        refine sw_gI (np := 43) sw_f_RX8_176 sw_k_23 dX8_bestRound_40 rfl ?_
        exact sw_iret dX8_bestRound_43
    · refine sw_iconst (np := 22) dX8_bestRound_21 sw_ic_m1 rfl ?_
      exact sw_iret dX8_bestRound_22
/-- SwordAttic.told(I)I -/
def fX8_told (N : Nat) (p1 : Int32) (S : sw_St) : Option (Int32 × sw_St) :=
  sw_bd (fX8_within N p1 (0 : Int32) (1 : Int32) S) (fun r1 S1 => (if r1 = 0 then (some ((-1 : Int32), S1)) else (sw_bd (fX4_canAllBeTold N 1 S1) (fun r2 S2 => (if r2 = 0 then (some ((-2 : Int32), S2)) else (if p1 = 0 then (sw_bd (fX4_howManyAwake N 1 S2) (fun r4 S4 => (some (r4, S4)))) else (sw_bd (fX4_mindOfAllTold N 1 S2) (fun r3 S3 => (some (r3, S3))))))))))
theorem hX8_told {G : sw_G} {N d : Nat} (hd : 4 ≤ d) {p1 : Int32}  {S : sw_St} : sw_Ev G yX8_told cX8_told 2 (some .int) d sw_ei [sw_vr G 0, .int p1] S (fX8_told N p1 S) := by
  refine sw_Ev_of (own := RX8) (lv0 := [some (sw_vr G 0), some (.int p1)]) (by decide) rfl (Nat.le_of_ble_eq_true rfl) rfl ?_
  unfold fX8_told
  refine sw_ild_2_1 (np := 1) dX8_told_0 rfl ?_
  refine sw_iconst (np := 2) dX8_told_1 sw_ic_0 rfl ?_
  refine sw_iconst (np := 3) dX8_told_2 sw_ic_1 rfl ?_
  refine sw_cS3i (np := 6) (hX8_within (d := d - 1) (by omega) ) sw_ms_X8_within sw_wl_RX8_83 dX8_told_3 (sw_fit_rm (by omega) (by decide)) (Nat.le_of_ble_eq_true rfl) rfl (fun r1 S1 => ?_)
  refine sw_if_ne (np := 9) (tp := 11) dX8_told_6 rfl rfl ?_ ?_
  · refine sw_ald_2_0 (np := 12) dX8_told_11 rfl ?_
    refine sw_gR (np := 15) sw_f_RX8_10 sw_k_0 sw_r_0_0 dX8_told_12 rfl ?_
    refine sw_cV0i (np := 18) (hX4_canAllBeTold (d := d - 1) (by omega) sw_k_1) sw_mv_X4_canAllBeTold sw_k_1 sw_wl_RX8_185 dX8_told_15 (sw_fit_rm (by omega) (by decide)) (Nat.le_of_ble_eq_true rfl) rfl (fun r2 S2 => ?_)
    refine sw_if_eq (np := 21) (tp := 45) dX8_told_18 rfl rfl ?_ ?_
    · refine sw_bipush (np := 47) dX8_told_45 sw_bc_m2 rfl ?_
      exact sw_iret dX8_told_47
    · refine sw_ild_2_1 (np := 22) dX8_told_21 rfl ?_
      refine sw_if_ne (np := 25) (tp := 35) dX8_told_22 rfl rfl ?_ ?_
      · refine sw_ald_2_0 (np := 36) dX8_told_35 rfl ?_
        refine sw_gR (np := 39) sw_f_RX8_10 sw_k_0 sw_r_0_0 dX8_told_36 rfl ?_
        refine sw_cV0i (np := 42) (hX4_mindOfAllTold (d := d - 1) (by omega) sw_k_1) sw_mv_X4_mindOfAllTold sw_k_1 sw_wl_RX8_191 dX8_told_39 (sw_fit_rm (by omega) (by decide)) (Nat.le_of_ble_eq_true rfl) rfl (fun r3 S3 => ?_)
        refine sw_goto (tp := 47) dX8_told_42 rfl ?_
        exact sw_iret dX8_told_47
      · refine sw_ald_2_0 (np := 26) dX8_told_25 rfl ?_
        refine sw_gR (np := 29) sw_f_RX8_10 sw_k_0 sw_r_0_0 dX8_told_26 rfl ?_
        refine sw_cV0i (np := 32) (hX4_howManyAwake (d := d - 1) (by omega) sw_k_1) sw_mv_X4_howManyAwake sw_k_1 sw_wl_RX8_188 dX8_told_29 (sw_fit_rm (by omega) (by decide)) (Nat.le_of_ble_eq_true rfl) rfl (fun r4 S4 => ?_)
        refine sw_goto (tp := 47) dX8_told_32 rfl ?_
        exact sw_iret dX8_told_47
  · refine sw_iconst (np := 10) dX8_told_9 sw_ic_m1 rfl ?_
    exact sw_iret dX8_told_10
/-- SwordAttic.woken(II)I -/
def fX8_woken (N : Nat) (p1 : Int32) (p2 : Int32) (S : sw_St) : Option (Int32 × sw_St) :=
  sw_bd (fX8_isCot N p1 S) (fun r1 S1 => (if r1 = 0 then (some ((-1 : Int32), S1)) else (sw_bd (fX8_within N p2 (0 : Int32) (1 : Int32) S1) (fun r2 S2 => (if r2 = 0 then (some ((-1 : Int32), S2)) else (sw_bd (fX7_fresh N S2) (fun r3 S3 => sw_gd (decide (sw_kd r3 = 4)) (sw_bd (fX4_touchFrom N r3 p1 S3) (fun r4 S4 => (if p2 = 0 then (some ((S4.1 r3 4), S4)) else (some (r4, S4))))))))))))
theorem hX8_woken {G : sw_G} {N d : Nat} (hd : 4 ≤ d) {p1 : Int32} {p2 : Int32}  {S : sw_St} : sw_Ev G yX8_woken cX8_woken 5 (some .int) d sw_ei [sw_vr G 0, .int p1, .int p2] S (fX8_woken N p1 p2 S) := by
  refine sw_Ev_of (own := RX8) (lv0 := [some (sw_vr G 0), some (.int p1), some (.int p2), none, none]) (by decide) rfl (Nat.le_of_ble_eq_true rfl) rfl ?_
  unfold fX8_woken
  refine sw_ild_5_1 (np := 1) dX8_woken_0 rfl ?_
  refine sw_cS1i (np := 4) (hX8_isCot (d := d - 1) (by omega) ) sw_ms_X8_isCot sw_wl_RX8_119 dX8_woken_1 (sw_fit_rm (by omega) (by decide)) (Nat.le_of_ble_eq_true rfl) rfl (fun r1 S1 => ?_)
  refine sw_if_eq (np := 7) (tp := 16) dX8_woken_4 rfl rfl ?_ ?_
  · refine sw_iconst (np := 17) dX8_woken_16 sw_ic_m1 rfl ?_
    exact sw_iret dX8_woken_17
  · refine sw_ild_5_2 (np := 8) dX8_woken_7 rfl ?_
    refine sw_iconst (np := 9) dX8_woken_8 sw_ic_0 rfl ?_
    refine sw_iconst (np := 10) dX8_woken_9 sw_ic_1 rfl ?_
    refine sw_cS3i (np := 13) (hX8_within (d := d - 1) (by omega) ) sw_ms_X8_within sw_wl_RX8_83 dX8_woken_10 (sw_fit_rm (by omega) (by decide)) (Nat.le_of_ble_eq_true rfl) rfl (fun r2 S2 => ?_)
    refine sw_if_ne (np := 16) (tp := 18) dX8_woken_13 rfl rfl ?_ ?_
    · refine sw_ald_5_0 (np := 19) dX8_woken_18 rfl ?_
      refine sw_gR (np := 22) sw_f_RX8_35 sw_k_0 sw_r_0_3 dX8_woken_19 rfl ?_
      refine sw_cV0n (np := 25) (hX7_fresh (d := d - 1) (by omega) ) sw_mv_X7_fresh sw_k_23 sw_wl_RX8_194 dX8_woken_22 (sw_fit_rm (by omega) (by decide)) (Nat.le_of_ble_eq_true rfl) rfl (fun r3 S3 hq1 => ?_)
      refine sw_ast_5_3 (np := 26) dX8_woken_25 rfl rfl ?_
      refine sw_ald_5_3 (np := 27) dX8_woken_26 rfl ?_
      refine sw_ild_5_1 (np := 28) dX8_woken_27 rfl ?_
      refine sw_cV1i (np := 31) (hX4_touchFrom (d := d - 1) (by omega) hq1) sw_mv_X4_touchFrom hq1 sw_wl_RX8_198 dX8_woken_28 (sw_fit_rm (by omega) (by decide)) (Nat.le_of_ble_eq_true rfl) rfl (fun r4 S4 => ?_)
      refine sw_ist_5_4 (np := 33) dX8_woken_31 rfl rfl ?_
      refine sw_ild_5_2 (np := 34) dX8_woken_33 rfl ?_
      refine sw_if_ne (np := 37) (tp := 44) dX8_woken_34 rfl rfl ?_ ?_
      · refine sw_ild_5_4 (np := 46) dX8_woken_44 rfl ?_
        exact sw_iret dX8_woken_46
      · refine sw_ald_5_3 (np := 38) dX8_woken_37 rfl ?_
        refine sw_gI (np := 41) sw_f_RX8_202 hq1 dX8_woken_38 rfl ?_
        refine sw_goto (tp := 46) dX8_woken_41 rfl ?_
        exact sw_iret dX8_woken_46
    · refine sw_iconst (np := 17) dX8_woken_16 sw_ic_m1 rfl ?_
      exact sw_iret dX8_woken_17
/-- SwordAttic.walk(I)I -/
def fX8_walk (N : Nat) (p1 : Int32) (S : sw_St) : Option (Int32 × sw_St) :=
  sw_bd (fX8_within N p1 (0 : Int32) (2 : Int32) S) (fun r1 S1 => (if r1 = 0 then (some ((-1 : Int32), S1)) else (if p1 = (2 : Int32) then (sw_bd (fX7_stepsByAll N S1) (fun r4 S4 => (some (r4, S4)))) else (sw_bd (fX4_nearestAwakeCot N 1 S1) (fun r2 S2 => (if r2 ≥ 0 then (if p1 = 0 then (sw_bd (fX8_steps N (S2.1 1 3) r2 S2) (fun r3 S3 => (some (r3, S3)))) else (some (r2, S2))) else (some ((-2 : Int32), S2))))))))
theorem hX8_walk {G : sw_G} {N d : Nat} (hd : 4 ≤ d) {p1 : Int32}  {S : sw_St} : sw_Ev G yX8_walk cX8_walk 3 (some .int) d sw_ei [sw_vr G 0, .int p1] S (fX8_walk N p1 S) := by
  refine sw_Ev_of (own := RX8) (lv0 := [some (sw_vr G 0), some (.int p1), none]) (by decide) rfl (Nat.le_of_ble_eq_true rfl) rfl ?_
  unfold fX8_walk
  refine sw_ild_3_1 (np := 1) dX8_walk_0 rfl ?_
  refine sw_iconst (np := 2) dX8_walk_1 sw_ic_0 rfl ?_
  refine sw_iconst (np := 3) dX8_walk_2 sw_ic_2 rfl ?_
  refine sw_cS3i (np := 6) (hX8_within (d := d - 1) (by omega) ) sw_ms_X8_within sw_wl_RX8_83 dX8_walk_3 (sw_fit_rm (by omega) (by decide)) (Nat.le_of_ble_eq_true rfl) rfl (fun r1 S1 => ?_)
  refine sw_if_ne (np := 9) (tp := 11) dX8_walk_6 rfl rfl ?_ ?_
  · refine sw_ild_3_1 (np := 12) dX8_walk_11 rfl ?_
    refine sw_iconst (np := 13) dX8_walk_12 sw_ic_2 rfl ?_
    refine sw_icmp_ne (np := 16) (tp := 24) dX8_walk_13 rfl rfl ?_ ?_
    · refine sw_ald_3_0 (np := 25) dX8_walk_24 rfl ?_
      refine sw_gR (np := 28) sw_f_RX8_10 sw_k_0 sw_r_0_0 dX8_walk_25 rfl ?_
      refine sw_cV0i (np := 31) (hX4_nearestAwakeCot (d := d - 1) (by omega) sw_k_1) sw_mv_X4_nearestAwakeCot sw_k_1 sw_wl_RX8_208 dX8_walk_28 (sw_fit_rm (by omega) (by decide)) (Nat.le_of_ble_eq_true rfl) rfl (fun r2 S2 => ?_)
      refine sw_ist_3_2 (np := 32) dX8_walk_31 rfl rfl ?_
      refine sw_ild_3_2 (np := 33) dX8_walk_32 rfl ?_
      refine sw_if_ge (np := 36) (tp := 39) dX8_walk_33 rfl rfl ?_ ?_
      · refine sw_ild_3_1 (np := 40) dX8_walk_39 rfl ?_
        refine sw_if_ne (np := 43) (tp := 57) dX8_walk_40 rfl rfl ?_ ?_
        · refine sw_ild_3_2 (np := 58) dX8_walk_57 rfl ?_
          exact sw_iret dX8_walk_58
        · refine sw_ald_3_0 (np := 44) dX8_walk_43 rfl ?_
          refine sw_gR (np := 47) sw_f_RX8_10 sw_k_0 sw_r_0_0 dX8_walk_44 rfl ?_
          refine sw_gI (np := 50) sw_f_RX8_211 sw_k_1 dX8_walk_47 rfl ?_
          refine sw_ild_3_2 (np := 51) dX8_walk_50 rfl ?_
          refine sw_cS2i (np := 54) (hX8_steps (d := d - 1) (by omega) ) sw_ms_X8_steps sw_wl_RX8_214 dX8_walk_51 (sw_fit_rm (by omega) (by decide)) (Nat.le_of_ble_eq_true rfl) rfl (fun r3 S3 => ?_)
          refine sw_goto (tp := 58) dX8_walk_54 rfl ?_
          exact sw_iret dX8_walk_58
      · refine sw_bipush (np := 38) dX8_walk_36 sw_bc_m2 rfl ?_
        exact sw_iret dX8_walk_38
    · refine sw_ald_3_0 (np := 17) dX8_walk_16 rfl ?_
      refine sw_gR (np := 20) sw_f_RX8_35 sw_k_0 sw_r_0_3 dX8_walk_17 rfl ?_
      refine sw_cV0i (np := 23) (hX7_stepsByAll (d := d - 1) (by omega) ) sw_mv_X7_stepsByAll sw_k_23 sw_wl_RX8_205 dX8_walk_20 (sw_fit_rm (by omega) (by decide)) (Nat.le_of_ble_eq_true rfl) rfl (fun r4 S4 => ?_)
      exact sw_iret dX8_walk_23
  · refine sw_iconst (np := 10) dX8_walk_9 sw_ic_m1 rfl ?_
    exact sw_iret dX8_walk_10
/-- SwordAttic.areShelves(I)Z -/
def fX8_areShelves (N : Nat) (p0 : Int32) (S : sw_St) : Option (Int32 × sw_St) :=
  if p0 < 0 then (some (vp_nar .boolean (0 : Int32), S)) else (sw_bd (fX8_isShelf N (p0 / (10 : Int32)) S) (fun r1 S1 => (if r1 = 0 then (some (vp_nar .boolean (0 : Int32), S1)) else (sw_bd (fX8_isShelf N (p0 - p0 / (10 : Int32) * (10 : Int32)) S1) (fun r2 S2 => (if r2 = 0 then (some (vp_nar .boolean (0 : Int32), S2)) else (some (vp_nar .boolean (1 : Int32), S2))))))))
theorem hX8_areShelves {G : sw_G} {N d : Nat} (hd : 3 ≤ d) {p0 : Int32}  {S : sw_St} : sw_Ev G yX8_areShelves cX8_areShelves 1 (some .boolean) d sw_ei [.int p0] S (fX8_areShelves N p0 S) := by
  refine sw_Ev_of (own := RX8) (lv0 := [some (.int p0)]) (by decide) rfl (Nat.le_of_ble_eq_true rfl) rfl ?_
  unfold fX8_areShelves
  refine sw_ild_1_0 (np := 1) dX8_areShelves_0 rfl ?_
  refine sw_if_lt (np := 4) (tp := 28) dX8_areShelves_1 rfl rfl ?_ ?_
  · refine sw_iconst (np := 29) dX8_areShelves_28 sw_ic_0 rfl ?_
    exact sw_zret dX8_areShelves_29
  · refine sw_ild_1_0 (np := 5) dX8_areShelves_4 rfl ?_
    refine sw_bipush (np := 7) dX8_areShelves_5 sw_bc_10 rfl ?_
    refine sw_idiv (np := 8) dX8_areShelves_7 (by decide) rfl ?_
    refine sw_cS1i (np := 11) (hX8_isShelf (d := d - 1) (by omega) ) sw_ms_X8_isShelf sw_wl_RX8_79 dX8_areShelves_8 (sw_fit_rm (by omega) (by decide)) (Nat.le_of_ble_eq_true rfl) rfl (fun r1 S1 => ?_)
    refine sw_if_eq (np := 14) (tp := 28) dX8_areShelves_11 rfl rfl ?_ ?_
    · refine sw_iconst (np := 29) dX8_areShelves_28 sw_ic_0 rfl ?_
      exact sw_zret dX8_areShelves_29
    · refine sw_ild_1_0 (np := 15) dX8_areShelves_14 rfl ?_
      refine sw_bipush (np := 17) dX8_areShelves_15 sw_bc_10 rfl ?_
      refine sw_irem (np := 18) dX8_areShelves_17 (by decide) rfl ?_
      refine sw_cS1i (np := 21) (hX8_isShelf (d := d - 1) (by omega) ) sw_ms_X8_isShelf sw_wl_RX8_79 dX8_areShelves_18 (sw_fit_rm (by omega) (by decide)) (Nat.le_of_ble_eq_true rfl) rfl (fun r2 S2 => ?_)
      refine sw_if_eq (np := 24) (tp := 28) dX8_areShelves_21 rfl rfl ?_ ?_
      · refine sw_iconst (np := 29) dX8_areShelves_28 sw_ic_0 rfl ?_
        exact sw_zret dX8_areShelves_29
      · refine sw_iconst (np := 25) dX8_areShelves_24 sw_ic_1 rfl ?_
        refine sw_goto (tp := 29) dX8_areShelves_25 rfl ?_
        exact sw_zret dX8_areShelves_29
/-- SwordAttic.refusalOfBoth(I)I -/
def fX8_refusalOfBoth (N : Nat) (p1 : Int32) (S : sw_St) : Option (Int32 × sw_St) :=
  sw_gd (sw_in (p1 / (10 : Int32)) 6) (sw_bd (fX8_refusalOfBytes N (93 + 2 * (p1 / (10 : Int32)).toNatClampNeg) S) (fun r1 S1 => (if r1 = 0 then (sw_gd (sw_in (p1 - p1 / (10 : Int32) * (10 : Int32)) 6) (sw_bd (fX8_refusalOfBytes N (93 + 2 * (p1 - p1 / (10 : Int32) * (10 : Int32)).toNatClampNeg) S1) (fun r2 S2 => (some (r2, S2))))) else (some (r1, S1)))))
theorem hX8_refusalOfBoth {G : sw_G} {N d : Nat} (hd : 3 ≤ d) {p1 : Int32}  {S : sw_St} : sw_Ev G yX8_refusalOfBoth cX8_refusalOfBoth 3 (some .int) d sw_ei [sw_vr G 0, .int p1] S (fX8_refusalOfBoth N p1 S) := by
  refine sw_Ev_of (own := RX8) (lv0 := [some (sw_vr G 0), some (.int p1), none]) (by decide) rfl (Nat.le_of_ble_eq_true rfl) rfl ?_
  unfold fX8_refusalOfBoth
  refine sw_ald_3_0 (np := 1) dX8_refusalOfBoth_0 rfl ?_
  refine sw_gR (np := 4) sw_f_RX8_62 sw_k_0 sw_r_0_7 dX8_refusalOfBoth_1 rfl ?_
  refine sw_ild_3_1 (np := 5) dX8_refusalOfBoth_4 rfl ?_
  refine sw_bipush (np := 7) dX8_refusalOfBoth_5 sw_bc_10 rfl ?_
  refine sw_idiv (np := 8) dX8_refusalOfBoth_7 (by decide) rfl ?_
  refine sw_aldS (np := 9) dX8_refusalOfBoth_8 rfl (fun hq1 => ?_)
  refine sw_cS1i (np := 12) (hX8_refusalOfBytes (d := d - 1) (by omega) hq1) sw_ms_X8_refusalOfBytes sw_wl_RX8_149 dX8_refusalOfBoth_9 (sw_fit_rm (by omega) (by decide)) (Nat.le_of_ble_eq_true rfl) rfl (fun r1 S1 => ?_)
  refine sw_ist_3_2 (np := 13) dX8_refusalOfBoth_12 rfl rfl ?_
  refine sw_ild_3_2 (np := 14) dX8_refusalOfBoth_13 rfl ?_
  refine sw_if_eq (np := 17) (tp := 21) dX8_refusalOfBoth_14 rfl rfl ?_ ?_
  · refine sw_ald_3_0 (np := 22) dX8_refusalOfBoth_21 rfl ?_
    refine sw_gR (np := 25) sw_f_RX8_62 sw_k_0 sw_r_0_7 dX8_refusalOfBoth_22 rfl ?_
    refine sw_ild_3_1 (np := 26) dX8_refusalOfBoth_25 rfl ?_
    refine sw_bipush (np := 28) dX8_refusalOfBoth_26 sw_bc_10 rfl ?_
    refine sw_irem (np := 29) dX8_refusalOfBoth_28 (by decide) rfl ?_
    refine sw_aldS (np := 30) dX8_refusalOfBoth_29 rfl (fun hq2 => ?_)
    refine sw_cS1i (np := 33) (hX8_refusalOfBytes (d := d - 1) (by omega) hq2) sw_ms_X8_refusalOfBytes sw_wl_RX8_149 dX8_refusalOfBoth_30 (sw_fit_rm (by omega) (by decide)) (Nat.le_of_ble_eq_true rfl) rfl (fun r2 S2 => ?_)
    exact sw_iret dX8_refusalOfBoth_33
  · refine sw_ild_3_2 (np := 18) dX8_refusalOfBoth_17 rfl ?_
    refine sw_goto (tp := 33) dX8_refusalOfBoth_18 rfl ?_
    exact sw_iret dX8_refusalOfBoth_33
/-- SwordAttic.judge(II)I -/
def fX8_judge (N : Nat) (p1 : Int32) (p2 : Int32) (S : sw_St) : Option (Int32 × sw_St) :=
  sw_bd (fX8_areShelves N p1 S) (fun r1 S1 => (if r1 = 0 then (some ((-1 : Int32), S1)) else (sw_bd (fX8_isSword N p2 S1) (fun r2 S2 => (if r2 = 0 then (some ((-1 : Int32), S2)) else (sw_bd (fX8_refusalOfBoth N p1 S2) (fun r3 S3 => (if r3 = 0 then (sw_gd (sw_in (p1 / (10 : Int32)) 6) (sw_gd (sw_in (p1 - p1 / (10 : Int32) * (10 : Int32)) 6) (sw_bd (fX7_judged N (93 + 2 * (p1 / (10 : Int32)).toNatClampNeg) (93 + 2 * (p1 - p1 / (10 : Int32) * (10 : Int32)).toNatClampNeg) p2 S3) (fun r4 S4 => (some (r4, S4)))))) else (some (r3, S3))))))))))
theorem hX8_judge {G : sw_G} {N d : Nat} (hd : 8 ≤ d) {p1 : Int32} {p2 : Int32}  {S : sw_St} : sw_Ev G yX8_judge cX8_judge 4 (some .int) d sw_ei [sw_vr G 0, .int p1, .int p2] S (fX8_judge N p1 p2 S) := by
  refine sw_Ev_of (own := RX8) (lv0 := [some (sw_vr G 0), some (.int p1), some (.int p2), none]) (by decide) rfl (Nat.le_of_ble_eq_true rfl) rfl ?_
  unfold fX8_judge
  refine sw_ild_4_1 (np := 1) dX8_judge_0 rfl ?_
  refine sw_cS1i (np := 4) (hX8_areShelves (d := d - 1) (by omega) ) sw_ms_X8_areShelves sw_wl_RX8_217 dX8_judge_1 (sw_fit_rm (by omega) (by decide)) (Nat.le_of_ble_eq_true rfl) rfl (fun r1 S1 => ?_)
  refine sw_if_eq (np := 7) (tp := 15) dX8_judge_4 rfl rfl ?_ ?_
  · refine sw_iconst (np := 16) dX8_judge_15 sw_ic_m1 rfl ?_
    exact sw_iret dX8_judge_16
  · refine sw_ald_4_0 (np := 8) dX8_judge_7 rfl ?_
    refine sw_ild_4_2 (np := 9) dX8_judge_8 rfl ?_
    refine sw_cV1i (np := 12) (hX8_isSword (d := d - 1) (by omega) ) sw_mv_X8_isSword sw_k_0 sw_wl_RX8_141 dX8_judge_9 (sw_fit_rm (by omega) (by decide)) (Nat.le_of_ble_eq_true rfl) rfl (fun r2 S2 => ?_)
    refine sw_if_ne (np := 15) (tp := 17) dX8_judge_12 rfl rfl ?_ ?_
    · refine sw_ald_4_0 (np := 18) dX8_judge_17 rfl ?_
      refine sw_ild_4_1 (np := 19) dX8_judge_18 rfl ?_
      refine sw_cV1i (np := 22) (hX8_refusalOfBoth (d := d - 1) (by omega) ) sw_mv_X8_refusalOfBoth sw_k_0 sw_wl_RX8_220 dX8_judge_19 (sw_fit_rm (by omega) (by decide)) (Nat.le_of_ble_eq_true rfl) rfl (fun r3 S3 => ?_)
      refine sw_ist_4_3 (np := 23) dX8_judge_22 rfl rfl ?_
      refine sw_ild_4_3 (np := 24) dX8_judge_23 rfl ?_
      refine sw_if_eq (np := 27) (tp := 31) dX8_judge_24 rfl rfl ?_ ?_
      · refine sw_ald_4_0 (np := 32) dX8_judge_31 rfl ?_
        refine sw_gR (np := 35) sw_f_RX8_35 sw_k_0 sw_r_0_3 dX8_judge_32 rfl ?_
        refine sw_ald_4_0 (np := 36) dX8_judge_35 rfl ?_
        refine sw_gR (np := 39) sw_f_RX8_62 sw_k_0 sw_r_0_7 dX8_judge_36 rfl ?_
        refine sw_ild_4_1 (np := 40) dX8_judge_39 rfl ?_
        refine sw_bipush (np := 42) dX8_judge_40 sw_bc_10 rfl ?_
        refine sw_idiv (np := 43) dX8_judge_42 (by decide) rfl ?_
        refine sw_aldS (np := 44) dX8_judge_43 rfl (fun hq1 => ?_)
        refine sw_ald_4_0 (np := 45) dX8_judge_44 rfl ?_
        refine sw_gR (np := 48) sw_f_RX8_62 sw_k_0 sw_r_0_7 dX8_judge_45 rfl ?_
        refine sw_ild_4_1 (np := 49) dX8_judge_48 rfl ?_
        refine sw_bipush (np := 51) dX8_judge_49 sw_bc_10 rfl ?_
        refine sw_irem (np := 52) dX8_judge_51 (by decide) rfl ?_
        refine sw_aldS (np := 53) dX8_judge_52 rfl (fun hq2 => ?_)
        refine sw_ild_4_2 (np := 54) dX8_judge_53 rfl ?_
        refine sw_cV3i (np := 57) (hX7_judged (d := d - 1) (by omega) hq1 hq2) sw_mv_X7_judged sw_k_23 sw_wl_RX8_223 dX8_judge_54 (sw_fit_rm (by omega) (by decide)) (Nat.le_of_ble_eq_true rfl) rfl (fun r4 S4 => ?_)
        exact sw_iret dX8_judge_57
      · refine sw_ild_4_3 (np := 28) dX8_judge_27 rfl ?_
        refine sw_goto (tp := 57) dX8_judge_28 rfl ?_
        exact sw_iret dX8_judge_57
    · refine sw_iconst (np := 16) dX8_judge_15 sw_ic_m1 rfl ?_
      exact sw_iret dX8_judge_16
/-- SwordAttic.fits(III)I -/
def fX8_fits (N : Nat) (p1 : Int32) (p2 : Int32) (p3 : Int32) (S : sw_St) : Option (Int32 × sw_St) :=
  sw_bd (fX8_areShelves N p1 S) (fun r1 S1 => (if r1 = 0 then (some ((-1 : Int32), S1)) else (if p2 < 0 then (some ((-1 : Int32), S1)) else (sw_bd (fX8_isSword N (p2 / (10 : Int32)) S1) (fun r2 S2 => (if r2 = 0 then (some ((-1 : Int32), S2)) else (sw_bd (fX8_isSword N (p2 - p2 / (10 : Int32) * (10 : Int32)) S2) (fun r3 S3 => (if r3 = 0 then (some ((-1 : Int32), S3)) else (sw_bd (fX8_within N p3 (0 : Int32) (3 : Int32) S3) (fun r4 S4 => (if r4 = 0 then (some ((-1 : Int32), S4)) else (sw_bd (fX8_refusalOfBoth N p1 S4) (fun r5 S5 => (if r5 = 0 then (sw_gd (sw_in (p1 / (10 : Int32)) 6) (sw_gd (sw_in (p1 - p1 / (10 : Int32) * (10 : Int32)) 6) (if p3 ≥ (2 : Int32) then (sw_bd (fX7_fit N (93 + 2 * (p1 / (10 : Int32)).toNatClampNeg) (93 + 2 * (p1 - p1 / (10 : Int32) * (10 : Int32)).toNatClampNeg) p2 (2 : Int32) S5) (fun _ S6 => (if (p3 - p3 / (2 : Int32) * (2 : Int32)) = 0 then (some ((S6.1 23 3), S6)) else (some ((S6.1 23 4), S6))))) else (sw_bd (fX7_fit N (93 + 2 * (p1 / (10 : Int32)).toNatClampNeg) (93 + 2 * (p1 - p1 / (10 : Int32) * (10 : Int32)).toNatClampNeg) p2 (1 : Int32) S5) (fun _ S7 => (if (p3 - p3 / (2 : Int32) * (2 : Int32)) = 0 then (some ((S7.1 23 3), S7)) else (some ((S7.1 23 4), S7)))))))) else (some (r5, S5)))))))))))))))))
theorem hX8_fits {G : sw_G} {N d : Nat} (hd : 8 ≤ d) {p1 : Int32} {p2 : Int32} {p3 : Int32}  {S : sw_St} : sw_Ev G yX8_fits cX8_fits 5 (some .int) d sw_ei [sw_vr G 0, .int p1, .int p2, .int p3] S (fX8_fits N p1 p2 p3 S) := by
  refine sw_Ev_of (own := RX8) (lv0 := [some (sw_vr G 0), some (.int p1), some (.int p2), some (.int p3), none]) (by decide) rfl (Nat.le_of_ble_eq_true rfl) rfl ?_
  unfold fX8_fits
  refine sw_ild_5_1 (np := 1) dX8_fits_0 rfl ?_
  refine sw_cS1i (np := 4) (hX8_areShelves (d := d - 1) (by omega) ) sw_ms_X8_areShelves sw_wl_RX8_217 dX8_fits_1 (sw_fit_rm (by omega) (by decide)) (Nat.le_of_ble_eq_true rfl) rfl (fun r1 S1 => ?_)
  refine sw_if_eq (np := 7) (tp := 42) dX8_fits_4 rfl rfl ?_ ?_
  · refine sw_iconst (np := 43) dX8_fits_42 sw_ic_m1 rfl ?_
    exact sw_iret dX8_fits_43
  · refine sw_ild_5_2 (np := 8) dX8_fits_7 rfl ?_
    refine sw_if_lt (np := 11) (tp := 42) dX8_fits_8 rfl rfl ?_ ?_
    · refine sw_iconst (np := 43) dX8_fits_42 sw_ic_m1 rfl ?_
      exact sw_iret dX8_fits_43
    · refine sw_ald_5_0 (np := 12) dX8_fits_11 rfl ?_
      refine sw_ild_5_2 (np := 13) dX8_fits_12 rfl ?_
      refine sw_bipush (np := 15) dX8_fits_13 sw_bc_10 rfl ?_
      refine sw_idiv (np := 16) dX8_fits_15 (by decide) rfl ?_
      refine sw_cV1i (np := 19) (hX8_isSword (d := d - 1) (by omega) ) sw_mv_X8_isSword sw_k_0 sw_wl_RX8_141 dX8_fits_16 (sw_fit_rm (by omega) (by decide)) (Nat.le_of_ble_eq_true rfl) rfl (fun r2 S2 => ?_)
      refine sw_if_eq (np := 22) (tp := 42) dX8_fits_19 rfl rfl ?_ ?_
      · refine sw_iconst (np := 43) dX8_fits_42 sw_ic_m1 rfl ?_
        exact sw_iret dX8_fits_43
      · refine sw_ald_5_0 (np := 23) dX8_fits_22 rfl ?_
        refine sw_ild_5_2 (np := 24) dX8_fits_23 rfl ?_
        refine sw_bipush (np := 26) dX8_fits_24 sw_bc_10 rfl ?_
        refine sw_irem (np := 27) dX8_fits_26 (by decide) rfl ?_
        refine sw_cV1i (np := 30) (hX8_isSword (d := d - 1) (by omega) ) sw_mv_X8_isSword sw_k_0 sw_wl_RX8_141 dX8_fits_27 (sw_fit_rm (by omega) (by decide)) (Nat.le_of_ble_eq_true rfl) rfl (fun r3 S3 => ?_)
        refine sw_if_eq (np := 33) (tp := 42) dX8_fits_30 rfl rfl ?_ ?_
        · refine sw_iconst (np := 43) dX8_fits_42 sw_ic_m1 rfl ?_
          exact sw_iret dX8_fits_43
        · refine sw_ild_5_3 (np := 34) dX8_fits_33 rfl ?_
          refine sw_iconst (np := 35) dX8_fits_34 sw_ic_0 rfl ?_
          refine sw_iconst (np := 36) dX8_fits_35 sw_ic_3 rfl ?_
          refine sw_cS3i (np := 39) (hX8_within (d := d - 1) (by omega) ) sw_ms_X8_within sw_wl_RX8_83 dX8_fits_36 (sw_fit_rm (by omega) (by decide)) (Nat.le_of_ble_eq_true rfl) rfl (fun r4 S4 => ?_)
          refine sw_if_ne (np := 42) (tp := 44) dX8_fits_39 rfl rfl ?_ ?_
          · refine sw_ald_5_0 (np := 45) dX8_fits_44 rfl ?_
            refine sw_ild_5_1 (np := 46) dX8_fits_45 rfl ?_
            refine sw_cV1i (np := 49) (hX8_refusalOfBoth (d := d - 1) (by omega) ) sw_mv_X8_refusalOfBoth sw_k_0 sw_wl_RX8_220 dX8_fits_46 (sw_fit_rm (by omega) (by decide)) (Nat.le_of_ble_eq_true rfl) rfl (fun r5 S5 => ?_)
            refine sw_ist_5_4 (np := 51) dX8_fits_49 rfl rfl ?_
            refine sw_ild_5_4 (np := 53) dX8_fits_51 rfl ?_
            refine sw_if_eq (np := 56) (tp := 59) dX8_fits_53 rfl rfl ?_ ?_
            · refine sw_ald_5_0 (np := 60) dX8_fits_59 rfl ?_
              refine sw_gR (np := 63) sw_f_RX8_35 sw_k_0 sw_r_0_3 dX8_fits_60 rfl ?_
              refine sw_ald_5_0 (np := 64) dX8_fits_63 rfl ?_
              refine sw_gR (np := 67) sw_f_RX8_62 sw_k_0 sw_r_0_7 dX8_fits_64 rfl ?_
              refine sw_ild_5_1 (np := 68) dX8_fits_67 rfl ?_
              refine sw_bipush (np := 70) dX8_fits_68 sw_bc_10 rfl ?_
              refine sw_idiv (np := 71) dX8_fits_70 (by decide) rfl ?_
              refine sw_aldS (np := 72) dX8_fits_71 rfl (fun hq1 => ?_)
              refine sw_ald_5_0 (np := 73) dX8_fits_72 rfl ?_
              refine sw_gR (np := 76) sw_f_RX8_62 sw_k_0 sw_r_0_7 dX8_fits_73 rfl ?_
              refine sw_ild_5_1 (np := 77) dX8_fits_76 rfl ?_
              refine sw_bipush (np := 79) dX8_fits_77 sw_bc_10 rfl ?_
              refine sw_irem (np := 80) dX8_fits_79 (by decide) rfl ?_
              refine sw_aldS (np := 81) dX8_fits_80 rfl (fun hq2 => ?_)
              refine sw_ild_5_2 (np := 82) dX8_fits_81 rfl ?_
              refine sw_ild_5_3 (np := 83) dX8_fits_82 rfl ?_
              refine sw_iconst (np := 84) dX8_fits_83 sw_ic_2 rfl ?_
              refine sw_icmp_ge (np := 87) (tp := 91) dX8_fits_84 rfl rfl ?_ ?_
              · refine sw_iconst (np := 92) dX8_fits_91 sw_ic_2 rfl ?_
                refine sw_cV4v (np := 95) (hX7_fit (d := d - 1) (by omega) hq1 hq2) sw_mv_X7_fit sw_k_23 sw_wl_RX8_227 dX8_fits_92 (sw_fit_rm (by omega) (by decide)) (Nat.le_of_ble_eq_true rfl) rfl (fun _ S6 => ?_)
                refine sw_ild_5_3 (np := 96) dX8_fits_95 rfl ?_
                refine sw_iconst (np := 97) dX8_fits_96 sw_ic_2 rfl ?_
                refine sw_irem (np := 98) dX8_fits_97 (by decide) rfl ?_
                refine sw_if_ne (np := 101) (tp := 111) dX8_fits_98 rfl rfl ?_ ?_
                · refine sw_ald_5_0 (np := 112) dX8_fits_111 rfl ?_
                  refine sw_gR (np := 115) sw_f_RX8_35 sw_k_0 sw_r_0_3 dX8_fits_112 rfl ?_
                  refine sw_gI (np := 118) sw_f_RX8_234 sw_k_23 dX8_fits_115 rfl ?_
                  exact sw_iret dX8_fits_118
                · refine sw_ald_5_0 (np := 102) dX8_fits_101 rfl ?_
                  refine sw_gR (np := 105) sw_f_RX8_35 sw_k_0 sw_r_0_3 dX8_fits_102 rfl ?_
                  refine sw_gI (np := 108) sw_f_RX8_231 sw_k_23 dX8_fits_105 rfl ?_
                  refine sw_goto (tp := 118) dX8_fits_108 rfl ?_
                  exact sw_iret dX8_fits_118
              · refine sw_iconst (np := 88) dX8_fits_87 sw_ic_1 rfl ?_
                refine sw_goto (tp := 92) dX8_fits_88 rfl ?_
                refine sw_cV4v (np := 95) (hX7_fit (d := d - 1) (by omega) hq1 hq2) sw_mv_X7_fit sw_k_23 sw_wl_RX8_227 dX8_fits_92 (sw_fit_rm (by omega) (by decide)) (Nat.le_of_ble_eq_true rfl) rfl (fun _ S7 => ?_)
                refine sw_ild_5_3 (np := 96) dX8_fits_95 rfl ?_
                refine sw_iconst (np := 97) dX8_fits_96 sw_ic_2 rfl ?_
                refine sw_irem (np := 98) dX8_fits_97 (by decide) rfl ?_
                refine sw_if_ne (np := 101) (tp := 111) dX8_fits_98 rfl rfl ?_ ?_
                · refine sw_ald_5_0 (np := 112) dX8_fits_111 rfl ?_
                  refine sw_gR (np := 115) sw_f_RX8_35 sw_k_0 sw_r_0_3 dX8_fits_112 rfl ?_
                  refine sw_gI (np := 118) sw_f_RX8_234 sw_k_23 dX8_fits_115 rfl ?_
                  exact sw_iret dX8_fits_118
                · refine sw_ald_5_0 (np := 102) dX8_fits_101 rfl ?_
                  refine sw_gR (np := 105) sw_f_RX8_35 sw_k_0 sw_r_0_3 dX8_fits_102 rfl ?_
                  refine sw_gI (np := 108) sw_f_RX8_231 sw_k_23 dX8_fits_105 rfl ?_
                  refine sw_goto (tp := 118) dX8_fits_108 rfl ?_
                  exact sw_iret dX8_fits_118
            · refine sw_ild_5_4 (np := 58) dX8_fits_56 rfl ?_
              exact sw_iret dX8_fits_58
          · refine sw_iconst (np := 43) dX8_fits_42 sw_ic_m1 rfl ?_
            exact sw_iret dX8_fits_43
/-- SwordAttic.dealt(I)I -/
def fX8_dealt (N : Nat) (p1 : Int32) (S : sw_St) : Option (Int32 × sw_St) :=
  sw_bd (fX8_within N p1 (0 : Int32) (1 : Int32) S) (fun r1 S1 => (if r1 = 0 then (some ((-1 : Int32), S1)) else (sw_bd (fX7_deal N S1) (fun _ S2 => (if p1 = 0 then (some ((S2.1 23 0), S2)) else (some ((S2.1 23 5), S2)))))))
theorem hX8_dealt {G : sw_G} {N d : Nat} (hd : 7 ≤ d) {p1 : Int32}  {S : sw_St} : sw_Ev G yX8_dealt cX8_dealt 2 (some .int) d sw_ei [sw_vr G 0, .int p1] S (fX8_dealt N p1 S) := by
  refine sw_Ev_of (own := RX8) (lv0 := [some (sw_vr G 0), some (.int p1)]) (by decide) rfl (Nat.le_of_ble_eq_true rfl) rfl ?_
  unfold fX8_dealt
  refine sw_ild_2_1 (np := 1) dX8_dealt_0 rfl ?_
  refine sw_iconst (np := 2) dX8_dealt_1 sw_ic_0 rfl ?_
  refine sw_iconst (np := 3) dX8_dealt_2 sw_ic_1 rfl ?_
  refine sw_cS3i (np := 6) (hX8_within (d := d - 1) (by omega) ) sw_ms_X8_within sw_wl_RX8_83 dX8_dealt_3 (sw_fit_rm (by omega) (by decide)) (Nat.le_of_ble_eq_true rfl) rfl (fun r1 S1 => ?_)
  refine sw_if_ne (np := 9) (tp := 11) dX8_dealt_6 rfl rfl ?_ ?_
  · refine sw_ald_2_0 (np := 12) dX8_dealt_11 rfl ?_
    refine sw_gR (np := 15) sw_f_RX8_35 sw_k_0 sw_r_0_3 dX8_dealt_12 rfl ?_
    refine sw_cV0v (np := 18) (hX7_deal (d := d - 1) (by omega) ) sw_mv_X7_deal sw_k_23 sw_wl_RX8_237 dX8_dealt_15 (sw_fit_rm (by omega) (by decide)) (Nat.le_of_ble_eq_true rfl) rfl (fun _ S2 => ?_)
    refine sw_ild_2_1 (np := 19) dX8_dealt_18 rfl ?_
    refine sw_if_ne (np := 22) (tp := 32) dX8_dealt_19 rfl rfl ?_ ?_
    · refine sw_ald_2_0 (np := 33) dX8_dealt_32 rfl ?_
      refine sw_gR (np := 36) sw_f_RX8_35 sw_k_0 sw_r_0_3 dX8_dealt_33 rfl ?_
      refine sw_gI (np := 39) sw_f_RX8_240 sw_k_23 dX8_dealt_36 rfl ?_
      exact sw_iret dX8_dealt_39
    · refine sw_ald_2_0 (np := 23) dX8_dealt_22 rfl ?_
      refine sw_gR (np := 26) sw_f_RX8_35 sw_k_0 sw_r_0_3 dX8_dealt_23 rfl ?_
      refine sw_gI (np := 29) sw_f_RX8_176 sw_k_23 dX8_dealt_26 rfl ?_
      refine sw_goto (tp := 39) dX8_dealt_29 rfl ?_
      exact sw_iret dX8_dealt_39
  · refine sw_iconst (np := 10) dX8_dealt_9 sw_ic_m1 rfl ?_
    exact sw_iret dX8_dealt_10
/-- SwordAttic.lines(I)I -/
def fX8_lines (N : Nat) (p1 : Int32) (S : sw_St) : Option (Int32 × sw_St) :=
  sw_bd (fX8_within N p1 (-2 : Int32) (18 : Int32) S) (fun r1 S1 => (if r1 = 0 then (some ((-1 : Int32), S1)) else (if p1 < 0 then (sw_bd (fX4_mostApart N 1 S1) (fun r2 S2 => (if p1 = (-1 : Int32) then (sw_bd (fJ6_bitCount_0f7a4 N r2 S2) (fun r3 S3 => (some (r3, S3)))) else (some (r2, S2))))) else (sw_bd (fX4_pairsOf N 1 p1 S1) (fun r4 S4 => (some (r4, S4)))))))
theorem hX8_lines {G : sw_G} {N d : Nat} (hd : 3 ≤ d) {p1 : Int32}  {S : sw_St} : sw_Ev G yX8_lines cX8_lines 3 (some .int) d sw_ei [sw_vr G 0, .int p1] S (fX8_lines N p1 S) := by
  refine sw_Ev_of (own := RX8) (lv0 := [some (sw_vr G 0), some (.int p1), none]) (by decide) rfl (Nat.le_of_ble_eq_true rfl) rfl ?_
  unfold fX8_lines
  refine sw_ild_3_1 (np := 1) dX8_lines_0 rfl ?_
  refine sw_bipush (np := 3) dX8_lines_1 sw_bc_m2 rfl ?_
  refine sw_bipush (np := 5) dX8_lines_3 sw_bc_18 rfl ?_
  refine sw_cS3i (np := 8) (hX8_within (d := d - 1) (by omega) ) sw_ms_X8_within sw_wl_RX8_83 dX8_lines_5 (sw_fit_rm (by omega) (by decide)) (Nat.le_of_ble_eq_true rfl) rfl (fun r1 S1 => ?_)
  refine sw_if_ne (np := 11) (tp := 13) dX8_lines_8 rfl rfl ?_ ?_
  · refine sw_ild_3_1 (np := 14) dX8_lines_13 rfl ?_
    refine sw_if_lt (np := 17) (tp := 26) dX8_lines_14 rfl rfl ?_ ?_
    · refine sw_ald_3_0 (np := 27) dX8_lines_26 rfl ?_
      refine sw_gR (np := 30) sw_f_RX8_10 sw_k_0 sw_r_0_0 dX8_lines_27 rfl ?_
      refine sw_cV0i (np := 33) (hX4_mostApart (d := d - 1) (by omega) sw_k_1) sw_mv_X4_mostApart sw_k_1 sw_wl_RX8_246 dX8_lines_30 (sw_fit_rm (by omega) (by decide)) (Nat.le_of_ble_eq_true rfl) rfl (fun r2 S2 => ?_)
      refine sw_ist_3_2 (np := 34) dX8_lines_33 rfl rfl ?_
      refine sw_ild_3_1 (np := 35) dX8_lines_34 rfl ?_
      refine sw_iconst (np := 36) dX8_lines_35 sw_ic_m1 rfl ?_
      refine sw_icmp_ne (np := 39) (tp := 46) dX8_lines_36 rfl rfl ?_ ?_
      · refine sw_ild_3_2 (np := 47) dX8_lines_46 rfl ?_
        exact sw_iret dX8_lines_47
      · refine sw_ild_3_2 (np := 40) dX8_lines_39 rfl ?_
        refine sw_cS1i (np := 43) (hJ6_bitCount_0f7a4 (d := d - 1) (by omega) ) sw_ms_J6_bitCount_0f7a4 sw_wl_RX8_249 dX8_lines_40 (sw_fit_rm (by omega) (by decide)) (Nat.le_of_ble_eq_true rfl) rfl (fun r3 S3 => ?_)
        refine sw_goto (tp := 47) dX8_lines_43 rfl ?_
        exact sw_iret dX8_lines_47
    · refine sw_ald_3_0 (np := 18) dX8_lines_17 rfl ?_
      refine sw_gR (np := 21) sw_f_RX8_10 sw_k_0 sw_r_0_0 dX8_lines_18 rfl ?_
      refine sw_ild_3_1 (np := 22) dX8_lines_21 rfl ?_
      refine sw_cV1i (np := 25) (hX4_pairsOf (d := d - 1) (by omega) sw_k_1) sw_mv_X4_pairsOf sw_k_1 sw_wl_RX8_243 dX8_lines_22 (sw_fit_rm (by omega) (by decide)) (Nat.le_of_ble_eq_true rfl) rfl (fun r4 S4 => ?_)
      exact sw_iret dX8_lines_25
  · refine sw_iconst (np := 12) dX8_lines_11 sw_ic_m1 rfl ?_
    exact sw_iret dX8_lines_12
/-- SwordAttic.byTurns(II)I -/
def fX8_byTurns (N : Nat) (p1 : Int32) (p2 : Int32) (S : sw_St) : Option (Int32 × sw_St) :=
  sw_bd (fX8_within N p1 (1 : Int32) (4 : Int32) S) (fun r1 S1 => (if r1 = 0 then (some ((-1 : Int32), S1)) else (sw_bd (fX8_within N p2 (0 : Int32) (1 : Int32) S1) (fun r2 S2 => (if r2 = 0 then (some ((-1 : Int32), S2)) else (sw_bd (fX7_playTurns N p1 S2) (fun r3 S3 => (if p2 = 0 then (some (r3, S3)) else (some ((S3.1 23 6), S3))))))))))
theorem hX8_byTurns {G : sw_G} {N d : Nat} (hd : 106 ≤ d) {p1 : Int32} {p2 : Int32}  {S : sw_St} : sw_Ev G yX8_byTurns cX8_byTurns 4 (some .int) d sw_ei [sw_vr G 0, .int p1, .int p2] S (fX8_byTurns N p1 p2 S) := by
  refine sw_Ev_of (own := RX8) (lv0 := [some (sw_vr G 0), some (.int p1), some (.int p2), none]) (by decide) rfl (Nat.le_of_ble_eq_true rfl) rfl ?_
  unfold fX8_byTurns
  refine sw_ild_4_1 (np := 1) dX8_byTurns_0 rfl ?_
  refine sw_iconst (np := 2) dX8_byTurns_1 sw_ic_1 rfl ?_
  refine sw_iconst (np := 3) dX8_byTurns_2 sw_ic_4 rfl ?_
  refine sw_cS3i (np := 6) (hX8_within (d := d - 1) (by omega) ) sw_ms_X8_within sw_wl_RX8_83 dX8_byTurns_3 (sw_fit_rm (by omega) (by decide)) (Nat.le_of_ble_eq_true rfl) rfl (fun r1 S1 => ?_)
  refine sw_if_eq (np := 9) (tp := 18) dX8_byTurns_6 rfl rfl ?_ ?_
  · refine sw_iconst (np := 19) dX8_byTurns_18 sw_ic_m1 rfl ?_
    exact sw_iret dX8_byTurns_19
  · refine sw_ild_4_2 (np := 10) dX8_byTurns_9 rfl ?_
    refine sw_iconst (np := 11) dX8_byTurns_10 sw_ic_0 rfl ?_
    refine sw_iconst (np := 12) dX8_byTurns_11 sw_ic_1 rfl ?_
    refine sw_cS3i (np := 15) (hX8_within (d := d - 1) (by omega) ) sw_ms_X8_within sw_wl_RX8_83 dX8_byTurns_12 (sw_fit_rm (by omega) (by decide)) (Nat.le_of_ble_eq_true rfl) rfl (fun r2 S2 => ?_)
    refine sw_if_ne (np := 18) (tp := 20) dX8_byTurns_15 rfl rfl ?_ ?_
    · refine sw_ald_4_0 (np := 21) dX8_byTurns_20 rfl ?_
      refine sw_gR (np := 24) sw_f_RX8_35 sw_k_0 sw_r_0_3 dX8_byTurns_21 rfl ?_
      refine sw_ild_4_1 (np := 25) dX8_byTurns_24 rfl ?_
      refine sw_cV1i (np := 28) (hX7_playTurns (d := d - 1) (by omega) ) sw_mv_X7_playTurns sw_k_23 sw_wl_RX8_254 dX8_byTurns_25 (sw_fit_rm (by omega) (by decide)) (Nat.le_of_ble_eq_true rfl) rfl (fun r3 S3 => ?_)
      refine sw_ist_4_3 (np := 29) dX8_byTurns_28 rfl rfl ?_
      refine sw_ild_4_2 (np := 30) dX8_byTurns_29 rfl ?_
      refine sw_if_ne (np := 33) (tp := 37) dX8_byTurns_30 rfl rfl ?_ ?_
      · refine sw_ald_4_0 (np := 38) dX8_byTurns_37 rfl ?_
        refine sw_gR (np := 41) sw_f_RX8_35 sw_k_0 sw_r_0_3 dX8_byTurns_38 rfl ?_
        refine sw_gI (np := 44) sw_f_RX8_257 sw_k_23 dX8_byTurns_41 rfl ?_
        exact sw_iret dX8_byTurns_44
      · refine sw_ild_4_3 (np := 34) dX8_byTurns_33 rfl ?_
        refine sw_goto (tp := 44) dX8_byTurns_34 rfl ?_
        exact sw_iret dX8_byTurns_44
    · refine sw_iconst (np := 19) dX8_byTurns_18 sw_ic_m1 rfl ?_
      exact sw_iret dX8_byTurns_19
/-- SwordAttic.drawn(III)I -/
def fX8_drawn (N : Nat) (p1 : Int32) (p2 : Int32) (p3 : Int32) (S : sw_St) : Option (Int32 × sw_St) :=
  sw_li (p2 / (10000 : Int32)) (fun x4_1 => (sw_li ((p2 / (100 : Int32)) - (p2 / (100 : Int32)) / (100 : Int32) * (100 : Int32)) (fun x5_1 => (sw_li (p2 - p2 / (100 : Int32) * (100 : Int32)) (fun x6_1 => (sw_bd (fX8_within N x4_1 (1 : Int32) (30 : Int32) S) (fun r1 S1 => (if r1 = 0 then (some ((-1 : Int32), S1)) else (sw_bd (fX8_within N x5_1 (1 : Int32) (24 : Int32) S1) (fun r2 S2 => (if r2 = 0 then (some ((-1 : Int32), S2)) else (sw_bd (fX8_within N x6_1 (0 : Int32) (12 : Int32) S2) (fun r3 S3 => (if r3 = 0 then (some ((-1 : Int32), S3)) else (if p3 = (-1 : Int32) then (sw_bd (fX7_drawNights N p1 x4_1 x5_1 x6_1 p3 S3) (fun r4 S4 => (some (r4, S4)))) else (sw_bd (fX8_isSword N p3 S3) (fun r5 S5 => (if r5 = 0 then (some ((-1 : Int32), S5)) else (sw_bd (fX7_drawNights N p1 x4_1 x5_1 x6_1 p3 S5) (fun r6 S6 => (some (r6, S6))))))))))))))))))))))
theorem hX8_drawn {G : sw_G} {N d : Nat} (hd : 7 ≤ d) {p1 : Int32} {p2 : Int32} {p3 : Int32}  {S : sw_St} : sw_Ev G yX8_drawn cX8_drawn 7 (some .int) d sw_ei [sw_vr G 0, .int p1, .int p2, .int p3] S (fX8_drawn N p1 p2 p3 S) := by
  refine sw_Ev_of (own := RX8) (lv0 := [some (sw_vr G 0), some (.int p1), some (.int p2), some (.int p3), none, none, none]) (by decide) rfl (Nat.le_of_ble_eq_true rfl) rfl ?_
  unfold fX8_drawn
  refine sw_ild_7_2 (np := 1) dX8_drawn_0 rfl ?_
  refine sw_sipush (np := 4) dX8_drawn_1 sw_sc_10000 rfl ?_
  refine sw_idiv (np := 5) dX8_drawn_4 (by decide) rfl ?_
  refine sw_isl_7_4 (np := 7) dX8_drawn_5 rfl rfl (fun x4_1 => ?_)
  refine sw_ild_7_2 (np := 8) dX8_drawn_7 rfl ?_
  refine sw_bipush (np := 10) dX8_drawn_8 sw_bc_100 rfl ?_
  refine sw_idiv (np := 11) dX8_drawn_10 (by decide) rfl ?_
  refine sw_bipush (np := 13) dX8_drawn_11 sw_bc_100 rfl ?_
  refine sw_irem (np := 14) dX8_drawn_13 (by decide) rfl ?_
  refine sw_isl_7_5 (np := 16) dX8_drawn_14 rfl rfl (fun x5_1 => ?_)
  refine sw_ild_7_2 (np := 17) dX8_drawn_16 rfl ?_
  refine sw_bipush (np := 19) dX8_drawn_17 sw_bc_100 rfl ?_
  refine sw_irem (np := 20) dX8_drawn_19 (by decide) rfl ?_
  refine sw_isl_7_6 (np := 22) dX8_drawn_20 rfl rfl (fun x6_1 => ?_)
  refine sw_ild_7_4 (np := 24) dX8_drawn_22 rfl ?_
  refine sw_iconst (np := 25) dX8_drawn_24 sw_ic_1 rfl ?_
  refine sw_bipush (np := 27) dX8_drawn_25 sw_bc_30 rfl ?_
  refine sw_cS3i (np := 30) (hX8_within (d := d - 1) (by omega) ) sw_ms_X8_within sw_wl_RX8_83 dX8_drawn_27 (sw_fit_rm (by omega) (by decide)) (Nat.le_of_ble_eq_true rfl) rfl (fun r1 S1 => ?_)
  refine sw_if_eq (np := 33) (tp := 55) dX8_drawn_30 rfl rfl ?_ ?_
  · refine sw_iconst (np := 56) dX8_drawn_55 sw_ic_m1 rfl ?_
    exact sw_iret dX8_drawn_56
  · refine sw_ild_7_5 (np := 35) dX8_drawn_33 rfl ?_
    refine sw_iconst (np := 36) dX8_drawn_35 sw_ic_1 rfl ?_
    refine sw_bipush (np := 38) dX8_drawn_36 sw_bc_24 rfl ?_
    refine sw_cS3i (np := 41) (hX8_within (d := d - 1) (by omega) ) sw_ms_X8_within sw_wl_RX8_83 dX8_drawn_38 (sw_fit_rm (by omega) (by decide)) (Nat.le_of_ble_eq_true rfl) rfl (fun r2 S2 => ?_)
    refine sw_if_eq (np := 44) (tp := 55) dX8_drawn_41 rfl rfl ?_ ?_
    · refine sw_iconst (np := 56) dX8_drawn_55 sw_ic_m1 rfl ?_
      exact sw_iret dX8_drawn_56
    · refine sw_ild_7_6 (np := 46) dX8_drawn_44 rfl ?_
      refine sw_iconst (np := 47) dX8_drawn_46 sw_ic_0 rfl ?_
      refine sw_bipush (np := 49) dX8_drawn_47 sw_bc_12 rfl ?_
      refine sw_cS3i (np := 52) (hX8_within (d := d - 1) (by omega) ) sw_ms_X8_within sw_wl_RX8_83 dX8_drawn_49 (sw_fit_rm (by omega) (by decide)) (Nat.le_of_ble_eq_true rfl) rfl (fun r3 S3 => ?_)
      refine sw_if_ne (np := 55) (tp := 57) dX8_drawn_52 rfl rfl ?_ ?_
      · refine sw_ild_7_3 (np := 58) dX8_drawn_57 rfl ?_
        refine sw_iconst (np := 59) dX8_drawn_58 sw_ic_m1 rfl ?_
        refine sw_icmp_eq (np := 62) (tp := 72) dX8_drawn_59 rfl rfl ?_ ?_
        · refine sw_ald_7_0 (np := 73) dX8_drawn_72 rfl ?_
          refine sw_gR (np := 76) sw_f_RX8_35 sw_k_0 sw_r_0_3 dX8_drawn_73 rfl ?_
          refine sw_ild_7_1 (np := 77) dX8_drawn_76 rfl ?_
          refine sw_ild_7_4 (np := 79) dX8_drawn_77 rfl ?_
          refine sw_ild_7_5 (np := 81) dX8_drawn_79 rfl ?_
          refine sw_ild_7_6 (np := 83) dX8_drawn_81 rfl ?_
          refine sw_ild_7_3 (np := 84) dX8_drawn_83 rfl ?_
          refine sw_cV5i (np := 87) (hX7_drawNights (d := d - 1) (by omega) ) sw_mv_X7_drawNights sw_k_23 sw_wl_RX8_260 dX8_drawn_84 (sw_fit_rm (by omega) (by decide)) (Nat.le_of_ble_eq_true rfl) rfl (fun r4 S4 => ?_)
          exact sw_iret dX8_drawn_87
        · refine sw_ald_7_0 (np := 63) dX8_drawn_62 rfl ?_
          refine sw_ild_7_3 (np := 64) dX8_drawn_63 rfl ?_
          refine sw_cV1i (np := 67) (hX8_isSword (d := d - 1) (by omega) ) sw_mv_X8_isSword sw_k_0 sw_wl_RX8_141 dX8_drawn_64 (sw_fit_rm (by omega) (by decide)) (Nat.le_of_ble_eq_true rfl) rfl (fun r5 S5 => ?_)
          refine sw_if_ne (np := 70) (tp := 72) dX8_drawn_67 rfl rfl ?_ ?_
          · refine sw_ald_7_0 (np := 73) dX8_drawn_72 rfl ?_
            refine sw_gR (np := 76) sw_f_RX8_35 sw_k_0 sw_r_0_3 dX8_drawn_73 rfl ?_
            refine sw_ild_7_1 (np := 77) dX8_drawn_76 rfl ?_
            refine sw_ild_7_4 (np := 79) dX8_drawn_77 rfl ?_
            refine sw_ild_7_5 (np := 81) dX8_drawn_79 rfl ?_
            refine sw_ild_7_6 (np := 83) dX8_drawn_81 rfl ?_
            refine sw_ild_7_3 (np := 84) dX8_drawn_83 rfl ?_
            refine sw_cV5i (np := 87) (hX7_drawNights (d := d - 1) (by omega) ) sw_mv_X7_drawNights sw_k_23 sw_wl_RX8_260 dX8_drawn_84 (sw_fit_rm (by omega) (by decide)) (Nat.le_of_ble_eq_true rfl) rfl (fun r6 S6 => ?_)
            exact sw_iret dX8_drawn_87
          · refine sw_iconst (np := 71) dX8_drawn_70 sw_ic_m1 rfl ?_
            exact sw_iret dX8_drawn_71
      · refine sw_iconst (np := 56) dX8_drawn_55 sw_ic_m1 rfl ?_
        exact sw_iret dX8_drawn_56
/-- SwordAttic.hour(I)I -/
def fX8_hour (N : Nat) (p1 : Int32) (S : sw_St) : Option (Int32 × sw_St) :=
  sw_bd (fX8_isCot N p1 S) (fun r1 S1 => (if r1 = 0 then (some ((-1 : Int32), S1)) else (sw_bd (fX4_awakeSwords N 1 S1) (fun r2 S2 => (sw_ls (sw_si S2 1 3 p1) (fun S3 => (sw_bd (fX4_passHour N 1 11 p1 S3) (fun _ S4 => (sw_bd (fX4_awakeSwords N 1 S4) (fun r4 S5 => (sw_bd (fX2_add N (0 : Int32) (1 : Int32) S5) (fun _ S6 => (sw_bd (fJ6_bitCount_0f7a4 N (r4 &&& (r2 ^^^ (-1 : Int32))) S6) (fun r6 S7 => (sw_bd (fX2_add N (4 : Int32) r6 S7) (fun _ S8 => (sw_bd (fJ6_bitCount_0f7a4 N r4 S8) (fun r8 S9 => (some (r8, S9))))))))))))))))))))
theorem hX8_hour {G : sw_G} {N d : Nat} (hd : 6 ≤ d) {p1 : Int32}  {S : sw_St} : sw_Ev G yX8_hour cX8_hour 4 (some .int) d sw_ei [sw_vr G 0, .int p1] S (fX8_hour N p1 S) := by
  refine sw_Ev_of (own := RX8) (lv0 := [some (sw_vr G 0), some (.int p1), none, none]) (by decide) rfl (Nat.le_of_ble_eq_true rfl) rfl ?_
  unfold fX8_hour
  refine sw_ild_4_1 (np := 1) dX8_hour_0 rfl ?_
  refine sw_cS1i (np := 4) (hX8_isCot (d := d - 1) (by omega) ) sw_ms_X8_isCot sw_wl_RX8_119 dX8_hour_1 (sw_fit_rm (by omega) (by decide)) (Nat.le_of_ble_eq_true rfl) rfl (fun r1 S1 => ?_)
  refine sw_if_ne (np := 7) (tp := 9) dX8_hour_4 rfl rfl ?_ ?_
  · refine sw_ald_4_0 (np := 10) dX8_hour_9 rfl ?_
    refine sw_gR (np := 13) sw_f_RX8_10 sw_k_0 sw_r_0_0 dX8_hour_10 rfl ?_
    refine sw_cV0i (np := 16) (hX4_awakeSwords (d := d - 1) (by omega) sw_k_1) sw_mv_X4_awakeSwords sw_k_1 sw_wl_RX8_160 dX8_hour_13 (sw_fit_rm (by omega) (by decide)) (Nat.le_of_ble_eq_true rfl) rfl (fun r2 S2 => ?_)
    refine sw_ist_4_2 (np := 17) dX8_hour_16 rfl rfl ?_
    refine sw_ald_4_0 (np := 18) dX8_hour_17 rfl ?_
    refine sw_gR (np := 21) sw_f_RX8_10 sw_k_0 sw_r_0_0 dX8_hour_18 rfl ?_
    refine sw_ild_4_1 (np := 22) dX8_hour_21 rfl ?_
    refine sw_pI (np := 25) sw_f_RX8_211 sw_fp_4_3 sw_k_1 dX8_hour_22 rfl (fun S3 => ?_)
    refine sw_ald_4_0 (np := 26) dX8_hour_25 rfl ?_
    refine sw_gR (np := 29) sw_f_RX8_10 sw_k_0 sw_r_0_0 dX8_hour_26 rfl ?_
    refine sw_ald_4_0 (np := 30) dX8_hour_29 rfl ?_
    refine sw_gR (np := 33) sw_f_RX8_19 sw_k_0 sw_r_0_1 dX8_hour_30 rfl ?_
    refine sw_ild_4_1 (np := 34) dX8_hour_33 rfl ?_
    refine sw_cV2v (np := 37) (hX4_passHour (d := d - 1) (by omega) sw_k_1 sw_k_11) sw_mv_X4_passHour sw_k_1 sw_wl_RX8_264 dX8_hour_34 (sw_fit_rm (by omega) (by decide)) (Nat.le_of_ble_eq_true rfl) rfl (fun _ S4 => ?_)
    refine sw_ald_4_0 (np := 38) dX8_hour_37 rfl ?_
    refine sw_gR (np := 41) sw_f_RX8_10 sw_k_0 sw_r_0_0 dX8_hour_38 rfl ?_
    refine sw_cV0i (np := 44) (hX4_awakeSwords (d := d - 1) (by omega) sw_k_1) sw_mv_X4_awakeSwords sw_k_1 sw_wl_RX8_160 dX8_hour_41 (sw_fit_rm (by omega) (by decide)) (Nat.le_of_ble_eq_true rfl) rfl (fun r4 S5 => ?_)
    refine sw_ist_4_3 (np := 45) dX8_hour_44 rfl rfl ?_
    refine sw_ald_4_0 (np := 46) dX8_hour_45 rfl ?_
    refine sw_gR (np := 49) sw_f_RX8_49 sw_k_0 sw_r_0_5 dX8_hour_46 rfl ?_
    refine sw_iconst (np := 50) dX8_hour_49 sw_ic_0 rfl ?_
    refine sw_iconst (np := 51) dX8_hour_50 sw_ic_1 rfl ?_
    refine sw_cV2v (np := 54) (hX2_add (d := d - 1) (by omega) ) sw_mv_X2_add sw_k_84 sw_wl_RX8_268 dX8_hour_51 (sw_fit_rm (by omega) (by decide)) (Nat.le_of_ble_eq_true rfl) rfl (fun _ S6 => ?_)
    refine sw_ald_4_0 (np := 55) dX8_hour_54 rfl ?_
    refine sw_gR (np := 58) sw_f_RX8_49 sw_k_0 sw_r_0_5 dX8_hour_55 rfl ?_
    refine sw_iconst (np := 59) dX8_hour_58 sw_ic_4 rfl ?_
    refine sw_ild_4_3 (np := 60) dX8_hour_59 rfl ?_
    refine sw_ild_4_2 (np := 61) dX8_hour_60 rfl ?_
    refine sw_iconst (np := 62) dX8_hour_61 sw_ic_m1 rfl ?_
    refine sw_ixor (np := 63) dX8_hour_62 rfl ?_
    refine sw_iand (np := 64) dX8_hour_63 rfl ?_
    refine sw_cS1i (np := 67) (hJ6_bitCount_0f7a4 (d := d - 1) (by omega) ) sw_ms_J6_bitCount_0f7a4 sw_wl_RX8_249 dX8_hour_64 (sw_fit_rm (by omega) (by decide)) (Nat.le_of_ble_eq_true rfl) rfl (fun r6 S7 => ?_)
    refine sw_cV2v (np := 70) (hX2_add (d := d - 1) (by omega) ) sw_mv_X2_add sw_k_84 sw_wl_RX8_268 dX8_hour_67 (sw_fit_rm (by omega) (by decide)) (Nat.le_of_ble_eq_true rfl) rfl (fun _ S8 => ?_)
    refine sw_ild_4_3 (np := 71) dX8_hour_70 rfl ?_
    refine sw_cS1i (np := 74) (hJ6_bitCount_0f7a4 (d := d - 1) (by omega) ) sw_ms_J6_bitCount_0f7a4 sw_wl_RX8_249 dX8_hour_71 (sw_fit_rm (by omega) (by decide)) (Nat.le_of_ble_eq_true rfl) rfl (fun r8 S9 => ?_)
    exact sw_iret dX8_hour_74
  · refine sw_iconst (np := 8) dX8_hour_7 sw_ic_m1 rfl ?_
    exact sw_iret dX8_hour_8
/-- SwordAttic.telling(II)I -/
def fX8_telling (N : Nat) (p1 : Int32) (p2 : Int32) (S : sw_St) : Option (Int32 × sw_St) :=
  sw_bd (fX8_isCot N p1 S) (fun r1 S1 => (if r1 = 0 then (some ((-1 : Int32), S1)) else (sw_bd (fX8_within N p2 (0 : Int32) (9 : Int32) S1) (fun r2 S2 => (if r2 = 0 then (some ((-1 : Int32), S2)) else (sw_gd (sw_in p1 12) (sw_li (S2.1 (1 + 6) p1.toNatClampNeg) (fun x3_1 => (sw_bd (fX8_isSword N x3_1 S2) (fun r3 S3 => (if r3 = 0 then (some ((-5 : Int32), S3)) else (sw_bd (fX4_tellAt N 1 p1 p2 S3) (fun _ S4 => (sw_bd (fX2_add N (1 : Int32) (1 : Int32) S4) (fun _ S5 => (sw_gd (sw_in x3_1 10) (some ((S5.1 (1 + 4) x3_1.toNatClampNeg), S5))))))))))))))))))
theorem hX8_telling {G : sw_G} {N d : Nat} (hd : 3 ≤ d) {p1 : Int32} {p2 : Int32}  {S : sw_St} : sw_Ev G yX8_telling cX8_telling 4 (some .int) d sw_ei [sw_vr G 0, .int p1, .int p2] S (fX8_telling N p1 p2 S) := by
  refine sw_Ev_of (own := RX8) (lv0 := [some (sw_vr G 0), some (.int p1), some (.int p2), none]) (by decide) rfl (Nat.le_of_ble_eq_true rfl) rfl ?_
  unfold fX8_telling
  refine sw_ild_4_1 (np := 1) dX8_telling_0 rfl ?_
  refine sw_cS1i (np := 4) (hX8_isCot (d := d - 1) (by omega) ) sw_ms_X8_isCot sw_wl_RX8_119 dX8_telling_1 (sw_fit_rm (by omega) (by decide)) (Nat.le_of_ble_eq_true rfl) rfl (fun r1 S1 => ?_)
  refine sw_if_eq (np := 7) (tp := 17) dX8_telling_4 rfl rfl ?_ ?_
  · refine sw_iconst (np := 18) dX8_telling_17 sw_ic_m1 rfl ?_
    exact sw_iret dX8_telling_18
  · refine sw_ild_4_2 (np := 8) dX8_telling_7 rfl ?_
    refine sw_iconst (np := 9) dX8_telling_8 sw_ic_0 rfl ?_
    refine sw_bipush (np := 11) dX8_telling_9 sw_bc_9 rfl ?_
    refine sw_cS3i (np := 14) (hX8_within (d := d - 1) (by omega) ) sw_ms_X8_within sw_wl_RX8_83 dX8_telling_11 (sw_fit_rm (by omega) (by decide)) (Nat.le_of_ble_eq_true rfl) rfl (fun r2 S2 => ?_)
    refine sw_if_ne (np := 17) (tp := 19) dX8_telling_14 rfl rfl ?_ ?_
    · refine sw_ald_4_0 (np := 20) dX8_telling_19 rfl ?_
      refine sw_gR (np := 23) sw_f_RX8_10 sw_k_0 sw_r_0_0 dX8_telling_20 rfl ?_
      refine sw_gR (np := 26) sw_f_RX8_122 sw_k_1 (sw_rf_4_10 sw_k_1) dX8_telling_23 rfl ?_
      refine sw_ild_4_1 (np := 27) dX8_telling_26 rfl ?_
      refine sw_iald (np := 28) (sw_kd_4_10 sw_k_1) (sw_ln_4_10 sw_k_1) dX8_telling_27 rfl ?_
      refine sw_isl_4_3 (np := 29) dX8_telling_28 rfl rfl (fun x3_1 => ?_)
      refine sw_ald_4_0 (np := 30) dX8_telling_29 rfl ?_
      refine sw_ild_4_3 (np := 31) dX8_telling_30 rfl ?_
      refine sw_cV1i (np := 34) (hX8_isSword (d := d - 1) (by omega) ) sw_mv_X8_isSword sw_k_0 sw_wl_RX8_141 dX8_telling_31 (sw_fit_rm (by omega) (by decide)) (Nat.le_of_ble_eq_true rfl) rfl (fun r3 S3 => ?_)
      refine sw_if_ne (np := 37) (tp := 40) dX8_telling_34 rfl rfl ?_ ?_
      · refine sw_ald_4_0 (np := 41) dX8_telling_40 rfl ?_
        refine sw_gR (np := 44) sw_f_RX8_10 sw_k_0 sw_r_0_0 dX8_telling_41 rfl ?_
        refine sw_ild_4_1 (np := 45) dX8_telling_44 rfl ?_
        refine sw_ild_4_2 (np := 46) dX8_telling_45 rfl ?_
        refine sw_cV2v (np := 49) (hX4_tellAt (d := d - 1) (by omega) sw_k_1) sw_mv_X4_tellAt sw_k_1 sw_wl_RX8_271 dX8_telling_46 (sw_fit_rm (by omega) (by decide)) (Nat.le_of_ble_eq_true rfl) rfl (fun _ S4 => ?_)
        refine sw_ald_4_0 (np := 50) dX8_telling_49 rfl ?_
        refine sw_gR (np := 53) sw_f_RX8_49 sw_k_0 sw_r_0_5 dX8_telling_50 rfl ?_
        refine sw_iconst (np := 54) dX8_telling_53 sw_ic_1 rfl ?_
        refine sw_iconst (np := 55) dX8_telling_54 sw_ic_1 rfl ?_
        refine sw_cV2v (np := 58) (hX2_add (d := d - 1) (by omega) ) sw_mv_X2_add sw_k_84 sw_wl_RX8_268 dX8_telling_55 (sw_fit_rm (by omega) (by decide)) (Nat.le_of_ble_eq_true rfl) rfl (fun _ S5 => ?_)
        refine sw_ald_4_0 (np := 59) dX8_telling_58 rfl ?_
        refine sw_gR (np := 62) sw_f_RX8_10 sw_k_0 sw_r_0_0 dX8_telling_59 rfl ?_
        refine sw_gR (np := 65) sw_f_RX8_157 sw_k_1 (sw_rf_4_8 sw_k_1) dX8_telling_62 rfl ?_
        refine sw_ild_4_3 (np := 66) dX8_telling_65 rfl ?_
        refine sw_iald (np := 67) (sw_kd_4_8 sw_k_1) (sw_ln_4_8 sw_k_1) dX8_telling_66 rfl ?_
        exact sw_iret dX8_telling_67
      · refine sw_bipush (np := 39) dX8_telling_37 sw_bc_m5 rfl ?_
        exact sw_iret dX8_telling_39
    · refine sw_iconst (np := 18) dX8_telling_17 sw_ic_m1 rfl ?_
      exact sw_iret dX8_telling_18
/-- SwordAttic.touch(I)I -/
def fX8_touch (N : Nat) (p1 : Int32) (S : sw_St) : Option (Int32 × sw_St) :=
  sw_bd (fX8_isCot N p1 S) (fun r1 S1 => (if r1 = 0 then (some ((-1 : Int32), S1)) else (sw_gd (sw_in p1 12) (if (S1.1 (1 + 6) p1.toNatClampNeg) ≥ 0 then (sw_bd (fX4_touchFrom N 1 p1 S1) (fun r2 S2 => (sw_bd (fJ6_bitCount_0f7a4 N (S2.1 1 4) S2) (fun r3 S3 => (sw_bd (fX2_add N (2 : Int32) (1 : Int32) S3) (fun _ S4 => (sw_bd (fX2_add N (3 : Int32) r3 S4) (fun _ S5 => (some (r3, S5)))))))))) else (some ((-5 : Int32), S1))))))
theorem hX8_touch {G : sw_G} {N d : Nat} (hd : 4 ≤ d) {p1 : Int32}  {S : sw_St} : sw_Ev G yX8_touch cX8_touch 3 (some .int) d sw_ei [sw_vr G 0, .int p1] S (fX8_touch N p1 S) := by
  refine sw_Ev_of (own := RX8) (lv0 := [some (sw_vr G 0), some (.int p1), none]) (by decide) rfl (Nat.le_of_ble_eq_true rfl) rfl ?_
  unfold fX8_touch
  refine sw_ild_3_1 (np := 1) dX8_touch_0 rfl ?_
  refine sw_cS1i (np := 4) (hX8_isCot (d := d - 1) (by omega) ) sw_ms_X8_isCot sw_wl_RX8_119 dX8_touch_1 (sw_fit_rm (by omega) (by decide)) (Nat.le_of_ble_eq_true rfl) rfl (fun r1 S1 => ?_)
  refine sw_if_ne (np := 7) (tp := 9) dX8_touch_4 rfl rfl ?_ ?_
  · refine sw_ald_3_0 (np := 10) dX8_touch_9 rfl ?_
    refine sw_gR (np := 13) sw_f_RX8_10 sw_k_0 sw_r_0_0 dX8_touch_10 rfl ?_
    refine sw_gR (np := 16) sw_f_RX8_122 sw_k_1 (sw_rf_4_10 sw_k_1) dX8_touch_13 rfl ?_
    refine sw_ild_3_1 (np := 17) dX8_touch_16 rfl ?_
    refine sw_iald (np := 18) (sw_kd_4_10 sw_k_1) (sw_ln_4_10 sw_k_1) dX8_touch_17 rfl ?_
    refine sw_if_ge (np := 21) (tp := 24) dX8_touch_18 rfl rfl ?_ ?_
    · refine sw_ald_3_0 (np := 25) dX8_touch_24 rfl ?_
      refine sw_gR (np := 28) sw_f_RX8_10 sw_k_0 sw_r_0_0 dX8_touch_25 rfl ?_
      refine sw_ild_3_1 (np := 29) dX8_touch_28 rfl ?_
      refine sw_cV1i (np := 32) (hX4_touchFrom (d := d - 1) (by omega) sw_k_1) sw_mv_X4_touchFrom sw_k_1 sw_wl_RX8_198 dX8_touch_29 (sw_fit_rm (by omega) (by decide)) (Nat.le_of_ble_eq_true rfl) rfl (fun r2 S2 => ?_)
      refine sw_pop (np := 33) dX8_touch_32 rfl rfl ?_
      refine sw_ald_3_0 (np := 34) dX8_touch_33 rfl ?_
      refine sw_gR (np := 37) sw_f_RX8_10 sw_k_0 sw_r_0_0 dX8_touch_34 rfl ?_
      refine sw_gI (np := 40) sw_f_RX8_202 sw_k_1 dX8_touch_37 rfl ?_
      refine sw_cS1i (np := 43) (hJ6_bitCount_0f7a4 (d := d - 1) (by omega) ) sw_ms_J6_bitCount_0f7a4 sw_wl_RX8_249 dX8_touch_40 (sw_fit_rm (by omega) (by decide)) (Nat.le_of_ble_eq_true rfl) rfl (fun r3 S3 => ?_)
      refine sw_ist_3_2 (np := 44) dX8_touch_43 rfl rfl ?_
      refine sw_ald_3_0 (np := 45) dX8_touch_44 rfl ?_
      refine sw_gR (np := 48) sw_f_RX8_49 sw_k_0 sw_r_0_5 dX8_touch_45 rfl ?_
      refine sw_iconst (np := 49) dX8_touch_48 sw_ic_2 rfl ?_
      refine sw_iconst (np := 50) dX8_touch_49 sw_ic_1 rfl ?_
      refine sw_cV2v (np := 53) (hX2_add (d := d - 1) (by omega) ) sw_mv_X2_add sw_k_84 sw_wl_RX8_268 dX8_touch_50 (sw_fit_rm (by omega) (by decide)) (Nat.le_of_ble_eq_true rfl) rfl (fun _ S4 => ?_)
      refine sw_ald_3_0 (np := 54) dX8_touch_53 rfl ?_
      refine sw_gR (np := 57) sw_f_RX8_49 sw_k_0 sw_r_0_5 dX8_touch_54 rfl ?_
      refine sw_iconst (np := 58) dX8_touch_57 sw_ic_3 rfl ?_
      refine sw_ild_3_2 (np := 59) dX8_touch_58 rfl ?_
      refine sw_cV2v (np := 62) (hX2_add (d := d - 1) (by omega) ) sw_mv_X2_add sw_k_84 sw_wl_RX8_268 dX8_touch_59 (sw_fit_rm (by omega) (by decide)) (Nat.le_of_ble_eq_true rfl) rfl (fun _ S5 => ?_)
      refine sw_ild_3_2 (np := 63) dX8_touch_62 rfl ?_
      exact sw_iret dX8_touch_63
    · refine sw_bipush (np := 23) dX8_touch_21 sw_bc_m5 rfl ?_
      exact sw_iret dX8_touch_23
  · refine sw_iconst (np := 8) dX8_touch_7 sw_ic_m1 rfl ?_
    exact sw_iret dX8_touch_8
/-- SwordAttic.hold(II)I -/
def fX8_hold (N : Nat) (p1 : Int32) (p2 : Int32) (S : sw_St) : Option (Int32 × sw_St) :=
  sw_bd (fX8_isSword N p1 S) (fun r1 S1 => (if r1 = 0 then (some ((-1 : Int32), S1)) else (sw_bd (fX8_within N p2 (0 : Int32) (1 : Int32) S1) (fun r2 S2 => (if r2 = 0 then (some ((-1 : Int32), S2)) else (sw_gd (sw_in p1 10) (sw_li (S2.1 (1 + 5) p1.toNatClampNeg) (fun x3_1 => (sw_gd (sw_in p1 10) (sw_ls (sw_si S2 (1 + 5) p1.toNatClampNeg p2) (fun S3 => (some (x3_1, S3)))))))))))))
theorem hX8_hold {G : sw_G} {N d : Nat} (hd : 3 ≤ d) {p1 : Int32} {p2 : Int32}  {S : sw_St} : sw_Ev G yX8_hold cX8_hold 4 (some .int) d sw_ei [sw_vr G 0, .int p1, .int p2] S (fX8_hold N p1 p2 S) := by
  refine sw_Ev_of (own := RX8) (lv0 := [some (sw_vr G 0), some (.int p1), some (.int p2), none]) (by decide) rfl (Nat.le_of_ble_eq_true rfl) rfl ?_
  unfold fX8_hold
  refine sw_ald_4_0 (np := 1) dX8_hold_0 rfl ?_
  refine sw_ild_4_1 (np := 2) dX8_hold_1 rfl ?_
  refine sw_cV1i (np := 5) (hX8_isSword (d := d - 1) (by omega) ) sw_mv_X8_isSword sw_k_0 sw_wl_RX8_141 dX8_hold_2 (sw_fit_rm (by omega) (by decide)) (Nat.le_of_ble_eq_true rfl) rfl (fun r1 S1 => ?_)
  refine sw_if_eq (np := 8) (tp := 17) dX8_hold_5 rfl rfl ?_ ?_
  · refine sw_iconst (np := 18) dX8_hold_17 sw_ic_m1 rfl ?_
    exact sw_iret dX8_hold_18
  · refine sw_ild_4_2 (np := 9) dX8_hold_8 rfl ?_
    refine sw_iconst (np := 10) dX8_hold_9 sw_ic_0 rfl ?_
    refine sw_iconst (np := 11) dX8_hold_10 sw_ic_1 rfl ?_
    refine sw_cS3i (np := 14) (hX8_within (d := d - 1) (by omega) ) sw_ms_X8_within sw_wl_RX8_83 dX8_hold_11 (sw_fit_rm (by omega) (by decide)) (Nat.le_of_ble_eq_true rfl) rfl (fun r2 S2 => ?_)
    refine sw_if_ne (np := 17) (tp := 19) dX8_hold_14 rfl rfl ?_ ?_
    · refine sw_ald_4_0 (np := 20) dX8_hold_19 rfl ?_
      refine sw_gR (np := 23) sw_f_RX8_10 sw_k_0 sw_r_0_0 dX8_hold_20 rfl ?_
      refine sw_gR (np := 26) sw_f_RX8_274 sw_k_1 (sw_rf_4_9 sw_k_1) dX8_hold_23 rfl ?_
      refine sw_ild_4_1 (np := 27) dX8_hold_26 rfl ?_
      refine sw_iald (np := 28) (sw_kd_4_9 sw_k_1) (sw_ln_4_9 sw_k_1) dX8_hold_27 rfl ?_
      refine sw_isl_4_3 (np := 29) dX8_hold_28 rfl rfl (fun x3_1 => ?_)
      refine sw_ald_4_0 (np := 30) dX8_hold_29 rfl ?_
      refine sw_gR (np := 33) sw_f_RX8_10 sw_k_0 sw_r_0_0 dX8_hold_30 rfl ?_
      refine sw_gR (np := 36) sw_f_RX8_274 sw_k_1 (sw_rf_4_9 sw_k_1) dX8_hold_33 rfl ?_
      refine sw_ild_4_1 (np := 37) dX8_hold_36 rfl ?_
      refine sw_ild_4_2 (np := 38) dX8_hold_37 rfl ?_
      refine sw_sI (np := 39) (sw_kd_4_9 sw_k_1) (sw_ln_4_9 sw_k_1) dX8_hold_38 rfl (fun S3 => ?_)
      refine sw_ild_4_3 (np := 40) dX8_hold_39 rfl ?_
      exact sw_iret dX8_hold_40
    · refine sw_iconst (np := 18) dX8_hold_17 sw_ic_m1 rfl ?_
      exact sw_iret dX8_hold_18
/-- SwordAttic.led(I)I -/
def fX8_led (N : Nat) (p1 : Int32) (S : sw_St) : Option (Int32 × sw_St) :=
  sw_bd (fX8_within N p1 (0 : Int32) (4 : Int32) S) (fun r1 S1 => (if r1 = 0 then (some ((-1 : Int32), S1)) else (sw_gd (sw_in p1 5) (some ((S1.1 85 p1.toNatClampNeg), S1)))))
theorem hX8_led {G : sw_G} {N d : Nat} (hd : 2 ≤ d) {p1 : Int32}  {S : sw_St} : sw_Ev G yX8_led cX8_led 2 (some .int) d sw_ei [sw_vr G 0, .int p1] S (fX8_led N p1 S) := by
  refine sw_Ev_of (own := RX8) (lv0 := [some (sw_vr G 0), some (.int p1)]) (by decide) rfl (Nat.le_of_ble_eq_true rfl) rfl ?_
  unfold fX8_led
  refine sw_ild_2_1 (np := 1) dX8_led_0 rfl ?_
  refine sw_iconst (np := 2) dX8_led_1 sw_ic_0 rfl ?_
  refine sw_iconst (np := 3) dX8_led_2 sw_ic_4 rfl ?_
  refine sw_cS3i (np := 6) (hX8_within (d := d - 1) (by omega) ) sw_ms_X8_within sw_wl_RX8_83 dX8_led_3 (sw_fit_rm (by omega) (by decide)) (Nat.le_of_ble_eq_true rfl) rfl (fun r1 S1 => ?_)
  refine sw_if_eq (np := 9) (tp := 21) dX8_led_6 rfl rfl ?_ ?_
  · refine sw_iconst (np := 22) dX8_led_21 sw_ic_m1 rfl ?_
    exact sw_iret dX8_led_22
  · refine sw_ald_2_0 (np := 10) dX8_led_9 rfl ?_
    refine sw_gR (np := 13) sw_f_RX8_49 sw_k_0 sw_r_0_5 dX8_led_10 rfl ?_
    refine sw_gR (np := 16) sw_f_RX8_277 sw_k_84 sw_r_84_1 dX8_led_13 rfl ?_
    refine sw_ild_2_1 (np := 17) dX8_led_16 rfl ?_
    refine sw_iald (np := 18) sw_k_85 sw_n_85 dX8_led_17 rfl ?_
    refine sw_goto (tp := 22) dX8_led_18 rfl ?_
    exact sw_iret dX8_led_22
/-- SwordAttic.image()I -/
def fX8_image (N : Nat)  (S : sw_St) : Option (Int32 × sw_St) :=
  sw_bd (fX2_keepImage N 1 S) (fun _ S1 => (sw_gd (sw_in (0 : Int32) 5) (some ((S1.1 85 (0 : Int32).toNatClampNeg), S1))))
theorem hX8_image {G : sw_G} {N d : Nat} (hd : 2 ≤ d)   {S : sw_St} : sw_Ev G yX8_image cX8_image 1 (some .int) d sw_ei [sw_vr G 0] S (fX8_image N  S) := by
  refine sw_Ev_of (own := RX8) (lv0 := [some (sw_vr G 0)]) (by decide) rfl (Nat.le_of_ble_eq_true rfl) rfl ?_
  unfold fX8_image
  refine sw_ald_1_0 (np := 1) dX8_image_0 rfl ?_
  refine sw_gR (np := 4) sw_f_RX8_49 sw_k_0 sw_r_0_5 dX8_image_1 rfl ?_
  refine sw_ald_1_0 (np := 5) dX8_image_4 rfl ?_
  refine sw_gR (np := 8) sw_f_RX8_10 sw_k_0 sw_r_0_0 dX8_image_5 rfl ?_
  refine sw_cV1v (np := 11) (hX2_keepImage (d := d - 1) (by omega) sw_k_1) sw_mv_X2_keepImage sw_k_84 sw_wl_RX8_280 dX8_image_8 (sw_fit_rm (by omega) (by decide)) (Nat.le_of_ble_eq_true rfl) rfl (fun _ S1 => ?_)
  refine sw_ald_1_0 (np := 12) dX8_image_11 rfl ?_
  refine sw_gR (np := 15) sw_f_RX8_49 sw_k_0 sw_r_0_5 dX8_image_12 rfl ?_
  refine sw_gR (np := 18) sw_f_RX8_277 sw_k_84 sw_r_84_1 dX8_image_15 rfl ?_
  refine sw_iconst (np := 19) dX8_image_18 sw_ic_0 rfl ?_
  refine sw_iald (np := 20) sw_k_85 sw_n_85 dX8_image_19 rfl ?_
  exact sw_iret dX8_image_20
/-- SwordAttic.back()I -/
def fX8_back (N : Nat)  (S : sw_St) : Option (Int32 × sw_St) :=
  if (S.1 84 0) = 0 then (some ((-5 : Int32), S)) else (sw_bd (fX2_layBack N 1 S) (fun _ S1 => (sw_gd (sw_in (0 : Int32) 5) (some ((S1.1 85 (0 : Int32).toNatClampNeg), S1)))))
theorem hX8_back {G : sw_G} {N d : Nat} (hd : 2 ≤ d)   {S : sw_St} : sw_Ev G yX8_back cX8_back 1 (some .int) d sw_ei [sw_vr G 0] S (fX8_back N  S) := by
  refine sw_Ev_of (own := RX8) (lv0 := [some (sw_vr G 0)]) (by decide) rfl (Nat.le_of_ble_eq_true rfl) rfl ?_
  unfold fX8_back
  refine sw_ald_1_0 (np := 1) dX8_back_0 rfl ?_
  refine sw_gR (np := 4) sw_f_RX8_49 sw_k_0 sw_r_0_5 dX8_back_1 rfl ?_
  refine sw_gI (np := 7) sw_f_RX8_284 sw_k_84 dX8_back_4 rfl ?_
  refine sw_if_ne (np := 10) (tp := 13) dX8_back_7 rfl rfl ?_ ?_
  · refine sw_ald_1_0 (np := 14) dX8_back_13 rfl ?_
    refine sw_gR (np := 17) sw_f_RX8_49 sw_k_0 sw_r_0_5 dX8_back_14 rfl ?_
    refine sw_ald_1_0 (np := 18) dX8_back_17 rfl ?_
    refine sw_gR (np := 21) sw_f_RX8_10 sw_k_0 sw_r_0_0 dX8_back_18 rfl ?_
    refine sw_cV1v (np := 24) (hX2_layBack (d := d - 1) (by omega) sw_k_1) sw_mv_X2_layBack sw_k_84 sw_wl_RX8_288 dX8_back_21 (sw_fit_rm (by omega) (by decide)) (Nat.le_of_ble_eq_true rfl) rfl (fun _ S1 => ?_)
    refine sw_ald_1_0 (np := 25) dX8_back_24 rfl ?_
    refine sw_gR (np := 28) sw_f_RX8_49 sw_k_0 sw_r_0_5 dX8_back_25 rfl ?_
    refine sw_gR (np := 31) sw_f_RX8_277 sw_k_84 sw_r_84_1 dX8_back_28 rfl ?_
    refine sw_iconst (np := 32) dX8_back_31 sw_ic_0 rfl ?_
    refine sw_iald (np := 33) sw_k_85 sw_n_85 dX8_back_32 rfl ?_
    exact sw_iret dX8_back_33
  · refine sw_bipush (np := 12) dX8_back_10 sw_bc_m5 rfl ?_
    exact sw_iret dX8_back_12
/-- SwordAttic.undo()I -/
def fX8_undo (N : Nat)  (S : sw_St) : Option (Int32 × sw_St) :=
  sw_bd (fX1_stepBack N 1 S) (fun r1 S1 => (if r1 = 0 then (some ((-5 : Int32), S1)) else (some ((S1.1 79 1), S1))))
theorem hX8_undo {G : sw_G} {N d : Nat} (hd : 5 ≤ d)   {S : sw_St} : sw_Ev G yX8_undo cX8_undo 1 (some .int) d sw_ei [sw_vr G 0] S (fX8_undo N  S) := by
  refine sw_Ev_of (own := RX8) (lv0 := [some (sw_vr G 0)]) (by decide) rfl (Nat.le_of_ble_eq_true rfl) rfl ?_
  unfold fX8_undo
  refine sw_ald_1_0 (np := 1) dX8_undo_0 rfl ?_
  refine sw_gR (np := 4) sw_f_RX8_42 sw_k_0 sw_r_0_4 dX8_undo_1 rfl ?_
  refine sw_ald_1_0 (np := 5) dX8_undo_4 rfl ?_
  refine sw_gR (np := 8) sw_f_RX8_10 sw_k_0 sw_r_0_0 dX8_undo_5 rfl ?_
  refine sw_cV1i (np := 11) (hX1_stepBack (d := d - 1) (by omega) sw_k_1) sw_mv_X1_stepBack sw_k_79 sw_wl_RX8_291 dX8_undo_8 (sw_fit_rm (by omega) (by decide)) (Nat.le_of_ble_eq_true rfl) rfl (fun r1 S1 => ?_)
  refine sw_if_eq (np := 14) (tp := 24) dX8_undo_11 rfl rfl ?_ ?_
  · refine sw_bipush (np := 26) dX8_undo_24 sw_bc_m5 rfl ?_
    exact sw_iret dX8_undo_26
  · refine sw_ald_1_0 (np := 15) dX8_undo_14 rfl ?_
    refine sw_gR (np := 18) sw_f_RX8_42 sw_k_0 sw_r_0_4 dX8_undo_15 rfl ?_
    refine sw_gI (np := 21) sw_f_RX8_295 sw_k_79 dX8_undo_18 rfl ?_
    refine sw_goto (tp := 26) dX8_undo_21 rfl ?_
    exact sw_iret dX8_undo_26
/-- SwordAttic.redo()I -/
def fX8_redo (N : Nat)  (S : sw_St) : Option (Int32 × sw_St) :=
  sw_bd (fX1_stepOn N 1 S) (fun r1 S1 => (if r1 = 0 then (some ((-5 : Int32), S1)) else (some (((S1.1 79 0) - (S1.1 79 1)), S1))))
theorem hX8_redo {G : sw_G} {N d : Nat} (hd : 5 ≤ d)   {S : sw_St} : sw_Ev G yX8_redo cX8_redo 1 (some .int) d sw_ei [sw_vr G 0] S (fX8_redo N  S) := by
  refine sw_Ev_of (own := RX8) (lv0 := [some (sw_vr G 0)]) (by decide) rfl (Nat.le_of_ble_eq_true rfl) rfl ?_
  unfold fX8_redo
  refine sw_ald_1_0 (np := 1) dX8_redo_0 rfl ?_
  refine sw_gR (np := 4) sw_f_RX8_42 sw_k_0 sw_r_0_4 dX8_redo_1 rfl ?_
  refine sw_ald_1_0 (np := 5) dX8_redo_4 rfl ?_
  refine sw_gR (np := 8) sw_f_RX8_10 sw_k_0 sw_r_0_0 dX8_redo_5 rfl ?_
  refine sw_cV1i (np := 11) (hX1_stepOn (d := d - 1) (by omega) sw_k_1) sw_mv_X1_stepOn sw_k_79 sw_wl_RX8_298 dX8_redo_8 (sw_fit_rm (by omega) (by decide)) (Nat.le_of_ble_eq_true rfl) rfl (fun r1 S1 => ?_)
  refine sw_if_eq (np := 14) (tp := 32) dX8_redo_11 rfl rfl ?_ ?_
  · refine sw_bipush (np := 34) dX8_redo_32 sw_bc_m5 rfl ?_
    exact sw_iret dX8_redo_34
  · refine sw_ald_1_0 (np := 15) dX8_redo_14 rfl ?_
    refine sw_gR (np := 18) sw_f_RX8_42 sw_k_0 sw_r_0_4 dX8_redo_15 rfl ?_
    refine sw_gI (np := 21) sw_f_RX8_301 sw_k_79 dX8_redo_18 rfl ?_
    refine sw_ald_1_0 (np := 22) dX8_redo_21 rfl ?_
    refine sw_gR (np := 25) sw_f_RX8_42 sw_k_0 sw_r_0_4 dX8_redo_22 rfl ?_
    refine sw_gI (np := 28) sw_f_RX8_295 sw_k_79 dX8_redo_25 rfl ?_
    refine sw_isub (np := 29) dX8_redo_28 rfl ?_
    refine sw_goto (tp := 34) dX8_redo_29 rfl ?_
    exact sw_iret dX8_redo_34
/-- SwordAttic.body(I)I -/
def fX8_body (N : Nat) (p1 : Int32) (S : sw_St) : Option (Int32 × sw_St) :=
  sw_bd (fX8_within N p1 (0 : Int32) (7 : Int32) S) (fun r1 S1 => (if r1 = 0 then (some ((-1 : Int32), S1)) else (if (S1.1 89 0) ≥ (50 : Int32) then (some ((-3 : Int32), S1)) else (sw_bd (fX0_add N p1 S1) (fun r2 S2 => (some (r2, S2)))))))
theorem hX8_body {G : sw_G} {N d : Nat} (hd : 2 ≤ d) {p1 : Int32}  {S : sw_St} : sw_Ev G yX8_body cX8_body 2 (some .int) d sw_ei [sw_vr G 0, .int p1] S (fX8_body N p1 S) := by
  refine sw_Ev_of (own := RX8) (lv0 := [some (sw_vr G 0), some (.int p1)]) (by decide) rfl (Nat.le_of_ble_eq_true rfl) rfl ?_
  unfold fX8_body
  refine sw_ild_2_1 (np := 1) dX8_body_0 rfl ?_
  refine sw_iconst (np := 2) dX8_body_1 sw_ic_0 rfl ?_
  refine sw_bipush (np := 4) dX8_body_2 sw_bc_7 rfl ?_
  refine sw_cS3i (np := 7) (hX8_within (d := d - 1) (by omega) ) sw_ms_X8_within sw_wl_RX8_83 dX8_body_4 (sw_fit_rm (by omega) (by decide)) (Nat.le_of_ble_eq_true rfl) rfl (fun r1 S1 => ?_)
  refine sw_if_ne (np := 10) (tp := 12) dX8_body_7 rfl rfl ?_ ?_
  · refine sw_ald_2_0 (np := 13) dX8_body_12 rfl ?_
    refine sw_gR (np := 16) sw_f_RX8_56 sw_k_0 sw_r_0_6 dX8_body_13 rfl ?_
    refine sw_gI (np := 19) sw_f_RX8_302 sw_k_89 dX8_body_16 rfl ?_
    refine sw_bipush (np := 21) dX8_body_19 sw_bc_50 rfl ?_
    refine sw_icmp_ge (np := 24) (tp := 35) dX8_body_21 rfl rfl ?_ ?_
    · refine sw_bipush (np := 37) dX8_body_35 sw_bc_m3 rfl ?_
      exact sw_iret dX8_body_37
    · refine sw_ald_2_0 (np := 25) dX8_body_24 rfl ?_
      refine sw_gR (np := 28) sw_f_RX8_56 sw_k_0 sw_r_0_6 dX8_body_25 rfl ?_
      refine sw_ild_2_1 (np := 29) dX8_body_28 rfl ?_
      refine sw_cV1i (np := 32) (hX0_add (d := d - 1) (by omega) ) sw_mv_X0_add sw_k_89 sw_wl_RX8_303 dX8_body_29 (sw_fit_rm (by omega) (by decide)) (Nat.le_of_ble_eq_true rfl) rfl (fun r2 S2 => ?_)
      refine sw_goto (tp := 37) dX8_body_32 rfl ?_
      exact sw_iret dX8_body_37
  · refine sw_iconst (np := 11) dX8_body_10 sw_ic_m1 rfl ?_
    exact sw_iret dX8_body_11
/-- SwordAttic.act(III)I -/
def fX8_act (N : Nat) (p1 : Int32) (p2 : Int32) (p3 : Int32) (S : sw_St) : Option (Int32 × sw_St) :=
  sw_bd (fX0_perform N p1 p2 p3 S) (fun r1 S1 => (some (r1, S1)))
theorem hX8_act {G : sw_G} {N d : Nat} (hd : 103 ≤ d) {p1 : Int32} {p2 : Int32} {p3 : Int32}  {S : sw_St} : sw_Ev G yX8_act cX8_act 4 (some .int) d sw_ei [sw_vr G 0, .int p1, .int p2, .int p3] S (fX8_act N p1 p2 p3 S) := by
  refine sw_Ev_of (own := RX8) (lv0 := [some (sw_vr G 0), some (.int p1), some (.int p2), some (.int p3)]) (by decide) rfl (Nat.le_of_ble_eq_true rfl) rfl ?_
  unfold fX8_act
  refine sw_ald_4_0 (np := 1) dX8_act_0 rfl ?_
  refine sw_gR (np := 4) sw_f_RX8_56 sw_k_0 sw_r_0_6 dX8_act_1 rfl ?_
  refine sw_ild_4_1 (np := 5) dX8_act_4 rfl ?_
  refine sw_ild_4_2 (np := 6) dX8_act_5 rfl ?_
  refine sw_ild_4_3 (np := 7) dX8_act_6 rfl ?_
  refine sw_cV3i (np := 10) (hX0_perform (d := d - 1) (by omega) ) sw_mv_X0_perform sw_k_89 sw_wl_RX8_305 dX8_act_7 (sw_fit_rm (by omega) (by decide)) (Nat.le_of_ble_eq_true rfl) rfl (fun r1 S1 => ?_)
  exact sw_iret dX8_act_10
/-- SwordAttic.trace(I)I -/
def fX8_trace (N : Nat) (p1 : Int32) (S : sw_St) : Option (Int32 × sw_St) :=
  sw_bd (fX8_within N p1 (0 : Int32) ((sw_mn (S.1 89 1) (24 : Int32)) - (1 : Int32)) S) (fun r1 S1 => (if r1 = 0 then (some ((-1 : Int32), S1)) else (sw_gd (sw_in p1 24) (some ((S1.1 91 p1.toNatClampNeg), S1)))))
theorem hX8_trace {G : sw_G} {N d : Nat} (hd : 2 ≤ d) {p1 : Int32}  {S : sw_St} : sw_Ev G yX8_trace cX8_trace 2 (some .int) d sw_ei [sw_vr G 0, .int p1] S (fX8_trace N p1 S) := by
  refine sw_Ev_of (own := RX8) (lv0 := [some (sw_vr G 0), some (.int p1)]) (by decide) rfl (Nat.le_of_ble_eq_true rfl) rfl ?_
  unfold fX8_trace
  refine sw_ild_2_1 (np := 1) dX8_trace_0 rfl ?_
  refine sw_iconst (np := 2) dX8_trace_1 sw_ic_0 rfl ?_
  refine sw_ald_2_0 (np := 3) dX8_trace_2 rfl ?_
  refine sw_gR (np := 6) sw_f_RX8_56 sw_k_0 sw_r_0_6 dX8_trace_3 rfl ?_
  refine sw_gI (np := 9) sw_f_RX8_308 sw_k_89 dX8_trace_6 rfl ?_
  refine sw_bipush (np := 11) dX8_trace_9 sw_bc_24 rfl ?_
  refine sw_mmin (np := 14) sw_mth_min sw_wm_RX8_311 (by show 1 ≤ d; omega) (sw_room (by omega) (Nat.le_of_ble_eq_true rfl)) (Nat.zero_le _) (Nat.zero_le _) dX8_trace_11 rfl ?_
  refine sw_iconst (np := 15) dX8_trace_14 sw_ic_1 rfl ?_
  refine sw_isub (np := 16) dX8_trace_15 rfl ?_
  refine sw_cS3i (np := 19) (hX8_within (d := d - 1) (by omega) ) sw_ms_X8_within sw_wl_RX8_83 dX8_trace_16 (sw_fit_rm (by omega) (by decide)) (Nat.le_of_ble_eq_true rfl) rfl (fun r1 S1 => ?_)
  refine sw_if_eq (np := 22) (tp := 34) dX8_trace_19 rfl rfl ?_ ?_
  · refine sw_iconst (np := 35) dX8_trace_34 sw_ic_m1 rfl ?_
    exact sw_iret dX8_trace_35
  · refine sw_ald_2_0 (np := 23) dX8_trace_22 rfl ?_
    refine sw_gR (np := 26) sw_f_RX8_56 sw_k_0 sw_r_0_6 dX8_trace_23 rfl ?_
    refine sw_gR (np := 29) sw_f_RX8_316 sw_k_89 sw_r_89_3 dX8_trace_26 rfl ?_
    refine sw_ild_2_1 (np := 30) dX8_trace_29 rfl ?_
    refine sw_iald (np := 31) sw_k_91 sw_n_91 dX8_trace_30 rfl ?_
    refine sw_goto (tp := 35) dX8_trace_31 rfl ?_
    exact sw_iret dX8_trace_35
/-- SwordAttic.keep(II)I -/
def fX8_keep (N : Nat) (p1 : Int32) (p2 : Int32) (S : sw_St) : Option (Int32 × sw_St) :=
  sw_bd (fX8_isShelf N p1 S) (fun r1 S1 => (if r1 = 0 then (some ((-1 : Int32), S1)) else (sw_bd (fX8_within N p2 (-1 : Int32) ((S1.1 89 0) - (1 : Int32)) S1) (fun r2 S2 => (if r2 = 0 then (some ((-1 : Int32), S2)) else (if p2 ≥ 0 then (sw_gd (sw_in p1 6) (sw_gd (sw_in p2 50) (sw_bd (fX5_holdBlade N (93 + 2 * p1.toNatClampNeg) (S2.1 90 p2.toNatClampNeg) S2) (fun _ S3 => (some ((1 : Int32), S3)))))) else (sw_gd (sw_in p1 6) (sw_bd (fX5_clear N (93 + 2 * p1.toNatClampNeg) S2) (fun _ S4 => (some ((1 : Int32), S4)))))))))))
theorem hX8_keep {G : sw_G} {N d : Nat} (hd : 3 ≤ d) {p1 : Int32} {p2 : Int32}  {S : sw_St} : sw_Ev G yX8_keep cX8_keep 3 (some .int) d sw_ei [sw_vr G 0, .int p1, .int p2] S (fX8_keep N p1 p2 S) := by
  refine sw_Ev_of (own := RX8) (lv0 := [some (sw_vr G 0), some (.int p1), some (.int p2)]) (by decide) rfl (Nat.le_of_ble_eq_true rfl) rfl ?_
  unfold fX8_keep
  refine sw_ild_3_1 (np := 1) dX8_keep_0 rfl ?_
  refine sw_cS1i (np := 4) (hX8_isShelf (d := d - 1) (by omega) ) sw_ms_X8_isShelf sw_wl_RX8_79 dX8_keep_1 (sw_fit_rm (by omega) (by decide)) (Nat.le_of_ble_eq_true rfl) rfl (fun r1 S1 => ?_)
  refine sw_if_eq (np := 7) (tp := 24) dX8_keep_4 rfl rfl ?_ ?_
  · refine sw_iconst (np := 25) dX8_keep_24 sw_ic_m1 rfl ?_
    exact sw_iret dX8_keep_25
  · refine sw_ild_3_2 (np := 8) dX8_keep_7 rfl ?_
    refine sw_iconst (np := 9) dX8_keep_8 sw_ic_m1 rfl ?_
    refine sw_ald_3_0 (np := 10) dX8_keep_9 rfl ?_
    refine sw_gR (np := 13) sw_f_RX8_56 sw_k_0 sw_r_0_6 dX8_keep_10 rfl ?_
    refine sw_gI (np := 16) sw_f_RX8_302 sw_k_89 dX8_keep_13 rfl ?_
    refine sw_iconst (np := 17) dX8_keep_16 sw_ic_1 rfl ?_
    refine sw_isub (np := 18) dX8_keep_17 rfl ?_
    refine sw_cS3i (np := 21) (hX8_within (d := d - 1) (by omega) ) sw_ms_X8_within sw_wl_RX8_83 dX8_keep_18 (sw_fit_rm (by omega) (by decide)) (Nat.le_of_ble_eq_true rfl) rfl (fun r2 S2 => ?_)
    refine sw_if_ne (np := 24) (tp := 26) dX8_keep_21 rfl rfl ?_ ?_
    · refine sw_ild_3_2 (np := 27) dX8_keep_26 rfl ?_
      refine sw_if_ge (np := 30) (tp := 42) dX8_keep_27 rfl rfl ?_ ?_
      · refine sw_ald_3_0 (np := 43) dX8_keep_42 rfl ?_
        refine sw_gR (np := 46) sw_f_RX8_62 sw_k_0 sw_r_0_7 dX8_keep_43 rfl ?_
        refine sw_ild_3_1 (np := 47) dX8_keep_46 rfl ?_
        refine sw_aldS (np := 48) dX8_keep_47 rfl (fun hq1 => ?_)
        refine sw_ald_3_0 (np := 49) dX8_keep_48 rfl ?_
        refine sw_gR (np := 52) sw_f_RX8_56 sw_k_0 sw_r_0_6 dX8_keep_49 rfl ?_
        refine sw_gR (np := 55) sw_f_RX8_322 sw_k_89 sw_r_89_2 dX8_keep_52 rfl ?_
        refine sw_ild_3_2 (np := 56) dX8_keep_55 rfl ?_
        refine sw_iald (np := 57) sw_k_90 sw_n_90 dX8_keep_56 rfl ?_
        refine sw_cV1v (np := 60) (hX5_holdBlade (d := d - 1) (by omega) hq1) sw_mv_X5_holdBlade hq1 sw_wl_RX8_325 dX8_keep_57 (sw_fit_rm (by omega) (by decide)) (Nat.le_of_ble_eq_true rfl) rfl (fun _ S3 => ?_)
        refine sw_iconst (np := 61) dX8_keep_60 sw_ic_1 rfl ?_
        exact sw_iret dX8_keep_61
      · refine sw_ald_3_0 (np := 31) dX8_keep_30 rfl ?_
        refine sw_gR (np := 34) sw_f_RX8_62 sw_k_0 sw_r_0_7 dX8_keep_31 rfl ?_
        refine sw_ild_3_1 (np := 35) dX8_keep_34 rfl ?_
        refine sw_aldS (np := 36) dX8_keep_35 rfl (fun hq2 => ?_)
        refine sw_cV0v (np := 39) (hX5_clear (d := d - 1) (by omega) hq2) sw_mv_X5_clear hq2 sw_wl_RX8_319 dX8_keep_36 (sw_fit_rm (by omega) (by decide)) (Nat.le_of_ble_eq_true rfl) rfl (fun _ S4 => ?_)
        refine sw_goto (tp := 60) dX8_keep_39 rfl ?_
        refine sw_iconst (np := 61) dX8_keep_60 sw_ic_1 rfl ?_
        exact sw_iret dX8_keep_61
    · refine sw_iconst (np := 25) dX8_keep_24 sw_ic_m1 rfl ?_
      exact sw_iret dX8_keep_25
/-- SwordAttic.row(III)I -/
def fX8_row (N : Nat) (p1 : Int32) (p2 : Int32) (p3 : Int32) (S : sw_St) : Option (Int32 × sw_St) :=
  sw_bd (fX8_isShelf N p1 S) (fun r1 S1 => (if r1 = 0 then (some ((-1 : Int32), S1)) else (sw_bd (fX8_within N p2 (0 : Int32) (4 : Int32) S1) (fun r2 S2 => (if r2 = 0 then (some ((-1 : Int32), S2)) else (if p3 ≤ (60 : Int32) then (if p3 ≥ 0 then (sw_gd (sw_in p1 6) (sw_bd (fX5_holdRow N (93 + 2 * p1.toNatClampNeg) p2 p3 S2) (fun _ S3 => (some ((1 : Int32), S3))))) else (some ((-14 : Int32), S2))) else (some ((-1 : Int32), S2))))))))
theorem hX8_row {G : sw_G} {N d : Nat} (hd : 3 ≤ d) {p1 : Int32} {p2 : Int32} {p3 : Int32}  {S : sw_St} : sw_Ev G yX8_row cX8_row 4 (some .int) d sw_ei [sw_vr G 0, .int p1, .int p2, .int p3] S (fX8_row N p1 p2 p3 S) := by
  refine sw_Ev_of (own := RX8) (lv0 := [some (sw_vr G 0), some (.int p1), some (.int p2), some (.int p3)]) (by decide) rfl (Nat.le_of_ble_eq_true rfl) rfl ?_
  unfold fX8_row
  refine sw_ild_4_1 (np := 1) dX8_row_0 rfl ?_
  refine sw_cS1i (np := 4) (hX8_isShelf (d := d - 1) (by omega) ) sw_ms_X8_isShelf sw_wl_RX8_79 dX8_row_1 (sw_fit_rm (by omega) (by decide)) (Nat.le_of_ble_eq_true rfl) rfl (fun r1 S1 => ?_)
  refine sw_if_eq (np := 7) (tp := 22) dX8_row_4 rfl rfl ?_ ?_
  · refine sw_iconst (np := 23) dX8_row_22 sw_ic_m1 rfl ?_
    exact sw_iret dX8_row_23
  · refine sw_ild_4_2 (np := 8) dX8_row_7 rfl ?_
    refine sw_iconst (np := 9) dX8_row_8 sw_ic_0 rfl ?_
    refine sw_iconst (np := 10) dX8_row_9 sw_ic_4 rfl ?_
    refine sw_cS3i (np := 13) (hX8_within (d := d - 1) (by omega) ) sw_ms_X8_within sw_wl_RX8_83 dX8_row_10 (sw_fit_rm (by omega) (by decide)) (Nat.le_of_ble_eq_true rfl) rfl (fun r2 S2 => ?_)
    refine sw_if_eq (np := 16) (tp := 22) dX8_row_13 rfl rfl ?_ ?_
    · refine sw_iconst (np := 23) dX8_row_22 sw_ic_m1 rfl ?_
      exact sw_iret dX8_row_23
    · refine sw_ild_4_3 (np := 17) dX8_row_16 rfl ?_
      refine sw_bipush (np := 19) dX8_row_17 sw_bc_60 rfl ?_
      refine sw_icmp_le (np := 22) (tp := 24) dX8_row_19 rfl rfl ?_ ?_
      · refine sw_ild_4_3 (np := 25) dX8_row_24 rfl ?_
        refine sw_if_ge (np := 28) (tp := 31) dX8_row_25 rfl rfl ?_ ?_
        · refine sw_ald_4_0 (np := 32) dX8_row_31 rfl ?_
          refine sw_gR (np := 35) sw_f_RX8_62 sw_k_0 sw_r_0_7 dX8_row_32 rfl ?_
          refine sw_ild_4_1 (np := 36) dX8_row_35 rfl ?_
          refine sw_aldS (np := 37) dX8_row_36 rfl (fun hq1 => ?_)
          refine sw_ild_4_2 (np := 38) dX8_row_37 rfl ?_
          refine sw_ild_4_3 (np := 39) dX8_row_38 rfl ?_
          refine sw_cV2v (np := 42) (hX5_holdRow (d := d - 1) (by omega) hq1) sw_mv_X5_holdRow hq1 sw_wl_RX8_328 dX8_row_39 (sw_fit_rm (by omega) (by decide)) (Nat.le_of_ble_eq_true rfl) rfl (fun _ S3 => ?_)
          refine sw_iconst (np := 43) dX8_row_42 sw_ic_1 rfl ?_
          exact sw_iret dX8_row_43
        · refine sw_bipush (np := 30) dX8_row_28 sw_bc_m14 rfl ?_
          exact sw_iret dX8_row_30
      · refine sw_iconst (np := 23) dX8_row_22 sw_ic_m1 rfl ?_
        exact sw_iret dX8_row_23
/-- SwordAttic.refusalOfElement(II)I -/
def fX8_refusalOfElement (N : Nat) (p1 : Int32) (p2 : Int32) (S : sw_St) : Option (Int32 × sw_St) :=
  sw_bd (fX8_isShelf N p1 S) (fun r1 S1 => (if r1 = 0 then (some ((-1 : Int32), S1)) else (sw_gd (sw_in p1 6) (sw_bd (fX5_holdsNothing N (93 + 2 * p1.toNatClampNeg) S1) (fun r2 S2 => (if r2 = 0 then (sw_bd (fX5_holdsRow N (93 + 2 * p1.toNatClampNeg) S2) (fun r3 S3 => (if r3 = 0 then (some ((-12 : Int32), S3)) else (sw_bd (fX5_hasPlaces N (93 + 2 * p1.toNatClampNeg) p2 (1 : Int32) S3) (fun r4 S4 => (if r4 = 0 then (some ((-13 : Int32), S4)) else (some ((0 : Int32), S4)))))))) else (some ((-11 : Int32), S2))))))))
theorem hX8_refusalOfElement {G : sw_G} {N d : Nat} (hd : 3 ≤ d) {p1 : Int32} {p2 : Int32}  {S : sw_St} : sw_Ev G yX8_refusalOfElement cX8_refusalOfElement 4 (some .int) d sw_ei [sw_vr G 0, .int p1, .int p2] S (fX8_refusalOfElement N p1 p2 S) := by
  refine sw_Ev_of (own := RX8) (lv0 := [some (sw_vr G 0), some (.int p1), some (.int p2), none]) (by decide) rfl (Nat.le_of_ble_eq_true rfl) rfl ?_
  unfold fX8_refusalOfElement
  refine sw_ild_4_1 (np := 1) dX8_refusalOfElement_0 rfl ?_
  refine sw_cS1i (np := 4) (hX8_isShelf (d := d - 1) (by omega) ) sw_ms_X8_isShelf sw_wl_RX8_79 dX8_refusalOfElement_1 (sw_fit_rm (by omega) (by decide)) (Nat.le_of_ble_eq_true rfl) rfl (fun r1 S1 => ?_)
  refine sw_if_ne (np := 7) (tp := 9) dX8_refusalOfElement_4 rfl rfl ?_ ?_
  · refine sw_ald_4_0 (np := 10) dX8_refusalOfElement_9 rfl ?_
    refine sw_gR (np := 13) sw_f_RX8_62 sw_k_0 sw_r_0_7 dX8_refusalOfElement_10 rfl ?_
    refine sw_ild_4_1 (np := 14) dX8_refusalOfElement_13 rfl ?_
    refine sw_aldS (np := 15) dX8_refusalOfElement_14 rfl (fun hq1 => ?_)
    refine sw_ast_4_3 (np := 16) dX8_refusalOfElement_15 rfl rfl ?_
    refine sw_ald_4_3 (np := 17) dX8_refusalOfElement_16 rfl ?_
    refine sw_cV0i (np := 20) (hX5_holdsNothing (d := d - 1) (by omega) hq1) sw_mv_X5_holdsNothing hq1 sw_wl_RX8_86 dX8_refusalOfElement_17 (sw_fit_rm (by omega) (by decide)) (Nat.le_of_ble_eq_true rfl) rfl (fun r2 S2 => ?_)
    refine sw_if_eq (np := 23) (tp := 26) dX8_refusalOfElement_20 rfl rfl ?_ ?_
    · refine sw_ald_4_3 (np := 27) dX8_refusalOfElement_26 rfl ?_
      refine sw_cV0i (np := 30) (hX5_holdsRow (d := d - 1) (by omega) hq1) sw_mv_X5_holdsRow hq1 sw_wl_RX8_346 dX8_refusalOfElement_27 (sw_fit_rm (by omega) (by decide)) (Nat.le_of_ble_eq_true rfl) rfl (fun r3 S3 => ?_)
      refine sw_if_ne (np := 33) (tp := 36) dX8_refusalOfElement_30 rfl rfl ?_ ?_
      · refine sw_ald_4_3 (np := 37) dX8_refusalOfElement_36 rfl ?_
        refine sw_ild_4_2 (np := 38) dX8_refusalOfElement_37 rfl ?_
        refine sw_iconst (np := 39) dX8_refusalOfElement_38 sw_ic_1 rfl ?_
        refine sw_cV2i (np := 42) (hX5_hasPlaces (d := d - 1) (by omega) hq1) sw_mv_X5_hasPlaces hq1 sw_wl_RX8_352 dX8_refusalOfElement_39 (sw_fit_rm (by omega) (by decide)) (Nat.le_of_ble_eq_true rfl) rfl (fun r4 S4 => ?_)
        refine sw_if_eq (np := 45) (tp := 49) dX8_refusalOfElement_42 rfl rfl ?_ ?_
        · refine sw_bipush (np := 51) dX8_refusalOfElement_49 sw_bc_m13 rfl ?_
          exact sw_iret dX8_refusalOfElement_51
        · refine sw_iconst (np := 46) dX8_refusalOfElement_45 sw_ic_0 rfl ?_
          refine sw_goto (tp := 51) dX8_refusalOfElement_46 rfl ?_
          exact sw_iret dX8_refusalOfElement_51
      · refine sw_bipush (np := 35) dX8_refusalOfElement_33 sw_bc_m12 rfl ?_
        exact sw_iret dX8_refusalOfElement_35
    · refine sw_bipush (np := 25) dX8_refusalOfElement_23 sw_bc_m11 rfl ?_
      exact sw_iret dX8_refusalOfElement_25
  · refine sw_iconst (np := 8) dX8_refusalOfElement_7 sw_ic_m1 rfl ?_
    exact sw_iret dX8_refusalOfElement_8
/-- SwordAttic.put(IIJ)I -/
def fX8_put (N : Nat) (p1 : Int32) (p2 : Int32) (p3 : Int64) (S : sw_St) : Option (Int32 × sw_St) :=
  sw_bd (fX8_refusalOfElement N p1 p2 S) (fun r1 S1 => (if r1 = 0 then (sw_gd (sw_in p1 6) (sw_bd (fX5_store N (93 + 2 * p1.toNatClampNeg) p2 p3 S1) (fun _ S2 => (some ((1 : Int32), S2))))) else (some (r1, S1))))
theorem hX8_put {G : sw_G} {N d : Nat} (hd : 4 ≤ d) {p1 : Int32} {p2 : Int32} {p3 : Int64}  {S : sw_St} : sw_Ev G yX8_put cX8_put 6 (some .int) d sw_ei [sw_vr G 0, .int p1, .int p2, .long p3] S (fX8_put N p1 p2 p3 S) := by
  refine sw_Ev_of (own := RX8) (lv0 := [some (sw_vr G 0), some (.int p1), some (.int p2), some (.long p3), none, none]) (by decide) rfl (Nat.le_of_ble_eq_true rfl) rfl ?_
  unfold fX8_put
  refine sw_ald_6_0 (np := 1) dX8_put_0 rfl ?_
  refine sw_ild_6_1 (np := 2) dX8_put_1 rfl ?_
  refine sw_ild_6_2 (np := 3) dX8_put_2 rfl ?_
  refine sw_cV2i (np := 6) (hX8_refusalOfElement (d := d - 1) (by omega) ) sw_mv_X8_refusalOfElement sw_k_0 sw_wl_RX8_331 dX8_put_3 (sw_fit_rm (by omega) (by decide)) (Nat.le_of_ble_eq_true rfl) rfl (fun r1 S1 => ?_)
  refine sw_ist_6_5 (np := 8) dX8_put_6 rfl rfl ?_
  refine sw_ild_6_5 (np := 10) dX8_put_8 rfl ?_
  refine sw_if_eq (np := 13) (tp := 16) dX8_put_10 rfl rfl ?_ ?_
  · refine sw_ald_6_0 (np := 17) dX8_put_16 rfl ?_
    refine sw_gR (np := 20) sw_f_RX8_62 sw_k_0 sw_r_0_7 dX8_put_17 rfl ?_
    refine sw_ild_6_1 (np := 21) dX8_put_20 rfl ?_
    refine sw_aldS (np := 22) dX8_put_21 rfl (fun hq1 => ?_)
    refine sw_ild_6_2 (np := 23) dX8_put_22 rfl ?_
    refine sw_lld_6_3 (np := 24) dX8_put_23 rfl ?_
    refine sw_cV2v (np := 27) (hX5_store (d := d - 1) (by omega) hq1) sw_mv_X5_store hq1 sw_wl_RX8_334 dX8_put_24 (sw_fit_rm (by omega) (by decide)) (Nat.le_of_ble_eq_true rfl) rfl (fun _ S2 => ?_)
    refine sw_iconst (np := 28) dX8_put_27 sw_ic_1 rfl ?_
    exact sw_iret dX8_put_28
  · refine sw_ild_6_5 (np := 15) dX8_put_13 rfl ?_
    exact sw_iret dX8_put_15
/-- SwordAttic.element(II)J -/
def fX8_element (N : Nat) (p1 : Int32) (p2 : Int32) (S : sw_St) : Option (Int64 × sw_St) :=
  sw_bd (fX8_refusalOfElement N p1 p2 S) (fun r1 S1 => (if r1 = 0 then (sw_gd (sw_in p1 6) (sw_gd (sw_in p2 60) (some ((S1.2 ((93 + 2 * p1.toNatClampNeg) + 1) p2.toNatClampNeg), S1)))) else (some ((-9223372036854775808 : Int64), S1))))
theorem hX8_element {G : sw_G} {N d : Nat} (hd : 4 ≤ d) {p1 : Int32} {p2 : Int32}  {S : sw_St} : sw_Ev G yX8_element cX8_element 3 (some .long) d sw_el [sw_vr G 0, .int p1, .int p2] S (fX8_element N p1 p2 S) := by
  refine sw_Ev_of (own := RX8) (lv0 := [some (sw_vr G 0), some (.int p1), some (.int p2)]) (by decide) rfl (Nat.le_of_ble_eq_true rfl) rfl ?_
  unfold fX8_element
  refine sw_ald_3_0 (np := 1) dX8_element_0 rfl ?_
  refine sw_ild_3_1 (np := 2) dX8_element_1 rfl ?_
  refine sw_ild_3_2 (np := 3) dX8_element_2 rfl ?_
  refine sw_cV2i (np := 6) (hX8_refusalOfElement (d := d - 1) (by omega) ) sw_mv_X8_refusalOfElement sw_k_0 sw_wl_RX8_331 dX8_element_3 (sw_fit_rm (by omega) (by decide)) (Nat.le_of_ble_eq_true rfl) rfl (fun r1 S1 => ?_)
  refine sw_if_eq (np := 9) (tp := 15) dX8_element_6 rfl rfl ?_ ?_
  · refine sw_ald_3_0 (np := 16) dX8_element_15 rfl ?_
    refine sw_gR (np := 19) sw_f_RX8_62 sw_k_0 sw_r_0_7 dX8_element_16 rfl ?_
    refine sw_ild_3_1 (np := 20) dX8_element_19 rfl ?_
    refine sw_aldS (np := 21) dX8_element_20 rfl (fun hq1 => ?_)
    refine sw_gR (np := 24) sw_f_RX8_342 hq1 (sw_rf_5_3 hq1) dX8_element_21 rfl ?_
    refine sw_ild_3_2 (np := 25) dX8_element_24 rfl ?_
    refine sw_lald (np := 26) (sw_kd_5_3 hq1) (sw_ln_5_3 hq1) dX8_element_25 rfl ?_
    exact sw_lret dX8_element_26
  · refine sw_ldc2 (np := 12) sw_wc_RX8_340 dX8_element_9 rfl ?_
    refine sw_goto (tp := 26) dX8_element_12 rfl ?_
    exact sw_lret dX8_element_26
/-- SwordAttic.shift(IIIII)I -/
def fX8_shift (N : Nat) (p1 : Int32) (p2 : Int32) (p3 : Int32) (p4 : Int32) (p5 : Int32) (S : sw_St) : Option (Int32 × sw_St) :=
  sw_bd (fX8_isShelf N p1 S) (fun r1 S1 => (if r1 = 0 then (some ((-1 : Int32), S1)) else (sw_bd (fX8_isShelf N p3 S1) (fun r2 S2 => (if r2 = 0 then (some ((-1 : Int32), S2)) else (sw_gd (sw_in p1 6) (sw_gd (sw_in p3 6) (sw_bd (fX5_holdsNothing N (93 + 2 * p1.toNatClampNeg) S2) (fun r3 S3 => (if r3 = 0 then (sw_bd (fX5_holdsNothing N (93 + 2 * p3.toNatClampNeg) S3) (fun r4 S4 => (if r4 = 0 then (sw_bd (fX5_holdsRow N (93 + 2 * p1.toNatClampNeg) S4) (fun r5 S5 => (if r5 = 0 then (some ((-12 : Int32), S5)) else (sw_bd (fX5_holdsRow N (93 + 2 * p3.toNatClampNeg) S5) (fun r6 S6 => (if r6 = 0 then (some ((-12 : Int32), S6)) else (if (S6.1 (93 + 2 * p1.toNatClampNeg) 1) = (S6.1 (93 + 2 * p3.toNatClampNeg) 1) then (sw_bd (fX5_hasPlaces N (93 + 2 * p1.toNatClampNeg) p2 p5 S6) (fun r7 S7 => (if r7 = 0 then (some ((-13 : Int32), S7)) else (sw_bd (fX5_hasPlaces N (93 + 2 * p3.toNatClampNeg) p4 p5 S7) (fun r8 S8 => (if r8 = 0 then (some ((-13 : Int32), S8)) else (sw_gd (sw_cg p2 p4 p5 60 60) (sw_ls (sw_cj S8 ((93 + 2 * p1.toNatClampNeg) + 1) ((93 + 2 * p3.toNatClampNeg) + 1) p2.toNatClampNeg p4.toNatClampNeg p5.toNatClampNeg) (fun S9 => (some (p5, S9))))))))))) else (some ((-12 : Int32), S6))))))))) else (some ((-11 : Int32), S4))))) else (some ((-11 : Int32), S3))))))))))))
theorem hX8_shift {G : sw_G} {N d : Nat} (hd : 3 ≤ d) {p1 : Int32} {p2 : Int32} {p3 : Int32} {p4 : Int32} {p5 : Int32}  {S : sw_St} : sw_Ev G yX8_shift cX8_shift 8 (some .int) d sw_ei [sw_vr G 0, .int p1, .int p2, .int p3, .int p4, .int p5] S (fX8_shift N p1 p2 p3 p4 p5 S) := by
  refine sw_Ev_of (own := RX8) (lv0 := [some (sw_vr G 0), some (.int p1), some (.int p2), some (.int p3), some (.int p4), some (.int p5), none, none]) (by decide) rfl (Nat.le_of_ble_eq_true rfl) rfl ?_
  unfold fX8_shift
  refine sw_ild_8_1 (np := 1) dX8_shift_0 rfl ?_
  refine sw_cS1i (np := 4) (hX8_isShelf (d := d - 1) (by omega) ) sw_ms_X8_isShelf sw_wl_RX8_79 dX8_shift_1 (sw_fit_rm (by omega) (by decide)) (Nat.le_of_ble_eq_true rfl) rfl (fun r1 S1 => ?_)
  refine sw_if_eq (np := 7) (tp := 14) dX8_shift_4 rfl rfl ?_ ?_
  · refine sw_iconst (np := 15) dX8_shift_14 sw_ic_m1 rfl ?_
    exact sw_iret dX8_shift_15
  · refine sw_ild_8_3 (np := 8) dX8_shift_7 rfl ?_
    refine sw_cS1i (np := 11) (hX8_isShelf (d := d - 1) (by omega) ) sw_ms_X8_isShelf sw_wl_RX8_79 dX8_shift_8 (sw_fit_rm (by omega) (by decide)) (Nat.le_of_ble_eq_true rfl) rfl (fun r2 S2 => ?_)
    refine sw_if_ne (np := 14) (tp := 16) dX8_shift_11 rfl rfl ?_ ?_
    · refine sw_ald_8_0 (np := 17) dX8_shift_16 rfl ?_
      refine sw_gR (np := 20) sw_f_RX8_62 sw_k_0 sw_r_0_7 dX8_shift_17 rfl ?_
      refine sw_ild_8_1 (np := 21) dX8_shift_20 rfl ?_
      refine sw_aldS (np := 22) dX8_shift_21 rfl (fun hq1 => ?_)
      refine sw_ast_8_6 (np := 24) dX8_shift_22 rfl rfl ?_
      refine sw_ald_8_0 (np := 25) dX8_shift_24 rfl ?_
      refine sw_gR (np := 28) sw_f_RX8_62 sw_k_0 sw_r_0_7 dX8_shift_25 rfl ?_
      refine sw_ild_8_3 (np := 29) dX8_shift_28 rfl ?_
      refine sw_aldS (np := 30) dX8_shift_29 rfl (fun hq2 => ?_)
      refine sw_ast_8_7 (np := 32) dX8_shift_30 rfl rfl ?_
      refine sw_ald_8_6 (np := 34) dX8_shift_32 rfl ?_
      refine sw_cV0i (np := 37) (hX5_holdsNothing (d := d - 1) (by omega) hq1) sw_mv_X5_holdsNothing hq1 sw_wl_RX8_86 dX8_shift_34 (sw_fit_rm (by omega) (by decide)) (Nat.le_of_ble_eq_true rfl) rfl (fun r3 S3 => ?_)
      refine sw_if_ne (np := 40) (tp := 48) dX8_shift_37 rfl rfl ?_ ?_
      · refine sw_bipush (np := 50) dX8_shift_48 sw_bc_m11 rfl ?_
        exact sw_iret dX8_shift_50
      · refine sw_ald_8_7 (np := 42) dX8_shift_40 rfl ?_
        refine sw_cV0i (np := 45) (hX5_holdsNothing (d := d - 1) (by omega) hq2) sw_mv_X5_holdsNothing hq2 sw_wl_RX8_86 dX8_shift_42 (sw_fit_rm (by omega) (by decide)) (Nat.le_of_ble_eq_true rfl) rfl (fun r4 S4 => ?_)
        refine sw_if_eq (np := 48) (tp := 51) dX8_shift_45 rfl rfl ?_ ?_
        · refine sw_ald_8_6 (np := 53) dX8_shift_51 rfl ?_
          refine sw_cV0i (np := 56) (hX5_holdsRow (d := d - 1) (by omega) hq1) sw_mv_X5_holdsRow hq1 sw_wl_RX8_346 dX8_shift_53 (sw_fit_rm (by omega) (by decide)) (Nat.le_of_ble_eq_true rfl) rfl (fun r5 S5 => ?_)
          refine sw_if_eq (np := 59) (tp := 80) dX8_shift_56 rfl rfl ?_ ?_
          · refine sw_bipush (np := 82) dX8_shift_80 sw_bc_m12 rfl ?_
            exact sw_iret dX8_shift_82
          · refine sw_ald_8_7 (np := 61) dX8_shift_59 rfl ?_
            refine sw_cV0i (np := 64) (hX5_holdsRow (d := d - 1) (by omega) hq2) sw_mv_X5_holdsRow hq2 sw_wl_RX8_346 dX8_shift_61 (sw_fit_rm (by omega) (by decide)) (Nat.le_of_ble_eq_true rfl) rfl (fun r6 S6 => ?_)
            refine sw_if_eq (np := 67) (tp := 80) dX8_shift_64 rfl rfl ?_ ?_
            · refine sw_bipush (np := 82) dX8_shift_80 sw_bc_m12 rfl ?_
              exact sw_iret dX8_shift_82
            · refine sw_ald_8_6 (np := 69) dX8_shift_67 rfl ?_
              refine sw_gI (np := 72) sw_f_RX8_349 hq1 dX8_shift_69 rfl ?_
              refine sw_ald_8_7 (np := 74) dX8_shift_72 rfl ?_
              refine sw_gI (np := 77) sw_f_RX8_349 hq2 dX8_shift_74 rfl ?_
              refine sw_icmp_eq (np := 80) (tp := 83) dX8_shift_77 rfl rfl ?_ ?_
              · refine sw_ald_8_6 (np := 85) dX8_shift_83 rfl ?_
                refine sw_ild_8_2 (np := 86) dX8_shift_85 rfl ?_
                refine sw_ild_8_5 (np := 88) dX8_shift_86 rfl ?_
                refine sw_cV2i (np := 91) (hX5_hasPlaces (d := d - 1) (by omega) hq1) sw_mv_X5_hasPlaces hq1 sw_wl_RX8_352 dX8_shift_88 (sw_fit_rm (by omega) (by decide)) (Nat.le_of_ble_eq_true rfl) rfl (fun r7 S7 => ?_)
                refine sw_if_eq (np := 94) (tp := 106) dX8_shift_91 rfl rfl ?_ ?_
                · refine sw_bipush (np := 108) dX8_shift_106 sw_bc_m13 rfl ?_
                  exact sw_iret dX8_shift_108
                · refine sw_ald_8_7 (np := 96) dX8_shift_94 rfl ?_
                  refine sw_ild_8_4 (np := 98) dX8_shift_96 rfl ?_
                  refine sw_ild_8_5 (np := 100) dX8_shift_98 rfl ?_
                  refine sw_cV2i (np := 103) (hX5_hasPlaces (d := d - 1) (by omega) hq2) sw_mv_X5_hasPlaces hq2 sw_wl_RX8_352 dX8_shift_100 (sw_fit_rm (by omega) (by decide)) (Nat.le_of_ble_eq_true rfl) rfl (fun r8 S8 => ?_)
                  refine sw_if_ne (np := 106) (tp := 109) dX8_shift_103 rfl rfl ?_ ?_
                  · refine sw_ald_8_6 (np := 111) dX8_shift_109 rfl ?_
                    refine sw_gR (np := 114) sw_f_RX8_342 hq1 (sw_rf_5_3 hq1) dX8_shift_111 rfl ?_
                    refine sw_ild_8_2 (np := 115) dX8_shift_114 rfl ?_
                    refine sw_ald_8_7 (np := 117) dX8_shift_115 rfl ?_
                    refine sw_gR (np := 120) sw_f_RX8_342 hq2 (sw_rf_5_3 hq2) dX8_shift_117 rfl ?_
                    refine sw_ild_8_4 (np := 122) dX8_shift_120 rfl ?_
                    refine sw_ild_8_5 (np := 124) dX8_shift_122 rfl ?_
                    refine sw_yJ (np := 127) sw_acw_ok (sw_kd_5_3 hq1) (sw_kd_5_3 hq2) (sw_ln_5_3 hq1) (sw_ln_5_3 hq2) sw_wl_RX8_355 (by show 1 ≤ d; omega) (sw_room (by omega) (Nat.le_of_ble_eq_true rfl)) dX8_shift_124 rfl (fun S9 => ?_)
                    refine sw_ild_8_5 (np := 129) dX8_shift_127 rfl ?_
                    exact sw_iret dX8_shift_129
                  · refine sw_bipush (np := 108) dX8_shift_106 sw_bc_m13 rfl ?_
                    exact sw_iret dX8_shift_108
              · refine sw_bipush (np := 82) dX8_shift_80 sw_bc_m12 rfl ?_
                exact sw_iret dX8_shift_82
        · refine sw_bipush (np := 50) dX8_shift_48 sw_bc_m11 rfl ?_
          exact sw_iret dX8_shift_50
    · refine sw_iconst (np := 15) dX8_shift_14 sw_ic_m1 rfl ?_
      exact sw_iret dX8_shift_15
