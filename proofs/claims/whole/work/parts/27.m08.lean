/-- SwordAtticModel.hour(I)I -/
def fX9_hour (N : Nat) (p1 : Int32) (S : sw_St) : Option (Int32 × sw_St) :=
  sw_bd (fX9_isCot N p1.toInt64 S) (fun r1 S1 => (if r1 = 0 then (some ((-1 : Int32), S1)) else (sw_bd (fX9_begins N S1) (fun _ S2 => (sw_bd (fX9_awakeSet N S2) (fun r3 S3 => (sw_ls (sw_si S3 105 20 p1) (fun S4 => (sw_bd (fX9_goesHour N S4) (fun _ S5 => (sw_bd (fX9_keepsMind N S5) (fun _ S6 => (sw_gd (sw_in (50 : Int32) 53) (sw_ls (sw_si S6 106 (50 : Int32).toNatClampNeg (S6.1 105 19)) (fun S7 => (sw_gd (sw_in (52 : Int32) 53) (sw_ls (sw_si S7 106 (52 : Int32).toNatClampNeg p1) (fun S8 => (sw_gd (sw_in (0 : Int32) 5) (sw_gd (sw_in (0 : Int32) 5) (sw_ls (sw_si S8 119 (0 : Int32).toNatClampNeg ((S8.1 119 (0 : Int32).toNatClampNeg) + (1 : Int32))) (fun S9 => (sw_gd (sw_in (4 : Int32) 5) (sw_bd (fX9_awakeSet N S9) (fun r6 S10 => (sw_bd (fX9_bitsOf N (r6 &&& (r3 ^^^ (-1 : Int32))) S10) (fun r7 S11 => (sw_gd (sw_in (4 : Int32) 5) (sw_ls (sw_si S11 119 (4 : Int32).toNatClampNeg ((S9.1 119 (4 : Int32).toNatClampNeg) + r7)) (fun S12 => (sw_bd (fX9_awakeMany N S12) (fun r8 S13 => (some (r8, S13))))))))))))))))))))))))))))))))))
theorem hX9_hour {G : sw_G} {N d : Nat} (hd : 107 ≤ d) {p1 : Int32}  {S : sw_St} : sw_Ev G yX9_hour cX9_hour 3 (some .int) d sw_ei [sw_vr G 105, .int p1] S (fX9_hour N p1 S) := by
  refine sw_Ev_of (own := RX9) (lv0 := [some (sw_vr G 105), some (.int p1), none]) (by decide) rfl (Nat.le_of_ble_eq_true rfl) rfl ?_
  unfold fX9_hour
  refine sw_ild_3_1 (np := 1) dX9_hour_0 rfl ?_
  refine sw_i2l (np := 2) dX9_hour_1 rfl ?_
  refine sw_cS1i (np := 5) (hX9_isCot (d := d - 1) (by omega) ) sw_ms_X9_isCot sw_wl_RX9_104 dX9_hour_2 (sw_fit_rm (by omega) (by decide)) (Nat.le_of_ble_eq_true rfl) rfl (fun r1 S1 => ?_)
  refine sw_if_ne (np := 8) (tp := 10) dX9_hour_5 rfl rfl ?_ ?_
  · refine sw_ald_3_0 (np := 11) dX9_hour_10 rfl ?_
    refine sw_cV0v (np := 14) (hX9_begins (d := d - 1) (by omega) ) sw_mv_X9_begins sw_k_105 sw_wl_RX9_233 dX9_hour_11 (sw_fit_rm (by omega) (by decide)) (Nat.le_of_ble_eq_true rfl) rfl (fun _ S2 => ?_)
    refine sw_ald_3_0 (np := 15) dX9_hour_14 rfl ?_
    refine sw_cV0i (np := 18) (hX9_awakeSet (d := d - 1) (by omega) ) sw_mv_X9_awakeSet sw_k_105 sw_wl_RX9_226 dX9_hour_15 (sw_fit_rm (by omega) (by decide)) (Nat.le_of_ble_eq_true rfl) rfl (fun r3 S3 => ?_)
    refine sw_ist_3_2 (np := 19) dX9_hour_18 rfl rfl ?_
    refine sw_ald_3_0 (np := 20) dX9_hour_19 rfl ?_
    refine sw_ild_3_1 (np := 21) dX9_hour_20 rfl ?_
    refine sw_pI (np := 24) sw_f_RX9_204 sw_fp_9_20 sw_k_105 dX9_hour_21 rfl (fun S4 => ?_)
    refine sw_ald_3_0 (np := 25) dX9_hour_24 rfl ?_
    refine sw_cV0v (np := 28) (hX9_goesHour (d := d - 1) (by omega) ) sw_mv_X9_goesHour sw_k_105 sw_wl_RX9_236 dX9_hour_25 (sw_fit_rm (by omega) (by decide)) (Nat.le_of_ble_eq_true rfl) rfl (fun _ S5 => ?_)
    refine sw_ald_3_0 (np := 29) dX9_hour_28 rfl ?_
    refine sw_cV0v (np := 32) (hX9_keepsMind (d := d - 1) (by omega) ) sw_mv_X9_keepsMind sw_k_105 sw_wl_RX9_310 dX9_hour_29 (sw_fit_rm (by omega) (by decide)) (Nat.le_of_ble_eq_true rfl) rfl (fun _ S6 => ?_)
    refine sw_ald_3_0 (np := 33) dX9_hour_32 rfl ?_
    refine sw_gR (np := 36) sw_f_RX9_9 sw_k_105 sw_r_105_0 dX9_hour_33 rfl ?_
    refine sw_bipush (np := 38) dX9_hour_36 sw_bc_50 rfl ?_
    refine sw_ald_3_0 (np := 39) dX9_hour_38 rfl ?_
    refine sw_gI (np := 42) sw_f_RX9_201 sw_k_105 dX9_hour_39 rfl ?_
    refine sw_sI (np := 43) sw_k_106 sw_n_106 dX9_hour_42 rfl (fun S7 => ?_)
    refine sw_ald_3_0 (np := 44) dX9_hour_43 rfl ?_
    refine sw_gR (np := 47) sw_f_RX9_9 sw_k_105 sw_r_105_0 dX9_hour_44 rfl ?_
    refine sw_bipush (np := 49) dX9_hour_47 sw_bc_52 rfl ?_
    refine sw_ild_3_1 (np := 50) dX9_hour_49 rfl ?_
    refine sw_sI (np := 51) sw_k_106 sw_n_106 dX9_hour_50 rfl (fun S8 => ?_)
    refine sw_ald_3_0 (np := 52) dX9_hour_51 rfl ?_
    refine sw_gR (np := 55) sw_f_RX9_49 sw_k_105 sw_r_105_27 dX9_hour_52 rfl ?_
    refine sw_iconst (np := 56) dX9_hour_55 sw_ic_0 rfl ?_
    refine sw_dup2 (np := 57) dX9_hour_56 rfl rfl rfl ?_
    refine sw_iald (np := 58) sw_k_119 sw_n_119 dX9_hour_57 rfl ?_
    refine sw_iconst (np := 59) dX9_hour_58 sw_ic_1 rfl ?_
    refine sw_iadd (np := 60) dX9_hour_59 rfl ?_
    refine sw_sI (np := 61) sw_k_119 sw_n_119 dX9_hour_60 rfl (fun S9 => ?_)
    refine sw_ald_3_0 (np := 62) dX9_hour_61 rfl ?_
    refine sw_gR (np := 65) sw_f_RX9_49 sw_k_105 sw_r_105_27 dX9_hour_62 rfl ?_
    refine sw_iconst (np := 66) dX9_hour_65 sw_ic_4 rfl ?_
    refine sw_dup2 (np := 67) dX9_hour_66 rfl rfl rfl ?_
    refine sw_iald (np := 68) sw_k_119 sw_n_119 dX9_hour_67 rfl ?_
    refine sw_ald_3_0 (np := 69) dX9_hour_68 rfl ?_
    refine sw_cV0i (np := 72) (hX9_awakeSet (d := d - 1) (by omega) ) sw_mv_X9_awakeSet sw_k_105 sw_wl_RX9_226 dX9_hour_69 (sw_fit_rm (by omega) (by decide)) (Nat.le_of_ble_eq_true rfl) rfl (fun r6 S10 => ?_)
    refine sw_ild_3_2 (np := 73) dX9_hour_72 rfl ?_
    refine sw_iconst (np := 74) dX9_hour_73 sw_ic_m1 rfl ?_
    refine sw_ixor (np := 75) dX9_hour_74 rfl ?_
    refine sw_iand (np := 76) dX9_hour_75 rfl ?_
    refine sw_cS1i (np := 79) (hX9_bitsOf (d := d - 1) (by omega) ) sw_ms_X9_bitsOf sw_wl_RX9_229 dX9_hour_76 (sw_fit_rm (by omega) (by decide)) (Nat.le_of_ble_eq_true rfl) rfl (fun r7 S11 => ?_)
    refine sw_iadd (np := 80) dX9_hour_79 rfl ?_
    refine sw_sI (np := 81) sw_k_119 sw_n_119 dX9_hour_80 rfl (fun S12 => ?_)
    refine sw_ald_3_0 (np := 82) dX9_hour_81 rfl ?_
    refine sw_cV0i (np := 85) (hX9_awakeMany (d := d - 1) (by omega) ) sw_mv_X9_awakeMany sw_k_105 sw_wl_RX9_256 dX9_hour_82 (sw_fit_rm (by omega) (by decide)) (Nat.le_of_ble_eq_true rfl) rfl (fun r8 S13 => ?_)
    exact sw_iret dX9_hour_85
  · refine sw_iconst (np := 9) dX9_hour_8 sw_ic_m1 rfl ?_
    exact sw_iret dX9_hour_9
/-- SwordAtticModel.telling(II)I -/
def fX9_telling (N : Nat) (p1 : Int32) (p2 : Int32) (S : sw_St) : Option (Int32 × sw_St) :=
  sw_bd (fX9_isCot N p1.toInt64 S) (fun r1 S1 => (if r1 = 0 then (some ((-1 : Int32), S1)) else (sw_bd (fX9_within N p2.toInt64 (0 : Int64) (9 : Int64) S1) (fun r2 S2 => (if r2 = 0 then (some ((-1 : Int32), S2)) else (sw_bd (fX9_begins N S2) (fun _ S3 => (sw_gd (sw_in p1 12) (if (S3.1 113 p1.toNatClampNeg) ≥ 0 then (sw_bd (fX9_isToldAt N p1 p2 S3) (fun _ S4 => (sw_bd (fX9_keepsMind N S4) (fun _ S5 => (sw_gd (sw_in (1 : Int32) 5) (sw_gd (sw_in (1 : Int32) 5) (sw_ls (sw_si S5 119 (1 : Int32).toNatClampNeg ((S5.1 119 (1 : Int32).toNatClampNeg) + (1 : Int32))) (fun S6 => (sw_gd (sw_in p1 12) (sw_gd (sw_in (S6.1 113 p1.toNatClampNeg) 10) (some ((S6.1 114 (S6.1 113 p1.toNatClampNeg).toNatClampNeg), S6)))))))))))) else (some ((-5 : Int32), S3)))))))))))
theorem hX9_telling {G : sw_G} {N d : Nat} (hd : 3 ≤ d) {p1 : Int32} {p2 : Int32}  {S : sw_St} : sw_Ev G yX9_telling cX9_telling 3 (some .int) d sw_ei [sw_vr G 105, .int p1, .int p2] S (fX9_telling N p1 p2 S) := by
  refine sw_Ev_of (own := RX9) (lv0 := [some (sw_vr G 105), some (.int p1), some (.int p2)]) (by decide) rfl (Nat.le_of_ble_eq_true rfl) rfl ?_
  unfold fX9_telling
  refine sw_ild_3_1 (np := 1) dX9_telling_0 rfl ?_
  refine sw_i2l (np := 2) dX9_telling_1 rfl ?_
  refine sw_cS1i (np := 5) (hX9_isCot (d := d - 1) (by omega) ) sw_ms_X9_isCot sw_wl_RX9_104 dX9_telling_2 (sw_fit_rm (by omega) (by decide)) (Nat.le_of_ble_eq_true rfl) rfl (fun r1 S1 => ?_)
  refine sw_if_eq (np := 8) (tp := 20) dX9_telling_5 rfl rfl ?_ ?_
  · refine sw_iconst (np := 21) dX9_telling_20 sw_ic_m1 rfl ?_
    exact sw_iret dX9_telling_21
  · refine sw_ild_3_2 (np := 9) dX9_telling_8 rfl ?_
    refine sw_i2l (np := 10) dX9_telling_9 rfl ?_
    refine sw_lconst (np := 11) dX9_telling_10 sw_lc_0 rfl ?_
    refine sw_ldc2 (np := 14) sw_wc_RX9_108 dX9_telling_11 rfl ?_
    refine sw_cS3i (np := 17) (hX9_within (d := d - 1) (by omega) ) sw_ms_X9_within sw_wl_RX9_98 dX9_telling_14 (sw_fit_rm (by omega) (by decide)) (Nat.le_of_ble_eq_true rfl) rfl (fun r2 S2 => ?_)
    refine sw_if_ne (np := 20) (tp := 22) dX9_telling_17 rfl rfl ?_ ?_
    · refine sw_ald_3_0 (np := 23) dX9_telling_22 rfl ?_
      refine sw_cV0v (np := 26) (hX9_begins (d := d - 1) (by omega) ) sw_mv_X9_begins sw_k_105 sw_wl_RX9_233 dX9_telling_23 (sw_fit_rm (by omega) (by decide)) (Nat.le_of_ble_eq_true rfl) rfl (fun _ S3 => ?_)
      refine sw_ald_3_0 (np := 27) dX9_telling_26 rfl ?_
      refine sw_gR (np := 30) sw_f_RX9_31 sw_k_105 sw_r_105_17 dX9_telling_27 rfl ?_
      refine sw_ild_3_1 (np := 31) dX9_telling_30 rfl ?_
      refine sw_iald (np := 32) sw_k_113 sw_n_113 dX9_telling_31 rfl ?_
      refine sw_if_ge (np := 35) (tp := 38) dX9_telling_32 rfl rfl ?_ ?_
      · refine sw_ald_3_0 (np := 39) dX9_telling_38 rfl ?_
        refine sw_ild_3_1 (np := 40) dX9_telling_39 rfl ?_
        refine sw_ild_3_2 (np := 41) dX9_telling_40 rfl ?_
        refine sw_cV2v (np := 44) (hX9_isToldAt (d := d - 1) (by omega) ) sw_mv_X9_isToldAt sw_k_105 sw_wl_RX9_273 dX9_telling_41 (sw_fit_rm (by omega) (by decide)) (Nat.le_of_ble_eq_true rfl) rfl (fun _ S4 => ?_)
        refine sw_ald_3_0 (np := 45) dX9_telling_44 rfl ?_
        refine sw_cV0v (np := 48) (hX9_keepsMind (d := d - 1) (by omega) ) sw_mv_X9_keepsMind sw_k_105 sw_wl_RX9_310 dX9_telling_45 (sw_fit_rm (by omega) (by decide)) (Nat.le_of_ble_eq_true rfl) rfl (fun _ S5 => ?_)
        refine sw_ald_3_0 (np := 49) dX9_telling_48 rfl ?_
        refine sw_gR (np := 52) sw_f_RX9_49 sw_k_105 sw_r_105_27 dX9_telling_49 rfl ?_
        refine sw_iconst (np := 53) dX9_telling_52 sw_ic_1 rfl ?_
        refine sw_dup2 (np := 54) dX9_telling_53 rfl rfl rfl ?_
        refine sw_iald (np := 55) sw_k_119 sw_n_119 dX9_telling_54 rfl ?_
        refine sw_iconst (np := 56) dX9_telling_55 sw_ic_1 rfl ?_
        refine sw_iadd (np := 57) dX9_telling_56 rfl ?_
        refine sw_sI (np := 58) sw_k_119 sw_n_119 dX9_telling_57 rfl (fun S6 => ?_)
        refine sw_ald_3_0 (np := 59) dX9_telling_58 rfl ?_
        refine sw_gR (np := 62) sw_f_RX9_34 sw_k_105 sw_r_105_18 dX9_telling_59 rfl ?_
        refine sw_ald_3_0 (np := 63) dX9_telling_62 rfl ?_
        refine sw_gR (np := 66) sw_f_RX9_31 sw_k_105 sw_r_105_17 dX9_telling_63 rfl ?_
        refine sw_ild_3_1 (np := 67) dX9_telling_66 rfl ?_
        refine sw_iald (np := 68) sw_k_113 sw_n_113 dX9_telling_67 rfl ?_
        refine sw_iald (np := 69) sw_k_114 sw_n_114 dX9_telling_68 rfl ?_
        exact sw_iret dX9_telling_69
      · refine sw_bipush (np := 37) dX9_telling_35 sw_bc_m5 rfl ?_
        exact sw_iret dX9_telling_37
    · refine sw_iconst (np := 21) dX9_telling_20 sw_ic_m1 rfl ?_
      exact sw_iret dX9_telling_21
/-- SwordAtticModel.touch(I)I -/
def fX9_touch (N : Nat) (p1 : Int32) (S : sw_St) : Option (Int32 × sw_St) :=
  sw_bd (fX9_isCot N p1.toInt64 S) (fun r1 S1 => (if r1 = 0 then (some ((-1 : Int32), S1)) else (sw_bd (fX9_begins N S1) (fun _ S2 => (sw_gd (sw_in p1 12) (if (S2.1 113 p1.toNatClampNeg) ≥ 0 then (sw_bd (fX9_awakeSet N S2) (fun r3 S3 => (sw_bd (fX9_isTouched N p1 S3) (fun _ S4 => (sw_bd (fX9_keepsMind N S4) (fun _ S5 => (sw_bd (fX9_awakeSet N S5) (fun r6 S6 => (sw_bd (fX9_bitsOf N (r6 &&& (r3 ^^^ (-1 : Int32))) S6) (fun r7 S7 => (sw_gd (sw_in (2 : Int32) 5) (sw_gd (sw_in (2 : Int32) 5) (sw_ls (sw_si S7 119 (2 : Int32).toNatClampNeg ((S7.1 119 (2 : Int32).toNatClampNeg) + (1 : Int32))) (fun S8 => (sw_gd (sw_in (3 : Int32) 5) (sw_gd (sw_in (3 : Int32) 5) (sw_ls (sw_si S8 119 (3 : Int32).toNatClampNeg ((S8.1 119 (3 : Int32).toNatClampNeg) + r7)) (fun S9 => (some (r7, S9)))))))))))))))))))) else (some ((-5 : Int32), S2))))))))
theorem hX9_touch {G : sw_G} {N d : Nat} (hd : 4 ≤ d) {p1 : Int32}  {S : sw_St} : sw_Ev G yX9_touch cX9_touch 4 (some .int) d sw_ei [sw_vr G 105, .int p1] S (fX9_touch N p1 S) := by
  refine sw_Ev_of (own := RX9) (lv0 := [some (sw_vr G 105), some (.int p1), none, none]) (by decide) rfl (Nat.le_of_ble_eq_true rfl) rfl ?_
  unfold fX9_touch
  refine sw_ild_4_1 (np := 1) dX9_touch_0 rfl ?_
  refine sw_i2l (np := 2) dX9_touch_1 rfl ?_
  refine sw_cS1i (np := 5) (hX9_isCot (d := d - 1) (by omega) ) sw_ms_X9_isCot sw_wl_RX9_104 dX9_touch_2 (sw_fit_rm (by omega) (by decide)) (Nat.le_of_ble_eq_true rfl) rfl (fun r1 S1 => ?_)
  refine sw_if_ne (np := 8) (tp := 10) dX9_touch_5 rfl rfl ?_ ?_
  · refine sw_ald_4_0 (np := 11) dX9_touch_10 rfl ?_
    refine sw_cV0v (np := 14) (hX9_begins (d := d - 1) (by omega) ) sw_mv_X9_begins sw_k_105 sw_wl_RX9_233 dX9_touch_11 (sw_fit_rm (by omega) (by decide)) (Nat.le_of_ble_eq_true rfl) rfl (fun _ S2 => ?_)
    refine sw_ald_4_0 (np := 15) dX9_touch_14 rfl ?_
    refine sw_gR (np := 18) sw_f_RX9_31 sw_k_105 sw_r_105_17 dX9_touch_15 rfl ?_
    refine sw_ild_4_1 (np := 19) dX9_touch_18 rfl ?_
    refine sw_iald (np := 20) sw_k_113 sw_n_113 dX9_touch_19 rfl ?_
    refine sw_if_ge (np := 23) (tp := 26) dX9_touch_20 rfl rfl ?_ ?_
    · refine sw_ald_4_0 (np := 27) dX9_touch_26 rfl ?_
      refine sw_cV0i (np := 30) (hX9_awakeSet (d := d - 1) (by omega) ) sw_mv_X9_awakeSet sw_k_105 sw_wl_RX9_226 dX9_touch_27 (sw_fit_rm (by omega) (by decide)) (Nat.le_of_ble_eq_true rfl) rfl (fun r3 S3 => ?_)
      refine sw_ist_4_2 (np := 31) dX9_touch_30 rfl rfl ?_
      refine sw_ald_4_0 (np := 32) dX9_touch_31 rfl ?_
      refine sw_ild_4_1 (np := 33) dX9_touch_32 rfl ?_
      refine sw_cV1v (np := 36) (hX9_isTouched (d := d - 1) (by omega) ) sw_mv_X9_isTouched sw_k_105 sw_wl_RX9_276 dX9_touch_33 (sw_fit_rm (by omega) (by decide)) (Nat.le_of_ble_eq_true rfl) rfl (fun _ S4 => ?_)
      refine sw_ald_4_0 (np := 37) dX9_touch_36 rfl ?_
      refine sw_cV0v (np := 40) (hX9_keepsMind (d := d - 1) (by omega) ) sw_mv_X9_keepsMind sw_k_105 sw_wl_RX9_310 dX9_touch_37 (sw_fit_rm (by omega) (by decide)) (Nat.le_of_ble_eq_true rfl) rfl (fun _ S5 => ?_)
      refine sw_ald_4_0 (np := 41) dX9_touch_40 rfl ?_
      refine sw_cV0i (np := 44) (hX9_awakeSet (d := d - 1) (by omega) ) sw_mv_X9_awakeSet sw_k_105 sw_wl_RX9_226 dX9_touch_41 (sw_fit_rm (by omega) (by decide)) (Nat.le_of_ble_eq_true rfl) rfl (fun r6 S6 => ?_)
      refine sw_ild_4_2 (np := 45) dX9_touch_44 rfl ?_
      refine sw_iconst (np := 46) dX9_touch_45 sw_ic_m1 rfl ?_
      refine sw_ixor (np := 47) dX9_touch_46 rfl ?_
      refine sw_iand (np := 48) dX9_touch_47 rfl ?_
      refine sw_cS1i (np := 51) (hX9_bitsOf (d := d - 1) (by omega) ) sw_ms_X9_bitsOf sw_wl_RX9_229 dX9_touch_48 (sw_fit_rm (by omega) (by decide)) (Nat.le_of_ble_eq_true rfl) rfl (fun r7 S7 => ?_)
      refine sw_ist_4_3 (np := 52) dX9_touch_51 rfl rfl ?_
      refine sw_ald_4_0 (np := 53) dX9_touch_52 rfl ?_
      refine sw_gR (np := 56) sw_f_RX9_49 sw_k_105 sw_r_105_27 dX9_touch_53 rfl ?_
      refine sw_iconst (np := 57) dX9_touch_56 sw_ic_2 rfl ?_
      refine sw_dup2 (np := 58) dX9_touch_57 rfl rfl rfl ?_
      refine sw_iald (np := 59) sw_k_119 sw_n_119 dX9_touch_58 rfl ?_
      refine sw_iconst (np := 60) dX9_touch_59 sw_ic_1 rfl ?_
      refine sw_iadd (np := 61) dX9_touch_60 rfl ?_
      refine sw_sI (np := 62) sw_k_119 sw_n_119 dX9_touch_61 rfl (fun S8 => ?_)
      refine sw_ald_4_0 (np := 63) dX9_touch_62 rfl ?_
      refine sw_gR (np := 66) sw_f_RX9_49 sw_k_105 sw_r_105_27 dX9_touch_63 rfl ?_
      refine sw_iconst (np := 67) dX9_touch_66 sw_ic_3 rfl ?_
      refine sw_dup2 (np := 68) dX9_touch_67 rfl rfl rfl ?_
      refine sw_iald (np := 69) sw_k_119 sw_n_119 dX9_touch_68 rfl ?_
      refine sw_ild_4_3 (np := 70) dX9_touch_69 rfl ?_
      refine sw_iadd (np := 71) dX9_touch_70 rfl ?_
      refine sw_sI (np := 72) sw_k_119 sw_n_119 dX9_touch_71 rfl (fun S9 => ?_)
      refine sw_ild_4_3 (np := 73) dX9_touch_72 rfl ?_
      exact sw_iret dX9_touch_73
    · refine sw_bipush (np := 25) dX9_touch_23 sw_bc_m5 rfl ?_
      exact sw_iret dX9_touch_25
  · refine sw_iconst (np := 9) dX9_touch_8 sw_ic_m1 rfl ?_
    exact sw_iret dX9_touch_9
/-- SwordAtticModel.hold(II)I -/
def fX9_hold (N : Nat) (p1 : Int32) (p2 : Int32) (S : sw_St) : Option (Int32 × sw_St) :=
  sw_bd (fX9_isSword N p1.toInt64 S) (fun r1 S1 => (if r1 = 0 then (some ((-1 : Int32), S1)) else (sw_bd (fX9_within N p2.toInt64 (0 : Int64) (1 : Int64) S1) (fun r2 S2 => (if r2 = 0 then (some ((-1 : Int32), S2)) else (sw_gd (sw_in ((40 : Int32) + p1) 53) (sw_li (S2.1 106 ((40 : Int32) + p1).toNatClampNeg) (fun x3_1 => (sw_gd (sw_in ((40 : Int32) + p1) 53) (sw_ls (sw_si S2 106 ((40 : Int32) + p1).toNatClampNeg p2) (fun S3 => (some (x3_1, S3)))))))))))))
theorem hX9_hold {G : sw_G} {N d : Nat} (hd : 3 ≤ d) {p1 : Int32} {p2 : Int32}  {S : sw_St} : sw_Ev G yX9_hold cX9_hold 4 (some .int) d sw_ei [sw_vr G 105, .int p1, .int p2] S (fX9_hold N p1 p2 S) := by
  refine sw_Ev_of (own := RX9) (lv0 := [some (sw_vr G 105), some (.int p1), some (.int p2), none]) (by decide) rfl (Nat.le_of_ble_eq_true rfl) rfl ?_
  unfold fX9_hold
  refine sw_ald_4_0 (np := 1) dX9_hold_0 rfl ?_
  refine sw_ild_4_1 (np := 2) dX9_hold_1 rfl ?_
  refine sw_i2l (np := 3) dX9_hold_2 rfl ?_
  refine sw_cV1i (np := 6) (hX9_isSword (d := d - 1) (by omega) ) sw_mv_X9_isSword sw_k_105 sw_wl_RX9_127 dX9_hold_3 (sw_fit_rm (by omega) (by decide)) (Nat.le_of_ble_eq_true rfl) rfl (fun r1 S1 => ?_)
  refine sw_if_eq (np := 9) (tp := 19) dX9_hold_6 rfl rfl ?_ ?_
  · refine sw_iconst (np := 20) dX9_hold_19 sw_ic_m1 rfl ?_
    exact sw_iret dX9_hold_20
  · refine sw_ild_4_2 (np := 10) dX9_hold_9 rfl ?_
    refine sw_i2l (np := 11) dX9_hold_10 rfl ?_
    refine sw_lconst (np := 12) dX9_hold_11 sw_lc_0 rfl ?_
    refine sw_lconst (np := 13) dX9_hold_12 sw_lc_1 rfl ?_
    refine sw_cS3i (np := 16) (hX9_within (d := d - 1) (by omega) ) sw_ms_X9_within sw_wl_RX9_98 dX9_hold_13 (sw_fit_rm (by omega) (by decide)) (Nat.le_of_ble_eq_true rfl) rfl (fun r2 S2 => ?_)
    refine sw_if_ne (np := 19) (tp := 21) dX9_hold_16 rfl rfl ?_ ?_
    · refine sw_ald_4_0 (np := 22) dX9_hold_21 rfl ?_
      refine sw_gR (np := 25) sw_f_RX9_9 sw_k_105 sw_r_105_0 dX9_hold_22 rfl ?_
      refine sw_bipush (np := 27) dX9_hold_25 sw_bc_40 rfl ?_
      refine sw_ild_4_1 (np := 28) dX9_hold_27 rfl ?_
      refine sw_iadd (np := 29) dX9_hold_28 rfl ?_
      refine sw_iald (np := 30) sw_k_106 sw_n_106 dX9_hold_29 rfl ?_
      refine sw_isl_4_3 (np := 31) dX9_hold_30 rfl rfl (fun x3_1 => ?_)
      refine sw_ald_4_0 (np := 32) dX9_hold_31 rfl ?_
      refine sw_gR (np := 35) sw_f_RX9_9 sw_k_105 sw_r_105_0 dX9_hold_32 rfl ?_
      refine sw_bipush (np := 37) dX9_hold_35 sw_bc_40 rfl ?_
      refine sw_ild_4_1 (np := 38) dX9_hold_37 rfl ?_
      refine sw_iadd (np := 39) dX9_hold_38 rfl ?_
      refine sw_ild_4_2 (np := 40) dX9_hold_39 rfl ?_
      refine sw_sI (np := 41) sw_k_106 sw_n_106 dX9_hold_40 rfl (fun S3 => ?_)
      refine sw_ild_4_3 (np := 42) dX9_hold_41 rfl ?_
      exact sw_iret dX9_hold_42
    · refine sw_iconst (np := 20) dX9_hold_19 sw_ic_m1 rfl ?_
      exact sw_iret dX9_hold_20
/-- SwordAtticModel.led(I)I -/
def fX9_led (N : Nat) (p1 : Int32) (S : sw_St) : Option (Int32 × sw_St) :=
  sw_bd (fX9_within N p1.toInt64 (0 : Int64) (4 : Int64) S) (fun r1 S1 => (if r1 = 0 then (some ((-1 : Int32), S1)) else (sw_gd (sw_in p1 5) (some ((S1.1 119 p1.toNatClampNeg), S1)))))
theorem hX9_led {G : sw_G} {N d : Nat} (hd : 2 ≤ d) {p1 : Int32}  {S : sw_St} : sw_Ev G yX9_led cX9_led 2 (some .int) d sw_ei [sw_vr G 105, .int p1] S (fX9_led N p1 S) := by
  refine sw_Ev_of (own := RX9) (lv0 := [some (sw_vr G 105), some (.int p1)]) (by decide) rfl (Nat.le_of_ble_eq_true rfl) rfl ?_
  unfold fX9_led
  refine sw_ild_2_1 (np := 1) dX9_led_0 rfl ?_
  refine sw_i2l (np := 2) dX9_led_1 rfl ?_
  refine sw_lconst (np := 3) dX9_led_2 sw_lc_0 rfl ?_
  refine sw_ldc2 (np := 6) sw_wc_RX9_125 dX9_led_3 rfl ?_
  refine sw_cS3i (np := 9) (hX9_within (d := d - 1) (by omega) ) sw_ms_X9_within sw_wl_RX9_98 dX9_led_6 (sw_fit_rm (by omega) (by decide)) (Nat.le_of_ble_eq_true rfl) rfl (fun r1 S1 => ?_)
  refine sw_if_eq (np := 12) (tp := 21) dX9_led_9 rfl rfl ?_ ?_
  · refine sw_iconst (np := 22) dX9_led_21 sw_ic_m1 rfl ?_
    exact sw_iret dX9_led_22
  · refine sw_ald_2_0 (np := 13) dX9_led_12 rfl ?_
    refine sw_gR (np := 16) sw_f_RX9_49 sw_k_105 sw_r_105_27 dX9_led_13 rfl ?_
    refine sw_ild_2_1 (np := 17) dX9_led_16 rfl ?_
    refine sw_iald (np := 18) sw_k_119 sw_n_119 dX9_led_17 rfl ?_
    refine sw_goto (tp := 22) dX9_led_18 rfl ?_
    exact sw_iret dX9_led_22
/-- SwordAtticModel.image()I -/
def fX9_image (N : Nat)  (S : sw_St) : Option (Int32 × sw_St) :=
  sw_ls (sw_si S 105 28 (1 : Int32)) (fun S1 => (sw_ls (sw_si S1 105 29 (S1.1 105 6)) (fun S2 => (sw_fx1 (fun rec1 x1_1 S3 => (if x1_1 > (52 : Int32) then (sw_fx1 (fun rec2 x1_2 S4 => (if x1_2 ≥ (5 : Int32) then (sw_gd (sw_in (0 : Int32) 5) (some ((S4.1 119 (0 : Int32).toNatClampNeg), S4))) else (sw_gd (sw_in x1_2 5) (sw_gd (sw_in x1_2 5) (sw_ls (sw_si S4 121 x1_2.toNatClampNeg (S4.1 119 x1_2.toNatClampNeg)) (fun S5 => (rec2 (x1_2 + (1 : Int32)) S5))))))) N (0 : Int32) S3) else (sw_gd (sw_in x1_1 53) (sw_gd (sw_in x1_1 53) (sw_ls (sw_si S3 120 x1_1.toNatClampNeg (S3.1 106 x1_1.toNatClampNeg)) (fun S6 => (rec1 (x1_1 + (1 : Int32)) S6))))))) N (0 : Int32) S2))))
theorem hX9_image {G : sw_G} {N d : Nat} (hd : 1 ≤ d)   {S : sw_St} : sw_Ev G yX9_image cX9_image 2 (some .int) d sw_ei [sw_vr G 105] S (fX9_image N  S) := by
  refine sw_Ev_of (own := RX9) (lv0 := [some (sw_vr G 105), none]) (by decide) rfl (Nat.le_of_ble_eq_true rfl) rfl ?_
  unfold fX9_image
  refine sw_ald_2_0 (np := 1) dX9_image_0 rfl ?_
  refine sw_iconst (np := 2) dX9_image_1 sw_ic_1 rfl ?_
  refine sw_pZ (np := 5) sw_f_RX9_313 sw_fp_9_28 (by rfl) (by rfl) sw_k_105 dX9_image_2 rfl (fun S1 => ?_)
  refine sw_ald_2_0 (np := 6) dX9_image_5 rfl ?_
  refine sw_ald_2_0 (np := 7) dX9_image_6 rfl ?_
  refine sw_gI (np := 10) sw_f_RX9_95 sw_k_105 dX9_image_7 rfl ?_
  refine sw_pI (np := 13) sw_f_RX9_317 sw_fp_9_29 sw_k_105 dX9_image_10 rfl (fun S2 => ?_)
  refine sw_iconst (np := 14) dX9_image_13 sw_ic_0 rfl ?_
  refine sw_ist_2_1 (np := 15) dX9_image_14 rfl rfl ?_
  refine sw_lp1 (lv := fun x1_1 => [some (sw_vr G 105), some (.int x1_1)]) (fun rec1 hrec1 x1_1 S3 => ?_) _ _ _
  refine sw_ild_2_1 (np := 16) dX9_image_15 rfl ?_
  refine sw_bipush (np := 18) dX9_image_16 sw_bc_52 rfl ?_
  refine sw_icmp_gt (np := 21) (tp := 39) dX9_image_18 rfl rfl ?_ ?_
  · refine sw_iconst (np := 40) dX9_image_39 sw_ic_0 rfl ?_
    refine sw_ist_2_1 (np := 41) dX9_image_40 rfl rfl ?_
    refine sw_lp1 (lv := fun x1_2 => [some (sw_vr G 105), some (.int x1_2)]) (fun rec2 hrec2 x1_2 S4 => ?_) _ _ _
    refine sw_ild_2_1 (np := 42) dX9_image_41 rfl ?_
    refine sw_iconst (np := 43) dX9_image_42 sw_ic_5 rfl ?_
    refine sw_icmp_ge (np := 46) (tp := 64) dX9_image_43 rfl rfl ?_ ?_
    · refine sw_ald_2_0 (np := 65) dX9_image_64 rfl ?_
      refine sw_gR (np := 68) sw_f_RX9_49 sw_k_105 sw_r_105_27 dX9_image_65 rfl ?_
      refine sw_iconst (np := 69) dX9_image_68 sw_ic_0 rfl ?_
      refine sw_iald (np := 70) sw_k_119 sw_n_119 dX9_image_69 rfl ?_
      exact sw_iret dX9_image_70
    · refine sw_ald_2_0 (np := 47) dX9_image_46 rfl ?_
      refine sw_gR (np := 50) sw_f_RX9_55 sw_k_105 sw_r_105_31 dX9_image_47 rfl ?_
      refine sw_ild_2_1 (np := 51) dX9_image_50 rfl ?_
      refine sw_ald_2_0 (np := 52) dX9_image_51 rfl ?_
      refine sw_gR (np := 55) sw_f_RX9_49 sw_k_105 sw_r_105_27 dX9_image_52 rfl ?_
      refine sw_ild_2_1 (np := 56) dX9_image_55 rfl ?_
      refine sw_iald (np := 57) sw_k_119 sw_n_119 dX9_image_56 rfl ?_
      refine sw_sI (np := 58) sw_k_121 sw_n_121 dX9_image_57 rfl (fun S5 => ?_)
      refine sw_inc_2_1 (np := 61) dX9_image_58 sw_ic_1 rfl rfl ?_
      refine sw_goto (tp := 41) dX9_image_61 rfl ?_
      exact hrec2 _ _
  · refine sw_ald_2_0 (np := 22) dX9_image_21 rfl ?_
    refine sw_gR (np := 25) sw_f_RX9_52 sw_k_105 sw_r_105_30 dX9_image_22 rfl ?_
    refine sw_ild_2_1 (np := 26) dX9_image_25 rfl ?_
    refine sw_ald_2_0 (np := 27) dX9_image_26 rfl ?_
    refine sw_gR (np := 30) sw_f_RX9_9 sw_k_105 sw_r_105_0 dX9_image_27 rfl ?_
    refine sw_ild_2_1 (np := 31) dX9_image_30 rfl ?_
    refine sw_iald (np := 32) sw_k_106 sw_n_106 dX9_image_31 rfl ?_
    refine sw_sI (np := 33) sw_k_120 sw_n_120 dX9_image_32 rfl (fun S6 => ?_)
    refine sw_inc_2_1 (np := 36) dX9_image_33 sw_ic_1 rfl rfl ?_
    refine sw_goto (tp := 15) dX9_image_36 rfl ?_
    exact hrec1 _ _
/-- SwordAtticModel.back()I -/
def fX9_back (N : Nat)  (S : sw_St) : Option (Int32 × sw_St) :=
  if (S.1 105 28) = 0 then (some ((-5 : Int32), S)) else (sw_fx1 (fun rec1 x1_1 S1 => (if x1_1 ≥ (S1.1 105 29) then (sw_gd (sw_in (50 : Int32) 53) (sw_gd (sw_in (50 : Int32) 53) (sw_ls (sw_si S1 106 (50 : Int32).toNatClampNeg (S1.1 120 (50 : Int32).toNatClampNeg)) (fun S2 => (sw_gd (sw_in (52 : Int32) 53) (sw_gd (sw_in (52 : Int32) 53) (sw_ls (sw_si S2 106 (52 : Int32).toNatClampNeg (S2.1 120 (52 : Int32).toNatClampNeg)) (fun S3 => (sw_fx1 (fun rec2 x1_2 S4 => (if x1_2 ≥ (5 : Int32) then (sw_gd (sw_in (0 : Int32) 5) (some ((S4.1 119 (0 : Int32).toNatClampNeg), S4))) else (sw_gd (sw_in x1_2 5) (sw_gd (sw_in x1_2 5) (sw_ls (sw_si S4 119 x1_2.toNatClampNeg (S4.1 121 x1_2.toNatClampNeg)) (fun S5 => (rec2 (x1_2 + (1 : Int32)) S5))))))) N (0 : Int32) S3))))))))) else (sw_gd (sw_in ((30 : Int32) + x1_1) 53) (sw_gd (sw_in ((30 : Int32) + x1_1) 53) (sw_ls (sw_si S1 106 ((30 : Int32) + x1_1).toNatClampNeg (S1.1 120 ((30 : Int32) + x1_1).toNatClampNeg)) (fun S6 => (sw_gd (sw_in ((40 : Int32) + x1_1) 53) (sw_gd (sw_in ((40 : Int32) + x1_1) 53) (sw_ls (sw_si S6 106 ((40 : Int32) + x1_1).toNatClampNeg (S6.1 120 ((40 : Int32) + x1_1).toNatClampNeg)) (fun S7 => (rec1 (x1_1 + (1 : Int32)) S7))))))))))) N (0 : Int32) S)
theorem hX9_back {G : sw_G} {N d : Nat} (hd : 1 ≤ d)   {S : sw_St} : sw_Ev G yX9_back cX9_back 2 (some .int) d sw_ei [sw_vr G 105] S (fX9_back N  S) := by
  refine sw_Ev_of (own := RX9) (lv0 := [some (sw_vr G 105), none]) (by decide) rfl (Nat.le_of_ble_eq_true rfl) rfl ?_
  unfold fX9_back
  refine sw_ald_2_0 (np := 1) dX9_back_0 rfl ?_
  refine sw_gI (np := 4) sw_f_RX9_313 sw_k_105 dX9_back_1 rfl ?_
  refine sw_if_ne (np := 7) (tp := 10) dX9_back_4 rfl rfl ?_ ?_
  · refine sw_iconst (np := 11) dX9_back_10 sw_ic_0 rfl ?_
    refine sw_ist_2_1 (np := 12) dX9_back_11 rfl rfl ?_
    refine sw_lp1 (lv := fun x1_1 => [some (sw_vr G 105), some (.int x1_1)]) (fun rec1 hrec1 x1_1 S1 => ?_) _ _ _
    refine sw_ild_2_1 (np := 13) dX9_back_12 rfl ?_
    refine sw_ald_2_0 (np := 14) dX9_back_13 rfl ?_
    refine sw_gI (np := 17) sw_f_RX9_317 sw_k_105 dX9_back_14 rfl ?_
    refine sw_icmp_ge (np := 20) (tp := 62) dX9_back_17 rfl rfl ?_ ?_
    · refine sw_ald_2_0 (np := 63) dX9_back_62 rfl ?_
      refine sw_gR (np := 66) sw_f_RX9_9 sw_k_105 sw_r_105_0 dX9_back_63 rfl ?_
      refine sw_bipush (np := 68) dX9_back_66 sw_bc_50 rfl ?_
      refine sw_ald_2_0 (np := 69) dX9_back_68 rfl ?_
      refine sw_gR (np := 72) sw_f_RX9_52 sw_k_105 sw_r_105_30 dX9_back_69 rfl ?_
      refine sw_bipush (np := 74) dX9_back_72 sw_bc_50 rfl ?_
      refine sw_iald (np := 75) sw_k_120 sw_n_120 dX9_back_74 rfl ?_
      refine sw_sI (np := 76) sw_k_106 sw_n_106 dX9_back_75 rfl (fun S2 => ?_)
      refine sw_ald_2_0 (np := 77) dX9_back_76 rfl ?_
      refine sw_gR (np := 80) sw_f_RX9_9 sw_k_105 sw_r_105_0 dX9_back_77 rfl ?_
      refine sw_bipush (np := 82) dX9_back_80 sw_bc_52 rfl ?_
      refine sw_ald_2_0 (np := 83) dX9_back_82 rfl ?_
      refine sw_gR (np := 86) sw_f_RX9_52 sw_k_105 sw_r_105_30 dX9_back_83 rfl ?_
      refine sw_bipush (np := 88) dX9_back_86 sw_bc_52 rfl ?_
      refine sw_iald (np := 89) sw_k_120 sw_n_120 dX9_back_88 rfl ?_
      refine sw_sI (np := 90) sw_k_106 sw_n_106 dX9_back_89 rfl (fun S3 => ?_)
      refine sw_iconst (np := 91) dX9_back_90 sw_ic_0 rfl ?_
      refine sw_ist_2_1 (np := 92) dX9_back_91 rfl rfl ?_
      refine sw_lp1 (lv := fun x1_2 => [some (sw_vr G 105), some (.int x1_2)]) (fun rec2 hrec2 x1_2 S4 => ?_) _ _ _
      refine sw_ild_2_1 (np := 93) dX9_back_92 rfl ?_
      refine sw_iconst (np := 94) dX9_back_93 sw_ic_5 rfl ?_
      refine sw_icmp_ge (np := 97) (tp := 115) dX9_back_94 rfl rfl ?_ ?_
      · refine sw_ald_2_0 (np := 116) dX9_back_115 rfl ?_
        refine sw_gR (np := 119) sw_f_RX9_49 sw_k_105 sw_r_105_27 dX9_back_116 rfl ?_
        refine sw_iconst (np := 120) dX9_back_119 sw_ic_0 rfl ?_
        refine sw_iald (np := 121) sw_k_119 sw_n_119 dX9_back_120 rfl ?_
        exact sw_iret dX9_back_121
      · refine sw_ald_2_0 (np := 98) dX9_back_97 rfl ?_
        refine sw_gR (np := 101) sw_f_RX9_49 sw_k_105 sw_r_105_27 dX9_back_98 rfl ?_
        refine sw_ild_2_1 (np := 102) dX9_back_101 rfl ?_
        refine sw_ald_2_0 (np := 103) dX9_back_102 rfl ?_
        refine sw_gR (np := 106) sw_f_RX9_55 sw_k_105 sw_r_105_31 dX9_back_103 rfl ?_
        refine sw_ild_2_1 (np := 107) dX9_back_106 rfl ?_
        refine sw_iald (np := 108) sw_k_121 sw_n_121 dX9_back_107 rfl ?_
        refine sw_sI (np := 109) sw_k_119 sw_n_119 dX9_back_108 rfl (fun S5 => ?_)
        refine sw_inc_2_1 (np := 112) dX9_back_109 sw_ic_1 rfl rfl ?_
        refine sw_goto (tp := 92) dX9_back_112 rfl ?_
        exact hrec2 _ _
    · refine sw_ald_2_0 (np := 21) dX9_back_20 rfl ?_
      refine sw_gR (np := 24) sw_f_RX9_9 sw_k_105 sw_r_105_0 dX9_back_21 rfl ?_
      refine sw_bipush (np := 26) dX9_back_24 sw_bc_30 rfl ?_
      refine sw_ild_2_1 (np := 27) dX9_back_26 rfl ?_
      refine sw_iadd (np := 28) dX9_back_27 rfl ?_
      refine sw_ald_2_0 (np := 29) dX9_back_28 rfl ?_
      refine sw_gR (np := 32) sw_f_RX9_52 sw_k_105 sw_r_105_30 dX9_back_29 rfl ?_
      refine sw_bipush (np := 34) dX9_back_32 sw_bc_30 rfl ?_
      refine sw_ild_2_1 (np := 35) dX9_back_34 rfl ?_
      refine sw_iadd (np := 36) dX9_back_35 rfl ?_
      refine sw_iald (np := 37) sw_k_120 sw_n_120 dX9_back_36 rfl ?_
      refine sw_sI (np := 38) sw_k_106 sw_n_106 dX9_back_37 rfl (fun S6 => ?_)
      refine sw_ald_2_0 (np := 39) dX9_back_38 rfl ?_
      refine sw_gR (np := 42) sw_f_RX9_9 sw_k_105 sw_r_105_0 dX9_back_39 rfl ?_
      refine sw_bipush (np := 44) dX9_back_42 sw_bc_40 rfl ?_
      refine sw_ild_2_1 (np := 45) dX9_back_44 rfl ?_
      refine sw_iadd (np := 46) dX9_back_45 rfl ?_
      refine sw_ald_2_0 (np := 47) dX9_back_46 rfl ?_
      refine sw_gR (np := 50) sw_f_RX9_52 sw_k_105 sw_r_105_30 dX9_back_47 rfl ?_
      refine sw_bipush (np := 52) dX9_back_50 sw_bc_40 rfl ?_
      refine sw_ild_2_1 (np := 53) dX9_back_52 rfl ?_
      refine sw_iadd (np := 54) dX9_back_53 rfl ?_
      refine sw_iald (np := 55) sw_k_120 sw_n_120 dX9_back_54 rfl ?_
      refine sw_sI (np := 56) sw_k_106 sw_n_106 dX9_back_55 rfl (fun S7 => ?_)
      refine sw_inc_2_1 (np := 59) dX9_back_56 sw_ic_1 rfl rfl ?_
      refine sw_goto (tp := 12) dX9_back_59 rfl ?_
      exact hrec1 _ _
  · refine sw_bipush (np := 9) dX9_back_7 sw_bc_m5 rfl ?_
    exact sw_iret dX9_back_9
/-- SwordAtticModel.manyAwake()I -/
def fX9_manyAwake (N : Nat)  (S : sw_St) : Option (Int32 × sw_St) :=
  sw_bd (fX9_begins N S) (fun _ S1 => (sw_bd (fX9_awakeMany N S1) (fun r2 S2 => (some (r2, S2)))))
theorem hX9_manyAwake {G : sw_G} {N d : Nat} (hd : 4 ≤ d)   {S : sw_St} : sw_Ev G yX9_manyAwake cX9_manyAwake 1 (some .int) d sw_ei [sw_vr G 105] S (fX9_manyAwake N  S) := by
  refine sw_Ev_of (own := RX9) (lv0 := [some (sw_vr G 105)]) (by decide) rfl (Nat.le_of_ble_eq_true rfl) rfl ?_
  unfold fX9_manyAwake
  refine sw_ald_1_0 (np := 1) dX9_manyAwake_0 rfl ?_
  refine sw_cV0v (np := 4) (hX9_begins (d := d - 1) (by omega) ) sw_mv_X9_begins sw_k_105 sw_wl_RX9_233 dX9_manyAwake_1 (sw_fit_rm (by omega) (by decide)) (Nat.le_of_ble_eq_true rfl) rfl (fun _ S1 => ?_)
  refine sw_ald_1_0 (np := 5) dX9_manyAwake_4 rfl ?_
  refine sw_cV0i (np := 8) (hX9_awakeMany (d := d - 1) (by omega) ) sw_mv_X9_awakeMany sw_k_105 sw_wl_RX9_256 dX9_manyAwake_5 (sw_fit_rm (by omega) (by decide)) (Nat.le_of_ble_eq_true rfl) rfl (fun r2 S2 => ?_)
  exact sw_iret dX9_manyAwake_8
/-- SwordAtticModel.isBody(I)Z -/
def fX9_isBody (N : Nat) (p1 : Int32) (S : sw_St) : Option (Int32 × sw_St) :=
  sw_bd (fX9_within N p1.toInt64 (0 : Int64) (((S.1 105 32) - (1 : Int32)).toInt64) S) (fun r1 S1 => (some (vp_nar .boolean r1, S1)))
theorem hX9_isBody {G : sw_G} {N d : Nat} (hd : 2 ≤ d) {p1 : Int32}  {S : sw_St} : sw_Ev G yX9_isBody cX9_isBody 2 (some .boolean) d sw_ei [sw_vr G 105, .int p1] S (fX9_isBody N p1 S) := by
  refine sw_Ev_of (own := RX9) (lv0 := [some (sw_vr G 105), some (.int p1)]) (by decide) rfl (Nat.le_of_ble_eq_true rfl) rfl ?_
  unfold fX9_isBody
  refine sw_ild_2_1 (np := 1) dX9_isBody_0 rfl ?_
  refine sw_i2l (np := 2) dX9_isBody_1 rfl ?_
  refine sw_lconst (np := 3) dX9_isBody_2 sw_lc_0 rfl ?_
  refine sw_ald_2_0 (np := 4) dX9_isBody_3 rfl ?_
  refine sw_gI (np := 7) sw_f_RX9_320 sw_k_105 dX9_isBody_4 rfl ?_
  refine sw_iconst (np := 8) dX9_isBody_7 sw_ic_1 rfl ?_
  refine sw_isub (np := 9) dX9_isBody_8 rfl ?_
  refine sw_i2l (np := 10) dX9_isBody_9 rfl ?_
  refine sw_cS3i (np := 13) (hX9_within (d := d - 1) (by omega) ) sw_ms_X9_within sw_wl_RX9_98 dX9_isBody_10 (sw_fit_rm (by omega) (by decide)) (Nat.le_of_ble_eq_true rfl) rfl (fun r1 S1 => ?_)
  exact sw_zret dX9_isBody_13
/-- SwordAtticModel.kindOf(I)I -/
def fX9_kindOf (N : Nat) (p1 : Int32) (S : sw_St) : Option (Int32 × sw_St) :=
  sw_gd (sw_in p1 50) (some ((S.1 122 p1.toNatClampNeg), S))
theorem hX9_kindOf {G : sw_G} {N d : Nat} (hd : 1 ≤ d) {p1 : Int32}  {S : sw_St} : sw_Ev G yX9_kindOf cX9_kindOf 2 (some .int) d sw_ei [sw_vr G 105, .int p1] S (fX9_kindOf N p1 S) := by
  refine sw_Ev_of (own := RX9) (lv0 := [some (sw_vr G 105), some (.int p1)]) (by decide) rfl (Nat.le_of_ble_eq_true rfl) rfl ?_
  unfold fX9_kindOf
  refine sw_ald_2_0 (np := 1) dX9_kindOf_0 rfl ?_
  refine sw_gR (np := 4) sw_f_RX9_58 sw_k_105 sw_r_105_33 dX9_kindOf_1 rfl ?_
  refine sw_ild_2_1 (np := 5) dX9_kindOf_4 rfl ?_
  refine sw_iald (np := 6) sw_k_122 sw_n_122 dX9_kindOf_5 rfl ?_
  exact sw_iret dX9_kindOf_6
/-- SwordAtticModel.body(I)I -/
def fX9_body (N : Nat) (p1 : Int32) (S : sw_St) : Option (Int32 × sw_St) :=
  sw_bd (fX9_within N p1.toInt64 (0 : Int64) (7 : Int64) S) (fun r1 S1 => (if r1 = 0 then (some ((-1 : Int32), S1)) else (if (S1.1 105 32) = (50 : Int32) then (some ((-3 : Int32), S1)) else (sw_gd (sw_in (S1.1 105 32) 50) (sw_ls (sw_si S1 122 (S1.1 105 32).toNatClampNeg p1) (fun S2 => (sw_ls (sw_si S2 105 32 ((S2.1 105 32) + (1 : Int32))) (fun S3 => (some (((S3.1 105 32) - (1 : Int32)), S3))))))))))
theorem hX9_body {G : sw_G} {N d : Nat} (hd : 2 ≤ d) {p1 : Int32}  {S : sw_St} : sw_Ev G yX9_body cX9_body 2 (some .int) d sw_ei [sw_vr G 105, .int p1] S (fX9_body N p1 S) := by
  refine sw_Ev_of (own := RX9) (lv0 := [some (sw_vr G 105), some (.int p1)]) (by decide) rfl (Nat.le_of_ble_eq_true rfl) rfl ?_
  unfold fX9_body
  refine sw_ild_2_1 (np := 1) dX9_body_0 rfl ?_
  refine sw_i2l (np := 2) dX9_body_1 rfl ?_
  refine sw_lconst (np := 3) dX9_body_2 sw_lc_0 rfl ?_
  refine sw_ldc2 (np := 6) sw_wc_RX9_132 dX9_body_3 rfl ?_
  refine sw_cS3i (np := 9) (hX9_within (d := d - 1) (by omega) ) sw_ms_X9_within sw_wl_RX9_98 dX9_body_6 (sw_fit_rm (by omega) (by decide)) (Nat.le_of_ble_eq_true rfl) rfl (fun r1 S1 => ?_)
  refine sw_if_ne (np := 12) (tp := 14) dX9_body_9 rfl rfl ?_ ?_
  · refine sw_ald_2_0 (np := 15) dX9_body_14 rfl ?_
    refine sw_gI (np := 18) sw_f_RX9_320 sw_k_105 dX9_body_15 rfl ?_
    refine sw_bipush (np := 20) dX9_body_18 sw_bc_50 rfl ?_
    refine sw_icmp_ne (np := 23) (tp := 26) dX9_body_20 rfl rfl ?_ ?_
    · refine sw_ald_2_0 (np := 27) dX9_body_26 rfl ?_
      refine sw_gR (np := 30) sw_f_RX9_58 sw_k_105 sw_r_105_33 dX9_body_27 rfl ?_
      refine sw_ald_2_0 (np := 31) dX9_body_30 rfl ?_
      refine sw_gI (np := 34) sw_f_RX9_320 sw_k_105 dX9_body_31 rfl ?_
      refine sw_ild_2_1 (np := 35) dX9_body_34 rfl ?_
      refine sw_sI (np := 36) sw_k_122 sw_n_122 dX9_body_35 rfl (fun S2 => ?_)
      refine sw_ald_2_0 (np := 37) dX9_body_36 rfl ?_
      refine sw_dup (np := 38) dX9_body_37 rfl rfl ?_
      refine sw_gI (np := 41) sw_f_RX9_320 sw_k_105 dX9_body_38 rfl ?_
      refine sw_iconst (np := 42) dX9_body_41 sw_ic_1 rfl ?_
      refine sw_iadd (np := 43) dX9_body_42 rfl ?_
      refine sw_pI (np := 46) sw_f_RX9_320 sw_fp_9_32 sw_k_105 dX9_body_43 rfl (fun S3 => ?_)
      refine sw_ald_2_0 (np := 47) dX9_body_46 rfl ?_
      refine sw_gI (np := 50) sw_f_RX9_320 sw_k_105 dX9_body_47 rfl ?_
      refine sw_iconst (np := 51) dX9_body_50 sw_ic_1 rfl ?_
      refine sw_isub (np := 52) dX9_body_51 rfl ?_
      exact sw_iret dX9_body_52
    · refine sw_bipush (np := 25) dX9_body_23 sw_bc_m3 rfl ?_
      exact sw_iret dX9_body_25
  · refine sw_iconst (np := 13) dX9_body_12 sw_ic_m1 rfl ?_
    exact sw_iret dX9_body_13
/-- SwordAtticModel.above(I)I -/
def fX9_above (N : Nat) (p0 : Int32) (S : sw_St) : Option (Int32 × sw_St) :=
  if p0 = (3 : Int32) then (some ((2 : Int32), S)) else (if p0 = (4 : Int32) then (some ((1 : Int32), S)) else (if p0 = (5 : Int32) then (some ((3 : Int32), S)) else (if p0 = (7 : Int32) then (some ((4 : Int32), S)) else (some ((0 : Int32), S)))))
theorem hX9_above {G : sw_G} {N d : Nat} (hd : 1 ≤ d) {p0 : Int32}  {S : sw_St} : sw_Ev G yX9_above cX9_above 1 (some .int) d sw_ei [.int p0] S (fX9_above N p0 S) := by
  refine sw_Ev_of (own := RX9) (lv0 := [some (.int p0)]) (by decide) rfl (Nat.le_of_ble_eq_true rfl) rfl ?_
  unfold fX9_above
  refine sw_ild_1_0 (np := 1) dX9_above_0 rfl ?_
  refine sw_iconst (np := 2) dX9_above_1 sw_ic_3 rfl ?_
  refine sw_icmp_ne (np := 5) (tp := 9) dX9_above_2 rfl rfl ?_ ?_
  · refine sw_ild_1_0 (np := 10) dX9_above_9 rfl ?_
    refine sw_iconst (np := 11) dX9_above_10 sw_ic_4 rfl ?_
    refine sw_icmp_ne (np := 14) (tp := 18) dX9_above_11 rfl rfl ?_ ?_
    · refine sw_ild_1_0 (np := 19) dX9_above_18 rfl ?_
      refine sw_iconst (np := 20) dX9_above_19 sw_ic_5 rfl ?_
      refine sw_icmp_ne (np := 23) (tp := 27) dX9_above_20 rfl rfl ?_ ?_
      · refine sw_ild_1_0 (np := 28) dX9_above_27 rfl ?_
        refine sw_bipush (np := 30) dX9_above_28 sw_bc_7 rfl ?_
        refine sw_icmp_ne (np := 33) (tp := 37) dX9_above_30 rfl rfl ?_ ?_
        · refine sw_iconst (np := 38) dX9_above_37 sw_ic_0 rfl ?_
          exact sw_iret dX9_above_38
        · refine sw_iconst (np := 34) dX9_above_33 sw_ic_4 rfl ?_
          refine sw_goto (tp := 38) dX9_above_34 rfl ?_
          exact sw_iret dX9_above_38
      · refine sw_iconst (np := 24) dX9_above_23 sw_ic_3 rfl ?_
        refine sw_goto (tp := 38) dX9_above_24 rfl ?_
        exact sw_iret dX9_above_38
    · refine sw_iconst (np := 15) dX9_above_14 sw_ic_1 rfl ?_
      refine sw_goto (tp := 38) dX9_above_15 rfl ?_
      exact sw_iret dX9_above_38
  · refine sw_iconst (np := 6) dX9_above_5 sw_ic_2 rfl ?_
    refine sw_goto (tp := 38) dX9_above_6 rfl ?_
    exact sw_iret dX9_above_38
/-- SwordAtticModel.runs(I)V -/
def fX9_runs (N : Nat) (p1 : Int32) (S : sw_St) : Option (Unit × sw_St) :=
  if (S.1 105 35) ≥ (24 : Int32) then (sw_ls (sw_si S 105 35 ((S.1 105 35) + (1 : Int32))) (fun S1 => (some ((), S1)))) else (sw_gd (sw_in (S.1 105 35) 24) (sw_ls (sw_si S 123 (S.1 105 35).toNatClampNeg p1) (fun S2 => (sw_ls (sw_si S2 105 35 ((S2.1 105 35) + (1 : Int32))) (fun S3 => (some ((), S3)))))))
theorem hX9_runs {G : sw_G} {N d : Nat} (hd : 1 ≤ d) {p1 : Int32}  {S : sw_St} : sw_Ev G yX9_runs cX9_runs 2 none d sw_ev [sw_vr G 105, .int p1] S (fX9_runs N p1 S) := by
  refine sw_Ev_of (own := RX9) (lv0 := [some (sw_vr G 105), some (.int p1)]) (by decide) rfl (Nat.le_of_ble_eq_true rfl) rfl ?_
  unfold fX9_runs
  refine sw_ald_2_0 (np := 1) dX9_runs_0 rfl ?_
  refine sw_gI (np := 4) sw_f_RX9_323 sw_k_105 dX9_runs_1 rfl ?_
  refine sw_bipush (np := 6) dX9_runs_4 sw_bc_24 rfl ?_
  refine sw_icmp_ge (np := 9) (tp := 19) dX9_runs_6 rfl rfl ?_ ?_
  · refine sw_ald_2_0 (np := 20) dX9_runs_19 rfl ?_
    refine sw_dup (np := 21) dX9_runs_20 rfl rfl ?_
    refine sw_gI (np := 24) sw_f_RX9_323 sw_k_105 dX9_runs_21 rfl ?_
    refine sw_iconst (np := 25) dX9_runs_24 sw_ic_1 rfl ?_
    refine sw_iadd (np := 26) dX9_runs_25 rfl ?_
    refine sw_pI (np := 29) sw_f_RX9_323 sw_fp_9_35 sw_k_105 dX9_runs_26 rfl (fun S1 => ?_)
    exact sw_vret dX9_runs_29
  · refine sw_ald_2_0 (np := 10) dX9_runs_9 rfl ?_
    refine sw_gR (np := 13) sw_f_RX9_61 sw_k_105 sw_r_105_34 dX9_runs_10 rfl ?_
    refine sw_ald_2_0 (np := 14) dX9_runs_13 rfl ?_
    refine sw_gI (np := 17) sw_f_RX9_323 sw_k_105 dX9_runs_14 rfl ?_
    refine sw_ild_2_1 (np := 18) dX9_runs_17 rfl ?_
    refine sw_sI (np := 19) sw_k_123 sw_n_123 dX9_runs_18 rfl (fun S2 => ?_)
    refine sw_ald_2_0 (np := 20) dX9_runs_19 rfl ?_
    refine sw_dup (np := 21) dX9_runs_20 rfl rfl ?_
    refine sw_gI (np := 24) sw_f_RX9_323 sw_k_105 dX9_runs_21 rfl ?_
    refine sw_iconst (np := 25) dX9_runs_24 sw_ic_1 rfl ?_
    refine sw_iadd (np := 26) dX9_runs_25 rfl ?_
    refine sw_pI (np := 29) sw_f_RX9_323 sw_fp_9_35 sw_k_105 dX9_runs_26 rfl (fun S3 => ?_)
    exact sw_vret dX9_runs_29
/-- SwordAtticModel.wakesAs, over what calls it again -/
def gX9_wakesAs (N : Nat) (RR : Nat → Int32 → Int32 → Int32 → Int32 → sw_St → Option (Int32 × sw_St)) (p1 : Int32) (p2 : Int32) (S : sw_St) : Option (Int32 × sw_St) :=
  if p1 = (1 : Int32) then (sw_bd (fX9_runs N (20 : Int32) S) (fun _ S1 => (sw_bd (RR 0 (0 : Int32) p2 0 0 S1) (fun r2 S2 => (some ((r2 + (3 : Int32)), S2)))))) else (if p1 = (4 : Int32) then (sw_bd (fX9_runs N (20 : Int32) S) (fun _ S3 => (sw_bd (RR 0 (0 : Int32) p2 0 0 S3) (fun r4 S4 => (some ((r4 + (3 : Int32)), S4)))))) else (if p1 = (7 : Int32) then (sw_bd (fX9_runs N (20 : Int32) S) (fun _ S8 => (sw_bd (RR 0 (0 : Int32) p2 0 0 S8) (fun r9 S9 => (some ((r9 + (3 : Int32)), S9)))))) else (if p1 = (6 : Int32) then (sw_bd (fX9_runs N (70 : Int32) S) (fun _ S6 => (sw_bd (RR 0 (0 : Int32) p2 0 0 S6) (fun r7 S7 => (some ((r7 * (2 : Int32)), S7)))))) else (sw_bd (fX9_runs N (1 : Int32) S) (fun _ S5 => (some ((p2 + (S5.1 105 37)), S5)))))))
def kG_9 (G : sw_G) (d : Nat) (RR : Nat → Int32 → Int32 → Int32 → Int32 → sw_St → Option (Int32 × sw_St)) : Prop :=
  (∀ (a b c e : Int32) (S : sw_St), sw_Ev G yX9_wakesAs cX9_wakesAs 3 (some .int) d sw_ei [sw_vr G 105, .int a, .int b] S (RR 0 a b c e S))
def fG_9 (N : Nat) : Nat → Nat → Int32 → Int32 → Int32 → Int32 → sw_St → Option (Int32 × sw_St)
  | 0 => fun _ _ _ _ _ _ => none
  | n + 1 => fun t a b c e S => match t with
    | _ => gX9_wakesAs N (fG_9 N n) a b S
theorem ogX9_wakesAs {G : sw_G} {N d : Nat} (hd : 2 ≤ d) {RR : Nat → Int32 → Int32 → Int32 → Int32 → sw_St → Option (Int32 × sw_St)} (hR : kG_9 G (d - 1) RR) {p1 : Int32} {p2 : Int32} {S : sw_St} : sw_Ev G yX9_wakesAs cX9_wakesAs 3 (some .int) d sw_ei [sw_vr G 105, .int p1, .int p2] S (gX9_wakesAs N RR p1 p2 S) := by
  refine sw_Ev_of (own := RX9) (lv0 := [some (sw_vr G 105), some (.int p1), some (.int p2)]) (by decide) rfl (Nat.le_of_ble_eq_true rfl) rfl ?_
  unfold gX9_wakesAs
  refine sw_ild_3_1 (np := 1) dX9_wakesAs_0 rfl ?_
  refine sw_iconst (np := 2) dX9_wakesAs_1 sw_ic_1 rfl ?_
  refine sw_icmp_eq (np := 5) (tp := 16) dX9_wakesAs_2 rfl rfl ?_ ?_
  · refine sw_ald_3_0 (np := 17) dX9_wakesAs_16 rfl ?_
    refine sw_bipush (np := 19) dX9_wakesAs_17 sw_bc_20 rfl ?_
    refine sw_cV1v (np := 22) (hX9_runs (d := d - 1) (by omega) ) sw_mv_X9_runs sw_k_105 sw_wl_RX9_326 dX9_wakesAs_19 (sw_fit_rm (by omega) (by decide)) (Nat.le_of_ble_eq_true rfl) rfl (fun _ S1 => ?_)
    refine sw_ald_3_0 (np := 23) dX9_wakesAs_22 rfl ?_
    refine sw_iconst (np := 24) dX9_wakesAs_23 sw_ic_0 rfl ?_
    refine sw_ild_3_2 (np := 25) dX9_wakesAs_24 rfl ?_
    refine sw_cV2i (np := 28) (hR _ _ _ _ _) sw_mv_X9_wakesAs sw_k_105 sw_wl_RX9_329 dX9_wakesAs_25 (sw_fit_rm (by omega) (by decide)) (Nat.le_of_ble_eq_true rfl) rfl (fun r2 S2 => ?_)
    refine sw_iconst (np := 29) dX9_wakesAs_28 sw_ic_3 rfl ?_
    refine sw_iadd (np := 30) dX9_wakesAs_29 rfl ?_
    exact sw_iret dX9_wakesAs_30
  · refine sw_ild_3_1 (np := 6) dX9_wakesAs_5 rfl ?_
    refine sw_iconst (np := 7) dX9_wakesAs_6 sw_ic_4 rfl ?_
    refine sw_icmp_eq (np := 10) (tp := 16) dX9_wakesAs_7 rfl rfl ?_ ?_
    · refine sw_ald_3_0 (np := 17) dX9_wakesAs_16 rfl ?_
      refine sw_bipush (np := 19) dX9_wakesAs_17 sw_bc_20 rfl ?_
      refine sw_cV1v (np := 22) (hX9_runs (d := d - 1) (by omega) ) sw_mv_X9_runs sw_k_105 sw_wl_RX9_326 dX9_wakesAs_19 (sw_fit_rm (by omega) (by decide)) (Nat.le_of_ble_eq_true rfl) rfl (fun _ S3 => ?_)
      refine sw_ald_3_0 (np := 23) dX9_wakesAs_22 rfl ?_
      refine sw_iconst (np := 24) dX9_wakesAs_23 sw_ic_0 rfl ?_
      refine sw_ild_3_2 (np := 25) dX9_wakesAs_24 rfl ?_
      refine sw_cV2i (np := 28) (hR _ _ _ _ _) sw_mv_X9_wakesAs sw_k_105 sw_wl_RX9_329 dX9_wakesAs_25 (sw_fit_rm (by omega) (by decide)) (Nat.le_of_ble_eq_true rfl) rfl (fun r4 S4 => ?_)
      refine sw_iconst (np := 29) dX9_wakesAs_28 sw_ic_3 rfl ?_
      refine sw_iadd (np := 30) dX9_wakesAs_29 rfl ?_
      exact sw_iret dX9_wakesAs_30
    · refine sw_ild_3_1 (np := 11) dX9_wakesAs_10 rfl ?_
      refine sw_bipush (np := 13) dX9_wakesAs_11 sw_bc_7 rfl ?_
      refine sw_icmp_ne (np := 16) (tp := 31) dX9_wakesAs_13 rfl rfl ?_ ?_
      · refine sw_ild_3_1 (np := 32) dX9_wakesAs_31 rfl ?_
        refine sw_bipush (np := 34) dX9_wakesAs_32 sw_bc_6 rfl ?_
        refine sw_icmp_ne (np := 37) (tp := 52) dX9_wakesAs_34 rfl rfl ?_ ?_
        · refine sw_ald_3_0 (np := 53) dX9_wakesAs_52 rfl ?_
          refine sw_iconst (np := 54) dX9_wakesAs_53 sw_ic_1 rfl ?_
          refine sw_cV1v (np := 57) (hX9_runs (d := d - 1) (by omega) ) sw_mv_X9_runs sw_k_105 sw_wl_RX9_326 dX9_wakesAs_54 (sw_fit_rm (by omega) (by decide)) (Nat.le_of_ble_eq_true rfl) rfl (fun _ S5 => ?_)
          refine sw_ild_3_2 (np := 58) dX9_wakesAs_57 rfl ?_
          refine sw_ald_3_0 (np := 59) dX9_wakesAs_58 rfl ?_
          refine sw_gI (np := 62) sw_f_RX9_332 sw_k_105 dX9_wakesAs_59 rfl ?_
          refine sw_iadd (np := 63) dX9_wakesAs_62 rfl ?_
          exact sw_iret dX9_wakesAs_63
        · refine sw_ald_3_0 (np := 38) dX9_wakesAs_37 rfl ?_
          refine sw_bipush (np := 40) dX9_wakesAs_38 sw_bc_70 rfl ?_
          refine sw_cV1v (np := 43) (hX9_runs (d := d - 1) (by omega) ) sw_mv_X9_runs sw_k_105 sw_wl_RX9_326 dX9_wakesAs_40 (sw_fit_rm (by omega) (by decide)) (Nat.le_of_ble_eq_true rfl) rfl (fun _ S6 => ?_)
          refine sw_ald_3_0 (np := 44) dX9_wakesAs_43 rfl ?_
          refine sw_iconst (np := 45) dX9_wakesAs_44 sw_ic_0 rfl ?_
          refine sw_ild_3_2 (np := 46) dX9_wakesAs_45 rfl ?_
          refine sw_cV2i (np := 49) (hR _ _ _ _ _) sw_mv_X9_wakesAs sw_k_105 sw_wl_RX9_329 dX9_wakesAs_46 (sw_fit_rm (by omega) (by decide)) (Nat.le_of_ble_eq_true rfl) rfl (fun r7 S7 => ?_)
          refine sw_iconst (np := 50) dX9_wakesAs_49 sw_ic_2 rfl ?_
          refine sw_imul (np := 51) dX9_wakesAs_50 rfl ?_
          exact sw_iret dX9_wakesAs_51
      · refine sw_ald_3_0 (np := 17) dX9_wakesAs_16 rfl ?_
        refine sw_bipush (np := 19) dX9_wakesAs_17 sw_bc_20 rfl ?_
        refine sw_cV1v (np := 22) (hX9_runs (d := d - 1) (by omega) ) sw_mv_X9_runs sw_k_105 sw_wl_RX9_326 dX9_wakesAs_19 (sw_fit_rm (by omega) (by decide)) (Nat.le_of_ble_eq_true rfl) rfl (fun _ S8 => ?_)
        refine sw_ald_3_0 (np := 23) dX9_wakesAs_22 rfl ?_
        refine sw_iconst (np := 24) dX9_wakesAs_23 sw_ic_0 rfl ?_
        refine sw_ild_3_2 (np := 25) dX9_wakesAs_24 rfl ?_
        refine sw_cV2i (np := 28) (hR _ _ _ _ _) sw_mv_X9_wakesAs sw_k_105 sw_wl_RX9_329 dX9_wakesAs_25 (sw_fit_rm (by omega) (by decide)) (Nat.le_of_ble_eq_true rfl) rfl (fun r9 S9 => ?_)
        refine sw_iconst (np := 29) dX9_wakesAs_28 sw_ic_3 rfl ?_
        refine sw_iadd (np := 30) dX9_wakesAs_29 rfl ?_
        exact sw_iret dX9_wakesAs_30
theorem hG_9 {G : sw_G} {N : Nat} : ∀ n d, 2 + n ≤ d → kG_9 G d (fG_9 N n) := by
  intro n
  induction n with
  | zero => intro d _; exact (fun _ _ _ _ _ _ h => by cases h)
  | succ n ih => intro d hd; exact (fun _ _ _ _ _ => ogX9_wakesAs (N := N) (by omega) (ih (d - 1) (by omega)))
def fX9_wakesAs (N : Nat) (p1 : Int32) (p2 : Int32) (S : sw_St) : Option (Int32 × sw_St) := fG_9 N 100 0 p1 p2 0 0 S
theorem hX9_wakesAs {G : sw_G} {N d : Nat} (hd : 102 ≤ d) {p1 : Int32} {p2 : Int32} {S : sw_St} : sw_Ev G yX9_wakesAs cX9_wakesAs 3 (some .int) d sw_ei [sw_vr G 105, .int p1, .int p2] S (fX9_wakesAs N p1 p2 S) := (hG_9 (G := G) (N := N) 100 d hd) _ _ _ _ _
/-- SwordAtticModel.criesAs, over what calls it again -/
def gX9_criesAs (N : Nat) (RR : Nat → Int32 → Int32 → Int32 → Int32 → sw_St → Option (Int32 × sw_St)) (p1 : Int32) (p2 : Int32) (S : sw_St) : Option (Int32 × sw_St) :=
  if p1 = (3 : Int32) then (sw_bd (fX9_runs N (40 : Int32) S) (fun _ S1 => (sw_bd (RR 0 (2 : Int32) p2 0 0 S1) (fun r2 S2 => (some ((r2 * (3 : Int32)), S2)))))) else (if p1 = (5 : Int32) then (sw_bd (fX9_runs N (40 : Int32) S) (fun _ S8 => (sw_bd (RR 0 (2 : Int32) p2 0 0 S8) (fun r8 S9 => (some ((r8 * (3 : Int32)), S9)))))) else (sw_jn0 (fun S3 => (sw_bd (fX9_runs N (50 : Int32) S3) (fun _ S4 => (sw_bd (RR 0 (1 : Int32) p2 0 0 S4) (fun r4 S5 => (sw_bd (fX9_wakesAs N (S5.1 105 36) (2 : Int32) S5) (fun r5 S6 => (some ((r4 - r5), S6))))))))) (fun k1 => (if p1 = (4 : Int32) then (k1 S) else (if p1 = (7 : Int32) then (k1 S) else (sw_bd (fX9_runs N (11 : Int32) S) (fun _ S7 => (some ((p2 ^^^ (S7.1 105 37)), S7)))))))))
def kG_10 (G : sw_G) (d : Nat) (RR : Nat → Int32 → Int32 → Int32 → Int32 → sw_St → Option (Int32 × sw_St)) : Prop :=
  (∀ (a b c e : Int32) (S : sw_St), sw_Ev G yX9_criesAs cX9_criesAs 4 (some .int) d sw_ei [sw_vr G 105, .int a, .int b] S (RR 0 a b c e S))
def fG_10 (N : Nat) : Nat → Nat → Int32 → Int32 → Int32 → Int32 → sw_St → Option (Int32 × sw_St)
  | 0 => fun _ _ _ _ _ _ => none
  | n + 1 => fun t a b c e S => match t with
    | _ => gX9_criesAs N (fG_10 N n) a b S
theorem ogX9_criesAs {G : sw_G} {N d : Nat} (hd : 103 ≤ d) {RR : Nat → Int32 → Int32 → Int32 → Int32 → sw_St → Option (Int32 × sw_St)} (hR : kG_10 G (d - 1) RR) {p1 : Int32} {p2 : Int32} {S : sw_St} : sw_Ev G yX9_criesAs cX9_criesAs 4 (some .int) d sw_ei [sw_vr G 105, .int p1, .int p2] S (gX9_criesAs N RR p1 p2 S) := by
  refine sw_Ev_of (own := RX9) (lv0 := [some (sw_vr G 105), some (.int p1), some (.int p2), none]) (by decide) rfl (Nat.le_of_ble_eq_true rfl) rfl ?_
  unfold gX9_criesAs
  refine sw_ild_4_1 (np := 1) dX9_criesAs_0 rfl ?_
  refine sw_iconst (np := 2) dX9_criesAs_1 sw_ic_3 rfl ?_
  refine sw_icmp_eq (np := 5) (tp := 10) dX9_criesAs_2 rfl rfl ?_ ?_
  · refine sw_ald_4_0 (np := 11) dX9_criesAs_10 rfl ?_
    refine sw_bipush (np := 13) dX9_criesAs_11 sw_bc_40 rfl ?_
    refine sw_cV1v (np := 16) (hX9_runs (d := d - 1) (by omega) ) sw_mv_X9_runs sw_k_105 sw_wl_RX9_326 dX9_criesAs_13 (sw_fit_rm (by omega) (by decide)) (Nat.le_of_ble_eq_true rfl) rfl (fun _ S1 => ?_)
    refine sw_ald_4_0 (np := 17) dX9_criesAs_16 rfl ?_
    refine sw_iconst (np := 18) dX9_criesAs_17 sw_ic_2 rfl ?_
    refine sw_ild_4_2 (np := 19) dX9_criesAs_18 rfl ?_
    refine sw_cV2i (np := 22) (hR _ _ _ _ _) sw_mv_X9_criesAs sw_k_105 sw_wl_RX9_341 dX9_criesAs_19 (sw_fit_rm (by omega) (by decide)) (Nat.le_of_ble_eq_true rfl) rfl (fun r2 S2 => ?_)
    refine sw_iconst (np := 23) dX9_criesAs_22 sw_ic_3 rfl ?_
    refine sw_imul (np := 24) dX9_criesAs_23 rfl ?_
    exact sw_iret dX9_criesAs_24
  · refine sw_ild_4_1 (np := 6) dX9_criesAs_5 rfl ?_
    refine sw_iconst (np := 7) dX9_criesAs_6 sw_ic_5 rfl ?_
    refine sw_icmp_ne (np := 10) (tp := 25) dX9_criesAs_7 rfl rfl ?_ ?_
    · refine sw_ild_4_1 (np := 26) dX9_criesAs_25 rfl ?_
      refine sw_iconst (np := 27) dX9_criesAs_26 sw_ic_4 rfl ?_
      refine sw_jm0 (pj := 36) ([some (sw_vr G 105), none, some (.int p2), none]) ([]) (fun S3 => ?_) (fun k1 hk1 => ?_)
      · refine sw_ald_4_0 (np := 37) dX9_criesAs_36 rfl ?_
        refine sw_bipush (np := 39) dX9_criesAs_37 sw_bc_50 rfl ?_
        refine sw_cV1v (np := 42) (hX9_runs (d := d - 1) (by omega) ) sw_mv_X9_runs sw_k_105 sw_wl_RX9_326 dX9_criesAs_39 (sw_fit_rm (by omega) (by decide)) (Nat.le_of_ble_eq_true rfl) rfl (fun _ S4 => ?_)
        refine sw_ald_4_0 (np := 43) dX9_criesAs_42 rfl ?_
        refine sw_iconst (np := 44) dX9_criesAs_43 sw_ic_1 rfl ?_
        refine sw_ild_4_2 (np := 45) dX9_criesAs_44 rfl ?_
        refine sw_cV2i (np := 48) (hR _ _ _ _ _) sw_mv_X9_criesAs sw_k_105 sw_wl_RX9_341 dX9_criesAs_45 (sw_fit_rm (by omega) (by decide)) (Nat.le_of_ble_eq_true rfl) rfl (fun r4 S5 => ?_)
        refine sw_ist_4_3 (np := 49) dX9_criesAs_48 rfl rfl ?_
        refine sw_ild_4_3 (np := 50) dX9_criesAs_49 rfl ?_
        refine sw_ald_4_0 (np := 51) dX9_criesAs_50 rfl ?_
        refine sw_ald_4_0 (np := 52) dX9_criesAs_51 rfl ?_
        refine sw_gI (np := 55) sw_f_RX9_338 sw_k_105 dX9_criesAs_52 rfl ?_
        refine sw_iconst (np := 56) dX9_criesAs_55 sw_ic_2 rfl ?_
        refine sw_cV2i (np := 59) (hX9_wakesAs (d := d - 1) (by omega) ) sw_mv_X9_wakesAs sw_k_105 sw_wl_RX9_329 dX9_criesAs_56 (sw_fit_rm (by omega) (by decide)) (Nat.le_of_ble_eq_true rfl) rfl (fun r5 S6 => ?_)
        refine sw_isub (np := 60) dX9_criesAs_59 rfl ?_
        exact sw_iret dX9_criesAs_60
      · refine sw_icmp_eq (np := 30) (tp := 36) dX9_criesAs_27 rfl rfl ?_ ?_
        · refine sw_dr_4_1 ?_
          exact hk1 _
        · refine sw_ild_4_1 (np := 31) dX9_criesAs_30 rfl ?_
          refine sw_bipush (np := 33) dX9_criesAs_31 sw_bc_7 rfl ?_
          refine sw_icmp_ne (np := 36) (tp := 61) dX9_criesAs_33 rfl rfl ?_ ?_
          · refine sw_ald_4_0 (np := 62) dX9_criesAs_61 rfl ?_
            refine sw_bipush (np := 64) dX9_criesAs_62 sw_bc_11 rfl ?_
            refine sw_cV1v (np := 67) (hX9_runs (d := d - 1) (by omega) ) sw_mv_X9_runs sw_k_105 sw_wl_RX9_326 dX9_criesAs_64 (sw_fit_rm (by omega) (by decide)) (Nat.le_of_ble_eq_true rfl) rfl (fun _ S7 => ?_)
            refine sw_ild_4_2 (np := 68) dX9_criesAs_67 rfl ?_
            refine sw_ald_4_0 (np := 69) dX9_criesAs_68 rfl ?_
            refine sw_gI (np := 72) sw_f_RX9_332 sw_k_105 dX9_criesAs_69 rfl ?_
            refine sw_ixor (np := 73) dX9_criesAs_72 rfl ?_
            exact sw_iret dX9_criesAs_73
          · refine sw_dr_4_1 ?_
            exact hk1 _
    · refine sw_ald_4_0 (np := 11) dX9_criesAs_10 rfl ?_
      refine sw_bipush (np := 13) dX9_criesAs_11 sw_bc_40 rfl ?_
      refine sw_cV1v (np := 16) (hX9_runs (d := d - 1) (by omega) ) sw_mv_X9_runs sw_k_105 sw_wl_RX9_326 dX9_criesAs_13 (sw_fit_rm (by omega) (by decide)) (Nat.le_of_ble_eq_true rfl) rfl (fun _ S8 => ?_)
      refine sw_ald_4_0 (np := 17) dX9_criesAs_16 rfl ?_
      refine sw_iconst (np := 18) dX9_criesAs_17 sw_ic_2 rfl ?_
      refine sw_ild_4_2 (np := 19) dX9_criesAs_18 rfl ?_
      refine sw_cV2i (np := 22) (hR _ _ _ _ _) sw_mv_X9_criesAs sw_k_105 sw_wl_RX9_341 dX9_criesAs_19 (sw_fit_rm (by omega) (by decide)) (Nat.le_of_ble_eq_true rfl) rfl (fun r8 S9 => ?_)
      refine sw_iconst (np := 23) dX9_criesAs_22 sw_ic_3 rfl ?_
      refine sw_imul (np := 24) dX9_criesAs_23 rfl ?_
      exact sw_iret dX9_criesAs_24
theorem hG_10 {G : sw_G} {N : Nat} : ∀ n d, 103 + n ≤ d → kG_10 G d (fG_10 N n) := by
  intro n
  induction n with
  | zero => intro d _; exact (fun _ _ _ _ _ _ h => by cases h)
  | succ n ih => intro d hd; exact (fun _ _ _ _ _ => ogX9_criesAs (N := N) (by omega) (ih (d - 1) (by omega)))
def fX9_criesAs (N : Nat) (p1 : Int32) (p2 : Int32) (S : sw_St) : Option (Int32 × sw_St) := fG_10 N 100 0 p1 p2 0 0 S
theorem hX9_criesAs {G : sw_G} {N d : Nat} (hd : 203 ≤ d) {p1 : Int32} {p2 : Int32} {S : sw_St} : sw_Ev G yX9_criesAs cX9_criesAs 4 (some .int) d sw_ei [sw_vr G 105, .int p1, .int p2] S (fX9_criesAs N p1 p2 S) := (hG_10 (G := G) (N := N) 100 d hd) _ _ _ _ _
/-- SwordAtticModel.hushesAs, over what calls it again -/
def gX9_hushesAs (N : Nat) (RR : Nat → Int32 → Int32 → Int32 → Int32 → sw_St → Option (Int32 × sw_St)) (p1 : Int32) (p2 : Int32) (S : sw_St) : Option (Int32 × sw_St) :=
  if p1 = (3 : Int32) then (sw_bd (fX9_runs N (41 : Int32) S) (fun _ S1 => (sw_bd (RR 0 (2 : Int32) (p2 + (1 : Int32)) 0 0 S1) (fun r2 S2 => (some (r2, S2)))))) else (if p1 = (5 : Int32) then (sw_bd (fX9_runs N (41 : Int32) S) (fun _ S10 => (sw_bd (RR 0 (2 : Int32) (p2 + (1 : Int32)) 0 0 S10) (fun r11 S11 => (some (r11, S11)))))) else (if p1 = (2 : Int32) then (sw_bd (fX9_runs N (30 : Int32) S) (fun _ S8 => (sw_bd (RR 0 (0 : Int32) p2 0 0 S8) (fun r9 S9 => (some ((-r9), S9)))))) else (if p1 = (7 : Int32) then (sw_bd (fX9_runs N (80 : Int32) S) (fun _ S5 => (sw_bd (RR 0 (4 : Int32) p2 0 0 S5) (fun r6 S6 => (sw_bd (fX9_criesAs N (S6.1 105 36) (2 : Int32) S6) (fun r7 S7 => (some ((r6 + r7), S7)))))))) else (sw_bd (fX9_runs N (10 : Int32) S) (fun _ S3 => (sw_bd (fX9_wakesAs N (S3.1 105 36) p2 S3) (fun r4 S4 => (some ((r4 * (2 : Int32)), S4)))))))))
def kG_11 (G : sw_G) (d : Nat) (RR : Nat → Int32 → Int32 → Int32 → Int32 → sw_St → Option (Int32 × sw_St)) : Prop :=
  (∀ (a b c e : Int32) (S : sw_St), sw_Ev G yX9_hushesAs cX9_hushesAs 4 (some .int) d sw_ei [sw_vr G 105, .int a, .int b] S (RR 0 a b c e S))
def fG_11 (N : Nat) : Nat → Nat → Int32 → Int32 → Int32 → Int32 → sw_St → Option (Int32 × sw_St)
  | 0 => fun _ _ _ _ _ _ => none
  | n + 1 => fun t a b c e S => match t with
    | _ => gX9_hushesAs N (fG_11 N n) a b S
theorem ogX9_hushesAs {G : sw_G} {N d : Nat} (hd : 204 ≤ d) {RR : Nat → Int32 → Int32 → Int32 → Int32 → sw_St → Option (Int32 × sw_St)} (hR : kG_11 G (d - 1) RR) {p1 : Int32} {p2 : Int32} {S : sw_St} : sw_Ev G yX9_hushesAs cX9_hushesAs 4 (some .int) d sw_ei [sw_vr G 105, .int p1, .int p2] S (gX9_hushesAs N RR p1 p2 S) := by
  refine sw_Ev_of (own := RX9) (lv0 := [some (sw_vr G 105), some (.int p1), some (.int p2), none]) (by decide) rfl (Nat.le_of_ble_eq_true rfl) rfl ?_
  unfold gX9_hushesAs
  refine sw_ild_4_1 (np := 1) dX9_hushesAs_0 rfl ?_
  refine sw_iconst (np := 2) dX9_hushesAs_1 sw_ic_3 rfl ?_
  refine sw_icmp_eq (np := 5) (tp := 10) dX9_hushesAs_2 rfl rfl ?_ ?_
  · refine sw_ald_4_0 (np := 11) dX9_hushesAs_10 rfl ?_
    refine sw_bipush (np := 13) dX9_hushesAs_11 sw_bc_41 rfl ?_
    refine sw_cV1v (np := 16) (hX9_runs (d := d - 1) (by omega) ) sw_mv_X9_runs sw_k_105 sw_wl_RX9_326 dX9_hushesAs_13 (sw_fit_rm (by omega) (by decide)) (Nat.le_of_ble_eq_true rfl) rfl (fun _ S1 => ?_)
    refine sw_ald_4_0 (np := 17) dX9_hushesAs_16 rfl ?_
    refine sw_iconst (np := 18) dX9_hushesAs_17 sw_ic_2 rfl ?_
    refine sw_ild_4_2 (np := 19) dX9_hushesAs_18 rfl ?_
    refine sw_iconst (np := 20) dX9_hushesAs_19 sw_ic_1 rfl ?_
    refine sw_iadd (np := 21) dX9_hushesAs_20 rfl ?_
    refine sw_cV2i (np := 24) (hR _ _ _ _ _) sw_mv_X9_hushesAs sw_k_105 sw_wl_RX9_335 dX9_hushesAs_21 (sw_fit_rm (by omega) (by decide)) (Nat.le_of_ble_eq_true rfl) rfl (fun r2 S2 => ?_)
    exact sw_iret dX9_hushesAs_24
  · refine sw_ild_4_1 (np := 6) dX9_hushesAs_5 rfl ?_
    refine sw_iconst (np := 7) dX9_hushesAs_6 sw_ic_5 rfl ?_
    refine sw_icmp_ne (np := 10) (tp := 25) dX9_hushesAs_7 rfl rfl ?_ ?_
    · refine sw_ild_4_1 (np := 26) dX9_hushesAs_25 rfl ?_
      refine sw_iconst (np := 27) dX9_hushesAs_26 sw_ic_2 rfl ?_
      refine sw_icmp_ne (np := 30) (tp := 44) dX9_hushesAs_27 rfl rfl ?_ ?_
      · refine sw_ild_4_1 (np := 45) dX9_hushesAs_44 rfl ?_
        refine sw_bipush (np := 47) dX9_hushesAs_45 sw_bc_7 rfl ?_
        refine sw_icmp_ne (np := 50) (tp := 75) dX9_hushesAs_47 rfl rfl ?_ ?_
        · refine sw_ald_4_0 (np := 76) dX9_hushesAs_75 rfl ?_
          refine sw_bipush (np := 78) dX9_hushesAs_76 sw_bc_10 rfl ?_
          refine sw_cV1v (np := 81) (hX9_runs (d := d - 1) (by omega) ) sw_mv_X9_runs sw_k_105 sw_wl_RX9_326 dX9_hushesAs_78 (sw_fit_rm (by omega) (by decide)) (Nat.le_of_ble_eq_true rfl) rfl (fun _ S3 => ?_)
          refine sw_ald_4_0 (np := 82) dX9_hushesAs_81 rfl ?_
          refine sw_ald_4_0 (np := 83) dX9_hushesAs_82 rfl ?_
          refine sw_gI (np := 86) sw_f_RX9_338 sw_k_105 dX9_hushesAs_83 rfl ?_
          refine sw_ild_4_2 (np := 87) dX9_hushesAs_86 rfl ?_
          refine sw_cV2i (np := 90) (hX9_wakesAs (d := d - 1) (by omega) ) sw_mv_X9_wakesAs sw_k_105 sw_wl_RX9_329 dX9_hushesAs_87 (sw_fit_rm (by omega) (by decide)) (Nat.le_of_ble_eq_true rfl) rfl (fun r4 S4 => ?_)
          refine sw_iconst (np := 91) dX9_hushesAs_90 sw_ic_2 rfl ?_
          refine sw_imul (np := 92) dX9_hushesAs_91 rfl ?_
          exact sw_iret dX9_hushesAs_92
        · refine sw_ald_4_0 (np := 51) dX9_hushesAs_50 rfl ?_
          refine sw_bipush (np := 53) dX9_hushesAs_51 sw_bc_80 rfl ?_
          refine sw_cV1v (np := 56) (hX9_runs (d := d - 1) (by omega) ) sw_mv_X9_runs sw_k_105 sw_wl_RX9_326 dX9_hushesAs_53 (sw_fit_rm (by omega) (by decide)) (Nat.le_of_ble_eq_true rfl) rfl (fun _ S5 => ?_)
          refine sw_ald_4_0 (np := 57) dX9_hushesAs_56 rfl ?_
          refine sw_iconst (np := 58) dX9_hushesAs_57 sw_ic_4 rfl ?_
          refine sw_ild_4_2 (np := 59) dX9_hushesAs_58 rfl ?_
          refine sw_cV2i (np := 62) (hR _ _ _ _ _) sw_mv_X9_hushesAs sw_k_105 sw_wl_RX9_335 dX9_hushesAs_59 (sw_fit_rm (by omega) (by decide)) (Nat.le_of_ble_eq_true rfl) rfl (fun r6 S6 => ?_)
          refine sw_ist_4_3 (np := 63) dX9_hushesAs_62 rfl rfl ?_
          refine sw_ild_4_3 (np := 64) dX9_hushesAs_63 rfl ?_
          refine sw_ald_4_0 (np := 65) dX9_hushesAs_64 rfl ?_
          refine sw_ald_4_0 (np := 66) dX9_hushesAs_65 rfl ?_
          refine sw_gI (np := 69) sw_f_RX9_338 sw_k_105 dX9_hushesAs_66 rfl ?_
          refine sw_iconst (np := 70) dX9_hushesAs_69 sw_ic_2 rfl ?_
          refine sw_cV2i (np := 73) (hX9_criesAs (d := d - 1) (by omega) ) sw_mv_X9_criesAs sw_k_105 sw_wl_RX9_341 dX9_hushesAs_70 (sw_fit_rm (by omega) (by decide)) (Nat.le_of_ble_eq_true rfl) rfl (fun r7 S7 => ?_)
          refine sw_iadd (np := 74) dX9_hushesAs_73 rfl ?_
          exact sw_iret dX9_hushesAs_74
      · refine sw_ald_4_0 (np := 31) dX9_hushesAs_30 rfl ?_
        refine sw_bipush (np := 33) dX9_hushesAs_31 sw_bc_30 rfl ?_
        refine sw_cV1v (np := 36) (hX9_runs (d := d - 1) (by omega) ) sw_mv_X9_runs sw_k_105 sw_wl_RX9_326 dX9_hushesAs_33 (sw_fit_rm (by omega) (by decide)) (Nat.le_of_ble_eq_true rfl) rfl (fun _ S8 => ?_)
        refine sw_ald_4_0 (np := 37) dX9_hushesAs_36 rfl ?_
        refine sw_iconst (np := 38) dX9_hushesAs_37 sw_ic_0 rfl ?_
        refine sw_ild_4_2 (np := 39) dX9_hushesAs_38 rfl ?_
        refine sw_cV2i (np := 42) (hR _ _ _ _ _) sw_mv_X9_hushesAs sw_k_105 sw_wl_RX9_335 dX9_hushesAs_39 (sw_fit_rm (by omega) (by decide)) (Nat.le_of_ble_eq_true rfl) rfl (fun r9 S9 => ?_)
        refine sw_ineg (np := 43) dX9_hushesAs_42 rfl ?_
        exact sw_iret dX9_hushesAs_43
    · refine sw_ald_4_0 (np := 11) dX9_hushesAs_10 rfl ?_
      refine sw_bipush (np := 13) dX9_hushesAs_11 sw_bc_41 rfl ?_
      refine sw_cV1v (np := 16) (hX9_runs (d := d - 1) (by omega) ) sw_mv_X9_runs sw_k_105 sw_wl_RX9_326 dX9_hushesAs_13 (sw_fit_rm (by omega) (by decide)) (Nat.le_of_ble_eq_true rfl) rfl (fun _ S10 => ?_)
      refine sw_ald_4_0 (np := 17) dX9_hushesAs_16 rfl ?_
      refine sw_iconst (np := 18) dX9_hushesAs_17 sw_ic_2 rfl ?_
      refine sw_ild_4_2 (np := 19) dX9_hushesAs_18 rfl ?_
      refine sw_iconst (np := 20) dX9_hushesAs_19 sw_ic_1 rfl ?_
      refine sw_iadd (np := 21) dX9_hushesAs_20 rfl ?_
      refine sw_cV2i (np := 24) (hR _ _ _ _ _) sw_mv_X9_hushesAs sw_k_105 sw_wl_RX9_335 dX9_hushesAs_21 (sw_fit_rm (by omega) (by decide)) (Nat.le_of_ble_eq_true rfl) rfl (fun r11 S11 => ?_)
      exact sw_iret dX9_hushesAs_24
theorem hG_11 {G : sw_G} {N : Nat} : ∀ n d, 204 + n ≤ d → kG_11 G d (fG_11 N n) := by
  intro n
  induction n with
  | zero => intro d _; exact (fun _ _ _ _ _ _ h => by cases h)
  | succ n ih => intro d hd; exact (fun _ _ _ _ _ => ogX9_hushesAs (N := N) (by omega) (ih (d - 1) (by omega)))
def fX9_hushesAs (N : Nat) (p1 : Int32) (p2 : Int32) (S : sw_St) : Option (Int32 × sw_St) := fG_11 N 100 0 p1 p2 0 0 S
theorem hX9_hushesAs {G : sw_G} {N d : Nat} (hd : 304 ≤ d) {p1 : Int32} {p2 : Int32} {S : sw_St} : sw_Ev G yX9_hushesAs cX9_hushesAs 4 (some .int) d sw_ei [sw_vr G 105, .int p1, .int p2] S (fX9_hushesAs N p1 p2 S) := (hG_11 (G := G) (N := N) 100 d hd) _ _ _ _ _
/-- SwordAtticModel.tellsAs, over what calls it again -/
def gX9_tellsAs (N : Nat) (RR : Nat → Int32 → Int32 → Int32 → Int32 → sw_St → Option (Int32 × sw_St)) (p1 : Int32) (p2 : Int32) (S : sw_St) : Option (Int32 × sw_St) :=
  if p1 = (5 : Int32) then (sw_bd (fX9_runs N (60 : Int32) S) (fun _ S6 => (sw_bd (RR 0 (3 : Int32) p2 0 0 S6) (fun r7 S7 => (some ((r7 ^^^ (5 : Int32)), S7)))))) else (if p1 = (7 : Int32) then (sw_bd (fX9_runs N (81 : Int32) S) (fun _ S4 => (sw_bd (RR 0 (4 : Int32) p2 0 0 S4) (fun r5 S5 => (some ((r5 - (1 : Int32)), S5)))))) else (sw_bd (fX9_runs N (2 : Int32) S) (fun _ S1 => (sw_bd (fX9_hushesAs N (S1.1 105 36) p2 S1) (fun r2 S2 => (sw_bd (fX9_criesAs N (S2.1 105 36) (1 : Int32) S2) (fun r3 S3 => (some ((r2 - r3), S3)))))))))
def kG_12 (G : sw_G) (d : Nat) (RR : Nat → Int32 → Int32 → Int32 → Int32 → sw_St → Option (Int32 × sw_St)) : Prop :=
  (∀ (a b c e : Int32) (S : sw_St), sw_Ev G yX9_tellsAs cX9_tellsAs 4 (some .int) d sw_ei [sw_vr G 105, .int a, .int b] S (RR 0 a b c e S))
def fG_12 (N : Nat) : Nat → Nat → Int32 → Int32 → Int32 → Int32 → sw_St → Option (Int32 × sw_St)
  | 0 => fun _ _ _ _ _ _ => none
  | n + 1 => fun t a b c e S => match t with
    | _ => gX9_tellsAs N (fG_12 N n) a b S
theorem ogX9_tellsAs {G : sw_G} {N d : Nat} (hd : 305 ≤ d) {RR : Nat → Int32 → Int32 → Int32 → Int32 → sw_St → Option (Int32 × sw_St)} (hR : kG_12 G (d - 1) RR) {p1 : Int32} {p2 : Int32} {S : sw_St} : sw_Ev G yX9_tellsAs cX9_tellsAs 4 (some .int) d sw_ei [sw_vr G 105, .int p1, .int p2] S (gX9_tellsAs N RR p1 p2 S) := by
  refine sw_Ev_of (own := RX9) (lv0 := [some (sw_vr G 105), some (.int p1), some (.int p2), none]) (by decide) rfl (Nat.le_of_ble_eq_true rfl) rfl ?_
  unfold gX9_tellsAs
  refine sw_ild_4_1 (np := 1) dX9_tellsAs_0 rfl ?_
  refine sw_iconst (np := 2) dX9_tellsAs_1 sw_ic_5 rfl ?_
  refine sw_icmp_ne (np := 5) (tp := 20) dX9_tellsAs_2 rfl rfl ?_ ?_
  · refine sw_ild_4_1 (np := 21) dX9_tellsAs_20 rfl ?_
    refine sw_bipush (np := 23) dX9_tellsAs_21 sw_bc_7 rfl ?_
    refine sw_icmp_ne (np := 26) (tp := 41) dX9_tellsAs_23 rfl rfl ?_ ?_
    · refine sw_ald_4_0 (np := 42) dX9_tellsAs_41 rfl ?_
      refine sw_iconst (np := 43) dX9_tellsAs_42 sw_ic_2 rfl ?_
      refine sw_cV1v (np := 46) (hX9_runs (d := d - 1) (by omega) ) sw_mv_X9_runs sw_k_105 sw_wl_RX9_326 dX9_tellsAs_43 (sw_fit_rm (by omega) (by decide)) (Nat.le_of_ble_eq_true rfl) rfl (fun _ S1 => ?_)
      refine sw_ald_4_0 (np := 47) dX9_tellsAs_46 rfl ?_
      refine sw_ald_4_0 (np := 48) dX9_tellsAs_47 rfl ?_
      refine sw_gI (np := 51) sw_f_RX9_338 sw_k_105 dX9_tellsAs_48 rfl ?_
      refine sw_ild_4_2 (np := 52) dX9_tellsAs_51 rfl ?_
      refine sw_cV2i (np := 55) (hX9_hushesAs (d := d - 1) (by omega) ) sw_mv_X9_hushesAs sw_k_105 sw_wl_RX9_335 dX9_tellsAs_52 (sw_fit_rm (by omega) (by decide)) (Nat.le_of_ble_eq_true rfl) rfl (fun r2 S2 => ?_)
      refine sw_ist_4_3 (np := 56) dX9_tellsAs_55 rfl rfl ?_
      refine sw_ild_4_3 (np := 57) dX9_tellsAs_56 rfl ?_
      refine sw_ald_4_0 (np := 58) dX9_tellsAs_57 rfl ?_
      refine sw_ald_4_0 (np := 59) dX9_tellsAs_58 rfl ?_
      refine sw_gI (np := 62) sw_f_RX9_338 sw_k_105 dX9_tellsAs_59 rfl ?_
      refine sw_iconst (np := 63) dX9_tellsAs_62 sw_ic_1 rfl ?_
      refine sw_cV2i (np := 66) (hX9_criesAs (d := d - 1) (by omega) ) sw_mv_X9_criesAs sw_k_105 sw_wl_RX9_341 dX9_tellsAs_63 (sw_fit_rm (by omega) (by decide)) (Nat.le_of_ble_eq_true rfl) rfl (fun r3 S3 => ?_)
      refine sw_isub (np := 67) dX9_tellsAs_66 rfl ?_
      exact sw_iret dX9_tellsAs_67
    · refine sw_ald_4_0 (np := 27) dX9_tellsAs_26 rfl ?_
      refine sw_bipush (np := 29) dX9_tellsAs_27 sw_bc_81 rfl ?_
      refine sw_cV1v (np := 32) (hX9_runs (d := d - 1) (by omega) ) sw_mv_X9_runs sw_k_105 sw_wl_RX9_326 dX9_tellsAs_29 (sw_fit_rm (by omega) (by decide)) (Nat.le_of_ble_eq_true rfl) rfl (fun _ S4 => ?_)
      refine sw_ald_4_0 (np := 33) dX9_tellsAs_32 rfl ?_
      refine sw_iconst (np := 34) dX9_tellsAs_33 sw_ic_4 rfl ?_
      refine sw_ild_4_2 (np := 35) dX9_tellsAs_34 rfl ?_
      refine sw_cV2i (np := 38) (hR _ _ _ _ _) sw_mv_X9_tellsAs sw_k_105 sw_wl_RX9_344 dX9_tellsAs_35 (sw_fit_rm (by omega) (by decide)) (Nat.le_of_ble_eq_true rfl) rfl (fun r5 S5 => ?_)
      refine sw_iconst (np := 39) dX9_tellsAs_38 sw_ic_1 rfl ?_
      refine sw_isub (np := 40) dX9_tellsAs_39 rfl ?_
      exact sw_iret dX9_tellsAs_40
  · refine sw_ald_4_0 (np := 6) dX9_tellsAs_5 rfl ?_
    refine sw_bipush (np := 8) dX9_tellsAs_6 sw_bc_60 rfl ?_
    refine sw_cV1v (np := 11) (hX9_runs (d := d - 1) (by omega) ) sw_mv_X9_runs sw_k_105 sw_wl_RX9_326 dX9_tellsAs_8 (sw_fit_rm (by omega) (by decide)) (Nat.le_of_ble_eq_true rfl) rfl (fun _ S6 => ?_)
    refine sw_ald_4_0 (np := 12) dX9_tellsAs_11 rfl ?_
    refine sw_iconst (np := 13) dX9_tellsAs_12 sw_ic_3 rfl ?_
    refine sw_ild_4_2 (np := 14) dX9_tellsAs_13 rfl ?_
    refine sw_cV2i (np := 17) (hR _ _ _ _ _) sw_mv_X9_tellsAs sw_k_105 sw_wl_RX9_344 dX9_tellsAs_14 (sw_fit_rm (by omega) (by decide)) (Nat.le_of_ble_eq_true rfl) rfl (fun r7 S7 => ?_)
    refine sw_iconst (np := 18) dX9_tellsAs_17 sw_ic_5 rfl ?_
    refine sw_ixor (np := 19) dX9_tellsAs_18 rfl ?_
    exact sw_iret dX9_tellsAs_19
theorem hG_12 {G : sw_G} {N : Nat} : ∀ n d, 305 + n ≤ d → kG_12 G d (fG_12 N n) := by
  intro n
  induction n with
  | zero => intro d _; exact (fun _ _ _ _ _ _ h => by cases h)
  | succ n ih => intro d hd; exact (fun _ _ _ _ _ => ogX9_tellsAs (N := N) (by omega) (ih (d - 1) (by omega)))
def fX9_tellsAs (N : Nat) (p1 : Int32) (p2 : Int32) (S : sw_St) : Option (Int32 × sw_St) := fG_12 N 100 0 p1 p2 0 0 S
theorem hX9_tellsAs {G : sw_G} {N d : Nat} (hd : 405 ≤ d) {p1 : Int32} {p2 : Int32} {S : sw_St} : sw_Ev G yX9_tellsAs cX9_tellsAs 4 (some .int) d sw_ei [sw_vr G 105, .int p1, .int p2] S (fX9_tellsAs N p1 p2 S) := (hG_12 (G := G) (N := N) 100 d hd) _ _ _ _ _
/-- SwordAtticModel.act(III)I -/
def fX9_act (N : Nat) (p1 : Int32) (p2 : Int32) (p3 : Int32) (S : sw_St) : Option (Int32 × sw_St) :=
  sw_ls (sw_si S 105 35 (0 : Int32)) (fun S1 => (sw_bd (fX9_isBody N p1 S1) (fun r1 S2 => (if r1 = 0 then (some ((0 : Int32), S2)) else (sw_gd (sw_in p1 50) (sw_ls (sw_si S2 105 36 (S2.1 122 p1.toNatClampNeg)) (fun S3 => (sw_ls (sw_si S3 105 37 p1) (fun S4 => (if p2 = (0 : Int32) then (sw_bd (fX9_wakesAs N (S4.1 105 36) p3 S4) (fun r2 S5 => (some (r2, S5)))) else (if p2 = (1 : Int32) then (sw_bd (fX9_hushesAs N (S4.1 105 36) p3 S4) (fun r3 S6 => (some (r3, S6)))) else (if p2 = (2 : Int32) then (sw_bd (fX9_criesAs N (S4.1 105 36) p3 S4) (fun r4 S7 => (some (r4, S7)))) else (if p2 = (3 : Int32) then (sw_bd (fX9_tellsAs N (S4.1 105 36) p3 S4) (fun r5 S8 => (some (r5, S8)))) else (some ((0 : Int32), S4)))))))))))))))
theorem hX9_act {G : sw_G} {N d : Nat} (hd : 406 ≤ d) {p1 : Int32} {p2 : Int32} {p3 : Int32}  {S : sw_St} : sw_Ev G yX9_act cX9_act 4 (some .int) d sw_ei [sw_vr G 105, .int p1, .int p2, .int p3] S (fX9_act N p1 p2 p3 S) := by
  refine sw_Ev_of (own := RX9) (lv0 := [some (sw_vr G 105), some (.int p1), some (.int p2), some (.int p3)]) (by decide) rfl (Nat.le_of_ble_eq_true rfl) rfl ?_
  unfold fX9_act
  refine sw_ald_4_0 (np := 1) dX9_act_0 rfl ?_
  refine sw_iconst (np := 2) dX9_act_1 sw_ic_0 rfl ?_
  refine sw_pI (np := 5) sw_f_RX9_323 sw_fp_9_35 sw_k_105 dX9_act_2 rfl (fun S1 => ?_)
  refine sw_ald_4_0 (np := 6) dX9_act_5 rfl ?_
  refine sw_ild_4_1 (np := 7) dX9_act_6 rfl ?_
  refine sw_cV1i (np := 10) (hX9_isBody (d := d - 1) (by omega) ) sw_mv_X9_isBody sw_k_105 sw_wl_RX9_347 dX9_act_7 (sw_fit_rm (by omega) (by decide)) (Nat.le_of_ble_eq_true rfl) rfl (fun r1 S2 => ?_)
  refine sw_if_ne (np := 13) (tp := 15) dX9_act_10 rfl rfl ?_ ?_
  · refine sw_ald_4_0 (np := 16) dX9_act_15 rfl ?_
    refine sw_ald_4_0 (np := 17) dX9_act_16 rfl ?_
    refine sw_gR (np := 20) sw_f_RX9_58 sw_k_105 sw_r_105_33 dX9_act_17 rfl ?_
    refine sw_ild_4_1 (np := 21) dX9_act_20 rfl ?_
    refine sw_iald (np := 22) sw_k_122 sw_n_122 dX9_act_21 rfl ?_
    refine sw_pI (np := 25) sw_f_RX9_338 sw_fp_9_36 sw_k_105 dX9_act_22 rfl (fun S3 => ?_)
    refine sw_ald_4_0 (np := 26) dX9_act_25 rfl ?_
    refine sw_ild_4_1 (np := 27) dX9_act_26 rfl ?_
    refine sw_pI (np := 30) sw_f_RX9_332 sw_fp_9_37 sw_k_105 dX9_act_27 rfl (fun S4 => ?_)
    refine sw_ild_4_2 (np := 31) dX9_act_30 rfl ?_
    refine sw_ite (fun hs1 => ?_) (fun hs1 => ?_)
    · refine sw_tabIn (tp := 60) dX9_act_31 (by rw [hs1]; decide) (by rw [hs1]; decide) (by rw [hs1]; rfl) rfl ?_
      refine sw_ald_4_0 (np := 61) dX9_act_60 rfl ?_
      refine sw_ald_4_0 (np := 62) dX9_act_61 rfl ?_
      refine sw_gI (np := 65) sw_f_RX9_338 sw_k_105 dX9_act_62 rfl ?_
      refine sw_ild_4_3 (np := 66) dX9_act_65 rfl ?_
      refine sw_cV2i (np := 69) (hX9_wakesAs (d := d - 1) (by omega) ) sw_mv_X9_wakesAs sw_k_105 sw_wl_RX9_329 dX9_act_66 (sw_fit_rm (by omega) (by decide)) (Nat.le_of_ble_eq_true rfl) rfl (fun r2 S5 => ?_)
      exact sw_iret dX9_act_69
    · refine sw_ite (fun hs2 => ?_) (fun hs2 => ?_)
      · refine sw_tabIn (tp := 70) dX9_act_31 (by rw [hs2]; decide) (by rw [hs2]; decide) (by rw [hs2]; rfl) rfl ?_
        refine sw_ald_4_0 (np := 71) dX9_act_70 rfl ?_
        refine sw_ald_4_0 (np := 72) dX9_act_71 rfl ?_
        refine sw_gI (np := 75) sw_f_RX9_338 sw_k_105 dX9_act_72 rfl ?_
        refine sw_ild_4_3 (np := 76) dX9_act_75 rfl ?_
        refine sw_cV2i (np := 79) (hX9_hushesAs (d := d - 1) (by omega) ) sw_mv_X9_hushesAs sw_k_105 sw_wl_RX9_335 dX9_act_76 (sw_fit_rm (by omega) (by decide)) (Nat.le_of_ble_eq_true rfl) rfl (fun r3 S6 => ?_)
        exact sw_iret dX9_act_79
      · refine sw_ite (fun hs3 => ?_) (fun hs3 => ?_)
        · refine sw_tabIn (tp := 80) dX9_act_31 (by rw [hs3]; decide) (by rw [hs3]; decide) (by rw [hs3]; rfl) rfl ?_
          refine sw_ald_4_0 (np := 81) dX9_act_80 rfl ?_
          refine sw_ald_4_0 (np := 82) dX9_act_81 rfl ?_
          refine sw_gI (np := 85) sw_f_RX9_338 sw_k_105 dX9_act_82 rfl ?_
          refine sw_ild_4_3 (np := 86) dX9_act_85 rfl ?_
          refine sw_cV2i (np := 89) (hX9_criesAs (d := d - 1) (by omega) ) sw_mv_X9_criesAs sw_k_105 sw_wl_RX9_341 dX9_act_86 (sw_fit_rm (by omega) (by decide)) (Nat.le_of_ble_eq_true rfl) rfl (fun r4 S7 => ?_)
          exact sw_iret dX9_act_89
        · refine sw_ite (fun hs4 => ?_) (fun hs4 => ?_)
          · refine sw_tabIn (tp := 90) dX9_act_31 (by rw [hs4]; decide) (by rw [hs4]; decide) (by rw [hs4]; rfl) rfl ?_
            refine sw_ald_4_0 (np := 91) dX9_act_90 rfl ?_
            refine sw_ald_4_0 (np := 92) dX9_act_91 rfl ?_
            refine sw_gI (np := 95) sw_f_RX9_338 sw_k_105 dX9_act_92 rfl ?_
            refine sw_ild_4_3 (np := 96) dX9_act_95 rfl ?_
            refine sw_cV2i (np := 99) (hX9_tellsAs (d := d - 1) (by omega) ) sw_mv_X9_tellsAs sw_k_105 sw_wl_RX9_344 dX9_act_96 (sw_fit_rm (by omega) (by decide)) (Nat.le_of_ble_eq_true rfl) rfl (fun r5 S8 => ?_)
            exact sw_iret dX9_act_99
          · have hs1n := sw_neI sw_ic_0 (by decide) (by decide) hs1
            have hs2n := sw_neI sw_ic_1 (by decide) (by decide) hs2
            have hs3n := sw_neI sw_ic_2 (by decide) (by decide) hs3
            have hs4n := sw_neI sw_ic_3 (by decide) (by decide) hs4
            refine sw_tabOut (tp := 100) dX9_act_31 (by omega) rfl ?_
            refine sw_iconst (np := 101) dX9_act_100 sw_ic_0 rfl ?_
            exact sw_iret dX9_act_101
  · refine sw_iconst (np := 14) dX9_act_13 sw_ic_0 rfl ?_
    exact sw_iret dX9_act_14
/-- SwordAtticModel.trace(I)I -/
def fX9_trace (N : Nat) (p1 : Int32) (S : sw_St) : Option (Int32 × sw_St) :=
  if p1 < 0 then (some ((-1 : Int32), S)) else (if p1 ≥ (S.1 105 35) then (some ((-1 : Int32), S)) else (if p1 ≥ (24 : Int32) then (some ((-1 : Int32), S)) else (sw_gd (sw_in p1 24) (some ((S.1 123 p1.toNatClampNeg), S)))))
theorem hX9_trace {G : sw_G} {N d : Nat} (hd : 1 ≤ d) {p1 : Int32}  {S : sw_St} : sw_Ev G yX9_trace cX9_trace 2 (some .int) d sw_ei [sw_vr G 105, .int p1] S (fX9_trace N p1 S) := by
  refine sw_Ev_of (own := RX9) (lv0 := [some (sw_vr G 105), some (.int p1)]) (by decide) rfl (Nat.le_of_ble_eq_true rfl) rfl ?_
  unfold fX9_trace
  refine sw_ild_2_1 (np := 1) dX9_trace_0 rfl ?_
  refine sw_if_lt (np := 4) (tp := 27) dX9_trace_1 rfl rfl ?_ ?_
  · refine sw_iconst (np := 28) dX9_trace_27 sw_ic_m1 rfl ?_
    exact sw_iret dX9_trace_28
  · refine sw_ild_2_1 (np := 5) dX9_trace_4 rfl ?_
    refine sw_ald_2_0 (np := 6) dX9_trace_5 rfl ?_
    refine sw_gI (np := 9) sw_f_RX9_323 sw_k_105 dX9_trace_6 rfl ?_
    refine sw_icmp_ge (np := 12) (tp := 27) dX9_trace_9 rfl rfl ?_ ?_
    · refine sw_iconst (np := 28) dX9_trace_27 sw_ic_m1 rfl ?_
      exact sw_iret dX9_trace_28
    · refine sw_ild_2_1 (np := 13) dX9_trace_12 rfl ?_
      refine sw_bipush (np := 15) dX9_trace_13 sw_bc_24 rfl ?_
      refine sw_icmp_ge (np := 18) (tp := 27) dX9_trace_15 rfl rfl ?_ ?_
      · refine sw_iconst (np := 28) dX9_trace_27 sw_ic_m1 rfl ?_
        exact sw_iret dX9_trace_28
      · refine sw_ald_2_0 (np := 19) dX9_trace_18 rfl ?_
        refine sw_gR (np := 22) sw_f_RX9_61 sw_k_105 sw_r_105_34 dX9_trace_19 rfl ?_
        refine sw_ild_2_1 (np := 23) dX9_trace_22 rfl ?_
        refine sw_iald (np := 24) sw_k_123 sw_n_123 dX9_trace_23 rfl ?_
        refine sw_goto (tp := 28) dX9_trace_24 rfl ?_
        exact sw_iret dX9_trace_28
/-- SwordAtticModel.keep(II)I -/
def fX9_keep (N : Nat) (p1 : Int32) (p2 : Int32) (S : sw_St) : Option (Int32 × sw_St) :=
  sw_bd (fX9_isShelf N p1 S) (fun r1 S1 => (if r1 = 0 then (some ((-1 : Int32), S1)) else (if p2 = (-1 : Int32) then (sw_gd (sw_in p1 6) (sw_ls (sw_si S1 124 p1.toNatClampNeg p2) (fun S2 => (sw_gd (sw_in p1 6) (sw_ls (sw_si S2 125 p1.toNatClampNeg (0 : Int32)) (fun S3 => (some ((1 : Int32), S3)))))))) else (sw_bd (fX9_isBody N p2 S1) (fun r2 S4 => (if r2 = 0 then (some ((-1 : Int32), S4)) else (sw_gd (sw_in p1 6) (sw_ls (sw_si S4 124 p1.toNatClampNeg p2) (fun S5 => (sw_gd (sw_in p1 6) (sw_ls (sw_si S5 125 p1.toNatClampNeg (0 : Int32)) (fun S6 => (some ((1 : Int32), S6))))))))))))))
theorem hX9_keep {G : sw_G} {N d : Nat} (hd : 3 ≤ d) {p1 : Int32} {p2 : Int32}  {S : sw_St} : sw_Ev G yX9_keep cX9_keep 3 (some .int) d sw_ei [sw_vr G 105, .int p1, .int p2] S (fX9_keep N p1 p2 S) := by
  refine sw_Ev_of (own := RX9) (lv0 := [some (sw_vr G 105), some (.int p1), some (.int p2)]) (by decide) rfl (Nat.le_of_ble_eq_true rfl) rfl ?_
  unfold fX9_keep
  refine sw_ild_3_1 (np := 1) dX9_keep_0 rfl ?_
  refine sw_cS1i (np := 4) (hX9_isShelf (d := d - 1) (by omega) ) sw_ms_X9_isShelf sw_wl_RX9_119 dX9_keep_1 (sw_fit_rm (by omega) (by decide)) (Nat.le_of_ble_eq_true rfl) rfl (fun r1 S1 => ?_)
  refine sw_if_eq (np := 7) (tp := 20) dX9_keep_4 rfl rfl ?_ ?_
  · refine sw_iconst (np := 21) dX9_keep_20 sw_ic_m1 rfl ?_
    exact sw_iret dX9_keep_21
  · refine sw_ild_3_2 (np := 8) dX9_keep_7 rfl ?_
    refine sw_iconst (np := 9) dX9_keep_8 sw_ic_m1 rfl ?_
    refine sw_icmp_eq (np := 12) (tp := 22) dX9_keep_9 rfl rfl ?_ ?_
    · refine sw_ald_3_0 (np := 23) dX9_keep_22 rfl ?_
      refine sw_gR (np := 26) sw_f_RX9_64 sw_k_105 sw_r_105_38 dX9_keep_23 rfl ?_
      refine sw_ild_3_1 (np := 27) dX9_keep_26 rfl ?_
      refine sw_ild_3_2 (np := 28) dX9_keep_27 rfl ?_
      refine sw_sI (np := 29) sw_k_124 sw_n_124 dX9_keep_28 rfl (fun S2 => ?_)
      refine sw_ald_3_0 (np := 30) dX9_keep_29 rfl ?_
      refine sw_gR (np := 33) sw_f_RX9_67 sw_k_105 sw_r_105_39 dX9_keep_30 rfl ?_
      refine sw_ild_3_1 (np := 34) dX9_keep_33 rfl ?_
      refine sw_iconst (np := 35) dX9_keep_34 sw_ic_0 rfl ?_
      refine sw_sI (np := 36) sw_k_125 sw_n_125 dX9_keep_35 rfl (fun S3 => ?_)
      refine sw_iconst (np := 37) dX9_keep_36 sw_ic_1 rfl ?_
      exact sw_iret dX9_keep_37
    · refine sw_ald_3_0 (np := 13) dX9_keep_12 rfl ?_
      refine sw_ild_3_2 (np := 14) dX9_keep_13 rfl ?_
      refine sw_cV1i (np := 17) (hX9_isBody (d := d - 1) (by omega) ) sw_mv_X9_isBody sw_k_105 sw_wl_RX9_347 dX9_keep_14 (sw_fit_rm (by omega) (by decide)) (Nat.le_of_ble_eq_true rfl) rfl (fun r2 S4 => ?_)
      refine sw_if_ne (np := 20) (tp := 22) dX9_keep_17 rfl rfl ?_ ?_
      · refine sw_ald_3_0 (np := 23) dX9_keep_22 rfl ?_
        refine sw_gR (np := 26) sw_f_RX9_64 sw_k_105 sw_r_105_38 dX9_keep_23 rfl ?_
        refine sw_ild_3_1 (np := 27) dX9_keep_26 rfl ?_
        refine sw_ild_3_2 (np := 28) dX9_keep_27 rfl ?_
        refine sw_sI (np := 29) sw_k_124 sw_n_124 dX9_keep_28 rfl (fun S5 => ?_)
        refine sw_ald_3_0 (np := 30) dX9_keep_29 rfl ?_
        refine sw_gR (np := 33) sw_f_RX9_67 sw_k_105 sw_r_105_39 dX9_keep_30 rfl ?_
        refine sw_ild_3_1 (np := 34) dX9_keep_33 rfl ?_
        refine sw_iconst (np := 35) dX9_keep_34 sw_ic_0 rfl ?_
        refine sw_sI (np := 36) sw_k_125 sw_n_125 dX9_keep_35 rfl (fun S6 => ?_)
        refine sw_iconst (np := 37) dX9_keep_36 sw_ic_1 rfl ?_
        exact sw_iret dX9_keep_37
      · refine sw_iconst (np := 21) dX9_keep_20 sw_ic_m1 rfl ?_
        exact sw_iret dX9_keep_21
/-- SwordAtticModel.row(III)I -/
def fX9_row (N : Nat) (p1 : Int32) (p2 : Int32) (p3 : Int32) (S : sw_St) : Option (Int32 × sw_St) :=
  sw_bd (fX9_isShelf N p1 S) (fun r1 S1 => (if r1 = 0 then (some ((-1 : Int32), S1)) else (sw_bd (fX9_within N p2.toInt64 (0 : Int64) (4 : Int64) S1) (fun r2 S2 => (if r2 = 0 then (some ((-1 : Int32), S2)) else (if p3 ≤ (60 : Int32) then (if p3 ≥ 0 then (sw_gd (sw_in p1 6) (sw_ls (sw_si S2 124 p1.toNatClampNeg ((50 : Int32) + p2)) (fun S3 => (sw_gd (sw_in p1 6) (sw_ls (sw_si S3 125 p1.toNatClampNeg p3) (fun S4 => (sw_li ((60 : Int32) * p1) (fun x4_1 => (sw_fx1 (fun rec1 x4_2 S5 => (if x4_2 ≥ (((60 : Int32) * p1) + (60 : Int32)) then (some ((1 : Int32), S5)) else (sw_gd (sw_in x4_2 360) (sw_ls (sw_sj S5 126 x4_2.toNatClampNeg (0 : Int64)) (fun S6 => (rec1 (x4_2 + (1 : Int32)) S6)))))) N x4_1 S4))))))))) else (some ((-14 : Int32), S2))) else (some ((-1 : Int32), S2))))))))
theorem hX9_row {G : sw_G} {N d : Nat} (hd : 3 ≤ d) {p1 : Int32} {p2 : Int32} {p3 : Int32}  {S : sw_St} : sw_Ev G yX9_row cX9_row 5 (some .int) d sw_ei [sw_vr G 105, .int p1, .int p2, .int p3] S (fX9_row N p1 p2 p3 S) := by
  refine sw_Ev_of (own := RX9) (lv0 := [some (sw_vr G 105), some (.int p1), some (.int p2), some (.int p3), none]) (by decide) rfl (Nat.le_of_ble_eq_true rfl) rfl ?_
  unfold fX9_row
  refine sw_ild_5_1 (np := 1) dX9_row_0 rfl ?_
  refine sw_cS1i (np := 4) (hX9_isShelf (d := d - 1) (by omega) ) sw_ms_X9_isShelf sw_wl_RX9_119 dX9_row_1 (sw_fit_rm (by omega) (by decide)) (Nat.le_of_ble_eq_true rfl) rfl (fun r1 S1 => ?_)
  refine sw_if_eq (np := 7) (tp := 25) dX9_row_4 rfl rfl ?_ ?_
  · refine sw_iconst (np := 26) dX9_row_25 sw_ic_m1 rfl ?_
    exact sw_iret dX9_row_26
  · refine sw_ild_5_2 (np := 8) dX9_row_7 rfl ?_
    refine sw_i2l (np := 9) dX9_row_8 rfl ?_
    refine sw_lconst (np := 10) dX9_row_9 sw_lc_0 rfl ?_
    refine sw_ldc2 (np := 13) sw_wc_RX9_125 dX9_row_10 rfl ?_
    refine sw_cS3i (np := 16) (hX9_within (d := d - 1) (by omega) ) sw_ms_X9_within sw_wl_RX9_98 dX9_row_13 (sw_fit_rm (by omega) (by decide)) (Nat.le_of_ble_eq_true rfl) rfl (fun r2 S2 => ?_)
    refine sw_if_eq (np := 19) (tp := 25) dX9_row_16 rfl rfl ?_ ?_
    · refine sw_iconst (np := 26) dX9_row_25 sw_ic_m1 rfl ?_
      exact sw_iret dX9_row_26
    · refine sw_ild_5_3 (np := 20) dX9_row_19 rfl ?_
      refine sw_bipush (np := 22) dX9_row_20 sw_bc_60 rfl ?_
      refine sw_icmp_le (np := 25) (tp := 27) dX9_row_22 rfl rfl ?_ ?_
      · refine sw_ild_5_3 (np := 28) dX9_row_27 rfl ?_
        refine sw_if_ge (np := 31) (tp := 34) dX9_row_28 rfl rfl ?_ ?_
        · refine sw_ald_5_0 (np := 35) dX9_row_34 rfl ?_
          refine sw_gR (np := 38) sw_f_RX9_64 sw_k_105 sw_r_105_38 dX9_row_35 rfl ?_
          refine sw_ild_5_1 (np := 39) dX9_row_38 rfl ?_
          refine sw_bipush (np := 41) dX9_row_39 sw_bc_50 rfl ?_
          refine sw_ild_5_2 (np := 42) dX9_row_41 rfl ?_
          refine sw_iadd (np := 43) dX9_row_42 rfl ?_
          refine sw_sI (np := 44) sw_k_124 sw_n_124 dX9_row_43 rfl (fun S3 => ?_)
          refine sw_ald_5_0 (np := 45) dX9_row_44 rfl ?_
          refine sw_gR (np := 48) sw_f_RX9_67 sw_k_105 sw_r_105_39 dX9_row_45 rfl ?_
          refine sw_ild_5_1 (np := 49) dX9_row_48 rfl ?_
          refine sw_ild_5_3 (np := 50) dX9_row_49 rfl ?_
          refine sw_sI (np := 51) sw_k_125 sw_n_125 dX9_row_50 rfl (fun S4 => ?_)
          refine sw_bipush (np := 53) dX9_row_51 sw_bc_60 rfl ?_
          refine sw_ild_5_1 (np := 54) dX9_row_53 rfl ?_
          refine sw_imul (np := 55) dX9_row_54 rfl ?_
          refine sw_isl_5_4 (np := 57) dX9_row_55 rfl rfl (fun x4_1 => ?_)
          refine sw_dr_5_2 ?_
          refine sw_dr_5_3 ?_
          refine sw_lp1 (lv := fun x4_2 => [some (sw_vr G 105), some (.int p1), none, none, some (.int x4_2)]) (fun rec1 hrec1 x4_2 S5 => ?_) _ _ _
          refine sw_ild_5_4 (np := 59) dX9_row_57 rfl ?_
          refine sw_bipush (np := 61) dX9_row_59 sw_bc_60 rfl ?_
          refine sw_ild_5_1 (np := 62) dX9_row_61 rfl ?_
          refine sw_imul (np := 63) dX9_row_62 rfl ?_
          refine sw_bipush (np := 65) dX9_row_63 sw_bc_60 rfl ?_
          refine sw_iadd (np := 66) dX9_row_65 rfl ?_
          refine sw_icmp_ge (np := 69) (tp := 83) dX9_row_66 rfl rfl ?_ ?_
          · refine sw_iconst (np := 84) dX9_row_83 sw_ic_1 rfl ?_
            exact sw_iret dX9_row_84
          · refine sw_ald_5_0 (np := 70) dX9_row_69 rfl ?_
            refine sw_gR (np := 73) sw_f_RX9_70 sw_k_105 sw_r_105_40 dX9_row_70 rfl ?_
            refine sw_ild_5_4 (np := 75) dX9_row_73 rfl ?_
            refine sw_lconst (np := 76) dX9_row_75 sw_lc_0 rfl ?_
            refine sw_sJ (np := 77) sw_k_126 sw_n_126 dX9_row_76 rfl (fun S6 => ?_)
            refine sw_inc_5_4 (np := 80) dX9_row_77 sw_ic_1 rfl rfl ?_
            refine sw_goto (tp := 57) dX9_row_80 rfl ?_
            exact hrec1 _ _
        · refine sw_bipush (np := 33) dX9_row_31 sw_bc_m14 rfl ?_
          exact sw_iret dX9_row_33
      · refine sw_iconst (np := 26) dX9_row_25 sw_ic_m1 rfl ?_
        exact sw_iret dX9_row_26
/-- SwordAtticModel.refusal(II)I -/
def fX9_refusal (N : Nat) (p1 : Int32) (p2 : Int32) (S : sw_St) : Option (Int32 × sw_St) :=
  sw_bd (fX9_isShelf N p1 S) (fun r1 S1 => (if r1 = 0 then (some ((-1 : Int32), S1)) else (sw_gd (sw_in p1 6) (if (S1.1 124 p1.toNatClampNeg) ≥ 0 then (sw_gd (sw_in p1 6) (if (S1.1 124 p1.toNatClampNeg) ≥ (50 : Int32) then (if p2 < 0 then (some ((-13 : Int32), S1)) else (sw_gd (sw_in p1 6) (if p2 ≥ (S1.1 125 p1.toNatClampNeg) then (some ((-13 : Int32), S1)) else (some ((0 : Int32), S1))))) else (some ((-12 : Int32), S1)))) else (some ((-11 : Int32), S1))))))
theorem hX9_refusal {G : sw_G} {N d : Nat} (hd : 3 ≤ d) {p1 : Int32} {p2 : Int32}  {S : sw_St} : sw_Ev G yX9_refusal cX9_refusal 3 (some .int) d sw_ei [sw_vr G 105, .int p1, .int p2] S (fX9_refusal N p1 p2 S) := by
  refine sw_Ev_of (own := RX9) (lv0 := [some (sw_vr G 105), some (.int p1), some (.int p2)]) (by decide) rfl (Nat.le_of_ble_eq_true rfl) rfl ?_
  unfold fX9_refusal
  refine sw_ild_3_1 (np := 1) dX9_refusal_0 rfl ?_
  refine sw_cS1i (np := 4) (hX9_isShelf (d := d - 1) (by omega) ) sw_ms_X9_isShelf sw_wl_RX9_119 dX9_refusal_1 (sw_fit_rm (by omega) (by decide)) (Nat.le_of_ble_eq_true rfl) rfl (fun r1 S1 => ?_)
  refine sw_if_ne (np := 7) (tp := 9) dX9_refusal_4 rfl rfl ?_ ?_
  · refine sw_ald_3_0 (np := 10) dX9_refusal_9 rfl ?_
    refine sw_gR (np := 13) sw_f_RX9_64 sw_k_105 sw_r_105_38 dX9_refusal_10 rfl ?_
    refine sw_ild_3_1 (np := 14) dX9_refusal_13 rfl ?_
    refine sw_iald (np := 15) sw_k_124 sw_n_124 dX9_refusal_14 rfl ?_
    refine sw_if_ge (np := 18) (tp := 21) dX9_refusal_15 rfl rfl ?_ ?_
    · refine sw_ald_3_0 (np := 22) dX9_refusal_21 rfl ?_
      refine sw_gR (np := 25) sw_f_RX9_64 sw_k_105 sw_r_105_38 dX9_refusal_22 rfl ?_
      refine sw_ild_3_1 (np := 26) dX9_refusal_25 rfl ?_
      refine sw_iald (np := 27) sw_k_124 sw_n_124 dX9_refusal_26 rfl ?_
      refine sw_bipush (np := 29) dX9_refusal_27 sw_bc_50 rfl ?_
      refine sw_icmp_ge (np := 32) (tp := 35) dX9_refusal_29 rfl rfl ?_ ?_
      · refine sw_ild_3_2 (np := 36) dX9_refusal_35 rfl ?_
        refine sw_if_lt (np := 39) (tp := 53) dX9_refusal_36 rfl rfl ?_ ?_
        · refine sw_bipush (np := 55) dX9_refusal_53 sw_bc_m13 rfl ?_
          exact sw_iret dX9_refusal_55
        · refine sw_ild_3_2 (np := 40) dX9_refusal_39 rfl ?_
          refine sw_ald_3_0 (np := 41) dX9_refusal_40 rfl ?_
          refine sw_gR (np := 44) sw_f_RX9_67 sw_k_105 sw_r_105_39 dX9_refusal_41 rfl ?_
          refine sw_ild_3_1 (np := 45) dX9_refusal_44 rfl ?_
          refine sw_iald (np := 46) sw_k_125 sw_n_125 dX9_refusal_45 rfl ?_
          refine sw_icmp_ge (np := 49) (tp := 53) dX9_refusal_46 rfl rfl ?_ ?_
          · refine sw_bipush (np := 55) dX9_refusal_53 sw_bc_m13 rfl ?_
            exact sw_iret dX9_refusal_55
          · refine sw_iconst (np := 50) dX9_refusal_49 sw_ic_0 rfl ?_
            refine sw_goto (tp := 55) dX9_refusal_50 rfl ?_
            exact sw_iret dX9_refusal_55
      · refine sw_bipush (np := 34) dX9_refusal_32 sw_bc_m12 rfl ?_
        exact sw_iret dX9_refusal_34
    · refine sw_bipush (np := 20) dX9_refusal_18 sw_bc_m11 rfl ?_
      exact sw_iret dX9_refusal_20
  · refine sw_iconst (np := 8) dX9_refusal_7 sw_ic_m1 rfl ?_
    exact sw_iret dX9_refusal_8
/-- SwordAtticModel.asSort(IJ)J -/
def fX9_asSort (N : Nat) (p0 : Int32) (p1 : Int64) (S : sw_St) : Option (Int64 × sw_St) :=
  if p0 = 0 then (some (p1.toInt32.toInt8.toInt32.toInt64, S)) else (if p0 = (1 : Int32) then (some (p1.toInt32.toInt16.toInt32.toInt64, S)) else (if p0 = (2 : Int32) then (some (p1.toInt32.toInt64, S)) else (if p0 = (4 : Int32) then (if (lg_cmp p1 (0 : Int64)) = 0 then (some ((0 : Int64), S)) else (some ((1 : Int64), S))) else (some (p1, S)))))
theorem hX9_asSort {G : sw_G} {N d : Nat} (hd : 1 ≤ d) {p0 : Int32} {p1 : Int64}  {S : sw_St} : sw_Ev G yX9_asSort cX9_asSort 3 (some .long) d sw_el [.int p0, .long p1] S (fX9_asSort N p0 p1 S) := by
  refine sw_Ev_of (own := RX9) (lv0 := [some (.int p0), some (.long p1), none]) (by decide) rfl (Nat.le_of_ble_eq_true rfl) rfl ?_
  unfold fX9_asSort
  refine sw_ild_3_0 (np := 1) dX9_asSort_0 rfl ?_
  refine sw_if_ne (np := 4) (tp := 11) dX9_asSort_1 rfl rfl ?_ ?_
  · refine sw_ild_3_0 (np := 12) dX9_asSort_11 rfl ?_
    refine sw_iconst (np := 13) dX9_asSort_12 sw_ic_1 rfl ?_
    refine sw_icmp_ne (np := 16) (tp := 23) dX9_asSort_13 rfl rfl ?_ ?_
    · refine sw_ild_3_0 (np := 24) dX9_asSort_23 rfl ?_
      refine sw_iconst (np := 25) dX9_asSort_24 sw_ic_2 rfl ?_
      refine sw_icmp_ne (np := 28) (tp := 34) dX9_asSort_25 rfl rfl ?_ ?_
      · refine sw_ild_3_0 (np := 35) dX9_asSort_34 rfl ?_
        refine sw_iconst (np := 36) dX9_asSort_35 sw_ic_4 rfl ?_
        refine sw_icmp_ne (np := 39) (tp := 53) dX9_asSort_36 rfl rfl ?_ ?_
        · refine sw_lld_3_1 (np := 54) dX9_asSort_53 rfl ?_
          exact sw_lret dX9_asSort_54
        · refine sw_lld_3_1 (np := 40) dX9_asSort_39 rfl ?_
          refine sw_lconst (np := 41) dX9_asSort_40 sw_lc_0 rfl ?_
          refine sw_lcmp (np := 42) dX9_asSort_41 rfl ?_
          refine sw_if_eq (np := 45) (tp := 49) dX9_asSort_42 rfl rfl ?_ ?_
          · refine sw_lconst (np := 50) dX9_asSort_49 sw_lc_0 rfl ?_
            refine sw_goto (tp := 54) dX9_asSort_50 rfl ?_
            exact sw_lret dX9_asSort_54
          · refine sw_lconst (np := 46) dX9_asSort_45 sw_lc_1 rfl ?_
            refine sw_goto (tp := 54) dX9_asSort_46 rfl ?_
            exact sw_lret dX9_asSort_54
      · refine sw_lld_3_1 (np := 29) dX9_asSort_28 rfl ?_
        refine sw_l2i (np := 30) dX9_asSort_29 rfl ?_
        refine sw_i2l (np := 31) dX9_asSort_30 rfl ?_
        refine sw_goto (tp := 54) dX9_asSort_31 rfl ?_
        exact sw_lret dX9_asSort_54
    · refine sw_lld_3_1 (np := 17) dX9_asSort_16 rfl ?_
      refine sw_l2i (np := 18) dX9_asSort_17 rfl ?_
      refine sw_i2s (np := 19) dX9_asSort_18 rfl ?_
      refine sw_i2l (np := 20) dX9_asSort_19 rfl ?_
      refine sw_goto (tp := 54) dX9_asSort_20 rfl ?_
      exact sw_lret dX9_asSort_54
  · refine sw_lld_3_1 (np := 5) dX9_asSort_4 rfl ?_
    refine sw_l2i (np := 6) dX9_asSort_5 rfl ?_
    refine sw_i2b (np := 7) dX9_asSort_6 rfl ?_
    refine sw_i2l (np := 8) dX9_asSort_7 rfl ?_
    refine sw_goto (tp := 54) dX9_asSort_8 rfl ?_
    exact sw_lret dX9_asSort_54
/-- SwordAtticModel.put(IIJ)I -/
def fX9_put (N : Nat) (p1 : Int32) (p2 : Int32) (p3 : Int64) (S : sw_St) : Option (Int32 × sw_St) :=
  sw_bd (fX9_refusal N p1 p2 S) (fun r1 S1 => (if r1 = 0 then (sw_gd (sw_in p1 6) (sw_bd (fX9_asSort N ((S1.1 124 p1.toNatClampNeg) - (50 : Int32)) p3 S1) (fun r2 S2 => (sw_gd (sw_in (((60 : Int32) * p1) + p2) 360) (sw_ls (sw_sj S2 126 (((60 : Int32) * p1) + p2).toNatClampNeg r2) (fun S3 => (if r1 = 0 then (some ((1 : Int32), S3)) else (some (r1, S3))))))))) else (if r1 = 0 then (some ((1 : Int32), S1)) else (some (r1, S1)))))
theorem hX9_put {G : sw_G} {N d : Nat} (hd : 4 ≤ d) {p1 : Int32} {p2 : Int32} {p3 : Int64}  {S : sw_St} : sw_Ev G yX9_put cX9_put 6 (some .int) d sw_ei [sw_vr G 105, .int p1, .int p2, .long p3] S (fX9_put N p1 p2 p3 S) := by
  refine sw_Ev_of (own := RX9) (lv0 := [some (sw_vr G 105), some (.int p1), some (.int p2), some (.long p3), none, none]) (by decide) rfl (Nat.le_of_ble_eq_true rfl) rfl ?_
  unfold fX9_put
  refine sw_ald_6_0 (np := 1) dX9_put_0 rfl ?_
  refine sw_ild_6_1 (np := 2) dX9_put_1 rfl ?_
  refine sw_ild_6_2 (np := 3) dX9_put_2 rfl ?_
  refine sw_cV2i (np := 6) (hX9_refusal (d := d - 1) (by omega) ) sw_mv_X9_refusal sw_k_105 sw_wl_RX9_350 dX9_put_3 (sw_fit_rm (by omega) (by decide)) (Nat.le_of_ble_eq_true rfl) rfl (fun r1 S1 => ?_)
  refine sw_ist_6_5 (np := 8) dX9_put_6 rfl rfl ?_
  refine sw_ild_6_5 (np := 10) dX9_put_8 rfl ?_
  refine sw_if_ne (np := 13) (tp := 37) dX9_put_10 rfl rfl ?_ ?_
  · refine sw_ild_6_5 (np := 39) dX9_put_37 rfl ?_
    refine sw_if_ne (np := 42) (tp := 46) dX9_put_39 rfl rfl ?_ ?_
    · refine sw_ild_6_5 (np := 48) dX9_put_46 rfl ?_
      exact sw_iret dX9_put_48
    · refine sw_iconst (np := 43) dX9_put_42 sw_ic_1 rfl ?_
      refine sw_goto (tp := 48) dX9_put_43 rfl ?_
      exact sw_iret dX9_put_48
  · refine sw_ald_6_0 (np := 14) dX9_put_13 rfl ?_
    refine sw_gR (np := 17) sw_f_RX9_70 sw_k_105 sw_r_105_40 dX9_put_14 rfl ?_
    refine sw_bipush (np := 19) dX9_put_17 sw_bc_60 rfl ?_
    refine sw_ild_6_1 (np := 20) dX9_put_19 rfl ?_
    refine sw_imul (np := 21) dX9_put_20 rfl ?_
    refine sw_ild_6_2 (np := 22) dX9_put_21 rfl ?_
    refine sw_iadd (np := 23) dX9_put_22 rfl ?_
    refine sw_ald_6_0 (np := 24) dX9_put_23 rfl ?_
    refine sw_gR (np := 27) sw_f_RX9_64 sw_k_105 sw_r_105_38 dX9_put_24 rfl ?_
    refine sw_ild_6_1 (np := 28) dX9_put_27 rfl ?_
    refine sw_iald (np := 29) sw_k_124 sw_n_124 dX9_put_28 rfl ?_
    refine sw_bipush (np := 31) dX9_put_29 sw_bc_50 rfl ?_
    refine sw_isub (np := 32) dX9_put_31 rfl ?_
    refine sw_lld_6_3 (np := 33) dX9_put_32 rfl ?_
    refine sw_cS2l (np := 36) (hX9_asSort (d := d - 1) (by omega) ) sw_ms_X9_asSort sw_wl_RX9_353 dX9_put_33 (sw_fit_rm (by omega) (by decide)) (Nat.le_of_ble_eq_true rfl) rfl (fun r2 S2 => ?_)
    refine sw_sJ (np := 37) sw_k_126 sw_n_126 dX9_put_36 rfl (fun S3 => ?_)
    refine sw_ild_6_5 (np := 39) dX9_put_37 rfl ?_
    refine sw_if_ne (np := 42) (tp := 46) dX9_put_39 rfl rfl ?_ ?_
    · refine sw_ild_6_5 (np := 48) dX9_put_46 rfl ?_
      exact sw_iret dX9_put_48
    · refine sw_iconst (np := 43) dX9_put_42 sw_ic_1 rfl ?_
      refine sw_goto (tp := 48) dX9_put_43 rfl ?_
      exact sw_iret dX9_put_48
/-- SwordAtticModel.element(II)J -/
def fX9_element (N : Nat) (p1 : Int32) (p2 : Int32) (S : sw_St) : Option (Int64 × sw_St) :=
  sw_bd (fX9_refusal N p1 p2 S) (fun r1 S1 => (if r1 = 0 then (sw_gd (sw_in (((60 : Int32) * p1) + p2) 360) (some ((S1.2 126 (((60 : Int32) * p1) + p2).toNatClampNeg), S1))) else (some ((-9223372036854775808 : Int64), S1))))
theorem hX9_element {G : sw_G} {N d : Nat} (hd : 4 ≤ d) {p1 : Int32} {p2 : Int32}  {S : sw_St} : sw_Ev G yX9_element cX9_element 3 (some .long) d sw_el [sw_vr G 105, .int p1, .int p2] S (fX9_element N p1 p2 S) := by
  refine sw_Ev_of (own := RX9) (lv0 := [some (sw_vr G 105), some (.int p1), some (.int p2)]) (by decide) rfl (Nat.le_of_ble_eq_true rfl) rfl ?_
  unfold fX9_element
  refine sw_ald_3_0 (np := 1) dX9_element_0 rfl ?_
  refine sw_ild_3_1 (np := 2) dX9_element_1 rfl ?_
  refine sw_ild_3_2 (np := 3) dX9_element_2 rfl ?_
  refine sw_cV2i (np := 6) (hX9_refusal (d := d - 1) (by omega) ) sw_mv_X9_refusal sw_k_105 sw_wl_RX9_350 dX9_element_3 (sw_fit_rm (by omega) (by decide)) (Nat.le_of_ble_eq_true rfl) rfl (fun r1 S1 => ?_)
  refine sw_if_eq (np := 9) (tp := 15) dX9_element_6 rfl rfl ?_ ?_
  · refine sw_ald_3_0 (np := 16) dX9_element_15 rfl ?_
    refine sw_gR (np := 19) sw_f_RX9_70 sw_k_105 sw_r_105_40 dX9_element_16 rfl ?_
    refine sw_bipush (np := 21) dX9_element_19 sw_bc_60 rfl ?_
    refine sw_ild_3_1 (np := 22) dX9_element_21 rfl ?_
    refine sw_imul (np := 23) dX9_element_22 rfl ?_
    refine sw_ild_3_2 (np := 24) dX9_element_23 rfl ?_
    refine sw_iadd (np := 25) dX9_element_24 rfl ?_
    refine sw_lald (np := 26) sw_k_126 sw_n_126 dX9_element_25 rfl ?_
    exact sw_lret dX9_element_26
  · refine sw_ldc2 (np := 12) sw_wc_RX9_359 dX9_element_9 rfl ?_
    refine sw_goto (tp := 26) dX9_element_12 rfl ?_
    exact sw_lret dX9_element_26
/-- SwordAtticModel.shift(IIIII)I -/
def fX9_shift (N : Nat) (p1 : Int32) (p2 : Int32) (p3 : Int32) (p4 : Int32) (p5 : Int32) (S : sw_St) : Option (Int32 × sw_St) :=
  sw_bd (fX9_isShelf N p1 S) (fun r1 S1 => (if r1 = 0 then (some ((-1 : Int32), S1)) else (sw_bd (fX9_isShelf N p3 S1) (fun r2 S2 => (if r2 = 0 then (some ((-1 : Int32), S2)) else (sw_gd (sw_in p1 6) (if (S2.1 124 p1.toNatClampNeg) < 0 then (some ((-11 : Int32), S2)) else (sw_gd (sw_in p3 6) (if (S2.1 124 p3.toNatClampNeg) ≥ 0 then (sw_gd (sw_in p1 6) (if (S2.1 124 p1.toNatClampNeg) < (50 : Int32) then (some ((-12 : Int32), S2)) else (sw_gd (sw_in p1 6) (sw_gd (sw_in p3 6) (if (S2.1 124 p1.toNatClampNeg) = (S2.1 124 p3.toNatClampNeg) then (if p5 < 0 then (some ((-13 : Int32), S2)) else (if p2 < 0 then (some ((-13 : Int32), S2)) else (if p4 < 0 then (some ((-13 : Int32), S2)) else (sw_gd (sw_in p1 6) (if p2 > ((S2.1 125 p1.toNatClampNeg) - p5) then (some ((-13 : Int32), S2)) else (sw_gd (sw_in p3 6) (if p4 ≤ ((S2.1 125 p3.toNatClampNeg) - p5) then (sw_fx1 (fun rec1 x6_1 S3 => (if x6_1 ≥ p5 then (sw_fx1 (fun rec2 x6_2 S4 => (if x6_2 ≥ p5 then (some (p5, S4)) else (sw_gd (sw_in x6_2 60) (sw_gd (sw_in ((((60 : Int32) * p3) + p4) + x6_2) 360) (sw_ls (sw_sj S4 126 ((((60 : Int32) * p3) + p4) + x6_2).toNatClampNeg (S4.2 127 x6_2.toNatClampNeg)) (fun S5 => (rec2 (x6_2 + (1 : Int32)) S5))))))) N (0 : Int32) S3) else (sw_gd (sw_in ((((60 : Int32) * p1) + p2) + x6_1) 360) (sw_gd (sw_in x6_1 60) (sw_ls (sw_sj S3 127 x6_1.toNatClampNeg (S3.2 126 ((((60 : Int32) * p1) + p2) + x6_1).toNatClampNeg)) (fun S6 => (rec1 (x6_1 + (1 : Int32)) S6))))))) N (0 : Int32) S2) else (some ((-13 : Int32), S2))))))))) else (some ((-12 : Int32), S2))))))) else (some ((-11 : Int32), S2)))))))))))
theorem hX9_shift {G : sw_G} {N d : Nat} (hd : 3 ≤ d) {p1 : Int32} {p2 : Int32} {p3 : Int32} {p4 : Int32} {p5 : Int32}  {S : sw_St} : sw_Ev G yX9_shift cX9_shift 7 (some .int) d sw_ei [sw_vr G 105, .int p1, .int p2, .int p3, .int p4, .int p5] S (fX9_shift N p1 p2 p3 p4 p5 S) := by
  refine sw_Ev_of (own := RX9) (lv0 := [some (sw_vr G 105), some (.int p1), some (.int p2), some (.int p3), some (.int p4), some (.int p5), none]) (by decide) rfl (Nat.le_of_ble_eq_true rfl) rfl ?_
  unfold fX9_shift
  refine sw_ild_7_1 (np := 1) dX9_shift_0 rfl ?_
  refine sw_cS1i (np := 4) (hX9_isShelf (d := d - 1) (by omega) ) sw_ms_X9_isShelf sw_wl_RX9_119 dX9_shift_1 (sw_fit_rm (by omega) (by decide)) (Nat.le_of_ble_eq_true rfl) rfl (fun r1 S1 => ?_)
  refine sw_if_eq (np := 7) (tp := 14) dX9_shift_4 rfl rfl ?_ ?_
  · refine sw_iconst (np := 15) dX9_shift_14 sw_ic_m1 rfl ?_
    exact sw_iret dX9_shift_15
  · refine sw_ild_7_3 (np := 8) dX9_shift_7 rfl ?_
    refine sw_cS1i (np := 11) (hX9_isShelf (d := d - 1) (by omega) ) sw_ms_X9_isShelf sw_wl_RX9_119 dX9_shift_8 (sw_fit_rm (by omega) (by decide)) (Nat.le_of_ble_eq_true rfl) rfl (fun r2 S2 => ?_)
    refine sw_if_ne (np := 14) (tp := 16) dX9_shift_11 rfl rfl ?_ ?_
    · refine sw_ald_7_0 (np := 17) dX9_shift_16 rfl ?_
      refine sw_gR (np := 20) sw_f_RX9_64 sw_k_105 sw_r_105_38 dX9_shift_17 rfl ?_
      refine sw_ild_7_1 (np := 21) dX9_shift_20 rfl ?_
      refine sw_iald (np := 22) sw_k_124 sw_n_124 dX9_shift_21 rfl ?_
      refine sw_if_lt (np := 25) (tp := 34) dX9_shift_22 rfl rfl ?_ ?_
      · refine sw_bipush (np := 36) dX9_shift_34 sw_bc_m11 rfl ?_
        exact sw_iret dX9_shift_36
      · refine sw_ald_7_0 (np := 26) dX9_shift_25 rfl ?_
        refine sw_gR (np := 29) sw_f_RX9_64 sw_k_105 sw_r_105_38 dX9_shift_26 rfl ?_
        refine sw_ild_7_3 (np := 30) dX9_shift_29 rfl ?_
        refine sw_iald (np := 31) sw_k_124 sw_n_124 dX9_shift_30 rfl ?_
        refine sw_if_ge (np := 34) (tp := 37) dX9_shift_31 rfl rfl ?_ ?_
        · refine sw_ald_7_0 (np := 38) dX9_shift_37 rfl ?_
          refine sw_gR (np := 41) sw_f_RX9_64 sw_k_105 sw_r_105_38 dX9_shift_38 rfl ?_
          refine sw_ild_7_1 (np := 42) dX9_shift_41 rfl ?_
          refine sw_iald (np := 43) sw_k_124 sw_n_124 dX9_shift_42 rfl ?_
          refine sw_bipush (np := 45) dX9_shift_43 sw_bc_50 rfl ?_
          refine sw_icmp_lt (np := 48) (tp := 63) dX9_shift_45 rfl rfl ?_ ?_
          · refine sw_bipush (np := 65) dX9_shift_63 sw_bc_m12 rfl ?_
            exact sw_iret dX9_shift_65
          · refine sw_ald_7_0 (np := 49) dX9_shift_48 rfl ?_
            refine sw_gR (np := 52) sw_f_RX9_64 sw_k_105 sw_r_105_38 dX9_shift_49 rfl ?_
            refine sw_ild_7_1 (np := 53) dX9_shift_52 rfl ?_
            refine sw_iald (np := 54) sw_k_124 sw_n_124 dX9_shift_53 rfl ?_
            refine sw_ald_7_0 (np := 55) dX9_shift_54 rfl ?_
            refine sw_gR (np := 58) sw_f_RX9_64 sw_k_105 sw_r_105_38 dX9_shift_55 rfl ?_
            refine sw_ild_7_3 (np := 59) dX9_shift_58 rfl ?_
            refine sw_iald (np := 60) sw_k_124 sw_n_124 dX9_shift_59 rfl ?_
            refine sw_icmp_eq (np := 63) (tp := 66) dX9_shift_60 rfl rfl ?_ ?_
            · refine sw_ild_7_5 (np := 68) dX9_shift_66 rfl ?_
              refine sw_if_lt (np := 71) (tp := 107) dX9_shift_68 rfl rfl ?_ ?_
              · refine sw_bipush (np := 109) dX9_shift_107 sw_bc_m13 rfl ?_
                exact sw_iret dX9_shift_109
              · refine sw_ild_7_2 (np := 72) dX9_shift_71 rfl ?_
                refine sw_if_lt (np := 75) (tp := 107) dX9_shift_72 rfl rfl ?_ ?_
                · refine sw_bipush (np := 109) dX9_shift_107 sw_bc_m13 rfl ?_
                  exact sw_iret dX9_shift_109
                · refine sw_ild_7_4 (np := 77) dX9_shift_75 rfl ?_
                  refine sw_if_lt (np := 80) (tp := 107) dX9_shift_77 rfl rfl ?_ ?_
                  · refine sw_bipush (np := 109) dX9_shift_107 sw_bc_m13 rfl ?_
                    exact sw_iret dX9_shift_109
                  · refine sw_ild_7_2 (np := 81) dX9_shift_80 rfl ?_
                    refine sw_ald_7_0 (np := 82) dX9_shift_81 rfl ?_
                    refine sw_gR (np := 85) sw_f_RX9_67 sw_k_105 sw_r_105_39 dX9_shift_82 rfl ?_
                    refine sw_ild_7_1 (np := 86) dX9_shift_85 rfl ?_
                    refine sw_iald (np := 87) sw_k_125 sw_n_125 dX9_shift_86 rfl ?_
                    refine sw_ild_7_5 (np := 89) dX9_shift_87 rfl ?_
                    refine sw_isub (np := 90) dX9_shift_89 rfl ?_
                    refine sw_icmp_gt (np := 93) (tp := 107) dX9_shift_90 rfl rfl ?_ ?_
                    · refine sw_bipush (np := 109) dX9_shift_107 sw_bc_m13 rfl ?_
                      exact sw_iret dX9_shift_109
                    · refine sw_ild_7_4 (np := 95) dX9_shift_93 rfl ?_
                      refine sw_ald_7_0 (np := 96) dX9_shift_95 rfl ?_
                      refine sw_gR (np := 99) sw_f_RX9_67 sw_k_105 sw_r_105_39 dX9_shift_96 rfl ?_
                      refine sw_ild_7_3 (np := 100) dX9_shift_99 rfl ?_
                      refine sw_iald (np := 101) sw_k_125 sw_n_125 dX9_shift_100 rfl ?_
                      refine sw_ild_7_5 (np := 103) dX9_shift_101 rfl ?_
                      refine sw_isub (np := 104) dX9_shift_103 rfl ?_
                      refine sw_icmp_le (np := 107) (tp := 110) dX9_shift_104 rfl rfl ?_ ?_
                      · refine sw_iconst (np := 111) dX9_shift_110 sw_ic_0 rfl ?_
                        refine sw_ist_7_6 (np := 113) dX9_shift_111 rfl rfl ?_
                        refine sw_lp1 (lv := fun x6_1 => [some (sw_vr G 105), some (.int p1), some (.int p2), some (.int p3), some (.int p4), some (.int p5), some (.int x6_1)]) (fun rec1 hrec1 x6_1 S3 => ?_) _ _ _
                        refine sw_ild_7_6 (np := 115) dX9_shift_113 rfl ?_
                        refine sw_ild_7_5 (np := 117) dX9_shift_115 rfl ?_
                        refine sw_icmp_ge (np := 120) (tp := 147) dX9_shift_117 rfl rfl ?_ ?_
                        · refine sw_iconst (np := 148) dX9_shift_147 sw_ic_0 rfl ?_
                          refine sw_ist_7_6 (np := 150) dX9_shift_148 rfl rfl ?_
                          refine sw_dr_7_1 ?_
                          refine sw_dr_7_2 ?_
                          refine sw_lp1 (lv := fun x6_2 => [some (sw_vr G 105), none, none, some (.int p3), some (.int p4), some (.int p5), some (.int x6_2)]) (fun rec2 hrec2 x6_2 S4 => ?_) _ _ _
                          refine sw_ild_7_6 (np := 152) dX9_shift_150 rfl ?_
                          refine sw_ild_7_5 (np := 154) dX9_shift_152 rfl ?_
                          refine sw_icmp_ge (np := 157) (tp := 185) dX9_shift_154 rfl rfl ?_ ?_
                          · refine sw_ild_7_5 (np := 187) dX9_shift_185 rfl ?_
                            exact sw_iret dX9_shift_187
                          · refine sw_ald_7_0 (np := 158) dX9_shift_157 rfl ?_
                            refine sw_gR (np := 161) sw_f_RX9_70 sw_k_105 sw_r_105_40 dX9_shift_158 rfl ?_
                            refine sw_bipush (np := 163) dX9_shift_161 sw_bc_60 rfl ?_
                            refine sw_ild_7_3 (np := 164) dX9_shift_163 rfl ?_
                            refine sw_imul (np := 165) dX9_shift_164 rfl ?_
                            refine sw_ild_7_4 (np := 167) dX9_shift_165 rfl ?_
                            refine sw_iadd (np := 168) dX9_shift_167 rfl ?_
                            refine sw_ild_7_6 (np := 170) dX9_shift_168 rfl ?_
                            refine sw_iadd (np := 171) dX9_shift_170 rfl ?_
                            refine sw_ald_7_0 (np := 172) dX9_shift_171 rfl ?_
                            refine sw_gR (np := 175) sw_f_RX9_74 sw_k_105 sw_r_105_41 dX9_shift_172 rfl ?_
                            refine sw_ild_7_6 (np := 177) dX9_shift_175 rfl ?_
                            refine sw_lald (np := 178) sw_k_127 sw_n_127 dX9_shift_177 rfl ?_
                            refine sw_sJ (np := 179) sw_k_126 sw_n_126 dX9_shift_178 rfl (fun S5 => ?_)
                            refine sw_inc_7_6 (np := 182) dX9_shift_179 sw_ic_1 rfl rfl ?_
                            refine sw_goto (tp := 150) dX9_shift_182 rfl ?_
                            exact hrec2 _ _
                        · refine sw_ald_7_0 (np := 121) dX9_shift_120 rfl ?_
                          refine sw_gR (np := 124) sw_f_RX9_74 sw_k_105 sw_r_105_41 dX9_shift_121 rfl ?_
                          refine sw_ild_7_6 (np := 126) dX9_shift_124 rfl ?_
                          refine sw_ald_7_0 (np := 127) dX9_shift_126 rfl ?_
                          refine sw_gR (np := 130) sw_f_RX9_70 sw_k_105 sw_r_105_40 dX9_shift_127 rfl ?_
                          refine sw_bipush (np := 132) dX9_shift_130 sw_bc_60 rfl ?_
                          refine sw_ild_7_1 (np := 133) dX9_shift_132 rfl ?_
                          refine sw_imul (np := 134) dX9_shift_133 rfl ?_
                          refine sw_ild_7_2 (np := 135) dX9_shift_134 rfl ?_
                          refine sw_iadd (np := 136) dX9_shift_135 rfl ?_
                          refine sw_ild_7_6 (np := 138) dX9_shift_136 rfl ?_
                          refine sw_iadd (np := 139) dX9_shift_138 rfl ?_
                          refine sw_lald (np := 140) sw_k_126 sw_n_126 dX9_shift_139 rfl ?_
                          refine sw_sJ (np := 141) sw_k_127 sw_n_127 dX9_shift_140 rfl (fun S6 => ?_)
                          refine sw_inc_7_6 (np := 144) dX9_shift_141 sw_ic_1 rfl rfl ?_
                          refine sw_goto (tp := 113) dX9_shift_144 rfl ?_
                          exact hrec1 _ _
                      · refine sw_bipush (np := 109) dX9_shift_107 sw_bc_m13 rfl ?_
                        exact sw_iret dX9_shift_109
            · refine sw_bipush (np := 65) dX9_shift_63 sw_bc_m12 rfl ?_
              exact sw_iret dX9_shift_65
        · refine sw_bipush (np := 36) dX9_shift_34 sw_bc_m11 rfl ?_
          exact sw_iret dX9_shift_36
    · refine sw_iconst (np := 15) dX9_shift_14 sw_ic_m1 rfl ?_
      exact sw_iret dX9_shift_15
/-- SwordAtticModel.taken(II)I -/
def fX9_taken (N : Nat) (p1 : Int32) (p2 : Int32) (S : sw_St) : Option (Int32 × sw_St) :=
  sw_bd (fX9_isShelf N p1 S) (fun r1 S1 => (if r1 = 0 then (some ((-1 : Int32), S1)) else (sw_bd (fX9_within N p2.toInt64 (0 : Int64) (7 : Int64) S1) (fun r2 S2 => (if r2 = 0 then (some ((-1 : Int32), S2)) else (sw_gd (sw_in p1 6) (if (S2.1 124 p1.toNatClampNeg) ≥ 0 then (sw_gd (sw_in p1 6) (if (S2.1 124 p1.toNatClampNeg) < (50 : Int32) then (sw_gd (sw_in p1 6) (sw_bd (fX9_kindOf N (S2.1 124 p1.toNatClampNeg) S2) (fun r3 S3 => (sw_fx1 (fun rec1 x3_1 S4 => (if x3_1 = p2 then (if x3_1 = p2 then (sw_gd (sw_in p1 6) (sw_bd (fX9_kindOf N (S4.1 124 p1.toNatClampNeg) S4) (fun r4 S5 => (some (r4, S5))))) else (some ((-12 : Int32), S4))) else (if x3_1 ≤ 0 then (if x3_1 = p2 then (sw_gd (sw_in p1 6) (sw_bd (fX9_kindOf N (S4.1 124 p1.toNatClampNeg) S4) (fun r5 S6 => (some (r5, S6))))) else (some ((-12 : Int32), S4))) else (sw_bd (fX9_above N x3_1 S4) (fun r6 S7 => (rec1 r6 S7)))))) N r3 S3)))) else (some ((-12 : Int32), S2)))) else (some ((-11 : Int32), S2)))))))))
theorem hX9_taken {G : sw_G} {N d : Nat} (hd : 3 ≤ d) {p1 : Int32} {p2 : Int32}  {S : sw_St} : sw_Ev G yX9_taken cX9_taken 4 (some .int) d sw_ei [sw_vr G 105, .int p1, .int p2] S (fX9_taken N p1 p2 S) := by
  refine sw_Ev_of (own := RX9) (lv0 := [some (sw_vr G 105), some (.int p1), some (.int p2), none]) (by decide) rfl (Nat.le_of_ble_eq_true rfl) rfl ?_
  unfold fX9_taken
  refine sw_ild_4_1 (np := 1) dX9_taken_0 rfl ?_
  refine sw_cS1i (np := 4) (hX9_isShelf (d := d - 1) (by omega) ) sw_ms_X9_isShelf sw_wl_RX9_119 dX9_taken_1 (sw_fit_rm (by omega) (by decide)) (Nat.le_of_ble_eq_true rfl) rfl (fun r1 S1 => ?_)
  refine sw_if_eq (np := 7) (tp := 19) dX9_taken_4 rfl rfl ?_ ?_
  · refine sw_iconst (np := 20) dX9_taken_19 sw_ic_m1 rfl ?_
    exact sw_iret dX9_taken_20
  · refine sw_ild_4_2 (np := 8) dX9_taken_7 rfl ?_
    refine sw_i2l (np := 9) dX9_taken_8 rfl ?_
    refine sw_lconst (np := 10) dX9_taken_9 sw_lc_0 rfl ?_
    refine sw_ldc2 (np := 13) sw_wc_RX9_132 dX9_taken_10 rfl ?_
    refine sw_cS3i (np := 16) (hX9_within (d := d - 1) (by omega) ) sw_ms_X9_within sw_wl_RX9_98 dX9_taken_13 (sw_fit_rm (by omega) (by decide)) (Nat.le_of_ble_eq_true rfl) rfl (fun r2 S2 => ?_)
    refine sw_if_ne (np := 19) (tp := 21) dX9_taken_16 rfl rfl ?_ ?_
    · refine sw_ald_4_0 (np := 22) dX9_taken_21 rfl ?_
      refine sw_gR (np := 25) sw_f_RX9_64 sw_k_105 sw_r_105_38 dX9_taken_22 rfl ?_
      refine sw_ild_4_1 (np := 26) dX9_taken_25 rfl ?_
      refine sw_iald (np := 27) sw_k_124 sw_n_124 dX9_taken_26 rfl ?_
      refine sw_if_ge (np := 30) (tp := 33) dX9_taken_27 rfl rfl ?_ ?_
      · refine sw_ald_4_0 (np := 34) dX9_taken_33 rfl ?_
        refine sw_gR (np := 37) sw_f_RX9_64 sw_k_105 sw_r_105_38 dX9_taken_34 rfl ?_
        refine sw_ild_4_1 (np := 38) dX9_taken_37 rfl ?_
        refine sw_iald (np := 39) sw_k_124 sw_n_124 dX9_taken_38 rfl ?_
        refine sw_bipush (np := 41) dX9_taken_39 sw_bc_50 rfl ?_
        refine sw_icmp_lt (np := 44) (tp := 47) dX9_taken_41 rfl rfl ?_ ?_
        · refine sw_ald_4_0 (np := 48) dX9_taken_47 rfl ?_
          refine sw_ald_4_0 (np := 49) dX9_taken_48 rfl ?_
          refine sw_gR (np := 52) sw_f_RX9_64 sw_k_105 sw_r_105_38 dX9_taken_49 rfl ?_
          refine sw_ild_4_1 (np := 53) dX9_taken_52 rfl ?_
          refine sw_iald (np := 54) sw_k_124 sw_n_124 dX9_taken_53 rfl ?_
          refine sw_cV1i (np := 57) (hX9_kindOf (d := d - 1) (by omega) ) sw_mv_X9_kindOf sw_k_105 sw_wl_RX9_361 dX9_taken_54 (sw_fit_rm (by omega) (by decide)) (Nat.le_of_ble_eq_true rfl) rfl (fun r3 S3 => ?_)
          refine sw_ist_4_3 (np := 58) dX9_taken_57 rfl rfl ?_
          refine sw_lp1 (lv := fun x3_1 => [some (sw_vr G 105), some (.int p1), some (.int p2), some (.int x3_1)]) (fun rec1 hrec1 x3_1 S4 => ?_) _ _ _
          refine sw_ild_4_3 (np := 59) dX9_taken_58 rfl ?_
          refine sw_ild_4_2 (np := 60) dX9_taken_59 rfl ?_
          refine sw_icmp_eq (np := 63) (tp := 75) dX9_taken_60 rfl rfl ?_ ?_
          · refine sw_ild_4_3 (np := 76) dX9_taken_75 rfl ?_
            refine sw_ild_4_2 (np := 77) dX9_taken_76 rfl ?_
            refine sw_icmp_ne (np := 80) (tp := 93) dX9_taken_77 rfl rfl ?_ ?_
            · refine sw_bipush (np := 95) dX9_taken_93 sw_bc_m12 rfl ?_
              exact sw_iret dX9_taken_95
            · refine sw_ald_4_0 (np := 81) dX9_taken_80 rfl ?_
              refine sw_ald_4_0 (np := 82) dX9_taken_81 rfl ?_
              refine sw_gR (np := 85) sw_f_RX9_64 sw_k_105 sw_r_105_38 dX9_taken_82 rfl ?_
              refine sw_ild_4_1 (np := 86) dX9_taken_85 rfl ?_
              refine sw_iald (np := 87) sw_k_124 sw_n_124 dX9_taken_86 rfl ?_
              refine sw_cV1i (np := 90) (hX9_kindOf (d := d - 1) (by omega) ) sw_mv_X9_kindOf sw_k_105 sw_wl_RX9_361 dX9_taken_87 (sw_fit_rm (by omega) (by decide)) (Nat.le_of_ble_eq_true rfl) rfl (fun r4 S5 => ?_)
              refine sw_goto (tp := 95) dX9_taken_90 rfl ?_
              exact sw_iret dX9_taken_95
          · refine sw_ild_4_3 (np := 64) dX9_taken_63 rfl ?_
            refine sw_if_le (np := 67) (tp := 75) dX9_taken_64 rfl rfl ?_ ?_
            · refine sw_ild_4_3 (np := 76) dX9_taken_75 rfl ?_
              refine sw_ild_4_2 (np := 77) dX9_taken_76 rfl ?_
              refine sw_icmp_ne (np := 80) (tp := 93) dX9_taken_77 rfl rfl ?_ ?_
              · refine sw_bipush (np := 95) dX9_taken_93 sw_bc_m12 rfl ?_
                exact sw_iret dX9_taken_95
              · refine sw_ald_4_0 (np := 81) dX9_taken_80 rfl ?_
                refine sw_ald_4_0 (np := 82) dX9_taken_81 rfl ?_
                refine sw_gR (np := 85) sw_f_RX9_64 sw_k_105 sw_r_105_38 dX9_taken_82 rfl ?_
                refine sw_ild_4_1 (np := 86) dX9_taken_85 rfl ?_
                refine sw_iald (np := 87) sw_k_124 sw_n_124 dX9_taken_86 rfl ?_
                refine sw_cV1i (np := 90) (hX9_kindOf (d := d - 1) (by omega) ) sw_mv_X9_kindOf sw_k_105 sw_wl_RX9_361 dX9_taken_87 (sw_fit_rm (by omega) (by decide)) (Nat.le_of_ble_eq_true rfl) rfl (fun r5 S6 => ?_)
                refine sw_goto (tp := 95) dX9_taken_90 rfl ?_
                exact sw_iret dX9_taken_95
            · refine sw_ild_4_3 (np := 68) dX9_taken_67 rfl ?_
              refine sw_cS1i (np := 71) (hX9_above (d := d - 1) (by omega) ) sw_ms_X9_above sw_wl_RX9_364 dX9_taken_68 (sw_fit_rm (by omega) (by decide)) (Nat.le_of_ble_eq_true rfl) rfl (fun r6 S7 => ?_)
              refine sw_ist_4_3 (np := 72) dX9_taken_71 rfl rfl ?_
              refine sw_goto (tp := 58) dX9_taken_72 rfl ?_
              exact hrec1 _ _
        · refine sw_bipush (np := 46) dX9_taken_44 sw_bc_m12 rfl ?_
          exact sw_iret dX9_taken_46
      · refine sw_bipush (np := 32) dX9_taken_30 sw_bc_m11 rfl ?_
        exact sw_iret dX9_taken_32
    · refine sw_iconst (np := 20) dX9_taken_19 sw_ic_m1 rfl ?_
      exact sw_iret dX9_taken_20
/-- SwordAtticModel.count(I)I -/
def fX9_count (N : Nat) (p1 : Int32) (S : sw_St) : Option (Int32 × sw_St) :=
  if p1 = (0 : Int32) then (some ((S.1 105 6), S)) else (if p1 = (1 : Int32) then (sw_bd (fX9_manyAwake N S) (fun r1 S1 => (some (r1, S1)))) else (if p1 = (2 : Int32) then (some ((S.1 105 8), S)) else (if p1 = (3 : Int32) then (some ((S.1 105 5), S)) else (if p1 = (4 : Int32) then (some ((S.1 105 32), S)) else (if p1 = (5 : Int32) then (some ((S.1 105 35), S)) else (some ((-1 : Int32), S)))))))
theorem hX9_count {G : sw_G} {N d : Nat} (hd : 5 ≤ d) {p1 : Int32}  {S : sw_St} : sw_Ev G yX9_count cX9_count 2 (some .int) d sw_ei [sw_vr G 105, .int p1] S (fX9_count N p1 S) := by
  refine sw_Ev_of (own := RX9) (lv0 := [some (sw_vr G 105), some (.int p1)]) (by decide) rfl (Nat.le_of_ble_eq_true rfl) rfl ?_
  unfold fX9_count
  refine sw_ild_2_1 (np := 1) dX9_count_0 rfl ?_
  refine sw_ite (fun hs1 => ?_) (fun hs1 => ?_)
  · refine sw_tabIn (tp := 40) dX9_count_1 (by rw [hs1]; decide) (by rw [hs1]; decide) (by rw [hs1]; rfl) rfl ?_
    refine sw_ald_2_0 (np := 41) dX9_count_40 rfl ?_
    refine sw_gI (np := 44) sw_f_RX9_95 sw_k_105 dX9_count_41 rfl ?_
    exact sw_iret dX9_count_44
  · refine sw_ite (fun hs2 => ?_) (fun hs2 => ?_)
    · refine sw_tabIn (tp := 45) dX9_count_1 (by rw [hs2]; decide) (by rw [hs2]; decide) (by rw [hs2]; rfl) rfl ?_
      refine sw_ald_2_0 (np := 46) dX9_count_45 rfl ?_
      refine sw_cV0i (np := 49) (hX9_manyAwake (d := d - 1) (by omega) ) sw_mv_X9_manyAwake sw_k_105 sw_wl_RX9_367 dX9_count_46 (sw_fit_rm (by omega) (by decide)) (Nat.le_of_ble_eq_true rfl) rfl (fun r1 S1 => ?_)
      exact sw_iret dX9_count_49
    · refine sw_ite (fun hs3 => ?_) (fun hs3 => ?_)
      · refine sw_tabIn (tp := 50) dX9_count_1 (by rw [hs3]; decide) (by rw [hs3]; decide) (by rw [hs3]; rfl) rfl ?_
        refine sw_ald_2_0 (np := 51) dX9_count_50 rfl ?_
        refine sw_gI (np := 54) sw_f_RX9_149 sw_k_105 dX9_count_51 rfl ?_
        exact sw_iret dX9_count_54
      · refine sw_ite (fun hs4 => ?_) (fun hs4 => ?_)
        · refine sw_tabIn (tp := 55) dX9_count_1 (by rw [hs4]; decide) (by rw [hs4]; decide) (by rw [hs4]; rfl) rfl ?_
          refine sw_ald_2_0 (np := 56) dX9_count_55 rfl ?_
          refine sw_gI (np := 59) sw_f_RX9_81 sw_k_105 dX9_count_56 rfl ?_
          exact sw_iret dX9_count_59
        · refine sw_ite (fun hs5 => ?_) (fun hs5 => ?_)
          · refine sw_tabIn (tp := 60) dX9_count_1 (by rw [hs5]; decide) (by rw [hs5]; decide) (by rw [hs5]; rfl) rfl ?_
            refine sw_ald_2_0 (np := 61) dX9_count_60 rfl ?_
            refine sw_gI (np := 64) sw_f_RX9_320 sw_k_105 dX9_count_61 rfl ?_
            exact sw_iret dX9_count_64
          · refine sw_ite (fun hs6 => ?_) (fun hs6 => ?_)
            · refine sw_tabIn (tp := 65) dX9_count_1 (by rw [hs6]; decide) (by rw [hs6]; decide) (by rw [hs6]; rfl) rfl ?_
              refine sw_ald_2_0 (np := 66) dX9_count_65 rfl ?_
              refine sw_gI (np := 69) sw_f_RX9_323 sw_k_105 dX9_count_66 rfl ?_
              exact sw_iret dX9_count_69
            · have hs1n := sw_neI sw_ic_0 (by decide) (by decide) hs1
              have hs2n := sw_neI sw_ic_1 (by decide) (by decide) hs2
              have hs3n := sw_neI sw_ic_2 (by decide) (by decide) hs3
              have hs4n := sw_neI sw_ic_3 (by decide) (by decide) hs4
              have hs5n := sw_neI sw_ic_4 (by decide) (by decide) hs5
              have hs6n := sw_neI sw_ic_5 (by decide) (by decide) hs6
              refine sw_tabOut (tp := 70) dX9_count_1 (by omega) rfl ?_
              refine sw_iconst (np := 71) dX9_count_70 sw_ic_m1 rfl ?_
              exact sw_iret dX9_count_71
