/-- SwordAtticModel.keep(II)I -/
def fX9_keep (N : Nat) (p1 : Int32) (p2 : Int32) (S : sw_St) : Option (Int32 × sw_St) :=
  sw_bd (fX9_isShelf N p1 S) (fun r1 S1 => (if r1 = 0 then (some ((-1 : Int32), S1)) else (if p2 = (-1 : Int32) then (sw_gd (sw_in p1 6) (sw_ls (sw_si S1 124 p1.toNatClampNeg p2) (fun S2 => (sw_gd (sw_in p1 6) (sw_ls (sw_si S2 125 p1.toNatClampNeg (0 : Int32)) (fun S3 => (some ((1 : Int32), S3)))))))) else (sw_bd (fX9_isBody N p2 S1) (fun r2 S4 => (if r2 = 0 then (some ((-1 : Int32), S4)) else (sw_gd (sw_in p1 6) (sw_ls (sw_si S4 124 p1.toNatClampNeg p2) (fun S5 => (sw_gd (sw_in p1 6) (sw_ls (sw_si S5 125 p1.toNatClampNeg (0 : Int32)) (fun S6 => (some ((1 : Int32), S6))))))))))))))
theorem hX9_keep {G : sw_G} {N d : Nat} (hd : 3 ≤ d) {p1 : Int32} {p2 : Int32}  {S : sw_St} : sw_Ev G yX9_keep cX9_keep 3 (some .int) d sw_ei [sw_vr G 105, .int p1, .int p2] S (fX9_keep N p1 p2 S) := by
  refine sw_Ev_of (own := RX9) (lv0 := [some (sw_vr G 105), some (.int p1), some (.int p2)]) (by decide) rfl (Nat.le_of_ble_eq_true rfl) rfl ?_
  unfold fX9_keep
  refine sw_ild_3_1 (np := 1) dX9_keep_0 rfl ?_
  refine sw_cS1i (np := 4) (hX9_isShelf (d := d - 1) (by omega) ) sw_ms_X9_isShelf sw_wl_RX9_119 dX9_keep_1 (sw_fit_rm (by omega) (by decide)) (Nat.le_of_ble_eq_true rfl) rfl (fun r1 S1 => ?_)
  refine sw_if_eq (np := 7) (tp := 20) dX9_keep_4 rfl rfl ?_ ?_
  · refine sw_iconst (np := 21) dX9_keep_20 sw_ic_m1 rfl ?_
    exact sw_iret dX9_keep_21
  · refine sw_ild_3_2 (np := 8) dX9_keep_7 rfl ?_
    refine sw_iconst (np := 9) dX9_keep_8 sw_ic_m1 rfl ?_
    refine sw_icmp_eq (np := 12) (tp := 22) dX9_keep_9 rfl rfl ?_ ?_
    · refine sw_ald_3_0 (np := 23) dX9_keep_22 rfl ?_
      refine sw_gR (np := 26) sw_f_RX9_64 sw_k_105 sw_r_105_38 dX9_keep_23 rfl ?_
      refine sw_ild_3_1 (np := 27) dX9_keep_26 rfl ?_
      refine sw_ild_3_2 (np := 28) dX9_keep_27 rfl ?_
      refine sw_sI (np := 29) sw_k_124 sw_n_124 dX9_keep_28 rfl (fun S2 => ?_)
      refine sw_ald_3_0 (np := 30) dX9_keep_29 rfl ?_
      refine sw_gR (np := 33) sw_f_RX9_67 sw_k_105 sw_r_105_39 dX9_keep_30 rfl ?_
      refine sw_ild_3_1 (np := 34) dX9_keep_33 rfl ?_
      refine sw_iconst (np := 35) dX9_keep_34 sw_ic_0 rfl ?_
      refine sw_sI (np := 36) sw_k_125 sw_n_125 dX9_keep_35 rfl (fun S3 => ?_)
      refine sw_iconst (np := 37) dX9_keep_36 sw_ic_1 rfl ?_
      exact sw_iret dX9_keep_37
    · refine sw_ald_3_0 (np := 13) dX9_keep_12 rfl ?_
      refine sw_ild_3_2 (np := 14) dX9_keep_13 rfl ?_
      refine sw_cV1i (np := 17) (hX9_isBody (d := d - 1) (by omega) ) sw_mv_X9_isBody sw_k_105 sw_wl_RX9_347 dX9_keep_14 (sw_fit_rm (by omega) (by decide)) (Nat.le_of_ble_eq_true rfl) rfl (fun r2 S4 => ?_)
      refine sw_if_ne (np := 20) (tp := 22) dX9_keep_17 rfl rfl ?_ ?_
      · refine sw_ald_3_0 (np := 23) dX9_keep_22 rfl ?_
        refine sw_gR (np := 26) sw_f_RX9_64 sw_k_105 sw_r_105_38 dX9_keep_23 rfl ?_
        refine sw_ild_3_1 (np := 27) dX9_keep_26 rfl ?_
        refine sw_ild_3_2 (np := 28) dX9_keep_27 rfl ?_
        refine sw_sI (np := 29) sw_k_124 sw_n_124 dX9_keep_28 rfl (fun S5 => ?_)
        refine sw_ald_3_0 (np := 30) dX9_keep_29 rfl ?_
        refine sw_gR (np := 33) sw_f_RX9_67 sw_k_105 sw_r_105_39 dX9_keep_30 rfl ?_
        refine sw_ild_3_1 (np := 34) dX9_keep_33 rfl ?_
        refine sw_iconst (np := 35) dX9_keep_34 sw_ic_0 rfl ?_
        refine sw_sI (np := 36) sw_k_125 sw_n_125 dX9_keep_35 rfl (fun S6 => ?_)
        refine sw_iconst (np := 37) dX9_keep_36 sw_ic_1 rfl ?_
        exact sw_iret dX9_keep_37
      · refine sw_iconst (np := 21) dX9_keep_20 sw_ic_m1 rfl ?_
        exact sw_iret dX9_keep_21
/-- SwordAtticModel.row(III)I -/
def fX9_row (N : Nat) (p1 : Int32) (p2 : Int32) (p3 : Int32) (S : sw_St) : Option (Int32 × sw_St) :=
  sw_bd (fX9_isShelf N p1 S) (fun r1 S1 => (if r1 = 0 then (some ((-1 : Int32), S1)) else (sw_bd (fX9_within N p2.toInt64 (0 : Int64) (4 : Int64) S1) (fun r2 S2 => (if r2 = 0 then (some ((-1 : Int32), S2)) else (if p3 ≤ (60 : Int32) then (if p3 ≥ 0 then (sw_gd (sw_in p1 6) (sw_ls (sw_si S2 124 p1.toNatClampNeg ((50 : Int32) + p2)) (fun S3 => (sw_gd (sw_in p1 6) (sw_ls (sw_si S3 125 p1.toNatClampNeg p3) (fun S4 => (sw_li ((60 : Int32) * p1) (fun x4_1 => (sw_fx1 (fun rec1 x4_2 S5 => (if x4_2 ≥ (((60 : Int32) * p1) + (60 : Int32)) then (some ((1 : Int32), S5)) else (sw_gd (sw_in x4_2 360) (sw_ls (sw_sj S5 126 x4_2.toNatClampNeg (0 : Int64)) (fun S6 => (rec1 (x4_2 + (1 : Int32)) S6)))))) N x4_1 S4))))))))) else (some ((-14 : Int32), S2))) else (some ((-1 : Int32), S2))))))))
theorem hX9_row {G : sw_G} {N d : Nat} (hd : 3 ≤ d) {p1 : Int32} {p2 : Int32} {p3 : Int32}  {S : sw_St} : sw_Ev G yX9_row cX9_row 5 (some .int) d sw_ei [sw_vr G 105, .int p1, .int p2, .int p3] S (fX9_row N p1 p2 p3 S) := by
  refine sw_Ev_of (own := RX9) (lv0 := [some (sw_vr G 105), some (.int p1), some (.int p2), some (.int p3), none]) (by decide) rfl (Nat.le_of_ble_eq_true rfl) rfl ?_
  unfold fX9_row
  refine sw_ild_5_1 (np := 1) dX9_row_0 rfl ?_
  refine sw_cS1i (np := 4) (hX9_isShelf (d := d - 1) (by omega) ) sw_ms_X9_isShelf sw_wl_RX9_119 dX9_row_1 (sw_fit_rm (by omega) (by decide)) (Nat.le_of_ble_eq_true rfl) rfl (fun r1 S1 => ?_)
  refine sw_if_eq (np := 7) (tp := 25) dX9_row_4 rfl rfl ?_ ?_
  · refine sw_iconst (np := 26) dX9_row_25 sw_ic_m1 rfl ?_
    exact sw_iret dX9_row_26
  · refine sw_ild_5_2 (np := 8) dX9_row_7 rfl ?_
    refine sw_i2l (np := 9) dX9_row_8 rfl ?_
    refine sw_lconst (np := 10) dX9_row_9 sw_lc_0 rfl ?_
    refine sw_ldc2 (np := 13) sw_wc_RX9_125 dX9_row_10 rfl ?_
    refine sw_cS3i (np := 16) (hX9_within (d := d - 1) (by omega) ) sw_ms_X9_within sw_wl_RX9_98 dX9_row_13 (sw_fit_rm (by omega) (by decide)) (Nat.le_of_ble_eq_true rfl) rfl (fun r2 S2 => ?_)
    refine sw_if_eq (np := 19) (tp := 25) dX9_row_16 rfl rfl ?_ ?_
    · refine sw_iconst (np := 26) dX9_row_25 sw_ic_m1 rfl ?_
      exact sw_iret dX9_row_26
    · refine sw_ild_5_3 (np := 20) dX9_row_19 rfl ?_
      refine sw_bipush (np := 22) dX9_row_20 sw_bc_60 rfl ?_
      refine sw_icmp_le (np := 25) (tp := 27) dX9_row_22 rfl rfl ?_ ?_
      · refine sw_ild_5_3 (np := 28) dX9_row_27 rfl ?_
        refine sw_if_ge (np := 31) (tp := 34) dX9_row_28 rfl rfl ?_ ?_
        · refine sw_ald_5_0 (np := 35) dX9_row_34 rfl ?_
          refine sw_gR (np := 38) sw_f_RX9_64 sw_k_105 sw_r_105_38 dX9_row_35 rfl ?_
          refine sw_ild_5_1 (np := 39) dX9_row_38 rfl ?_
          refine sw_bipush (np := 41) dX9_row_39 sw_bc_50 rfl ?_
          refine sw_ild_5_2 (np := 42) dX9_row_41 rfl ?_
          refine sw_iadd (np := 43) dX9_row_42 rfl ?_
          refine sw_sI (np := 44) sw_k_124 sw_n_124 dX9_row_43 rfl (fun S3 => ?_)
          refine sw_ald_5_0 (np := 45) dX9_row_44 rfl ?_
          refine sw_gR (np := 48) sw_f_RX9_67 sw_k_105 sw_r_105_39 dX9_row_45 rfl ?_
          refine sw_ild_5_1 (np := 49) dX9_row_48 rfl ?_
          refine sw_ild_5_3 (np := 50) dX9_row_49 rfl ?_
          refine sw_sI (np := 51) sw_k_125 sw_n_125 dX9_row_50 rfl (fun S4 => ?_)
          refine sw_bipush (np := 53) dX9_row_51 sw_bc_60 rfl ?_
          refine sw_ild_5_1 (np := 54) dX9_row_53 rfl ?_
          refine sw_imul (np := 55) dX9_row_54 rfl ?_
          refine sw_isl_5_4 (np := 57) dX9_row_55 rfl rfl (fun x4_1 => ?_)
          refine sw_dr_5_2 ?_
          refine sw_dr_5_3 ?_
          refine sw_lp1 (lv := fun x4_2 => [some (sw_vr G 105), some (.int p1), none, none, some (.int x4_2)]) (fun rec1 hrec1 x4_2 S5 => ?_) _ _ _
          refine sw_ild_5_4 (np := 59) dX9_row_57 rfl ?_
          refine sw_bipush (np := 61) dX9_row_59 sw_bc_60 rfl ?_
          refine sw_ild_5_1 (np := 62) dX9_row_61 rfl ?_
          refine sw_imul (np := 63) dX9_row_62 rfl ?_
          refine sw_bipush (np := 65) dX9_row_63 sw_bc_60 rfl ?_
          refine sw_iadd (np := 66) dX9_row_65 rfl ?_
          refine sw_icmp_ge (np := 69) (tp := 83) dX9_row_66 rfl rfl ?_ ?_
          · refine sw_iconst (np := 84) dX9_row_83 sw_ic_1 rfl ?_
            exact sw_iret dX9_row_84
          · refine sw_ald_5_0 (np := 70) dX9_row_69 rfl ?_
            refine sw_gR (np := 73) sw_f_RX9_70 sw_k_105 sw_r_105_40 dX9_row_70 rfl ?_
            refine sw_ild_5_4 (np := 75) dX9_row_73 rfl ?_
            refine sw_lconst (np := 76) dX9_row_75 sw_lc_0 rfl ?_
            refine sw_sJ (np := 77) sw_k_126 sw_n_126 dX9_row_76 rfl (fun S6 => ?_)
            refine sw_inc_5_4 (np := 80) dX9_row_77 sw_ic_1 rfl rfl ?_
            refine sw_goto (tp := 57) dX9_row_80 rfl ?_
            exact hrec1 _ _
        · refine sw_bipush (np := 33) dX9_row_31 sw_bc_m14 rfl ?_
          exact sw_iret dX9_row_33
      · refine sw_iconst (np := 26) dX9_row_25 sw_ic_m1 rfl ?_
        exact sw_iret dX9_row_26
/-- SwordAtticModel.refusal(II)I -/
def fX9_refusal (N : Nat) (p1 : Int32) (p2 : Int32) (S : sw_St) : Option (Int32 × sw_St) :=
  sw_bd (fX9_isShelf N p1 S) (fun r1 S1 => (if r1 = 0 then (some ((-1 : Int32), S1)) else (sw_gd (sw_in p1 6) (if (S1.1 124 p1.toNatClampNeg) ≥ 0 then (sw_gd (sw_in p1 6) (if (S1.1 124 p1.toNatClampNeg) ≥ (50 : Int32) then (if p2 < 0 then (some ((-13 : Int32), S1)) else (sw_gd (sw_in p1 6) (if p2 ≥ (S1.1 125 p1.toNatClampNeg) then (some ((-13 : Int32), S1)) else (some ((0 : Int32), S1))))) else (some ((-12 : Int32), S1)))) else (some ((-11 : Int32), S1))))))
theorem hX9_refusal {G : sw_G} {N d : Nat} (hd : 3 ≤ d) {p1 : Int32} {p2 : Int32}  {S : sw_St} : sw_Ev G yX9_refusal cX9_refusal 3 (some .int) d sw_ei [sw_vr G 105, .int p1, .int p2] S (fX9_refusal N p1 p2 S) := by
  refine sw_Ev_of (own := RX9) (lv0 := [some (sw_vr G 105), some (.int p1), some (.int p2)]) (by decide) rfl (Nat.le_of_ble_eq_true rfl) rfl ?_
  unfold fX9_refusal
  refine sw_ild_3_1 (np := 1) dX9_refusal_0 rfl ?_
  refine sw_cS1i (np := 4) (hX9_isShelf (d := d - 1) (by omega) ) sw_ms_X9_isShelf sw_wl_RX9_119 dX9_refusal_1 (sw_fit_rm (by omega) (by decide)) (Nat.le_of_ble_eq_true rfl) rfl (fun r1 S1 => ?_)
  refine sw_if_ne (np := 7) (tp := 9) dX9_refusal_4 rfl rfl ?_ ?_
  · refine sw_ald_3_0 (np := 10) dX9_refusal_9 rfl ?_
    refine sw_gR (np := 13) sw_f_RX9_64 sw_k_105 sw_r_105_38 dX9_refusal_10 rfl ?_
    refine sw_ild_3_1 (np := 14) dX9_refusal_13 rfl ?_
    refine sw_iald (np := 15) sw_k_124 sw_n_124 dX9_refusal_14 rfl ?_
    refine sw_if_ge (np := 18) (tp := 21) dX9_refusal_15 rfl rfl ?_ ?_
    · refine sw_ald_3_0 (np := 22) dX9_refusal_21 rfl ?_
      refine sw_gR (np := 25) sw_f_RX9_64 sw_k_105 sw_r_105_38 dX9_refusal_22 rfl ?_
      refine sw_ild_3_1 (np := 26) dX9_refusal_25 rfl ?_
      refine sw_iald (np := 27) sw_k_124 sw_n_124 dX9_refusal_26 rfl ?_
      refine sw_bipush (np := 29) dX9_refusal_27 sw_bc_50 rfl ?_
      refine sw_icmp_ge (np := 32) (tp := 35) dX9_refusal_29 rfl rfl ?_ ?_
      · refine sw_ild_3_2 (np := 36) dX9_refusal_35 rfl ?_
        refine sw_if_lt (np := 39) (tp := 53) dX9_refusal_36 rfl rfl ?_ ?_
        · refine sw_bipush (np := 55) dX9_refusal_53 sw_bc_m13 rfl ?_
          exact sw_iret dX9_refusal_55
        · refine sw_ild_3_2 (np := 40) dX9_refusal_39 rfl ?_
          refine sw_ald_3_0 (np := 41) dX9_refusal_40 rfl ?_
          refine sw_gR (np := 44) sw_f_RX9_67 sw_k_105 sw_r_105_39 dX9_refusal_41 rfl ?_
          refine sw_ild_3_1 (np := 45) dX9_refusal_44 rfl ?_
          refine sw_iald (np := 46) sw_k_125 sw_n_125 dX9_refusal_45 rfl ?_
          refine sw_icmp_ge (np := 49) (tp := 53) dX9_refusal_46 rfl rfl ?_ ?_
          · refine sw_bipush (np := 55) dX9_refusal_53 sw_bc_m13 rfl ?_
            exact sw_iret dX9_refusal_55
          · refine sw_iconst (np := 50) dX9_refusal_49 sw_ic_0 rfl ?_
            refine sw_goto (tp := 55) dX9_refusal_50 rfl ?_
            exact sw_iret dX9_refusal_55
      · refine sw_bipush (np := 34) dX9_refusal_32 sw_bc_m12 rfl ?_
        exact sw_iret dX9_refusal_34
    · refine sw_bipush (np := 20) dX9_refusal_18 sw_bc_m11 rfl ?_
      exact sw_iret dX9_refusal_20
  · refine sw_iconst (np := 8) dX9_refusal_7 sw_ic_m1 rfl ?_
    exact sw_iret dX9_refusal_8
/-- SwordAtticModel.asSort(IJ)J -/
def fX9_asSort (N : Nat) (p0 : Int32) (p1 : Int64) (S : sw_St) : Option (Int64 × sw_St) :=
  if p0 = 0 then (some (p1.toInt32.toInt8.toInt32.toInt64, S)) else (if p0 = (1 : Int32) then (some (p1.toInt32.toInt16.toInt32.toInt64, S)) else (if p0 = (2 : Int32) then (some (p1.toInt32.toInt64, S)) else (if p0 = (4 : Int32) then (if (lg_cmp p1 (0 : Int64)) = 0 then (some ((0 : Int64), S)) else (some ((1 : Int64), S))) else (some (p1, S)))))
theorem hX9_asSort {G : sw_G} {N d : Nat} (hd : 1 ≤ d) {p0 : Int32} {p1 : Int64}  {S : sw_St} : sw_Ev G yX9_asSort cX9_asSort 3 (some .long) d sw_el [.int p0, .long p1] S (fX9_asSort N p0 p1 S) := by
  refine sw_Ev_of (own := RX9) (lv0 := [some (.int p0), some (.long p1), none]) (by decide) rfl (Nat.le_of_ble_eq_true rfl) rfl ?_
  unfold fX9_asSort
  refine sw_ild_3_0 (np := 1) dX9_asSort_0 rfl ?_
  refine sw_if_ne (np := 4) (tp := 11) dX9_asSort_1 rfl rfl ?_ ?_
  · refine sw_ild_3_0 (np := 12) dX9_asSort_11 rfl ?_
    refine sw_iconst (np := 13) dX9_asSort_12 sw_ic_1 rfl ?_
    refine sw_icmp_ne (np := 16) (tp := 23) dX9_asSort_13 rfl rfl ?_ ?_
    · refine sw_ild_3_0 (np := 24) dX9_asSort_23 rfl ?_
      refine sw_iconst (np := 25) dX9_asSort_24 sw_ic_2 rfl ?_
      refine sw_icmp_ne (np := 28) (tp := 34) dX9_asSort_25 rfl rfl ?_ ?_
      · refine sw_ild_3_0 (np := 35) dX9_asSort_34 rfl ?_
        refine sw_iconst (np := 36) dX9_asSort_35 sw_ic_4 rfl ?_
        refine sw_icmp_ne (np := 39) (tp := 53) dX9_asSort_36 rfl rfl ?_ ?_
        · refine sw_lld_3_1 (np := 54) dX9_asSort_53 rfl ?_
          exact sw_lret dX9_asSort_54
        · refine sw_lld_3_1 (np := 40) dX9_asSort_39 rfl ?_
          refine sw_lconst (np := 41) dX9_asSort_40 sw_lc_0 rfl ?_
          refine sw_lcmp (np := 42) dX9_asSort_41 rfl ?_
          refine sw_if_eq (np := 45) (tp := 49) dX9_asSort_42 rfl rfl ?_ ?_
          · refine sw_lconst (np := 50) dX9_asSort_49 sw_lc_0 rfl ?_
            refine sw_goto (tp := 54) dX9_asSort_50 rfl ?_
            exact sw_lret dX9_asSort_54
          · refine sw_lconst (np := 46) dX9_asSort_45 sw_lc_1 rfl ?_
            refine sw_goto (tp := 54) dX9_asSort_46 rfl ?_
            exact sw_lret dX9_asSort_54
      · refine sw_lld_3_1 (np := 29) dX9_asSort_28 rfl ?_
        refine sw_l2i (np := 30) dX9_asSort_29 rfl ?_
        refine sw_i2l (np := 31) dX9_asSort_30 rfl ?_
        refine sw_goto (tp := 54) dX9_asSort_31 rfl ?_
        exact sw_lret dX9_asSort_54
    · refine sw_lld_3_1 (np := 17) dX9_asSort_16 rfl ?_
      refine sw_l2i (np := 18) dX9_asSort_17 rfl ?_
      refine sw_i2s (np := 19) dX9_asSort_18 rfl ?_
      refine sw_i2l (np := 20) dX9_asSort_19 rfl ?_
      refine sw_goto (tp := 54) dX9_asSort_20 rfl ?_
      exact sw_lret dX9_asSort_54
  · refine sw_lld_3_1 (np := 5) dX9_asSort_4 rfl ?_
    refine sw_l2i (np := 6) dX9_asSort_5 rfl ?_
    refine sw_i2b (np := 7) dX9_asSort_6 rfl ?_
    refine sw_i2l (np := 8) dX9_asSort_7 rfl ?_
    refine sw_goto (tp := 54) dX9_asSort_8 rfl ?_
    exact sw_lret dX9_asSort_54
/-- SwordAtticModel.put(IIJ)I -/
def fX9_put (N : Nat) (p1 : Int32) (p2 : Int32) (p3 : Int64) (S : sw_St) : Option (Int32 × sw_St) :=
  sw_bd (fX9_refusal N p1 p2 S) (fun r1 S1 => (if r1 = 0 then (sw_gd (sw_in p1 6) (sw_bd (fX9_asSort N ((S1.1 124 p1.toNatClampNeg) - (50 : Int32)) p3 S1) (fun r2 S2 => (sw_gd (sw_in (((60 : Int32) * p1) + p2) 360) (sw_ls (sw_sj S2 126 (((60 : Int32) * p1) + p2).toNatClampNeg r2) (fun S3 => (if r1 = 0 then (some ((1 : Int32), S3)) else (some (r1, S3))))))))) else (if r1 = 0 then (some ((1 : Int32), S1)) else (some (r1, S1)))))
theorem hX9_put {G : sw_G} {N d : Nat} (hd : 4 ≤ d) {p1 : Int32} {p2 : Int32} {p3 : Int64}  {S : sw_St} : sw_Ev G yX9_put cX9_put 6 (some .int) d sw_ei [sw_vr G 105, .int p1, .int p2, .long p3] S (fX9_put N p1 p2 p3 S) := by
  refine sw_Ev_of (own := RX9) (lv0 := [some (sw_vr G 105), some (.int p1), some (.int p2), some (.long p3), none, none]) (by decide) rfl (Nat.le_of_ble_eq_true rfl) rfl ?_
  unfold fX9_put
  refine sw_ald_6_0 (np := 1) dX9_put_0 rfl ?_
  refine sw_ild_6_1 (np := 2) dX9_put_1 rfl ?_
  refine sw_ild_6_2 (np := 3) dX9_put_2 rfl ?_
  refine sw_cV2i (np := 6) (hX9_refusal (d := d - 1) (by omega) ) sw_mv_X9_refusal sw_k_105 sw_wl_RX9_350 dX9_put_3 (sw_fit_rm (by omega) (by decide)) (Nat.le_of_ble_eq_true rfl) rfl (fun r1 S1 => ?_)
  refine sw_ist_6_5 (np := 8) dX9_put_6 rfl rfl ?_
  refine sw_ild_6_5 (np := 10) dX9_put_8 rfl ?_
  refine sw_if_ne (np := 13) (tp := 37) dX9_put_10 rfl rfl ?_ ?_
  · refine sw_ild_6_5 (np := 39) dX9_put_37 rfl ?_
    refine sw_if_ne (np := 42) (tp := 46) dX9_put_39 rfl rfl ?_ ?_
    · refine sw_ild_6_5 (np := 48) dX9_put_46 rfl ?_
      exact sw_iret dX9_put_48
    · refine sw_iconst (np := 43) dX9_put_42 sw_ic_1 rfl ?_
      refine sw_goto (tp := 48) dX9_put_43 rfl ?_
      exact sw_iret dX9_put_48
  · refine sw_ald_6_0 (np := 14) dX9_put_13 rfl ?_
    refine sw_gR (np := 17) sw_f_RX9_70 sw_k_105 sw_r_105_40 dX9_put_14 rfl ?_
    refine sw_bipush (np := 19) dX9_put_17 sw_bc_60 rfl ?_
    refine sw_ild_6_1 (np := 20) dX9_put_19 rfl ?_
    refine sw_imul (np := 21) dX9_put_20 rfl ?_
    refine sw_ild_6_2 (np := 22) dX9_put_21 rfl ?_
    refine sw_iadd (np := 23) dX9_put_22 rfl ?_
    refine sw_ald_6_0 (np := 24) dX9_put_23 rfl ?_
    refine sw_gR (np := 27) sw_f_RX9_64 sw_k_105 sw_r_105_38 dX9_put_24 rfl ?_
    refine sw_ild_6_1 (np := 28) dX9_put_27 rfl ?_
    refine sw_iald (np := 29) sw_k_124 sw_n_124 dX9_put_28 rfl ?_
    refine sw_bipush (np := 31) dX9_put_29 sw_bc_50 rfl ?_
    refine sw_isub (np := 32) dX9_put_31 rfl ?_
    refine sw_lld_6_3 (np := 33) dX9_put_32 rfl ?_
    refine sw_cS2l (np := 36) (hX9_asSort (d := d - 1) (by omega) ) sw_ms_X9_asSort sw_wl_RX9_353 dX9_put_33 (sw_fit_rm (by omega) (by decide)) (Nat.le_of_ble_eq_true rfl) rfl (fun r2 S2 => ?_)
    refine sw_sJ (np := 37) sw_k_126 sw_n_126 dX9_put_36 rfl (fun S3 => ?_)
    refine sw_ild_6_5 (np := 39) dX9_put_37 rfl ?_
    refine sw_if_ne (np := 42) (tp := 46) dX9_put_39 rfl rfl ?_ ?_
    · refine sw_ild_6_5 (np := 48) dX9_put_46 rfl ?_
      exact sw_iret dX9_put_48
    · refine sw_iconst (np := 43) dX9_put_42 sw_ic_1 rfl ?_
      refine sw_goto (tp := 48) dX9_put_43 rfl ?_
      exact sw_iret dX9_put_48
/-- SwordAtticModel.element(II)J -/
def fX9_element (N : Nat) (p1 : Int32) (p2 : Int32) (S : sw_St) : Option (Int64 × sw_St) :=
  sw_bd (fX9_refusal N p1 p2 S) (fun r1 S1 => (if r1 = 0 then (sw_gd (sw_in (((60 : Int32) * p1) + p2) 360) (some ((S1.2 126 (((60 : Int32) * p1) + p2).toNatClampNeg), S1))) else (some ((-9223372036854775808 : Int64), S1))))
theorem hX9_element {G : sw_G} {N d : Nat} (hd : 4 ≤ d) {p1 : Int32} {p2 : Int32}  {S : sw_St} : sw_Ev G yX9_element cX9_element 3 (some .long) d sw_el [sw_vr G 105, .int p1, .int p2] S (fX9_element N p1 p2 S) := by
  refine sw_Ev_of (own := RX9) (lv0 := [some (sw_vr G 105), some (.int p1), some (.int p2)]) (by decide) rfl (Nat.le_of_ble_eq_true rfl) rfl ?_
  unfold fX9_element
  refine sw_ald_3_0 (np := 1) dX9_element_0 rfl ?_
  refine sw_ild_3_1 (np := 2) dX9_element_1 rfl ?_
  refine sw_ild_3_2 (np := 3) dX9_element_2 rfl ?_
  refine sw_cV2i (np := 6) (hX9_refusal (d := d - 1) (by omega) ) sw_mv_X9_refusal sw_k_105 sw_wl_RX9_350 dX9_element_3 (sw_fit_rm (by omega) (by decide)) (Nat.le_of_ble_eq_true rfl) rfl (fun r1 S1 => ?_)
  refine sw_if_eq (np := 9) (tp := 15) dX9_element_6 rfl rfl ?_ ?_
  · refine sw_ald_3_0 (np := 16) dX9_element_15 rfl ?_
    refine sw_gR (np := 19) sw_f_RX9_70 sw_k_105 sw_r_105_40 dX9_element_16 rfl ?_
    refine sw_bipush (np := 21) dX9_element_19 sw_bc_60 rfl ?_
    refine sw_ild_3_1 (np := 22) dX9_element_21 rfl ?_
    refine sw_imul (np := 23) dX9_element_22 rfl ?_
    refine sw_ild_3_2 (np := 24) dX9_element_23 rfl ?_
    refine sw_iadd (np := 25) dX9_element_24 rfl ?_
    refine sw_lald (np := 26) sw_k_126 sw_n_126 dX9_element_25 rfl ?_
    exact sw_lret dX9_element_26
  · refine sw_ldc2 (np := 12) sw_wc_RX9_359 dX9_element_9 rfl ?_
    refine sw_goto (tp := 26) dX9_element_12 rfl ?_
    exact sw_lret dX9_element_26
/-- SwordAtticModel.shift(IIIII)I -/
def fX9_shift (N : Nat) (p1 : Int32) (p2 : Int32) (p3 : Int32) (p4 : Int32) (p5 : Int32) (S : sw_St) : Option (Int32 × sw_St) :=
  sw_bd (fX9_isShelf N p1 S) (fun r1 S1 => (if r1 = 0 then (some ((-1 : Int32), S1)) else (sw_bd (fX9_isShelf N p3 S1) (fun r2 S2 => (if r2 = 0 then (some ((-1 : Int32), S2)) else (sw_gd (sw_in p1 6) (if (S2.1 124 p1.toNatClampNeg) < 0 then (some ((-11 : Int32), S2)) else (sw_gd (sw_in p3 6) (if (S2.1 124 p3.toNatClampNeg) ≥ 0 then (sw_gd (sw_in p1 6) (if (S2.1 124 p1.toNatClampNeg) < (50 : Int32) then (some ((-12 : Int32), S2)) else (sw_gd (sw_in p1 6) (sw_gd (sw_in p3 6) (if (S2.1 124 p1.toNatClampNeg) = (S2.1 124 p3.toNatClampNeg) then (if p5 < 0 then (some ((-13 : Int32), S2)) else (if p2 < 0 then (some ((-13 : Int32), S2)) else (if p4 < 0 then (some ((-13 : Int32), S2)) else (sw_gd (sw_in p1 6) (if p2 > ((S2.1 125 p1.toNatClampNeg) - p5) then (some ((-13 : Int32), S2)) else (sw_gd (sw_in p3 6) (if p4 ≤ ((S2.1 125 p3.toNatClampNeg) - p5) then (sw_fx1 (fun rec1 x6_1 S3 => (if x6_1 ≥ p5 then (sw_fx1 (fun rec2 x6_2 S4 => (if x6_2 ≥ p5 then (some (p5, S4)) else (sw_gd (sw_in x6_2 60) (sw_gd (sw_in ((((60 : Int32) * p3) + p4) + x6_2) 360) (sw_ls (sw_sj S4 126 ((((60 : Int32) * p3) + p4) + x6_2).toNatClampNeg (S4.2 127 x6_2.toNatClampNeg)) (fun S5 => (rec2 (x6_2 + (1 : Int32)) S5))))))) N (0 : Int32) S3) else (sw_gd (sw_in ((((60 : Int32) * p1) + p2) + x6_1) 360) (sw_gd (sw_in x6_1 60) (sw_ls (sw_sj S3 127 x6_1.toNatClampNeg (S3.2 126 ((((60 : Int32) * p1) + p2) + x6_1).toNatClampNeg)) (fun S6 => (rec1 (x6_1 + (1 : Int32)) S6))))))) N (0 : Int32) S2) else (some ((-13 : Int32), S2))))))))) else (some ((-12 : Int32), S2))))))) else (some ((-11 : Int32), S2)))))))))))
theorem hX9_shift {G : sw_G} {N d : Nat} (hd : 3 ≤ d) {p1 : Int32} {p2 : Int32} {p3 : Int32} {p4 : Int32} {p5 : Int32}  {S : sw_St} : sw_Ev G yX9_shift cX9_shift 7 (some .int) d sw_ei [sw_vr G 105, .int p1, .int p2, .int p3, .int p4, .int p5] S (fX9_shift N p1 p2 p3 p4 p5 S) := by
  refine sw_Ev_of (own := RX9) (lv0 := [some (sw_vr G 105), some (.int p1), some (.int p2), some (.int p3), some (.int p4), some (.int p5), none]) (by decide) rfl (Nat.le_of_ble_eq_true rfl) rfl ?_
  unfold fX9_shift
  refine sw_ild_7_1 (np := 1) dX9_shift_0 rfl ?_
  refine sw_cS1i (np := 4) (hX9_isShelf (d := d - 1) (by omega) ) sw_ms_X9_isShelf sw_wl_RX9_119 dX9_shift_1 (sw_fit_rm (by omega) (by decide)) (Nat.le_of_ble_eq_true rfl) rfl (fun r1 S1 => ?_)
  refine sw_if_eq (np := 7) (tp := 14) dX9_shift_4 rfl rfl ?_ ?_
  · refine sw_iconst (np := 15) dX9_shift_14 sw_ic_m1 rfl ?_
    exact sw_iret dX9_shift_15
  · refine sw_ild_7_3 (np := 8) dX9_shift_7 rfl ?_
    refine sw_cS1i (np := 11) (hX9_isShelf (d := d - 1) (by omega) ) sw_ms_X9_isShelf sw_wl_RX9_119 dX9_shift_8 (sw_fit_rm (by omega) (by decide)) (Nat.le_of_ble_eq_true rfl) rfl (fun r2 S2 => ?_)
    refine sw_if_ne (np := 14) (tp := 16) dX9_shift_11 rfl rfl ?_ ?_
    · refine sw_ald_7_0 (np := 17) dX9_shift_16 rfl ?_
      refine sw_gR (np := 20) sw_f_RX9_64 sw_k_105 sw_r_105_38 dX9_shift_17 rfl ?_
      refine sw_ild_7_1 (np := 21) dX9_shift_20 rfl ?_
      refine sw_iald (np := 22) sw_k_124 sw_n_124 dX9_shift_21 rfl ?_
      refine sw_if_lt (np := 25) (tp := 34) dX9_shift_22 rfl rfl ?_ ?_
      · refine sw_bipush (np := 36) dX9_shift_34 sw_bc_m11 rfl ?_
        exact sw_iret dX9_shift_36
      · refine sw_ald_7_0 (np := 26) dX9_shift_25 rfl ?_
        refine sw_gR (np := 29) sw_f_RX9_64 sw_k_105 sw_r_105_38 dX9_shift_26 rfl ?_
        refine sw_ild_7_3 (np := 30) dX9_shift_29 rfl ?_
        refine sw_iald (np := 31) sw_k_124 sw_n_124 dX9_shift_30 rfl ?_
        refine sw_if_ge (np := 34) (tp := 37) dX9_shift_31 rfl rfl ?_ ?_
        · refine sw_ald_7_0 (np := 38) dX9_shift_37 rfl ?_
          refine sw_gR (np := 41) sw_f_RX9_64 sw_k_105 sw_r_105_38 dX9_shift_38 rfl ?_
          refine sw_ild_7_1 (np := 42) dX9_shift_41 rfl ?_
          refine sw_iald (np := 43) sw_k_124 sw_n_124 dX9_shift_42 rfl ?_
          refine sw_bipush (np := 45) dX9_shift_43 sw_bc_50 rfl ?_
          refine sw_icmp_lt (np := 48) (tp := 63) dX9_shift_45 rfl rfl ?_ ?_
          · refine sw_bipush (np := 65) dX9_shift_63 sw_bc_m12 rfl ?_
            exact sw_iret dX9_shift_65
          · refine sw_ald_7_0 (np := 49) dX9_shift_48 rfl ?_
            refine sw_gR (np := 52) sw_f_RX9_64 sw_k_105 sw_r_105_38 dX9_shift_49 rfl ?_
            refine sw_ild_7_1 (np := 53) dX9_shift_52 rfl ?_
            refine sw_iald (np := 54) sw_k_124 sw_n_124 dX9_shift_53 rfl ?_
            refine sw_ald_7_0 (np := 55) dX9_shift_54 rfl ?_
            refine sw_gR (np := 58) sw_f_RX9_64 sw_k_105 sw_r_105_38 dX9_shift_55 rfl ?_
            refine sw_ild_7_3 (np := 59) dX9_shift_58 rfl ?_
            refine sw_iald (np := 60) sw_k_124 sw_n_124 dX9_shift_59 rfl ?_
            refine sw_icmp_eq (np := 63) (tp := 66) dX9_shift_60 rfl rfl ?_ ?_
            · refine sw_ild_7_5 (np := 68) dX9_shift_66 rfl ?_
              refine sw_if_lt (np := 71) (tp := 107) dX9_shift_68 rfl rfl ?_ ?_
              · refine sw_bipush (np := 109) dX9_shift_107 sw_bc_m13 rfl ?_
                exact sw_iret dX9_shift_109
              · refine sw_ild_7_2 (np := 72) dX9_shift_71 rfl ?_
                refine sw_if_lt (np := 75) (tp := 107) dX9_shift_72 rfl rfl ?_ ?_
                · refine sw_bipush (np := 109) dX9_shift_107 sw_bc_m13 rfl ?_
                  exact sw_iret dX9_shift_109
                · refine sw_ild_7_4 (np := 77) dX9_shift_75 rfl ?_
                  refine sw_if_lt (np := 80) (tp := 107) dX9_shift_77 rfl rfl ?_ ?_
                  · refine sw_bipush (np := 109) dX9_shift_107 sw_bc_m13 rfl ?_
                    exact sw_iret dX9_shift_109
                  · refine sw_ild_7_2 (np := 81) dX9_shift_80 rfl ?_
                    refine sw_ald_7_0 (np := 82) dX9_shift_81 rfl ?_
                    refine sw_gR (np := 85) sw_f_RX9_67 sw_k_105 sw_r_105_39 dX9_shift_82 rfl ?_
                    refine sw_ild_7_1 (np := 86) dX9_shift_85 rfl ?_
                    refine sw_iald (np := 87) sw_k_125 sw_n_125 dX9_shift_86 rfl ?_
                    refine sw_ild_7_5 (np := 89) dX9_shift_87 rfl ?_
                    refine sw_isub (np := 90) dX9_shift_89 rfl ?_
                    refine sw_icmp_gt (np := 93) (tp := 107) dX9_shift_90 rfl rfl ?_ ?_
                    · refine sw_bipush (np := 109) dX9_shift_107 sw_bc_m13 rfl ?_
                      exact sw_iret dX9_shift_109
                    · refine sw_ild_7_4 (np := 95) dX9_shift_93 rfl ?_
                      refine sw_ald_7_0 (np := 96) dX9_shift_95 rfl ?_
                      refine sw_gR (np := 99) sw_f_RX9_67 sw_k_105 sw_r_105_39 dX9_shift_96 rfl ?_
                      refine sw_ild_7_3 (np := 100) dX9_shift_99 rfl ?_
                      refine sw_iald (np := 101) sw_k_125 sw_n_125 dX9_shift_100 rfl ?_
                      refine sw_ild_7_5 (np := 103) dX9_shift_101 rfl ?_
                      refine sw_isub (np := 104) dX9_shift_103 rfl ?_
                      refine sw_icmp_le (np := 107) (tp := 110) dX9_shift_104 rfl rfl ?_ ?_
                      · refine sw_iconst (np := 111) dX9_shift_110 sw_ic_0 rfl ?_
                        refine sw_ist_7_6 (np := 113) dX9_shift_111 rfl rfl ?_
                        refine sw_lp1 (lv := fun x6_1 => [some (sw_vr G 105), some (.int p1), some (.int p2), some (.int p3), some (.int p4), some (.int p5), some (.int x6_1)]) (fun rec1 hrec1 x6_1 S3 => ?_) _ _ _
                        refine sw_ild_7_6 (np := 115) dX9_shift_113 rfl ?_
                        refine sw_ild_7_5 (np := 117) dX9_shift_115 rfl ?_
                        refine sw_icmp_ge (np := 120) (tp := 147) dX9_shift_117 rfl rfl ?_ ?_
                        · refine sw_iconst (np := 148) dX9_shift_147 sw_ic_0 rfl ?_
                          refine sw_ist_7_6 (np := 150) dX9_shift_148 rfl rfl ?_
                          refine sw_dr_7_1 ?_
                          refine sw_dr_7_2 ?_
                          refine sw_lp1 (lv := fun x6_2 => [some (sw_vr G 105), none, none, some (.int p3), some (.int p4), some (.int p5), some (.int x6_2)]) (fun rec2 hrec2 x6_2 S4 => ?_) _ _ _
                          refine sw_ild_7_6 (np := 152) dX9_shift_150 rfl ?_
                          refine sw_ild_7_5 (np := 154) dX9_shift_152 rfl ?_
                          refine sw_icmp_ge (np := 157) (tp := 185) dX9_shift_154 rfl rfl ?_ ?_
                          · refine sw_ild_7_5 (np := 187) dX9_shift_185 rfl ?_
                            exact sw_iret dX9_shift_187
                          · refine sw_ald_7_0 (np := 158) dX9_shift_157 rfl ?_
                            refine sw_gR (np := 161) sw_f_RX9_70 sw_k_105 sw_r_105_40 dX9_shift_158 rfl ?_
                            refine sw_bipush (np := 163) dX9_shift_161 sw_bc_60 rfl ?_
                            refine sw_ild_7_3 (np := 164) dX9_shift_163 rfl ?_
                            refine sw_imul (np := 165) dX9_shift_164 rfl ?_
                            refine sw_ild_7_4 (np := 167) dX9_shift_165 rfl ?_
                            refine sw_iadd (np := 168) dX9_shift_167 rfl ?_
                            refine sw_ild_7_6 (np := 170) dX9_shift_168 rfl ?_
                            refine sw_iadd (np := 171) dX9_shift_170 rfl ?_
                            refine sw_ald_7_0 (np := 172) dX9_shift_171 rfl ?_
                            refine sw_gR (np := 175) sw_f_RX9_74 sw_k_105 sw_r_105_41 dX9_shift_172 rfl ?_
                            refine sw_ild_7_6 (np := 177) dX9_shift_175 rfl ?_
                            refine sw_lald (np := 178) sw_k_127 sw_n_127 dX9_shift_177 rfl ?_
                            refine sw_sJ (np := 179) sw_k_126 sw_n_126 dX9_shift_178 rfl (fun S5 => ?_)
                            refine sw_inc_7_6 (np := 182) dX9_shift_179 sw_ic_1 rfl rfl ?_
                            refine sw_goto (tp := 150) dX9_shift_182 rfl ?_
                            exact hrec2 _ _
                        · refine sw_ald_7_0 (np := 121) dX9_shift_120 rfl ?_
                          refine sw_gR (np := 124) sw_f_RX9_74 sw_k_105 sw_r_105_41 dX9_shift_121 rfl ?_
                          refine sw_ild_7_6 (np := 126) dX9_shift_124 rfl ?_
                          refine sw_ald_7_0 (np := 127) dX9_shift_126 rfl ?_
                          refine sw_gR (np := 130) sw_f_RX9_70 sw_k_105 sw_r_105_40 dX9_shift_127 rfl ?_
                          refine sw_bipush (np := 132) dX9_shift_130 sw_bc_60 rfl ?_
                          refine sw_ild_7_1 (np := 133) dX9_shift_132 rfl ?_
                          refine sw_imul (np := 134) dX9_shift_133 rfl ?_
                          refine sw_ild_7_2 (np := 135) dX9_shift_134 rfl ?_
                          refine sw_iadd (np := 136) dX9_shift_135 rfl ?_
                          refine sw_ild_7_6 (np := 138) dX9_shift_136 rfl ?_
                          refine sw_iadd (np := 139) dX9_shift_138 rfl ?_
                          refine sw_lald (np := 140) sw_k_126 sw_n_126 dX9_shift_139 rfl ?_
                          refine sw_sJ (np := 141) sw_k_127 sw_n_127 dX9_shift_140 rfl (fun S6 => ?_)
                          refine sw_inc_7_6 (np := 144) dX9_shift_141 sw_ic_1 rfl rfl ?_
                          refine sw_goto (tp := 113) dX9_shift_144 rfl ?_
                          exact hrec1 _ _
                      · refine sw_bipush (np := 109) dX9_shift_107 sw_bc_m13 rfl ?_
                        exact sw_iret dX9_shift_109
            · refine sw_bipush (np := 65) dX9_shift_63 sw_bc_m12 rfl ?_
              exact sw_iret dX9_shift_65
        · refine sw_bipush (np := 36) dX9_shift_34 sw_bc_m11 rfl ?_
          exact sw_iret dX9_shift_36
    · refine sw_iconst (np := 15) dX9_shift_14 sw_ic_m1 rfl ?_
      exact sw_iret dX9_shift_15
/-- SwordAtticModel.taken(II)I -/
def fX9_taken (N : Nat) (p1 : Int32) (p2 : Int32) (S : sw_St) : Option (Int32 × sw_St) :=
  sw_bd (fX9_isShelf N p1 S) (fun r1 S1 => (if r1 = 0 then (some ((-1 : Int32), S1)) else (sw_bd (fX9_within N p2.toInt64 (0 : Int64) (7 : Int64) S1) (fun r2 S2 => (if r2 = 0 then (some ((-1 : Int32), S2)) else (sw_gd (sw_in p1 6) (if (S2.1 124 p1.toNatClampNeg) ≥ 0 then (sw_gd (sw_in p1 6) (if (S2.1 124 p1.toNatClampNeg) < (50 : Int32) then (sw_gd (sw_in p1 6) (sw_bd (fX9_kindOf N (S2.1 124 p1.toNatClampNeg) S2) (fun r3 S3 => (sw_fx1 (fun rec1 x3_1 S4 => (if x3_1 = p2 then (if x3_1 = p2 then (sw_gd (sw_in p1 6) (sw_bd (fX9_kindOf N (S4.1 124 p1.toNatClampNeg) S4) (fun r4 S5 => (some (r4, S5))))) else (some ((-12 : Int32), S4))) else (if x3_1 ≤ 0 then (if x3_1 = p2 then (sw_gd (sw_in p1 6) (sw_bd (fX9_kindOf N (S4.1 124 p1.toNatClampNeg) S4) (fun r5 S6 => (some (r5, S6))))) else (some ((-12 : Int32), S4))) else (sw_bd (fX9_above N x3_1 S4) (fun r6 S7 => (rec1 r6 S7)))))) N r3 S3)))) else (some ((-12 : Int32), S2)))) else (some ((-11 : Int32), S2)))))))))
theorem hX9_taken {G : sw_G} {N d : Nat} (hd : 3 ≤ d) {p1 : Int32} {p2 : Int32}  {S : sw_St} : sw_Ev G yX9_taken cX9_taken 4 (some .int) d sw_ei [sw_vr G 105, .int p1, .int p2] S (fX9_taken N p1 p2 S) := by
  refine sw_Ev_of (own := RX9) (lv0 := [some (sw_vr G 105), some (.int p1), some (.int p2), none]) (by decide) rfl (Nat.le_of_ble_eq_true rfl) rfl ?_
  unfold fX9_taken
  refine sw_ild_4_1 (np := 1) dX9_taken_0 rfl ?_
  refine sw_cS1i (np := 4) (hX9_isShelf (d := d - 1) (by omega) ) sw_ms_X9_isShelf sw_wl_RX9_119 dX9_taken_1 (sw_fit_rm (by omega) (by decide)) (Nat.le_of_ble_eq_true rfl) rfl (fun r1 S1 => ?_)
  refine sw_if_eq (np := 7) (tp := 19) dX9_taken_4 rfl rfl ?_ ?_
  · refine sw_iconst (np := 20) dX9_taken_19 sw_ic_m1 rfl ?_
    exact sw_iret dX9_taken_20
  · refine sw_ild_4_2 (np := 8) dX9_taken_7 rfl ?_
    refine sw_i2l (np := 9) dX9_taken_8 rfl ?_
    refine sw_lconst (np := 10) dX9_taken_9 sw_lc_0 rfl ?_
    refine sw_ldc2 (np := 13) sw_wc_RX9_132 dX9_taken_10 rfl ?_
    refine sw_cS3i (np := 16) (hX9_within (d := d - 1) (by omega) ) sw_ms_X9_within sw_wl_RX9_98 dX9_taken_13 (sw_fit_rm (by omega) (by decide)) (Nat.le_of_ble_eq_true rfl) rfl (fun r2 S2 => ?_)
    refine sw_if_ne (np := 19) (tp := 21) dX9_taken_16 rfl rfl ?_ ?_
    · refine sw_ald_4_0 (np := 22) dX9_taken_21 rfl ?_
      refine sw_gR (np := 25) sw_f_RX9_64 sw_k_105 sw_r_105_38 dX9_taken_22 rfl ?_
      refine sw_ild_4_1 (np := 26) dX9_taken_25 rfl ?_
      refine sw_iald (np := 27) sw_k_124 sw_n_124 dX9_taken_26 rfl ?_
      refine sw_if_ge (np := 30) (tp := 33) dX9_taken_27 rfl rfl ?_ ?_
      · refine sw_ald_4_0 (np := 34) dX9_taken_33 rfl ?_
        refine sw_gR (np := 37) sw_f_RX9_64 sw_k_105 sw_r_105_38 dX9_taken_34 rfl ?_
        refine sw_ild_4_1 (np := 38) dX9_taken_37 rfl ?_
        refine sw_iald (np := 39) sw_k_124 sw_n_124 dX9_taken_38 rfl ?_
        refine sw_bipush (np := 41) dX9_taken_39 sw_bc_50 rfl ?_
        refine sw_icmp_lt (np := 44) (tp := 47) dX9_taken_41 rfl rfl ?_ ?_
        · refine sw_ald_4_0 (np := 48) dX9_taken_47 rfl ?_
          refine sw_ald_4_0 (np := 49) dX9_taken_48 rfl ?_
          refine sw_gR (np := 52) sw_f_RX9_64 sw_k_105 sw_r_105_38 dX9_taken_49 rfl ?_
          refine sw_ild_4_1 (np := 53) dX9_taken_52 rfl ?_
          refine sw_iald (np := 54) sw_k_124 sw_n_124 dX9_taken_53 rfl ?_
          refine sw_cV1i (np := 57) (hX9_kindOf (d := d - 1) (by omega) ) sw_mv_X9_kindOf sw_k_105 sw_wl_RX9_361 dX9_taken_54 (sw_fit_rm (by omega) (by decide)) (Nat.le_of_ble_eq_true rfl) rfl (fun r3 S3 => ?_)
          refine sw_ist_4_3 (np := 58) dX9_taken_57 rfl rfl ?_
          refine sw_lp1 (lv := fun x3_1 => [some (sw_vr G 105), some (.int p1), some (.int p2), some (.int x3_1)]) (fun rec1 hrec1 x3_1 S4 => ?_) _ _ _
          refine sw_ild_4_3 (np := 59) dX9_taken_58 rfl ?_
          refine sw_ild_4_2 (np := 60) dX9_taken_59 rfl ?_
          refine sw_icmp_eq (np := 63) (tp := 75) dX9_taken_60 rfl rfl ?_ ?_
          · refine sw_ild_4_3 (np := 76) dX9_taken_75 rfl ?_
            refine sw_ild_4_2 (np := 77) dX9_taken_76 rfl ?_
            refine sw_icmp_ne (np := 80) (tp := 93) dX9_taken_77 rfl rfl ?_ ?_
            · refine sw_bipush (np := 95) dX9_taken_93 sw_bc_m12 rfl ?_
              exact sw_iret dX9_taken_95
            · refine sw_ald_4_0 (np := 81) dX9_taken_80 rfl ?_
              refine sw_ald_4_0 (np := 82) dX9_taken_81 rfl ?_
              refine sw_gR (np := 85) sw_f_RX9_64 sw_k_105 sw_r_105_38 dX9_taken_82 rfl ?_
              refine sw_ild_4_1 (np := 86) dX9_taken_85 rfl ?_
              refine sw_iald (np := 87) sw_k_124 sw_n_124 dX9_taken_86 rfl ?_
              refine sw_cV1i (np := 90) (hX9_kindOf (d := d - 1) (by omega) ) sw_mv_X9_kindOf sw_k_105 sw_wl_RX9_361 dX9_taken_87 (sw_fit_rm (by omega) (by decide)) (Nat.le_of_ble_eq_true rfl) rfl (fun r4 S5 => ?_)
              refine sw_goto (tp := 95) dX9_taken_90 rfl ?_
              exact sw_iret dX9_taken_95
          · refine sw_ild_4_3 (np := 64) dX9_taken_63 rfl ?_
            refine sw_if_le (np := 67) (tp := 75) dX9_taken_64 rfl rfl ?_ ?_
            · refine sw_ild_4_3 (np := 76) dX9_taken_75 rfl ?_
              refine sw_ild_4_2 (np := 77) dX9_taken_76 rfl ?_
              refine sw_icmp_ne (np := 80) (tp := 93) dX9_taken_77 rfl rfl ?_ ?_
              · refine sw_bipush (np := 95) dX9_taken_93 sw_bc_m12 rfl ?_
                exact sw_iret dX9_taken_95
              · refine sw_ald_4_0 (np := 81) dX9_taken_80 rfl ?_
                refine sw_ald_4_0 (np := 82) dX9_taken_81 rfl ?_
                refine sw_gR (np := 85) sw_f_RX9_64 sw_k_105 sw_r_105_38 dX9_taken_82 rfl ?_
                refine sw_ild_4_1 (np := 86) dX9_taken_85 rfl ?_
                refine sw_iald (np := 87) sw_k_124 sw_n_124 dX9_taken_86 rfl ?_
                refine sw_cV1i (np := 90) (hX9_kindOf (d := d - 1) (by omega) ) sw_mv_X9_kindOf sw_k_105 sw_wl_RX9_361 dX9_taken_87 (sw_fit_rm (by omega) (by decide)) (Nat.le_of_ble_eq_true rfl) rfl (fun r5 S6 => ?_)
                refine sw_goto (tp := 95) dX9_taken_90 rfl ?_
                exact sw_iret dX9_taken_95
            · refine sw_ild_4_3 (np := 68) dX9_taken_67 rfl ?_
              refine sw_cS1i (np := 71) (hX9_above (d := d - 1) (by omega) ) sw_ms_X9_above sw_wl_RX9_364 dX9_taken_68 (sw_fit_rm (by omega) (by decide)) (Nat.le_of_ble_eq_true rfl) rfl (fun r6 S7 => ?_)
              refine sw_ist_4_3 (np := 72) dX9_taken_71 rfl rfl ?_
              refine sw_goto (tp := 58) dX9_taken_72 rfl ?_
              exact hrec1 _ _
        · refine sw_bipush (np := 46) dX9_taken_44 sw_bc_m12 rfl ?_
          exact sw_iret dX9_taken_46
      · refine sw_bipush (np := 32) dX9_taken_30 sw_bc_m11 rfl ?_
        exact sw_iret dX9_taken_32
    · refine sw_iconst (np := 20) dX9_taken_19 sw_ic_m1 rfl ?_
      exact sw_iret dX9_taken_20
/-- SwordAtticModel.count(I)I -/
def fX9_count (N : Nat) (p1 : Int32) (S : sw_St) : Option (Int32 × sw_St) :=
  if p1 = (0 : Int32) then (some ((S.1 105 6), S)) else (if p1 = (1 : Int32) then (sw_bd (fX9_manyAwake N S) (fun r1 S1 => (some (r1, S1)))) else (if p1 = (2 : Int32) then (some ((S.1 105 8), S)) else (if p1 = (3 : Int32) then (some ((S.1 105 5), S)) else (if p1 = (4 : Int32) then (some ((S.1 105 32), S)) else (if p1 = (5 : Int32) then (some ((S.1 105 35), S)) else (some ((-1 : Int32), S)))))))
theorem hX9_count {G : sw_G} {N d : Nat} (hd : 5 ≤ d) {p1 : Int32}  {S : sw_St} : sw_Ev G yX9_count cX9_count 2 (some .int) d sw_ei [sw_vr G 105, .int p1] S (fX9_count N p1 S) := by
  refine sw_Ev_of (own := RX9) (lv0 := [some (sw_vr G 105), some (.int p1)]) (by decide) rfl (Nat.le_of_ble_eq_true rfl) rfl ?_
  unfold fX9_count
  refine sw_ild_2_1 (np := 1) dX9_count_0 rfl ?_
  refine sw_ite (fun hs1 => ?_) (fun hs1 => ?_)
  · refine sw_tabIn (tp := 40) dX9_count_1 (by rw [hs1]; decide) (by rw [hs1]; decide) (by rw [hs1]; rfl) rfl ?_
    refine sw_ald_2_0 (np := 41) dX9_count_40 rfl ?_
    refine sw_gI (np := 44) sw_f_RX9_95 sw_k_105 dX9_count_41 rfl ?_
    exact sw_iret dX9_count_44
  · refine sw_ite (fun hs2 => ?_) (fun hs2 => ?_)
    · refine sw_tabIn (tp := 45) dX9_count_1 (by rw [hs2]; decide) (by rw [hs2]; decide) (by rw [hs2]; rfl) rfl ?_
      refine sw_ald_2_0 (np := 46) dX9_count_45 rfl ?_
      refine sw_cV0i (np := 49) (hX9_manyAwake (d := d - 1) (by omega) ) sw_mv_X9_manyAwake sw_k_105 sw_wl_RX9_367 dX9_count_46 (sw_fit_rm (by omega) (by decide)) (Nat.le_of_ble_eq_true rfl) rfl (fun r1 S1 => ?_)
      exact sw_iret dX9_count_49
    · refine sw_ite (fun hs3 => ?_) (fun hs3 => ?_)
      · refine sw_tabIn (tp := 50) dX9_count_1 (by rw [hs3]; decide) (by rw [hs3]; decide) (by rw [hs3]; rfl) rfl ?_
        refine sw_ald_2_0 (np := 51) dX9_count_50 rfl ?_
        refine sw_gI (np := 54) sw_f_RX9_149 sw_k_105 dX9_count_51 rfl ?_
        exact sw_iret dX9_count_54
      · refine sw_ite (fun hs4 => ?_) (fun hs4 => ?_)
        · refine sw_tabIn (tp := 55) dX9_count_1 (by rw [hs4]; decide) (by rw [hs4]; decide) (by rw [hs4]; rfl) rfl ?_
          refine sw_ald_2_0 (np := 56) dX9_count_55 rfl ?_
          refine sw_gI (np := 59) sw_f_RX9_81 sw_k_105 dX9_count_56 rfl ?_
          exact sw_iret dX9_count_59
        · refine sw_ite (fun hs5 => ?_) (fun hs5 => ?_)
          · refine sw_tabIn (tp := 60) dX9_count_1 (by rw [hs5]; decide) (by rw [hs5]; decide) (by rw [hs5]; rfl) rfl ?_
            refine sw_ald_2_0 (np := 61) dX9_count_60 rfl ?_
            refine sw_gI (np := 64) sw_f_RX9_320 sw_k_105 dX9_count_61 rfl ?_
            exact sw_iret dX9_count_64
          · refine sw_ite (fun hs6 => ?_) (fun hs6 => ?_)
            · refine sw_tabIn (tp := 65) dX9_count_1 (by rw [hs6]; decide) (by rw [hs6]; decide) (by rw [hs6]; rfl) rfl ?_
              refine sw_ald_2_0 (np := 66) dX9_count_65 rfl ?_
              refine sw_gI (np := 69) sw_f_RX9_323 sw_k_105 dX9_count_66 rfl ?_
              exact sw_iret dX9_count_69
            · have hs1n := sw_neI sw_ic_0 (by decide) (by decide) hs1
              have hs2n := sw_neI sw_ic_1 (by decide) (by decide) hs2
              have hs3n := sw_neI sw_ic_2 (by decide) (by decide) hs3
              have hs4n := sw_neI sw_ic_3 (by decide) (by decide) hs4
              have hs5n := sw_neI sw_ic_4 (by decide) (by decide) hs5
              have hs6n := sw_neI sw_ic_5 (by decide) (by decide) hs6
              refine sw_tabOut (tp := 70) dX9_count_1 (by omega) rfl ?_
              refine sw_iconst (np := 71) dX9_count_70 sw_ic_m1 rfl ?_
              exact sw_iret dX9_count_71
