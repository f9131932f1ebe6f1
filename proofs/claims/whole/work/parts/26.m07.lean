/-- SwordAtticModel.cries(III)I -/
def fX9_cries (N : Nat) (p1 : Int32) (p2 : Int32) (p3 : Int32) (S : sw_St) : Option (Int32 × sw_St) :=
  sw_bd (fX9_bytesIs N p1 S) (fun r1 S1 => (if r1 = (-1 : Int32) then (some ((-1 : Int32), S1)) else (sw_bd (fX9_isSword N p2.toInt64 S1) (fun r2 S2 => (if r2 = 0 then (some ((-1 : Int32), S2)) else (sw_bd (fX9_within N p3.toInt64 (0 : Int64) (99 : Int64) S2) (fun r3 S3 => (if r3 = 0 then (some ((-1 : Int32), S3)) else (sw_bd (fX9_bytesIs N p1 S3) (fun r4 S4 => (if r4 ≥ 0 then (sw_fx1 (fun rec1 x4_1 S5 => (sw_bd (fX9_hourMany N p1 S5) (fun r5 S6 => (if x4_1 > r5 then (some ((-2 : Int32), S6)) else (sw_bd (fX9_goesRound N p1 x4_1 S6) (fun _ S7 => (sw_gd (sw_in p2 10) (if (S7.1 114 p2.toNatClampNeg) < p3 then (rec1 (x4_1 + (1 : Int32)) S7) else (some (x4_1, S7)))))))))) N (0 : Int32) S4) else (sw_bd (fX9_bytesIs N p1 S4) (fun r7 S8 => (some (r7, S8)))))))))))))))
theorem hX9_cries {G : sw_G} {N d : Nat} (hd : 109 ≤ d) {p1 : Int32} {p2 : Int32} {p3 : Int32}  {S : sw_St} : sw_Ev G yX9_cries cX9_cries 5 (some .int) d sw_ei [sw_vr G 105, .int p1, .int p2, .int p3] S (fX9_cries N p1 p2 p3 S) := by
  refine sw_Ev_of (own := RX9) (lv0 := [some (sw_vr G 105), some (.int p1), some (.int p2), some (.int p3), none]) (by decide) rfl (Nat.le_of_ble_eq_true rfl) rfl ?_
  unfold fX9_cries
  refine sw_ald_5_0 (np := 1) dX9_cries_0 rfl ?_
  refine sw_ild_5_1 (np := 2) dX9_cries_1 rfl ?_
  refine sw_cV1i (np := 5) (hX9_bytesIs (d := d - 1) (by omega) ) sw_mv_X9_bytesIs sw_k_105 sw_wl_RX9_245 dX9_cries_2 (sw_fit_rm (by omega) (by decide)) (Nat.le_of_ble_eq_true rfl) rfl (fun r1 S1 => ?_)
  refine sw_iconst (np := 6) dX9_cries_5 sw_ic_m1 rfl ?_
  refine sw_icmp_eq (np := 9) (tp := 30) dX9_cries_6 rfl rfl ?_ ?_
  · refine sw_iconst (np := 31) dX9_cries_30 sw_ic_m1 rfl ?_
    exact sw_iret dX9_cries_31
  · refine sw_ald_5_0 (np := 10) dX9_cries_9 rfl ?_
    refine sw_ild_5_2 (np := 11) dX9_cries_10 rfl ?_
    refine sw_i2l (np := 12) dX9_cries_11 rfl ?_
    refine sw_cV1i (np := 15) (hX9_isSword (d := d - 1) (by omega) ) sw_mv_X9_isSword sw_k_105 sw_wl_RX9_127 dX9_cries_12 (sw_fit_rm (by omega) (by decide)) (Nat.le_of_ble_eq_true rfl) rfl (fun r2 S2 => ?_)
    refine sw_if_eq (np := 18) (tp := 30) dX9_cries_15 rfl rfl ?_ ?_
    · refine sw_iconst (np := 31) dX9_cries_30 sw_ic_m1 rfl ?_
      exact sw_iret dX9_cries_31
    · refine sw_ild_5_3 (np := 19) dX9_cries_18 rfl ?_
      refine sw_i2l (np := 20) dX9_cries_19 rfl ?_
      refine sw_lconst (np := 21) dX9_cries_20 sw_lc_0 rfl ?_
      refine sw_ldc2 (np := 24) sw_wc_RX9_110 dX9_cries_21 rfl ?_
      refine sw_cS3i (np := 27) (hX9_within (d := d - 1) (by omega) ) sw_ms_X9_within sw_wl_RX9_98 dX9_cries_24 (sw_fit_rm (by omega) (by decide)) (Nat.le_of_ble_eq_true rfl) rfl (fun r3 S3 => ?_)
      refine sw_if_ne (np := 30) (tp := 32) dX9_cries_27 rfl rfl ?_ ?_
      · refine sw_ald_5_0 (np := 33) dX9_cries_32 rfl ?_
        refine sw_ild_5_1 (np := 34) dX9_cries_33 rfl ?_
        refine sw_cV1i (np := 37) (hX9_bytesIs (d := d - 1) (by omega) ) sw_mv_X9_bytesIs sw_k_105 sw_wl_RX9_245 dX9_cries_34 (sw_fit_rm (by omega) (by decide)) (Nat.le_of_ble_eq_true rfl) rfl (fun r4 S4 => ?_)
        refine sw_if_ge (np := 40) (tp := 46) dX9_cries_37 rfl rfl ?_ ?_
        · refine sw_iconst (np := 47) dX9_cries_46 sw_ic_0 rfl ?_
          refine sw_ist_5_4 (np := 49) dX9_cries_47 rfl rfl ?_
          refine sw_lp1 (lv := fun x4_1 => [some (sw_vr G 105), some (.int p1), some (.int p2), some (.int p3), some (.int x4_1)]) (fun rec1 hrec1 x4_1 S5 => ?_) _ _ _
          refine sw_ild_5_4 (np := 51) dX9_cries_49 rfl ?_
          refine sw_ald_5_0 (np := 52) dX9_cries_51 rfl ?_
          refine sw_ild_5_1 (np := 53) dX9_cries_52 rfl ?_
          refine sw_cV1i (np := 56) (hX9_hourMany (d := d - 1) (by omega) ) sw_mv_X9_hourMany sw_k_105 sw_wl_RX9_239 dX9_cries_53 (sw_fit_rm (by omega) (by decide)) (Nat.le_of_ble_eq_true rfl) rfl (fun r5 S6 => ?_)
          refine sw_icmp_gt (np := 59) (tp := 85) dX9_cries_56 rfl rfl ?_ ?_
          · refine sw_bipush (np := 87) dX9_cries_85 sw_bc_m2 rfl ?_
            exact sw_iret dX9_cries_87
          · refine sw_ald_5_0 (np := 60) dX9_cries_59 rfl ?_
            refine sw_ild_5_1 (np := 61) dX9_cries_60 rfl ?_
            refine sw_ild_5_4 (np := 63) dX9_cries_61 rfl ?_
            refine sw_cV2v (np := 66) (hX9_goesRound (d := d - 1) (by omega) ) sw_mv_X9_goesRound sw_k_105 sw_wl_RX9_250 dX9_cries_63 (sw_fit_rm (by omega) (by decide)) (Nat.le_of_ble_eq_true rfl) rfl (fun _ S7 => ?_)
            refine sw_ald_5_0 (np := 67) dX9_cries_66 rfl ?_
            refine sw_gR (np := 70) sw_f_RX9_34 sw_k_105 sw_r_105_18 dX9_cries_67 rfl ?_
            refine sw_ild_5_2 (np := 71) dX9_cries_70 rfl ?_
            refine sw_iald (np := 72) sw_k_114 sw_n_114 dX9_cries_71 rfl ?_
            refine sw_ild_5_3 (np := 73) dX9_cries_72 rfl ?_
            refine sw_icmp_lt (np := 76) (tp := 79) dX9_cries_73 rfl rfl ?_ ?_
            · refine sw_inc_5_4 (np := 82) dX9_cries_79 sw_ic_1 rfl rfl ?_
              refine sw_goto (tp := 49) dX9_cries_82 rfl ?_
              exact hrec1 _ _
            · refine sw_ild_5_4 (np := 78) dX9_cries_76 rfl ?_
              exact sw_iret dX9_cries_78
        · refine sw_ald_5_0 (np := 41) dX9_cries_40 rfl ?_
          refine sw_ild_5_1 (np := 42) dX9_cries_41 rfl ?_
          refine sw_cV1i (np := 45) (hX9_bytesIs (d := d - 1) (by omega) ) sw_mv_X9_bytesIs sw_k_105 sw_wl_RX9_245 dX9_cries_42 (sw_fit_rm (by omega) (by decide)) (Nat.le_of_ble_eq_true rfl) rfl (fun r7 S8 => ?_)
          exact sw_iret dX9_cries_45
      · refine sw_iconst (np := 31) dX9_cries_30 sw_ic_m1 rfl ?_
        exact sw_iret dX9_cries_31
/-- SwordAtticModel.asleep(I)I -/
def fX9_asleep (N : Nat) (p1 : Int32) (S : sw_St) : Option (Int32 × sw_St) :=
  sw_bd (fX9_bytesIs N p1 S) (fun r1 S1 => (if r1 ≥ 0 then (sw_fx1 (fun rec1 x2_1 S2 => (sw_bd (fX9_hourMany N p1 S2) (fun r2 S3 => (if x2_1 > r2 then (some ((-2 : Int32), S3)) else (sw_bd (fX9_goesRound N p1 x2_1 S3) (fun _ S4 => (sw_bd (fX9_awakeSet N S4) (fun r4 S5 => (if r4 = 0 then (some (x2_1, S5)) else (rec1 (x2_1 + (1 : Int32)) S5)))))))))) N (0 : Int32) S1) else (sw_bd (fX9_bytesIs N p1 S1) (fun r5 S6 => (some (r5, S6))))))
theorem hX9_asleep {G : sw_G} {N d : Nat} (hd : 109 ≤ d) {p1 : Int32}  {S : sw_St} : sw_Ev G yX9_asleep cX9_asleep 3 (some .int) d sw_ei [sw_vr G 105, .int p1] S (fX9_asleep N p1 S) := by
  refine sw_Ev_of (own := RX9) (lv0 := [some (sw_vr G 105), some (.int p1), none]) (by decide) rfl (Nat.le_of_ble_eq_true rfl) rfl ?_
  unfold fX9_asleep
  refine sw_ald_3_0 (np := 1) dX9_asleep_0 rfl ?_
  refine sw_ild_3_1 (np := 2) dX9_asleep_1 rfl ?_
  refine sw_cV1i (np := 5) (hX9_bytesIs (d := d - 1) (by omega) ) sw_mv_X9_bytesIs sw_k_105 sw_wl_RX9_245 dX9_asleep_2 (sw_fit_rm (by omega) (by decide)) (Nat.le_of_ble_eq_true rfl) rfl (fun r1 S1 => ?_)
  refine sw_if_ge (np := 8) (tp := 14) dX9_asleep_5 rfl rfl ?_ ?_
  · refine sw_iconst (np := 15) dX9_asleep_14 sw_ic_0 rfl ?_
    refine sw_ist_3_2 (np := 16) dX9_asleep_15 rfl rfl ?_
    refine sw_lp1 (lv := fun x2_1 => [some (sw_vr G 105), some (.int p1), some (.int x2_1)]) (fun rec1 hrec1 x2_1 S2 => ?_) _ _ _
    refine sw_ild_3_2 (np := 17) dX9_asleep_16 rfl ?_
    refine sw_ald_3_0 (np := 18) dX9_asleep_17 rfl ?_
    refine sw_ild_3_1 (np := 19) dX9_asleep_18 rfl ?_
    refine sw_cV1i (np := 22) (hX9_hourMany (d := d - 1) (by omega) ) sw_mv_X9_hourMany sw_k_105 sw_wl_RX9_239 dX9_asleep_19 (sw_fit_rm (by omega) (by decide)) (Nat.le_of_ble_eq_true rfl) rfl (fun r2 S3 => ?_)
    refine sw_icmp_gt (np := 25) (tp := 46) dX9_asleep_22 rfl rfl ?_ ?_
    · refine sw_bipush (np := 48) dX9_asleep_46 sw_bc_m2 rfl ?_
      exact sw_iret dX9_asleep_48
    · refine sw_ald_3_0 (np := 26) dX9_asleep_25 rfl ?_
      refine sw_ild_3_1 (np := 27) dX9_asleep_26 rfl ?_
      refine sw_ild_3_2 (np := 28) dX9_asleep_27 rfl ?_
      refine sw_cV2v (np := 31) (hX9_goesRound (d := d - 1) (by omega) ) sw_mv_X9_goesRound sw_k_105 sw_wl_RX9_250 dX9_asleep_28 (sw_fit_rm (by omega) (by decide)) (Nat.le_of_ble_eq_true rfl) rfl (fun _ S4 => ?_)
      refine sw_ald_3_0 (np := 32) dX9_asleep_31 rfl ?_
      refine sw_cV0i (np := 35) (hX9_awakeSet (d := d - 1) (by omega) ) sw_mv_X9_awakeSet sw_k_105 sw_wl_RX9_226 dX9_asleep_32 (sw_fit_rm (by omega) (by decide)) (Nat.le_of_ble_eq_true rfl) rfl (fun r4 S5 => ?_)
      refine sw_if_ne (np := 38) (tp := 40) dX9_asleep_35 rfl rfl ?_ ?_
      · refine sw_inc_3_2 (np := 43) dX9_asleep_40 sw_ic_1 rfl rfl ?_
        refine sw_goto (tp := 16) dX9_asleep_43 rfl ?_
        exact hrec1 _ _
      · refine sw_ild_3_2 (np := 39) dX9_asleep_38 rfl ?_
        exact sw_iret dX9_asleep_39
  · refine sw_ald_3_0 (np := 9) dX9_asleep_8 rfl ?_
    refine sw_ild_3_1 (np := 10) dX9_asleep_9 rfl ?_
    refine sw_cV1i (np := 13) (hX9_bytesIs (d := d - 1) (by omega) ) sw_mv_X9_bytesIs sw_k_105 sw_wl_RX9_245 dX9_asleep_10 (sw_fit_rm (by omega) (by decide)) (Nat.le_of_ble_eq_true rfl) rfl (fun r5 S6 => ?_)
    exact sw_iret dX9_asleep_13
/-- SwordAtticModel.triesRound, over what calls it again -/
def gX9_triesRound (N : Nat) (RR : Nat → Int32 → Int32 → Int32 → Int32 → sw_St → Option (Unit × sw_St)) (p1 : Int32) (p2 : Int32) (S : sw_St) : Option (Unit × sw_St) :=
  if p1 = p2 then (sw_bd (fX9_begins N S) (fun _ S4 => (sw_fx1 (fun rec2 x3_2 S5 => (if x3_2 ≥ p2 then (sw_bd (fX9_awakeMany N S5) (fun r3 S6 => (sw_jn0 (fun S7 => (sw_bd (fX9_awakeMany N S7) (fun r4 S8 => (sw_ls (sw_si S8 105 25 r4) (fun S9 => (sw_bd (fX9_mindAll N S9) (fun r5 S10 => (sw_ls (sw_si S10 105 26 r5) (fun S11 => (sw_fx1 (fun rec3 x3_3 S12 => (if x3_3 ≥ p2 then (some ((), S12)) else (sw_gd (sw_in x3_3 4) (sw_gd (sw_in x3_3 3) (sw_ls (sw_si S12 118 x3_3.toNatClampNeg (S12.1 117 x3_3.toNatClampNeg)) (fun S13 => (rec3 (x3_3 + (1 : Int32)) S13))))))) N (0 : Int32) S11)))))))))) (fun k1 => (if r3 < (S6.1 105 25) then (k1 S6) else (sw_bd (fX9_awakeMany N S6) (fun r6 S14 => (if r6 = (S14.1 105 25) then (sw_bd (fX9_mindAll N S14) (fun r7 S15 => (if r7 ≥ (S15.1 105 26) then (some ((), S15)) else (k1 S15)))) else (some ((), S14)))))))))) else (sw_gd (sw_in x3_2 4) (sw_ls (sw_si S5 105 20 (S5.1 117 x3_2.toNatClampNeg)) (fun S16 => (sw_bd (fX9_goesHour N S16) (fun _ S17 => (rec2 (x3_2 + (1 : Int32)) S17)))))))) N (0 : Int32) S4))) else (sw_fx1 (fun rec1 x3_1 S1 => (if x3_1 ≥ (12 : Int32) then (some ((), S1)) else (sw_gd (sw_in p1 4) (sw_ls (sw_si S1 117 p1.toNatClampNeg x3_1) (fun S2 => (sw_bd (RR 0 (p1 + (1 : Int32)) p2 0 0 S2) (fun _ S3 => (rec1 (x3_1 + (1 : Int32)) S3)))))))) N (0 : Int32) S)
def kG_6 (G : sw_G) (d : Nat) (RR : Nat → Int32 → Int32 → Int32 → Int32 → sw_St → Option (Unit × sw_St)) : Prop :=
  (∀ (a b c e : Int32) (S : sw_St), sw_Ev G yX9_triesRound cX9_triesRound 4 none d sw_ev [sw_vr G 105, .int a, .int b] S (RR 0 a b c e S))
def fG_6 (N : Nat) : Nat → Nat → Int32 → Int32 → Int32 → Int32 → sw_St → Option (Unit × sw_St)
  | 0 => fun _ _ _ _ _ _ => none
  | n + 1 => fun t a b c e S => match t with
    | _ => gX9_triesRound N (fG_6 N n) a b S
theorem ogX9_triesRound {G : sw_G} {N d : Nat} (hd : 107 ≤ d) {RR : Nat → Int32 → Int32 → Int32 → Int32 → sw_St → Option (Unit × sw_St)} (hR : kG_6 G (d - 1) RR) {p1 : Int32} {p2 : Int32} {S : sw_St} : sw_Ev G yX9_triesRound cX9_triesRound 4 none d sw_ev [sw_vr G 105, .int p1, .int p2] S (gX9_triesRound N RR p1 p2 S) := by
  refine sw_Ev_of (own := RX9) (lv0 := [some (sw_vr G 105), some (.int p1), some (.int p2), none]) (by decide) rfl (Nat.le_of_ble_eq_true rfl) rfl ?_
  unfold gX9_triesRound
  refine sw_ild_4_1 (np := 1) dX9_triesRound_0 rfl ?_
  refine sw_ild_4_2 (np := 2) dX9_triesRound_1 rfl ?_
  refine sw_icmp_ne (np := 5) (tp := 111) dX9_triesRound_2 rfl rfl ?_ ?_
  · refine sw_iconst (np := 112) dX9_triesRound_111 sw_ic_0 rfl ?_
    refine sw_ist_4_3 (np := 113) dX9_triesRound_112 rfl rfl ?_
    refine sw_lp1 (lv := fun x3_1 => [some (sw_vr G 105), some (.int p1), some (.int p2), some (.int x3_1)]) (fun rec1 hrec1 x3_1 S1 => ?_) _ _ _
    refine sw_ild_4_3 (np := 114) dX9_triesRound_113 rfl ?_
    refine sw_bipush (np := 116) dX9_triesRound_114 sw_bc_12 rfl ?_
    refine sw_icmp_ge (np := 119) (tp := 140) dX9_triesRound_116 rfl rfl ?_ ?_
    · exact sw_vret dX9_triesRound_140
    · refine sw_ald_4_0 (np := 120) dX9_triesRound_119 rfl ?_
      refine sw_gR (np := 123) sw_f_RX9_43 sw_k_105 sw_r_105_23 dX9_triesRound_120 rfl ?_
      refine sw_ild_4_1 (np := 124) dX9_triesRound_123 rfl ?_
      refine sw_ild_4_3 (np := 125) dX9_triesRound_124 rfl ?_
      refine sw_sI (np := 126) sw_k_117 sw_n_117 dX9_triesRound_125 rfl (fun S2 => ?_)
      refine sw_ald_4_0 (np := 127) dX9_triesRound_126 rfl ?_
      refine sw_ild_4_1 (np := 128) dX9_triesRound_127 rfl ?_
      refine sw_iconst (np := 129) dX9_triesRound_128 sw_ic_1 rfl ?_
      refine sw_iadd (np := 130) dX9_triesRound_129 rfl ?_
      refine sw_ild_4_2 (np := 131) dX9_triesRound_130 rfl ?_
      refine sw_cV2v (np := 134) (hR _ _ _ _ _) sw_mv_X9_triesRound sw_k_105 sw_wl_RX9_265 dX9_triesRound_131 (sw_fit_rm (by omega) (by decide)) (Nat.le_of_ble_eq_true rfl) rfl (fun _ S3 => ?_)
      refine sw_inc_4_3 (np := 137) dX9_triesRound_134 sw_ic_1 rfl rfl ?_
      refine sw_goto (tp := 113) dX9_triesRound_137 rfl ?_
      exact hrec1 _ _
  · refine sw_ald_4_0 (np := 6) dX9_triesRound_5 rfl ?_
    refine sw_cV0v (np := 9) (hX9_begins (d := d - 1) (by omega) ) sw_mv_X9_begins sw_k_105 sw_wl_RX9_233 dX9_triesRound_6 (sw_fit_rm (by omega) (by decide)) (Nat.le_of_ble_eq_true rfl) rfl (fun _ S4 => ?_)
    refine sw_iconst (np := 10) dX9_triesRound_9 sw_ic_0 rfl ?_
    refine sw_ist_4_3 (np := 11) dX9_triesRound_10 rfl rfl ?_
    refine sw_dr_4_1 ?_
    refine sw_lp1 (lv := fun x3_2 => [some (sw_vr G 105), none, some (.int p2), some (.int x3_2)]) (fun rec2 hrec2 x3_2 S5 => ?_) _ _ _
    refine sw_ild_4_3 (np := 12) dX9_triesRound_11 rfl ?_
    refine sw_ild_4_2 (np := 13) dX9_triesRound_12 rfl ?_
    refine sw_icmp_ge (np := 16) (tp := 36) dX9_triesRound_13 rfl rfl ?_ ?_
    · refine sw_ald_4_0 (np := 37) dX9_triesRound_36 rfl ?_
      refine sw_cV0i (np := 40) (hX9_awakeMany (d := d - 1) (by omega) ) sw_mv_X9_awakeMany sw_k_105 sw_wl_RX9_256 dX9_triesRound_37 (sw_fit_rm (by omega) (by decide)) (Nat.le_of_ble_eq_true rfl) rfl (fun r3 S6 => ?_)
      refine sw_ald_4_0 (np := 41) dX9_triesRound_40 rfl ?_
      refine sw_gI (np := 44) sw_f_RX9_259 sw_k_105 dX9_triesRound_41 rfl ?_
      refine sw_jm0 (pj := 69) ([some (sw_vr G 105), none, some (.int p2), none]) ([]) (fun S7 => ?_) (fun k1 hk1 => ?_)
      · refine sw_ald_4_0 (np := 70) dX9_triesRound_69 rfl ?_
        refine sw_ald_4_0 (np := 71) dX9_triesRound_70 rfl ?_
        refine sw_cV0i (np := 74) (hX9_awakeMany (d := d - 1) (by omega) ) sw_mv_X9_awakeMany sw_k_105 sw_wl_RX9_256 dX9_triesRound_71 (sw_fit_rm (by omega) (by decide)) (Nat.le_of_ble_eq_true rfl) rfl (fun r4 S8 => ?_)
        refine sw_pI (np := 77) sw_f_RX9_259 sw_fp_9_25 sw_k_105 dX9_triesRound_74 rfl (fun S9 => ?_)
        refine sw_ald_4_0 (np := 78) dX9_triesRound_77 rfl ?_
        refine sw_ald_4_0 (np := 79) dX9_triesRound_78 rfl ?_
        refine sw_cV0i (np := 82) (hX9_mindAll (d := d - 1) (by omega) ) sw_mv_X9_mindAll sw_k_105 sw_wl_RX9_253 dX9_triesRound_79 (sw_fit_rm (by omega) (by decide)) (Nat.le_of_ble_eq_true rfl) rfl (fun r5 S10 => ?_)
        refine sw_pI (np := 85) sw_f_RX9_262 sw_fp_9_26 sw_k_105 dX9_triesRound_82 rfl (fun S11 => ?_)
        refine sw_iconst (np := 86) dX9_triesRound_85 sw_ic_0 rfl ?_
        refine sw_ist_4_3 (np := 87) dX9_triesRound_86 rfl rfl ?_
        refine sw_lp1 (lv := fun x3_3 => [some (sw_vr G 105), none, some (.int p2), some (.int x3_3)]) (fun rec3 hrec3 x3_3 S12 => ?_) _ _ _
        refine sw_ild_4_3 (np := 88) dX9_triesRound_87 rfl ?_
        refine sw_ild_4_2 (np := 89) dX9_triesRound_88 rfl ?_
        refine sw_icmp_ge (np := 92) (tp := 110) dX9_triesRound_89 rfl rfl ?_ ?_
        · exact sw_vret dX9_triesRound_110
        · refine sw_ald_4_0 (np := 93) dX9_triesRound_92 rfl ?_
          refine sw_gR (np := 96) sw_f_RX9_46 sw_k_105 sw_r_105_24 dX9_triesRound_93 rfl ?_
          refine sw_ild_4_3 (np := 97) dX9_triesRound_96 rfl ?_
          refine sw_ald_4_0 (np := 98) dX9_triesRound_97 rfl ?_
          refine sw_gR (np := 101) sw_f_RX9_43 sw_k_105 sw_r_105_23 dX9_triesRound_98 rfl ?_
          refine sw_ild_4_3 (np := 102) dX9_triesRound_101 rfl ?_
          refine sw_iald (np := 103) sw_k_117 sw_n_117 dX9_triesRound_102 rfl ?_
          refine sw_sI (np := 104) sw_k_118 sw_n_118 dX9_triesRound_103 rfl (fun S13 => ?_)
          refine sw_inc_4_3 (np := 107) dX9_triesRound_104 sw_ic_1 rfl rfl ?_
          refine sw_goto (tp := 87) dX9_triesRound_107 rfl ?_
          exact hrec3 _ _
      · refine sw_icmp_lt (np := 47) (tp := 69) dX9_triesRound_44 rfl rfl ?_ ?_
        · refine sw_dr_4_3 ?_
          exact hk1 _
        · refine sw_ald_4_0 (np := 48) dX9_triesRound_47 rfl ?_
          refine sw_cV0i (np := 51) (hX9_awakeMany (d := d - 1) (by omega) ) sw_mv_X9_awakeMany sw_k_105 sw_wl_RX9_256 dX9_triesRound_48 (sw_fit_rm (by omega) (by decide)) (Nat.le_of_ble_eq_true rfl) rfl (fun r6 S14 => ?_)
          refine sw_ald_4_0 (np := 52) dX9_triesRound_51 rfl ?_
          refine sw_gI (np := 55) sw_f_RX9_259 sw_k_105 dX9_triesRound_52 rfl ?_
          refine sw_icmp_ne (np := 58) (tp := 110) dX9_triesRound_55 rfl rfl ?_ ?_
          · exact sw_vret dX9_triesRound_110
          · refine sw_ald_4_0 (np := 59) dX9_triesRound_58 rfl ?_
            refine sw_cV0i (np := 62) (hX9_mindAll (d := d - 1) (by omega) ) sw_mv_X9_mindAll sw_k_105 sw_wl_RX9_253 dX9_triesRound_59 (sw_fit_rm (by omega) (by decide)) (Nat.le_of_ble_eq_true rfl) rfl (fun r7 S15 => ?_)
            refine sw_ald_4_0 (np := 63) dX9_triesRound_62 rfl ?_
            refine sw_gI (np := 66) sw_f_RX9_262 sw_k_105 dX9_triesRound_63 rfl ?_
            refine sw_icmp_ge (np := 69) (tp := 110) dX9_triesRound_66 rfl rfl ?_ ?_
            · exact sw_vret dX9_triesRound_110
            · refine sw_dr_4_3 ?_
              exact hk1 _
    · refine sw_ald_4_0 (np := 17) dX9_triesRound_16 rfl ?_
      refine sw_ald_4_0 (np := 18) dX9_triesRound_17 rfl ?_
      refine sw_gR (np := 21) sw_f_RX9_43 sw_k_105 sw_r_105_23 dX9_triesRound_18 rfl ?_
      refine sw_ild_4_3 (np := 22) dX9_triesRound_21 rfl ?_
      refine sw_iald (np := 23) sw_k_117 sw_n_117 dX9_triesRound_22 rfl ?_
      refine sw_pI (np := 26) sw_f_RX9_204 sw_fp_9_20 sw_k_105 dX9_triesRound_23 rfl (fun S16 => ?_)
      refine sw_ald_4_0 (np := 27) dX9_triesRound_26 rfl ?_
      refine sw_cV0v (np := 30) (hX9_goesHour (d := d - 1) (by omega) ) sw_mv_X9_goesHour sw_k_105 sw_wl_RX9_236 dX9_triesRound_27 (sw_fit_rm (by omega) (by decide)) (Nat.le_of_ble_eq_true rfl) rfl (fun _ S17 => ?_)
      refine sw_inc_4_3 (np := 33) dX9_triesRound_30 sw_ic_1 rfl rfl ?_
      refine sw_goto (tp := 11) dX9_triesRound_33 rfl ?_
      exact hrec2 _ _
theorem hG_6 {G : sw_G} {N : Nat} : ∀ n d, 107 + n ≤ d → kG_6 G d (fG_6 N n) := by
  intro n
  induction n with
  | zero => intro d _; exact (fun _ _ _ _ _ _ h => by cases h)
  | succ n ih => intro d hd; exact (fun _ _ _ _ _ => ogX9_triesRound (N := N) (by omega) (ih (d - 1) (by omega)))
def fX9_triesRound (N : Nat) (p1 : Int32) (p2 : Int32) (S : sw_St) : Option (Unit × sw_St) := fG_6 N 100 0 p1 p2 0 0 S
theorem hX9_triesRound {G : sw_G} {N d : Nat} (hd : 207 ≤ d) {p1 : Int32} {p2 : Int32} {S : sw_St} : sw_Ev G yX9_triesRound cX9_triesRound 4 none d sw_ev [sw_vr G 105, .int p1, .int p2] S (fX9_triesRound N p1 p2 S) := (hG_6 (G := G) (N := N) 100 d hd) _ _ _ _ _
/-- SwordAtticModel.bestRound(II)I -/
def fX9_bestRound (N : Nat) (p1 : Int32) (p2 : Int32) (S : sw_St) : Option (Int32 × sw_St) :=
  sw_bd (fX9_within N p1.toInt64 (0 : Int64) (3 : Int64) S) (fun r1 S1 => (if r1 = 0 then (some ((-1 : Int32), S1)) else (sw_bd (fX9_within N p2.toInt64 (-2 : Int64) ((p1 - (1 : Int32)).toInt64) S1) (fun r2 S2 => (if r2 = 0 then (some ((-1 : Int32), S2)) else (sw_ls (sw_si S2 105 25 (1000000 : Int32)) (fun S3 => (sw_ls (sw_si S3 105 26 (1000000 : Int32)) (fun S4 => (sw_bd (fX9_triesRound N (0 : Int32) p1 S4) (fun _ S5 => (if p2 = (-1 : Int32) then (some ((S5.1 105 25), S5)) else (if p2 = (-2 : Int32) then (some ((S5.1 105 26), S5)) else (sw_gd (sw_in p2 3) (some ((S5.1 118 p2.toNatClampNeg), S5))))))))))))))))
theorem hX9_bestRound {G : sw_G} {N d : Nat} (hd : 208 ≤ d) {p1 : Int32} {p2 : Int32}  {S : sw_St} : sw_Ev G yX9_bestRound cX9_bestRound 3 (some .int) d sw_ei [sw_vr G 105, .int p1, .int p2] S (fX9_bestRound N p1 p2 S) := by
  refine sw_Ev_of (own := RX9) (lv0 := [some (sw_vr G 105), some (.int p1), some (.int p2)]) (by decide) rfl (Nat.le_of_ble_eq_true rfl) rfl ?_
  unfold fX9_bestRound
  refine sw_ild_3_1 (np := 1) dX9_bestRound_0 rfl ?_
  refine sw_i2l (np := 2) dX9_bestRound_1 rfl ?_
  refine sw_lconst (np := 3) dX9_bestRound_2 sw_lc_0 rfl ?_
  refine sw_ldc2 (np := 6) sw_wc_RX9_268 dX9_bestRound_3 rfl ?_
  refine sw_cS3i (np := 9) (hX9_within (d := d - 1) (by omega) ) sw_ms_X9_within sw_wl_RX9_98 dX9_bestRound_6 (sw_fit_rm (by omega) (by decide)) (Nat.le_of_ble_eq_true rfl) rfl (fun r1 S1 => ?_)
  refine sw_if_eq (np := 12) (tp := 27) dX9_bestRound_9 rfl rfl ?_ ?_
  · refine sw_iconst (np := 28) dX9_bestRound_27 sw_ic_m1 rfl ?_
    exact sw_iret dX9_bestRound_28
  · refine sw_ild_3_2 (np := 13) dX9_bestRound_12 rfl ?_
    refine sw_i2l (np := 14) dX9_bestRound_13 rfl ?_
    refine sw_ldc2 (np := 17) sw_wc_RX9_270 dX9_bestRound_14 rfl ?_
    refine sw_ild_3_1 (np := 18) dX9_bestRound_17 rfl ?_
    refine sw_iconst (np := 19) dX9_bestRound_18 sw_ic_1 rfl ?_
    refine sw_isub (np := 20) dX9_bestRound_19 rfl ?_
    refine sw_i2l (np := 21) dX9_bestRound_20 rfl ?_
    refine sw_cS3i (np := 24) (hX9_within (d := d - 1) (by omega) ) sw_ms_X9_within sw_wl_RX9_98 dX9_bestRound_21 (sw_fit_rm (by omega) (by decide)) (Nat.le_of_ble_eq_true rfl) rfl (fun r2 S2 => ?_)
    refine sw_if_ne (np := 27) (tp := 29) dX9_bestRound_24 rfl rfl ?_ ?_
    · refine sw_ald_3_0 (np := 30) dX9_bestRound_29 rfl ?_
      refine sw_ldcw (np := 33) sw_wc_RX9_272 dX9_bestRound_30 rfl ?_
      refine sw_pI (np := 36) sw_f_RX9_259 sw_fp_9_25 sw_k_105 dX9_bestRound_33 rfl (fun S3 => ?_)
      refine sw_ald_3_0 (np := 37) dX9_bestRound_36 rfl ?_
      refine sw_ldcw (np := 40) sw_wc_RX9_272 dX9_bestRound_37 rfl ?_
      refine sw_pI (np := 43) sw_f_RX9_262 sw_fp_9_26 sw_k_105 dX9_bestRound_40 rfl (fun S4 => ?_)
      refine sw_ald_3_0 (np := 44) dX9_bestRound_43 rfl ?_
      refine sw_iconst (np := 45) dX9_bestRound_44 sw_ic_0 rfl ?_
      refine sw_ild_3_1 (np := 46) dX9_bestRound_45 rfl ?_
      refine sw_cV2v (np := 49) (hX9_triesRound (d := d - 1) (by omega) ) sw_mv_X9_triesRound sw_k_105 sw_wl_RX9_265 dX9_bestRound_46 (sw_fit_rm (by omega) (by decide)) (Nat.le_of_ble_eq_true rfl) rfl (fun _ S5 => ?_)
      refine sw_ild_3_2 (np := 50) dX9_bestRound_49 rfl ?_
      refine sw_iconst (np := 51) dX9_bestRound_50 sw_ic_m1 rfl ?_
      refine sw_icmp_ne (np := 54) (tp := 61) dX9_bestRound_51 rfl rfl ?_ ?_
      · refine sw_ild_3_2 (np := 62) dX9_bestRound_61 rfl ?_
        refine sw_bipush (np := 64) dX9_bestRound_62 sw_bc_m2 rfl ?_
        refine sw_icmp_ne (np := 67) (tp := 74) dX9_bestRound_64 rfl rfl ?_ ?_
        · refine sw_ald_3_0 (np := 75) dX9_bestRound_74 rfl ?_
          refine sw_gR (np := 78) sw_f_RX9_46 sw_k_105 sw_r_105_24 dX9_bestRound_75 rfl ?_
          refine sw_ild_3_2 (np := 79) dX9_bestRound_78 rfl ?_
          refine sw_iald (np := 80) sw_k_118 sw_n_118 dX9_bestRound_79 rfl ?_
          exact sw_iret dX9_bestRound_80
        · refine sw_ald_3_0 (np := 68) dX9_bestRound_67 rfl ?_
          refine sw_gI (np := 71) sw_f_RX9_262 sw_k_105 dX9_bestRound_68 rfl ?_
          refine sw_goto (tp := 80) dX9_bestRound_71 rfl ?_
          exact sw_iret dX9_bestRound_80
      · refine sw_ald_3_0 (np := 55) dX9_bestRound_54 rfl ?_
        refine sw_gI (np := 58) sw_f_RX9_259 sw_k_105 dX9_bestRound_55 rfl ?_
        refine sw_goto (tp := 80) dX9_bestRound_58 rfl ?_
        exact sw_iret dX9_bestRound_80
    · refine sw_iconst (np := 28) dX9_bestRound_27 sw_ic_m1 rfl ?_
      exact sw_iret dX9_bestRound_28
/-- SwordAtticModel.told(I)I -/
def fX9_told (N : Nat) (p1 : Int32) (S : sw_St) : Option (Int32 × sw_St) :=
  sw_bd (fX9_within N p1.toInt64 (0 : Int64) (1 : Int64) S) (fun r1 S1 => (if r1 = 0 then (some ((-1 : Int32), S1)) else (sw_bd (fX9_begins N S1) (fun _ S2 => (sw_fx2 (fun rec1 x2_1 x3_1 S3 => (if x3_1 ≥ (12 : Int32) then (sw_bd (fX9_awakeSet N S3) (fun r3 S4 => (if r3 = 0 then (if p1 = 0 then (some (x2_1, S4)) else (sw_bd (fX9_mindAll N S4) (fun r4 S5 => (some (r4, S5))))) else (some ((-2 : Int32), S4))))) else (sw_gd (sw_in x3_1 12) (if (S3.1 113 x3_1.toNatClampNeg) < 0 then (rec1 x2_1 (x3_1 + (1 : Int32)) S3) else (sw_gd (sw_in x3_1 12) (sw_bd (fX9_isAwake N (S3.1 113 x3_1.toNatClampNeg) S3) (fun r5 S6 => (if r5 = 0 then (rec1 x2_1 (x3_1 + (1 : Int32)) S6) else (sw_bd (fX9_isToldAt N x3_1 (9 : Int32) S6) (fun _ S7 => (rec1 (x2_1 + (1 : Int32)) (x3_1 + (1 : Int32)) S7))))))))))) N (0 : Int32) (0 : Int32) S2)))))
theorem hX9_told {G : sw_G} {N d : Nat} (hd : 3 ≤ d) {p1 : Int32}  {S : sw_St} : sw_Ev G yX9_told cX9_told 4 (some .int) d sw_ei [sw_vr G 105, .int p1] S (fX9_told N p1 S) := by
  refine sw_Ev_of (own := RX9) (lv0 := [some (sw_vr G 105), some (.int p1), none, none]) (by decide) rfl (Nat.le_of_ble_eq_true rfl) rfl ?_
  unfold fX9_told
  refine sw_ild_4_1 (np := 1) dX9_told_0 rfl ?_
  refine sw_i2l (np := 2) dX9_told_1 rfl ?_
  refine sw_lconst (np := 3) dX9_told_2 sw_lc_0 rfl ?_
  refine sw_lconst (np := 4) dX9_told_3 sw_lc_1 rfl ?_
  refine sw_cS3i (np := 7) (hX9_within (d := d - 1) (by omega) ) sw_ms_X9_within sw_wl_RX9_98 dX9_told_4 (sw_fit_rm (by omega) (by decide)) (Nat.le_of_ble_eq_true rfl) rfl (fun r1 S1 => ?_)
  refine sw_if_ne (np := 10) (tp := 12) dX9_told_7 rfl rfl ?_ ?_
  · refine sw_ald_4_0 (np := 13) dX9_told_12 rfl ?_
    refine sw_cV0v (np := 16) (hX9_begins (d := d - 1) (by omega) ) sw_mv_X9_begins sw_k_105 sw_wl_RX9_233 dX9_told_13 (sw_fit_rm (by omega) (by decide)) (Nat.le_of_ble_eq_true rfl) rfl (fun _ S2 => ?_)
    refine sw_iconst (np := 17) dX9_told_16 sw_ic_0 rfl ?_
    refine sw_ist_4_2 (np := 18) dX9_told_17 rfl rfl ?_
    refine sw_iconst (np := 19) dX9_told_18 sw_ic_0 rfl ?_
    refine sw_ist_4_3 (np := 20) dX9_told_19 rfl rfl ?_
    refine sw_lp2 (lv := fun x2_1 x3_1 => [some (sw_vr G 105), some (.int p1), some (.int x2_1), some (.int x3_1)]) (fun rec1 hrec1 x2_1 x3_1 S3 => ?_) _ _ _ _
    refine sw_ild_4_3 (np := 21) dX9_told_20 rfl ?_
    refine sw_bipush (np := 23) dX9_told_21 sw_bc_12 rfl ?_
    refine sw_icmp_ge (np := 26) (tp := 64) dX9_told_23 rfl rfl ?_ ?_
    · refine sw_ald_4_0 (np := 65) dX9_told_64 rfl ?_
      refine sw_cV0i (np := 68) (hX9_awakeSet (d := d - 1) (by omega) ) sw_mv_X9_awakeSet sw_k_105 sw_wl_RX9_226 dX9_told_65 (sw_fit_rm (by omega) (by decide)) (Nat.le_of_ble_eq_true rfl) rfl (fun r3 S4 => ?_)
      refine sw_if_eq (np := 71) (tp := 76) dX9_told_68 rfl rfl ?_ ?_
      · refine sw_ild_4_1 (np := 77) dX9_told_76 rfl ?_
        refine sw_if_ne (np := 80) (tp := 84) dX9_told_77 rfl rfl ?_ ?_
        · refine sw_ald_4_0 (np := 85) dX9_told_84 rfl ?_
          refine sw_cV0i (np := 88) (hX9_mindAll (d := d - 1) (by omega) ) sw_mv_X9_mindAll sw_k_105 sw_wl_RX9_253 dX9_told_85 (sw_fit_rm (by omega) (by decide)) (Nat.le_of_ble_eq_true rfl) rfl (fun r4 S5 => ?_)
          exact sw_iret dX9_told_88
        · refine sw_ild_4_2 (np := 81) dX9_told_80 rfl ?_
          refine sw_goto (tp := 88) dX9_told_81 rfl ?_
          exact sw_iret dX9_told_88
      · refine sw_bipush (np := 73) dX9_told_71 sw_bc_m2 rfl ?_
        refine sw_goto (tp := 88) dX9_told_73 rfl ?_
        exact sw_iret dX9_told_88
    · refine sw_ald_4_0 (np := 27) dX9_told_26 rfl ?_
      refine sw_gR (np := 30) sw_f_RX9_31 sw_k_105 sw_r_105_17 dX9_told_27 rfl ?_
      refine sw_ild_4_3 (np := 31) dX9_told_30 rfl ?_
      refine sw_iald (np := 32) sw_k_113 sw_n_113 dX9_told_31 rfl ?_
      refine sw_if_lt (np := 35) (tp := 58) dX9_told_32 rfl rfl ?_ ?_
      · refine sw_inc_4_3 (np := 61) dX9_told_58 sw_ic_1 rfl rfl ?_
        refine sw_goto (tp := 20) dX9_told_61 rfl ?_
        exact hrec1 _ _ _
      · refine sw_ald_4_0 (np := 36) dX9_told_35 rfl ?_
        refine sw_ald_4_0 (np := 37) dX9_told_36 rfl ?_
        refine sw_gR (np := 40) sw_f_RX9_31 sw_k_105 sw_r_105_17 dX9_told_37 rfl ?_
        refine sw_ild_4_3 (np := 41) dX9_told_40 rfl ?_
        refine sw_iald (np := 42) sw_k_113 sw_n_113 dX9_told_41 rfl ?_
        refine sw_cV1i (np := 45) (hX9_isAwake (d := d - 1) (by omega) ) sw_mv_X9_isAwake sw_k_105 sw_wl_RX9_214 dX9_told_42 (sw_fit_rm (by omega) (by decide)) (Nat.le_of_ble_eq_true rfl) rfl (fun r5 S6 => ?_)
        refine sw_if_eq (np := 48) (tp := 58) dX9_told_45 rfl rfl ?_ ?_
        · refine sw_inc_4_3 (np := 61) dX9_told_58 sw_ic_1 rfl rfl ?_
          refine sw_goto (tp := 20) dX9_told_61 rfl ?_
          exact hrec1 _ _ _
        · refine sw_ald_4_0 (np := 49) dX9_told_48 rfl ?_
          refine sw_ild_4_3 (np := 50) dX9_told_49 rfl ?_
          refine sw_bipush (np := 52) dX9_told_50 sw_bc_9 rfl ?_
          refine sw_cV2v (np := 55) (hX9_isToldAt (d := d - 1) (by omega) ) sw_mv_X9_isToldAt sw_k_105 sw_wl_RX9_273 dX9_told_52 (sw_fit_rm (by omega) (by decide)) (Nat.le_of_ble_eq_true rfl) rfl (fun _ S7 => ?_)
          refine sw_inc_4_2 (np := 58) dX9_told_55 sw_ic_1 rfl rfl ?_
          refine sw_inc_4_3 (np := 61) dX9_told_58 sw_ic_1 rfl rfl ?_
          refine sw_goto (tp := 20) dX9_told_61 rfl ?_
          exact hrec1 _ _ _
  · refine sw_iconst (np := 11) dX9_told_10 sw_ic_m1 rfl ?_
    exact sw_iret dX9_told_11
/-- SwordAtticModel.woken(II)I -/
def fX9_woken (N : Nat) (p1 : Int32) (p2 : Int32) (S : sw_St) : Option (Int32 × sw_St) :=
  sw_bd (fX9_isCot N p1.toInt64 S) (fun r1 S1 => (if r1 = 0 then (some ((-1 : Int32), S1)) else (sw_bd (fX9_within N p2.toInt64 (0 : Int64) (1 : Int64) S1) (fun r2 S2 => (if r2 = 0 then (some ((-1 : Int32), S2)) else (sw_bd (fX9_begins N S2) (fun _ S3 => (sw_bd (fX9_awakeSet N S3) (fun r4 S4 => (sw_bd (fX9_isTouched N p1 S4) (fun _ S5 => (if p2 = 0 then (sw_bd (fX9_awakeSet N S5) (fun r7 S7 => (some ((r7 &&& (r4 ^^^ (-1 : Int32))), S7)))) else (sw_bd (fX9_touchedMany N S5) (fun r6 S6 => (some (r6, S6))))))))))))))))
theorem hX9_woken {G : sw_G} {N d : Nat} (hd : 4 ≤ d) {p1 : Int32} {p2 : Int32}  {S : sw_St} : sw_Ev G yX9_woken cX9_woken 4 (some .int) d sw_ei [sw_vr G 105, .int p1, .int p2] S (fX9_woken N p1 p2 S) := by
  refine sw_Ev_of (own := RX9) (lv0 := [some (sw_vr G 105), some (.int p1), some (.int p2), none]) (by decide) rfl (Nat.le_of_ble_eq_true rfl) rfl ?_
  unfold fX9_woken
  refine sw_ild_4_1 (np := 1) dX9_woken_0 rfl ?_
  refine sw_i2l (np := 2) dX9_woken_1 rfl ?_
  refine sw_cS1i (np := 5) (hX9_isCot (d := d - 1) (by omega) ) sw_ms_X9_isCot sw_wl_RX9_104 dX9_woken_2 (sw_fit_rm (by omega) (by decide)) (Nat.le_of_ble_eq_true rfl) rfl (fun r1 S1 => ?_)
  refine sw_if_eq (np := 8) (tp := 18) dX9_woken_5 rfl rfl ?_ ?_
  · refine sw_iconst (np := 19) dX9_woken_18 sw_ic_m1 rfl ?_
    exact sw_iret dX9_woken_19
  · refine sw_ild_4_2 (np := 9) dX9_woken_8 rfl ?_
    refine sw_i2l (np := 10) dX9_woken_9 rfl ?_
    refine sw_lconst (np := 11) dX9_woken_10 sw_lc_0 rfl ?_
    refine sw_lconst (np := 12) dX9_woken_11 sw_lc_1 rfl ?_
    refine sw_cS3i (np := 15) (hX9_within (d := d - 1) (by omega) ) sw_ms_X9_within sw_wl_RX9_98 dX9_woken_12 (sw_fit_rm (by omega) (by decide)) (Nat.le_of_ble_eq_true rfl) rfl (fun r2 S2 => ?_)
    refine sw_if_ne (np := 18) (tp := 20) dX9_woken_15 rfl rfl ?_ ?_
    · refine sw_ald_4_0 (np := 21) dX9_woken_20 rfl ?_
      refine sw_cV0v (np := 24) (hX9_begins (d := d - 1) (by omega) ) sw_mv_X9_begins sw_k_105 sw_wl_RX9_233 dX9_woken_21 (sw_fit_rm (by omega) (by decide)) (Nat.le_of_ble_eq_true rfl) rfl (fun _ S3 => ?_)
      refine sw_ald_4_0 (np := 25) dX9_woken_24 rfl ?_
      refine sw_cV0i (np := 28) (hX9_awakeSet (d := d - 1) (by omega) ) sw_mv_X9_awakeSet sw_k_105 sw_wl_RX9_226 dX9_woken_25 (sw_fit_rm (by omega) (by decide)) (Nat.le_of_ble_eq_true rfl) rfl (fun r4 S4 => ?_)
      refine sw_ist_4_3 (np := 29) dX9_woken_28 rfl rfl ?_
      refine sw_ald_4_0 (np := 30) dX9_woken_29 rfl ?_
      refine sw_ild_4_1 (np := 31) dX9_woken_30 rfl ?_
      refine sw_cV1v (np := 34) (hX9_isTouched (d := d - 1) (by omega) ) sw_mv_X9_isTouched sw_k_105 sw_wl_RX9_276 dX9_woken_31 (sw_fit_rm (by omega) (by decide)) (Nat.le_of_ble_eq_true rfl) rfl (fun _ S5 => ?_)
      refine sw_ild_4_2 (np := 35) dX9_woken_34 rfl ?_
      refine sw_if_ne (np := 38) (tp := 49) dX9_woken_35 rfl rfl ?_ ?_
      · refine sw_ald_4_0 (np := 50) dX9_woken_49 rfl ?_
        refine sw_cV0i (np := 53) (hX9_touchedMany (d := d - 1) (by omega) ) sw_mv_X9_touchedMany sw_k_105 sw_wl_RX9_280 dX9_woken_50 (sw_fit_rm (by omega) (by decide)) (Nat.le_of_ble_eq_true rfl) rfl (fun r6 S6 => ?_)
        exact sw_iret dX9_woken_53
      · refine sw_ald_4_0 (np := 39) dX9_woken_38 rfl ?_
        refine sw_cV0i (np := 42) (hX9_awakeSet (d := d - 1) (by omega) ) sw_mv_X9_awakeSet sw_k_105 sw_wl_RX9_226 dX9_woken_39 (sw_fit_rm (by omega) (by decide)) (Nat.le_of_ble_eq_true rfl) rfl (fun r7 S7 => ?_)
        refine sw_ild_4_3 (np := 43) dX9_woken_42 rfl ?_
        refine sw_iconst (np := 44) dX9_woken_43 sw_ic_m1 rfl ?_
        refine sw_ixor (np := 45) dX9_woken_44 rfl ?_
        refine sw_iand (np := 46) dX9_woken_45 rfl ?_
        refine sw_goto (tp := 53) dX9_woken_46 rfl ?_
        exact sw_iret dX9_woken_53
    · refine sw_iconst (np := 19) dX9_woken_18 sw_ic_m1 rfl ?_
      exact sw_iret dX9_woken_19
/-- SwordAtticModel.stepsTo(II)I -/
def fX9_stepsTo (N : Nat) (p0 : Int32) (p1 : Int32) (S : sw_St) : Option (Int32 × sw_St) :=
  sw_bd (fX9_sizeOf N ((p0 - p0 / (6 : Int32) * (6 : Int32)) - (p1 - p1 / (6 : Int32) * (6 : Int32))) S) (fun r1 S1 => (if (p0 / (6 : Int32)) = (p1 / (6 : Int32)) then (some ((r1 + (0 : Int32)), S1)) else (some ((r1 + (1 : Int32)), S1))))
theorem hX9_stepsTo {G : sw_G} {N d : Nat} (hd : 2 ≤ d) {p0 : Int32} {p1 : Int32}  {S : sw_St} : sw_Ev G yX9_stepsTo cX9_stepsTo 2 (some .int) d sw_ei [.int p0, .int p1] S (fX9_stepsTo N p0 p1 S) := by
  refine sw_Ev_of (own := RX9) (lv0 := [some (.int p0), some (.int p1)]) (by decide) rfl (Nat.le_of_ble_eq_true rfl) rfl ?_
  unfold fX9_stepsTo
  refine sw_ild_2_0 (np := 1) dX9_stepsTo_0 rfl ?_
  refine sw_bipush (np := 3) dX9_stepsTo_1 sw_bc_6 rfl ?_
  refine sw_irem (np := 4) dX9_stepsTo_3 (by decide) rfl ?_
  refine sw_ild_2_1 (np := 5) dX9_stepsTo_4 rfl ?_
  refine sw_bipush (np := 7) dX9_stepsTo_5 sw_bc_6 rfl ?_
  refine sw_irem (np := 8) dX9_stepsTo_7 (by decide) rfl ?_
  refine sw_isub (np := 9) dX9_stepsTo_8 rfl ?_
  refine sw_cS1i (np := 12) (hX9_sizeOf (d := d - 1) (by omega) ) sw_ms_X9_sizeOf sw_wl_RX9_207 dX9_stepsTo_9 (sw_fit_rm (by omega) (by decide)) (Nat.le_of_ble_eq_true rfl) rfl (fun r1 S1 => ?_)
  refine sw_ild_2_0 (np := 13) dX9_stepsTo_12 rfl ?_
  refine sw_bipush (np := 15) dX9_stepsTo_13 sw_bc_6 rfl ?_
  refine sw_idiv (np := 16) dX9_stepsTo_15 (by decide) rfl ?_
  refine sw_ild_2_1 (np := 17) dX9_stepsTo_16 rfl ?_
  refine sw_bipush (np := 19) dX9_stepsTo_17 sw_bc_6 rfl ?_
  refine sw_idiv (np := 20) dX9_stepsTo_19 (by decide) rfl ?_
  refine sw_icmp_ne (np := 23) (tp := 27) dX9_stepsTo_20 rfl rfl ?_ ?_
  · refine sw_iconst (np := 28) dX9_stepsTo_27 sw_ic_1 rfl ?_
    refine sw_iadd (np := 29) dX9_stepsTo_28 rfl ?_
    exact sw_iret dX9_stepsTo_29
  · refine sw_iconst (np := 24) dX9_stepsTo_23 sw_ic_0 rfl ?_
    refine sw_goto (tp := 28) dX9_stepsTo_24 rfl ?_
    refine sw_iadd (np := 29) dX9_stepsTo_28 rfl ?_
    exact sw_iret dX9_stepsTo_29
/-- SwordAtticModel.stepsBy, over what calls it again -/
def gX9_stepsBy (N : Nat) (RR : Nat → Int32 → Int32 → Int32 → Int32 → sw_St → Option (Int32 × sw_St)) (p1 : Int32) (p2 : Int32) (S : sw_St) : Option (Int32 × sw_St) :=
  if p2 = 0 then (some ((0 : Int32), S)) else (sw_fx2 (fun rec1 x3_1 x4_1 S1 => (if x4_1 ≥ (12 : Int32) then (some (x3_1, S1)) else (sw_bd (fX9_isIn N p2 x4_1 S1) (fun r1 S2 => (if r1 = 0 then (rec1 x3_1 (x4_1 + (1 : Int32)) S2) else (sw_bd (fX9_stepsTo N p1 x4_1 S2) (fun r2 S3 => (sw_bd (RR 0 x4_1 (p2 &&& (((1 : Int32) <<< (x4_1 &&& 31)) ^^^ (-1 : Int32))) 0 0 S3) (fun r3 S4 => (sw_li (r2 + r3) (fun x5_1 => (if x5_1 ≥ x3_1 then (rec1 x3_1 (x4_1 + (1 : Int32)) S4) else (rec1 x5_1 (x4_1 + (1 : Int32)) S4))))))))))))) N (1000000 : Int32) (0 : Int32) S)
def kG_7 (G : sw_G) (d : Nat) (RR : Nat → Int32 → Int32 → Int32 → Int32 → sw_St → Option (Int32 × sw_St)) : Prop :=
  (∀ (a b c e : Int32) (S : sw_St), sw_Ev G yX9_stepsBy cX9_stepsBy 6 (some .int) d sw_ei [sw_vr G 105, .int a, .int b] S (RR 0 a b c e S))
def fG_7 (N : Nat) : Nat → Nat → Int32 → Int32 → Int32 → Int32 → sw_St → Option (Int32 × sw_St)
  | 0 => fun _ _ _ _ _ _ => none
  | n + 1 => fun t a b c e S => match t with
    | _ => gX9_stepsBy N (fG_7 N n) a b S
theorem ogX9_stepsBy {G : sw_G} {N d : Nat} (hd : 3 ≤ d) {RR : Nat → Int32 → Int32 → Int32 → Int32 → sw_St → Option (Int32 × sw_St)} (hR : kG_7 G (d - 1) RR) {p1 : Int32} {p2 : Int32} {S : sw_St} : sw_Ev G yX9_stepsBy cX9_stepsBy 6 (some .int) d sw_ei [sw_vr G 105, .int p1, .int p2] S (gX9_stepsBy N RR p1 p2 S) := by
  refine sw_Ev_of (own := RX9) (lv0 := [some (sw_vr G 105), some (.int p1), some (.int p2), none, none, none]) (by decide) rfl (Nat.le_of_ble_eq_true rfl) rfl ?_
  unfold gX9_stepsBy
  refine sw_ild_6_2 (np := 1) dX9_stepsBy_0 rfl ?_
  refine sw_if_ne (np := 4) (tp := 6) dX9_stepsBy_1 rfl rfl ?_ ?_
  · refine sw_ldcw (np := 9) sw_wc_RX9_272 dX9_stepsBy_6 rfl ?_
    refine sw_ist_6_3 (np := 10) dX9_stepsBy_9 rfl rfl ?_
    refine sw_iconst (np := 11) dX9_stepsBy_10 sw_ic_0 rfl ?_
    refine sw_ist_6_4 (np := 13) dX9_stepsBy_11 rfl rfl ?_
    refine sw_lp2 (lv := fun x3_1 x4_1 => [some (sw_vr G 105), some (.int p1), some (.int p2), some (.int x3_1), some (.int x4_1), none]) (fun rec1 hrec1 x3_1 x4_1 S1 => ?_) _ _ _ _
    refine sw_ild_6_4 (np := 15) dX9_stepsBy_13 rfl ?_
    refine sw_bipush (np := 17) dX9_stepsBy_15 sw_bc_12 rfl ?_
    refine sw_icmp_ge (np := 20) (tp := 71) dX9_stepsBy_17 rfl rfl ?_ ?_
    · refine sw_ild_6_3 (np := 72) dX9_stepsBy_71 rfl ?_
      exact sw_iret dX9_stepsBy_72
    · refine sw_ild_6_2 (np := 21) dX9_stepsBy_20 rfl ?_
      refine sw_ild_6_4 (np := 23) dX9_stepsBy_21 rfl ?_
      refine sw_cS2i (np := 26) (hX9_isIn (d := d - 1) (by omega) ) sw_ms_X9_isIn sw_wl_RX9_283 dX9_stepsBy_23 (sw_fit_rm (by omega) (by decide)) (Nat.le_of_ble_eq_true rfl) rfl (fun r1 S2 => ?_)
      refine sw_if_eq (np := 29) (tp := 65) dX9_stepsBy_26 rfl rfl ?_ ?_
      · refine sw_inc_6_4 (np := 68) dX9_stepsBy_65 sw_ic_1 rfl rfl ?_
        refine sw_goto (tp := 13) dX9_stepsBy_68 rfl ?_
        exact hrec1 _ _ _
      · refine sw_ild_6_1 (np := 30) dX9_stepsBy_29 rfl ?_
        refine sw_ild_6_4 (np := 32) dX9_stepsBy_30 rfl ?_
        refine sw_cS2i (np := 35) (hX9_stepsTo (d := d - 1) (by omega) ) sw_ms_X9_stepsTo sw_wl_RX9_286 dX9_stepsBy_32 (sw_fit_rm (by omega) (by decide)) (Nat.le_of_ble_eq_true rfl) rfl (fun r2 S3 => ?_)
        refine sw_ald_6_0 (np := 36) dX9_stepsBy_35 rfl ?_
        refine sw_ild_6_4 (np := 38) dX9_stepsBy_36 rfl ?_
        refine sw_ild_6_2 (np := 39) dX9_stepsBy_38 rfl ?_
        refine sw_iconst (np := 40) dX9_stepsBy_39 sw_ic_1 rfl ?_
        refine sw_ild_6_4 (np := 42) dX9_stepsBy_40 rfl ?_
        refine sw_ishl (np := 43) dX9_stepsBy_42 rfl ?_
        refine sw_iconst (np := 44) dX9_stepsBy_43 sw_ic_m1 rfl ?_
        refine sw_ixor (np := 45) dX9_stepsBy_44 rfl ?_
        refine sw_iand (np := 46) dX9_stepsBy_45 rfl ?_
        refine sw_cV2i (np := 49) (hR _ _ _ _ _) sw_mv_X9_stepsBy sw_k_105 sw_wl_RX9_289 dX9_stepsBy_46 (sw_fit_rm (by omega) (by decide)) (Nat.le_of_ble_eq_true rfl) rfl (fun r3 S4 => ?_)
        refine sw_iadd (np := 50) dX9_stepsBy_49 rfl ?_
        refine sw_isl_6_5 (np := 52) dX9_stepsBy_50 rfl rfl (fun x5_1 => ?_)
        refine sw_ild_6_5 (np := 54) dX9_stepsBy_52 rfl ?_
        refine sw_ild_6_3 (np := 55) dX9_stepsBy_54 rfl ?_
        refine sw_icmp_ge (np := 58) (tp := 63) dX9_stepsBy_55 rfl rfl ?_ ?_
        · refine sw_ild_6_3 (np := 64) dX9_stepsBy_63 rfl ?_
          refine sw_ist_6_3 (np := 65) dX9_stepsBy_64 rfl rfl ?_
          refine sw_inc_6_4 (np := 68) dX9_stepsBy_65 sw_ic_1 rfl rfl ?_
          refine sw_goto (tp := 13) dX9_stepsBy_68 rfl ?_
          refine sw_dr_6_5 ?_
          exact hrec1 _ _ _
        · refine sw_ild_6_5 (np := 60) dX9_stepsBy_58 rfl ?_
          refine sw_goto (tp := 64) dX9_stepsBy_60 rfl ?_
          refine sw_ist_6_3 (np := 65) dX9_stepsBy_64 rfl rfl ?_
          refine sw_inc_6_4 (np := 68) dX9_stepsBy_65 sw_ic_1 rfl rfl ?_
          refine sw_goto (tp := 13) dX9_stepsBy_68 rfl ?_
          refine sw_dr_6_5 ?_
          exact hrec1 _ _ _
  · refine sw_iconst (np := 5) dX9_stepsBy_4 sw_ic_0 rfl ?_
    exact sw_iret dX9_stepsBy_5
theorem hG_7 {G : sw_G} {N : Nat} : ∀ n d, 3 + n ≤ d → kG_7 G d (fG_7 N n) := by
  intro n
  induction n with
  | zero => intro d _; exact (fun _ _ _ _ _ _ h => by cases h)
  | succ n ih => intro d hd; exact (fun _ _ _ _ _ => ogX9_stepsBy (N := N) (by omega) (ih (d - 1) (by omega)))
def fX9_stepsBy (N : Nat) (p1 : Int32) (p2 : Int32) (S : sw_St) : Option (Int32 × sw_St) := fG_7 N 100 0 p1 p2 0 0 S
theorem hX9_stepsBy {G : sw_G} {N d : Nat} (hd : 103 ≤ d) {p1 : Int32} {p2 : Int32} {S : sw_St} : sw_Ev G yX9_stepsBy cX9_stepsBy 6 (some .int) d sw_ei [sw_vr G 105, .int p1, .int p2] S (fX9_stepsBy N p1 p2 S) := (hG_7 (G := G) (N := N) 100 d hd) _ _ _ _ _
/-- SwordAtticModel.walk(I)I -/
def fX9_walk (N : Nat) (p1 : Int32) (S : sw_St) : Option (Int32 × sw_St) :=
  sw_bd (fX9_within N p1.toInt64 (0 : Int64) (2 : Int64) S) (fun r1 S1 => (if r1 = 0 then (some ((-1 : Int32), S1)) else (sw_bd (fX9_begins N S1) (fun _ S2 => (sw_fx3 (fun rec1 x2_1 x3_1 x4_1 S3 => (if x4_1 ≥ (12 : Int32) then (if p1 = (2 : Int32) then (sw_bd (fX9_bitsOf N x2_1 S3) (fun r4 S5 => (if r4 ≤ (6 : Int32) then (sw_bd (fX9_stepsBy N (S5.1 105 20) x2_1 S5) (fun r5 S6 => (some (r5, S6)))) else (some ((-5 : Int32), S5))))) else (if x3_1 ≥ 0 then (if p1 = 0 then (sw_bd (fX9_stepsTo N (S3.1 105 20) x3_1 S3) (fun r3 S4 => (some (r3, S4)))) else (some (x3_1, S3))) else (some ((-2 : Int32), S3)))) else (sw_gd (sw_in x4_1 12) (if (S3.1 113 x4_1.toNatClampNeg) < 0 then (rec1 x2_1 x3_1 (x4_1 + (1 : Int32)) S3) else (sw_gd (sw_in x4_1 12) (sw_bd (fX9_isAwake N (S3.1 113 x4_1.toNatClampNeg) S3) (fun r6 S7 => (if r6 = 0 then (rec1 x2_1 x3_1 (x4_1 + (1 : Int32)) S7) else (sw_li (x2_1 ||| ((1 : Int32) <<< (x4_1 &&& 31))) (fun x2_2 => (if x3_1 < 0 then (rec1 x2_2 x4_1 (x4_1 + (1 : Int32)) S7) else (sw_bd (fX9_stepsTo N (S7.1 105 20) x4_1 S7) (fun r7 S8 => (sw_bd (fX9_stepsTo N (S8.1 105 20) x3_1 S8) (fun r8 S9 => (if r7 ≥ r8 then (rec1 x2_2 x3_1 (x4_1 + (1 : Int32)) S9) else (rec1 x2_2 x4_1 (x4_1 + (1 : Int32)) S9))))))))))))))))) N (0 : Int32) (-1 : Int32) (0 : Int32) S2)))))
theorem hX9_walk {G : sw_G} {N d : Nat} (hd : 104 ≤ d) {p1 : Int32}  {S : sw_St} : sw_Ev G yX9_walk cX9_walk 5 (some .int) d sw_ei [sw_vr G 105, .int p1] S (fX9_walk N p1 S) := by
  refine sw_Ev_of (own := RX9) (lv0 := [some (sw_vr G 105), some (.int p1), none, none, none]) (by decide) rfl (Nat.le_of_ble_eq_true rfl) rfl ?_
  unfold fX9_walk
  refine sw_ild_5_1 (np := 1) dX9_walk_0 rfl ?_
  refine sw_i2l (np := 2) dX9_walk_1 rfl ?_
  refine sw_lconst (np := 3) dX9_walk_2 sw_lc_0 rfl ?_
  refine sw_ldc2 (np := 6) sw_wc_RX9_292 dX9_walk_3 rfl ?_
  refine sw_cS3i (np := 9) (hX9_within (d := d - 1) (by omega) ) sw_ms_X9_within sw_wl_RX9_98 dX9_walk_6 (sw_fit_rm (by omega) (by decide)) (Nat.le_of_ble_eq_true rfl) rfl (fun r1 S1 => ?_)
  refine sw_if_ne (np := 12) (tp := 14) dX9_walk_9 rfl rfl ?_ ?_
  · refine sw_ald_5_0 (np := 15) dX9_walk_14 rfl ?_
    refine sw_cV0v (np := 18) (hX9_begins (d := d - 1) (by omega) ) sw_mv_X9_begins sw_k_105 sw_wl_RX9_233 dX9_walk_15 (sw_fit_rm (by omega) (by decide)) (Nat.le_of_ble_eq_true rfl) rfl (fun _ S2 => ?_)
    refine sw_iconst (np := 19) dX9_walk_18 sw_ic_0 rfl ?_
    refine sw_ist_5_2 (np := 20) dX9_walk_19 rfl rfl ?_
    refine sw_iconst (np := 21) dX9_walk_20 sw_ic_m1 rfl ?_
    refine sw_ist_5_3 (np := 22) dX9_walk_21 rfl rfl ?_
    refine sw_iconst (np := 23) dX9_walk_22 sw_ic_0 rfl ?_
    refine sw_ist_5_4 (np := 25) dX9_walk_23 rfl rfl ?_
    refine sw_lp3 (lv := fun x2_1 x3_1 x4_1 => [some (sw_vr G 105), some (.int p1), some (.int x2_1), some (.int x3_1), some (.int x4_1)]) (fun rec1 hrec1 x2_1 x3_1 x4_1 S3 => ?_) _ _ _ _ _
    refine sw_ild_5_4 (np := 27) dX9_walk_25 rfl ?_
    refine sw_bipush (np := 29) dX9_walk_27 sw_bc_12 rfl ?_
    refine sw_icmp_ge (np := 32) (tp := 100) dX9_walk_29 rfl rfl ?_ ?_
    · refine sw_ild_5_1 (np := 101) dX9_walk_100 rfl ?_
      refine sw_iconst (np := 102) dX9_walk_101 sw_ic_2 rfl ?_
      refine sw_icmp_ne (np := 105) (tp := 129) dX9_walk_102 rfl rfl ?_ ?_
      · refine sw_ild_5_3 (np := 130) dX9_walk_129 rfl ?_
        refine sw_if_ge (np := 133) (tp := 138) dX9_walk_130 rfl rfl ?_ ?_
        · refine sw_ild_5_1 (np := 139) dX9_walk_138 rfl ?_
          refine sw_if_ne (np := 142) (tp := 153) dX9_walk_139 rfl rfl ?_ ?_
          · refine sw_ild_5_3 (np := 154) dX9_walk_153 rfl ?_
            exact sw_iret dX9_walk_154
          · refine sw_ald_5_0 (np := 143) dX9_walk_142 rfl ?_
            refine sw_gI (np := 146) sw_f_RX9_204 sw_k_105 dX9_walk_143 rfl ?_
            refine sw_ild_5_3 (np := 147) dX9_walk_146 rfl ?_
            refine sw_cS2i (np := 150) (hX9_stepsTo (d := d - 1) (by omega) ) sw_ms_X9_stepsTo sw_wl_RX9_286 dX9_walk_147 (sw_fit_rm (by omega) (by decide)) (Nat.le_of_ble_eq_true rfl) rfl (fun r3 S4 => ?_)
            refine sw_goto (tp := 154) dX9_walk_150 rfl ?_
            exact sw_iret dX9_walk_154
        · refine sw_bipush (np := 135) dX9_walk_133 sw_bc_m2 rfl ?_
          refine sw_goto (tp := 154) dX9_walk_135 rfl ?_
          exact sw_iret dX9_walk_154
      · refine sw_ild_5_2 (np := 106) dX9_walk_105 rfl ?_
        refine sw_cS1i (np := 109) (hX9_bitsOf (d := d - 1) (by omega) ) sw_ms_X9_bitsOf sw_wl_RX9_229 dX9_walk_106 (sw_fit_rm (by omega) (by decide)) (Nat.le_of_ble_eq_true rfl) rfl (fun r4 S5 => ?_)
        refine sw_bipush (np := 111) dX9_walk_109 sw_bc_6 rfl ?_
        refine sw_icmp_le (np := 114) (tp := 119) dX9_walk_111 rfl rfl ?_ ?_
        · refine sw_ald_5_0 (np := 120) dX9_walk_119 rfl ?_
          refine sw_ald_5_0 (np := 121) dX9_walk_120 rfl ?_
          refine sw_gI (np := 124) sw_f_RX9_204 sw_k_105 dX9_walk_121 rfl ?_
          refine sw_ild_5_2 (np := 125) dX9_walk_124 rfl ?_
          refine sw_cV2i (np := 128) (hX9_stepsBy (d := d - 1) (by omega) ) sw_mv_X9_stepsBy sw_k_105 sw_wl_RX9_289 dX9_walk_125 (sw_fit_rm (by omega) (by decide)) (Nat.le_of_ble_eq_true rfl) rfl (fun r5 S6 => ?_)
          exact sw_iret dX9_walk_128
        · refine sw_bipush (np := 116) dX9_walk_114 sw_bc_m5 rfl ?_
          refine sw_goto (tp := 128) dX9_walk_116 rfl ?_
          exact sw_iret dX9_walk_128
    · refine sw_ald_5_0 (np := 33) dX9_walk_32 rfl ?_
      refine sw_gR (np := 36) sw_f_RX9_31 sw_k_105 sw_r_105_17 dX9_walk_33 rfl ?_
      refine sw_ild_5_4 (np := 38) dX9_walk_36 rfl ?_
      refine sw_iald (np := 39) sw_k_113 sw_n_113 dX9_walk_38 rfl ?_
      refine sw_if_lt (np := 42) (tp := 94) dX9_walk_39 rfl rfl ?_ ?_
      · refine sw_inc_5_4 (np := 97) dX9_walk_94 sw_ic_1 rfl rfl ?_
        refine sw_goto (tp := 25) dX9_walk_97 rfl ?_
        exact hrec1 _ _ _ _
      · refine sw_ald_5_0 (np := 43) dX9_walk_42 rfl ?_
        refine sw_ald_5_0 (np := 44) dX9_walk_43 rfl ?_
        refine sw_gR (np := 47) sw_f_RX9_31 sw_k_105 sw_r_105_17 dX9_walk_44 rfl ?_
        refine sw_ild_5_4 (np := 49) dX9_walk_47 rfl ?_
        refine sw_iald (np := 50) sw_k_113 sw_n_113 dX9_walk_49 rfl ?_
        refine sw_cV1i (np := 53) (hX9_isAwake (d := d - 1) (by omega) ) sw_mv_X9_isAwake sw_k_105 sw_wl_RX9_214 dX9_walk_50 (sw_fit_rm (by omega) (by decide)) (Nat.le_of_ble_eq_true rfl) rfl (fun r6 S7 => ?_)
        refine sw_if_eq (np := 56) (tp := 94) dX9_walk_53 rfl rfl ?_ ?_
        · refine sw_inc_5_4 (np := 97) dX9_walk_94 sw_ic_1 rfl rfl ?_
          refine sw_goto (tp := 25) dX9_walk_97 rfl ?_
          exact hrec1 _ _ _ _
        · refine sw_ild_5_2 (np := 57) dX9_walk_56 rfl ?_
          refine sw_iconst (np := 58) dX9_walk_57 sw_ic_1 rfl ?_
          refine sw_ild_5_4 (np := 60) dX9_walk_58 rfl ?_
          refine sw_ishl (np := 61) dX9_walk_60 rfl ?_
          refine sw_ior (np := 62) dX9_walk_61 rfl ?_
          refine sw_isl_5_2 (np := 63) dX9_walk_62 rfl rfl (fun x2_2 => ?_)
          refine sw_ild_5_3 (np := 64) dX9_walk_63 rfl ?_
          refine sw_if_lt (np := 67) (tp := 87) dX9_walk_64 rfl rfl ?_ ?_
          · refine sw_ild_5_4 (np := 89) dX9_walk_87 rfl ?_
            refine sw_goto (tp := 93) dX9_walk_89 rfl ?_
            refine sw_ist_5_3 (np := 94) dX9_walk_93 rfl rfl ?_
            refine sw_inc_5_4 (np := 97) dX9_walk_94 sw_ic_1 rfl rfl ?_
            refine sw_goto (tp := 25) dX9_walk_97 rfl ?_
            exact hrec1 _ _ _ _
          · refine sw_ald_5_0 (np := 68) dX9_walk_67 rfl ?_
            refine sw_gI (np := 71) sw_f_RX9_204 sw_k_105 dX9_walk_68 rfl ?_
            refine sw_ild_5_4 (np := 73) dX9_walk_71 rfl ?_
            refine sw_cS2i (np := 76) (hX9_stepsTo (d := d - 1) (by omega) ) sw_ms_X9_stepsTo sw_wl_RX9_286 dX9_walk_73 (sw_fit_rm (by omega) (by decide)) (Nat.le_of_ble_eq_true rfl) rfl (fun r7 S8 => ?_)
            refine sw_ald_5_0 (np := 77) dX9_walk_76 rfl ?_
            refine sw_gI (np := 80) sw_f_RX9_204 sw_k_105 dX9_walk_77 rfl ?_
            refine sw_ild_5_3 (np := 81) dX9_walk_80 rfl ?_
            refine sw_cS2i (np := 84) (hX9_stepsTo (d := d - 1) (by omega) ) sw_ms_X9_stepsTo sw_wl_RX9_286 dX9_walk_81 (sw_fit_rm (by omega) (by decide)) (Nat.le_of_ble_eq_true rfl) rfl (fun r8 S9 => ?_)
            refine sw_icmp_ge (np := 87) (tp := 92) dX9_walk_84 rfl rfl ?_ ?_
            · refine sw_ild_5_3 (np := 93) dX9_walk_92 rfl ?_
              refine sw_ist_5_3 (np := 94) dX9_walk_93 rfl rfl ?_
              refine sw_inc_5_4 (np := 97) dX9_walk_94 sw_ic_1 rfl rfl ?_
              refine sw_goto (tp := 25) dX9_walk_97 rfl ?_
              exact hrec1 _ _ _ _
            · refine sw_ild_5_4 (np := 89) dX9_walk_87 rfl ?_
              refine sw_goto (tp := 93) dX9_walk_89 rfl ?_
              refine sw_ist_5_3 (np := 94) dX9_walk_93 rfl rfl ?_
              refine sw_inc_5_4 (np := 97) dX9_walk_94 sw_ic_1 rfl rfl ?_
              refine sw_goto (tp := 25) dX9_walk_97 rfl ?_
              exact hrec1 _ _ _ _
  · refine sw_iconst (np := 13) dX9_walk_12 sw_ic_m1 rfl ?_
    exact sw_iret dX9_walk_13
/-- SwordAtticModel.rowsAre(I)I -/
def fX9_rowsAre (N : Nat) (p1 : Int32) (S : sw_St) : Option (Int32 × sw_St) :=
  if p1 < 0 then (some ((-1 : Int32), S)) else (sw_bd (fX9_isShelf N (p1 / (10 : Int32)) S) (fun r1 S1 => (if r1 = 0 then (some ((-1 : Int32), S1)) else (sw_bd (fX9_isShelf N (p1 - p1 / (10 : Int32) * (10 : Int32)) S1) (fun r2 S2 => (if r2 = 0 then (some ((-1 : Int32), S2)) else (sw_bd (fX9_bytesIs N (p1 / (10 : Int32)) S2) (fun r3 S3 => (if r3 ≥ 0 then (sw_bd (fX9_bytesIs N (p1 - p1 / (10 : Int32) * (10 : Int32)) S3) (fun r4 S4 => (some (r4, S4)))) else (sw_bd (fX9_bytesIs N (p1 / (10 : Int32)) S3) (fun r5 S5 => (some (r5, S5)))))))))))))
theorem hX9_rowsAre {G : sw_G} {N d : Nat} (hd : 4 ≤ d) {p1 : Int32}  {S : sw_St} : sw_Ev G yX9_rowsAre cX9_rowsAre 2 (some .int) d sw_ei [sw_vr G 105, .int p1] S (fX9_rowsAre N p1 S) := by
  refine sw_Ev_of (own := RX9) (lv0 := [some (sw_vr G 105), some (.int p1)]) (by decide) rfl (Nat.le_of_ble_eq_true rfl) rfl ?_
  unfold fX9_rowsAre
  refine sw_ild_2_1 (np := 1) dX9_rowsAre_0 rfl ?_
  refine sw_if_lt (np := 4) (tp := 24) dX9_rowsAre_1 rfl rfl ?_ ?_
  · refine sw_iconst (np := 25) dX9_rowsAre_24 sw_ic_m1 rfl ?_
    exact sw_iret dX9_rowsAre_25
  · refine sw_ild_2_1 (np := 5) dX9_rowsAre_4 rfl ?_
    refine sw_bipush (np := 7) dX9_rowsAre_5 sw_bc_10 rfl ?_
    refine sw_idiv (np := 8) dX9_rowsAre_7 (by decide) rfl ?_
    refine sw_cS1i (np := 11) (hX9_isShelf (d := d - 1) (by omega) ) sw_ms_X9_isShelf sw_wl_RX9_119 dX9_rowsAre_8 (sw_fit_rm (by omega) (by decide)) (Nat.le_of_ble_eq_true rfl) rfl (fun r1 S1 => ?_)
    refine sw_if_eq (np := 14) (tp := 24) dX9_rowsAre_11 rfl rfl ?_ ?_
    · refine sw_iconst (np := 25) dX9_rowsAre_24 sw_ic_m1 rfl ?_
      exact sw_iret dX9_rowsAre_25
    · refine sw_ild_2_1 (np := 15) dX9_rowsAre_14 rfl ?_
      refine sw_bipush (np := 17) dX9_rowsAre_15 sw_bc_10 rfl ?_
      refine sw_irem (np := 18) dX9_rowsAre_17 (by decide) rfl ?_
      refine sw_cS1i (np := 21) (hX9_isShelf (d := d - 1) (by omega) ) sw_ms_X9_isShelf sw_wl_RX9_119 dX9_rowsAre_18 (sw_fit_rm (by omega) (by decide)) (Nat.le_of_ble_eq_true rfl) rfl (fun r2 S2 => ?_)
      refine sw_if_ne (np := 24) (tp := 26) dX9_rowsAre_21 rfl rfl ?_ ?_
      · refine sw_ald_2_0 (np := 27) dX9_rowsAre_26 rfl ?_
        refine sw_ild_2_1 (np := 28) dX9_rowsAre_27 rfl ?_
        refine sw_bipush (np := 30) dX9_rowsAre_28 sw_bc_10 rfl ?_
        refine sw_idiv (np := 31) dX9_rowsAre_30 (by decide) rfl ?_
        refine sw_cV1i (np := 34) (hX9_bytesIs (d := d - 1) (by omega) ) sw_mv_X9_bytesIs sw_k_105 sw_wl_RX9_245 dX9_rowsAre_31 (sw_fit_rm (by omega) (by decide)) (Nat.le_of_ble_eq_true rfl) rfl (fun r3 S3 => ?_)
        refine sw_if_ge (np := 37) (tp := 48) dX9_rowsAre_34 rfl rfl ?_ ?_
        · refine sw_ald_2_0 (np := 49) dX9_rowsAre_48 rfl ?_
          refine sw_ild_2_1 (np := 50) dX9_rowsAre_49 rfl ?_
          refine sw_bipush (np := 52) dX9_rowsAre_50 sw_bc_10 rfl ?_
          refine sw_irem (np := 53) dX9_rowsAre_52 (by decide) rfl ?_
          refine sw_cV1i (np := 56) (hX9_bytesIs (d := d - 1) (by omega) ) sw_mv_X9_bytesIs sw_k_105 sw_wl_RX9_245 dX9_rowsAre_53 (sw_fit_rm (by omega) (by decide)) (Nat.le_of_ble_eq_true rfl) rfl (fun r4 S4 => ?_)
          exact sw_iret dX9_rowsAre_56
        · refine sw_ald_2_0 (np := 38) dX9_rowsAre_37 rfl ?_
          refine sw_ild_2_1 (np := 39) dX9_rowsAre_38 rfl ?_
          refine sw_bipush (np := 41) dX9_rowsAre_39 sw_bc_10 rfl ?_
          refine sw_idiv (np := 42) dX9_rowsAre_41 (by decide) rfl ?_
          refine sw_cV1i (np := 45) (hX9_bytesIs (d := d - 1) (by omega) ) sw_mv_X9_bytesIs sw_k_105 sw_wl_RX9_245 dX9_rowsAre_42 (sw_fit_rm (by omega) (by decide)) (Nat.le_of_ble_eq_true rfl) rfl (fun r5 S5 => ?_)
          refine sw_goto (tp := 56) dX9_rowsAre_45 rfl ?_
          exact sw_iret dX9_rowsAre_56
      · refine sw_iconst (np := 25) dX9_rowsAre_24 sw_ic_m1 rfl ?_
        exact sw_iret dX9_rowsAre_25
/-- SwordAtticModel.firstFalse(II)I -/
def fX9_firstFalse (N : Nat) (p1 : Int32) (p2 : Int32) (S : sw_St) : Option (Int32 × sw_St) :=
  sw_bd (fX9_begins N S) (fun _ S1 => (sw_bd (fX9_hourMany N (p1 / (10 : Int32)) S1) (fun r2 S2 => (sw_fx1 (fun rec1 x4_1 S3 => (sw_gd (sw_in (p1 - p1 / (10 : Int32) * (10 : Int32)) 6) (if x4_1 ≥ (S3.1 125 (p1 - p1 / (10 : Int32) * (10 : Int32)).toNatClampNeg) then (some ((-2 : Int32), S3)) else (if x4_1 ≤ r2 then (sw_jn0 (fun S4 => (sw_gd (sw_in (((60 : Int32) * (p1 - p1 / (10 : Int32) * (10 : Int32))) + x4_1) 360) (sw_gd (sw_in p2 10) (if (lg_cmp (S4.2 126 (((60 : Int32) * (p1 - p1 / (10 : Int32) * (10 : Int32))) + x4_1).toNatClampNeg) ((S4.1 114 p2.toNatClampNeg).toInt64)) = 0 then (rec1 (x4_1 + (1 : Int32)) S4) else (some (x4_1, S4)))))) (fun k1 => (if x4_1 ≤ 0 then (k1 S3) else (sw_bd (fX9_goesNext N (p1 / (10 : Int32)) (x4_1 - (1 : Int32)) S3) (fun _ S5 => (k1 S5)))))) else (some (x4_1, S3)))))) N (0 : Int32) S2))))
theorem hX9_firstFalse {G : sw_G} {N d : Nat} (hd : 108 ≤ d) {p1 : Int32} {p2 : Int32}  {S : sw_St} : sw_Ev G yX9_firstFalse cX9_firstFalse 5 (some .int) d sw_ei [sw_vr G 105, .int p1, .int p2] S (fX9_firstFalse N p1 p2 S) := by
  refine sw_Ev_of (own := RX9) (lv0 := [some (sw_vr G 105), some (.int p1), some (.int p2), none, none]) (by decide) rfl (Nat.le_of_ble_eq_true rfl) rfl ?_
  unfold fX9_firstFalse
  refine sw_ald_5_0 (np := 1) dX9_firstFalse_0 rfl ?_
  refine sw_cV0v (np := 4) (hX9_begins (d := d - 1) (by omega) ) sw_mv_X9_begins sw_k_105 sw_wl_RX9_233 dX9_firstFalse_1 (sw_fit_rm (by omega) (by decide)) (Nat.le_of_ble_eq_true rfl) rfl (fun _ S1 => ?_)
  refine sw_ald_5_0 (np := 5) dX9_firstFalse_4 rfl ?_
  refine sw_ild_5_1 (np := 6) dX9_firstFalse_5 rfl ?_
  refine sw_bipush (np := 8) dX9_firstFalse_6 sw_bc_10 rfl ?_
  refine sw_idiv (np := 9) dX9_firstFalse_8 (by decide) rfl ?_
  refine sw_cV1i (np := 12) (hX9_hourMany (d := d - 1) (by omega) ) sw_mv_X9_hourMany sw_k_105 sw_wl_RX9_239 dX9_firstFalse_9 (sw_fit_rm (by omega) (by decide)) (Nat.le_of_ble_eq_true rfl) rfl (fun r2 S2 => ?_)
  refine sw_ist_5_3 (np := 13) dX9_firstFalse_12 rfl rfl ?_
  refine sw_iconst (np := 14) dX9_firstFalse_13 sw_ic_0 rfl ?_
  refine sw_ist_5_4 (np := 16) dX9_firstFalse_14 rfl rfl ?_
  refine sw_lp1 (lv := fun x4_1 => [some (sw_vr G 105), some (.int p1), some (.int p2), some (.int r2), some (.int x4_1)]) (fun rec1 hrec1 x4_1 S3 => ?_) _ _ _
  refine sw_ild_5_4 (np := 18) dX9_firstFalse_16 rfl ?_
  refine sw_ald_5_0 (np := 19) dX9_firstFalse_18 rfl ?_
  refine sw_gR (np := 22) sw_f_RX9_67 sw_k_105 sw_r_105_39 dX9_firstFalse_19 rfl ?_
  refine sw_ild_5_1 (np := 23) dX9_firstFalse_22 rfl ?_
  refine sw_bipush (np := 25) dX9_firstFalse_23 sw_bc_10 rfl ?_
  refine sw_irem (np := 26) dX9_firstFalse_25 (by decide) rfl ?_
  refine sw_iald (np := 27) sw_k_125 sw_n_125 dX9_firstFalse_26 rfl ?_
  refine sw_icmp_ge (np := 30) (tp := 91) dX9_firstFalse_27 rfl rfl ?_ ?_
  · refine sw_bipush (np := 93) dX9_firstFalse_91 sw_bc_m2 rfl ?_
    exact sw_iret dX9_firstFalse_93
  · refine sw_ild_5_4 (np := 32) dX9_firstFalse_30 rfl ?_
    refine sw_ild_5_3 (np := 33) dX9_firstFalse_32 rfl ?_
    refine sw_icmp_le (np := 36) (tp := 39) dX9_firstFalse_33 rfl rfl ?_ ?_
    · refine sw_ild_5_4 (np := 41) dX9_firstFalse_39 rfl ?_
      refine sw_jm0 (pj := 56) ([some (sw_vr G 105), some (.int p1), some (.int p2), some (.int r2), some (.int x4_1)]) ([]) (fun S4 => ?_) (fun k1 hk1 => ?_)
      · refine sw_ald_5_0 (np := 57) dX9_firstFalse_56 rfl ?_
        refine sw_gR (np := 60) sw_f_RX9_70 sw_k_105 sw_r_105_40 dX9_firstFalse_57 rfl ?_
        refine sw_bipush (np := 62) dX9_firstFalse_60 sw_bc_60 rfl ?_
        refine sw_ild_5_1 (np := 63) dX9_firstFalse_62 rfl ?_
        refine sw_bipush (np := 65) dX9_firstFalse_63 sw_bc_10 rfl ?_
        refine sw_irem (np := 66) dX9_firstFalse_65 (by decide) rfl ?_
        refine sw_imul (np := 67) dX9_firstFalse_66 rfl ?_
        refine sw_ild_5_4 (np := 69) dX9_firstFalse_67 rfl ?_
        refine sw_iadd (np := 70) dX9_firstFalse_69 rfl ?_
        refine sw_lald (np := 71) sw_k_126 sw_n_126 dX9_firstFalse_70 rfl ?_
        refine sw_ald_5_0 (np := 72) dX9_firstFalse_71 rfl ?_
        refine sw_gR (np := 75) sw_f_RX9_34 sw_k_105 sw_r_105_18 dX9_firstFalse_72 rfl ?_
        refine sw_ild_5_2 (np := 76) dX9_firstFalse_75 rfl ?_
        refine sw_iald (np := 77) sw_k_114 sw_n_114 dX9_firstFalse_76 rfl ?_
        refine sw_i2l (np := 78) dX9_firstFalse_77 rfl ?_
        refine sw_lcmp (np := 79) dX9_firstFalse_78 rfl ?_
        refine sw_if_eq (np := 82) (tp := 85) dX9_firstFalse_79 rfl rfl ?_ ?_
        · refine sw_inc_5_4 (np := 88) dX9_firstFalse_85 sw_ic_1 rfl rfl ?_
          refine sw_goto (tp := 16) dX9_firstFalse_88 rfl ?_
          exact hrec1 _ _
        · refine sw_ild_5_4 (np := 84) dX9_firstFalse_82 rfl ?_
          exact sw_iret dX9_firstFalse_84
      · refine sw_if_le (np := 44) (tp := 56) dX9_firstFalse_41 rfl rfl ?_ ?_
        · exact hk1 _
        · refine sw_ald_5_0 (np := 45) dX9_firstFalse_44 rfl ?_
          refine sw_ild_5_1 (np := 46) dX9_firstFalse_45 rfl ?_
          refine sw_bipush (np := 48) dX9_firstFalse_46 sw_bc_10 rfl ?_
          refine sw_idiv (np := 49) dX9_firstFalse_48 (by decide) rfl ?_
          refine sw_ild_5_4 (np := 51) dX9_firstFalse_49 rfl ?_
          refine sw_iconst (np := 52) dX9_firstFalse_51 sw_ic_1 rfl ?_
          refine sw_isub (np := 53) dX9_firstFalse_52 rfl ?_
          refine sw_cV2v (np := 56) (hX9_goesNext (d := d - 1) (by omega) ) sw_mv_X9_goesNext sw_k_105 sw_wl_RX9_242 dX9_firstFalse_53 (sw_fit_rm (by omega) (by decide)) (Nat.le_of_ble_eq_true rfl) rfl (fun _ S5 => ?_)
          exact hk1 _
    · refine sw_ild_5_4 (np := 38) dX9_firstFalse_36 rfl ?_
      exact sw_iret dX9_firstFalse_38
/-- SwordAtticModel.judge(II)I -/
def fX9_judge (N : Nat) (p1 : Int32) (p2 : Int32) (S : sw_St) : Option (Int32 × sw_St) :=
  sw_bd (fX9_rowsAre N p1 S) (fun r1 S1 => (if r1 = (-1 : Int32) then (some ((-1 : Int32), S1)) else (sw_bd (fX9_isSword N p2.toInt64 S1) (fun r2 S2 => (if r2 = 0 then (some ((-1 : Int32), S2)) else (sw_bd (fX9_rowsAre N p1 S2) (fun r3 S3 => (if r3 ≥ 0 then (sw_bd (fX9_firstFalse N p1 p2 S3) (fun r4 S4 => (some (r4, S4)))) else (sw_bd (fX9_rowsAre N p1 S3) (fun r5 S5 => (some (r5, S5))))))))))))
theorem hX9_judge {G : sw_G} {N d : Nat} (hd : 109 ≤ d) {p1 : Int32} {p2 : Int32}  {S : sw_St} : sw_Ev G yX9_judge cX9_judge 3 (some .int) d sw_ei [sw_vr G 105, .int p1, .int p2] S (fX9_judge N p1 p2 S) := by
  refine sw_Ev_of (own := RX9) (lv0 := [some (sw_vr G 105), some (.int p1), some (.int p2)]) (by decide) rfl (Nat.le_of_ble_eq_true rfl) rfl ?_
  unfold fX9_judge
  refine sw_ald_3_0 (np := 1) dX9_judge_0 rfl ?_
  refine sw_ild_3_1 (np := 2) dX9_judge_1 rfl ?_
  refine sw_cV1i (np := 5) (hX9_rowsAre (d := d - 1) (by omega) ) sw_mv_X9_rowsAre sw_k_105 sw_wl_RX9_294 dX9_judge_2 (sw_fit_rm (by omega) (by decide)) (Nat.le_of_ble_eq_true rfl) rfl (fun r1 S1 => ?_)
  refine sw_iconst (np := 6) dX9_judge_5 sw_ic_m1 rfl ?_
  refine sw_icmp_eq (np := 9) (tp := 18) dX9_judge_6 rfl rfl ?_ ?_
  · refine sw_iconst (np := 19) dX9_judge_18 sw_ic_m1 rfl ?_
    exact sw_iret dX9_judge_19
  · refine sw_ald_3_0 (np := 10) dX9_judge_9 rfl ?_
    refine sw_ild_3_2 (np := 11) dX9_judge_10 rfl ?_
    refine sw_i2l (np := 12) dX9_judge_11 rfl ?_
    refine sw_cV1i (np := 15) (hX9_isSword (d := d - 1) (by omega) ) sw_mv_X9_isSword sw_k_105 sw_wl_RX9_127 dX9_judge_12 (sw_fit_rm (by omega) (by decide)) (Nat.le_of_ble_eq_true rfl) rfl (fun r2 S2 => ?_)
    refine sw_if_ne (np := 18) (tp := 20) dX9_judge_15 rfl rfl ?_ ?_
    · refine sw_ald_3_0 (np := 21) dX9_judge_20 rfl ?_
      refine sw_ild_3_1 (np := 22) dX9_judge_21 rfl ?_
      refine sw_cV1i (np := 25) (hX9_rowsAre (d := d - 1) (by omega) ) sw_mv_X9_rowsAre sw_k_105 sw_wl_RX9_294 dX9_judge_22 (sw_fit_rm (by omega) (by decide)) (Nat.le_of_ble_eq_true rfl) rfl (fun r3 S3 => ?_)
      refine sw_if_ge (np := 28) (tp := 36) dX9_judge_25 rfl rfl ?_ ?_
      · refine sw_ald_3_0 (np := 37) dX9_judge_36 rfl ?_
        refine sw_ild_3_1 (np := 38) dX9_judge_37 rfl ?_
        refine sw_ild_3_2 (np := 39) dX9_judge_38 rfl ?_
        refine sw_cV2i (np := 42) (hX9_firstFalse (d := d - 1) (by omega) ) sw_mv_X9_firstFalse sw_k_105 sw_wl_RX9_297 dX9_judge_39 (sw_fit_rm (by omega) (by decide)) (Nat.le_of_ble_eq_true rfl) rfl (fun r4 S4 => ?_)
        exact sw_iret dX9_judge_42
      · refine sw_ald_3_0 (np := 29) dX9_judge_28 rfl ?_
        refine sw_ild_3_1 (np := 30) dX9_judge_29 rfl ?_
        refine sw_cV1i (np := 33) (hX9_rowsAre (d := d - 1) (by omega) ) sw_mv_X9_rowsAre sw_k_105 sw_wl_RX9_294 dX9_judge_30 (sw_fit_rm (by omega) (by decide)) (Nat.le_of_ble_eq_true rfl) rfl (fun r5 S5 => ?_)
        refine sw_goto (tp := 42) dX9_judge_33 rfl ?_
        exact sw_iret dX9_judge_42
    · refine sw_iconst (np := 19) dX9_judge_18 sw_ic_m1 rfl ?_
      exact sw_iret dX9_judge_19
/-- SwordAtticModel.fits(III)I -/
def fX9_fits (N : Nat) (p1 : Int32) (p2 : Int32) (p3 : Int32) (S : sw_St) : Option (Int32 × sw_St) :=
  sw_bd (fX9_rowsAre N p1 S) (fun r1 S1 => (if r1 = (-1 : Int32) then (some ((-1 : Int32), S1)) else (if p2 < 0 then (some ((-1 : Int32), S1)) else (sw_bd (fX9_isSword N ((p2 / (10 : Int32)).toInt64) S1) (fun r2 S2 => (if r2 = 0 then (some ((-1 : Int32), S2)) else (sw_bd (fX9_isSword N ((p2 - p2 / (10 : Int32) * (10 : Int32)).toInt64) S2) (fun r3 S3 => (if r3 = 0 then (some ((-1 : Int32), S3)) else (sw_bd (fX9_within N p3.toInt64 (0 : Int64) (3 : Int64) S3) (fun r4 S4 => (if r4 = 0 then (some ((-1 : Int32), S4)) else (sw_bd (fX9_rowsAre N p1 S4) (fun r5 S5 => (if r5 ≥ 0 then (sw_jn1 (fun y1 S6 => (sw_li (y1 + (p2 - p2 / (10 : Int32) * (10 : Int32))) (fun x4_1 => (sw_gd (sw_in x4_1 53) (sw_li (S6.1 106 x4_1.toNatClampNeg) (fun x5_1 => (sw_fx3 (fun rec1 x6_1 x7_1 x8_1 S7 => (sw_jn1 (fun y2 S8 => (if x8_1 > y2 then (sw_gd (sw_in x4_1 53) (sw_ls (sw_si S8 106 x4_1.toNatClampNeg x5_1) (fun S9 => (if (p3 - p3 / (2 : Int32) * (2 : Int32)) = 0 then (some (x6_1, S9)) else (some (x7_1, S9)))))) else (sw_gd (sw_in x4_1 53) (sw_ls (sw_si S8 106 x4_1.toNatClampNeg x8_1) (fun S10 => (sw_bd (fX9_firstFalse N p1 (p2 / (10 : Int32)) S10) (fun r6 S11 => (if r6 = (-2 : Int32) then (if x6_1 = 0 then (rec1 (x6_1 + (1 : Int32)) x8_1 (x8_1 + (1 : Int32)) S11) else (rec1 (x6_1 + (1 : Int32)) x7_1 (x8_1 + (1 : Int32)) S11)) else (rec1 x6_1 x7_1 (x8_1 + (1 : Int32)) S11))))))))) (fun k2 => (if p3 ≥ (2 : Int32) then (k2 (99 : Int32) S7) else (k2 (9 : Int32) S7))))) N (0 : Int32) (-2 : Int32) (0 : Int32) S6))))))) (fun k1 => (if p3 ≥ (2 : Int32) then (k1 (20 : Int32) S5) else (k1 (10 : Int32) S5)))) else (sw_bd (fX9_rowsAre N p1 S5) (fun r7 S12 => (some (r7, S12)))))))))))))))))))
theorem hX9_fits {G : sw_G} {N d : Nat} (hd : 109 ≤ d) {p1 : Int32} {p2 : Int32} {p3 : Int32}  {S : sw_St} : sw_Ev G yX9_fits cX9_fits 9 (some .int) d sw_ei [sw_vr G 105, .int p1, .int p2, .int p3] S (fX9_fits N p1 p2 p3 S) := by
  refine sw_Ev_of (own := RX9) (lv0 := [some (sw_vr G 105), some (.int p1), some (.int p2), some (.int p3), none, none, none, none, none]) (by decide) rfl (Nat.le_of_ble_eq_true rfl) rfl ?_
  unfold fX9_fits
  refine sw_ald_9_0 (np := 1) dX9_fits_0 rfl ?_
  refine sw_ild_9_1 (np := 2) dX9_fits_1 rfl ?_
  refine sw_cV1i (np := 5) (hX9_rowsAre (d := d - 1) (by omega) ) sw_mv_X9_rowsAre sw_k_105 sw_wl_RX9_294 dX9_fits_2 (sw_fit_rm (by omega) (by decide)) (Nat.le_of_ble_eq_true rfl) rfl (fun r1 S1 => ?_)
  refine sw_iconst (np := 6) dX9_fits_5 sw_ic_m1 rfl ?_
  refine sw_icmp_eq (np := 9) (tp := 49) dX9_fits_6 rfl rfl ?_ ?_
  · refine sw_iconst (np := 50) dX9_fits_49 sw_ic_m1 rfl ?_
    exact sw_iret dX9_fits_50
  · refine sw_ild_9_2 (np := 10) dX9_fits_9 rfl ?_
    refine sw_if_lt (np := 13) (tp := 49) dX9_fits_10 rfl rfl ?_ ?_
    · refine sw_iconst (np := 50) dX9_fits_49 sw_ic_m1 rfl ?_
      exact sw_iret dX9_fits_50
    · refine sw_ald_9_0 (np := 14) dX9_fits_13 rfl ?_
      refine sw_ild_9_2 (np := 15) dX9_fits_14 rfl ?_
      refine sw_bipush (np := 17) dX9_fits_15 sw_bc_10 rfl ?_
      refine sw_idiv (np := 18) dX9_fits_17 (by decide) rfl ?_
      refine sw_i2l (np := 19) dX9_fits_18 rfl ?_
      refine sw_cV1i (np := 22) (hX9_isSword (d := d - 1) (by omega) ) sw_mv_X9_isSword sw_k_105 sw_wl_RX9_127 dX9_fits_19 (sw_fit_rm (by omega) (by decide)) (Nat.le_of_ble_eq_true rfl) rfl (fun r2 S2 => ?_)
      refine sw_if_eq (np := 25) (tp := 49) dX9_fits_22 rfl rfl ?_ ?_
      · refine sw_iconst (np := 50) dX9_fits_49 sw_ic_m1 rfl ?_
        exact sw_iret dX9_fits_50
      · refine sw_ald_9_0 (np := 26) dX9_fits_25 rfl ?_
        refine sw_ild_9_2 (np := 27) dX9_fits_26 rfl ?_
        refine sw_bipush (np := 29) dX9_fits_27 sw_bc_10 rfl ?_
        refine sw_irem (np := 30) dX9_fits_29 (by decide) rfl ?_
        refine sw_i2l (np := 31) dX9_fits_30 rfl ?_
        refine sw_cV1i (np := 34) (hX9_isSword (d := d - 1) (by omega) ) sw_mv_X9_isSword sw_k_105 sw_wl_RX9_127 dX9_fits_31 (sw_fit_rm (by omega) (by decide)) (Nat.le_of_ble_eq_true rfl) rfl (fun r3 S3 => ?_)
        refine sw_if_eq (np := 37) (tp := 49) dX9_fits_34 rfl rfl ?_ ?_
        · refine sw_iconst (np := 50) dX9_fits_49 sw_ic_m1 rfl ?_
          exact sw_iret dX9_fits_50
        · refine sw_ild_9_3 (np := 38) dX9_fits_37 rfl ?_
          refine sw_i2l (np := 39) dX9_fits_38 rfl ?_
          refine sw_lconst (np := 40) dX9_fits_39 sw_lc_0 rfl ?_
          refine sw_ldc2 (np := 43) sw_wc_RX9_268 dX9_fits_40 rfl ?_
          refine sw_cS3i (np := 46) (hX9_within (d := d - 1) (by omega) ) sw_ms_X9_within sw_wl_RX9_98 dX9_fits_43 (sw_fit_rm (by omega) (by decide)) (Nat.le_of_ble_eq_true rfl) rfl (fun r4 S4 => ?_)
          refine sw_if_ne (np := 49) (tp := 51) dX9_fits_46 rfl rfl ?_ ?_
          · refine sw_ald_9_0 (np := 52) dX9_fits_51 rfl ?_
            refine sw_ild_9_1 (np := 53) dX9_fits_52 rfl ?_
            refine sw_cV1i (np := 56) (hX9_rowsAre (d := d - 1) (by omega) ) sw_mv_X9_rowsAre sw_k_105 sw_wl_RX9_294 dX9_fits_53 (sw_fit_rm (by omega) (by decide)) (Nat.le_of_ble_eq_true rfl) rfl (fun r5 S5 => ?_)
            refine sw_if_ge (np := 59) (tp := 65) dX9_fits_56 rfl rfl ?_ ?_
            · refine sw_ild_9_3 (np := 66) dX9_fits_65 rfl ?_
              refine sw_iconst (np := 67) dX9_fits_66 sw_ic_2 rfl ?_
              refine sw_jm1 (pj := 77) (fun y1 => [some (sw_vr G 105), some (.int p1), some (.int p2), some (.int p3), none, none, none, none, none]) (fun y1 => [.int y1]) (fun y1 S6 => ?_) (fun k1 hk1 => ?_)
              · refine sw_ild_9_2 (np := 78) dX9_fits_77 rfl ?_
                refine sw_bipush (np := 80) dX9_fits_78 sw_bc_10 rfl ?_
                refine sw_irem (np := 81) dX9_fits_80 (by decide) rfl ?_
                refine sw_iadd (np := 82) dX9_fits_81 rfl ?_
                refine sw_isl_9_4 (np := 84) dX9_fits_82 rfl rfl (fun x4_1 => ?_)
                refine sw_ald_9_0 (np := 85) dX9_fits_84 rfl ?_
                refine sw_gR (np := 88) sw_f_RX9_9 sw_k_105 sw_r_105_0 dX9_fits_85 rfl ?_
                refine sw_ild_9_4 (np := 90) dX9_fits_88 rfl ?_
                refine sw_iald (np := 91) sw_k_106 sw_n_106 dX9_fits_90 rfl ?_
                refine sw_isl_9_5 (np := 93) dX9_fits_91 rfl rfl (fun x5_1 => ?_)
                refine sw_iconst (np := 94) dX9_fits_93 sw_ic_0 rfl ?_
                refine sw_ist_9_6 (np := 96) dX9_fits_94 rfl rfl ?_
                refine sw_bipush (np := 98) dX9_fits_96 sw_bc_m2 rfl ?_
                refine sw_ist_9_7 (np := 100) dX9_fits_98 rfl rfl ?_
                refine sw_iconst (np := 101) dX9_fits_100 sw_ic_0 rfl ?_
                refine sw_ist_9_8 (np := 103) dX9_fits_101 rfl rfl ?_
                refine sw_lp3 (lv := fun x6_1 x7_1 x8_1 => [some (sw_vr G 105), some (.int p1), some (.int p2), some (.int p3), some (.int x4_1), some (.int x5_1), some (.int x6_1), some (.int x7_1), some (.int x8_1)]) (fun rec1 hrec1 x6_1 x7_1 x8_1 S7 => ?_) _ _ _ _ _
                refine sw_ild_9_8 (np := 105) dX9_fits_103 rfl ?_
                refine sw_ild_9_3 (np := 106) dX9_fits_105 rfl ?_
                refine sw_iconst (np := 107) dX9_fits_106 sw_ic_2 rfl ?_
                refine sw_jm1 (pj := 117) (fun y2 => [some (sw_vr G 105), some (.int p1), some (.int p2), some (.int p3), some (.int x4_1), some (.int x5_1), some (.int x6_1), some (.int x7_1), some (.int x8_1)]) (fun y2 => [.int y2, .int x8_1]) (fun y2 S8 => ?_) (fun k2 hk2 => ?_)
                · refine sw_icmp_gt (np := 120) (tp := 166) dX9_fits_117 rfl rfl ?_ ?_
                  · refine sw_ald_9_0 (np := 167) dX9_fits_166 rfl ?_
                    refine sw_gR (np := 170) sw_f_RX9_9 sw_k_105 sw_r_105_0 dX9_fits_167 rfl ?_
                    refine sw_ild_9_4 (np := 172) dX9_fits_170 rfl ?_
                    refine sw_ild_9_5 (np := 174) dX9_fits_172 rfl ?_
                    refine sw_sI (np := 175) sw_k_106 sw_n_106 dX9_fits_174 rfl (fun S9 => ?_)
                    refine sw_ild_9_3 (np := 176) dX9_fits_175 rfl ?_
                    refine sw_iconst (np := 177) dX9_fits_176 sw_ic_2 rfl ?_
                    refine sw_irem (np := 178) dX9_fits_177 (by decide) rfl ?_
                    refine sw_if_ne (np := 181) (tp := 186) dX9_fits_178 rfl rfl ?_ ?_
                    · refine sw_ild_9_7 (np := 188) dX9_fits_186 rfl ?_
                      exact sw_iret dX9_fits_188
                    · refine sw_ild_9_6 (np := 183) dX9_fits_181 rfl ?_
                      refine sw_goto (tp := 188) dX9_fits_183 rfl ?_
                      exact sw_iret dX9_fits_188
                  · refine sw_ald_9_0 (np := 121) dX9_fits_120 rfl ?_
                    refine sw_gR (np := 124) sw_f_RX9_9 sw_k_105 sw_r_105_0 dX9_fits_121 rfl ?_
                    refine sw_ild_9_4 (np := 126) dX9_fits_124 rfl ?_
                    refine sw_ild_9_8 (np := 128) dX9_fits_126 rfl ?_
                    refine sw_sI (np := 129) sw_k_106 sw_n_106 dX9_fits_128 rfl (fun S10 => ?_)
                    refine sw_ald_9_0 (np := 130) dX9_fits_129 rfl ?_
                    refine sw_ild_9_1 (np := 131) dX9_fits_130 rfl ?_
                    refine sw_ild_9_2 (np := 132) dX9_fits_131 rfl ?_
                    refine sw_bipush (np := 134) dX9_fits_132 sw_bc_10 rfl ?_
                    refine sw_idiv (np := 135) dX9_fits_134 (by decide) rfl ?_
                    refine sw_cV2i (np := 138) (hX9_firstFalse (d := d - 1) (by omega) ) sw_mv_X9_firstFalse sw_k_105 sw_wl_RX9_297 dX9_fits_135 (sw_fit_rm (by omega) (by decide)) (Nat.le_of_ble_eq_true rfl) rfl (fun r6 S11 => ?_)
                    refine sw_bipush (np := 140) dX9_fits_138 sw_bc_m2 rfl ?_
                    refine sw_icmp_ne (np := 143) (tp := 160) dX9_fits_140 rfl rfl ?_ ?_
                    · refine sw_inc_9_8 (np := 163) dX9_fits_160 sw_ic_1 rfl rfl ?_
                      refine sw_goto (tp := 103) dX9_fits_163 rfl ?_
                      exact hrec1 _ _ _ _
                    · refine sw_ild_9_6 (np := 145) dX9_fits_143 rfl ?_
                      refine sw_if_ne (np := 148) (tp := 153) dX9_fits_145 rfl rfl ?_ ?_
                      · refine sw_ild_9_7 (np := 155) dX9_fits_153 rfl ?_
                        refine sw_ist_9_7 (np := 157) dX9_fits_155 rfl rfl ?_
                        refine sw_inc_9_6 (np := 160) dX9_fits_157 sw_ic_1 rfl rfl ?_
                        refine sw_inc_9_8 (np := 163) dX9_fits_160 sw_ic_1 rfl rfl ?_
                        refine sw_goto (tp := 103) dX9_fits_163 rfl ?_
                        exact hrec1 _ _ _ _
                      · refine sw_ild_9_8 (np := 150) dX9_fits_148 rfl ?_
                        refine sw_goto (tp := 155) dX9_fits_150 rfl ?_
                        refine sw_ist_9_7 (np := 157) dX9_fits_155 rfl rfl ?_
                        refine sw_inc_9_6 (np := 160) dX9_fits_157 sw_ic_1 rfl rfl ?_
                        refine sw_inc_9_8 (np := 163) dX9_fits_160 sw_ic_1 rfl rfl ?_
                        refine sw_goto (tp := 103) dX9_fits_163 rfl ?_
                        exact hrec1 _ _ _ _
                · refine sw_icmp_ge (np := 110) (tp := 115) dX9_fits_107 rfl rfl ?_ ?_
                  · refine sw_bipush (np := 117) dX9_fits_115 sw_bc_99 rfl ?_
                    exact hk2 _ _
                  · refine sw_bipush (np := 112) dX9_fits_110 sw_bc_9 rfl ?_
                    refine sw_goto (tp := 117) dX9_fits_112 rfl ?_
                    exact hk2 _ _
              · refine sw_icmp_ge (np := 70) (tp := 75) dX9_fits_67 rfl rfl ?_ ?_
                · refine sw_bipush (np := 77) dX9_fits_75 sw_bc_20 rfl ?_
                  exact hk1 _ _
                · refine sw_bipush (np := 72) dX9_fits_70 sw_bc_10 rfl ?_
                  refine sw_goto (tp := 77) dX9_fits_72 rfl ?_
                  exact hk1 _ _
            · refine sw_ald_9_0 (np := 60) dX9_fits_59 rfl ?_
              refine sw_ild_9_1 (np := 61) dX9_fits_60 rfl ?_
              refine sw_cV1i (np := 64) (hX9_rowsAre (d := d - 1) (by omega) ) sw_mv_X9_rowsAre sw_k_105 sw_wl_RX9_294 dX9_fits_61 (sw_fit_rm (by omega) (by decide)) (Nat.le_of_ble_eq_true rfl) rfl (fun r7 S12 => ?_)
              exact sw_iret dX9_fits_64
          · refine sw_iconst (np := 50) dX9_fits_49 sw_ic_m1 rfl ?_
            exact sw_iret dX9_fits_50
/-- SwordAtticModel.dealt(I)I -/
def fX9_dealt (N : Nat) (p1 : Int32) (S : sw_St) : Option (Int32 × sw_St) :=
  sw_bd (fX9_within N p1.toInt64 (0 : Int64) (1 : Int64) S) (fun r1 S1 => (if r1 = 0 then (some ((-1 : Int32), S1)) else (sw_bd (fX9_begins N S1) (fun _ S2 => (sw_ls (sw_si S2 105 20 (-1 : Int32)) (fun S3 => (sw_bd (fX9_goesHour N S3) (fun _ S4 => (sw_bd (fX9_awakeMany N S4) (fun r4 S5 => (sw_bd (fX9_mindAll N S5) (fun r5 S6 => (sw_fx4 (fun rec1 x2_1 x3_1 x4_1 x5_1 S7 => (if x5_1 ≥ (12 : Int32) then (if p1 = 0 then (some (x3_1, S7)) else (some (x2_1, S7))) else (sw_li (x5_1 + (1 : Int32)) (fun x6_1 => (sw_fx4 (fun rec2 x2_2 x3_2 x4_2 x6_2 S8 => (if x6_2 ≥ (12 : Int32) then (rec1 x2_2 x3_2 x4_2 (x5_1 + (1 : Int32)) S8) else (sw_bd (fX9_begins N S8) (fun _ S9 => (sw_ls (sw_si S9 105 20 (-1 : Int32)) (fun S10 => (sw_gd (sw_in x5_1 12) (sw_li (S10.1 113 x5_1.toNatClampNeg) (fun x7_1 => (sw_gd (sw_in x6_2 12) (sw_gd (sw_in x5_1 12) (sw_ls (sw_si S10 113 x5_1.toNatClampNeg (S10.1 113 x6_2.toNatClampNeg)) (fun S11 => (sw_gd (sw_in x6_2 12) (sw_ls (sw_si S11 113 x6_2.toNatClampNeg x7_1) (fun S12 => (sw_bd (fX9_goesHour N S12) (fun _ S13 => (sw_bd (fX9_awakeMany N S13) (fun r8 S14 => (if r8 < x3_2 then (sw_bd (fX9_awakeMany N S14) (fun r9 S15 => (sw_bd (fX9_mindAll N S15) (fun r10 S16 => (sw_li (((12 : Int32) * x5_1) + x6_2) (fun x2_3 => (rec2 x2_3 r9 r10 (x6_2 + (1 : Int32)) S16))))))) else (sw_bd (fX9_awakeMany N S14) (fun r11 S17 => (if r11 = x3_2 then (sw_bd (fX9_mindAll N S17) (fun r12 S18 => (if r12 ≥ x4_2 then (rec2 x2_2 x3_2 x4_2 (x6_2 + (1 : Int32)) S18) else (sw_bd (fX9_awakeMany N S18) (fun r13 S19 => (sw_bd (fX9_mindAll N S19) (fun r14 S20 => (sw_li (((12 : Int32) * x5_1) + x6_2) (fun x2_4 => (rec2 x2_4 r13 r14 (x6_2 + (1 : Int32)) S20)))))))))) else (rec2 x2_2 x3_2 x4_2 (x6_2 + (1 : Int32)) S17))))))))))))))))))))))))) N x2_1 x3_1 x4_1 x6_1 S7))))) N (-9 : Int32) r4 r5 (0 : Int32) S6)))))))))))))
theorem hX9_dealt {G : sw_G} {N d : Nat} (hd : 107 ≤ d) {p1 : Int32}  {S : sw_St} : sw_Ev G yX9_dealt cX9_dealt 8 (some .int) d sw_ei [sw_vr G 105, .int p1] S (fX9_dealt N p1 S) := by
  refine sw_Ev_of (own := RX9) (lv0 := [some (sw_vr G 105), some (.int p1), none, none, none, none, none, none]) (by decide) rfl (Nat.le_of_ble_eq_true rfl) rfl ?_
  unfold fX9_dealt
  refine sw_ild_8_1 (np := 1) dX9_dealt_0 rfl ?_
  refine sw_i2l (np := 2) dX9_dealt_1 rfl ?_
  refine sw_lconst (np := 3) dX9_dealt_2 sw_lc_0 rfl ?_
  refine sw_lconst (np := 4) dX9_dealt_3 sw_lc_1 rfl ?_
  refine sw_cS3i (np := 7) (hX9_within (d := d - 1) (by omega) ) sw_ms_X9_within sw_wl_RX9_98 dX9_dealt_4 (sw_fit_rm (by omega) (by decide)) (Nat.le_of_ble_eq_true rfl) rfl (fun r1 S1 => ?_)
  refine sw_if_ne (np := 10) (tp := 12) dX9_dealt_7 rfl rfl ?_ ?_
  · refine sw_bipush (np := 14) dX9_dealt_12 sw_bc_m9 rfl ?_
    refine sw_ist_8_2 (np := 15) dX9_dealt_14 rfl rfl ?_
    refine sw_ald_8_0 (np := 16) dX9_dealt_15 rfl ?_
    refine sw_cV0v (np := 19) (hX9_begins (d := d - 1) (by omega) ) sw_mv_X9_begins sw_k_105 sw_wl_RX9_233 dX9_dealt_16 (sw_fit_rm (by omega) (by decide)) (Nat.le_of_ble_eq_true rfl) rfl (fun _ S2 => ?_)
    refine sw_ald_8_0 (np := 20) dX9_dealt_19 rfl ?_
    refine sw_iconst (np := 21) dX9_dealt_20 sw_ic_m1 rfl ?_
    refine sw_pI (np := 24) sw_f_RX9_204 sw_fp_9_20 sw_k_105 dX9_dealt_21 rfl (fun S3 => ?_)
    refine sw_ald_8_0 (np := 25) dX9_dealt_24 rfl ?_
    refine sw_cV0v (np := 28) (hX9_goesHour (d := d - 1) (by omega) ) sw_mv_X9_goesHour sw_k_105 sw_wl_RX9_236 dX9_dealt_25 (sw_fit_rm (by omega) (by decide)) (Nat.le_of_ble_eq_true rfl) rfl (fun _ S4 => ?_)
    refine sw_ald_8_0 (np := 29) dX9_dealt_28 rfl ?_
    refine sw_cV0i (np := 32) (hX9_awakeMany (d := d - 1) (by omega) ) sw_mv_X9_awakeMany sw_k_105 sw_wl_RX9_256 dX9_dealt_29 (sw_fit_rm (by omega) (by decide)) (Nat.le_of_ble_eq_true rfl) rfl (fun r4 S5 => ?_)
    refine sw_ist_8_3 (np := 33) dX9_dealt_32 rfl rfl ?_
    refine sw_ald_8_0 (np := 34) dX9_dealt_33 rfl ?_
    refine sw_cV0i (np := 37) (hX9_mindAll (d := d - 1) (by omega) ) sw_mv_X9_mindAll sw_k_105 sw_wl_RX9_253 dX9_dealt_34 (sw_fit_rm (by omega) (by decide)) (Nat.le_of_ble_eq_true rfl) rfl (fun r5 S6 => ?_)
    refine sw_ist_8_4 (np := 39) dX9_dealt_37 rfl rfl ?_
    refine sw_iconst (np := 40) dX9_dealt_39 sw_ic_0 rfl ?_
    refine sw_ist_8_5 (np := 42) dX9_dealt_40 rfl rfl ?_
    refine sw_lp4 (lv := fun x2_1 x3_1 x4_1 x5_1 => [some (sw_vr G 105), some (.int p1), some (.int x2_1), some (.int x3_1), some (.int x4_1), some (.int x5_1), none, none]) (fun rec1 hrec1 x2_1 x3_1 x4_1 x5_1 S7 => ?_) _ _ _ _ _ _
    refine sw_ild_8_5 (np := 44) dX9_dealt_42 rfl ?_
    refine sw_bipush (np := 46) dX9_dealt_44 sw_bc_12 rfl ?_
    refine sw_icmp_ge (np := 49) (tp := 164) dX9_dealt_46 rfl rfl ?_ ?_
    · refine sw_ild_8_1 (np := 165) dX9_dealt_164 rfl ?_
      refine sw_if_ne (np := 168) (tp := 172) dX9_dealt_165 rfl rfl ?_ ?_
      · refine sw_ild_8_2 (np := 173) dX9_dealt_172 rfl ?_
        exact sw_iret dX9_dealt_173
      · refine sw_ild_8_3 (np := 169) dX9_dealt_168 rfl ?_
        refine sw_goto (tp := 173) dX9_dealt_169 rfl ?_
        exact sw_iret dX9_dealt_173
    · refine sw_ild_8_5 (np := 51) dX9_dealt_49 rfl ?_
      refine sw_iconst (np := 52) dX9_dealt_51 sw_ic_1 rfl ?_
      refine sw_iadd (np := 53) dX9_dealt_52 rfl ?_
      refine sw_isl_8_6 (np := 55) dX9_dealt_53 rfl rfl (fun x6_1 => ?_)
      refine sw_lp4 (lv := fun x2_2 x3_2 x4_2 x6_2 => [some (sw_vr G 105), some (.int p1), some (.int x2_2), some (.int x3_2), some (.int x4_2), some (.int x5_1), some (.int x6_2), none]) (fun rec2 hrec2 x2_2 x3_2 x4_2 x6_2 S8 => ?_) _ _ _ _ _ _
      refine sw_ild_8_6 (np := 57) dX9_dealt_55 rfl ?_
      refine sw_bipush (np := 59) dX9_dealt_57 sw_bc_12 rfl ?_
      refine sw_icmp_ge (np := 62) (tp := 158) dX9_dealt_59 rfl rfl ?_ ?_
      · refine sw_inc_8_5 (np := 161) dX9_dealt_158 sw_ic_1 rfl rfl ?_
        refine sw_goto (tp := 42) dX9_dealt_161 rfl ?_
        refine sw_dr_8_6 ?_
        exact hrec1 _ _ _ _ _
      · refine sw_ald_8_0 (np := 63) dX9_dealt_62 rfl ?_
        refine sw_cV0v (np := 66) (hX9_begins (d := d - 1) (by omega) ) sw_mv_X9_begins sw_k_105 sw_wl_RX9_233 dX9_dealt_63 (sw_fit_rm (by omega) (by decide)) (Nat.le_of_ble_eq_true rfl) rfl (fun _ S9 => ?_)
        refine sw_ald_8_0 (np := 67) dX9_dealt_66 rfl ?_
        refine sw_iconst (np := 68) dX9_dealt_67 sw_ic_m1 rfl ?_
        refine sw_pI (np := 71) sw_f_RX9_204 sw_fp_9_20 sw_k_105 dX9_dealt_68 rfl (fun S10 => ?_)
        refine sw_ald_8_0 (np := 72) dX9_dealt_71 rfl ?_
        refine sw_gR (np := 75) sw_f_RX9_31 sw_k_105 sw_r_105_17 dX9_dealt_72 rfl ?_
        refine sw_ild_8_5 (np := 77) dX9_dealt_75 rfl ?_
        refine sw_iald (np := 78) sw_k_113 sw_n_113 dX9_dealt_77 rfl ?_
        refine sw_isl_8_7 (np := 80) dX9_dealt_78 rfl rfl (fun x7_1 => ?_)
        refine sw_ald_8_0 (np := 81) dX9_dealt_80 rfl ?_
        refine sw_gR (np := 84) sw_f_RX9_31 sw_k_105 sw_r_105_17 dX9_dealt_81 rfl ?_
        refine sw_ild_8_5 (np := 86) dX9_dealt_84 rfl ?_
        refine sw_ald_8_0 (np := 87) dX9_dealt_86 rfl ?_
        refine sw_gR (np := 90) sw_f_RX9_31 sw_k_105 sw_r_105_17 dX9_dealt_87 rfl ?_
        refine sw_ild_8_6 (np := 92) dX9_dealt_90 rfl ?_
        refine sw_iald (np := 93) sw_k_113 sw_n_113 dX9_dealt_92 rfl ?_
        refine sw_sI (np := 94) sw_k_113 sw_n_113 dX9_dealt_93 rfl (fun S11 => ?_)
        refine sw_ald_8_0 (np := 95) dX9_dealt_94 rfl ?_
        refine sw_gR (np := 98) sw_f_RX9_31 sw_k_105 sw_r_105_17 dX9_dealt_95 rfl ?_
        refine sw_ild_8_6 (np := 100) dX9_dealt_98 rfl ?_
        refine sw_ild_8_7 (np := 102) dX9_dealt_100 rfl ?_
        refine sw_sI (np := 103) sw_k_113 sw_n_113 dX9_dealt_102 rfl (fun S12 => ?_)
        refine sw_ald_8_0 (np := 104) dX9_dealt_103 rfl ?_
        refine sw_cV0v (np := 107) (hX9_goesHour (d := d - 1) (by omega) ) sw_mv_X9_goesHour sw_k_105 sw_wl_RX9_236 dX9_dealt_104 (sw_fit_rm (by omega) (by decide)) (Nat.le_of_ble_eq_true rfl) rfl (fun _ S13 => ?_)
        refine sw_ald_8_0 (np := 108) dX9_dealt_107 rfl ?_
        refine sw_cV0i (np := 111) (hX9_awakeMany (d := d - 1) (by omega) ) sw_mv_X9_awakeMany sw_k_105 sw_wl_RX9_256 dX9_dealt_108 (sw_fit_rm (by omega) (by decide)) (Nat.le_of_ble_eq_true rfl) rfl (fun r8 S14 => ?_)
        refine sw_ild_8_3 (np := 112) dX9_dealt_111 rfl ?_
        refine sw_icmp_lt (np := 115) (tp := 132) dX9_dealt_112 rfl rfl ?_ ?_
        · refine sw_ald_8_0 (np := 133) dX9_dealt_132 rfl ?_
          refine sw_cV0i (np := 136) (hX9_awakeMany (d := d - 1) (by omega) ) sw_mv_X9_awakeMany sw_k_105 sw_wl_RX9_256 dX9_dealt_133 (sw_fit_rm (by omega) (by decide)) (Nat.le_of_ble_eq_true rfl) rfl (fun r9 S15 => ?_)
          refine sw_ist_8_3 (np := 137) dX9_dealt_136 rfl rfl ?_
          refine sw_ald_8_0 (np := 138) dX9_dealt_137 rfl ?_
          refine sw_cV0i (np := 141) (hX9_mindAll (d := d - 1) (by omega) ) sw_mv_X9_mindAll sw_k_105 sw_wl_RX9_253 dX9_dealt_138 (sw_fit_rm (by omega) (by decide)) (Nat.le_of_ble_eq_true rfl) rfl (fun r10 S16 => ?_)
          refine sw_ist_8_4 (np := 143) dX9_dealt_141 rfl rfl ?_
          refine sw_bipush (np := 145) dX9_dealt_143 sw_bc_12 rfl ?_
          refine sw_ild_8_5 (np := 147) dX9_dealt_145 rfl ?_
          refine sw_imul (np := 148) dX9_dealt_147 rfl ?_
          refine sw_ild_8_6 (np := 150) dX9_dealt_148 rfl ?_
          refine sw_iadd (np := 151) dX9_dealt_150 rfl ?_
          refine sw_isl_8_2 (np := 152) dX9_dealt_151 rfl rfl (fun x2_3 => ?_)
          refine sw_inc_8_6 (np := 155) dX9_dealt_152 sw_ic_1 rfl rfl ?_
          refine sw_goto (tp := 55) dX9_dealt_155 rfl ?_
          refine sw_dr_8_7 ?_
          exact hrec2 _ _ _ _ _
        · refine sw_ald_8_0 (np := 116) dX9_dealt_115 rfl ?_
          refine sw_cV0i (np := 119) (hX9_awakeMany (d := d - 1) (by omega) ) sw_mv_X9_awakeMany sw_k_105 sw_wl_RX9_256 dX9_dealt_116 (sw_fit_rm (by omega) (by decide)) (Nat.le_of_ble_eq_true rfl) rfl (fun r11 S17 => ?_)
          refine sw_ild_8_3 (np := 120) dX9_dealt_119 rfl ?_
          refine sw_icmp_ne (np := 123) (tp := 152) dX9_dealt_120 rfl rfl ?_ ?_
          · refine sw_inc_8_6 (np := 155) dX9_dealt_152 sw_ic_1 rfl rfl ?_
            refine sw_goto (tp := 55) dX9_dealt_155 rfl ?_
            refine sw_dr_8_7 ?_
            exact hrec2 _ _ _ _ _
          · refine sw_ald_8_0 (np := 124) dX9_dealt_123 rfl ?_
            refine sw_cV0i (np := 127) (hX9_mindAll (d := d - 1) (by omega) ) sw_mv_X9_mindAll sw_k_105 sw_wl_RX9_253 dX9_dealt_124 (sw_fit_rm (by omega) (by decide)) (Nat.le_of_ble_eq_true rfl) rfl (fun r12 S18 => ?_)
            refine sw_ild_8_4 (np := 129) dX9_dealt_127 rfl ?_
            refine sw_icmp_ge (np := 132) (tp := 152) dX9_dealt_129 rfl rfl ?_ ?_
            · refine sw_inc_8_6 (np := 155) dX9_dealt_152 sw_ic_1 rfl rfl ?_
              refine sw_goto (tp := 55) dX9_dealt_155 rfl ?_
              refine sw_dr_8_7 ?_
              exact hrec2 _ _ _ _ _
            · refine sw_ald_8_0 (np := 133) dX9_dealt_132 rfl ?_
              refine sw_cV0i (np := 136) (hX9_awakeMany (d := d - 1) (by omega) ) sw_mv_X9_awakeMany sw_k_105 sw_wl_RX9_256 dX9_dealt_133 (sw_fit_rm (by omega) (by decide)) (Nat.le_of_ble_eq_true rfl) rfl (fun r13 S19 => ?_)
              refine sw_ist_8_3 (np := 137) dX9_dealt_136 rfl rfl ?_
              refine sw_ald_8_0 (np := 138) dX9_dealt_137 rfl ?_
              refine sw_cV0i (np := 141) (hX9_mindAll (d := d - 1) (by omega) ) sw_mv_X9_mindAll sw_k_105 sw_wl_RX9_253 dX9_dealt_138 (sw_fit_rm (by omega) (by decide)) (Nat.le_of_ble_eq_true rfl) rfl (fun r14 S20 => ?_)
              refine sw_ist_8_4 (np := 143) dX9_dealt_141 rfl rfl ?_
              refine sw_bipush (np := 145) dX9_dealt_143 sw_bc_12 rfl ?_
              refine sw_ild_8_5 (np := 147) dX9_dealt_145 rfl ?_
              refine sw_imul (np := 148) dX9_dealt_147 rfl ?_
              refine sw_ild_8_6 (np := 150) dX9_dealt_148 rfl ?_
              refine sw_iadd (np := 151) dX9_dealt_150 rfl ?_
              refine sw_isl_8_2 (np := 152) dX9_dealt_151 rfl rfl (fun x2_4 => ?_)
              refine sw_inc_8_6 (np := 155) dX9_dealt_152 sw_ic_1 rfl rfl ?_
              refine sw_goto (tp := 55) dX9_dealt_155 rfl ?_
              refine sw_dr_8_7 ?_
              exact hrec2 _ _ _ _ _
  · refine sw_iconst (np := 11) dX9_dealt_10 sw_ic_m1 rfl ?_
    exact sw_iret dX9_dealt_11
/-- SwordAtticModel.lines(I)I -/
def fX9_lines (N : Nat) (p1 : Int32) (S : sw_St) : Option (Int32 × sw_St) :=
  sw_bd (fX9_within N p1.toInt64 (-2 : Int64) (18 : Int64) S) (fun r1 S1 => (if r1 = 0 then (some ((-1 : Int32), S1)) else (sw_bd (fX9_begins N S1) (fun _ S2 => (if p1 < 0 then (sw_fx2 (fun rec1 x2_1 x3_1 S3 => (if x3_1 ≥ (4096 : Int32) then (if p1 = (-1 : Int32) then (sw_bd (fX9_bitsOf N x2_1 S3) (fun r3 S4 => (some (r3, S4)))) else (some (x2_1, S3))) else (sw_bd (fX9_bitsOf N x3_1 S3) (fun r4 S5 => (sw_bd (fX9_bitsOf N x2_1 S5) (fun r5 S6 => (sw_jn1 (fun y1 S7 => (sw_fx2 (fun rec2 x4_1 x5_1 S8 => (if x5_1 ≥ (12 : Int32) then (if x4_1 = 0 then (rec1 x2_1 (x3_1 + (1 : Int32)) S8) else (rec1 x3_1 (x3_1 + (1 : Int32)) S8)) else (if x4_1 = 0 then (if x4_1 = 0 then (rec1 x2_1 (x3_1 + (1 : Int32)) S8) else (rec1 x3_1 (x3_1 + (1 : Int32)) S8)) else (sw_bd (fX9_isIn N x3_1 x5_1 S8) (fun r6 S9 => (sw_jn1 (fun y2 S10 => (sw_fx2 (fun rec3 x4_2 x6_1 S11 => (if x6_1 ≥ x5_1 then (rec2 x4_2 (x5_1 + (1 : Int32)) S11) else (if x4_2 = 0 then (rec3 (0 : Int32) (x6_1 + (1 : Int32)) S11) else (sw_bd (fX9_isIn N x3_1 x5_1 S11) (fun r7 S12 => (if r7 = 0 then (rec3 (1 : Int32) (x6_1 + (1 : Int32)) S12) else (sw_bd (fX9_isIn N x3_1 x6_1 S12) (fun r8 S13 => (if r8 = 0 then (rec3 (1 : Int32) (x6_1 + (1 : Int32)) S13) else (sw_bd (fX9_areBeside N x5_1 x6_1 S13) (fun r9 S14 => (if r9 = 0 then (rec3 (1 : Int32) (x6_1 + (1 : Int32)) S14) else (rec3 (0 : Int32) (x6_1 + (1 : Int32)) S14))))))))))))) N y2 (0 : Int32) S10)) (fun k2 => (if r6 = 0 then (k2 (1 : Int32) S9) else (sw_gd (sw_in x5_1 12) (if (S9.1 113 x5_1.toNatClampNeg) < 0 then (k2 (0 : Int32) S9) else (k2 (1 : Int32) S9))))))))))) N y1 (0 : Int32) S7)) (fun k1 => (if r4 ≤ r5 then (k1 (0 : Int32) S6) else (k1 (1 : Int32) S6)))))))))) N (0 : Int32) (0 : Int32) S2) else (sw_fx2 (fun rec4 x2_2 x3_2 S15 => (if x3_2 ≥ (12 : Int32) then (some (x2_2, S15)) else (sw_fx2 (fun rec5 x2_3 x4_3 S16 => (if x4_3 ≥ x3_2 then (rec4 x2_3 (x3_2 + (1 : Int32)) S16) else (sw_bd (fX9_areBeside N x3_2 x4_3 S16) (fun r10 S17 => (if r10 = 0 then (sw_li (x2_3 + (0 : Int32)) (fun x2_4 => (rec5 x2_4 (x4_3 + (1 : Int32)) S17))) else (sw_gd (sw_in x3_2 12) (if (S17.1 113 x3_2.toNatClampNeg) < 0 then (sw_li (x2_3 + (0 : Int32)) (fun x2_5 => (rec5 x2_5 (x4_3 + (1 : Int32)) S17))) else (sw_gd (sw_in x4_3 12) (if (S17.1 113 x4_3.toNatClampNeg) < 0 then (sw_li (x2_3 + (0 : Int32)) (fun x2_6 => (rec5 x2_6 (x4_3 + (1 : Int32)) S17))) else (sw_gd (sw_in x3_2 12) (sw_gd (sw_in ((10 : Int32) + (S17.1 113 x3_2.toNatClampNeg)) 53) (sw_gd (sw_in x4_3 12) (sw_gd (sw_in ((10 : Int32) + (S17.1 113 x4_3.toNatClampNeg)) 53) (if ((S17.1 106 ((10 : Int32) + (S17.1 113 x3_2.toNatClampNeg)).toNatClampNeg) + (S17.1 106 ((10 : Int32) + (S17.1 113 x4_3.toNatClampNeg)).toNatClampNeg)) < p1 then (sw_li (x2_3 + (0 : Int32)) (fun x2_7 => (rec5 x2_7 (x4_3 + (1 : Int32)) S17))) else (sw_li (x2_3 + (1 : Int32)) (fun x2_8 => (rec5 x2_8 (x4_3 + (1 : Int32)) S17))))))))))))))))) N x2_2 (0 : Int32) S15))) N (0 : Int32) (0 : Int32) S2))))))
theorem hX9_lines {G : sw_G} {N d : Nat} (hd : 3 ≤ d) {p1 : Int32}  {S : sw_St} : sw_Ev G yX9_lines cX9_lines 7 (some .int) d sw_ei [sw_vr G 105, .int p1] S (fX9_lines N p1 S) := by
  refine sw_Ev_of (own := RX9) (lv0 := [some (sw_vr G 105), some (.int p1), none, none, none, none, none]) (by decide) rfl (Nat.le_of_ble_eq_true rfl) rfl ?_
  unfold fX9_lines
  refine sw_ild_7_1 (np := 1) dX9_lines_0 rfl ?_
  refine sw_i2l (np := 2) dX9_lines_1 rfl ?_
  refine sw_ldc2 (np := 5) sw_wc_RX9_270 dX9_lines_2 rfl ?_
  refine sw_ldc2 (np := 8) sw_wc_RX9_300 dX9_lines_5 rfl ?_
  refine sw_cS3i (np := 11) (hX9_within (d := d - 1) (by omega) ) sw_ms_X9_within sw_wl_RX9_98 dX9_lines_8 (sw_fit_rm (by omega) (by decide)) (Nat.le_of_ble_eq_true rfl) rfl (fun r1 S1 => ?_)
  refine sw_if_ne (np := 14) (tp := 16) dX9_lines_11 rfl rfl ?_ ?_
  · refine sw_ald_7_0 (np := 17) dX9_lines_16 rfl ?_
    refine sw_cV0v (np := 20) (hX9_begins (d := d - 1) (by omega) ) sw_mv_X9_begins sw_k_105 sw_wl_RX9_233 dX9_lines_17 (sw_fit_rm (by omega) (by decide)) (Nat.le_of_ble_eq_true rfl) rfl (fun _ S2 => ?_)
    refine sw_ild_7_1 (np := 21) dX9_lines_20 rfl ?_
    refine sw_if_lt (np := 24) (tp := 127) dX9_lines_21 rfl rfl ?_ ?_
    · refine sw_iconst (np := 128) dX9_lines_127 sw_ic_0 rfl ?_
      refine sw_ist_7_2 (np := 129) dX9_lines_128 rfl rfl ?_
      refine sw_iconst (np := 130) dX9_lines_129 sw_ic_0 rfl ?_
      refine sw_ist_7_3 (np := 131) dX9_lines_130 rfl rfl ?_
      refine sw_lp2 (lv := fun x2_1 x3_1 => [some (sw_vr G 105), some (.int p1), some (.int x2_1), some (.int x3_1), none, none, none]) (fun rec1 hrec1 x2_1 x3_1 S3 => ?_) _ _ _ _
      refine sw_ild_7_3 (np := 132) dX9_lines_131 rfl ?_
      refine sw_sipush (np := 135) dX9_lines_132 sw_sc_4096 rfl ?_
      refine sw_icmp_ge (np := 138) (tp := 276) dX9_lines_135 rfl rfl ?_ ?_
      · refine sw_ild_7_1 (np := 277) dX9_lines_276 rfl ?_
        refine sw_iconst (np := 278) dX9_lines_277 sw_ic_m1 rfl ?_
        refine sw_icmp_ne (np := 281) (tp := 288) dX9_lines_278 rfl rfl ?_ ?_
        · refine sw_ild_7_2 (np := 289) dX9_lines_288 rfl ?_
          exact sw_iret dX9_lines_289
        · refine sw_ild_7_2 (np := 282) dX9_lines_281 rfl ?_
          refine sw_cS1i (np := 285) (hX9_bitsOf (d := d - 1) (by omega) ) sw_ms_X9_bitsOf sw_wl_RX9_229 dX9_lines_282 (sw_fit_rm (by omega) (by decide)) (Nat.le_of_ble_eq_true rfl) rfl (fun r3 S4 => ?_)
          refine sw_goto (tp := 289) dX9_lines_285 rfl ?_
          exact sw_iret dX9_lines_289
      · refine sw_ild_7_3 (np := 139) dX9_lines_138 rfl ?_
        refine sw_cS1i (np := 142) (hX9_bitsOf (d := d - 1) (by omega) ) sw_ms_X9_bitsOf sw_wl_RX9_229 dX9_lines_139 (sw_fit_rm (by omega) (by decide)) (Nat.le_of_ble_eq_true rfl) rfl (fun r4 S5 => ?_)
        refine sw_ild_7_2 (np := 143) dX9_lines_142 rfl ?_
        refine sw_cS1i (np := 146) (hX9_bitsOf (d := d - 1) (by omega) ) sw_ms_X9_bitsOf sw_wl_RX9_229 dX9_lines_143 (sw_fit_rm (by omega) (by decide)) (Nat.le_of_ble_eq_true rfl) rfl (fun r5 S6 => ?_)
        refine sw_jm1 (pj := 154) (fun y1 => [some (sw_vr G 105), some (.int p1), some (.int x2_1), some (.int x3_1), none, none, none]) (fun y1 => [.int y1]) (fun y1 S7 => ?_) (fun k1 hk1 => ?_)
        · refine sw_ist_7_4 (np := 156) dX9_lines_154 rfl rfl ?_
          refine sw_iconst (np := 157) dX9_lines_156 sw_ic_0 rfl ?_
          refine sw_ist_7_5 (np := 159) dX9_lines_157 rfl rfl ?_
          refine sw_lp2 (lv := fun x4_1 x5_1 => [some (sw_vr G 105), some (.int p1), some (.int x2_1), some (.int x3_1), some (.int x4_1), some (.int x5_1), none]) (fun rec2 hrec2 x4_1 x5_1 S8 => ?_) _ _ _ _
          refine sw_ild_7_5 (np := 161) dX9_lines_159 rfl ?_
          refine sw_bipush (np := 163) dX9_lines_161 sw_bc_12 rfl ?_
          refine sw_icmp_ge (np := 166) (tp := 259) dX9_lines_163 rfl rfl ?_ ?_
          · refine sw_ild_7_4 (np := 261) dX9_lines_259 rfl ?_
            refine sw_if_eq (np := 264) (tp := 268) dX9_lines_261 rfl rfl ?_ ?_
            · refine sw_ild_7_2 (np := 269) dX9_lines_268 rfl ?_
              refine sw_ist_7_2 (np := 270) dX9_lines_269 rfl rfl ?_
              refine sw_inc_7_3 (np := 273) dX9_lines_270 sw_ic_1 rfl rfl ?_
              refine sw_goto (tp := 131) dX9_lines_273 rfl ?_
              refine sw_dr_7_4 ?_
              refine sw_dr_7_5 ?_
              exact hrec1 _ _ _
            · refine sw_ild_7_3 (np := 265) dX9_lines_264 rfl ?_
              refine sw_goto (tp := 269) dX9_lines_265 rfl ?_
              refine sw_ist_7_2 (np := 270) dX9_lines_269 rfl rfl ?_
              refine sw_inc_7_3 (np := 273) dX9_lines_270 sw_ic_1 rfl rfl ?_
              refine sw_goto (tp := 131) dX9_lines_273 rfl ?_
              refine sw_dr_7_4 ?_
              refine sw_dr_7_5 ?_
              exact hrec1 _ _ _
          · refine sw_ild_7_4 (np := 168) dX9_lines_166 rfl ?_
            refine sw_if_eq (np := 171) (tp := 259) dX9_lines_168 rfl rfl ?_ ?_
            · refine sw_ild_7_4 (np := 261) dX9_lines_259 rfl ?_
              refine sw_if_eq (np := 264) (tp := 268) dX9_lines_261 rfl rfl ?_ ?_
              · refine sw_ild_7_2 (np := 269) dX9_lines_268 rfl ?_
                refine sw_ist_7_2 (np := 270) dX9_lines_269 rfl rfl ?_
                refine sw_inc_7_3 (np := 273) dX9_lines_270 sw_ic_1 rfl rfl ?_
                refine sw_goto (tp := 131) dX9_lines_273 rfl ?_
                refine sw_dr_7_4 ?_
                refine sw_dr_7_5 ?_
                exact hrec1 _ _ _
              · refine sw_ild_7_3 (np := 265) dX9_lines_264 rfl ?_
                refine sw_goto (tp := 269) dX9_lines_265 rfl ?_
                refine sw_ist_7_2 (np := 270) dX9_lines_269 rfl rfl ?_
                refine sw_inc_7_3 (np := 273) dX9_lines_270 sw_ic_1 rfl rfl ?_
                refine sw_goto (tp := 131) dX9_lines_273 rfl ?_
                refine sw_dr_7_4 ?_
                refine sw_dr_7_5 ?_
                exact hrec1 _ _ _
            · refine sw_ild_7_3 (np := 172) dX9_lines_171 rfl ?_
              refine sw_ild_7_5 (np := 174) dX9_lines_172 rfl ?_
              refine sw_cS2i (np := 177) (hX9_isIn (d := d - 1) (by omega) ) sw_ms_X9_isIn sw_wl_RX9_283 dX9_lines_174 (sw_fit_rm (by omega) (by decide)) (Nat.le_of_ble_eq_true rfl) rfl (fun r6 S9 => ?_)
              refine sw_jm1 (pj := 195) (fun y2 => [some (sw_vr G 105), some (.int p1), some (.int x2_1), some (.int x3_1), none, some (.int x5_1), none]) (fun y2 => [.int y2]) (fun y2 S10 => ?_) (fun k2 hk2 => ?_)
              · refine sw_ist_7_4 (np := 197) dX9_lines_195 rfl rfl ?_
                refine sw_iconst (np := 198) dX9_lines_197 sw_ic_0 rfl ?_
                refine sw_ist_7_6 (np := 200) dX9_lines_198 rfl rfl ?_
                refine sw_lp2 (lv := fun x4_2 x6_1 => [some (sw_vr G 105), some (.int p1), some (.int x2_1), some (.int x3_1), some (.int x4_2), some (.int x5_1), some (.int x6_1)]) (fun rec3 hrec3 x4_2 x6_1 S11 => ?_) _ _ _ _
                refine sw_ild_7_6 (np := 202) dX9_lines_200 rfl ?_
                refine sw_ild_7_5 (np := 204) dX9_lines_202 rfl ?_
                refine sw_icmp_ge (np := 207) (tp := 253) dX9_lines_204 rfl rfl ?_ ?_
                · refine sw_inc_7_5 (np := 256) dX9_lines_253 sw_ic_1 rfl rfl ?_
                  refine sw_goto (tp := 159) dX9_lines_256 rfl ?_
                  refine sw_dr_7_6 ?_
                  exact hrec2 _ _ _
                · refine sw_ild_7_4 (np := 209) dX9_lines_207 rfl ?_
                  refine sw_if_eq (np := 212) (tp := 244) dX9_lines_209 rfl rfl ?_ ?_
                  · refine sw_iconst (np := 245) dX9_lines_244 sw_ic_0 rfl ?_
                    refine sw_ist_7_4 (np := 247) dX9_lines_245 rfl rfl ?_
                    refine sw_inc_7_6 (np := 250) dX9_lines_247 sw_ic_1 rfl rfl ?_
                    refine sw_goto (tp := 200) dX9_lines_250 rfl ?_
                    exact hrec3 _ _ _
                  · refine sw_ild_7_3 (np := 213) dX9_lines_212 rfl ?_
                    refine sw_ild_7_5 (np := 215) dX9_lines_213 rfl ?_
                    refine sw_cS2i (np := 218) (hX9_isIn (d := d - 1) (by omega) ) sw_ms_X9_isIn sw_wl_RX9_283 dX9_lines_215 (sw_fit_rm (by omega) (by decide)) (Nat.le_of_ble_eq_true rfl) rfl (fun r7 S12 => ?_)
                    refine sw_if_eq (np := 221) (tp := 240) dX9_lines_218 rfl rfl ?_ ?_
                    · refine sw_iconst (np := 241) dX9_lines_240 sw_ic_1 rfl ?_
                      refine sw_goto (tp := 245) dX9_lines_241 rfl ?_
                      refine sw_ist_7_4 (np := 247) dX9_lines_245 rfl rfl ?_
                      refine sw_inc_7_6 (np := 250) dX9_lines_247 sw_ic_1 rfl rfl ?_
                      refine sw_goto (tp := 200) dX9_lines_250 rfl ?_
                      exact hrec3 _ _ _
                    · refine sw_ild_7_3 (np := 222) dX9_lines_221 rfl ?_
                      refine sw_ild_7_6 (np := 224) dX9_lines_222 rfl ?_
                      refine sw_cS2i (np := 227) (hX9_isIn (d := d - 1) (by omega) ) sw_ms_X9_isIn sw_wl_RX9_283 dX9_lines_224 (sw_fit_rm (by omega) (by decide)) (Nat.le_of_ble_eq_true rfl) rfl (fun r8 S13 => ?_)
                      refine sw_if_eq (np := 230) (tp := 240) dX9_lines_227 rfl rfl ?_ ?_
                      · refine sw_iconst (np := 241) dX9_lines_240 sw_ic_1 rfl ?_
                        refine sw_goto (tp := 245) dX9_lines_241 rfl ?_
                        refine sw_ist_7_4 (np := 247) dX9_lines_245 rfl rfl ?_
                        refine sw_inc_7_6 (np := 250) dX9_lines_247 sw_ic_1 rfl rfl ?_
                        refine sw_goto (tp := 200) dX9_lines_250 rfl ?_
                        exact hrec3 _ _ _
                      · refine sw_ild_7_5 (np := 232) dX9_lines_230 rfl ?_
                        refine sw_ild_7_6 (np := 234) dX9_lines_232 rfl ?_
                        refine sw_cS2i (np := 237) (hX9_areBeside (d := d - 1) (by omega) ) sw_ms_X9_areBeside sw_wl_RX9_210 dX9_lines_234 (sw_fit_rm (by omega) (by decide)) (Nat.le_of_ble_eq_true rfl) rfl (fun r9 S14 => ?_)
                        refine sw_if_ne (np := 240) (tp := 244) dX9_lines_237 rfl rfl ?_ ?_
                        · refine sw_iconst (np := 245) dX9_lines_244 sw_ic_0 rfl ?_
                          refine sw_ist_7_4 (np := 247) dX9_lines_245 rfl rfl ?_
                          refine sw_inc_7_6 (np := 250) dX9_lines_247 sw_ic_1 rfl rfl ?_
                          refine sw_goto (tp := 200) dX9_lines_250 rfl ?_
                          exact hrec3 _ _ _
                        · refine sw_iconst (np := 241) dX9_lines_240 sw_ic_1 rfl ?_
                          refine sw_goto (tp := 245) dX9_lines_241 rfl ?_
                          refine sw_ist_7_4 (np := 247) dX9_lines_245 rfl rfl ?_
                          refine sw_inc_7_6 (np := 250) dX9_lines_247 sw_ic_1 rfl rfl ?_
                          refine sw_goto (tp := 200) dX9_lines_250 rfl ?_
                          exact hrec3 _ _ _
              · refine sw_if_eq (np := 180) (tp := 190) dX9_lines_177 rfl rfl ?_ ?_
                · refine sw_iconst (np := 191) dX9_lines_190 sw_ic_1 rfl ?_
                  refine sw_goto (tp := 195) dX9_lines_191 rfl ?_
                  refine sw_dr_7_4 ?_
                  exact hk2 _ _
                · refine sw_ald_7_0 (np := 181) dX9_lines_180 rfl ?_
                  refine sw_gR (np := 184) sw_f_RX9_31 sw_k_105 sw_r_105_17 dX9_lines_181 rfl ?_
                  refine sw_ild_7_5 (np := 186) dX9_lines_184 rfl ?_
                  refine sw_iald (np := 187) sw_k_113 sw_n_113 dX9_lines_186 rfl ?_
                  refine sw_if_lt (np := 190) (tp := 194) dX9_lines_187 rfl rfl ?_ ?_
                  · refine sw_iconst (np := 195) dX9_lines_194 sw_ic_0 rfl ?_
                    refine sw_dr_7_4 ?_
                    exact hk2 _ _
                  · refine sw_iconst (np := 191) dX9_lines_190 sw_ic_1 rfl ?_
                    refine sw_goto (tp := 195) dX9_lines_191 rfl ?_
                    refine sw_dr_7_4 ?_
                    exact hk2 _ _
        · refine sw_icmp_le (np := 149) (tp := 153) dX9_lines_146 rfl rfl ?_ ?_
          · refine sw_iconst (np := 154) dX9_lines_153 sw_ic_0 rfl ?_
            exact hk1 _ _
          · refine sw_iconst (np := 150) dX9_lines_149 sw_ic_1 rfl ?_
            refine sw_goto (tp := 154) dX9_lines_150 rfl ?_
            exact hk1 _ _
    · refine sw_iconst (np := 25) dX9_lines_24 sw_ic_0 rfl ?_
      refine sw_ist_7_2 (np := 26) dX9_lines_25 rfl rfl ?_
      refine sw_iconst (np := 27) dX9_lines_26 sw_ic_0 rfl ?_
      refine sw_ist_7_3 (np := 28) dX9_lines_27 rfl rfl ?_
      refine sw_lp2 (lv := fun x2_2 x3_2 => [some (sw_vr G 105), some (.int p1), some (.int x2_2), some (.int x3_2), none, none, none]) (fun rec4 hrec4 x2_2 x3_2 S15 => ?_) _ _ _ _
      refine sw_ild_7_3 (np := 29) dX9_lines_28 rfl ?_
      refine sw_bipush (np := 31) dX9_lines_29 sw_bc_12 rfl ?_
      refine sw_icmp_ge (np := 34) (tp := 125) dX9_lines_31 rfl rfl ?_ ?_
      · refine sw_ild_7_2 (np := 126) dX9_lines_125 rfl ?_
        exact sw_iret dX9_lines_126
      · refine sw_iconst (np := 35) dX9_lines_34 sw_ic_0 rfl ?_
        refine sw_ist_7_4 (np := 37) dX9_lines_35 rfl rfl ?_
        refine sw_lp2 (lv := fun x2_3 x4_3 => [some (sw_vr G 105), some (.int p1), some (.int x2_3), some (.int x3_2), some (.int x4_3), none, none]) (fun rec5 hrec5 x2_3 x4_3 S16 => ?_) _ _ _ _
        refine sw_ild_7_4 (np := 39) dX9_lines_37 rfl ?_
        refine sw_ild_7_3 (np := 40) dX9_lines_39 rfl ?_
        refine sw_icmp_ge (np := 43) (tp := 119) dX9_lines_40 rfl rfl ?_ ?_
        · refine sw_inc_7_3 (np := 122) dX9_lines_119 sw_ic_1 rfl rfl ?_
          refine sw_goto (tp := 28) dX9_lines_122 rfl ?_
          refine sw_dr_7_4 ?_
          exact hrec4 _ _ _
        · refine sw_ild_7_2 (np := 44) dX9_lines_43 rfl ?_
          refine sw_ild_7_3 (np := 45) dX9_lines_44 rfl ?_
          refine sw_ild_7_4 (np := 47) dX9_lines_45 rfl ?_
          refine sw_cS2i (np := 50) (hX9_areBeside (d := d - 1) (by omega) ) sw_ms_X9_areBeside sw_wl_RX9_210 dX9_lines_47 (sw_fit_rm (by omega) (by decide)) (Nat.le_of_ble_eq_true rfl) rfl (fun r10 S17 => ?_)
          refine sw_if_eq (np := 53) (tp := 110) dX9_lines_50 rfl rfl ?_ ?_
          · refine sw_iconst (np := 111) dX9_lines_110 sw_ic_0 rfl ?_
            refine sw_iadd (np := 112) dX9_lines_111 rfl ?_
            refine sw_isl_7_2 (np := 113) dX9_lines_112 rfl rfl (fun x2_4 => ?_)
            refine sw_inc_7_4 (np := 116) dX9_lines_113 sw_ic_1 rfl rfl ?_
            refine sw_goto (tp := 37) dX9_lines_116 rfl ?_
            exact hrec5 _ _ _
          · refine sw_ald_7_0 (np := 54) dX9_lines_53 rfl ?_
            refine sw_gR (np := 57) sw_f_RX9_31 sw_k_105 sw_r_105_17 dX9_lines_54 rfl ?_
            refine sw_ild_7_3 (np := 58) dX9_lines_57 rfl ?_
            refine sw_iald (np := 59) sw_k_113 sw_n_113 dX9_lines_58 rfl ?_
            refine sw_if_lt (np := 62) (tp := 110) dX9_lines_59 rfl rfl ?_ ?_
            · refine sw_iconst (np := 111) dX9_lines_110 sw_ic_0 rfl ?_
              refine sw_iadd (np := 112) dX9_lines_111 rfl ?_
              refine sw_isl_7_2 (np := 113) dX9_lines_112 rfl rfl (fun x2_5 => ?_)
              refine sw_inc_7_4 (np := 116) dX9_lines_113 sw_ic_1 rfl rfl ?_
              refine sw_goto (tp := 37) dX9_lines_116 rfl ?_
              exact hrec5 _ _ _
            · refine sw_ald_7_0 (np := 63) dX9_lines_62 rfl ?_
              refine sw_gR (np := 66) sw_f_RX9_31 sw_k_105 sw_r_105_17 dX9_lines_63 rfl ?_
              refine sw_ild_7_4 (np := 68) dX9_lines_66 rfl ?_
              refine sw_iald (np := 69) sw_k_113 sw_n_113 dX9_lines_68 rfl ?_
              refine sw_if_lt (np := 72) (tp := 110) dX9_lines_69 rfl rfl ?_ ?_
              · refine sw_iconst (np := 111) dX9_lines_110 sw_ic_0 rfl ?_
                refine sw_iadd (np := 112) dX9_lines_111 rfl ?_
                refine sw_isl_7_2 (np := 113) dX9_lines_112 rfl rfl (fun x2_6 => ?_)
                refine sw_inc_7_4 (np := 116) dX9_lines_113 sw_ic_1 rfl rfl ?_
                refine sw_goto (tp := 37) dX9_lines_116 rfl ?_
                exact hrec5 _ _ _
              · refine sw_ald_7_0 (np := 73) dX9_lines_72 rfl ?_
                refine sw_gR (np := 76) sw_f_RX9_9 sw_k_105 sw_r_105_0 dX9_lines_73 rfl ?_
                refine sw_bipush (np := 78) dX9_lines_76 sw_bc_10 rfl ?_
                refine sw_ald_7_0 (np := 79) dX9_lines_78 rfl ?_
                refine sw_gR (np := 82) sw_f_RX9_31 sw_k_105 sw_r_105_17 dX9_lines_79 rfl ?_
                refine sw_ild_7_3 (np := 83) dX9_lines_82 rfl ?_
                refine sw_iald (np := 84) sw_k_113 sw_n_113 dX9_lines_83 rfl ?_
                refine sw_iadd (np := 85) dX9_lines_84 rfl ?_
                refine sw_iald (np := 86) sw_k_106 sw_n_106 dX9_lines_85 rfl ?_
                refine sw_ald_7_0 (np := 87) dX9_lines_86 rfl ?_
                refine sw_gR (np := 90) sw_f_RX9_9 sw_k_105 sw_r_105_0 dX9_lines_87 rfl ?_
                refine sw_bipush (np := 92) dX9_lines_90 sw_bc_10 rfl ?_
                refine sw_ald_7_0 (np := 93) dX9_lines_92 rfl ?_
                refine sw_gR (np := 96) sw_f_RX9_31 sw_k_105 sw_r_105_17 dX9_lines_93 rfl ?_
                refine sw_ild_7_4 (np := 98) dX9_lines_96 rfl ?_
                refine sw_iald (np := 99) sw_k_113 sw_n_113 dX9_lines_98 rfl ?_
                refine sw_iadd (np := 100) dX9_lines_99 rfl ?_
                refine sw_iald (np := 101) sw_k_106 sw_n_106 dX9_lines_100 rfl ?_
                refine sw_iadd (np := 102) dX9_lines_101 rfl ?_
                refine sw_ild_7_1 (np := 103) dX9_lines_102 rfl ?_
                refine sw_icmp_lt (np := 106) (tp := 110) dX9_lines_103 rfl rfl ?_ ?_
                · refine sw_iconst (np := 111) dX9_lines_110 sw_ic_0 rfl ?_
                  refine sw_iadd (np := 112) dX9_lines_111 rfl ?_
                  refine sw_isl_7_2 (np := 113) dX9_lines_112 rfl rfl (fun x2_7 => ?_)
                  refine sw_inc_7_4 (np := 116) dX9_lines_113 sw_ic_1 rfl rfl ?_
                  refine sw_goto (tp := 37) dX9_lines_116 rfl ?_
                  exact hrec5 _ _ _
                · refine sw_iconst (np := 107) dX9_lines_106 sw_ic_1 rfl ?_
                  refine sw_goto (tp := 111) dX9_lines_107 rfl ?_
                  refine sw_iadd (np := 112) dX9_lines_111 rfl ?_
                  refine sw_isl_7_2 (np := 113) dX9_lines_112 rfl rfl (fun x2_8 => ?_)
                  refine sw_inc_7_4 (np := 116) dX9_lines_113 sw_ic_1 rfl rfl ?_
                  refine sw_goto (tp := 37) dX9_lines_116 rfl ?_
                  exact hrec5 _ _ _
  · refine sw_iconst (np := 15) dX9_lines_14 sw_ic_m1 rfl ?_
    exact sw_iret dX9_lines_15
/-- SwordAtticModel.playsFrom, over what calls it again -/
def gX9_playsFrom (N : Nat) (RR : Nat → Int32 → Int32 → Int32 → Int32 → sw_St → Option (Int32 × sw_St)) (p1 : Int32) (p2 : Int32) (S : sw_St) : Option (Int32 × sw_St) :=
  if p1 = p2 then (sw_bd (fX9_begins N S) (fun _ S7 => (sw_fx1 (fun rec2 x3_2 S8 => (if x3_2 ≥ p2 then (sw_bd (fX9_awakeMany N S8) (fun r4 S9 => (some (r4, S9)))) else (sw_gd (sw_in x3_2 4) (sw_jn0 (fun S10 => (sw_gd (sw_in x3_2 4) (if (S10.1 117 x3_2.toNatClampNeg) ≥ (12 : Int32) then (rec2 (x3_2 + (1 : Int32)) S10) else (if (x3_2 - x3_2 / (2 : Int32) * (2 : Int32)) = (1 : Int32) then (sw_gd (sw_in x3_2 4) (sw_bd (fX9_isTouched N (S10.1 117 x3_2.toNatClampNeg) S10) (fun _ S11 => (rec2 (x3_2 + (1 : Int32)) S11)))) else (rec2 (x3_2 + (1 : Int32)) S10))))) (fun k2 => (if (S8.1 117 x3_2.toNatClampNeg) ≥ (12 : Int32) then (k2 S8) else (if (x3_2 - x3_2 / (2 : Int32) * (2 : Int32)) = 0 then (sw_gd (sw_in x3_2 4) (sw_bd (fX9_isToldAt N (S8.1 117 x3_2.toNatClampNeg) (4 : Int32) S8) (fun _ S12 => (k2 S12)))) else (k2 S8)))))))) N (0 : Int32) S7))) else (sw_gd (sw_in p1 4) (sw_ls (sw_si S 117 p1.toNatClampNeg (12 : Int32)) (fun S1 => (sw_bd (RR 0 (p1 + (1 : Int32)) p2 0 0 S1) (fun r1 S2 => (sw_fx2 (fun rec1 x3_1 x4_1 S3 => (if x4_1 ≥ (6 : Int32) then (some (x3_1, S3)) else (sw_jn1 (fun y1 S4 => (sw_gd (sw_in p1 4) (sw_ls (sw_si S4 117 p1.toNatClampNeg y1) (fun S5 => (sw_bd (RR 0 (p1 + (1 : Int32)) p2 0 0 S5) (fun r2 S6 => (if (p1 - p1 / (2 : Int32) * (2 : Int32)) = 0 then (if r2 ≥ x3_1 then (rec1 x3_1 (x4_1 + (1 : Int32)) S6) else (rec1 r2 (x4_1 + (1 : Int32)) S6)) else (if r2 ≤ x3_1 then (rec1 x3_1 (x4_1 + (1 : Int32)) S6) else (rec1 r2 (x4_1 + (1 : Int32)) S6))))))))) (fun k1 => (if (p1 - p1 / (2 : Int32) * (2 : Int32)) = 0 then (k1 x4_1 S3) else (k1 ((6 : Int32) + x4_1) S3)))))) N r1 (0 : Int32) S2))))))
def kG_8 (G : sw_G) (d : Nat) (RR : Nat → Int32 → Int32 → Int32 → Int32 → sw_St → Option (Int32 × sw_St)) : Prop :=
  (∀ (a b c e : Int32) (S : sw_St), sw_Ev G yX9_playsFrom cX9_playsFrom 6 (some .int) d sw_ei [sw_vr G 105, .int a, .int b] S (RR 0 a b c e S))
def fG_8 (N : Nat) : Nat → Nat → Int32 → Int32 → Int32 → Int32 → sw_St → Option (Int32 × sw_St)
  | 0 => fun _ _ _ _ _ _ => none
  | n + 1 => fun t a b c e S => match t with
    | _ => gX9_playsFrom N (fG_8 N n) a b S
theorem ogX9_playsFrom {G : sw_G} {N d : Nat} (hd : 4 ≤ d) {RR : Nat → Int32 → Int32 → Int32 → Int32 → sw_St → Option (Int32 × sw_St)} (hR : kG_8 G (d - 1) RR) {p1 : Int32} {p2 : Int32} {S : sw_St} : sw_Ev G yX9_playsFrom cX9_playsFrom 6 (some .int) d sw_ei [sw_vr G 105, .int p1, .int p2] S (gX9_playsFrom N RR p1 p2 S) := by
  refine sw_Ev_of (own := RX9) (lv0 := [some (sw_vr G 105), some (.int p1), some (.int p2), none, none, none]) (by decide) rfl (Nat.le_of_ble_eq_true rfl) rfl ?_
  unfold gX9_playsFrom
  refine sw_ild_6_1 (np := 1) dX9_playsFrom_0 rfl ?_
  refine sw_ild_6_2 (np := 2) dX9_playsFrom_1 rfl ?_
  refine sw_icmp_ne (np := 5) (tp := 83) dX9_playsFrom_2 rfl rfl ?_ ?_
  · refine sw_ald_6_0 (np := 84) dX9_playsFrom_83 rfl ?_
    refine sw_gR (np := 87) sw_f_RX9_43 sw_k_105 sw_r_105_23 dX9_playsFrom_84 rfl ?_
    refine sw_ild_6_1 (np := 88) dX9_playsFrom_87 rfl ?_
    refine sw_bipush (np := 90) dX9_playsFrom_88 sw_bc_12 rfl ?_
    refine sw_sI (np := 91) sw_k_117 sw_n_117 dX9_playsFrom_90 rfl (fun S1 => ?_)
    refine sw_ald_6_0 (np := 92) dX9_playsFrom_91 rfl ?_
    refine sw_ild_6_1 (np := 93) dX9_playsFrom_92 rfl ?_
    refine sw_iconst (np := 94) dX9_playsFrom_93 sw_ic_1 rfl ?_
    refine sw_iadd (np := 95) dX9_playsFrom_94 rfl ?_
    refine sw_ild_6_2 (np := 96) dX9_playsFrom_95 rfl ?_
    refine sw_cV2i (np := 99) (hR _ _ _ _ _) sw_mv_X9_playsFrom sw_k_105 sw_wl_RX9_302 dX9_playsFrom_96 (sw_fit_rm (by omega) (by decide)) (Nat.le_of_ble_eq_true rfl) rfl (fun r1 S2 => ?_)
    refine sw_ist_6_3 (np := 100) dX9_playsFrom_99 rfl rfl ?_
    refine sw_iconst (np := 101) dX9_playsFrom_100 sw_ic_0 rfl ?_
    refine sw_ist_6_4 (np := 103) dX9_playsFrom_101 rfl rfl ?_
    refine sw_lp2 (lv := fun x3_1 x4_1 => [some (sw_vr G 105), some (.int p1), some (.int p2), some (.int x3_1), some (.int x4_1), none]) (fun rec1 hrec1 x3_1 x4_1 S3 => ?_) _ _ _ _
    refine sw_ild_6_4 (np := 105) dX9_playsFrom_103 rfl ?_
    refine sw_bipush (np := 107) dX9_playsFrom_105 sw_bc_6 rfl ?_
    refine sw_icmp_ge (np := 110) (tp := 182) dX9_playsFrom_107 rfl rfl ?_ ?_
    · refine sw_ild_6_3 (np := 183) dX9_playsFrom_182 rfl ?_
      exact sw_iret dX9_playsFrom_183
    · refine sw_ald_6_0 (np := 111) dX9_playsFrom_110 rfl ?_
      refine sw_gR (np := 114) sw_f_RX9_43 sw_k_105 sw_r_105_23 dX9_playsFrom_111 rfl ?_
      refine sw_ild_6_1 (np := 115) dX9_playsFrom_114 rfl ?_
      refine sw_ild_6_1 (np := 116) dX9_playsFrom_115 rfl ?_
      refine sw_iconst (np := 117) dX9_playsFrom_116 sw_ic_2 rfl ?_
      refine sw_irem (np := 118) dX9_playsFrom_117 (by decide) rfl ?_
      refine sw_jm1 (pj := 131) (fun y1 => [some (sw_vr G 105), some (.int p1), some (.int p2), some (.int x3_1), some (.int x4_1), none]) (fun y1 => [.int y1, .int p1, sw_vr G 117]) (fun y1 S4 => ?_) (fun k1 hk1 => ?_)
      · refine sw_sI (np := 132) sw_k_117 sw_n_117 dX9_playsFrom_131 rfl (fun S5 => ?_)
        refine sw_ald_6_0 (np := 133) dX9_playsFrom_132 rfl ?_
        refine sw_ild_6_1 (np := 134) dX9_playsFrom_133 rfl ?_
        refine sw_iconst (np := 135) dX9_playsFrom_134 sw_ic_1 rfl ?_
        refine sw_iadd (np := 136) dX9_playsFrom_135 rfl ?_
        refine sw_ild_6_2 (np := 137) dX9_playsFrom_136 rfl ?_
        refine sw_cV2i (np := 140) (hR _ _ _ _ _) sw_mv_X9_playsFrom sw_k_105 sw_wl_RX9_302 dX9_playsFrom_137 (sw_fit_rm (by omega) (by decide)) (Nat.le_of_ble_eq_true rfl) rfl (fun r2 S6 => ?_)
        refine sw_ist_6_5 (np := 142) dX9_playsFrom_140 rfl rfl ?_
        refine sw_ild_6_1 (np := 143) dX9_playsFrom_142 rfl ?_
        refine sw_iconst (np := 144) dX9_playsFrom_143 sw_ic_2 rfl ?_
        refine sw_irem (np := 145) dX9_playsFrom_144 (by decide) rfl ?_
        refine sw_if_ne (np := 148) (tp := 163) dX9_playsFrom_145 rfl rfl ?_ ?_
        · refine sw_ild_6_5 (np := 165) dX9_playsFrom_163 rfl ?_
          refine sw_ild_6_3 (np := 166) dX9_playsFrom_165 rfl ?_
          refine sw_icmp_le (np := 169) (tp := 174) dX9_playsFrom_166 rfl rfl ?_ ?_
          · refine sw_ild_6_3 (np := 175) dX9_playsFrom_174 rfl ?_
            refine sw_ist_6_3 (np := 176) dX9_playsFrom_175 rfl rfl ?_
            refine sw_inc_6_4 (np := 179) dX9_playsFrom_176 sw_ic_1 rfl rfl ?_
            refine sw_goto (tp := 103) dX9_playsFrom_179 rfl ?_
            refine sw_dr_6_5 ?_
            exact hrec1 _ _ _
          · refine sw_ild_6_5 (np := 171) dX9_playsFrom_169 rfl ?_
            refine sw_goto (tp := 175) dX9_playsFrom_171 rfl ?_
            refine sw_ist_6_3 (np := 176) dX9_playsFrom_175 rfl rfl ?_
            refine sw_inc_6_4 (np := 179) dX9_playsFrom_176 sw_ic_1 rfl rfl ?_
            refine sw_goto (tp := 103) dX9_playsFrom_179 rfl ?_
            refine sw_dr_6_5 ?_
            exact hrec1 _ _ _
        · refine sw_ild_6_5 (np := 150) dX9_playsFrom_148 rfl ?_
          refine sw_ild_6_3 (np := 151) dX9_playsFrom_150 rfl ?_
          refine sw_icmp_ge (np := 154) (tp := 159) dX9_playsFrom_151 rfl rfl ?_ ?_
          · refine sw_ild_6_3 (np := 160) dX9_playsFrom_159 rfl ?_
            refine sw_goto (tp := 175) dX9_playsFrom_160 rfl ?_
            refine sw_ist_6_3 (np := 176) dX9_playsFrom_175 rfl rfl ?_
            refine sw_inc_6_4 (np := 179) dX9_playsFrom_176 sw_ic_1 rfl rfl ?_
            refine sw_goto (tp := 103) dX9_playsFrom_179 rfl ?_
            refine sw_dr_6_5 ?_
            exact hrec1 _ _ _
          · refine sw_ild_6_5 (np := 156) dX9_playsFrom_154 rfl ?_
            refine sw_goto (tp := 175) dX9_playsFrom_156 rfl ?_
            refine sw_ist_6_3 (np := 176) dX9_playsFrom_175 rfl rfl ?_
            refine sw_inc_6_4 (np := 179) dX9_playsFrom_176 sw_ic_1 rfl rfl ?_
            refine sw_goto (tp := 103) dX9_playsFrom_179 rfl ?_
            refine sw_dr_6_5 ?_
            exact hrec1 _ _ _
      · refine sw_if_ne (np := 121) (tp := 126) dX9_playsFrom_118 rfl rfl ?_ ?_
        · refine sw_bipush (np := 128) dX9_playsFrom_126 sw_bc_6 rfl ?_
          refine sw_ild_6_4 (np := 130) dX9_playsFrom_128 rfl ?_
          refine sw_iadd (np := 131) dX9_playsFrom_130 rfl ?_
          exact hk1 _ _
        · refine sw_ild_6_4 (np := 123) dX9_playsFrom_121 rfl ?_
          refine sw_goto (tp := 131) dX9_playsFrom_123 rfl ?_
          exact hk1 _ _
  · refine sw_ald_6_0 (np := 6) dX9_playsFrom_5 rfl ?_
    refine sw_cV0v (np := 9) (hX9_begins (d := d - 1) (by omega) ) sw_mv_X9_begins sw_k_105 sw_wl_RX9_233 dX9_playsFrom_6 (sw_fit_rm (by omega) (by decide)) (Nat.le_of_ble_eq_true rfl) rfl (fun _ S7 => ?_)
    refine sw_iconst (np := 10) dX9_playsFrom_9 sw_ic_0 rfl ?_
    refine sw_ist_6_3 (np := 11) dX9_playsFrom_10 rfl rfl ?_
    refine sw_dr_6_1 ?_
    refine sw_lp1 (lv := fun x3_2 => [some (sw_vr G 105), none, some (.int p2), some (.int x3_2), none, none]) (fun rec2 hrec2 x3_2 S8 => ?_) _ _ _
    refine sw_ild_6_3 (np := 12) dX9_playsFrom_11 rfl ?_
    refine sw_ild_6_2 (np := 13) dX9_playsFrom_12 rfl ?_
    refine sw_icmp_ge (np := 16) (tp := 78) dX9_playsFrom_13 rfl rfl ?_ ?_
    · refine sw_ald_6_0 (np := 79) dX9_playsFrom_78 rfl ?_
      refine sw_cV0i (np := 82) (hX9_awakeMany (d := d - 1) (by omega) ) sw_mv_X9_awakeMany sw_k_105 sw_wl_RX9_256 dX9_playsFrom_79 (sw_fit_rm (by omega) (by decide)) (Nat.le_of_ble_eq_true rfl) rfl (fun r4 S9 => ?_)
      exact sw_iret dX9_playsFrom_82
    · refine sw_ald_6_0 (np := 17) dX9_playsFrom_16 rfl ?_
      refine sw_gR (np := 20) sw_f_RX9_43 sw_k_105 sw_r_105_23 dX9_playsFrom_17 rfl ?_
      refine sw_ild_6_3 (np := 21) dX9_playsFrom_20 rfl ?_
      refine sw_iald (np := 22) sw_k_117 sw_n_117 dX9_playsFrom_21 rfl ?_
      refine sw_bipush (np := 24) dX9_playsFrom_22 sw_bc_12 rfl ?_
      refine sw_jm0 (pj := 44) ([some (sw_vr G 105), none, some (.int p2), some (.int x3_2), none, none]) ([]) (fun S10 => ?_) (fun k2 hk2 => ?_)
      · refine sw_ald_6_0 (np := 45) dX9_playsFrom_44 rfl ?_
        refine sw_gR (np := 48) sw_f_RX9_43 sw_k_105 sw_r_105_23 dX9_playsFrom_45 rfl ?_
        refine sw_ild_6_3 (np := 49) dX9_playsFrom_48 rfl ?_
        refine sw_iald (np := 50) sw_k_117 sw_n_117 dX9_playsFrom_49 rfl ?_
        refine sw_bipush (np := 52) dX9_playsFrom_50 sw_bc_12 rfl ?_
        refine sw_icmp_ge (np := 55) (tp := 72) dX9_playsFrom_52 rfl rfl ?_ ?_
        · refine sw_inc_6_3 (np := 75) dX9_playsFrom_72 sw_ic_1 rfl rfl ?_
          refine sw_goto (tp := 11) dX9_playsFrom_75 rfl ?_
          exact hrec2 _ _
        · refine sw_ild_6_3 (np := 56) dX9_playsFrom_55 rfl ?_
          refine sw_iconst (np := 57) dX9_playsFrom_56 sw_ic_2 rfl ?_
          refine sw_irem (np := 58) dX9_playsFrom_57 (by decide) rfl ?_
          refine sw_iconst (np := 59) dX9_playsFrom_58 sw_ic_1 rfl ?_
          refine sw_icmp_ne (np := 62) (tp := 72) dX9_playsFrom_59 rfl rfl ?_ ?_
          · refine sw_inc_6_3 (np := 75) dX9_playsFrom_72 sw_ic_1 rfl rfl ?_
            refine sw_goto (tp := 11) dX9_playsFrom_75 rfl ?_
            exact hrec2 _ _
          · refine sw_ald_6_0 (np := 63) dX9_playsFrom_62 rfl ?_
            refine sw_ald_6_0 (np := 64) dX9_playsFrom_63 rfl ?_
            refine sw_gR (np := 67) sw_f_RX9_43 sw_k_105 sw_r_105_23 dX9_playsFrom_64 rfl ?_
            refine sw_ild_6_3 (np := 68) dX9_playsFrom_67 rfl ?_
            refine sw_iald (np := 69) sw_k_117 sw_n_117 dX9_playsFrom_68 rfl ?_
            refine sw_cV1v (np := 72) (hX9_isTouched (d := d - 1) (by omega) ) sw_mv_X9_isTouched sw_k_105 sw_wl_RX9_276 dX9_playsFrom_69 (sw_fit_rm (by omega) (by decide)) (Nat.le_of_ble_eq_true rfl) rfl (fun _ S11 => ?_)
            refine sw_inc_6_3 (np := 75) dX9_playsFrom_72 sw_ic_1 rfl rfl ?_
            refine sw_goto (tp := 11) dX9_playsFrom_75 rfl ?_
            exact hrec2 _ _
      · refine sw_icmp_ge (np := 27) (tp := 44) dX9_playsFrom_24 rfl rfl ?_ ?_
        · exact hk2 _
        · refine sw_ild_6_3 (np := 28) dX9_playsFrom_27 rfl ?_
          refine sw_iconst (np := 29) dX9_playsFrom_28 sw_ic_2 rfl ?_
          refine sw_irem (np := 30) dX9_playsFrom_29 (by decide) rfl ?_
          refine sw_if_ne (np := 33) (tp := 44) dX9_playsFrom_30 rfl rfl ?_ ?_
          · exact hk2 _
          · refine sw_ald_6_0 (np := 34) dX9_playsFrom_33 rfl ?_
            refine sw_ald_6_0 (np := 35) dX9_playsFrom_34 rfl ?_
            refine sw_gR (np := 38) sw_f_RX9_43 sw_k_105 sw_r_105_23 dX9_playsFrom_35 rfl ?_
            refine sw_ild_6_3 (np := 39) dX9_playsFrom_38 rfl ?_
            refine sw_iald (np := 40) sw_k_117 sw_n_117 dX9_playsFrom_39 rfl ?_
            refine sw_iconst (np := 41) dX9_playsFrom_40 sw_ic_4 rfl ?_
            refine sw_cV2v (np := 44) (hX9_isToldAt (d := d - 1) (by omega) ) sw_mv_X9_isToldAt sw_k_105 sw_wl_RX9_273 dX9_playsFrom_41 (sw_fit_rm (by omega) (by decide)) (Nat.le_of_ble_eq_true rfl) rfl (fun _ S12 => ?_)
            exact hk2 _
theorem hG_8 {G : sw_G} {N : Nat} : ∀ n d, 4 + n ≤ d → kG_8 G d (fG_8 N n) := by
  intro n
  induction n with
  | zero => intro d _; exact (fun _ _ _ _ _ _ h => by cases h)
  | succ n ih => intro d hd; exact (fun _ _ _ _ _ => ogX9_playsFrom (N := N) (by omega) (ih (d - 1) (by omega)))
def fX9_playsFrom (N : Nat) (p1 : Int32) (p2 : Int32) (S : sw_St) : Option (Int32 × sw_St) := fG_8 N 100 0 p1 p2 0 0 S
theorem hX9_playsFrom {G : sw_G} {N d : Nat} (hd : 104 ≤ d) {p1 : Int32} {p2 : Int32} {S : sw_St} : sw_Ev G yX9_playsFrom cX9_playsFrom 6 (some .int) d sw_ei [sw_vr G 105, .int p1, .int p2] S (fX9_playsFrom N p1 p2 S) := (hG_8 (G := G) (N := N) 100 d hd) _ _ _ _ _
/-- SwordAtticModel.byTurns(II)I -/
def fX9_byTurns (N : Nat) (p1 : Int32) (p2 : Int32) (S : sw_St) : Option (Int32 × sw_St) :=
  sw_bd (fX9_within N p1.toInt64 (1 : Int64) (4 : Int64) S) (fun r1 S1 => (if r1 = 0 then (some ((-1 : Int32), S1)) else (sw_bd (fX9_within N p2.toInt64 (0 : Int64) (1 : Int64) S1) (fun r2 S2 => (if r2 = 0 then (some ((-1 : Int32), S2)) else (sw_bd (fX9_playsFrom N (0 : Int32) p1 S2) (fun r3 S3 => (if p2 = 0 then (some (r3, S3)) else (sw_fx2 (fun rec1 x4_1 x5_1 S4 => (if x5_1 > (6 : Int32) then (some (x4_1, S4)) else (if x4_1 ≥ 0 then (some (x4_1, S4)) else (sw_jn1 (fun y1 S5 => (sw_gd (sw_in (0 : Int32) 4) (sw_ls (sw_si S5 117 (0 : Int32).toNatClampNeg y1) (fun S6 => (sw_bd (fX9_playsFrom N (1 : Int32) p1 S6) (fun r4 S7 => (if r4 = r3 then (if x5_1 = 0 then (rec1 (12 : Int32) (x5_1 + (1 : Int32)) S7) else (sw_li (x5_1 - (1 : Int32)) (fun x4_2 => (rec1 x4_2 (x5_1 + (1 : Int32)) S7)))) else (rec1 (-1 : Int32) (x5_1 + (1 : Int32)) S7)))))))) (fun k1 => (if x5_1 = 0 then (k1 (12 : Int32) S4) else (k1 (x5_1 - (1 : Int32)) S4))))))) N (-1 : Int32) (0 : Int32) S3)))))))))
theorem hX9_byTurns {G : sw_G} {N d : Nat} (hd : 105 ≤ d) {p1 : Int32} {p2 : Int32}  {S : sw_St} : sw_Ev G yX9_byTurns cX9_byTurns 6 (some .int) d sw_ei [sw_vr G 105, .int p1, .int p2] S (fX9_byTurns N p1 p2 S) := by
  refine sw_Ev_of (own := RX9) (lv0 := [some (sw_vr G 105), some (.int p1), some (.int p2), none, none, none]) (by decide) rfl (Nat.le_of_ble_eq_true rfl) rfl ?_
  unfold fX9_byTurns
  refine sw_ild_6_1 (np := 1) dX9_byTurns_0 rfl ?_
  refine sw_i2l (np := 2) dX9_byTurns_1 rfl ?_
  refine sw_lconst (np := 3) dX9_byTurns_2 sw_lc_1 rfl ?_
  refine sw_ldc2 (np := 6) sw_wc_RX9_125 dX9_byTurns_3 rfl ?_
  refine sw_cS3i (np := 9) (hX9_within (d := d - 1) (by omega) ) sw_ms_X9_within sw_wl_RX9_98 dX9_byTurns_6 (sw_fit_rm (by omega) (by decide)) (Nat.le_of_ble_eq_true rfl) rfl (fun r1 S1 => ?_)
  refine sw_if_eq (np := 12) (tp := 22) dX9_byTurns_9 rfl rfl ?_ ?_
  · refine sw_iconst (np := 23) dX9_byTurns_22 sw_ic_m1 rfl ?_
    exact sw_iret dX9_byTurns_23
  · refine sw_ild_6_2 (np := 13) dX9_byTurns_12 rfl ?_
    refine sw_i2l (np := 14) dX9_byTurns_13 rfl ?_
    refine sw_lconst (np := 15) dX9_byTurns_14 sw_lc_0 rfl ?_
    refine sw_lconst (np := 16) dX9_byTurns_15 sw_lc_1 rfl ?_
    refine sw_cS3i (np := 19) (hX9_within (d := d - 1) (by omega) ) sw_ms_X9_within sw_wl_RX9_98 dX9_byTurns_16 (sw_fit_rm (by omega) (by decide)) (Nat.le_of_ble_eq_true rfl) rfl (fun r2 S2 => ?_)
    refine sw_if_ne (np := 22) (tp := 24) dX9_byTurns_19 rfl rfl ?_ ?_
    · refine sw_ald_6_0 (np := 25) dX9_byTurns_24 rfl ?_
      refine sw_iconst (np := 26) dX9_byTurns_25 sw_ic_0 rfl ?_
      refine sw_ild_6_1 (np := 27) dX9_byTurns_26 rfl ?_
      refine sw_cV2i (np := 30) (hX9_playsFrom (d := d - 1) (by omega) ) sw_mv_X9_playsFrom sw_k_105 sw_wl_RX9_302 dX9_byTurns_27 (sw_fit_rm (by omega) (by decide)) (Nat.le_of_ble_eq_true rfl) rfl (fun r3 S3 => ?_)
      refine sw_ist_6_3 (np := 31) dX9_byTurns_30 rfl rfl ?_
      refine sw_ild_6_2 (np := 32) dX9_byTurns_31 rfl ?_
      refine sw_if_ne (np := 35) (tp := 37) dX9_byTurns_32 rfl rfl ?_ ?_
      · refine sw_iconst (np := 38) dX9_byTurns_37 sw_ic_m1 rfl ?_
        refine sw_ist_6_4 (np := 40) dX9_byTurns_38 rfl rfl ?_
        refine sw_iconst (np := 41) dX9_byTurns_40 sw_ic_0 rfl ?_
        refine sw_ist_6_5 (np := 43) dX9_byTurns_41 rfl rfl ?_
        refine sw_dr_6_2 ?_
        refine sw_lp2 (lv := fun x4_1 x5_1 => [some (sw_vr G 105), some (.int p1), none, some (.int r3), some (.int x4_1), some (.int x5_1)]) (fun rec1 hrec1 x4_1 x5_1 S4 => ?_) _ _ _ _
        refine sw_ild_6_5 (np := 45) dX9_byTurns_43 rfl ?_
        refine sw_bipush (np := 47) dX9_byTurns_45 sw_bc_6 rfl ?_
        refine sw_icmp_gt (np := 50) (tp := 111) dX9_byTurns_47 rfl rfl ?_ ?_
        · refine sw_ild_6_4 (np := 113) dX9_byTurns_111 rfl ?_
          exact sw_iret dX9_byTurns_113
        · refine sw_ild_6_4 (np := 52) dX9_byTurns_50 rfl ?_
          refine sw_if_ge (np := 55) (tp := 111) dX9_byTurns_52 rfl rfl ?_ ?_
          · refine sw_ild_6_4 (np := 113) dX9_byTurns_111 rfl ?_
            exact sw_iret dX9_byTurns_113
          · refine sw_ald_6_0 (np := 56) dX9_byTurns_55 rfl ?_
            refine sw_gR (np := 59) sw_f_RX9_43 sw_k_105 sw_r_105_23 dX9_byTurns_56 rfl ?_
            refine sw_iconst (np := 60) dX9_byTurns_59 sw_ic_0 rfl ?_
            refine sw_ild_6_5 (np := 62) dX9_byTurns_60 rfl ?_
            refine sw_jm1 (pj := 74) (fun y1 => [some (sw_vr G 105), some (.int p1), none, some (.int r3), none, some (.int x5_1)]) (fun y1 => [.int y1, .int (0 : Int32), sw_vr G 117]) (fun y1 S5 => ?_) (fun k1 hk1 => ?_)
            · refine sw_sI (np := 75) sw_k_117 sw_n_117 dX9_byTurns_74 rfl (fun S6 => ?_)
              refine sw_ald_6_0 (np := 76) dX9_byTurns_75 rfl ?_
              refine sw_iconst (np := 77) dX9_byTurns_76 sw_ic_1 rfl ?_
              refine sw_ild_6_1 (np := 78) dX9_byTurns_77 rfl ?_
              refine sw_cV2i (np := 81) (hX9_playsFrom (d := d - 1) (by omega) ) sw_mv_X9_playsFrom sw_k_105 sw_wl_RX9_302 dX9_byTurns_78 (sw_fit_rm (by omega) (by decide)) (Nat.le_of_ble_eq_true rfl) rfl (fun r4 S7 => ?_)
              refine sw_ild_6_3 (np := 82) dX9_byTurns_81 rfl ?_
              refine sw_icmp_ne (np := 85) (tp := 102) dX9_byTurns_82 rfl rfl ?_ ?_
              · refine sw_iconst (np := 103) dX9_byTurns_102 sw_ic_m1 rfl ?_
                refine sw_ist_6_4 (np := 105) dX9_byTurns_103 rfl rfl ?_
                refine sw_inc_6_5 (np := 108) dX9_byTurns_105 sw_ic_1 rfl rfl ?_
                refine sw_goto (tp := 43) dX9_byTurns_108 rfl ?_
                exact hrec1 _ _ _
              · refine sw_ild_6_5 (np := 87) dX9_byTurns_85 rfl ?_
                refine sw_if_ne (np := 90) (tp := 95) dX9_byTurns_87 rfl rfl ?_ ?_
                · refine sw_ild_6_5 (np := 97) dX9_byTurns_95 rfl ?_
                  refine sw_iconst (np := 98) dX9_byTurns_97 sw_ic_1 rfl ?_
                  refine sw_isub (np := 99) dX9_byTurns_98 rfl ?_
                  refine sw_goto (tp := 103) dX9_byTurns_99 rfl ?_
                  refine sw_isl_6_4 (np := 105) dX9_byTurns_103 rfl rfl (fun x4_2 => ?_)
                  refine sw_inc_6_5 (np := 108) dX9_byTurns_105 sw_ic_1 rfl rfl ?_
                  refine sw_goto (tp := 43) dX9_byTurns_108 rfl ?_
                  exact hrec1 _ _ _
                · refine sw_bipush (np := 92) dX9_byTurns_90 sw_bc_12 rfl ?_
                  refine sw_goto (tp := 103) dX9_byTurns_92 rfl ?_
                  refine sw_ist_6_4 (np := 105) dX9_byTurns_103 rfl rfl ?_
                  refine sw_inc_6_5 (np := 108) dX9_byTurns_105 sw_ic_1 rfl rfl ?_
                  refine sw_goto (tp := 43) dX9_byTurns_108 rfl ?_
                  exact hrec1 _ _ _
            · refine sw_if_ne (np := 65) (tp := 70) dX9_byTurns_62 rfl rfl ?_ ?_
              · refine sw_ild_6_5 (np := 72) dX9_byTurns_70 rfl ?_
                refine sw_iconst (np := 73) dX9_byTurns_72 sw_ic_1 rfl ?_
                refine sw_isub (np := 74) dX9_byTurns_73 rfl ?_
                refine sw_dr_6_4 ?_
                exact hk1 _ _
              · refine sw_bipush (np := 67) dX9_byTurns_65 sw_bc_12 rfl ?_
                refine sw_goto (tp := 74) dX9_byTurns_67 rfl ?_
                refine sw_dr_6_4 ?_
                exact hk1 _ _
      · refine sw_ild_6_3 (np := 36) dX9_byTurns_35 rfl ?_
        exact sw_iret dX9_byTurns_36
    · refine sw_iconst (np := 23) dX9_byTurns_22 sw_ic_m1 rfl ?_
      exact sw_iret dX9_byTurns_23
/-- SwordAtticModel.drawn(III)I -/
def fX9_drawn (N : Nat) (p1 : Int32) (p2 : Int32) (p3 : Int32) (S : sw_St) : Option (Int32 × sw_St) :=
  if p2 < 0 then (some ((-1 : Int32), S)) else (sw_bd (fX9_within N ((p2 / (10000 : Int32)).toInt64) (1 : Int64) (30 : Int64) S) (fun r1 S1 => (if r1 = 0 then (some ((-1 : Int32), S1)) else (sw_bd (fX9_within N (((p2 / (100 : Int32)) - (p2 / (100 : Int32)) / (100 : Int32) * (100 : Int32)).toInt64) (1 : Int64) (24 : Int64) S1) (fun r2 S2 => (if r2 = 0 then (some ((-1 : Int32), S2)) else (sw_bd (fX9_within N ((p2 - p2 / (100 : Int32) * (100 : Int32)).toInt64) (0 : Int64) (12 : Int64) S2) (fun r3 S3 => (if r3 = 0 then (some ((-1 : Int32), S3)) else (sw_jn0 (fun S4 => (sw_fx3 (fun rec1 x4_1 x5_1 x6_1 S5 => (if x6_1 ≥ (p2 / (10000 : Int32)) then (some (x5_1, S5)) else (sw_bd (fX9_begins N S5) (fun _ S6 => (sw_fx2 (fun rec2 x4_2 x7_1 S7 => (if x7_1 ≥ ((p2 / (100 : Int32)) - (p2 / (100 : Int32)) / (100 : Int32) * (100 : Int32)) then (if p3 ≥ 0 then (sw_gd (sw_in p3 10) (sw_li (x5_1 + (S7.1 114 p3.toNatClampNeg)) (fun x5_2 => (rec1 x4_2 x5_2 (x6_1 + (1 : Int32)) S7)))) else (sw_bd (fX9_awakeMany N S7) (fun r5 S8 => (sw_li (x5_1 + r5) (fun x5_3 => (rec1 x4_2 x5_3 (x6_1 + (1 : Int32)) S8)))))) else (sw_li ((x4_2 * (1103515245 : Int32)) + (12345 : Int32)) (fun x4_3 => (sw_ls (sw_si S7 105 20 (((x4_3.toUInt32 >>> ((8 : Int32).toUInt32 &&& Int32.toUInt32 31)).toInt32) - ((x4_3.toUInt32 >>> ((8 : Int32).toUInt32 &&& Int32.toUInt32 31)).toInt32) / (12 : Int32) * (12 : Int32))) (fun S9 => (if (((x4_3.toUInt32 >>> ((20 : Int32).toUInt32 &&& Int32.toUInt32 31)).toInt32) - ((x4_3.toUInt32 >>> ((20 : Int32).toUInt32 &&& Int32.toUInt32 31)).toInt32) / (12 : Int32) * (12 : Int32)) ≥ (p2 - p2 / (100 : Int32) * (100 : Int32)) then (sw_bd (fX9_goesHour N S9) (fun _ S10 => (rec2 x4_3 (x7_1 + (1 : Int32)) S10))) else (sw_bd (fX9_isTouched N (((x4_3.toUInt32 >>> ((16 : Int32).toUInt32 &&& Int32.toUInt32 31)).toInt32) - ((x4_3.toUInt32 >>> ((16 : Int32).toUInt32 &&& Int32.toUInt32 31)).toInt32) / (12 : Int32) * (12 : Int32)) S9) (fun _ S11 => (sw_bd (fX9_goesHour N S11) (fun _ S12 => (rec2 x4_3 (x7_1 + (1 : Int32)) S12)))))))))))) N x4_1 (0 : Int32) S6))))) N p1 (0 : Int32) (0 : Int32) S4)) (fun k1 => (if p3 = (-1 : Int32) then (k1 S3) else (sw_bd (fX9_isSword N p3.toInt64 S3) (fun r9 S13 => (if r9 = 0 then (some ((-1 : Int32), S13)) else (k1 S13))))))))))))))))
theorem hX9_drawn {G : sw_G} {N d : Nat} (hd : 107 ≤ d) {p1 : Int32} {p2 : Int32} {p3 : Int32}  {S : sw_St} : sw_Ev G yX9_drawn cX9_drawn 8 (some .int) d sw_ei [sw_vr G 105, .int p1, .int p2, .int p3] S (fX9_drawn N p1 p2 p3 S) := by
  refine sw_Ev_of (own := RX9) (lv0 := [some (sw_vr G 105), some (.int p1), some (.int p2), some (.int p3), none, none, none, none]) (by decide) rfl (Nat.le_of_ble_eq_true rfl) rfl ?_
  unfold fX9_drawn
  refine sw_ild_8_2 (np := 1) dX9_drawn_0 rfl ?_
  refine sw_if_lt (np := 4) (tp := 67) dX9_drawn_1 rfl rfl ?_ ?_
  · refine sw_iconst (np := 68) dX9_drawn_67 sw_ic_m1 rfl ?_
    exact sw_iret dX9_drawn_68
  · refine sw_ild_8_2 (np := 5) dX9_drawn_4 rfl ?_
    refine sw_sipush (np := 8) dX9_drawn_5 sw_sc_10000 rfl ?_
    refine sw_idiv (np := 9) dX9_drawn_8 (by decide) rfl ?_
    refine sw_i2l (np := 10) dX9_drawn_9 rfl ?_
    refine sw_lconst (np := 11) dX9_drawn_10 sw_lc_1 rfl ?_
    refine sw_ldc2 (np := 14) sw_wc_RX9_305 dX9_drawn_11 rfl ?_
    refine sw_cS3i (np := 17) (hX9_within (d := d - 1) (by omega) ) sw_ms_X9_within sw_wl_RX9_98 dX9_drawn_14 (sw_fit_rm (by omega) (by decide)) (Nat.le_of_ble_eq_true rfl) rfl (fun r1 S1 => ?_)
    refine sw_if_eq (np := 20) (tp := 67) dX9_drawn_17 rfl rfl ?_ ?_
    · refine sw_iconst (np := 68) dX9_drawn_67 sw_ic_m1 rfl ?_
      exact sw_iret dX9_drawn_68
    · refine sw_ild_8_2 (np := 21) dX9_drawn_20 rfl ?_
      refine sw_bipush (np := 23) dX9_drawn_21 sw_bc_100 rfl ?_
      refine sw_idiv (np := 24) dX9_drawn_23 (by decide) rfl ?_
      refine sw_bipush (np := 26) dX9_drawn_24 sw_bc_100 rfl ?_
      refine sw_irem (np := 27) dX9_drawn_26 (by decide) rfl ?_
      refine sw_i2l (np := 28) dX9_drawn_27 rfl ?_
      refine sw_lconst (np := 29) dX9_drawn_28 sw_lc_1 rfl ?_
      refine sw_ldc2 (np := 32) sw_wc_RX9_248 dX9_drawn_29 rfl ?_
      refine sw_cS3i (np := 35) (hX9_within (d := d - 1) (by omega) ) sw_ms_X9_within sw_wl_RX9_98 dX9_drawn_32 (sw_fit_rm (by omega) (by decide)) (Nat.le_of_ble_eq_true rfl) rfl (fun r2 S2 => ?_)
      refine sw_if_eq (np := 38) (tp := 67) dX9_drawn_35 rfl rfl ?_ ?_
      · refine sw_iconst (np := 68) dX9_drawn_67 sw_ic_m1 rfl ?_
        exact sw_iret dX9_drawn_68
      · refine sw_ild_8_2 (np := 39) dX9_drawn_38 rfl ?_
        refine sw_bipush (np := 41) dX9_drawn_39 sw_bc_100 rfl ?_
        refine sw_irem (np := 42) dX9_drawn_41 (by decide) rfl ?_
        refine sw_i2l (np := 43) dX9_drawn_42 rfl ?_
        refine sw_lconst (np := 44) dX9_drawn_43 sw_lc_0 rfl ?_
        refine sw_ldc2 (np := 47) sw_wc_RX9_307 dX9_drawn_44 rfl ?_
        refine sw_cS3i (np := 50) (hX9_within (d := d - 1) (by omega) ) sw_ms_X9_within sw_wl_RX9_98 dX9_drawn_47 (sw_fit_rm (by omega) (by decide)) (Nat.le_of_ble_eq_true rfl) rfl (fun r3 S3 => ?_)
        refine sw_if_eq (np := 53) (tp := 67) dX9_drawn_50 rfl rfl ?_ ?_
        · refine sw_iconst (np := 68) dX9_drawn_67 sw_ic_m1 rfl ?_
          exact sw_iret dX9_drawn_68
        · refine sw_ild_8_3 (np := 54) dX9_drawn_53 rfl ?_
          refine sw_iconst (np := 55) dX9_drawn_54 sw_ic_m1 rfl ?_
          refine sw_jm0 (pj := 69) ([some (sw_vr G 105), some (.int p1), some (.int p2), some (.int p3), none, none, none, none]) ([]) (fun S4 => ?_) (fun k1 hk1 => ?_)
          · refine sw_ild_8_1 (np := 70) dX9_drawn_69 rfl ?_
            refine sw_ist_8_4 (np := 72) dX9_drawn_70 rfl rfl ?_
            refine sw_iconst (np := 73) dX9_drawn_72 sw_ic_0 rfl ?_
            refine sw_ist_8_5 (np := 75) dX9_drawn_73 rfl rfl ?_
            refine sw_iconst (np := 76) dX9_drawn_75 sw_ic_0 rfl ?_
            refine sw_ist_8_6 (np := 78) dX9_drawn_76 rfl rfl ?_
            refine sw_dr_8_1 ?_
            refine sw_lp3 (lv := fun x4_1 x5_1 x6_1 => [some (sw_vr G 105), none, some (.int p2), some (.int p3), some (.int x4_1), some (.int x5_1), some (.int x6_1), none]) (fun rec1 hrec1 x4_1 x5_1 x6_1 S5 => ?_) _ _ _ _ _
            refine sw_ild_8_6 (np := 80) dX9_drawn_78 rfl ?_
            refine sw_ild_8_2 (np := 81) dX9_drawn_80 rfl ?_
            refine sw_sipush (np := 84) dX9_drawn_81 sw_sc_10000 rfl ?_
            refine sw_idiv (np := 85) dX9_drawn_84 (by decide) rfl ?_
            refine sw_icmp_ge (np := 88) (tp := 196) dX9_drawn_85 rfl rfl ?_ ?_
            · refine sw_ild_8_5 (np := 198) dX9_drawn_196 rfl ?_
              exact sw_iret dX9_drawn_198
            · refine sw_ald_8_0 (np := 89) dX9_drawn_88 rfl ?_
              refine sw_cV0v (np := 92) (hX9_begins (d := d - 1) (by omega) ) sw_mv_X9_begins sw_k_105 sw_wl_RX9_233 dX9_drawn_89 (sw_fit_rm (by omega) (by decide)) (Nat.le_of_ble_eq_true rfl) rfl (fun _ S6 => ?_)
              refine sw_iconst (np := 93) dX9_drawn_92 sw_ic_0 rfl ?_
              refine sw_ist_8_7 (np := 95) dX9_drawn_93 rfl rfl ?_
              refine sw_lp2 (lv := fun x4_2 x7_1 => [some (sw_vr G 105), none, some (.int p2), some (.int p3), some (.int x4_2), some (.int x5_1), some (.int x6_1), some (.int x7_1)]) (fun rec2 hrec2 x4_2 x7_1 S7 => ?_) _ _ _ _
              refine sw_ild_8_7 (np := 97) dX9_drawn_95 rfl ?_
              refine sw_ild_8_2 (np := 98) dX9_drawn_97 rfl ?_
              refine sw_bipush (np := 100) dX9_drawn_98 sw_bc_100 rfl ?_
              refine sw_idiv (np := 101) dX9_drawn_100 (by decide) rfl ?_
              refine sw_bipush (np := 103) dX9_drawn_101 sw_bc_100 rfl ?_
              refine sw_irem (np := 104) dX9_drawn_103 (by decide) rfl ?_
              refine sw_icmp_ge (np := 107) (tp := 168) dX9_drawn_104 rfl rfl ?_ ?_
              · refine sw_ild_8_5 (np := 170) dX9_drawn_168 rfl ?_
                refine sw_ild_8_3 (np := 171) dX9_drawn_170 rfl ?_
                refine sw_if_ge (np := 174) (tp := 181) dX9_drawn_171 rfl rfl ?_ ?_
                · refine sw_ald_8_0 (np := 182) dX9_drawn_181 rfl ?_
                  refine sw_gR (np := 185) sw_f_RX9_34 sw_k_105 sw_r_105_18 dX9_drawn_182 rfl ?_
                  refine sw_ild_8_3 (np := 186) dX9_drawn_185 rfl ?_
                  refine sw_iald (np := 187) sw_k_114 sw_n_114 dX9_drawn_186 rfl ?_
                  refine sw_iadd (np := 188) dX9_drawn_187 rfl ?_
                  refine sw_isl_8_5 (np := 190) dX9_drawn_188 rfl rfl (fun x5_2 => ?_)
                  refine sw_inc_8_6 (np := 193) dX9_drawn_190 sw_ic_1 rfl rfl ?_
                  refine sw_goto (tp := 78) dX9_drawn_193 rfl ?_
                  refine sw_dr_8_7 ?_
                  exact hrec1 _ _ _ _
                · refine sw_ald_8_0 (np := 175) dX9_drawn_174 rfl ?_
                  refine sw_cV0i (np := 178) (hX9_awakeMany (d := d - 1) (by omega) ) sw_mv_X9_awakeMany sw_k_105 sw_wl_RX9_256 dX9_drawn_175 (sw_fit_rm (by omega) (by decide)) (Nat.le_of_ble_eq_true rfl) rfl (fun r5 S8 => ?_)
                  refine sw_goto (tp := 187) dX9_drawn_178 rfl ?_
                  refine sw_iadd (np := 188) dX9_drawn_187 rfl ?_
                  refine sw_isl_8_5 (np := 190) dX9_drawn_188 rfl rfl (fun x5_3 => ?_)
                  refine sw_inc_8_6 (np := 193) dX9_drawn_190 sw_ic_1 rfl rfl ?_
                  refine sw_goto (tp := 78) dX9_drawn_193 rfl ?_
                  refine sw_dr_8_7 ?_
                  exact hrec1 _ _ _ _
              · refine sw_ild_8_4 (np := 109) dX9_drawn_107 rfl ?_
                refine sw_ldcw (np := 112) sw_wc_RX9_309 dX9_drawn_109 rfl ?_
                refine sw_imul (np := 113) dX9_drawn_112 rfl ?_
                refine sw_sipush (np := 116) dX9_drawn_113 sw_sc_12345 rfl ?_
                refine sw_iadd (np := 117) dX9_drawn_116 rfl ?_
                refine sw_isl_8_4 (np := 119) dX9_drawn_117 rfl rfl (fun x4_3 => ?_)
                refine sw_ald_8_0 (np := 120) dX9_drawn_119 rfl ?_
                refine sw_ild_8_4 (np := 122) dX9_drawn_120 rfl ?_
                refine sw_bipush (np := 124) dX9_drawn_122 sw_bc_8 rfl ?_
                refine sw_iushr (np := 125) dX9_drawn_124 rfl ?_
                refine sw_bipush (np := 127) dX9_drawn_125 sw_bc_12 rfl ?_
                refine sw_irem (np := 128) dX9_drawn_127 (by decide) rfl ?_
                refine sw_pI (np := 131) sw_f_RX9_204 sw_fp_9_20 sw_k_105 dX9_drawn_128 rfl (fun S9 => ?_)
                refine sw_ild_8_4 (np := 133) dX9_drawn_131 rfl ?_
                refine sw_bipush (np := 135) dX9_drawn_133 sw_bc_20 rfl ?_
                refine sw_iushr (np := 136) dX9_drawn_135 rfl ?_
                refine sw_bipush (np := 138) dX9_drawn_136 sw_bc_12 rfl ?_
                refine sw_irem (np := 139) dX9_drawn_138 (by decide) rfl ?_
                refine sw_ild_8_2 (np := 140) dX9_drawn_139 rfl ?_
                refine sw_bipush (np := 142) dX9_drawn_140 sw_bc_100 rfl ?_
                refine sw_irem (np := 143) dX9_drawn_142 (by decide) rfl ?_
                refine sw_icmp_ge (np := 146) (tp := 158) dX9_drawn_143 rfl rfl ?_ ?_
                · refine sw_ald_8_0 (np := 159) dX9_drawn_158 rfl ?_
                  refine sw_cV0v (np := 162) (hX9_goesHour (d := d - 1) (by omega) ) sw_mv_X9_goesHour sw_k_105 sw_wl_RX9_236 dX9_drawn_159 (sw_fit_rm (by omega) (by decide)) (Nat.le_of_ble_eq_true rfl) rfl (fun _ S10 => ?_)
                  refine sw_inc_8_7 (np := 165) dX9_drawn_162 sw_ic_1 rfl rfl ?_
                  refine sw_goto (tp := 95) dX9_drawn_165 rfl ?_
                  exact hrec2 _ _ _
                · refine sw_ald_8_0 (np := 147) dX9_drawn_146 rfl ?_
                  refine sw_ild_8_4 (np := 149) dX9_drawn_147 rfl ?_
                  refine sw_bipush (np := 151) dX9_drawn_149 sw_bc_16 rfl ?_
                  refine sw_iushr (np := 152) dX9_drawn_151 rfl ?_
                  refine sw_bipush (np := 154) dX9_drawn_152 sw_bc_12 rfl ?_
                  refine sw_irem (np := 155) dX9_drawn_154 (by decide) rfl ?_
                  refine sw_cV1v (np := 158) (hX9_isTouched (d := d - 1) (by omega) ) sw_mv_X9_isTouched sw_k_105 sw_wl_RX9_276 dX9_drawn_155 (sw_fit_rm (by omega) (by decide)) (Nat.le_of_ble_eq_true rfl) rfl (fun _ S11 => ?_)
                  refine sw_ald_8_0 (np := 159) dX9_drawn_158 rfl ?_
                  refine sw_cV0v (np := 162) (hX9_goesHour (d := d - 1) (by omega) ) sw_mv_X9_goesHour sw_k_105 sw_wl_RX9_236 dX9_drawn_159 (sw_fit_rm (by omega) (by decide)) (Nat.le_of_ble_eq_true rfl) rfl (fun _ S12 => ?_)
                  refine sw_inc_8_7 (np := 165) dX9_drawn_162 sw_ic_1 rfl rfl ?_
                  refine sw_goto (tp := 95) dX9_drawn_165 rfl ?_
                  exact hrec2 _ _ _
          · refine sw_icmp_eq (np := 58) (tp := 69) dX9_drawn_55 rfl rfl ?_ ?_
            · exact hk1 _
            · refine sw_ald_8_0 (np := 59) dX9_drawn_58 rfl ?_
              refine sw_ild_8_3 (np := 60) dX9_drawn_59 rfl ?_
              refine sw_i2l (np := 61) dX9_drawn_60 rfl ?_
              refine sw_cV1i (np := 64) (hX9_isSword (d := d - 1) (by omega) ) sw_mv_X9_isSword sw_k_105 sw_wl_RX9_127 dX9_drawn_61 (sw_fit_rm (by omega) (by decide)) (Nat.le_of_ble_eq_true rfl) rfl (fun r9 S13 => ?_)
              refine sw_if_ne (np := 67) (tp := 69) dX9_drawn_64 rfl rfl ?_ ?_
              · exact hk1 _
              · refine sw_iconst (np := 68) dX9_drawn_67 sw_ic_m1 rfl ?_
                exact sw_iret dX9_drawn_68
/-- SwordAtticModel.keepsMind()V -/
def fX9_keepsMind (N : Nat)  (S : sw_St) : Option (Unit × sw_St) :=
  sw_fx1 (fun rec1 x1_1 S1 => (if x1_1 ≥ (S1.1 105 6) then (some ((), S1)) else (sw_gd (sw_in x1_1 10) (sw_gd (sw_in ((30 : Int32) + x1_1) 53) (sw_ls (sw_si S1 106 ((30 : Int32) + x1_1).toNatClampNeg (S1.1 114 x1_1.toNatClampNeg)) (fun S2 => (rec1 (x1_1 + (1 : Int32)) S2))))))) N (0 : Int32) S
theorem hX9_keepsMind {G : sw_G} {N d : Nat} (hd : 1 ≤ d)   {S : sw_St} : sw_Ev G yX9_keepsMind cX9_keepsMind 2 none d sw_ev [sw_vr G 105] S (fX9_keepsMind N  S) := by
  refine sw_Ev_of (own := RX9) (lv0 := [some (sw_vr G 105), none]) (by decide) rfl (Nat.le_of_ble_eq_true rfl) rfl ?_
  unfold fX9_keepsMind
  refine sw_iconst (np := 1) dX9_keepsMind_0 sw_ic_0 rfl ?_
  refine sw_ist_2_1 (np := 2) dX9_keepsMind_1 rfl rfl ?_
  refine sw_lp1 (lv := fun x1_1 => [some (sw_vr G 105), some (.int x1_1)]) (fun rec1 hrec1 x1_1 S1 => ?_) _ _ _
  refine sw_ild_2_1 (np := 3) dX9_keepsMind_2 rfl ?_
  refine sw_ald_2_0 (np := 4) dX9_keepsMind_3 rfl ?_
  refine sw_gI (np := 7) sw_f_RX9_95 sw_k_105 dX9_keepsMind_4 rfl ?_
  refine sw_icmp_ge (np := 10) (tp := 31) dX9_keepsMind_7 rfl rfl ?_ ?_
  · exact sw_vret dX9_keepsMind_31
  · refine sw_ald_2_0 (np := 11) dX9_keepsMind_10 rfl ?_
    refine sw_gR (np := 14) sw_f_RX9_9 sw_k_105 sw_r_105_0 dX9_keepsMind_11 rfl ?_
    refine sw_bipush (np := 16) dX9_keepsMind_14 sw_bc_30 rfl ?_
    refine sw_ild_2_1 (np := 17) dX9_keepsMind_16 rfl ?_
    refine sw_iadd (np := 18) dX9_keepsMind_17 rfl ?_
    refine sw_ald_2_0 (np := 19) dX9_keepsMind_18 rfl ?_
    refine sw_gR (np := 22) sw_f_RX9_34 sw_k_105 sw_r_105_18 dX9_keepsMind_19 rfl ?_
    refine sw_ild_2_1 (np := 23) dX9_keepsMind_22 rfl ?_
    refine sw_iald (np := 24) sw_k_114 sw_n_114 dX9_keepsMind_23 rfl ?_
    refine sw_sI (np := 25) sw_k_106 sw_n_106 dX9_keepsMind_24 rfl (fun S2 => ?_)
    refine sw_inc_2_1 (np := 28) dX9_keepsMind_25 sw_ic_1 rfl rfl ?_
    refine sw_goto (tp := 2) dX9_keepsMind_28 rfl ?_
    exact hrec1 _ _
