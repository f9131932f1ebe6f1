/-- SwordAttic.taken(II)I -/
def fX8_taken (N : Nat) (p1 : Int32) (p2 : Int32) (S : sw_St) : Option (Int32 × sw_St) :=
  sw_bd (fX8_isShelf N p1 S) (fun r1 S1 => (if r1 = 0 then (some ((-1 : Int32), S1)) else (sw_bd (fX8_within N p2 (0 : Int32) (7 : Int32) S1) (fun r2 S2 => (if r2 = 0 then (some ((-1 : Int32), S2)) else (sw_gd (sw_in p1 6) (sw_bd (fX5_holdsNothing N (93 + 2 * p1.toNatClampNeg) S2) (fun r3 S3 => (if r3 = 0 then (sw_bd (fX5_holdsBlade N (93 + 2 * p1.toNatClampNeg) S3) (fun r4 S4 => (if r4 = 0 then (some ((-12 : Int32), S4)) else (sw_bd (fX0_isUnder N (S4.1 (93 + 2 * p1.toNatClampNeg) 0) p2 S4) (fun r5 S5 => (if r5 = 0 then (some ((-12 : Int32), S5)) else (some ((S5.1 (93 + 2 * p1.toNatClampNeg) 0), S5)))))))) else (some ((-11 : Int32), S3)))))))))))
theorem hX8_taken {G : sw_G} {N d : Nat} (hd : 3 ≤ d) {p1 : Int32} {p2 : Int32}  {S : sw_St} : sw_Ev G yX8_taken cX8_taken 4 (some .int) d sw_ei [sw_vr G 0, .int p1, .int p2] S (fX8_taken N p1 p2 S) := by
  refine sw_Ev_of (own := RX8) (lv0 := [some (sw_vr G 0), some (.int p1), some (.int p2), none]) (by decide) rfl (Nat.le_of_ble_eq_true rfl) rfl ?_
  unfold fX8_taken
  refine sw_ild_4_1 (np := 1) dX8_taken_0 rfl ?_
  refine sw_cS1i (np := 4) (hX8_isShelf (d := d - 1) (by omega) ) sw_ms_X8_isShelf sw_wl_RX8_79 dX8_taken_1 (sw_fit_rm (by omega) (by decide)) (Nat.le_of_ble_eq_true rfl) rfl (fun r1 S1 => ?_)
  refine sw_if_eq (np := 7) (tp := 17) dX8_taken_4 rfl rfl ?_ ?_
  · refine sw_iconst (np := 18) dX8_taken_17 sw_ic_m1 rfl ?_
    exact sw_iret dX8_taken_18
  · refine sw_ild_4_2 (np := 8) dX8_taken_7 rfl ?_
    refine sw_iconst (np := 9) dX8_taken_8 sw_ic_0 rfl ?_
    refine sw_bipush (np := 11) dX8_taken_9 sw_bc_7 rfl ?_
    refine sw_cS3i (np := 14) (hX8_within (d := d - 1) (by omega) ) sw_ms_X8_within sw_wl_RX8_83 dX8_taken_11 (sw_fit_rm (by omega) (by decide)) (Nat.le_of_ble_eq_true rfl) rfl (fun r2 S2 => ?_)
    refine sw_if_ne (np := 17) (tp := 19) dX8_taken_14 rfl rfl ?_ ?_
    · refine sw_ald_4_0 (np := 20) dX8_taken_19 rfl ?_
      refine sw_gR (np := 23) sw_f_RX8_62 sw_k_0 sw_r_0_7 dX8_taken_20 rfl ?_
      refine sw_ild_4_1 (np := 24) dX8_taken_23 rfl ?_
      refine sw_aldS (np := 25) dX8_taken_24 rfl (fun hq1 => ?_)
      refine sw_ast_4_3 (np := 26) dX8_taken_25 rfl rfl ?_
      refine sw_ald_4_3 (np := 27) dX8_taken_26 rfl ?_
      refine sw_cV0i (np := 30) (hX5_holdsNothing (d := d - 1) (by omega) hq1) sw_mv_X5_holdsNothing hq1 sw_wl_RX8_86 dX8_taken_27 (sw_fit_rm (by omega) (by decide)) (Nat.le_of_ble_eq_true rfl) rfl (fun r3 S3 => ?_)
      refine sw_if_eq (np := 33) (tp := 36) dX8_taken_30 rfl rfl ?_ ?_
      · refine sw_ald_4_3 (np := 37) dX8_taken_36 rfl ?_
        refine sw_cV0i (np := 40) (hX5_holdsBlade (d := d - 1) (by omega) hq1) sw_mv_X5_holdsBlade hq1 sw_wl_RX8_361 dX8_taken_37 (sw_fit_rm (by omega) (by decide)) (Nat.le_of_ble_eq_true rfl) rfl (fun r4 S4 => ?_)
        refine sw_if_eq (np := 43) (tp := 61) dX8_taken_40 rfl rfl ?_ ?_
        · refine sw_bipush (np := 63) dX8_taken_61 sw_bc_m12 rfl ?_
          exact sw_iret dX8_taken_63
        · refine sw_ald_4_3 (np := 44) dX8_taken_43 rfl ?_
          refine sw_gI (np := 47) sw_f_RX8_364 hq1 dX8_taken_44 rfl ?_
          refine sw_ild_4_2 (np := 48) dX8_taken_47 rfl ?_
          refine sw_cS2i (np := 51) (hX0_isUnder (d := d - 1) (by omega) ) sw_ms_X0_isUnder sw_wl_RX8_367 dX8_taken_48 (sw_fit_rm (by omega) (by decide)) (Nat.le_of_ble_eq_true rfl) rfl (fun r5 S5 => ?_)
          refine sw_if_eq (np := 54) (tp := 61) dX8_taken_51 rfl rfl ?_ ?_
          · refine sw_bipush (np := 63) dX8_taken_61 sw_bc_m12 rfl ?_
            exact sw_iret dX8_taken_63
          · refine sw_ald_4_3 (np := 55) dX8_taken_54 rfl ?_
            refine sw_gI (np := 58) sw_f_RX8_364 hq1 dX8_taken_55 rfl ?_
            refine sw_goto (tp := 63) dX8_taken_58 rfl ?_
            exact sw_iret dX8_taken_63
      · refine sw_bipush (np := 35) dX8_taken_33 sw_bc_m11 rfl ?_
        exact sw_iret dX8_taken_35
    · refine sw_iconst (np := 18) dX8_taken_17 sw_ic_m1 rfl ?_
      exact sw_iret dX8_taken_18
/-- SwordAttic.count(I)I -/
def fX8_count (N : Nat) (p1 : Int32) (S : sw_St) : Option (Int32 × sw_St) :=
  if p1 = (0 : Int32) then (some ((S.1 1 0), S)) else (if p1 = (1 : Int32) then (sw_bd (fX4_howManyAwake N 1 S) (fun r1 S1 => (some (r1, S1)))) else (if p1 = (2 : Int32) then (some ((S.1 16 0), S)) else (if p1 = (3 : Int32) then (some ((S.1 79 1), S)) else (if p1 = (4 : Int32) then (some ((S.1 89 0), S)) else (if p1 = (5 : Int32) then (some ((S.1 89 1), S)) else (some ((-1 : Int32), S)))))))
theorem hX8_count {G : sw_G} {N d : Nat} (hd : 4 ≤ d) {p1 : Int32}  {S : sw_St} : sw_Ev G yX8_count cX8_count 2 (some .int) d sw_ei [sw_vr G 0, .int p1] S (fX8_count N p1 S) := by
  refine sw_Ev_of (own := RX8) (lv0 := [some (sw_vr G 0), some (.int p1)]) (by decide) rfl (Nat.le_of_ble_eq_true rfl) rfl ?_
  unfold fX8_count
  refine sw_ild_2_1 (np := 1) dX8_count_0 rfl ?_
  refine sw_ite (fun hs1 => ?_) (fun hs1 => ?_)
  · refine sw_tabIn (tp := 40) dX8_count_1 (by rw [hs1]; decide) (by rw [hs1]; decide) (by rw [hs1]; rfl) rfl ?_
    refine sw_ald_2_0 (np := 41) dX8_count_40 rfl ?_
    refine sw_gR (np := 44) sw_f_RX8_10 sw_k_0 sw_r_0_0 dX8_count_41 rfl ?_
    refine sw_gI (np := 47) sw_f_RX8_71 sw_k_1 dX8_count_44 rfl ?_
    exact sw_iret dX8_count_47
  · refine sw_ite (fun hs2 => ?_) (fun hs2 => ?_)
    · refine sw_tabIn (tp := 48) dX8_count_1 (by rw [hs2]; decide) (by rw [hs2]; decide) (by rw [hs2]; rfl) rfl ?_
      refine sw_ald_2_0 (np := 49) dX8_count_48 rfl ?_
      refine sw_gR (np := 52) sw_f_RX8_10 sw_k_0 sw_r_0_0 dX8_count_49 rfl ?_
      refine sw_cV0i (np := 55) (hX4_howManyAwake (d := d - 1) (by omega) sw_k_1) sw_mv_X4_howManyAwake sw_k_1 sw_wl_RX8_188 dX8_count_52 (sw_fit_rm (by omega) (by decide)) (Nat.le_of_ble_eq_true rfl) rfl (fun r1 S1 => ?_)
      exact sw_iret dX8_count_55
    · refine sw_ite (fun hs3 => ?_) (fun hs3 => ?_)
      · refine sw_tabIn (tp := 56) dX8_count_1 (by rw [hs3]; decide) (by rw [hs3]; decide) (by rw [hs3]; rfl) rfl ?_
        refine sw_ald_2_0 (np := 57) dX8_count_56 rfl ?_
        refine sw_gR (np := 60) sw_f_RX8_26 sw_k_0 sw_r_0_2 dX8_count_57 rfl ?_
        refine sw_gI (np := 63) sw_f_RX8_127 sw_k_16 dX8_count_60 rfl ?_
        exact sw_iret dX8_count_63
      · refine sw_ite (fun hs4 => ?_) (fun hs4 => ?_)
        · refine sw_tabIn (tp := 64) dX8_count_1 (by rw [hs4]; decide) (by rw [hs4]; decide) (by rw [hs4]; rfl) rfl ?_
          refine sw_ald_2_0 (np := 65) dX8_count_64 rfl ?_
          refine sw_gR (np := 68) sw_f_RX8_42 sw_k_0 sw_r_0_4 dX8_count_65 rfl ?_
          refine sw_gI (np := 71) sw_f_RX8_295 sw_k_79 dX8_count_68 rfl ?_
          exact sw_iret dX8_count_71
        · refine sw_ite (fun hs5 => ?_) (fun hs5 => ?_)
          · refine sw_tabIn (tp := 72) dX8_count_1 (by rw [hs5]; decide) (by rw [hs5]; decide) (by rw [hs5]; rfl) rfl ?_
            refine sw_ald_2_0 (np := 73) dX8_count_72 rfl ?_
            refine sw_gR (np := 76) sw_f_RX8_56 sw_k_0 sw_r_0_6 dX8_count_73 rfl ?_
            refine sw_gI (np := 79) sw_f_RX8_302 sw_k_89 dX8_count_76 rfl ?_
            exact sw_iret dX8_count_79
          · refine sw_ite (fun hs6 => ?_) (fun hs6 => ?_)
            · refine sw_tabIn (tp := 80) dX8_count_1 (by rw [hs6]; decide) (by rw [hs6]; decide) (by rw [hs6]; rfl) rfl ?_
              refine sw_ald_2_0 (np := 81) dX8_count_80 rfl ?_
              refine sw_gR (np := 84) sw_f_RX8_56 sw_k_0 sw_r_0_6 dX8_count_81 rfl ?_
              refine sw_gI (np := 87) sw_f_RX8_308 sw_k_89 dX8_count_84 rfl ?_
              exact sw_iret dX8_count_87
            · have hs1n := sw_neI sw_ic_0 (by decide) (by decide) hs1
              have hs2n := sw_neI sw_ic_1 (by decide) (by decide) hs2
              have hs3n := sw_neI sw_ic_2 (by decide) (by decide) hs3
              have hs4n := sw_neI sw_ic_3 (by decide) (by decide) hs4
              have hs5n := sw_neI sw_ic_4 (by decide) (by decide) hs5
              have hs6n := sw_neI sw_ic_5 (by decide) (by decide) hs6
              refine sw_tabOut (tp := 88) dX8_count_1 (by omega) rfl ?_
              refine sw_iconst (np := 89) dX8_count_88 sw_ic_m1 rfl ?_
              exact sw_iret dX8_count_89
/-- SwordAtticModel.within(JJJ)Z -/
def fX9_within (N : Nat) (p0 : Int64) (p2 : Int64) (p4 : Int64) (S : sw_St) : Option (Int32 × sw_St) :=
  if (lg_cmp p0 p2) < 0 then (some (vp_nar .boolean (0 : Int32), S)) else (if (lg_cmp p0 p4) > 0 then (some (vp_nar .boolean (0 : Int32), S)) else (some (vp_nar .boolean (1 : Int32), S)))
theorem hX9_within {G : sw_G} {N d : Nat} (hd : 1 ≤ d) {p0 : Int64} {p2 : Int64} {p4 : Int64}  {S : sw_St} : sw_Ev G yX9_within cX9_within 6 (some .boolean) d sw_ei [.long p0, .long p2, .long p4] S (fX9_within N p0 p2 p4 S) := by
  refine sw_Ev_of (own := RX9) (lv0 := [some (.long p0), none, some (.long p2), none, some (.long p4), none]) (by decide) rfl (Nat.le_of_ble_eq_true rfl) rfl ?_
  unfold fX9_within
  refine sw_lld_6_0 (np := 1) dX9_within_0 rfl ?_
  refine sw_lld_6_2 (np := 2) dX9_within_1 rfl ?_
  refine sw_lcmp (np := 3) dX9_within_2 rfl ?_
  refine sw_if_lt (np := 6) (tp := 17) dX9_within_3 rfl rfl ?_ ?_
  · refine sw_iconst (np := 18) dX9_within_17 sw_ic_0 rfl ?_
    exact sw_zret dX9_within_18
  · refine sw_lld_6_0 (np := 7) dX9_within_6 rfl ?_
    refine sw_lld_6_4 (np := 9) dX9_within_7 rfl ?_
    refine sw_lcmp (np := 10) dX9_within_9 rfl ?_
    refine sw_if_gt (np := 13) (tp := 17) dX9_within_10 rfl rfl ?_ ?_
    · refine sw_iconst (np := 18) dX9_within_17 sw_ic_0 rfl ?_
      exact sw_zret dX9_within_18
    · refine sw_iconst (np := 14) dX9_within_13 sw_ic_1 rfl ?_
      refine sw_goto (tp := 18) dX9_within_14 rfl ?_
      exact sw_zret dX9_within_18
/-- SwordAtticModel.isIn(II)Z -/
def fX9_isIn (N : Nat) (p0 : Int32) (p1 : Int32) (S : sw_St) : Option (Int32 × sw_St) :=
  if ((p0 >>> (p1 &&& 31)) &&& (1 : Int32)) = (1 : Int32) then (some (vp_nar .boolean (1 : Int32), S)) else (some (vp_nar .boolean (0 : Int32), S))
theorem hX9_isIn {G : sw_G} {N d : Nat} (hd : 1 ≤ d) {p0 : Int32} {p1 : Int32}  {S : sw_St} : sw_Ev G yX9_isIn cX9_isIn 2 (some .boolean) d sw_ei [.int p0, .int p1] S (fX9_isIn N p0 p1 S) := by
  refine sw_Ev_of (own := RX9) (lv0 := [some (.int p0), some (.int p1)]) (by decide) rfl (Nat.le_of_ble_eq_true rfl) rfl ?_
  unfold fX9_isIn
  refine sw_ild_2_0 (np := 1) dX9_isIn_0 rfl ?_
  refine sw_ild_2_1 (np := 2) dX9_isIn_1 rfl ?_
  refine sw_ishr (np := 3) dX9_isIn_2 rfl ?_
  refine sw_iconst (np := 4) dX9_isIn_3 sw_ic_1 rfl ?_
  refine sw_iand (np := 5) dX9_isIn_4 rfl ?_
  refine sw_iconst (np := 6) dX9_isIn_5 sw_ic_1 rfl ?_
  refine sw_icmp_ne (np := 9) (tp := 13) dX9_isIn_6 rfl rfl ?_ ?_
  · refine sw_iconst (np := 14) dX9_isIn_13 sw_ic_0 rfl ?_
    exact sw_zret dX9_isIn_14
  · refine sw_iconst (np := 10) dX9_isIn_9 sw_ic_1 rfl ?_
    refine sw_goto (tp := 14) dX9_isIn_10 rfl ?_
    exact sw_zret dX9_isIn_14
/-- SwordAtticModel.bitsOf(I)I -/
def fX9_bitsOf (N : Nat) (p0 : Int32) (S : sw_St) : Option (Int32 × sw_St) :=
  sw_fx2 (fun rec1 x1_1 x2_1 S1 => (if x2_1 ≥ (12 : Int32) then (some (x1_1, S1)) else (sw_li (x1_1 + ((p0 >>> (x2_1 &&& 31)) &&& (1 : Int32))) (fun x1_2 => (rec1 x1_2 (x2_1 + (1 : Int32)) S1))))) N (0 : Int32) (0 : Int32) S
theorem hX9_bitsOf {G : sw_G} {N d : Nat} (hd : 1 ≤ d) {p0 : Int32}  {S : sw_St} : sw_Ev G yX9_bitsOf cX9_bitsOf 3 (some .int) d sw_ei [.int p0] S (fX9_bitsOf N p0 S) := by
  refine sw_Ev_of (own := RX9) (lv0 := [some (.int p0), none, none]) (by decide) rfl (Nat.le_of_ble_eq_true rfl) rfl ?_
  unfold fX9_bitsOf
  refine sw_iconst (np := 1) dX9_bitsOf_0 sw_ic_0 rfl ?_
  refine sw_ist_3_1 (np := 2) dX9_bitsOf_1 rfl rfl ?_
  refine sw_iconst (np := 3) dX9_bitsOf_2 sw_ic_0 rfl ?_
  refine sw_ist_3_2 (np := 4) dX9_bitsOf_3 rfl rfl ?_
  refine sw_lp2 (lv := fun x1_1 x2_1 => [some (.int p0), some (.int x1_1), some (.int x2_1)]) (fun rec1 hrec1 x1_1 x2_1 S1 => ?_) _ _ _ _
  refine sw_ild_3_2 (np := 5) dX9_bitsOf_4 rfl ?_
  refine sw_bipush (np := 7) dX9_bitsOf_5 sw_bc_12 rfl ?_
  refine sw_icmp_ge (np := 10) (tp := 24) dX9_bitsOf_7 rfl rfl ?_ ?_
  · refine sw_ild_3_1 (np := 25) dX9_bitsOf_24 rfl ?_
    exact sw_iret dX9_bitsOf_25
  · refine sw_ild_3_1 (np := 11) dX9_bitsOf_10 rfl ?_
    refine sw_ild_3_0 (np := 12) dX9_bitsOf_11 rfl ?_
    refine sw_ild_3_2 (np := 13) dX9_bitsOf_12 rfl ?_
    refine sw_ishr (np := 14) dX9_bitsOf_13 rfl ?_
    refine sw_iconst (np := 15) dX9_bitsOf_14 sw_ic_1 rfl ?_
    refine sw_iand (np := 16) dX9_bitsOf_15 rfl ?_
    refine sw_iadd (np := 17) dX9_bitsOf_16 rfl ?_
    refine sw_isl_3_1 (np := 18) dX9_bitsOf_17 rfl rfl (fun x1_2 => ?_)
    refine sw_inc_3_2 (np := 21) dX9_bitsOf_18 sw_ic_1 rfl rfl ?_
    refine sw_goto (tp := 4) dX9_bitsOf_21 rfl ?_
    exact hrec1 _ _ _
/-- SwordAtticModel.sizeOf(I)I -/
def fX9_sizeOf (N : Nat) (p0 : Int32) (S : sw_St) : Option (Int32 × sw_St) :=
  if p0 ≥ 0 then (some (p0, S)) else (some ((-p0), S))
theorem hX9_sizeOf {G : sw_G} {N d : Nat} (hd : 1 ≤ d) {p0 : Int32}  {S : sw_St} : sw_Ev G yX9_sizeOf cX9_sizeOf 1 (some .int) d sw_ei [.int p0] S (fX9_sizeOf N p0 S) := by
  refine sw_Ev_of (own := RX9) (lv0 := [some (.int p0)]) (by decide) rfl (Nat.le_of_ble_eq_true rfl) rfl ?_
  unfold fX9_sizeOf
  refine sw_ild_1_0 (np := 1) dX9_sizeOf_0 rfl ?_
  refine sw_if_ge (np := 4) (tp := 9) dX9_sizeOf_1 rfl rfl ?_ ?_
  · refine sw_ild_1_0 (np := 10) dX9_sizeOf_9 rfl ?_
    exact sw_iret dX9_sizeOf_10
  · refine sw_ild_1_0 (np := 5) dX9_sizeOf_4 rfl ?_
    refine sw_ineg (np := 6) dX9_sizeOf_5 rfl ?_
    refine sw_goto (tp := 10) dX9_sizeOf_6 rfl ?_
    exact sw_iret dX9_sizeOf_10
/-- SwordAtticModel.becomes(II)I -/
def fX9_becomes (N : Nat) (p1 : Int32) (p2 : Int32) (S : sw_St) : Option (Int32 × sw_St) :=
  sw_gd (sw_in p1 53) (sw_li (S.1 106 p1.toNatClampNeg) (fun x3_1 => (if x3_1 = p2 then (some (x3_1, S)) else (sw_jn0 (fun S1 => (sw_gd (sw_in (S1.1 105 5) 40) (sw_ls (sw_si S1 107 (S1.1 105 5).toNatClampNeg p1) (fun S2 => (sw_gd (sw_in (S2.1 105 5) 40) (sw_ls (sw_si S2 108 (S2.1 105 5).toNatClampNeg x3_1) (fun S3 => (sw_gd (sw_in (S3.1 105 5) 40) (sw_ls (sw_si S3 109 (S3.1 105 5).toNatClampNeg p2) (fun S4 => (sw_ls (sw_si S4 105 5 ((S4.1 105 5) + (1 : Int32))) (fun S5 => (sw_ls (sw_si S5 105 4 (S5.1 105 5)) (fun S6 => (sw_gd (sw_in p1 53) (sw_ls (sw_si S6 106 p1.toNatClampNeg p2) (fun S7 => (some (x3_1, S7))))))))))))))))))) (fun k1 => (if (S.1 105 5) = (40 : Int32) then (sw_fx1 (fun rec1 x4_1 S8 => (if x4_1 ≥ (40 : Int32) then (sw_ls (sw_si S8 105 5 ((S8.1 105 5) - (1 : Int32))) (fun S9 => (k1 S9))) else (sw_gd (sw_in x4_1 40) (sw_gd (sw_in (x4_1 - (1 : Int32)) 40) (sw_ls (sw_si S8 107 (x4_1 - (1 : Int32)).toNatClampNeg (S8.1 107 x4_1.toNatClampNeg)) (fun S10 => (sw_gd (sw_in x4_1 40) (sw_gd (sw_in (x4_1 - (1 : Int32)) 40) (sw_ls (sw_si S10 108 (x4_1 - (1 : Int32)).toNatClampNeg (S10.1 108 x4_1.toNatClampNeg)) (fun S11 => (sw_gd (sw_in x4_1 40) (sw_gd (sw_in (x4_1 - (1 : Int32)) 40) (sw_ls (sw_si S11 109 (x4_1 - (1 : Int32)).toNatClampNeg (S11.1 109 x4_1.toNatClampNeg)) (fun S12 => (rec1 (x4_1 + (1 : Int32)) S12))))))))))))))) N (1 : Int32) S) else (k1 S)))))))
theorem hX9_becomes {G : sw_G} {N d : Nat} (hd : 1 ≤ d) {p1 : Int32} {p2 : Int32}  {S : sw_St} : sw_Ev G yX9_becomes cX9_becomes 5 (some .int) d sw_ei [sw_vr G 105, .int p1, .int p2] S (fX9_becomes N p1 p2 S) := by
  refine sw_Ev_of (own := RX9) (lv0 := [some (sw_vr G 105), some (.int p1), some (.int p2), none, none]) (by decide) rfl (Nat.le_of_ble_eq_true rfl) rfl ?_
  unfold fX9_becomes
  refine sw_ald_5_0 (np := 1) dX9_becomes_0 rfl ?_
  refine sw_gR (np := 4) sw_f_RX9_9 sw_k_105 sw_r_105_0 dX9_becomes_1 rfl ?_
  refine sw_ild_5_1 (np := 5) dX9_becomes_4 rfl ?_
  refine sw_iald (np := 6) sw_k_106 sw_n_106 dX9_becomes_5 rfl ?_
  refine sw_isl_5_3 (np := 7) dX9_becomes_6 rfl rfl (fun x3_1 => ?_)
  refine sw_ild_5_3 (np := 8) dX9_becomes_7 rfl ?_
  refine sw_ild_5_2 (np := 9) dX9_becomes_8 rfl ?_
  refine sw_icmp_ne (np := 12) (tp := 14) dX9_becomes_9 rfl rfl ?_ ?_
  · refine sw_ald_5_0 (np := 15) dX9_becomes_14 rfl ?_
    refine sw_gI (np := 18) sw_f_RX9_81 sw_k_105 dX9_becomes_15 rfl ?_
    refine sw_bipush (np := 20) dX9_becomes_18 sw_bc_40 rfl ?_
    refine sw_jm0 (pj := 97) ([some (sw_vr G 105), some (.int p1), some (.int p2), some (.int x3_1), none]) ([]) (fun S1 => ?_) (fun k1 hk1 => ?_)
    · refine sw_ald_5_0 (np := 98) dX9_becomes_97 rfl ?_
      refine sw_gR (np := 101) sw_f_RX9_13 sw_k_105 sw_r_105_1 dX9_becomes_98 rfl ?_
      refine sw_ald_5_0 (np := 102) dX9_becomes_101 rfl ?_
      refine sw_gI (np := 105) sw_f_RX9_81 sw_k_105 dX9_becomes_102 rfl ?_
      refine sw_ild_5_1 (np := 106) dX9_becomes_105 rfl ?_
      refine sw_sI (np := 107) sw_k_107 sw_n_107 dX9_becomes_106 rfl (fun S2 => ?_)
      refine sw_ald_5_0 (np := 108) dX9_becomes_107 rfl ?_
      refine sw_gR (np := 111) sw_f_RX9_16 sw_k_105 sw_r_105_2 dX9_becomes_108 rfl ?_
      refine sw_ald_5_0 (np := 112) dX9_becomes_111 rfl ?_
      refine sw_gI (np := 115) sw_f_RX9_81 sw_k_105 dX9_becomes_112 rfl ?_
      refine sw_ild_5_3 (np := 116) dX9_becomes_115 rfl ?_
      refine sw_sI (np := 117) sw_k_108 sw_n_108 dX9_becomes_116 rfl (fun S3 => ?_)
      refine sw_ald_5_0 (np := 118) dX9_becomes_117 rfl ?_
      refine sw_gR (np := 121) sw_f_RX9_19 sw_k_105 sw_r_105_3 dX9_becomes_118 rfl ?_
      refine sw_ald_5_0 (np := 122) dX9_becomes_121 rfl ?_
      refine sw_gI (np := 125) sw_f_RX9_81 sw_k_105 dX9_becomes_122 rfl ?_
      refine sw_ild_5_2 (np := 126) dX9_becomes_125 rfl ?_
      refine sw_sI (np := 127) sw_k_109 sw_n_109 dX9_becomes_126 rfl (fun S4 => ?_)
      refine sw_ald_5_0 (np := 128) dX9_becomes_127 rfl ?_
      refine sw_dup (np := 129) dX9_becomes_128 rfl rfl ?_
      refine sw_gI (np := 132) sw_f_RX9_81 sw_k_105 dX9_becomes_129 rfl ?_
      refine sw_iconst (np := 133) dX9_becomes_132 sw_ic_1 rfl ?_
      refine sw_iadd (np := 134) dX9_becomes_133 rfl ?_
      refine sw_pI (np := 137) sw_f_RX9_81 sw_fp_9_5 sw_k_105 dX9_becomes_134 rfl (fun S5 => ?_)
      refine sw_ald_5_0 (np := 138) dX9_becomes_137 rfl ?_
      refine sw_ald_5_0 (np := 139) dX9_becomes_138 rfl ?_
      refine sw_gI (np := 142) sw_f_RX9_81 sw_k_105 dX9_becomes_139 rfl ?_
      refine sw_pI (np := 145) sw_f_RX9_84 sw_fp_9_4 sw_k_105 dX9_becomes_142 rfl (fun S6 => ?_)
      refine sw_ald_5_0 (np := 146) dX9_becomes_145 rfl ?_
      refine sw_gR (np := 149) sw_f_RX9_9 sw_k_105 sw_r_105_0 dX9_becomes_146 rfl ?_
      refine sw_ild_5_1 (np := 150) dX9_becomes_149 rfl ?_
      refine sw_ild_5_2 (np := 151) dX9_becomes_150 rfl ?_
      refine sw_sI (np := 152) sw_k_106 sw_n_106 dX9_becomes_151 rfl (fun S7 => ?_)
      refine sw_ild_5_3 (np := 153) dX9_becomes_152 rfl ?_
      exact sw_iret dX9_becomes_153
    · refine sw_icmp_ne (np := 23) (tp := 97) dX9_becomes_20 rfl rfl ?_ ?_
      · exact hk1 _
      · refine sw_iconst (np := 24) dX9_becomes_23 sw_ic_1 rfl ?_
        refine sw_ist_5_4 (np := 26) dX9_becomes_24 rfl rfl ?_
        refine sw_lp1 (lv := fun x4_1 => [some (sw_vr G 105), some (.int p1), some (.int p2), some (.int x3_1), some (.int x4_1)]) (fun rec1 hrec1 x4_1 S8 => ?_) _ _ _
        refine sw_ild_5_4 (np := 28) dX9_becomes_26 rfl ?_
        refine sw_bipush (np := 30) dX9_becomes_28 sw_bc_40 rfl ?_
        refine sw_icmp_ge (np := 33) (tp := 87) dX9_becomes_30 rfl rfl ?_ ?_
        · refine sw_ald_5_0 (np := 88) dX9_becomes_87 rfl ?_
          refine sw_dup (np := 89) dX9_becomes_88 rfl rfl ?_
          refine sw_gI (np := 92) sw_f_RX9_81 sw_k_105 dX9_becomes_89 rfl ?_
          refine sw_iconst (np := 93) dX9_becomes_92 sw_ic_1 rfl ?_
          refine sw_isub (np := 94) dX9_becomes_93 rfl ?_
          refine sw_pI (np := 97) sw_f_RX9_81 sw_fp_9_5 sw_k_105 dX9_becomes_94 rfl (fun S9 => ?_)
          refine sw_dr_5_4 ?_
          exact hk1 _
        · refine sw_ald_5_0 (np := 34) dX9_becomes_33 rfl ?_
          refine sw_gR (np := 37) sw_f_RX9_13 sw_k_105 sw_r_105_1 dX9_becomes_34 rfl ?_
          refine sw_ild_5_4 (np := 39) dX9_becomes_37 rfl ?_
          refine sw_iconst (np := 40) dX9_becomes_39 sw_ic_1 rfl ?_
          refine sw_isub (np := 41) dX9_becomes_40 rfl ?_
          refine sw_ald_5_0 (np := 42) dX9_becomes_41 rfl ?_
          refine sw_gR (np := 45) sw_f_RX9_13 sw_k_105 sw_r_105_1 dX9_becomes_42 rfl ?_
          refine sw_ild_5_4 (np := 47) dX9_becomes_45 rfl ?_
          refine sw_iald (np := 48) sw_k_107 sw_n_107 dX9_becomes_47 rfl ?_
          refine sw_sI (np := 49) sw_k_107 sw_n_107 dX9_becomes_48 rfl (fun S10 => ?_)
          refine sw_ald_5_0 (np := 50) dX9_becomes_49 rfl ?_
          refine sw_gR (np := 53) sw_f_RX9_16 sw_k_105 sw_r_105_2 dX9_becomes_50 rfl ?_
          refine sw_ild_5_4 (np := 55) dX9_becomes_53 rfl ?_
          refine sw_iconst (np := 56) dX9_becomes_55 sw_ic_1 rfl ?_
          refine sw_isub (np := 57) dX9_becomes_56 rfl ?_
          refine sw_ald_5_0 (np := 58) dX9_becomes_57 rfl ?_
          refine sw_gR (np := 61) sw_f_RX9_16 sw_k_105 sw_r_105_2 dX9_becomes_58 rfl ?_
          refine sw_ild_5_4 (np := 63) dX9_becomes_61 rfl ?_
          refine sw_iald (np := 64) sw_k_108 sw_n_108 dX9_becomes_63 rfl ?_
          refine sw_sI (np := 65) sw_k_108 sw_n_108 dX9_becomes_64 rfl (fun S11 => ?_)
          refine sw_ald_5_0 (np := 66) dX9_becomes_65 rfl ?_
          refine sw_gR (np := 69) sw_f_RX9_19 sw_k_105 sw_r_105_3 dX9_becomes_66 rfl ?_
          refine sw_ild_5_4 (np := 71) dX9_becomes_69 rfl ?_
          refine sw_iconst (np := 72) dX9_becomes_71 sw_ic_1 rfl ?_
          refine sw_isub (np := 73) dX9_becomes_72 rfl ?_
          refine sw_ald_5_0 (np := 74) dX9_becomes_73 rfl ?_
          refine sw_gR (np := 77) sw_f_RX9_19 sw_k_105 sw_r_105_3 dX9_becomes_74 rfl ?_
          refine sw_ild_5_4 (np := 79) dX9_becomes_77 rfl ?_
          refine sw_iald (np := 80) sw_k_109 sw_n_109 dX9_becomes_79 rfl ?_
          refine sw_sI (np := 81) sw_k_109 sw_n_109 dX9_becomes_80 rfl (fun S12 => ?_)
          refine sw_inc_5_4 (np := 84) dX9_becomes_81 sw_ic_1 rfl rfl ?_
          refine sw_goto (tp := 26) dX9_becomes_84 rfl ?_
          exact hrec1 _ _
  · refine sw_ild_5_3 (np := 13) dX9_becomes_12 rfl ?_
    exact sw_iret dX9_becomes_13
/-- SwordAtticModel.inCot(I)I -/
def fX9_inCot (N : Nat) (p1 : Int32) (S : sw_St) : Option (Int32 × sw_St) :=
  sw_fx1 (fun rec1 x2_1 S1 => (if x2_1 ≥ (S1.1 105 6) then (some ((-1 : Int32), S1)) else (sw_gd (sw_in x2_1 53) (if (S1.1 106 x2_1.toNatClampNeg) = p1 then (some (x2_1, S1)) else (rec1 (x2_1 + (1 : Int32)) S1))))) N (0 : Int32) S
theorem hX9_inCot {G : sw_G} {N d : Nat} (hd : 1 ≤ d) {p1 : Int32}  {S : sw_St} : sw_Ev G yX9_inCot cX9_inCot 3 (some .int) d sw_ei [sw_vr G 105, .int p1] S (fX9_inCot N p1 S) := by
  refine sw_Ev_of (own := RX9) (lv0 := [some (sw_vr G 105), some (.int p1), none]) (by decide) rfl (Nat.le_of_ble_eq_true rfl) rfl ?_
  unfold fX9_inCot
  refine sw_iconst (np := 1) dX9_inCot_0 sw_ic_0 rfl ?_
  refine sw_ist_3_2 (np := 2) dX9_inCot_1 rfl rfl ?_
  refine sw_lp1 (lv := fun x2_1 => [some (sw_vr G 105), some (.int p1), some (.int x2_1)]) (fun rec1 hrec1 x2_1 S1 => ?_) _ _ _
  refine sw_ild_3_2 (np := 3) dX9_inCot_2 rfl ?_
  refine sw_ald_3_0 (np := 4) dX9_inCot_3 rfl ?_
  refine sw_gI (np := 7) sw_f_RX9_95 sw_k_105 dX9_inCot_4 rfl ?_
  refine sw_icmp_ge (np := 10) (tp := 28) dX9_inCot_7 rfl rfl ?_ ?_
  · refine sw_iconst (np := 29) dX9_inCot_28 sw_ic_m1 rfl ?_
    exact sw_iret dX9_inCot_29
  · refine sw_ald_3_0 (np := 11) dX9_inCot_10 rfl ?_
    refine sw_gR (np := 14) sw_f_RX9_9 sw_k_105 sw_r_105_0 dX9_inCot_11 rfl ?_
    refine sw_ild_3_2 (np := 15) dX9_inCot_14 rfl ?_
    refine sw_iald (np := 16) sw_k_106 sw_n_106 dX9_inCot_15 rfl ?_
    refine sw_ild_3_1 (np := 17) dX9_inCot_16 rfl ?_
    refine sw_icmp_ne (np := 20) (tp := 22) dX9_inCot_17 rfl rfl ?_ ?_
    · refine sw_inc_3_2 (np := 25) dX9_inCot_22 sw_ic_1 rfl rfl ?_
      refine sw_goto (tp := 2) dX9_inCot_25 rfl ?_
      exact hrec1 _ _
    · refine sw_ild_3_2 (np := 21) dX9_inCot_20 rfl ?_
      exact sw_iret dX9_inCot_21
/-- SwordAtticModel.turns(II)V -/
def fX9_turns (N : Nat) (p1 : Int32) (p2 : Int32) (S : sw_St) : Option (Unit × sw_St) :=
  if p1 ≥ (10 : Int32) then (sw_gd (sw_in p1 53) (sw_ls (sw_si S 106 p1.toNatClampNeg p2) (fun S1 => (some ((), S1))))) else (sw_bd (fX9_inCot N p2 S) (fun r1 S2 => (if r1 < 0 then (sw_gd (sw_in p1 53) (sw_ls (sw_si S2 106 p1.toNatClampNeg p2) (fun S3 => (some ((), S3))))) else (sw_bd (fX9_inCot N p2 S2) (fun r2 S4 => (if r2 = p1 then (sw_gd (sw_in p1 53) (sw_ls (sw_si S4 106 p1.toNatClampNeg p2) (fun S5 => (some ((), S5))))) else (some ((), S4))))))))
theorem hX9_turns {G : sw_G} {N d : Nat} (hd : 2 ≤ d) {p1 : Int32} {p2 : Int32}  {S : sw_St} : sw_Ev G yX9_turns cX9_turns 3 none d sw_ev [sw_vr G 105, .int p1, .int p2] S (fX9_turns N p1 p2 S) := by
  refine sw_Ev_of (own := RX9) (lv0 := [some (sw_vr G 105), some (.int p1), some (.int p2)]) (by decide) rfl (Nat.le_of_ble_eq_true rfl) rfl ?_
  unfold fX9_turns
  refine sw_ild_3_1 (np := 1) dX9_turns_0 rfl ?_
  refine sw_bipush (np := 3) dX9_turns_1 sw_bc_10 rfl ?_
  refine sw_icmp_ge (np := 6) (tp := 23) dX9_turns_3 rfl rfl ?_ ?_
  · refine sw_ald_3_0 (np := 24) dX9_turns_23 rfl ?_
    refine sw_gR (np := 27) sw_f_RX9_9 sw_k_105 sw_r_105_0 dX9_turns_24 rfl ?_
    refine sw_ild_3_1 (np := 28) dX9_turns_27 rfl ?_
    refine sw_ild_3_2 (np := 29) dX9_turns_28 rfl ?_
    refine sw_sI (np := 30) sw_k_106 sw_n_106 dX9_turns_29 rfl (fun S1 => ?_)
    exact sw_vret dX9_turns_30
  · refine sw_ald_3_0 (np := 7) dX9_turns_6 rfl ?_
    refine sw_ild_3_2 (np := 8) dX9_turns_7 rfl ?_
    refine sw_cV1i (np := 11) (hX9_inCot (d := d - 1) (by omega) ) sw_mv_X9_inCot sw_k_105 sw_wl_RX9_87 dX9_turns_8 (sw_fit_rm (by omega) (by decide)) (Nat.le_of_ble_eq_true rfl) rfl (fun r1 S2 => ?_)
    refine sw_if_lt (np := 14) (tp := 23) dX9_turns_11 rfl rfl ?_ ?_
    · refine sw_ald_3_0 (np := 24) dX9_turns_23 rfl ?_
      refine sw_gR (np := 27) sw_f_RX9_9 sw_k_105 sw_r_105_0 dX9_turns_24 rfl ?_
      refine sw_ild_3_1 (np := 28) dX9_turns_27 rfl ?_
      refine sw_ild_3_2 (np := 29) dX9_turns_28 rfl ?_
      refine sw_sI (np := 30) sw_k_106 sw_n_106 dX9_turns_29 rfl (fun S3 => ?_)
      exact sw_vret dX9_turns_30
    · refine sw_ald_3_0 (np := 15) dX9_turns_14 rfl ?_
      refine sw_ild_3_2 (np := 16) dX9_turns_15 rfl ?_
      refine sw_cV1i (np := 19) (hX9_inCot (d := d - 1) (by omega) ) sw_mv_X9_inCot sw_k_105 sw_wl_RX9_87 dX9_turns_16 (sw_fit_rm (by omega) (by decide)) (Nat.le_of_ble_eq_true rfl) rfl (fun r2 S4 => ?_)
      refine sw_ild_3_1 (np := 20) dX9_turns_19 rfl ?_
      refine sw_icmp_ne (np := 23) (tp := 30) dX9_turns_20 rfl rfl ?_ ?_
      · exact sw_vret dX9_turns_30
      · refine sw_ald_3_0 (np := 24) dX9_turns_23 rfl ?_
        refine sw_gR (np := 27) sw_f_RX9_9 sw_k_105 sw_r_105_0 dX9_turns_24 rfl ?_
        refine sw_ild_3_1 (np := 28) dX9_turns_27 rfl ?_
        refine sw_ild_3_2 (np := 29) dX9_turns_28 rfl ?_
        refine sw_sI (np := 30) sw_k_106 sw_n_106 dX9_turns_29 rfl (fun S5 => ?_)
        exact sw_vret dX9_turns_30
/-- SwordAtticModel.undo()I -/
def fX9_undo (N : Nat)  (S : sw_St) : Option (Int32 × sw_St) :=
  if (S.1 105 5) = 0 then (some ((-5 : Int32), S)) else (sw_ls (sw_si S 105 5 ((S.1 105 5) - (1 : Int32))) (fun S1 => (sw_gd (sw_in (S1.1 105 5) 40) (sw_gd (sw_in (S1.1 105 5) 40) (sw_bd (fX9_turns N (S1.1 107 (S1.1 105 5).toNatClampNeg) (S1.1 108 (S1.1 105 5).toNatClampNeg) S1) (fun _ S2 => (some ((S2.1 105 5), S2))))))))
theorem hX9_undo {G : sw_G} {N d : Nat} (hd : 3 ≤ d)   {S : sw_St} : sw_Ev G yX9_undo cX9_undo 1 (some .int) d sw_ei [sw_vr G 105] S (fX9_undo N  S) := by
  refine sw_Ev_of (own := RX9) (lv0 := [some (sw_vr G 105)]) (by decide) rfl (Nat.le_of_ble_eq_true rfl) rfl ?_
  unfold fX9_undo
  refine sw_ald_1_0 (np := 1) dX9_undo_0 rfl ?_
  refine sw_gI (np := 4) sw_f_RX9_81 sw_k_105 dX9_undo_1 rfl ?_
  refine sw_if_ne (np := 7) (tp := 10) dX9_undo_4 rfl rfl ?_ ?_
  · refine sw_ald_1_0 (np := 11) dX9_undo_10 rfl ?_
    refine sw_dup (np := 12) dX9_undo_11 rfl rfl ?_
    refine sw_gI (np := 15) sw_f_RX9_81 sw_k_105 dX9_undo_12 rfl ?_
    refine sw_iconst (np := 16) dX9_undo_15 sw_ic_1 rfl ?_
    refine sw_isub (np := 17) dX9_undo_16 rfl ?_
    refine sw_pI (np := 20) sw_f_RX9_81 sw_fp_9_5 sw_k_105 dX9_undo_17 rfl (fun S1 => ?_)
    refine sw_ald_1_0 (np := 21) dX9_undo_20 rfl ?_
    refine sw_ald_1_0 (np := 22) dX9_undo_21 rfl ?_
    refine sw_gR (np := 25) sw_f_RX9_13 sw_k_105 sw_r_105_1 dX9_undo_22 rfl ?_
    refine sw_ald_1_0 (np := 26) dX9_undo_25 rfl ?_
    refine sw_gI (np := 29) sw_f_RX9_81 sw_k_105 dX9_undo_26 rfl ?_
    refine sw_iald (np := 30) sw_k_107 sw_n_107 dX9_undo_29 rfl ?_
    refine sw_ald_1_0 (np := 31) dX9_undo_30 rfl ?_
    refine sw_gR (np := 34) sw_f_RX9_16 sw_k_105 sw_r_105_2 dX9_undo_31 rfl ?_
    refine sw_ald_1_0 (np := 35) dX9_undo_34 rfl ?_
    refine sw_gI (np := 38) sw_f_RX9_81 sw_k_105 dX9_undo_35 rfl ?_
    refine sw_iald (np := 39) sw_k_108 sw_n_108 dX9_undo_38 rfl ?_
    refine sw_cV2v (np := 42) (hX9_turns (d := d - 1) (by omega) ) sw_mv_X9_turns sw_k_105 sw_wl_RX9_91 dX9_undo_39 (sw_fit_rm (by omega) (by decide)) (Nat.le_of_ble_eq_true rfl) rfl (fun _ S2 => ?_)
    refine sw_ald_1_0 (np := 43) dX9_undo_42 rfl ?_
    refine sw_gI (np := 46) sw_f_RX9_81 sw_k_105 dX9_undo_43 rfl ?_
    exact sw_iret dX9_undo_46
  · refine sw_bipush (np := 9) dX9_undo_7 sw_bc_m5 rfl ?_
    exact sw_iret dX9_undo_9
/-- SwordAtticModel.redo()I -/
def fX9_redo (N : Nat)  (S : sw_St) : Option (Int32 × sw_St) :=
  if (S.1 105 5) = (S.1 105 4) then (some ((-5 : Int32), S)) else (sw_gd (sw_in (S.1 105 5) 40) (sw_gd (sw_in (S.1 105 5) 40) (sw_bd (fX9_turns N (S.1 107 (S.1 105 5).toNatClampNeg) (S.1 109 (S.1 105 5).toNatClampNeg) S) (fun _ S1 => (sw_ls (sw_si S1 105 5 ((S1.1 105 5) + (1 : Int32))) (fun S2 => (some (((S2.1 105 4) - (S2.1 105 5)), S2))))))))
theorem hX9_redo {G : sw_G} {N d : Nat} (hd : 3 ≤ d)   {S : sw_St} : sw_Ev G yX9_redo cX9_redo 1 (some .int) d sw_ei [sw_vr G 105] S (fX9_redo N  S) := by
  refine sw_Ev_of (own := RX9) (lv0 := [some (sw_vr G 105)]) (by decide) rfl (Nat.le_of_ble_eq_true rfl) rfl ?_
  unfold fX9_redo
  refine sw_ald_1_0 (np := 1) dX9_redo_0 rfl ?_
  refine sw_gI (np := 4) sw_f_RX9_81 sw_k_105 dX9_redo_1 rfl ?_
  refine sw_ald_1_0 (np := 5) dX9_redo_4 rfl ?_
  refine sw_gI (np := 8) sw_f_RX9_84 sw_k_105 dX9_redo_5 rfl ?_
  refine sw_icmp_ne (np := 11) (tp := 14) dX9_redo_8 rfl rfl ?_ ?_
  · refine sw_ald_1_0 (np := 15) dX9_redo_14 rfl ?_
    refine sw_ald_1_0 (np := 16) dX9_redo_15 rfl ?_
    refine sw_gR (np := 19) sw_f_RX9_13 sw_k_105 sw_r_105_1 dX9_redo_16 rfl ?_
    refine sw_ald_1_0 (np := 20) dX9_redo_19 rfl ?_
    refine sw_gI (np := 23) sw_f_RX9_81 sw_k_105 dX9_redo_20 rfl ?_
    refine sw_iald (np := 24) sw_k_107 sw_n_107 dX9_redo_23 rfl ?_
    refine sw_ald_1_0 (np := 25) dX9_redo_24 rfl ?_
    refine sw_gR (np := 28) sw_f_RX9_19 sw_k_105 sw_r_105_3 dX9_redo_25 rfl ?_
    refine sw_ald_1_0 (np := 29) dX9_redo_28 rfl ?_
    refine sw_gI (np := 32) sw_f_RX9_81 sw_k_105 dX9_redo_29 rfl ?_
    refine sw_iald (np := 33) sw_k_109 sw_n_109 dX9_redo_32 rfl ?_
    refine sw_cV2v (np := 36) (hX9_turns (d := d - 1) (by omega) ) sw_mv_X9_turns sw_k_105 sw_wl_RX9_91 dX9_redo_33 (sw_fit_rm (by omega) (by decide)) (Nat.le_of_ble_eq_true rfl) rfl (fun _ S1 => ?_)
    refine sw_ald_1_0 (np := 37) dX9_redo_36 rfl ?_
    refine sw_dup (np := 38) dX9_redo_37 rfl rfl ?_
    refine sw_gI (np := 41) sw_f_RX9_81 sw_k_105 dX9_redo_38 rfl ?_
    refine sw_iconst (np := 42) dX9_redo_41 sw_ic_1 rfl ?_
    refine sw_iadd (np := 43) dX9_redo_42 rfl ?_
    refine sw_pI (np := 46) sw_f_RX9_81 sw_fp_9_5 sw_k_105 dX9_redo_43 rfl (fun S2 => ?_)
    refine sw_ald_1_0 (np := 47) dX9_redo_46 rfl ?_
    refine sw_gI (np := 50) sw_f_RX9_84 sw_k_105 dX9_redo_47 rfl ?_
    refine sw_ald_1_0 (np := 51) dX9_redo_50 rfl ?_
    refine sw_gI (np := 54) sw_f_RX9_81 sw_k_105 dX9_redo_51 rfl ?_
    refine sw_isub (np := 55) dX9_redo_54 rfl ?_
    exact sw_iret dX9_redo_55
  · refine sw_bipush (np := 13) dX9_redo_11 sw_bc_m5 rfl ?_
    exact sw_iret dX9_redo_13
/-- SwordAtticModel.isSword(J)Z -/
def fX9_isSword (N : Nat) (p1 : Int64) (S : sw_St) : Option (Int32 × sw_St) :=
  sw_bd (fX9_within N p1 (0 : Int64) (((S.1 105 6) - (1 : Int32)).toInt64) S) (fun r1 S1 => (some (vp_nar .boolean r1, S1)))
theorem hX9_isSword {G : sw_G} {N d : Nat} (hd : 2 ≤ d) {p1 : Int64}  {S : sw_St} : sw_Ev G yX9_isSword cX9_isSword 3 (some .boolean) d sw_ei [sw_vr G 105, .long p1] S (fX9_isSword N p1 S) := by
  refine sw_Ev_of (own := RX9) (lv0 := [some (sw_vr G 105), some (.long p1), none]) (by decide) rfl (Nat.le_of_ble_eq_true rfl) rfl ?_
  unfold fX9_isSword
  refine sw_lld_3_1 (np := 1) dX9_isSword_0 rfl ?_
  refine sw_lconst (np := 2) dX9_isSword_1 sw_lc_0 rfl ?_
  refine sw_ald_3_0 (np := 3) dX9_isSword_2 rfl ?_
  refine sw_gI (np := 6) sw_f_RX9_95 sw_k_105 dX9_isSword_3 rfl ?_
  refine sw_iconst (np := 7) dX9_isSword_6 sw_ic_1 rfl ?_
  refine sw_isub (np := 8) dX9_isSword_7 rfl ?_
  refine sw_i2l (np := 9) dX9_isSword_8 rfl ?_
  refine sw_cS3i (np := 12) (hX9_within (d := d - 1) (by omega) ) sw_ms_X9_within sw_wl_RX9_98 dX9_isSword_9 (sw_fit_rm (by omega) (by decide)) (Nat.le_of_ble_eq_true rfl) rfl (fun r1 S1 => ?_)
  exact sw_zret dX9_isSword_12
/-- SwordAtticModel.isCot(J)Z -/
def fX9_isCot (N : Nat) (p0 : Int64) (S : sw_St) : Option (Int32 × sw_St) :=
  sw_bd (fX9_within N p0 (0 : Int64) (11 : Int64) S) (fun r1 S1 => (some (vp_nar .boolean r1, S1)))
theorem hX9_isCot {G : sw_G} {N d : Nat} (hd : 2 ≤ d) {p0 : Int64}  {S : sw_St} : sw_Ev G yX9_isCot cX9_isCot 2 (some .boolean) d sw_ei [.long p0] S (fX9_isCot N p0 S) := by
  refine sw_Ev_of (own := RX9) (lv0 := [some (.long p0), none]) (by decide) rfl (Nat.le_of_ble_eq_true rfl) rfl ?_
  unfold fX9_isCot
  refine sw_lld_2_0 (np := 1) dX9_isCot_0 rfl ?_
  refine sw_lconst (np := 2) dX9_isCot_1 sw_lc_0 rfl ?_
  refine sw_ldc2 (np := 5) sw_wc_RX9_102 dX9_isCot_2 rfl ?_
  refine sw_cS3i (np := 8) (hX9_within (d := d - 1) (by omega) ) sw_ms_X9_within sw_wl_RX9_98 dX9_isCot_5 (sw_fit_rm (by omega) (by decide)) (Nat.le_of_ble_eq_true rfl) rfl (fun r1 S1 => ?_)
  exact sw_zret dX9_isCot_8
/-- SwordAtticModel.mayCome(JJJ)Z -/
def fX9_mayCome (N : Nat) (p1 : Int64) (p3 : Int64) (p5 : Int64) (S : sw_St) : Option (Int32 × sw_St) :=
  sw_bd (fX9_isCot N p1 S) (fun r1 S1 => (if r1 = 0 then (some (vp_nar .boolean (0 : Int32), S1)) else (sw_bd (fX9_inCot N p1.toInt32 S1) (fun r2 S2 => (if r2 ≥ 0 then (some (vp_nar .boolean (0 : Int32), S2)) else (sw_bd (fX9_within N p3 (0 : Int64) (9 : Int64) S2) (fun r3 S3 => (if r3 = 0 then (some (vp_nar .boolean (0 : Int32), S3)) else (sw_bd (fX9_within N p5 (0 : Int64) (99 : Int64) S3) (fun r4 S4 => (if r4 = 0 then (some (vp_nar .boolean (0 : Int32), S4)) else (some (vp_nar .boolean (1 : Int32), S4)))))))))))))
theorem hX9_mayCome {G : sw_G} {N d : Nat} (hd : 3 ≤ d) {p1 : Int64} {p3 : Int64} {p5 : Int64}  {S : sw_St} : sw_Ev G yX9_mayCome cX9_mayCome 7 (some .boolean) d sw_ei [sw_vr G 105, .long p1, .long p3, .long p5] S (fX9_mayCome N p1 p3 p5 S) := by
  refine sw_Ev_of (own := RX9) (lv0 := [some (sw_vr G 105), some (.long p1), none, some (.long p3), none, some (.long p5), none]) (by decide) rfl (Nat.le_of_ble_eq_true rfl) rfl ?_
  unfold fX9_mayCome
  refine sw_lld_7_1 (np := 1) dX9_mayCome_0 rfl ?_
  refine sw_cS1i (np := 4) (hX9_isCot (d := d - 1) (by omega) ) sw_ms_X9_isCot sw_wl_RX9_104 dX9_mayCome_1 (sw_fit_rm (by omega) (by decide)) (Nat.le_of_ble_eq_true rfl) rfl (fun r1 S1 => ?_)
  refine sw_if_eq (np := 7) (tp := 43) dX9_mayCome_4 rfl rfl ?_ ?_
  · refine sw_iconst (np := 44) dX9_mayCome_43 sw_ic_0 rfl ?_
    exact sw_zret dX9_mayCome_44
  · refine sw_ald_7_0 (np := 8) dX9_mayCome_7 rfl ?_
    refine sw_lld_7_1 (np := 9) dX9_mayCome_8 rfl ?_
    refine sw_l2i (np := 10) dX9_mayCome_9 rfl ?_
    refine sw_cV1i (np := 13) (hX9_inCot (d := d - 1) (by omega) ) sw_mv_X9_inCot sw_k_105 sw_wl_RX9_87 dX9_mayCome_10 (sw_fit_rm (by omega) (by decide)) (Nat.le_of_ble_eq_true rfl) rfl (fun r2 S2 => ?_)
    refine sw_if_ge (np := 16) (tp := 43) dX9_mayCome_13 rfl rfl ?_ ?_
    · refine sw_iconst (np := 44) dX9_mayCome_43 sw_ic_0 rfl ?_
      exact sw_zret dX9_mayCome_44
    · refine sw_lld_7_3 (np := 17) dX9_mayCome_16 rfl ?_
      refine sw_lconst (np := 18) dX9_mayCome_17 sw_lc_0 rfl ?_
      refine sw_ldc2 (np := 21) sw_wc_RX9_108 dX9_mayCome_18 rfl ?_
      refine sw_cS3i (np := 24) (hX9_within (d := d - 1) (by omega) ) sw_ms_X9_within sw_wl_RX9_98 dX9_mayCome_21 (sw_fit_rm (by omega) (by decide)) (Nat.le_of_ble_eq_true rfl) rfl (fun r3 S3 => ?_)
      refine sw_if_eq (np := 27) (tp := 43) dX9_mayCome_24 rfl rfl ?_ ?_
      · refine sw_iconst (np := 44) dX9_mayCome_43 sw_ic_0 rfl ?_
        exact sw_zret dX9_mayCome_44
      · refine sw_lld_7_5 (np := 29) dX9_mayCome_27 rfl ?_
        refine sw_lconst (np := 30) dX9_mayCome_29 sw_lc_0 rfl ?_
        refine sw_ldc2 (np := 33) sw_wc_RX9_110 dX9_mayCome_30 rfl ?_
        refine sw_cS3i (np := 36) (hX9_within (d := d - 1) (by omega) ) sw_ms_X9_within sw_wl_RX9_98 dX9_mayCome_33 (sw_fit_rm (by omega) (by decide)) (Nat.le_of_ble_eq_true rfl) rfl (fun r4 S4 => ?_)
        refine sw_if_eq (np := 39) (tp := 43) dX9_mayCome_36 rfl rfl ?_ ?_
        · refine sw_iconst (np := 44) dX9_mayCome_43 sw_ic_0 rfl ?_
          exact sw_zret dX9_mayCome_44
        · refine sw_iconst (np := 40) dX9_mayCome_39 sw_ic_1 rfl ?_
          refine sw_goto (tp := 44) dX9_mayCome_40 rfl ?_
          exact sw_zret dX9_mayCome_44
/-- SwordAtticModel.adds(III)V -/
def fX9_adds (N : Nat) (p1 : Int32) (p2 : Int32) (p3 : Int32) (S : sw_St) : Option (Unit × sw_St) :=
  sw_gd (sw_in (S.1 105 6) 53) (sw_ls (sw_si S 106 (S.1 105 6).toNatClampNeg p1) (fun S1 => (sw_gd (sw_in ((10 : Int32) + (S1.1 105 6)) 53) (sw_ls (sw_si S1 106 ((10 : Int32) + (S1.1 105 6)).toNatClampNeg p2) (fun S2 => (sw_gd (sw_in ((20 : Int32) + (S2.1 105 6)) 53) (sw_ls (sw_si S2 106 ((20 : Int32) + (S2.1 105 6)).toNatClampNeg p3) (fun S3 => (sw_gd (sw_in ((30 : Int32) + (S3.1 105 6)) 53) (sw_ls (sw_si S3 106 ((30 : Int32) + (S3.1 105 6)).toNatClampNeg (20 : Int32)) (fun S4 => (sw_ls (sw_si S4 105 6 ((S4.1 105 6) + (1 : Int32))) (fun S5 => (some ((), S5)))))))))))))))
theorem hX9_adds {G : sw_G} {N d : Nat} (hd : 1 ≤ d) {p1 : Int32} {p2 : Int32} {p3 : Int32}  {S : sw_St} : sw_Ev G yX9_adds cX9_adds 4 none d sw_ev [sw_vr G 105, .int p1, .int p2, .int p3] S (fX9_adds N p1 p2 p3 S) := by
  refine sw_Ev_of (own := RX9) (lv0 := [some (sw_vr G 105), some (.int p1), some (.int p2), some (.int p3)]) (by decide) rfl (Nat.le_of_ble_eq_true rfl) rfl ?_
  unfold fX9_adds
  refine sw_ald_4_0 (np := 1) dX9_adds_0 rfl ?_
  refine sw_gR (np := 4) sw_f_RX9_9 sw_k_105 sw_r_105_0 dX9_adds_1 rfl ?_
  refine sw_ald_4_0 (np := 5) dX9_adds_4 rfl ?_
  refine sw_gI (np := 8) sw_f_RX9_95 sw_k_105 dX9_adds_5 rfl ?_
  refine sw_ild_4_1 (np := 9) dX9_adds_8 rfl ?_
  refine sw_sI (np := 10) sw_k_106 sw_n_106 dX9_adds_9 rfl (fun S1 => ?_)
  refine sw_ald_4_0 (np := 11) dX9_adds_10 rfl ?_
  refine sw_gR (np := 14) sw_f_RX9_9 sw_k_105 sw_r_105_0 dX9_adds_11 rfl ?_
  refine sw_bipush (np := 16) dX9_adds_14 sw_bc_10 rfl ?_
  refine sw_ald_4_0 (np := 17) dX9_adds_16 rfl ?_
  refine sw_gI (np := 20) sw_f_RX9_95 sw_k_105 dX9_adds_17 rfl ?_
  refine sw_iadd (np := 21) dX9_adds_20 rfl ?_
  refine sw_ild_4_2 (np := 22) dX9_adds_21 rfl ?_
  refine sw_sI (np := 23) sw_k_106 sw_n_106 dX9_adds_22 rfl (fun S2 => ?_)
  refine sw_ald_4_0 (np := 24) dX9_adds_23 rfl ?_
  refine sw_gR (np := 27) sw_f_RX9_9 sw_k_105 sw_r_105_0 dX9_adds_24 rfl ?_
  refine sw_bipush (np := 29) dX9_adds_27 sw_bc_20 rfl ?_
  refine sw_ald_4_0 (np := 30) dX9_adds_29 rfl ?_
  refine sw_gI (np := 33) sw_f_RX9_95 sw_k_105 dX9_adds_30 rfl ?_
  refine sw_iadd (np := 34) dX9_adds_33 rfl ?_
  refine sw_ild_4_3 (np := 35) dX9_adds_34 rfl ?_
  refine sw_sI (np := 36) sw_k_106 sw_n_106 dX9_adds_35 rfl (fun S3 => ?_)
  refine sw_ald_4_0 (np := 37) dX9_adds_36 rfl ?_
  refine sw_gR (np := 40) sw_f_RX9_9 sw_k_105 sw_r_105_0 dX9_adds_37 rfl ?_
  refine sw_bipush (np := 42) dX9_adds_40 sw_bc_30 rfl ?_
  refine sw_ald_4_0 (np := 43) dX9_adds_42 rfl ?_
  refine sw_gI (np := 46) sw_f_RX9_95 sw_k_105 dX9_adds_43 rfl ?_
  refine sw_iadd (np := 47) dX9_adds_46 rfl ?_
  refine sw_bipush (np := 49) dX9_adds_47 sw_bc_20 rfl ?_
  refine sw_sI (np := 50) sw_k_106 sw_n_106 dX9_adds_49 rfl (fun S4 => ?_)
  refine sw_ald_4_0 (np := 51) dX9_adds_50 rfl ?_
  refine sw_dup (np := 52) dX9_adds_51 rfl rfl ?_
  refine sw_gI (np := 55) sw_f_RX9_95 sw_k_105 dX9_adds_52 rfl ?_
  refine sw_iconst (np := 56) dX9_adds_55 sw_ic_1 rfl ?_
  refine sw_iadd (np := 57) dX9_adds_56 rfl ?_
  refine sw_pI (np := 60) sw_f_RX9_95 sw_fp_9_6 sw_k_105 dX9_adds_57 rfl (fun S5 => ?_)
  exact sw_vret dX9_adds_60
/-- SwordAtticModel.sword(II)I -/
def fX9_sword (N : Nat) (p1 : Int32) (p2 : Int32) (S : sw_St) : Option (Int32 × sw_St) :=
  sw_bd (fX9_mayCome N p1.toInt64 p2.toInt64 (0 : Int64) S) (fun r1 S1 => (if r1 = 0 then (some ((-1 : Int32), S1)) else (if (S1.1 105 6) = (10 : Int32) then (some ((-3 : Int32), S1)) else (sw_bd (fX9_adds N p1 p2 (50 : Int32) S1) (fun _ S2 => (some (((S2.1 105 6) - (1 : Int32)), S2)))))))
theorem hX9_sword {G : sw_G} {N d : Nat} (hd : 4 ≤ d) {p1 : Int32} {p2 : Int32}  {S : sw_St} : sw_Ev G yX9_sword cX9_sword 3 (some .int) d sw_ei [sw_vr G 105, .int p1, .int p2] S (fX9_sword N p1 p2 S) := by
  refine sw_Ev_of (own := RX9) (lv0 := [some (sw_vr G 105), some (.int p1), some (.int p2)]) (by decide) rfl (Nat.le_of_ble_eq_true rfl) rfl ?_
  unfold fX9_sword
  refine sw_ald_3_0 (np := 1) dX9_sword_0 rfl ?_
  refine sw_ild_3_1 (np := 2) dX9_sword_1 rfl ?_
  refine sw_i2l (np := 3) dX9_sword_2 rfl ?_
  refine sw_ild_3_2 (np := 4) dX9_sword_3 rfl ?_
  refine sw_i2l (np := 5) dX9_sword_4 rfl ?_
  refine sw_lconst (np := 6) dX9_sword_5 sw_lc_0 rfl ?_
  refine sw_cV3i (np := 9) (hX9_mayCome (d := d - 1) (by omega) ) sw_mv_X9_mayCome sw_k_105 sw_wl_RX9_112 dX9_sword_6 (sw_fit_rm (by omega) (by decide)) (Nat.le_of_ble_eq_true rfl) rfl (fun r1 S1 => ?_)
  refine sw_if_ne (np := 12) (tp := 14) dX9_sword_9 rfl rfl ?_ ?_
  · refine sw_ald_3_0 (np := 15) dX9_sword_14 rfl ?_
    refine sw_gI (np := 18) sw_f_RX9_95 sw_k_105 dX9_sword_15 rfl ?_
    refine sw_bipush (np := 20) dX9_sword_18 sw_bc_10 rfl ?_
    refine sw_icmp_ne (np := 23) (tp := 26) dX9_sword_20 rfl rfl ?_ ?_
    · refine sw_ald_3_0 (np := 27) dX9_sword_26 rfl ?_
      refine sw_ild_3_1 (np := 28) dX9_sword_27 rfl ?_
      refine sw_ild_3_2 (np := 29) dX9_sword_28 rfl ?_
      refine sw_bipush (np := 31) dX9_sword_29 sw_bc_50 rfl ?_
      refine sw_cV3v (np := 34) (hX9_adds (d := d - 1) (by omega) ) sw_mv_X9_adds sw_k_105 sw_wl_RX9_115 dX9_sword_31 (sw_fit_rm (by omega) (by decide)) (Nat.le_of_ble_eq_true rfl) rfl (fun _ S2 => ?_)
      refine sw_ald_3_0 (np := 35) dX9_sword_34 rfl ?_
      refine sw_gI (np := 38) sw_f_RX9_95 sw_k_105 dX9_sword_35 rfl ?_
      refine sw_iconst (np := 39) dX9_sword_38 sw_ic_1 rfl ?_
      refine sw_isub (np := 40) dX9_sword_39 rfl ?_
      exact sw_iret dX9_sword_40
    · refine sw_bipush (np := 25) dX9_sword_23 sw_bc_m3 rfl ?_
      exact sw_iret dX9_sword_25
  · refine sw_iconst (np := 13) dX9_sword_12 sw_ic_m1 rfl ?_
    exact sw_iret dX9_sword_13
/-- SwordAtticModel.isShelf(I)Z -/
def fX9_isShelf (N : Nat) (p0 : Int32) (S : sw_St) : Option (Int32 × sw_St) :=
  sw_bd (fX9_within N p0.toInt64 (0 : Int64) (5 : Int64) S) (fun r1 S1 => (some (vp_nar .boolean r1, S1)))
theorem hX9_isShelf {G : sw_G} {N d : Nat} (hd : 2 ≤ d) {p0 : Int32}  {S : sw_St} : sw_Ev G yX9_isShelf cX9_isShelf 1 (some .boolean) d sw_ei [.int p0] S (fX9_isShelf N p0 S) := by
  refine sw_Ev_of (own := RX9) (lv0 := [some (.int p0)]) (by decide) rfl (Nat.le_of_ble_eq_true rfl) rfl ?_
  unfold fX9_isShelf
  refine sw_ild_1_0 (np := 1) dX9_isShelf_0 rfl ?_
  refine sw_i2l (np := 2) dX9_isShelf_1 rfl ?_
  refine sw_lconst (np := 3) dX9_isShelf_2 sw_lc_0 rfl ?_
  refine sw_ldc2 (np := 6) sw_wc_RX9_130 dX9_isShelf_3 rfl ?_
  refine sw_cS3i (np := 9) (hX9_within (d := d - 1) (by omega) ) sw_ms_X9_within sw_wl_RX9_98 dX9_isShelf_6 (sw_fit_rm (by omega) (by decide)) (Nat.le_of_ble_eq_true rfl) rfl (fun r1 S1 => ?_)
  exact sw_zret dX9_isShelf_9
/-- SwordAtticModel.swords(III)I -/
def fX9_swords (N : Nat) (p1 : Int32) (p2 : Int32) (p3 : Int32) (S : sw_St) : Option (Int32 × sw_St) :=
  sw_bd (fX9_isShelf N p1 S) (fun r1 S1 => (if r1 = 0 then (some ((-1 : Int32), S1)) else (sw_bd (fX9_within N p3.toInt64 (1 : Int64) (10 : Int64) S1) (fun r2 S2 => (if r2 = 0 then (some ((-1 : Int32), S2)) else (sw_gd (sw_in p1 6) (if (S2.1 124 p1.toNatClampNeg) < 0 then (sw_gd (sw_in p1 6) (sw_jn1 (fun y1 S3 => (sw_fx2 (fun rec1 x4_1 x5_1 S4 => (if x5_1 = 0 then (some (x4_1, S4)) else (if x4_1 ≥ p3 then (some (x4_1, S4)) else (sw_gd (sw_in p1 6) (sw_jn1 (fun y2 S5 => (sw_li ((((60 : Int32) * p1) + p2) + ((3 : Int32) * x4_1)) (fun x6_1 => (sw_jn1 (fun y3 S6 => (if y3 = 0 then (rec1 x4_1 y3 S6) else (sw_gd (sw_in x6_1 360) (sw_gd (sw_in (x6_1 + (1 : Int32)) 360) (sw_gd (sw_in (x6_1 + (2 : Int32)) 360) (sw_bd (fX9_adds N ((S6.2 126 x6_1.toNatClampNeg).toInt32) ((S6.2 126 (x6_1 + (1 : Int32)).toNatClampNeg).toInt32) ((S6.2 126 (x6_1 + (2 : Int32)).toNatClampNeg).toInt32) S6) (fun _ S7 => (rec1 (x4_1 + (1 : Int32)) y3 S7)))))))) (fun k3 => (if y2 = 0 then (k3 (0 : Int32) S5) else (sw_gd (sw_in x6_1 360) (sw_gd (sw_in (x6_1 + (1 : Int32)) 360) (sw_gd (sw_in (x6_1 + (2 : Int32)) 360) (sw_bd (fX9_mayCome N (S5.2 126 x6_1.toNatClampNeg) (S5.2 126 (x6_1 + (1 : Int32)).toNatClampNeg) (S5.2 126 (x6_1 + (2 : Int32)).toNatClampNeg) S5) (fun r4 S8 => (if r4 = 0 then (k3 (0 : Int32) S8) else (k3 (1 : Int32) S8))))))))))))) (fun k2 => (if p2 > (((S4.1 125 p1.toNatClampNeg) - (3 : Int32)) - ((3 : Int32) * x4_1)) then (k2 (0 : Int32) S4) else (if (S4.1 105 6) ≥ (10 : Int32) then (k2 (0 : Int32) S4) else (k2 (1 : Int32) S4))))))))) N (0 : Int32) y1 S3)) (fun k1 => (if (S2.1 124 p1.toNatClampNeg) = (50 : Int32) then (if p2 < 0 then (k1 (0 : Int32) S2) else (k1 (1 : Int32) S2)) else (k1 (0 : Int32) S2))))) else (sw_gd (sw_in p1 6) (if (S2.1 124 p1.toNatClampNeg) = (50 : Int32) then (sw_gd (sw_in p1 6) (sw_jn1 (fun y4 S9 => (sw_fx2 (fun rec2 x4_2 x5_2 S10 => (if x5_2 = 0 then (some (x4_2, S10)) else (if x4_2 ≥ p3 then (some (x4_2, S10)) else (sw_gd (sw_in p1 6) (sw_jn1 (fun y5 S11 => (sw_li ((((60 : Int32) * p1) + p2) + ((3 : Int32) * x4_2)) (fun x6_2 => (sw_jn1 (fun y6 S12 => (if y6 = 0 then (rec2 x4_2 y6 S12) else (sw_gd (sw_in x6_2 360) (sw_gd (sw_in (x6_2 + (1 : Int32)) 360) (sw_gd (sw_in (x6_2 + (2 : Int32)) 360) (sw_bd (fX9_adds N ((S12.2 126 x6_2.toNatClampNeg).toInt32) ((S12.2 126 (x6_2 + (1 : Int32)).toNatClampNeg).toInt32) ((S12.2 126 (x6_2 + (2 : Int32)).toNatClampNeg).toInt32) S12) (fun _ S13 => (rec2 (x4_2 + (1 : Int32)) y6 S13)))))))) (fun k6 => (if y5 = 0 then (k6 (0 : Int32) S11) else (sw_gd (sw_in x6_2 360) (sw_gd (sw_in (x6_2 + (1 : Int32)) 360) (sw_gd (sw_in (x6_2 + (2 : Int32)) 360) (sw_bd (fX9_mayCome N (S11.2 126 x6_2.toNatClampNeg) (S11.2 126 (x6_2 + (1 : Int32)).toNatClampNeg) (S11.2 126 (x6_2 + (2 : Int32)).toNatClampNeg) S11) (fun r6 S14 => (if r6 = 0 then (k6 (0 : Int32) S14) else (k6 (1 : Int32) S14))))))))))))) (fun k5 => (if p2 > (((S10.1 125 p1.toNatClampNeg) - (3 : Int32)) - ((3 : Int32) * x4_2)) then (k5 (0 : Int32) S10) else (if (S10.1 105 6) ≥ (10 : Int32) then (k5 (0 : Int32) S10) else (k5 (1 : Int32) S10))))))))) N (0 : Int32) y4 S9)) (fun k4 => (if (S2.1 124 p1.toNatClampNeg) = (50 : Int32) then (if p2 < 0 then (k4 (0 : Int32) S2) else (k4 (1 : Int32) S2)) else (k4 (0 : Int32) S2))))) else (some ((-12 : Int32), S2)))))))))))
theorem hX9_swords {G : sw_G} {N d : Nat} (hd : 4 ≤ d) {p1 : Int32} {p2 : Int32} {p3 : Int32}  {S : sw_St} : sw_Ev G yX9_swords cX9_swords 7 (some .int) d sw_ei [sw_vr G 105, .int p1, .int p2, .int p3] S (fX9_swords N p1 p2 p3 S) := by
  refine sw_Ev_of (own := RX9) (lv0 := [some (sw_vr G 105), some (.int p1), some (.int p2), some (.int p3), none, none, none]) (by decide) rfl (Nat.le_of_ble_eq_true rfl) rfl ?_
  unfold fX9_swords
  refine sw_ild_7_1 (np := 1) dX9_swords_0 rfl ?_
  refine sw_cS1i (np := 4) (hX9_isShelf (d := d - 1) (by omega) ) sw_ms_X9_isShelf sw_wl_RX9_119 dX9_swords_1 (sw_fit_rm (by omega) (by decide)) (Nat.le_of_ble_eq_true rfl) rfl (fun r1 S1 => ?_)
  refine sw_if_eq (np := 7) (tp := 19) dX9_swords_4 rfl rfl ?_ ?_
  · refine sw_iconst (np := 20) dX9_swords_19 sw_ic_m1 rfl ?_
    exact sw_iret dX9_swords_20
  · refine sw_ild_7_3 (np := 8) dX9_swords_7 rfl ?_
    refine sw_i2l (np := 9) dX9_swords_8 rfl ?_
    refine sw_lconst (np := 10) dX9_swords_9 sw_lc_1 rfl ?_
    refine sw_ldc2 (np := 13) sw_wc_RX9_123 dX9_swords_10 rfl ?_
    refine sw_cS3i (np := 16) (hX9_within (d := d - 1) (by omega) ) sw_ms_X9_within sw_wl_RX9_98 dX9_swords_13 (sw_fit_rm (by omega) (by decide)) (Nat.le_of_ble_eq_true rfl) rfl (fun r2 S2 => ?_)
    refine sw_if_ne (np := 19) (tp := 21) dX9_swords_16 rfl rfl ?_ ?_
    · refine sw_ald_7_0 (np := 22) dX9_swords_21 rfl ?_
      refine sw_gR (np := 25) sw_f_RX9_64 sw_k_105 sw_r_105_38 dX9_swords_22 rfl ?_
      refine sw_ild_7_1 (np := 26) dX9_swords_25 rfl ?_
      refine sw_iald (np := 27) sw_k_124 sw_n_124 dX9_swords_26 rfl ?_
      refine sw_if_lt (np := 30) (tp := 44) dX9_swords_27 rfl rfl ?_ ?_
      · refine sw_iconst (np := 45) dX9_swords_44 sw_ic_0 rfl ?_
        refine sw_ist_7_4 (np := 47) dX9_swords_45 rfl rfl ?_
        refine sw_ald_7_0 (np := 48) dX9_swords_47 rfl ?_
        refine sw_gR (np := 51) sw_f_RX9_64 sw_k_105 sw_r_105_38 dX9_swords_48 rfl ?_
        refine sw_ild_7_1 (np := 52) dX9_swords_51 rfl ?_
        refine sw_iald (np := 53) sw_k_124 sw_n_124 dX9_swords_52 rfl ?_
        refine sw_bipush (np := 55) dX9_swords_53 sw_bc_50 rfl ?_
        refine sw_jm1 (pj := 67) (fun y1 => [some (sw_vr G 105), some (.int p1), some (.int p2), some (.int p3), some (.int (0 : Int32)), none, none]) (fun y1 => [.int y1]) (fun y1 S3 => ?_) (fun k1 hk1 => ?_)
        · refine sw_ist_7_5 (np := 69) dX9_swords_67 rfl rfl ?_
          refine sw_lp2 (lv := fun x4_1 x5_1 => [some (sw_vr G 105), some (.int p1), some (.int p2), some (.int p3), some (.int x4_1), some (.int x5_1), none]) (fun rec1 hrec1 x4_1 x5_1 S4 => ?_) _ _ _ _
          refine sw_ild_7_5 (np := 71) dX9_swords_69 rfl ?_
          refine sw_if_eq (np := 74) (tp := 213) dX9_swords_71 rfl rfl ?_ ?_
          · refine sw_ild_7_4 (np := 215) dX9_swords_213 rfl ?_
            exact sw_iret dX9_swords_215
          · refine sw_ild_7_4 (np := 76) dX9_swords_74 rfl ?_
            refine sw_ild_7_3 (np := 77) dX9_swords_76 rfl ?_
            refine sw_icmp_ge (np := 80) (tp := 213) dX9_swords_77 rfl rfl ?_ ?_
            · refine sw_ild_7_4 (np := 215) dX9_swords_213 rfl ?_
              exact sw_iret dX9_swords_215
            · refine sw_ild_7_2 (np := 81) dX9_swords_80 rfl ?_
              refine sw_ald_7_0 (np := 82) dX9_swords_81 rfl ?_
              refine sw_gR (np := 85) sw_f_RX9_67 sw_k_105 sw_r_105_39 dX9_swords_82 rfl ?_
              refine sw_ild_7_1 (np := 86) dX9_swords_85 rfl ?_
              refine sw_iald (np := 87) sw_k_125 sw_n_125 dX9_swords_86 rfl ?_
              refine sw_iconst (np := 88) dX9_swords_87 sw_ic_3 rfl ?_
              refine sw_isub (np := 89) dX9_swords_88 rfl ?_
              refine sw_iconst (np := 90) dX9_swords_89 sw_ic_3 rfl ?_
              refine sw_ild_7_4 (np := 92) dX9_swords_90 rfl ?_
              refine sw_imul (np := 93) dX9_swords_92 rfl ?_
              refine sw_isub (np := 94) dX9_swords_93 rfl ?_
              refine sw_jm1 (pj := 111) (fun y2 => [some (sw_vr G 105), some (.int p1), some (.int p2), some (.int p3), some (.int x4_1), none, none]) (fun y2 => [.int y2]) (fun y2 S5 => ?_) (fun k2 hk2 => ?_)
              · refine sw_ist_7_5 (np := 113) dX9_swords_111 rfl rfl ?_
                refine sw_bipush (np := 115) dX9_swords_113 sw_bc_60 rfl ?_
                refine sw_ild_7_1 (np := 116) dX9_swords_115 rfl ?_
                refine sw_imul (np := 117) dX9_swords_116 rfl ?_
                refine sw_ild_7_2 (np := 118) dX9_swords_117 rfl ?_
                refine sw_iadd (np := 119) dX9_swords_118 rfl ?_
                refine sw_iconst (np := 120) dX9_swords_119 sw_ic_3 rfl ?_
                refine sw_ild_7_4 (np := 122) dX9_swords_120 rfl ?_
                refine sw_imul (np := 123) dX9_swords_122 rfl ?_
                refine sw_iadd (np := 124) dX9_swords_123 rfl ?_
                refine sw_isl_7_6 (np := 126) dX9_swords_124 rfl rfl (fun x6_1 => ?_)
                refine sw_ild_7_5 (np := 128) dX9_swords_126 rfl ?_
                refine sw_jm1 (pj := 168) (fun y3 => [some (sw_vr G 105), some (.int p1), some (.int p2), some (.int p3), some (.int x4_1), none, some (.int x6_1)]) (fun y3 => [.int y3]) (fun y3 S6 => ?_) (fun k3 hk3 => ?_)
                · refine sw_ist_7_5 (np := 170) dX9_swords_168 rfl rfl ?_
                  refine sw_ild_7_5 (np := 172) dX9_swords_170 rfl ?_
                  refine sw_if_eq (np := 175) (tp := 210) dX9_swords_172 rfl rfl ?_ ?_
                  · refine sw_goto (tp := 69) dX9_swords_210 rfl ?_
                    refine sw_dr_7_6 ?_
                    exact hrec1 _ _ _
                  · refine sw_ald_7_0 (np := 176) dX9_swords_175 rfl ?_
                    refine sw_ald_7_0 (np := 177) dX9_swords_176 rfl ?_
                    refine sw_gR (np := 180) sw_f_RX9_70 sw_k_105 sw_r_105_40 dX9_swords_177 rfl ?_
                    refine sw_ild_7_6 (np := 182) dX9_swords_180 rfl ?_
                    refine sw_lald (np := 183) sw_k_126 sw_n_126 dX9_swords_182 rfl ?_
                    refine sw_l2i (np := 184) dX9_swords_183 rfl ?_
                    refine sw_ald_7_0 (np := 185) dX9_swords_184 rfl ?_
                    refine sw_gR (np := 188) sw_f_RX9_70 sw_k_105 sw_r_105_40 dX9_swords_185 rfl ?_
                    refine sw_ild_7_6 (np := 190) dX9_swords_188 rfl ?_
                    refine sw_iconst (np := 191) dX9_swords_190 sw_ic_1 rfl ?_
                    refine sw_iadd (np := 192) dX9_swords_191 rfl ?_
                    refine sw_lald (np := 193) sw_k_126 sw_n_126 dX9_swords_192 rfl ?_
                    refine sw_l2i (np := 194) dX9_swords_193 rfl ?_
                    refine sw_ald_7_0 (np := 195) dX9_swords_194 rfl ?_
                    refine sw_gR (np := 198) sw_f_RX9_70 sw_k_105 sw_r_105_40 dX9_swords_195 rfl ?_
                    refine sw_ild_7_6 (np := 200) dX9_swords_198 rfl ?_
                    refine sw_iconst (np := 201) dX9_swords_200 sw_ic_2 rfl ?_
                    refine sw_iadd (np := 202) dX9_swords_201 rfl ?_
                    refine sw_lald (np := 203) sw_k_126 sw_n_126 dX9_swords_202 rfl ?_
                    refine sw_l2i (np := 204) dX9_swords_203 rfl ?_
                    refine sw_cV3v (np := 207) (hX9_adds (d := d - 1) (by omega) ) sw_mv_X9_adds sw_k_105 sw_wl_RX9_115 dX9_swords_204 (sw_fit_rm (by omega) (by decide)) (Nat.le_of_ble_eq_true rfl) rfl (fun _ S7 => ?_)
                    refine sw_inc_7_4 (np := 210) dX9_swords_207 sw_ic_1 rfl rfl ?_
                    refine sw_goto (tp := 69) dX9_swords_210 rfl ?_
                    refine sw_dr_7_6 ?_
                    exact hrec1 _ _ _
                · refine sw_if_eq (np := 131) (tp := 167) dX9_swords_128 rfl rfl ?_ ?_
                  · refine sw_iconst (np := 168) dX9_swords_167 sw_ic_0 rfl ?_
                    refine sw_dr_7_5 ?_
                    exact hk3 _ _
                  · refine sw_ald_7_0 (np := 132) dX9_swords_131 rfl ?_
                    refine sw_ald_7_0 (np := 133) dX9_swords_132 rfl ?_
                    refine sw_gR (np := 136) sw_f_RX9_70 sw_k_105 sw_r_105_40 dX9_swords_133 rfl ?_
                    refine sw_ild_7_6 (np := 138) dX9_swords_136 rfl ?_
                    refine sw_lald (np := 139) sw_k_126 sw_n_126 dX9_swords_138 rfl ?_
                    refine sw_ald_7_0 (np := 140) dX9_swords_139 rfl ?_
                    refine sw_gR (np := 143) sw_f_RX9_70 sw_k_105 sw_r_105_40 dX9_swords_140 rfl ?_
                    refine sw_ild_7_6 (np := 145) dX9_swords_143 rfl ?_
                    refine sw_iconst (np := 146) dX9_swords_145 sw_ic_1 rfl ?_
                    refine sw_iadd (np := 147) dX9_swords_146 rfl ?_
                    refine sw_lald (np := 148) sw_k_126 sw_n_126 dX9_swords_147 rfl ?_
                    refine sw_ald_7_0 (np := 149) dX9_swords_148 rfl ?_
                    refine sw_gR (np := 152) sw_f_RX9_70 sw_k_105 sw_r_105_40 dX9_swords_149 rfl ?_
                    refine sw_ild_7_6 (np := 154) dX9_swords_152 rfl ?_
                    refine sw_iconst (np := 155) dX9_swords_154 sw_ic_2 rfl ?_
                    refine sw_iadd (np := 156) dX9_swords_155 rfl ?_
                    refine sw_lald (np := 157) sw_k_126 sw_n_126 dX9_swords_156 rfl ?_
                    refine sw_cV3i (np := 160) (hX9_mayCome (d := d - 1) (by omega) ) sw_mv_X9_mayCome sw_k_105 sw_wl_RX9_112 dX9_swords_157 (sw_fit_rm (by omega) (by decide)) (Nat.le_of_ble_eq_true rfl) rfl (fun r4 S8 => ?_)
                    refine sw_if_eq (np := 163) (tp := 167) dX9_swords_160 rfl rfl ?_ ?_
                    · refine sw_iconst (np := 168) dX9_swords_167 sw_ic_0 rfl ?_
                      refine sw_dr_7_5 ?_
                      exact hk3 _ _
                    · refine sw_iconst (np := 164) dX9_swords_163 sw_ic_1 rfl ?_
                      refine sw_goto (tp := 168) dX9_swords_164 rfl ?_
                      refine sw_dr_7_5 ?_
                      exact hk3 _ _
              · refine sw_icmp_gt (np := 97) (tp := 110) dX9_swords_94 rfl rfl ?_ ?_
                · refine sw_iconst (np := 111) dX9_swords_110 sw_ic_0 rfl ?_
                  refine sw_dr_7_5 ?_
                  exact hk2 _ _
                · refine sw_ald_7_0 (np := 98) dX9_swords_97 rfl ?_
                  refine sw_gI (np := 101) sw_f_RX9_95 sw_k_105 dX9_swords_98 rfl ?_
                  refine sw_bipush (np := 103) dX9_swords_101 sw_bc_10 rfl ?_
                  refine sw_icmp_ge (np := 106) (tp := 110) dX9_swords_103 rfl rfl ?_ ?_
                  · refine sw_iconst (np := 111) dX9_swords_110 sw_ic_0 rfl ?_
                    refine sw_dr_7_5 ?_
                    exact hk2 _ _
                  · refine sw_iconst (np := 107) dX9_swords_106 sw_ic_1 rfl ?_
                    refine sw_goto (tp := 111) dX9_swords_107 rfl ?_
                    refine sw_dr_7_5 ?_
                    exact hk2 _ _
        · refine sw_icmp_ne (np := 58) (tp := 66) dX9_swords_55 rfl rfl ?_ ?_
          · refine sw_iconst (np := 67) dX9_swords_66 sw_ic_0 rfl ?_
            exact hk1 _ _
          · refine sw_ild_7_2 (np := 59) dX9_swords_58 rfl ?_
            refine sw_if_lt (np := 62) (tp := 66) dX9_swords_59 rfl rfl ?_ ?_
            · refine sw_iconst (np := 67) dX9_swords_66 sw_ic_0 rfl ?_
              exact hk1 _ _
            · refine sw_iconst (np := 63) dX9_swords_62 sw_ic_1 rfl ?_
              refine sw_goto (tp := 67) dX9_swords_63 rfl ?_
              exact hk1 _ _
      · refine sw_ald_7_0 (np := 31) dX9_swords_30 rfl ?_
        refine sw_gR (np := 34) sw_f_RX9_64 sw_k_105 sw_r_105_38 dX9_swords_31 rfl ?_
        refine sw_ild_7_1 (np := 35) dX9_swords_34 rfl ?_
        refine sw_iald (np := 36) sw_k_124 sw_n_124 dX9_swords_35 rfl ?_
        refine sw_bipush (np := 38) dX9_swords_36 sw_bc_50 rfl ?_
        refine sw_icmp_eq (np := 41) (tp := 44) dX9_swords_38 rfl rfl ?_ ?_
        · refine sw_iconst (np := 45) dX9_swords_44 sw_ic_0 rfl ?_
          refine sw_ist_7_4 (np := 47) dX9_swords_45 rfl rfl ?_
          refine sw_ald_7_0 (np := 48) dX9_swords_47 rfl ?_
          refine sw_gR (np := 51) sw_f_RX9_64 sw_k_105 sw_r_105_38 dX9_swords_48 rfl ?_
          refine sw_ild_7_1 (np := 52) dX9_swords_51 rfl ?_
          refine sw_iald (np := 53) sw_k_124 sw_n_124 dX9_swords_52 rfl ?_
          refine sw_bipush (np := 55) dX9_swords_53 sw_bc_50 rfl ?_
          refine sw_jm1 (pj := 67) (fun y4 => [some (sw_vr G 105), some (.int p1), some (.int p2), some (.int p3), some (.int (0 : Int32)), none, none]) (fun y4 => [.int y4]) (fun y4 S9 => ?_) (fun k4 hk4 => ?_)
          · refine sw_ist_7_5 (np := 69) dX9_swords_67 rfl rfl ?_
            refine sw_lp2 (lv := fun x4_2 x5_2 => [some (sw_vr G 105), some (.int p1), some (.int p2), some (.int p3), some (.int x4_2), some (.int x5_2), none]) (fun rec2 hrec2 x4_2 x5_2 S10 => ?_) _ _ _ _
            refine sw_ild_7_5 (np := 71) dX9_swords_69 rfl ?_
            refine sw_if_eq (np := 74) (tp := 213) dX9_swords_71 rfl rfl ?_ ?_
            · refine sw_ild_7_4 (np := 215) dX9_swords_213 rfl ?_
              exact sw_iret dX9_swords_215
            · refine sw_ild_7_4 (np := 76) dX9_swords_74 rfl ?_
              refine sw_ild_7_3 (np := 77) dX9_swords_76 rfl ?_
              refine sw_icmp_ge (np := 80) (tp := 213) dX9_swords_77 rfl rfl ?_ ?_
              · refine sw_ild_7_4 (np := 215) dX9_swords_213 rfl ?_
                exact sw_iret dX9_swords_215
              · refine sw_ild_7_2 (np := 81) dX9_swords_80 rfl ?_
                refine sw_ald_7_0 (np := 82) dX9_swords_81 rfl ?_
                refine sw_gR (np := 85) sw_f_RX9_67 sw_k_105 sw_r_105_39 dX9_swords_82 rfl ?_
                refine sw_ild_7_1 (np := 86) dX9_swords_85 rfl ?_
                refine sw_iald (np := 87) sw_k_125 sw_n_125 dX9_swords_86 rfl ?_
                refine sw_iconst (np := 88) dX9_swords_87 sw_ic_3 rfl ?_
                refine sw_isub (np := 89) dX9_swords_88 rfl ?_
                refine sw_iconst (np := 90) dX9_swords_89 sw_ic_3 rfl ?_
                refine sw_ild_7_4 (np := 92) dX9_swords_90 rfl ?_
                refine sw_imul (np := 93) dX9_swords_92 rfl ?_
                refine sw_isub (np := 94) dX9_swords_93 rfl ?_
                refine sw_jm1 (pj := 111) (fun y5 => [some (sw_vr G 105), some (.int p1), some (.int p2), some (.int p3), some (.int x4_2), none, none]) (fun y5 => [.int y5]) (fun y5 S11 => ?_) (fun k5 hk5 => ?_)
                · refine sw_ist_7_5 (np := 113) dX9_swords_111 rfl rfl ?_
                  refine sw_bipush (np := 115) dX9_swords_113 sw_bc_60 rfl ?_
                  refine sw_ild_7_1 (np := 116) dX9_swords_115 rfl ?_
                  refine sw_imul (np := 117) dX9_swords_116 rfl ?_
                  refine sw_ild_7_2 (np := 118) dX9_swords_117 rfl ?_
                  refine sw_iadd (np := 119) dX9_swords_118 rfl ?_
                  refine sw_iconst (np := 120) dX9_swords_119 sw_ic_3 rfl ?_
                  refine sw_ild_7_4 (np := 122) dX9_swords_120 rfl ?_
                  refine sw_imul (np := 123) dX9_swords_122 rfl ?_
                  refine sw_iadd (np := 124) dX9_swords_123 rfl ?_
                  refine sw_isl_7_6 (np := 126) dX9_swords_124 rfl rfl (fun x6_2 => ?_)
                  refine sw_ild_7_5 (np := 128) dX9_swords_126 rfl ?_
                  refine sw_jm1 (pj := 168) (fun y6 => [some (sw_vr G 105), some (.int p1), some (.int p2), some (.int p3), some (.int x4_2), none, some (.int x6_2)]) (fun y6 => [.int y6]) (fun y6 S12 => ?_) (fun k6 hk6 => ?_)
                  · refine sw_ist_7_5 (np := 170) dX9_swords_168 rfl rfl ?_
                    refine sw_ild_7_5 (np := 172) dX9_swords_170 rfl ?_
                    refine sw_if_eq (np := 175) (tp := 210) dX9_swords_172 rfl rfl ?_ ?_
                    · refine sw_goto (tp := 69) dX9_swords_210 rfl ?_
                      refine sw_dr_7_6 ?_
                      exact hrec2 _ _ _
                    · refine sw_ald_7_0 (np := 176) dX9_swords_175 rfl ?_
                      refine sw_ald_7_0 (np := 177) dX9_swords_176 rfl ?_
                      refine sw_gR (np := 180) sw_f_RX9_70 sw_k_105 sw_r_105_40 dX9_swords_177 rfl ?_
                      refine sw_ild_7_6 (np := 182) dX9_swords_180 rfl ?_
                      refine sw_lald (np := 183) sw_k_126 sw_n_126 dX9_swords_182 rfl ?_
                      refine sw_l2i (np := 184) dX9_swords_183 rfl ?_
                      refine sw_ald_7_0 (np := 185) dX9_swords_184 rfl ?_
                      refine sw_gR (np := 188) sw_f_RX9_70 sw_k_105 sw_r_105_40 dX9_swords_185 rfl ?_
                      refine sw_ild_7_6 (np := 190) dX9_swords_188 rfl ?_
                      refine sw_iconst (np := 191) dX9_swords_190 sw_ic_1 rfl ?_
                      refine sw_iadd (np := 192) dX9_swords_191 rfl ?_
                      refine sw_lald (np := 193) sw_k_126 sw_n_126 dX9_swords_192 rfl ?_
                      refine sw_l2i (np := 194) dX9_swords_193 rfl ?_
                      refine sw_ald_7_0 (np := 195) dX9_swords_194 rfl ?_
                      refine sw_gR (np := 198) sw_f_RX9_70 sw_k_105 sw_r_105_40 dX9_swords_195 rfl ?_
                      refine sw_ild_7_6 (np := 200) dX9_swords_198 rfl ?_
                      refine sw_iconst (np := 201) dX9_swords_200 sw_ic_2 rfl ?_
                      refine sw_iadd (np := 202) dX9_swords_201 rfl ?_
                      refine sw_lald (np := 203) sw_k_126 sw_n_126 dX9_swords_202 rfl ?_
                      refine sw_l2i (np := 204) dX9_swords_203 rfl ?_
                      refine sw_cV3v (np := 207) (hX9_adds (d := d - 1) (by omega) ) sw_mv_X9_adds sw_k_105 sw_wl_RX9_115 dX9_swords_204 (sw_fit_rm (by omega) (by decide)) (Nat.le_of_ble_eq_true rfl) rfl (fun _ S13 => ?_)
                      refine sw_inc_7_4 (np := 210) dX9_swords_207 sw_ic_1 rfl rfl ?_
                      refine sw_goto (tp := 69) dX9_swords_210 rfl ?_
                      refine sw_dr_7_6 ?_
                      exact hrec2 _ _ _
                  · refine sw_if_eq (np := 131) (tp := 167) dX9_swords_128 rfl rfl ?_ ?_
                    · refine sw_iconst (np := 168) dX9_swords_167 sw_ic_0 rfl ?_
                      refine sw_dr_7_5 ?_
                      exact hk6 _ _
                    · refine sw_ald_7_0 (np := 132) dX9_swords_131 rfl ?_
                      refine sw_ald_7_0 (np := 133) dX9_swords_132 rfl ?_
                      refine sw_gR (np := 136) sw_f_RX9_70 sw_k_105 sw_r_105_40 dX9_swords_133 rfl ?_
                      refine sw_ild_7_6 (np := 138) dX9_swords_136 rfl ?_
                      refine sw_lald (np := 139) sw_k_126 sw_n_126 dX9_swords_138 rfl ?_
                      refine sw_ald_7_0 (np := 140) dX9_swords_139 rfl ?_
                      refine sw_gR (np := 143) sw_f_RX9_70 sw_k_105 sw_r_105_40 dX9_swords_140 rfl ?_
                      refine sw_ild_7_6 (np := 145) dX9_swords_143 rfl ?_
                      refine sw_iconst (np := 146) dX9_swords_145 sw_ic_1 rfl ?_
                      refine sw_iadd (np := 147) dX9_swords_146 rfl ?_
                      refine sw_lald (np := 148) sw_k_126 sw_n_126 dX9_swords_147 rfl ?_
                      refine sw_ald_7_0 (np := 149) dX9_swords_148 rfl ?_
                      refine sw_gR (np := 152) sw_f_RX9_70 sw_k_105 sw_r_105_40 dX9_swords_149 rfl ?_
                      refine sw_ild_7_6 (np := 154) dX9_swords_152 rfl ?_
                      refine sw_iconst (np := 155) dX9_swords_154 sw_ic_2 rfl ?_
                      refine sw_iadd (np := 156) dX9_swords_155 rfl ?_
                      refine sw_lald (np := 157) sw_k_126 sw_n_126 dX9_swords_156 rfl ?_
                      refine sw_cV3i (np := 160) (hX9_mayCome (d := d - 1) (by omega) ) sw_mv_X9_mayCome sw_k_105 sw_wl_RX9_112 dX9_swords_157 (sw_fit_rm (by omega) (by decide)) (Nat.le_of_ble_eq_true rfl) rfl (fun r6 S14 => ?_)
                      refine sw_if_eq (np := 163) (tp := 167) dX9_swords_160 rfl rfl ?_ ?_
                      · refine sw_iconst (np := 168) dX9_swords_167 sw_ic_0 rfl ?_
                        refine sw_dr_7_5 ?_
                        exact hk6 _ _
                      · refine sw_iconst (np := 164) dX9_swords_163 sw_ic_1 rfl ?_
                        refine sw_goto (tp := 168) dX9_swords_164 rfl ?_
                        refine sw_dr_7_5 ?_
                        exact hk6 _ _
                · refine sw_icmp_gt (np := 97) (tp := 110) dX9_swords_94 rfl rfl ?_ ?_
                  · refine sw_iconst (np := 111) dX9_swords_110 sw_ic_0 rfl ?_
                    refine sw_dr_7_5 ?_
                    exact hk5 _ _
                  · refine sw_ald_7_0 (np := 98) dX9_swords_97 rfl ?_
                    refine sw_gI (np := 101) sw_f_RX9_95 sw_k_105 dX9_swords_98 rfl ?_
                    refine sw_bipush (np := 103) dX9_swords_101 sw_bc_10 rfl ?_
                    refine sw_icmp_ge (np := 106) (tp := 110) dX9_swords_103 rfl rfl ?_ ?_
                    · refine sw_iconst (np := 111) dX9_swords_110 sw_ic_0 rfl ?_
                      refine sw_dr_7_5 ?_
                      exact hk5 _ _
                    · refine sw_iconst (np := 107) dX9_swords_106 sw_ic_1 rfl ?_
                      refine sw_goto (tp := 111) dX9_swords_107 rfl ?_
                      refine sw_dr_7_5 ?_
                      exact hk5 _ _
          · refine sw_icmp_ne (np := 58) (tp := 66) dX9_swords_55 rfl rfl ?_ ?_
            · refine sw_iconst (np := 67) dX9_swords_66 sw_ic_0 rfl ?_
              exact hk4 _ _
            · refine sw_ild_7_2 (np := 59) dX9_swords_58 rfl ?_
              refine sw_if_lt (np := 62) (tp := 66) dX9_swords_59 rfl rfl ?_ ?_
              · refine sw_iconst (np := 67) dX9_swords_66 sw_ic_0 rfl ?_
                exact hk4 _ _
              · refine sw_iconst (np := 63) dX9_swords_62 sw_ic_1 rfl ?_
                refine sw_goto (tp := 67) dX9_swords_63 rfl ?_
                exact hk4 _ _
        · refine sw_bipush (np := 43) dX9_swords_41 sw_bc_m12 rfl ?_
          exact sw_iret dX9_swords_43
    · refine sw_iconst (np := 20) dX9_swords_19 sw_ic_m1 rfl ?_
      exact sw_iret dX9_swords_20
/-- SwordAtticModel.placeOf(II)I -/
def fX9_placeOf (N : Nat) (p1 : Int32) (p2 : Int32) (S : sw_St) : Option (Int32 × sw_St) :=
  sw_bd (fX9_within N p2.toInt64 (0 : Int64) (4 : Int64) S) (fun r1 S1 => (if r1 = 0 then (if p1 = 0 then (sw_bd (fX9_within N p2.toInt64 (5 : Int64) (7 : Int64) S1) (fun r2 S2 => (if r2 = 0 then (some ((-1 : Int32), S2)) else (some ((((50 : Int32) + p2) - (5 : Int32)), S2))))) else (some ((-1 : Int32), S1))) else (sw_bd (fX9_isSword N p1.toInt64 S1) (fun r3 S3 => (if r3 = 0 then (some ((-1 : Int32), S3)) else (some ((((10 : Int32) * p2) + p1), S3)))))))
theorem hX9_placeOf {G : sw_G} {N d : Nat} (hd : 3 ≤ d) {p1 : Int32} {p2 : Int32}  {S : sw_St} : sw_Ev G yX9_placeOf cX9_placeOf 3 (some .int) d sw_ei [sw_vr G 105, .int p1, .int p2] S (fX9_placeOf N p1 p2 S) := by
  refine sw_Ev_of (own := RX9) (lv0 := [some (sw_vr G 105), some (.int p1), some (.int p2)]) (by decide) rfl (Nat.le_of_ble_eq_true rfl) rfl ?_
  unfold fX9_placeOf
  refine sw_ild_3_2 (np := 1) dX9_placeOf_0 rfl ?_
  refine sw_i2l (np := 2) dX9_placeOf_1 rfl ?_
  refine sw_lconst (np := 3) dX9_placeOf_2 sw_lc_0 rfl ?_
  refine sw_ldc2 (np := 6) sw_wc_RX9_125 dX9_placeOf_3 rfl ?_
  refine sw_cS3i (np := 9) (hX9_within (d := d - 1) (by omega) ) sw_ms_X9_within sw_wl_RX9_98 dX9_placeOf_6 (sw_fit_rm (by omega) (by decide)) (Nat.le_of_ble_eq_true rfl) rfl (fun r1 S1 => ?_)
  refine sw_if_eq (np := 12) (tp := 32) dX9_placeOf_9 rfl rfl ?_ ?_
  · refine sw_ild_3_1 (np := 33) dX9_placeOf_32 rfl ?_
    refine sw_if_ne (np := 36) (tp := 59) dX9_placeOf_33 rfl rfl ?_ ?_
    · refine sw_iconst (np := 60) dX9_placeOf_59 sw_ic_m1 rfl ?_
      exact sw_iret dX9_placeOf_60
    · refine sw_ild_3_2 (np := 37) dX9_placeOf_36 rfl ?_
      refine sw_i2l (np := 38) dX9_placeOf_37 rfl ?_
      refine sw_ldc2 (np := 41) sw_wc_RX9_130 dX9_placeOf_38 rfl ?_
      refine sw_ldc2 (np := 44) sw_wc_RX9_132 dX9_placeOf_41 rfl ?_
      refine sw_cS3i (np := 47) (hX9_within (d := d - 1) (by omega) ) sw_ms_X9_within sw_wl_RX9_98 dX9_placeOf_44 (sw_fit_rm (by omega) (by decide)) (Nat.le_of_ble_eq_true rfl) rfl (fun r2 S2 => ?_)
      refine sw_if_eq (np := 50) (tp := 59) dX9_placeOf_47 rfl rfl ?_ ?_
      · refine sw_iconst (np := 60) dX9_placeOf_59 sw_ic_m1 rfl ?_
        exact sw_iret dX9_placeOf_60
      · refine sw_bipush (np := 52) dX9_placeOf_50 sw_bc_50 rfl ?_
        refine sw_ild_3_2 (np := 53) dX9_placeOf_52 rfl ?_
        refine sw_iadd (np := 54) dX9_placeOf_53 rfl ?_
        refine sw_iconst (np := 55) dX9_placeOf_54 sw_ic_5 rfl ?_
        refine sw_isub (np := 56) dX9_placeOf_55 rfl ?_
        refine sw_goto (tp := 60) dX9_placeOf_56 rfl ?_
        exact sw_iret dX9_placeOf_60
  · refine sw_ald_3_0 (np := 13) dX9_placeOf_12 rfl ?_
    refine sw_ild_3_1 (np := 14) dX9_placeOf_13 rfl ?_
    refine sw_i2l (np := 15) dX9_placeOf_14 rfl ?_
    refine sw_cV1i (np := 18) (hX9_isSword (d := d - 1) (by omega) ) sw_mv_X9_isSword sw_k_105 sw_wl_RX9_127 dX9_placeOf_15 (sw_fit_rm (by omega) (by decide)) (Nat.le_of_ble_eq_true rfl) rfl (fun r3 S3 => ?_)
    refine sw_if_eq (np := 21) (tp := 30) dX9_placeOf_18 rfl rfl ?_ ?_
    · refine sw_iconst (np := 31) dX9_placeOf_30 sw_ic_m1 rfl ?_
      exact sw_iret dX9_placeOf_31
    · refine sw_bipush (np := 23) dX9_placeOf_21 sw_bc_10 rfl ?_
      refine sw_ild_3_2 (np := 24) dX9_placeOf_23 rfl ?_
      refine sw_imul (np := 25) dX9_placeOf_24 rfl ?_
      refine sw_ild_3_1 (np := 26) dX9_placeOf_25 rfl ?_
      refine sw_iadd (np := 27) dX9_placeOf_26 rfl ?_
      refine sw_goto (tp := 31) dX9_placeOf_27 rfl ?_
      exact sw_iret dX9_placeOf_31
/-- SwordAtticModel.mayBecome(III)Z -/
def fX9_mayBecome (N : Nat) (p1 : Int32) (p2 : Int32) (p3 : Int32) (S : sw_St) : Option (Int32 × sw_St) :=
  if p2 = (0 : Int32) then (sw_bd (fX9_isCot N p3.toInt64 S) (fun r1 S1 => (if r1 = 0 then (some (vp_nar .boolean (0 : Int32), S1)) else (sw_bd (fX9_inCot N p3 S1) (fun r2 S2 => (if r2 < 0 then (some (vp_nar .boolean (1 : Int32), S2)) else (sw_bd (fX9_inCot N p3 S2) (fun r3 S3 => (if r3 = p1 then (some (vp_nar .boolean (1 : Int32), S3)) else (some (vp_nar .boolean (0 : Int32), S3))))))))))) else (if p2 = (1 : Int32) then (sw_bd (fX9_within N p3.toInt64 (0 : Int64) (9 : Int64) S) (fun r4 S4 => (some (vp_nar .boolean r4, S4)))) else (if p2 = (2 : Int32) then (sw_bd (fX9_within N p3.toInt64 (0 : Int64) (99 : Int64) S) (fun r5 S5 => (some (vp_nar .boolean r5, S5)))) else (if p2 = (3 : Int32) then (sw_bd (fX9_within N p3.toInt64 (0 : Int64) (99 : Int64) S) (fun r6 S6 => (some (vp_nar .boolean r6, S6)))) else (if p2 = (4 : Int32) then (sw_bd (fX9_within N p3.toInt64 (0 : Int64) (1 : Int64) S) (fun r7 S7 => (some (vp_nar .boolean r7, S7)))) else (if p2 = (5 : Int32) then (sw_bd (fX9_within N p3.toInt64 (0 : Int64) (11 : Int64) S) (fun r8 S8 => (some (vp_nar .boolean r8, S8)))) else (if p2 = (6 : Int32) then (sw_bd (fX9_within N p3.toInt64 (0 : Int64) (50 : Int64) S) (fun r9 S9 => (some (vp_nar .boolean r9, S9)))) else (if p2 = (7 : Int32) then (sw_bd (fX9_isCot N p3.toInt64 S) (fun r10 S10 => (some (vp_nar .boolean r10, S10)))) else (sw_bd (fX9_within N p3.toInt64 (0 : Int64) (99 : Int64) S) (fun r11 S11 => (some (vp_nar .boolean r11, S11)))))))))))
theorem hX9_mayBecome {G : sw_G} {N d : Nat} (hd : 3 ≤ d) {p1 : Int32} {p2 : Int32} {p3 : Int32}  {S : sw_St} : sw_Ev G yX9_mayBecome cX9_mayBecome 4 (some .boolean) d sw_ei [sw_vr G 105, .int p1, .int p2, .int p3] S (fX9_mayBecome N p1 p2 p3 S) := by
  refine sw_Ev_of (own := RX9) (lv0 := [some (sw_vr G 105), some (.int p1), some (.int p2), some (.int p3)]) (by decide) rfl (Nat.le_of_ble_eq_true rfl) rfl ?_
  unfold fX9_mayBecome
  refine sw_ild_4_2 (np := 1) dX9_mayBecome_0 rfl ?_
  refine sw_ite (fun hs1 => ?_) (fun hs1 => ?_)
  · refine sw_tabIn (tp := 48) dX9_mayBecome_1 (by rw [hs1]; decide) (by rw [hs1]; decide) (by rw [hs1]; rfl) rfl ?_
    refine sw_ild_4_3 (np := 49) dX9_mayBecome_48 rfl ?_
    refine sw_i2l (np := 50) dX9_mayBecome_49 rfl ?_
    refine sw_cS1i (np := 53) (hX9_isCot (d := d - 1) (by omega) ) sw_ms_X9_isCot sw_wl_RX9_104 dX9_mayBecome_50 (sw_fit_rm (by omega) (by decide)) (Nat.le_of_ble_eq_true rfl) rfl (fun r1 S1 => ?_)
    refine sw_if_eq (np := 56) (tp := 77) dX9_mayBecome_53 rfl rfl ?_ ?_
    · refine sw_iconst (np := 78) dX9_mayBecome_77 sw_ic_0 rfl ?_
      exact sw_zret dX9_mayBecome_78
    · refine sw_ald_4_0 (np := 57) dX9_mayBecome_56 rfl ?_
      refine sw_ild_4_3 (np := 58) dX9_mayBecome_57 rfl ?_
      refine sw_cV1i (np := 61) (hX9_inCot (d := d - 1) (by omega) ) sw_mv_X9_inCot sw_k_105 sw_wl_RX9_87 dX9_mayBecome_58 (sw_fit_rm (by omega) (by decide)) (Nat.le_of_ble_eq_true rfl) rfl (fun r2 S2 => ?_)
      refine sw_if_lt (np := 64) (tp := 73) dX9_mayBecome_61 rfl rfl ?_ ?_
      · refine sw_iconst (np := 74) dX9_mayBecome_73 sw_ic_1 rfl ?_
        refine sw_goto (tp := 78) dX9_mayBecome_74 rfl ?_
        exact sw_zret dX9_mayBecome_78
      · refine sw_ald_4_0 (np := 65) dX9_mayBecome_64 rfl ?_
        refine sw_ild_4_3 (np := 66) dX9_mayBecome_65 rfl ?_
        refine sw_cV1i (np := 69) (hX9_inCot (d := d - 1) (by omega) ) sw_mv_X9_inCot sw_k_105 sw_wl_RX9_87 dX9_mayBecome_66 (sw_fit_rm (by omega) (by decide)) (Nat.le_of_ble_eq_true rfl) rfl (fun r3 S3 => ?_)
        refine sw_ild_4_1 (np := 70) dX9_mayBecome_69 rfl ?_
        refine sw_icmp_ne (np := 73) (tp := 77) dX9_mayBecome_70 rfl rfl ?_ ?_
        · refine sw_iconst (np := 78) dX9_mayBecome_77 sw_ic_0 rfl ?_
          exact sw_zret dX9_mayBecome_78
        · refine sw_iconst (np := 74) dX9_mayBecome_73 sw_ic_1 rfl ?_
          refine sw_goto (tp := 78) dX9_mayBecome_74 rfl ?_
          exact sw_zret dX9_mayBecome_78
  · refine sw_ite (fun hs2 => ?_) (fun hs2 => ?_)
    · refine sw_tabIn (tp := 79) dX9_mayBecome_1 (by rw [hs2]; decide) (by rw [hs2]; decide) (by rw [hs2]; rfl) rfl ?_
      refine sw_ild_4_3 (np := 80) dX9_mayBecome_79 rfl ?_
      refine sw_i2l (np := 81) dX9_mayBecome_80 rfl ?_
      refine sw_lconst (np := 82) dX9_mayBecome_81 sw_lc_0 rfl ?_
      refine sw_ldc2 (np := 85) sw_wc_RX9_108 dX9_mayBecome_82 rfl ?_
      refine sw_cS3i (np := 88) (hX9_within (d := d - 1) (by omega) ) sw_ms_X9_within sw_wl_RX9_98 dX9_mayBecome_85 (sw_fit_rm (by omega) (by decide)) (Nat.le_of_ble_eq_true rfl) rfl (fun r4 S4 => ?_)
      exact sw_zret dX9_mayBecome_88
    · refine sw_ite (fun hs3 => ?_) (fun hs3 => ?_)
      · refine sw_tabIn (tp := 123) dX9_mayBecome_1 (by rw [hs3]; decide) (by rw [hs3]; decide) (by rw [hs3]; rfl) rfl ?_
        refine sw_ild_4_3 (np := 124) dX9_mayBecome_123 rfl ?_
        refine sw_i2l (np := 125) dX9_mayBecome_124 rfl ?_
        refine sw_lconst (np := 126) dX9_mayBecome_125 sw_lc_0 rfl ?_
        refine sw_ldc2 (np := 129) sw_wc_RX9_110 dX9_mayBecome_126 rfl ?_
        refine sw_cS3i (np := 132) (hX9_within (d := d - 1) (by omega) ) sw_ms_X9_within sw_wl_RX9_98 dX9_mayBecome_129 (sw_fit_rm (by omega) (by decide)) (Nat.le_of_ble_eq_true rfl) rfl (fun r5 S5 => ?_)
        exact sw_zret dX9_mayBecome_132
      · refine sw_ite (fun hs4 => ?_) (fun hs4 => ?_)
        · refine sw_tabIn (tp := 123) dX9_mayBecome_1 (by rw [hs4]; decide) (by rw [hs4]; decide) (by rw [hs4]; rfl) rfl ?_
          refine sw_ild_4_3 (np := 124) dX9_mayBecome_123 rfl ?_
          refine sw_i2l (np := 125) dX9_mayBecome_124 rfl ?_
          refine sw_lconst (np := 126) dX9_mayBecome_125 sw_lc_0 rfl ?_
          refine sw_ldc2 (np := 129) sw_wc_RX9_110 dX9_mayBecome_126 rfl ?_
          refine sw_cS3i (np := 132) (hX9_within (d := d - 1) (by omega) ) sw_ms_X9_within sw_wl_RX9_98 dX9_mayBecome_129 (sw_fit_rm (by omega) (by decide)) (Nat.le_of_ble_eq_true rfl) rfl (fun r6 S6 => ?_)
          exact sw_zret dX9_mayBecome_132
        · refine sw_ite (fun hs5 => ?_) (fun hs5 => ?_)
          · refine sw_tabIn (tp := 89) dX9_mayBecome_1 (by rw [hs5]; decide) (by rw [hs5]; decide) (by rw [hs5]; rfl) rfl ?_
            refine sw_ild_4_3 (np := 90) dX9_mayBecome_89 rfl ?_
            refine sw_i2l (np := 91) dX9_mayBecome_90 rfl ?_
            refine sw_lconst (np := 92) dX9_mayBecome_91 sw_lc_0 rfl ?_
            refine sw_lconst (np := 93) dX9_mayBecome_92 sw_lc_1 rfl ?_
            refine sw_cS3i (np := 96) (hX9_within (d := d - 1) (by omega) ) sw_ms_X9_within sw_wl_RX9_98 dX9_mayBecome_93 (sw_fit_rm (by omega) (by decide)) (Nat.le_of_ble_eq_true rfl) rfl (fun r7 S7 => ?_)
            exact sw_zret dX9_mayBecome_96
          · refine sw_ite (fun hs6 => ?_) (fun hs6 => ?_)
            · refine sw_tabIn (tp := 97) dX9_mayBecome_1 (by rw [hs6]; decide) (by rw [hs6]; decide) (by rw [hs6]; rfl) rfl ?_
              refine sw_ild_4_3 (np := 98) dX9_mayBecome_97 rfl ?_
              refine sw_i2l (np := 99) dX9_mayBecome_98 rfl ?_
              refine sw_lconst (np := 100) dX9_mayBecome_99 sw_lc_0 rfl ?_
              refine sw_ldc2 (np := 103) sw_wc_RX9_102 dX9_mayBecome_100 rfl ?_
              refine sw_cS3i (np := 106) (hX9_within (d := d - 1) (by omega) ) sw_ms_X9_within sw_wl_RX9_98 dX9_mayBecome_103 (sw_fit_rm (by omega) (by decide)) (Nat.le_of_ble_eq_true rfl) rfl (fun r8 S8 => ?_)
              exact sw_zret dX9_mayBecome_106
            · refine sw_ite (fun hs7 => ?_) (fun hs7 => ?_)
              · refine sw_tabIn (tp := 107) dX9_mayBecome_1 (by rw [hs7]; decide) (by rw [hs7]; decide) (by rw [hs7]; rfl) rfl ?_
                refine sw_ild_4_3 (np := 108) dX9_mayBecome_107 rfl ?_
                refine sw_i2l (np := 109) dX9_mayBecome_108 rfl ?_
                refine sw_lconst (np := 110) dX9_mayBecome_109 sw_lc_0 rfl ?_
                refine sw_ldc2 (np := 113) sw_wc_RX9_134 dX9_mayBecome_110 rfl ?_
                refine sw_cS3i (np := 116) (hX9_within (d := d - 1) (by omega) ) sw_ms_X9_within sw_wl_RX9_98 dX9_mayBecome_113 (sw_fit_rm (by omega) (by decide)) (Nat.le_of_ble_eq_true rfl) rfl (fun r9 S9 => ?_)
                exact sw_zret dX9_mayBecome_116
              · refine sw_ite (fun hs8 => ?_) (fun hs8 => ?_)
                · refine sw_tabIn (tp := 117) dX9_mayBecome_1 (by rw [hs8]; decide) (by rw [hs8]; decide) (by rw [hs8]; rfl) rfl ?_
                  refine sw_ild_4_3 (np := 118) dX9_mayBecome_117 rfl ?_
                  refine sw_i2l (np := 119) dX9_mayBecome_118 rfl ?_
                  refine sw_cS1i (np := 122) (hX9_isCot (d := d - 1) (by omega) ) sw_ms_X9_isCot sw_wl_RX9_104 dX9_mayBecome_119 (sw_fit_rm (by omega) (by decide)) (Nat.le_of_ble_eq_true rfl) rfl (fun r10 S10 => ?_)
                  exact sw_zret dX9_mayBecome_122
                · have hs1n := sw_neI sw_ic_0 (by decide) (by decide) hs1
                  have hs2n := sw_neI sw_ic_1 (by decide) (by decide) hs2
                  have hs3n := sw_neI sw_ic_2 (by decide) (by decide) hs3
                  have hs4n := sw_neI sw_ic_3 (by decide) (by decide) hs4
                  have hs5n := sw_neI sw_ic_4 (by decide) (by decide) hs5
                  have hs6n := sw_neI sw_ic_5 (by decide) (by decide) hs6
                  have hs7n := sw_neI sw_ic_6 (by decide) (by decide) hs7
                  have hs8n := sw_neI sw_ic_7 (by decide) (by decide) hs8
                  refine sw_tabOut (tp := 123) dX9_mayBecome_1 (by omega) rfl ?_
                  refine sw_ild_4_3 (np := 124) dX9_mayBecome_123 rfl ?_
                  refine sw_i2l (np := 125) dX9_mayBecome_124 rfl ?_
                  refine sw_lconst (np := 126) dX9_mayBecome_125 sw_lc_0 rfl ?_
                  refine sw_ldc2 (np := 129) sw_wc_RX9_110 dX9_mayBecome_126 rfl ?_
                  refine sw_cS3i (np := 132) (hX9_within (d := d - 1) (by omega) ) sw_ms_X9_within sw_wl_RX9_98 dX9_mayBecome_129 (sw_fit_rm (by omega) (by decide)) (Nat.le_of_ble_eq_true rfl) rfl (fun r11 S11 => ?_)
                  exact sw_zret dX9_mayBecome_132
/-- SwordAtticModel.mend(III)I -/
def fX9_mend (N : Nat) (p1 : Int32) (p2 : Int32) (p3 : Int32) (S : sw_St) : Option (Int32 × sw_St) :=
  sw_bd (fX9_placeOf N p1 p2 S) (fun r1 S1 => (if r1 < 0 then (some ((-1 : Int32), S1)) else (sw_bd (fX9_mayBecome N p1 p2 p3 S1) (fun r2 S2 => (if r2 = 0 then (some ((-1 : Int32), S2)) else (sw_bd (fX9_becomes N r1 p3 S2) (fun r3 S3 => (some (r3, S3)))))))))
theorem hX9_mend {G : sw_G} {N d : Nat} (hd : 4 ≤ d) {p1 : Int32} {p2 : Int32} {p3 : Int32}  {S : sw_St} : sw_Ev G yX9_mend cX9_mend 5 (some .int) d sw_ei [sw_vr G 105, .int p1, .int p2, .int p3] S (fX9_mend N p1 p2 p3 S) := by
  refine sw_Ev_of (own := RX9) (lv0 := [some (sw_vr G 105), some (.int p1), some (.int p2), some (.int p3), none]) (by decide) rfl (Nat.le_of_ble_eq_true rfl) rfl ?_
  unfold fX9_mend
  refine sw_ald_5_0 (np := 1) dX9_mend_0 rfl ?_
  refine sw_ild_5_1 (np := 2) dX9_mend_1 rfl ?_
  refine sw_ild_5_2 (np := 3) dX9_mend_2 rfl ?_
  refine sw_cV2i (np := 6) (hX9_placeOf (d := d - 1) (by omega) ) sw_mv_X9_placeOf sw_k_105 sw_wl_RX9_136 dX9_mend_3 (sw_fit_rm (by omega) (by decide)) (Nat.le_of_ble_eq_true rfl) rfl (fun r1 S1 => ?_)
  refine sw_ist_5_4 (np := 8) dX9_mend_6 rfl rfl ?_
  refine sw_ild_5_4 (np := 10) dX9_mend_8 rfl ?_
  refine sw_if_lt (np := 13) (tp := 33) dX9_mend_10 rfl rfl ?_ ?_
  · refine sw_iconst (np := 34) dX9_mend_33 sw_ic_m1 rfl ?_
    exact sw_iret dX9_mend_34
  · refine sw_ald_5_0 (np := 14) dX9_mend_13 rfl ?_
    refine sw_ild_5_1 (np := 15) dX9_mend_14 rfl ?_
    refine sw_ild_5_2 (np := 16) dX9_mend_15 rfl ?_
    refine sw_ild_5_3 (np := 17) dX9_mend_16 rfl ?_
    refine sw_cV3i (np := 20) (hX9_mayBecome (d := d - 1) (by omega) ) sw_mv_X9_mayBecome sw_k_105 sw_wl_RX9_140 dX9_mend_17 (sw_fit_rm (by omega) (by decide)) (Nat.le_of_ble_eq_true rfl) rfl (fun r2 S2 => ?_)
    refine sw_if_eq (np := 23) (tp := 33) dX9_mend_20 rfl rfl ?_ ?_
    · refine sw_iconst (np := 34) dX9_mend_33 sw_ic_m1 rfl ?_
      exact sw_iret dX9_mend_34
    · refine sw_ald_5_0 (np := 24) dX9_mend_23 rfl ?_
      refine sw_ild_5_4 (np := 26) dX9_mend_24 rfl ?_
      refine sw_ild_5_3 (np := 27) dX9_mend_26 rfl ?_
      refine sw_cV2i (np := 30) (hX9_becomes (d := d - 1) (by omega) ) sw_mv_X9_becomes sw_k_105 sw_wl_RX9_144 dX9_mend_27 (sw_fit_rm (by omega) (by decide)) (Nat.le_of_ble_eq_true rfl) rfl (fun r3 S3 => ?_)
      refine sw_goto (tp := 34) dX9_mend_30 rfl ?_
      exact sw_iret dX9_mend_34
/-- SwordAtticModel.of(II)I -/
def fX9_of (N : Nat) (p1 : Int32) (p2 : Int32) (S : sw_St) : Option (Int32 × sw_St) :=
  sw_bd (fX9_placeOf N p1 p2 S) (fun r1 S1 => (if r1 < 0 then (if p2 = (8 : Int32) then (sw_bd (fX9_isCot N p1.toInt64 S1) (fun r2 S2 => (if r2 = 0 then (some ((-1 : Int32), S2)) else (sw_bd (fX9_inCot N p1 S2) (fun r3 S3 => (if r3 ≥ 0 then (sw_bd (fX9_inCot N p1 S3) (fun r4 S4 => (some (r4, S4)))) else (some ((-2 : Int32), S3)))))))) else (some ((-1 : Int32), S1))) else (sw_gd (sw_in r1 53) (some ((S1.1 106 r1.toNatClampNeg), S1)))))
theorem hX9_of {G : sw_G} {N d : Nat} (hd : 4 ≤ d) {p1 : Int32} {p2 : Int32}  {S : sw_St} : sw_Ev G yX9_of cX9_of 4 (some .int) d sw_ei [sw_vr G 105, .int p1, .int p2] S (fX9_of N p1 p2 S) := by
  refine sw_Ev_of (own := RX9) (lv0 := [some (sw_vr G 105), some (.int p1), some (.int p2), none]) (by decide) rfl (Nat.le_of_ble_eq_true rfl) rfl ?_
  unfold fX9_of
  refine sw_ald_4_0 (np := 1) dX9_of_0 rfl ?_
  refine sw_ild_4_1 (np := 2) dX9_of_1 rfl ?_
  refine sw_ild_4_2 (np := 3) dX9_of_2 rfl ?_
  refine sw_cV2i (np := 6) (hX9_placeOf (d := d - 1) (by omega) ) sw_mv_X9_placeOf sw_k_105 sw_wl_RX9_136 dX9_of_3 (sw_fit_rm (by omega) (by decide)) (Nat.le_of_ble_eq_true rfl) rfl (fun r1 S1 => ?_)
  refine sw_ist_4_3 (np := 7) dX9_of_6 rfl rfl ?_
  refine sw_ild_4_3 (np := 8) dX9_of_7 rfl ?_
  refine sw_if_lt (np := 11) (tp := 18) dX9_of_8 rfl rfl ?_ ?_
  · refine sw_ild_4_2 (np := 19) dX9_of_18 rfl ?_
    refine sw_bipush (np := 21) dX9_of_19 sw_bc_8 rfl ?_
    refine sw_icmp_ne (np := 24) (tp := 32) dX9_of_21 rfl rfl ?_ ?_
    · refine sw_iconst (np := 33) dX9_of_32 sw_ic_m1 rfl ?_
      refine sw_goto (tp := 54) dX9_of_33 rfl ?_
      exact sw_iret dX9_of_54
    · refine sw_ild_4_1 (np := 25) dX9_of_24 rfl ?_
      refine sw_i2l (np := 26) dX9_of_25 rfl ?_
      refine sw_cS1i (np := 29) (hX9_isCot (d := d - 1) (by omega) ) sw_ms_X9_isCot sw_wl_RX9_104 dX9_of_26 (sw_fit_rm (by omega) (by decide)) (Nat.le_of_ble_eq_true rfl) rfl (fun r2 S2 => ?_)
      refine sw_if_ne (np := 32) (tp := 36) dX9_of_29 rfl rfl ?_ ?_
      · refine sw_ald_4_0 (np := 37) dX9_of_36 rfl ?_
        refine sw_ild_4_1 (np := 38) dX9_of_37 rfl ?_
        refine sw_cV1i (np := 41) (hX9_inCot (d := d - 1) (by omega) ) sw_mv_X9_inCot sw_k_105 sw_wl_RX9_87 dX9_of_38 (sw_fit_rm (by omega) (by decide)) (Nat.le_of_ble_eq_true rfl) rfl (fun r3 S3 => ?_)
        refine sw_if_ge (np := 44) (tp := 49) dX9_of_41 rfl rfl ?_ ?_
        · refine sw_ald_4_0 (np := 50) dX9_of_49 rfl ?_
          refine sw_ild_4_1 (np := 51) dX9_of_50 rfl ?_
          refine sw_cV1i (np := 54) (hX9_inCot (d := d - 1) (by omega) ) sw_mv_X9_inCot sw_k_105 sw_wl_RX9_87 dX9_of_51 (sw_fit_rm (by omega) (by decide)) (Nat.le_of_ble_eq_true rfl) rfl (fun r4 S4 => ?_)
          exact sw_iret dX9_of_54
        · refine sw_bipush (np := 46) dX9_of_44 sw_bc_m2 rfl ?_
          refine sw_goto (tp := 54) dX9_of_46 rfl ?_
          exact sw_iret dX9_of_54
      · refine sw_iconst (np := 33) dX9_of_32 sw_ic_m1 rfl ?_
        refine sw_goto (tp := 54) dX9_of_33 rfl ?_
        exact sw_iret dX9_of_54
  · refine sw_ald_4_0 (np := 12) dX9_of_11 rfl ?_
    refine sw_gR (np := 15) sw_f_RX9_9 sw_k_105 sw_r_105_0 dX9_of_12 rfl ?_
    refine sw_ild_4_3 (np := 16) dX9_of_15 rfl ?_
    refine sw_iald (np := 17) sw_k_106 sw_n_106 dX9_of_16 rfl ?_
    exact sw_iret dX9_of_17
/-- SwordAtticModel.feed(I)I -/
def fX9_feed (N : Nat) (p1 : Int32) (S : sw_St) : Option (Int32 × sw_St) :=
  sw_bd (fX9_within N p1.toInt64 (0 : Int64) (255 : Int64) S) (fun r1 S1 => (if r1 = 0 then (some ((-1 : Int32), S1)) else (if (S1.1 105 8) = (120 : Int32) then (some ((-3 : Int32), S1)) else (sw_gd (sw_in (S1.1 105 8) 120) (sw_ls (sw_si S1 110 (S1.1 105 8).toNatClampNeg p1) (fun S2 => (sw_ls (sw_si S2 105 8 ((S2.1 105 8) + (1 : Int32))) (fun S3 => (some ((S3.1 105 8), S3))))))))))
theorem hX9_feed {G : sw_G} {N d : Nat} (hd : 2 ≤ d) {p1 : Int32}  {S : sw_St} : sw_Ev G yX9_feed cX9_feed 2 (some .int) d sw_ei [sw_vr G 105, .int p1] S (fX9_feed N p1 S) := by
  refine sw_Ev_of (own := RX9) (lv0 := [some (sw_vr G 105), some (.int p1)]) (by decide) rfl (Nat.le_of_ble_eq_true rfl) rfl ?_
  unfold fX9_feed
  refine sw_ild_2_1 (np := 1) dX9_feed_0 rfl ?_
  refine sw_i2l (np := 2) dX9_feed_1 rfl ?_
  refine sw_lconst (np := 3) dX9_feed_2 sw_lc_0 rfl ?_
  refine sw_ldc2 (np := 6) sw_wc_RX9_147 dX9_feed_3 rfl ?_
  refine sw_cS3i (np := 9) (hX9_within (d := d - 1) (by omega) ) sw_ms_X9_within sw_wl_RX9_98 dX9_feed_6 (sw_fit_rm (by omega) (by decide)) (Nat.le_of_ble_eq_true rfl) rfl (fun r1 S1 => ?_)
  refine sw_if_ne (np := 12) (tp := 14) dX9_feed_9 rfl rfl ?_ ?_
  · refine sw_ald_2_0 (np := 15) dX9_feed_14 rfl ?_
    refine sw_gI (np := 18) sw_f_RX9_149 sw_k_105 dX9_feed_15 rfl ?_
    refine sw_bipush (np := 20) dX9_feed_18 sw_bc_120 rfl ?_
    refine sw_icmp_ne (np := 23) (tp := 26) dX9_feed_20 rfl rfl ?_ ?_
    · refine sw_ald_2_0 (np := 27) dX9_feed_26 rfl ?_
      refine sw_gR (np := 30) sw_f_RX9_22 sw_k_105 sw_r_105_7 dX9_feed_27 rfl ?_
      refine sw_ald_2_0 (np := 31) dX9_feed_30 rfl ?_
      refine sw_gI (np := 34) sw_f_RX9_149 sw_k_105 dX9_feed_31 rfl ?_
      refine sw_ild_2_1 (np := 35) dX9_feed_34 rfl ?_
      refine sw_sI (np := 36) sw_k_110 sw_n_110 dX9_feed_35 rfl (fun S2 => ?_)
      refine sw_ald_2_0 (np := 37) dX9_feed_36 rfl ?_
      refine sw_dup (np := 38) dX9_feed_37 rfl rfl ?_
      refine sw_gI (np := 41) sw_f_RX9_149 sw_k_105 dX9_feed_38 rfl ?_
      refine sw_iconst (np := 42) dX9_feed_41 sw_ic_1 rfl ?_
      refine sw_iadd (np := 43) dX9_feed_42 rfl ?_
      refine sw_pI (np := 46) sw_f_RX9_149 sw_fp_9_8 sw_k_105 dX9_feed_43 rfl (fun S3 => ?_)
      refine sw_ald_2_0 (np := 47) dX9_feed_46 rfl ?_
      refine sw_gI (np := 50) sw_f_RX9_149 sw_k_105 dX9_feed_47 rfl ?_
      exact sw_iret dX9_feed_50
    · refine sw_bipush (np := 25) dX9_feed_23 sw_bc_m3 rfl ?_
      exact sw_iret dX9_feed_25
  · refine sw_iconst (np := 13) dX9_feed_12 sw_ic_m1 rfl ?_
    exact sw_iret dX9_feed_13
/-- SwordAtticModel.byteAt()I -/
def fX9_byteAt (N : Nat)  (S : sw_St) : Option (Int32 × sw_St) :=
  if (S.1 105 12) ≥ (S.1 105 13) then (some ((0 : Int32), S)) else (if (S.1 105 11) ≥ 0 then (sw_gd (sw_in ((S.1 105 11) + (S.1 105 12)) 120) (some ((S.1 111 ((S.1 105 11) + (S.1 105 12)).toNatClampNeg), S))) else (sw_gd (sw_in (S.1 105 12) 120) (some ((S.1 110 (S.1 105 12).toNatClampNeg), S))))
theorem hX9_byteAt {G : sw_G} {N d : Nat} (hd : 1 ≤ d)   {S : sw_St} : sw_Ev G yX9_byteAt cX9_byteAt 1 (some .int) d sw_ei [sw_vr G 105] S (fX9_byteAt N  S) := by
  refine sw_Ev_of (own := RX9) (lv0 := [some (sw_vr G 105)]) (by decide) rfl (Nat.le_of_ble_eq_true rfl) rfl ?_
  unfold fX9_byteAt
  refine sw_ald_1_0 (np := 1) dX9_byteAt_0 rfl ?_
  refine sw_gI (np := 4) sw_f_RX9_152 sw_k_105 dX9_byteAt_1 rfl ?_
  refine sw_ald_1_0 (np := 5) dX9_byteAt_4 rfl ?_
  refine sw_gI (np := 8) sw_f_RX9_155 sw_k_105 dX9_byteAt_5 rfl ?_
  refine sw_icmp_ge (np := 11) (tp := 47) dX9_byteAt_8 rfl rfl ?_ ?_
  · refine sw_iconst (np := 48) dX9_byteAt_47 sw_ic_0 rfl ?_
    exact sw_iret dX9_byteAt_48
  · refine sw_ald_1_0 (np := 12) dX9_byteAt_11 rfl ?_
    refine sw_gI (np := 15) sw_f_RX9_158 sw_k_105 dX9_byteAt_12 rfl ?_
    refine sw_if_ge (np := 18) (tp := 30) dX9_byteAt_15 rfl rfl ?_ ?_
    · refine sw_ald_1_0 (np := 31) dX9_byteAt_30 rfl ?_
      refine sw_gR (np := 34) sw_f_RX9_25 sw_k_105 sw_r_105_9 dX9_byteAt_31 rfl ?_
      refine sw_ald_1_0 (np := 35) dX9_byteAt_34 rfl ?_
      refine sw_gI (np := 38) sw_f_RX9_158 sw_k_105 dX9_byteAt_35 rfl ?_
      refine sw_ald_1_0 (np := 39) dX9_byteAt_38 rfl ?_
      refine sw_gI (np := 42) sw_f_RX9_152 sw_k_105 dX9_byteAt_39 rfl ?_
      refine sw_iadd (np := 43) dX9_byteAt_42 rfl ?_
      refine sw_iald (np := 44) sw_k_111 sw_n_111 dX9_byteAt_43 rfl ?_
      refine sw_goto (tp := 48) dX9_byteAt_44 rfl ?_
      exact sw_iret dX9_byteAt_48
    · refine sw_ald_1_0 (np := 19) dX9_byteAt_18 rfl ?_
      refine sw_gR (np := 22) sw_f_RX9_22 sw_k_105 sw_r_105_7 dX9_byteAt_19 rfl ?_
      refine sw_ald_1_0 (np := 23) dX9_byteAt_22 rfl ?_
      refine sw_gI (np := 26) sw_f_RX9_152 sw_k_105 dX9_byteAt_23 rfl ?_
      refine sw_iald (np := 27) sw_k_110 sw_n_110 dX9_byteAt_26 rfl ?_
      refine sw_goto (tp := 48) dX9_byteAt_27 rfl ?_
      exact sw_iret dX9_byteAt_48
/-- SwordAtticModel.wrong()I -/
def fX9_wrong (N : Nat)  (S : sw_St) : Option (Int32 × sw_St) :=
  if (S.1 105 14) ≥ 0 then (sw_ls (sw_si S 105 14 (S.1 105 14)) (fun S1 => (some ((0 : Int32), S1)))) else (sw_ls (sw_si S 105 14 (S.1 105 12)) (fun S2 => (some ((0 : Int32), S2))))
theorem hX9_wrong {G : sw_G} {N d : Nat} (hd : 1 ≤ d)   {S : sw_St} : sw_Ev G yX9_wrong cX9_wrong 1 (some .int) d sw_ei [sw_vr G 105] S (fX9_wrong N  S) := by
  refine sw_Ev_of (own := RX9) (lv0 := [some (sw_vr G 105)]) (by decide) rfl (Nat.le_of_ble_eq_true rfl) rfl ?_
  unfold fX9_wrong
  refine sw_ald_1_0 (np := 1) dX9_wrong_0 rfl ?_
  refine sw_ald_1_0 (np := 2) dX9_wrong_1 rfl ?_
  refine sw_gI (np := 5) sw_f_RX9_161 sw_k_105 dX9_wrong_2 rfl ?_
  refine sw_if_ge (np := 8) (tp := 15) dX9_wrong_5 rfl rfl ?_ ?_
  · refine sw_ald_1_0 (np := 16) dX9_wrong_15 rfl ?_
    refine sw_gI (np := 19) sw_f_RX9_161 sw_k_105 dX9_wrong_16 rfl ?_
    refine sw_pI (np := 22) sw_f_RX9_161 sw_fp_9_14 sw_k_105 dX9_wrong_19 rfl (fun S1 => ?_)
    refine sw_iconst (np := 23) dX9_wrong_22 sw_ic_0 rfl ?_
    exact sw_iret dX9_wrong_23
  · refine sw_ald_1_0 (np := 9) dX9_wrong_8 rfl ?_
    refine sw_gI (np := 12) sw_f_RX9_152 sw_k_105 dX9_wrong_9 rfl ?_
    refine sw_goto (tp := 19) dX9_wrong_12 rfl ?_
    refine sw_pI (np := 22) sw_f_RX9_161 sw_fp_9_14 sw_k_105 dX9_wrong_19 rfl (fun S2 => ?_)
    refine sw_iconst (np := 23) dX9_wrong_22 sw_ic_0 rfl ?_
    exact sw_iret dX9_wrong_23
/-- SwordAtticModel.takes(I)Z -/
def fX9_takes (N : Nat) (p1 : Int32) (S : sw_St) : Option (Int32 × sw_St) :=
  if (S.1 105 14) ≥ 0 then (some (vp_nar .boolean (0 : Int32), S)) else (sw_bd (fX9_byteAt N S) (fun r1 S1 => (if r1 = p1 then (sw_ls (sw_si S1 105 12 ((S1.1 105 12) + (1 : Int32))) (fun S2 => (some (vp_nar .boolean (1 : Int32), S2)))) else (some (vp_nar .boolean (0 : Int32), S1)))))
theorem hX9_takes {G : sw_G} {N d : Nat} (hd : 2 ≤ d) {p1 : Int32}  {S : sw_St} : sw_Ev G yX9_takes cX9_takes 2 (some .boolean) d sw_ei [sw_vr G 105, .int p1] S (fX9_takes N p1 S) := by
  refine sw_Ev_of (own := RX9) (lv0 := [some (sw_vr G 105), some (.int p1)]) (by decide) rfl (Nat.le_of_ble_eq_true rfl) rfl ?_
  unfold fX9_takes
  refine sw_ald_2_0 (np := 1) dX9_takes_0 rfl ?_
  refine sw_gI (np := 4) sw_f_RX9_161 sw_k_105 dX9_takes_1 rfl ?_
  refine sw_if_ge (np := 7) (tp := 15) dX9_takes_4 rfl rfl ?_ ?_
  · refine sw_iconst (np := 16) dX9_takes_15 sw_ic_0 rfl ?_
    exact sw_zret dX9_takes_16
  · refine sw_ald_2_0 (np := 8) dX9_takes_7 rfl ?_
    refine sw_cV0i (np := 11) (hX9_byteAt (d := d - 1) (by omega) ) sw_mv_X9_byteAt sw_k_105 sw_wl_RX9_164 dX9_takes_8 (sw_fit_rm (by omega) (by decide)) (Nat.le_of_ble_eq_true rfl) rfl (fun r1 S1 => ?_)
    refine sw_ild_2_1 (np := 12) dX9_takes_11 rfl ?_
    refine sw_icmp_eq (np := 15) (tp := 17) dX9_takes_12 rfl rfl ?_ ?_
    · refine sw_ald_2_0 (np := 18) dX9_takes_17 rfl ?_
      refine sw_dup (np := 19) dX9_takes_18 rfl rfl ?_
      refine sw_gI (np := 22) sw_f_RX9_152 sw_k_105 dX9_takes_19 rfl ?_
      refine sw_iconst (np := 23) dX9_takes_22 sw_ic_1 rfl ?_
      refine sw_iadd (np := 24) dX9_takes_23 rfl ?_
      refine sw_pI (np := 27) sw_f_RX9_152 sw_fp_9_12 sw_k_105 dX9_takes_24 rfl (fun S2 => ?_)
      refine sw_iconst (np := 28) dX9_takes_27 sw_ic_1 rfl ?_
      exact sw_zret dX9_takes_28
    · refine sw_iconst (np := 16) dX9_takes_15 sw_ic_0 rfl ?_
      exact sw_zret dX9_takes_16
/-- SwordAtticModel.nameOf(I)I -/
def fX9_nameOf (N : Nat) (p0 : Int32) (S : sw_St) : Option (Int32 × sw_St) :=
  if p0 = (98 : Int32) then (some ((3 : Int32), S)) else (if p0 = (99 : Int32) then (some ((4 : Int32), S)) else (if p0 = (100 : Int32) then (some ((0 : Int32), S)) else (if p0 = (109 : Int32) then (some ((2 : Int32), S)) else (if p0 = (116 : Int32) then (some ((5 : Int32), S)) else (if p0 = (121 : Int32) then (some ((1 : Int32), S)) else (some ((-1 : Int32), S)))))))
theorem hX9_nameOf {G : sw_G} {N d : Nat} (hd : 1 ≤ d) {p0 : Int32}  {S : sw_St} : sw_Ev G yX9_nameOf cX9_nameOf 1 (some .int) d sw_ei [.int p0] S (fX9_nameOf N p0 S) := by
  refine sw_Ev_of (own := RX9) (lv0 := [some (.int p0)]) (by decide) rfl (Nat.le_of_ble_eq_true rfl) rfl ?_
  unfold fX9_nameOf
  refine sw_ild_1_0 (np := 1) dX9_nameOf_0 rfl ?_
  refine sw_ite (fun hs1 => ?_) (fun hs1 => ?_)
  · refine sw_look (tp := 66) dX9_nameOf_1 (by decide) (by rw [hs1] <;> decide) rfl ?_
    refine sw_iconst (np := 67) dX9_nameOf_66 sw_ic_3 rfl ?_
    exact sw_iret dX9_nameOf_67
  · refine sw_ite (fun hs2 => ?_) (fun hs2 => ?_)
    · refine sw_look (tp := 68) dX9_nameOf_1 (by decide) (by rw [hs2] <;> decide) rfl ?_
      refine sw_iconst (np := 69) dX9_nameOf_68 sw_ic_4 rfl ?_
      exact sw_iret dX9_nameOf_69
    · refine sw_ite (fun hs3 => ?_) (fun hs3 => ?_)
      · refine sw_look (tp := 60) dX9_nameOf_1 (by decide) (by rw [hs3] <;> decide) rfl ?_
        refine sw_iconst (np := 61) dX9_nameOf_60 sw_ic_0 rfl ?_
        exact sw_iret dX9_nameOf_61
      · refine sw_ite (fun hs4 => ?_) (fun hs4 => ?_)
        · refine sw_look (tp := 64) dX9_nameOf_1 (by decide) (by rw [hs4] <;> decide) rfl ?_
          refine sw_iconst (np := 65) dX9_nameOf_64 sw_ic_2 rfl ?_
          exact sw_iret dX9_nameOf_65
        · refine sw_ite (fun hs5 => ?_) (fun hs5 => ?_)
          · refine sw_look (tp := 70) dX9_nameOf_1 (by decide) (by rw [hs5] <;> decide) rfl ?_
            refine sw_iconst (np := 71) dX9_nameOf_70 sw_ic_5 rfl ?_
            exact sw_iret dX9_nameOf_71
          · refine sw_ite (fun hs6 => ?_) (fun hs6 => ?_)
            · refine sw_look (tp := 62) dX9_nameOf_1 (by decide) (by rw [hs6] <;> decide) rfl ?_
              refine sw_iconst (np := 63) dX9_nameOf_62 sw_ic_1 rfl ?_
              exact sw_iret dX9_nameOf_63
            · refine sw_look (tp := 72) (off := 71) dX9_nameOf_1 (by decide) (by show Op.lookupswitch.offset [(98, 65), (99, 67), (100, 59), (109, 63), (116, 69), (121, 61)] 71 _ = _; rw [lv_osw hs1 (by decide), lv_osw hs2 (by decide), lv_osw hs3 (by decide), lv_osw hs4 (by decide), lv_osw hs5 (by decide), lv_osw hs6 (by decide)]; rfl) rfl ?_
              refine sw_iconst (np := 73) dX9_nameOf_72 sw_ic_m1 rfl ?_
              exact sw_iret dX9_nameOf_73
