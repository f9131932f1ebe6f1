/-- SwordAtticModel.becomes(II)I -/
def fX9_becomes (N : Nat) (p1 : Int32) (p2 : Int32) (S : sw_St) : Option (Int32 × sw_St) :=
  sw_gd (sw_in p1 53) (sw_li (S.1 106 p1.toNatClampNeg) (fun x3_1 => (if x3_1 = p2 then (some (x3_1, S)) else (sw_jn0 (fun S1 => (sw_gd (sw_in (S1.1 105 5) 40) (sw_ls (sw_si S1 107 (S1.1 105 5).toNatClampNeg p1) (fun S2 => (sw_gd (sw_in (S2.1 105 5) 40) (sw_ls (sw_si S2 108 (S2.1 105 5).toNatClampNeg x3_1) (fun S3 => (sw_gd (sw_in (S3.1 105 5) 40) (sw_ls (sw_si S3 109 (S3.1 105 5).toNatClampNeg p2) (fun S4 => (sw_ls (sw_si S4 105 5 ((S4.1 105 5) + (1 : Int32))) (fun S5 => (sw_ls (sw_si S5 105 4 (S5.1 105 5)) (fun S6 => (sw_gd (sw_in p1 53) (sw_ls (sw_si S6 106 p1.toNatClampNeg p2) (fun S7 => (some (x3_1, S7))))))))))))))))))) (fun k1 => (if (S.1 105 5) = (40 : Int32) then (sw_fx1 (fun rec1 x4_1 S8 => (if x4_1 ≥ (40 : Int32) then (sw_ls (sw_si S8 105 5 ((S8.1 105 5) - (1 : Int32))) (fun S9 => (k1 S9))) else (sw_gd (sw_in x4_1 40) (sw_gd (sw_in (x4_1 - (1 : Int32)) 40) (sw_ls (sw_si S8 107 (x4_1 - (1 : Int32)).toNatClampNeg (S8.1 107 x4_1.toNatClampNeg)) (fun S10 => (sw_gd (sw_in x4_1 40) (sw_gd (sw_in (x4_1 - (1 : Int32)) 40) (sw_ls (sw_si S10 108 (x4_1 - (1 : Int32)).toNatClampNeg (S10.1 108 x4_1.toNatClampNeg)) (fun S11 => (sw_gd (sw_in x4_1 40) (sw_gd (sw_in (x4_1 - (1 : Int32)) 40) (sw_ls (sw_si S11 109 (x4_1 - (1 : Int32)).toNatClampNeg (S11.1 109 x4_1.toNatClampNeg)) (fun S12 => (rec1 (x4_1 + (1 : Int32)) S12))))))))))))))) N (1 : Int32) S) else (k1 S)))))))
theorem hX9_becomes {G : sw_G} {N d : Nat} (hd : 1 ≤ d) {p1 : Int32} {p2 : Int32}  {S : sw_St} : sw_Ev G yX9_becomes cX9_becomes 5 (some .int) d sw_ei [sw_vr G 105, .int p1, .int p2] S (fX9_becomes N p1 p2 S) := by
  refine sw_Ev_of (own := RX9) (lv0 := [some (sw_vr G 105), some (.int p1), some (.int p2), none, none]) (by decide) rfl (Nat.le_of_ble_eq_true rfl) rfl ?_
  unfold fX9_becomes
  refine sw_ald_5_0 (np := 1) dX9_becomes_0 rfl ?_
  refine sw_gR (np := 4) sw_f_RX9_9 sw_k_105 sw_r_105_0 dX9_becomes_1 rfl ?_
  refine sw_ild_5_1 (np := 5) dX9_becomes_4 rfl ?_
  refine sw_iald (np := 6) sw_k_106 sw_n_106 dX9_becomes_5 rfl ?_
  refine sw_isl_5_3 (np := 7) dX9_becomes_6 rfl rfl (fun x3_1 => ?_)
  refine sw_ild_5_3 (np := 8) dX9_becomes_7 rfl ?_
  refine sw_ild_5_2 (np := 9) dX9_becomes_8 rfl ?_
  refine sw_icmp_ne (np := 12) (tp := 14) dX9_becomes_9 rfl rfl ?_ ?_
  · refine sw_ald_5_0 (np := 15) dX9_becomes_14 rfl ?_
    refine sw_gI (np := 18) sw_f_RX9_81 sw_k_105 dX9_becomes_15 rfl ?_
    refine sw_bipush (np := 20) dX9_becomes_18 sw_bc_40 rfl ?_
    refine sw_jm0 (pj := 97) ([some (sw_vr G 105), some (.int p1), some (.int p2), some (.int x3_1), none]) ([]) (fun S1 => ?_) (fun k1 hk1 => ?_)
    · refine sw_ald_5_0 (np := 98) dX9_becomes_97 rfl ?_
      refine sw_gR (np := 101) sw_f_RX9_13 sw_k_105 sw_r_105_1 dX9_becomes_98 rfl ?_
      refine sw_ald_5_0 (np := 102) dX9_becomes_101 rfl ?_
      refine sw_gI (np := 105) sw_f_RX9_81 sw_k_105 dX9_becomes_102 rfl ?_
      refine sw_ild_5_1 (np := 106) dX9_becomes_105 rfl ?_
      refine sw_sI (np := 107) sw_k_107 sw_n_107 dX9_becomes_106 rfl (fun S2 => ?_)
      refine sw_ald_5_0 (np := 108) dX9_becomes_107 rfl ?_
      refine sw_gR (np := 111) sw_f_RX9_16 sw_k_105 sw_r_105_2 dX9_becomes_108 rfl ?_
      refine sw_ald_5_0 (np := 112) dX9_becomes_111 rfl ?_
      refine sw_gI (np := 115) sw_f_RX9_81 sw_k_105 dX9_becomes_112 rfl ?_
      refine sw_ild_5_3 (np := 116) dX9_becomes_115 rfl ?_
      refine sw_sI (np := 117) sw_k_108 sw_n_108 dX9_becomes_116 rfl (fun S3 => ?_)
      refine sw_ald_5_0 (np := 118) dX9_becomes_117 rfl ?_
      refine sw_gR (np := 121) sw_f_RX9_19 sw_k_105 sw_r_105_3 dX9_becomes_118 rfl ?_
      refine sw_ald_5_0 (np := 122) dX9_becomes_121 rfl ?_
      refine sw_gI (np := 125) sw_f_RX9_81 sw_k_105 dX9_becomes_122 rfl ?_
      refine sw_ild_5_2 (np := 126) dX9_becomes_125 rfl ?_
      refine sw_sI (np := 127) sw_k_109 sw_n_109 dX9_becomes_126 rfl (fun S4 => ?_)
      refine sw_ald_5_0 (np := 128) dX9_becomes_127 rfl ?_
      refine sw_dup (np := 129) dX9_becomes_128 rfl rfl ?_
      refine sw_gI (np := 132) sw_f_RX9_81 sw_k_105 dX9_becomes_129 rfl ?_
      refine sw_iconst (np := 133) dX9_becomes_132 sw_ic_1 rfl ?_
      refine sw_iadd (np := 134) dX9_becomes_133 rfl ?_
      refine sw_pI (np := 137) sw_f_RX9_81 sw_fp_9_5 sw_k_105 dX9_becomes_134 rfl (fun S5 => ?_)
      refine sw_ald_5_0 (np := 138) dX9_becomes_137 rfl ?_
      refine sw_ald_5_0 (np := 139) dX9_becomes_138 rfl ?_
      refine sw_gI (np := 142) sw_f_RX9_81 sw_k_105 dX9_becomes_139 rfl ?_
      refine sw_pI (np := 145) sw_f_RX9_84 sw_fp_9_4 sw_k_105 dX9_becomes_142 rfl (fun S6 => ?_)
      refine sw_ald_5_0 (np := 146) dX9_becomes_145 rfl ?_
      refine sw_gR (np := 149) sw_f_RX9_9 sw_k_105 sw_r_105_0 dX9_becomes_146 rfl ?_
      refine sw_ild_5_1 (np := 150) dX9_becomes_149 rfl ?_
      refine sw_ild_5_2 (np := 151) dX9_becomes_150 rfl ?_
      refine sw_sI (np := 152) sw_k_106 sw_n_106 dX9_becomes_151 rfl (fun S7 => ?_)
      refine sw_ild_5_3 (np := 153) dX9_becomes_152 rfl ?_
      exact sw_iret dX9_becomes_153
    · refine sw_icmp_ne (np := 23) (tp := 97) dX9_becomes_20 rfl rfl ?_ ?_
      · exact hk1 _
      · refine sw_iconst (np := 24) dX9_becomes_23 sw_ic_1 rfl ?_
        refine sw_ist_5_4 (np := 26) dX9_becomes_24 rfl rfl ?_
        refine sw_lp1 (lv := fun x4_1 => [some (sw_vr G 105), some (.int p1), some (.int p2), some (.int x3_1), some (.int x4_1)]) (fun rec1 hrec1 x4_1 S8 => ?_) _ _ _
        refine sw_ild_5_4 (np := 28) dX9_becomes_26 rfl ?_
        refine sw_bipush (np := 30) dX9_becomes_28 sw_bc_40 rfl ?_
        refine sw_icmp_ge (np := 33) (tp := 87) dX9_becomes_30 rfl rfl ?_ ?_
        · refine sw_ald_5_0 (np := 88) dX9_becomes_87 rfl ?_
          refine sw_dup (np := 89) dX9_becomes_88 rfl rfl ?_
          refine sw_gI (np := 92) sw_f_RX9_81 sw_k_105 dX9_becomes_89 rfl ?_
          refine sw_iconst (np := 93) dX9_becomes_92 sw_ic_1 rfl ?_
          refine sw_isub (np := 94) dX9_becomes_93 rfl ?_
          refine sw_pI (np := 97) sw_f_RX9_81 sw_fp_9_5 sw_k_105 dX9_becomes_94 rfl (fun S9 => ?_)
          refine sw_dr_5_4 ?_
          exact hk1 _
        · refine sw_ald_5_0 (np := 34) dX9_becomes_33 rfl ?_
          refine sw_gR (np := 37) sw_f_RX9_13 sw_k_105 sw_r_105_1 dX9_becomes_34 rfl ?_
          refine sw_ild_5_4 (np := 39) dX9_becomes_37 rfl ?_
          refine sw_iconst (np := 40) dX9_becomes_39 sw_ic_1 rfl ?_
          refine sw_isub (np := 41) dX9_becomes_40 rfl ?_
          refine sw_ald_5_0 (np := 42) dX9_becomes_41 rfl ?_
          refine sw_gR (np := 45) sw_f_RX9_13 sw_k_105 sw_r_105_1 dX9_becomes_42 rfl ?_
          refine sw_ild_5_4 (np := 47) dX9_becomes_45 rfl ?_
          refine sw_iald (np := 48) sw_k_107 sw_n_107 dX9_becomes_47 rfl ?_
          refine sw_sI (np := 49) sw_k_107 sw_n_107 dX9_becomes_48 rfl (fun S10 => ?_)
          refine sw_ald_5_0 (np := 50) dX9_becomes_49 rfl ?_
          refine sw_gR (np := 53) sw_f_RX9_16 sw_k_105 sw_r_105_2 dX9_becomes_50 rfl ?_
          refine sw_ild_5_4 (np := 55) dX9_becomes_53 rfl ?_
          refine sw_iconst (np := 56) dX9_becomes_55 sw_ic_1 rfl ?_
          refine sw_isub (np := 57) dX9_becomes_56 rfl ?_
          refine sw_ald_5_0 (np := 58) dX9_becomes_57 rfl ?_
          refine sw_gR (np := 61) sw_f_RX9_16 sw_k_105 sw_r_105_2 dX9_becomes_58 rfl ?_
          refine sw_ild_5_4 (np := 63) dX9_becomes_61 rfl ?_
          refine sw_iald (np := 64) sw_k_108 sw_n_108 dX9_becomes_63 rfl ?_
          refine sw_sI (np := 65) sw_k_108 sw_n_108 dX9_becomes_64 rfl (fun S11 => ?_)
          refine sw_ald_5_0 (np := 66) dX9_becomes_65 rfl ?_
          refine sw_gR (np := 69) sw_f_RX9_19 sw_k_105 sw_r_105_3 dX9_becomes_66 rfl ?_
          refine sw_ild_5_4 (np := 71) dX9_becomes_69 rfl ?_
          refine sw_iconst (np := 72) dX9_becomes_71 sw_ic_1 rfl ?_
          refine sw_isub (np := 73) dX9_becomes_72 rfl ?_
          refine sw_ald_5_0 (np := 74) dX9_becomes_73 rfl ?_
          refine sw_gR (np := 77) sw_f_RX9_19 sw_k_105 sw_r_105_3 dX9_becomes_74 rfl ?_
          refine sw_ild_5_4 (np := 79) dX9_becomes_77 rfl ?_
          refine sw_iald (np := 80) sw_k_109 sw_n_109 dX9_becomes_79 rfl ?_
          refine sw_sI (np := 81) sw_k_109 sw_n_109 dX9_becomes_80 rfl (fun S12 => ?_)
          refine sw_inc_5_4 (np := 84) dX9_becomes_81 sw_ic_1 rfl rfl ?_
          refine sw_goto (tp := 26) dX9_becomes_84 rfl ?_
          exact hrec1 _ _
  · refine sw_ild_5_3 (np := 13) dX9_becomes_12 rfl ?_
    exact sw_iret dX9_becomes_13
/-- SwordAtticModel.inCot(I)I -/
def fX9_inCot (N : Nat) (p1 : Int32) (S : sw_St) : Option (Int32 × sw_St) :=
  sw_fx1 (fun rec1 x2_1 S1 => (if x2_1 ≥ (S1.1 105 6) then (some ((-1 : Int32), S1)) else (sw_gd (sw_in x2_1 53) (if (S1.1 106 x2_1.toNatClampNeg) = p1 then (some (x2_1, S1)) else (rec1 (x2_1 + (1 : Int32)) S1))))) N (0 : Int32) S
theorem hX9_inCot {G : sw_G} {N d : Nat} (hd : 1 ≤ d) {p1 : Int32}  {S : sw_St} : sw_Ev G yX9_inCot cX9_inCot 3 (some .int) d sw_ei [sw_vr G 105, .int p1] S (fX9_inCot N p1 S) := by
  refine sw_Ev_of (own := RX9) (lv0 := [some (sw_vr G 105), some (.int p1), none]) (by decide) rfl (Nat.le_of_ble_eq_true rfl) rfl ?_
  unfold fX9_inCot
  refine sw_iconst (np := 1) dX9_inCot_0 sw_ic_0 rfl ?_
  refine sw_ist_3_2 (np := 2) dX9_inCot_1 rfl rfl ?_
  refine sw_lp1 (lv := fun x2_1 => [some (sw_vr G 105), some (.int p1), some (.int x2_1)]) (fun rec1 hrec1 x2_1 S1 => ?_) _ _ _
  refine sw_ild_3_2 (np := 3) dX9_inCot_2 rfl ?_
  refine sw_ald_3_0 (np := 4) dX9_inCot_3 rfl ?_
  refine sw_gI (np := 7) sw_f_RX9_95 sw_k_105 dX9_inCot_4 rfl ?_
  refine sw_icmp_ge (np := 10) (tp := 28) dX9_inCot_7 rfl rfl ?_ ?_
  · refine sw_iconst (np := 29) dX9_inCot_28 sw_ic_m1 rfl ?_
    exact sw_iret dX9_inCot_29
  · refine sw_ald_3_0 (np := 11) dX9_inCot_10 rfl ?_
    refine sw_gR (np := 14) sw_f_RX9_9 sw_k_105 sw_r_105_0 dX9_inCot_11 rfl ?_
    refine sw_ild_3_2 (np := 15) dX9_inCot_14 rfl ?_
    refine sw_iald (np := 16) sw_k_106 sw_n_106 dX9_inCot_15 rfl ?_
    refine sw_ild_3_1 (np := 17) dX9_inCot_16 rfl ?_
    refine sw_icmp_ne (np := 20) (tp := 22) dX9_inCot_17 rfl rfl ?_ ?_
    · refine sw_inc_3_2 (np := 25) dX9_inCot_22 sw_ic_1 rfl rfl ?_
      refine sw_goto (tp := 2) dX9_inCot_25 rfl ?_
      exact hrec1 _ _
    · refine sw_ild_3_2 (np := 21) dX9_inCot_20 rfl ?_
      exact sw_iret dX9_inCot_21
/-- SwordAtticModel.turns(II)V -/
def fX9_turns (N : Nat) (p1 : Int32) (p2 : Int32) (S : sw_St) : Option (Unit × sw_St) :=
  if p1 ≥ (10 : Int32) then (sw_gd (sw_in p1 53) (sw_ls (sw_si S 106 p1.toNatClampNeg p2) (fun S1 => (some ((), S1))))) else (sw_bd (fX9_inCot N p2 S) (fun r1 S2 => (if r1 < 0 then (sw_gd (sw_in p1 53) (sw_ls (sw_si S2 106 p1.toNatClampNeg p2) (fun S3 => (some ((), S3))))) else (sw_bd (fX9_inCot N p2 S2) (fun r2 S4 => (if r2 = p1 then (sw_gd (sw_in p1 53) (sw_ls (sw_si S4 106 p1.toNatClampNeg p2) (fun S5 => (some ((), S5))))) else (some ((), S4))))))))
theorem hX9_turns {G : sw_G} {N d : Nat} (hd : 2 ≤ d) {p1 : Int32} {p2 : Int32}  {S : sw_St} : sw_Ev G yX9_turns cX9_turns 3 none d sw_ev [sw_vr G 105, .int p1, .int p2] S (fX9_turns N p1 p2 S) := by
  refine sw_Ev_of (own := RX9) (lv0 := [some (sw_vr G 105), some (.int p1), some (.int p2)]) (by decide) rfl (Nat.le_of_ble_eq_true rfl) rfl ?_
  unfold fX9_turns
  refine sw_ild_3_1 (np := 1) dX9_turns_0 rfl ?_
  refine sw_bipush (np := 3) dX9_turns_1 sw_bc_10 rfl ?_
  refine sw_icmp_ge (np := 6) (tp := 23) dX9_turns_3 rfl rfl ?_ ?_
  · refine sw_ald_3_0 (np := 24) dX9_turns_23 rfl ?_
    refine sw_gR (np := 27) sw_f_RX9_9 sw_k_105 sw_r_105_0 dX9_turns_24 rfl ?_
    refine sw_ild_3_1 (np := 28) dX9_turns_27 rfl ?_
    refine sw_ild_3_2 (np := 29) dX9_turns_28 rfl ?_
    refine sw_sI (np := 30) sw_k_106 sw_n_106 dX9_turns_29 rfl (fun S1 => ?_)
    exact sw_vret dX9_turns_30
  · refine sw_ald_3_0 (np := 7) dX9_turns_6 rfl ?_
    refine sw_ild_3_2 (np := 8) dX9_turns_7 rfl ?_
    refine sw_cV1i (np := 11) (hX9_inCot (d := d - 1) (by omega) ) sw_mv_X9_inCot sw_k_105 sw_wl_RX9_87 dX9_turns_8 (sw_fit_rm (by omega) (by decide)) (Nat.le_of_ble_eq_true rfl) rfl (fun r1 S2 => ?_)
    refine sw_if_lt (np := 14) (tp := 23) dX9_turns_11 rfl rfl ?_ ?_
    · refine sw_ald_3_0 (np := 24) dX9_turns_23 rfl ?_
      refine sw_gR (np := 27) sw_f_RX9_9 sw_k_105 sw_r_105_0 dX9_turns_24 rfl ?_
      refine sw_ild_3_1 (np := 28) dX9_turns_27 rfl ?_
      refine sw_ild_3_2 (np := 29) dX9_turns_28 rfl ?_
      refine sw_sI (np := 30) sw_k_106 sw_n_106 dX9_turns_29 rfl (fun S3 => ?_)
      exact sw_vret dX9_turns_30
    · refine sw_ald_3_0 (np := 15) dX9_turns_14 rfl ?_
      refine sw_ild_3_2 (np := 16) dX9_turns_15 rfl ?_
      refine sw_cV1i (np := 19) (hX9_inCot (d := d - 1) (by omega) ) sw_mv_X9_inCot sw_k_105 sw_wl_RX9_87 dX9_turns_16 (sw_fit_rm (by omega) (by decide)) (Nat.le_of_ble_eq_true rfl) rfl (fun r2 S4 => ?_)
      refine sw_ild_3_1 (np := 20) dX9_turns_19 rfl ?_
      refine sw_icmp_ne (np := 23) (tp := 30) dX9_turns_20 rfl rfl ?_ ?_
      · exact sw_vret dX9_turns_30
      · refine sw_ald_3_0 (np := 24) dX9_turns_23 rfl ?_
        refine sw_gR (np := 27) sw_f_RX9_9 sw_k_105 sw_r_105_0 dX9_turns_24 rfl ?_
        refine sw_ild_3_1 (np := 28) dX9_turns_27 rfl ?_
        refine sw_ild_3_2 (np := 29) dX9_turns_28 rfl ?_
        refine sw_sI (np := 30) sw_k_106 sw_n_106 dX9_turns_29 rfl (fun S5 => ?_)
        exact sw_vret dX9_turns_30
/-- SwordAtticModel.undo()I -/
def fX9_undo (N : Nat)  (S : sw_St) : Option (Int32 × sw_St) :=
  if (S.1 105 5) = 0 then (some ((-5 : Int32), S)) else (sw_ls (sw_si S 105 5 ((S.1 105 5) - (1 : Int32))) (fun S1 => (sw_gd (sw_in (S1.1 105 5) 40) (sw_gd (sw_in (S1.1 105 5) 40) (sw_bd (fX9_turns N (S1.1 107 (S1.1 105 5).toNatClampNeg) (S1.1 108 (S1.1 105 5).toNatClampNeg) S1) (fun _ S2 => (some ((S2.1 105 5), S2))))))))
theorem hX9_undo {G : sw_G} {N d : Nat} (hd : 3 ≤ d)   {S : sw_St} : sw_Ev G yX9_undo cX9_undo 1 (some .int) d sw_ei [sw_vr G 105] S (fX9_undo N  S) := by
  refine sw_Ev_of (own := RX9) (lv0 := [some (sw_vr G 105)]) (by decide) rfl (Nat.le_of_ble_eq_true rfl) rfl ?_
  unfold fX9_undo
  refine sw_ald_1_0 (np := 1) dX9_undo_0 rfl ?_
  refine sw_gI (np := 4) sw_f_RX9_81 sw_k_105 dX9_undo_1 rfl ?_
  refine sw_if_ne (np := 7) (tp := 10) dX9_undo_4 rfl rfl ?_ ?_
  · refine sw_ald_1_0 (np := 11) dX9_undo_10 rfl ?_
    refine sw_dup (np := 12) dX9_undo_11 rfl rfl ?_
    refine sw_gI (np := 15) sw_f_RX9_81 sw_k_105 dX9_undo_12 rfl ?_
    refine sw_iconst (np := 16) dX9_undo_15 sw_ic_1 rfl ?_
    refine sw_isub (np := 17) dX9_undo_16 rfl ?_
    refine sw_pI (np := 20) sw_f_RX9_81 sw_fp_9_5 sw_k_105 dX9_undo_17 rfl (fun S1 => ?_)
    refine sw_ald_1_0 (np := 21) dX9_undo_20 rfl ?_
    refine sw_ald_1_0 (np := 22) dX9_undo_21 rfl ?_
    refine sw_gR (np := 25) sw_f_RX9_13 sw_k_105 sw_r_105_1 dX9_undo_22 rfl ?_
    refine sw_ald_1_0 (np := 26) dX9_undo_25 rfl ?_
    refine sw_gI (np := 29) sw_f_RX9_81 sw_k_105 dX9_undo_26 rfl ?_
    refine sw_iald (np := 30) sw_k_107 sw_n_107 dX9_undo_29 rfl ?_
    refine sw_ald_1_0 (np := 31) dX9_undo_30 rfl ?_
    refine sw_gR (np := 34) sw_f_RX9_16 sw_k_105 sw_r_105_2 dX9_undo_31 rfl ?_
    refine sw_ald_1_0 (np := 35) dX9_undo_34 rfl ?_
    refine sw_gI (np := 38) sw_f_RX9_81 sw_k_105 dX9_undo_35 rfl ?_
    refine sw_iald (np := 39) sw_k_108 sw_n_108 dX9_undo_38 rfl ?_
    refine sw_cV2v (np := 42) (hX9_turns (d := d - 1) (by omega) ) sw_mv_X9_turns sw_k_105 sw_wl_RX9_91 dX9_undo_39 (sw_fit_rm (by omega) (by decide)) (Nat.le_of_ble_eq_true rfl) rfl (fun _ S2 => ?_)
    refine sw_ald_1_0 (np := 43) dX9_undo_42 rfl ?_
    refine sw_gI (np := 46) sw_f_RX9_81 sw_k_105 dX9_undo_43 rfl ?_
    exact sw_iret dX9_undo_46
  · refine sw_bipush (np := 9) dX9_undo_7 sw_bc_m5 rfl ?_
    exact sw_iret dX9_undo_9
/-- SwordAtticModel.redo()I -/
def fX9_redo (N : Nat)  (S : sw_St) : Option (Int32 × sw_St) :=
  if (S.1 105 5) = (S.1 105 4) then (some ((-5 : Int32), S)) else (sw_gd (sw_in (S.1 105 5) 40) (sw_gd (sw_in (S.1 105 5) 40) (sw_bd (fX9_turns N (S.1 107 (S.1 105 5).toNatClampNeg) (S.1 109 (S.1 105 5).toNatClampNeg) S) (fun _ S1 => (sw_ls (sw_si S1 105 5 ((S1.1 105 5) + (1 : Int32))) (fun S2 => (some (((S2.1 105 4) - (S2.1 105 5)), S2))))))))
theorem hX9_redo {G : sw_G} {N d : Nat} (hd : 3 ≤ d)   {S : sw_St} : sw_Ev G yX9_redo cX9_redo 1 (some .int) d sw_ei [sw_vr G 105] S (fX9_redo N  S) := by
  refine sw_Ev_of (own := RX9) (lv0 := [some (sw_vr G 105)]) (by decide) rfl (Nat.le_of_ble_eq_true rfl) rfl ?_
  unfold fX9_redo
  refine sw_ald_1_0 (np := 1) dX9_redo_0 rfl ?_
  refine sw_gI (np := 4) sw_f_RX9_81 sw_k_105 dX9_redo_1 rfl ?_
  refine sw_ald_1_0 (np := 5) dX9_redo_4 rfl ?_
  refine sw_gI (np := 8) sw_f_RX9_84 sw_k_105 dX9_redo_5 rfl ?_
  refine sw_icmp_ne (np := 11) (tp := 14) dX9_redo_8 rfl rfl ?_ ?_
  · refine sw_ald_1_0 (np := 15) dX9_redo_14 rfl ?_
    refine sw_ald_1_0 (np := 16) dX9_redo_15 rfl ?_
    refine sw_gR (np := 19) sw_f_RX9_13 sw_k_105 sw_r_105_1 dX9_redo_16 rfl ?_
    refine sw_ald_1_0 (np := 20) dX9_redo_19 rfl ?_
    refine sw_gI (np := 23) sw_f_RX9_81 sw_k_105 dX9_redo_20 rfl ?_
    refine sw_iald (np := 24) sw_k_107 sw_n_107 dX9_redo_23 rfl ?_
    refine sw_ald_1_0 (np := 25) dX9_redo_24 rfl ?_
    refine sw_gR (np := 28) sw_f_RX9_19 sw_k_105 sw_r_105_3 dX9_redo_25 rfl ?_
    refine sw_ald_1_0 (np := 29) dX9_redo_28 rfl ?_
    refine sw_gI (np := 32) sw_f_RX9_81 sw_k_105 dX9_redo_29 rfl ?_
    refine sw_iald (np := 33) sw_k_109 sw_n_109 dX9_redo_32 rfl ?_
    refine sw_cV2v (np := 36) (hX9_turns (d := d - 1) (by omega) ) sw_mv_X9_turns sw_k_105 sw_wl_RX9_91 dX9_redo_33 (sw_fit_rm (by omega) (by decide)) (Nat.le_of_ble_eq_true rfl) rfl (fun _ S1 => ?_)
    refine sw_ald_1_0 (np := 37) dX9_redo_36 rfl ?_
    refine sw_dup (np := 38) dX9_redo_37 rfl rfl ?_
    refine sw_gI (np := 41) sw_f_RX9_81 sw_k_105 dX9_redo_38 rfl ?_
    refine sw_iconst (np := 42) dX9_redo_41 sw_ic_1 rfl ?_
    refine sw_iadd (np := 43) dX9_redo_42 rfl ?_
    refine sw_pI (np := 46) sw_f_RX9_81 sw_fp_9_5 sw_k_105 dX9_redo_43 rfl (fun S2 => ?_)
    refine sw_ald_1_0 (np := 47) dX9_redo_46 rfl ?_
    refine sw_gI (np := 50) sw_f_RX9_84 sw_k_105 dX9_redo_47 rfl ?_
    refine sw_ald_1_0 (np := 51) dX9_redo_50 rfl ?_
    refine sw_gI (np := 54) sw_f_RX9_81 sw_k_105 dX9_redo_51 rfl ?_
    refine sw_isub (np := 55) dX9_redo_54 rfl ?_
    exact sw_iret dX9_redo_55
  · refine sw_bipush (np := 13) dX9_redo_11 sw_bc_m5 rfl ?_
    exact sw_iret dX9_redo_13
/-- SwordAtticModel.isSword(J)Z -/
def fX9_isSword (N : Nat) (p1 : Int64) (S : sw_St) : Option (Int32 × sw_St) :=
  sw_bd (fX9_within N p1 (0 : Int64) (((S.1 105 6) - (1 : Int32)).toInt64) S) (fun r1 S1 => (some (vp_nar .boolean r1, S1)))
theorem hX9_isSword {G : sw_G} {N d : Nat} (hd : 2 ≤ d) {p1 : Int64}  {S : sw_St} : sw_Ev G yX9_isSword cX9_isSword 3 (some .boolean) d sw_ei [sw_vr G 105, .long p1] S (fX9_isSword N p1 S) := by
  refine sw_Ev_of (own := RX9) (lv0 := [some (sw_vr G 105), some (.long p1), none]) (by decide) rfl (Nat.le_of_ble_eq_true rfl) rfl ?_
  unfold fX9_isSword
  refine sw_lld_3_1 (np := 1) dX9_isSword_0 rfl ?_
  refine sw_lconst (np := 2) dX9_isSword_1 sw_lc_0 rfl ?_
  refine sw_ald_3_0 (np := 3) dX9_isSword_2 rfl ?_
  refine sw_gI (np := 6) sw_f_RX9_95 sw_k_105 dX9_isSword_3 rfl ?_
  refine sw_iconst (np := 7) dX9_isSword_6 sw_ic_1 rfl ?_
  refine sw_isub (np := 8) dX9_isSword_7 rfl ?_
  refine sw_i2l (np := 9) dX9_isSword_8 rfl ?_
  refine sw_cS3i (np := 12) (hX9_within (d := d - 1) (by omega) ) sw_ms_X9_within sw_wl_RX9_98 dX9_isSword_9 (sw_fit_rm (by omega) (by decide)) (Nat.le_of_ble_eq_true rfl) rfl (fun r1 S1 => ?_)
  exact sw_zret dX9_isSword_12
/-- SwordAtticModel.isCot(J)Z -/
def fX9_isCot (N : Nat) (p0 : Int64) (S : sw_St) : Option (Int32 × sw_St) :=
  sw_bd (fX9_within N p0 (0 : Int64) (11 : Int64) S) (fun r1 S1 => (some (vp_nar .boolean r1, S1)))
theorem hX9_isCot {G : sw_G} {N d : Nat} (hd : 2 ≤ d) {p0 : Int64}  {S : sw_St} : sw_Ev G yX9_isCot cX9_isCot 2 (some .boolean) d sw_ei [.long p0] S (fX9_isCot N p0 S) := by
  refine sw_Ev_of (own := RX9) (lv0 := [some (.long p0), none]) (by decide) rfl (Nat.le_of_ble_eq_true rfl) rfl ?_
  unfold fX9_isCot
  refine sw_lld_2_0 (np := 1) dX9_isCot_0 rfl ?_
  refine sw_lconst (np := 2) dX9_isCot_1 sw_lc_0 rfl ?_
  refine sw_ldc2 (np := 5) sw_wc_RX9_102 dX9_isCot_2 rfl ?_
  refine sw_cS3i (np := 8) (hX9_within (d := d - 1) (by omega) ) sw_ms_X9_within sw_wl_RX9_98 dX9_isCot_5 (sw_fit_rm (by omega) (by decide)) (Nat.le_of_ble_eq_true rfl) rfl (fun r1 S1 => ?_)
  exact sw_zret dX9_isCot_8
/-- SwordAtticModel.mayCome(JJJ)Z -/
def fX9_mayCome (N : Nat) (p1 : Int64) (p3 : Int64) (p5 : Int64) (S : sw_St) : Option (Int32 × sw_St) :=
  sw_bd (fX9_isCot N p1 S) (fun r1 S1 => (if r1 = 0 then (some (vp_nar .boolean (0 : Int32), S1)) else (sw_bd (fX9_inCot N p1.toInt32 S1) (fun r2 S2 => (if r2 ≥ 0 then (some (vp_nar .boolean (0 : Int32), S2)) else (sw_bd (fX9_within N p3 (0 : Int64) (9 : Int64) S2) (fun r3 S3 => (if r3 = 0 then (some (vp_nar .boolean (0 : Int32), S3)) else (sw_bd (fX9_within N p5 (0 : Int64) (99 : Int64) S3) (fun r4 S4 => (if r4 = 0 then (some (vp_nar .boolean (0 : Int32), S4)) else (some (vp_nar .boolean (1 : Int32), S4)))))))))))))
theorem hX9_mayCome {G : sw_G} {N d : Nat} (hd : 3 ≤ d) {p1 : Int64} {p3 : Int64} {p5 : Int64}  {S : sw_St} : sw_Ev G yX9_mayCome cX9_mayCome 7 (some .boolean) d sw_ei [sw_vr G 105, .long p1, .long p3, .long p5] S (fX9_mayCome N p1 p3 p5 S) := by
  refine sw_Ev_of (own := RX9) (lv0 := [some (sw_vr G 105), some (.long p1), none, some (.long p3), none, some (.long p5), none]) (by decide) rfl (Nat.le_of_ble_eq_true rfl) rfl ?_
  unfold fX9_mayCome
  refine sw_lld_7_1 (np := 1) dX9_mayCome_0 rfl ?_
  refine sw_cS1i (np := 4) (hX9_isCot (d := d - 1) (by omega) ) sw_ms_X9_isCot sw_wl_RX9_104 dX9_mayCome_1 (sw_fit_rm (by omega) (by decide)) (Nat.le_of_ble_eq_true rfl) rfl (fun r1 S1 => ?_)
  refine sw_if_eq (np := 7) (tp := 43) dX9_mayCome_4 rfl rfl ?_ ?_
  · refine sw_iconst (np := 44) dX9_mayCome_43 sw_ic_0 rfl ?_
    exact sw_zret dX9_mayCome_44
  · refine sw_ald_7_0 (np := 8) dX9_mayCome_7 rfl ?_
    refine sw_lld_7_1 (np := 9) dX9_mayCome_8 rfl ?_
    refine sw_l2i (np := 10) dX9_mayCome_9 rfl ?_
    refine sw_cV1i (np := 13) (hX9_inCot (d := d - 1) (by omega) ) sw_mv_X9_inCot sw_k_105 sw_wl_RX9_87 dX9_mayCome_10 (sw_fit_rm (by omega) (by decide)) (Nat.le_of_ble_eq_true rfl) rfl (fun r2 S2 => ?_)
    refine sw_if_ge (np := 16) (tp := 43) dX9_mayCome_13 rfl rfl ?_ ?_
    · refine sw_iconst (np := 44) dX9_mayCome_43 sw_ic_0 rfl ?_
      exact sw_zret dX9_mayCome_44
    · refine sw_lld_7_3 (np := 17) dX9_mayCome_16 rfl ?_
      refine sw_lconst (np := 18) dX9_mayCome_17 sw_lc_0 rfl ?_
      refine sw_ldc2 (np := 21) sw_wc_RX9_108 dX9_mayCome_18 rfl ?_
      refine sw_cS3i (np := 24) (hX9_within (d := d - 1) (by omega) ) sw_ms_X9_within sw_wl_RX9_98 dX9_mayCome_21 (sw_fit_rm (by omega) (by decide)) (Nat.le_of_ble_eq_true rfl) rfl (fun r3 S3 => ?_)
      refine sw_if_eq (np := 27) (tp := 43) dX9_mayCome_24 rfl rfl ?_ ?_
      · refine sw_iconst (np := 44) dX9_mayCome_43 sw_ic_0 rfl ?_
        exact sw_zret dX9_mayCome_44
      · refine sw_lld_7_5 (np := 29) dX9_mayCome_27 rfl ?_
        refine sw_lconst (np := 30) dX9_mayCome_29 sw_lc_0 rfl ?_
        refine sw_ldc2 (np := 33) sw_wc_RX9_110 dX9_mayCome_30 rfl ?_
        refine sw_cS3i (np := 36) (hX9_within (d := d - 1) (by omega) ) sw_ms_X9_within sw_wl_RX9_98 dX9_mayCome_33 (sw_fit_rm (by omega) (by decide)) (Nat.le_of_ble_eq_true rfl) rfl (fun r4 S4 => ?_)
        refine sw_if_eq (np := 39) (tp := 43) dX9_mayCome_36 rfl rfl ?_ ?_
        · refine sw_iconst (np := 44) dX9_mayCome_43 sw_ic_0 rfl ?_
          exact sw_zret dX9_mayCome_44
        · refine sw_iconst (np := 40) dX9_mayCome_39 sw_ic_1 rfl ?_
          refine sw_goto (tp := 44) dX9_mayCome_40 rfl ?_
          exact sw_zret dX9_mayCome_44
/-- SwordAtticModel.adds(III)V -/
def fX9_adds (N : Nat) (p1 : Int32) (p2 : Int32) (p3 : Int32) (S : sw_St) : Option (Unit × sw_St) :=
  sw_gd (sw_in (S.1 105 6) 53) (sw_ls (sw_si S 106 (S.1 105 6).toNatClampNeg p1) (fun S1 => (sw_gd (sw_in ((10 : Int32) + (S1.1 105 6)) 53) (sw_ls (sw_si S1 106 ((10 : Int32) + (S1.1 105 6)).toNatClampNeg p2) (fun S2 => (sw_gd (sw_in ((20 : Int32) + (S2.1 105 6)) 53) (sw_ls (sw_si S2 106 ((20 : Int32) + (S2.1 105 6)).toNatClampNeg p3) (fun S3 => (sw_gd (sw_in ((30 : Int32) + (S3.1 105 6)) 53) (sw_ls (sw_si S3 106 ((30 : Int32) + (S3.1 105 6)).toNatClampNeg (20 : Int32)) (fun S4 => (sw_ls (sw_si S4 105 6 ((S4.1 105 6) + (1 : Int32))) (fun S5 => (some ((), S5)))))))))))))))
theorem hX9_adds {G : sw_G} {N d : Nat} (hd : 1 ≤ d) {p1 : Int32} {p2 : Int32} {p3 : Int32}  {S : sw_St} : sw_Ev G yX9_adds cX9_adds 4 none d sw_ev [sw_vr G 105, .int p1, .int p2, .int p3] S (fX9_adds N p1 p2 p3 S) := by
  refine sw_Ev_of (own := RX9) (lv0 := [some (sw_vr G 105), some (.int p1), some (.int p2), some (.int p3)]) (by decide) rfl (Nat.le_of_ble_eq_true rfl) rfl ?_
  unfold fX9_adds
  refine sw_ald_4_0 (np := 1) dX9_adds_0 rfl ?_
  refine sw_gR (np := 4) sw_f_RX9_9 sw_k_105 sw_r_105_0 dX9_adds_1 rfl ?_
  refine sw_ald_4_0 (np := 5) dX9_adds_4 rfl ?_
  refine sw_gI (np := 8) sw_f_RX9_95 sw_k_105 dX9_adds_5 rfl ?_
  refine sw_ild_4_1 (np := 9) dX9_adds_8 rfl ?_
  refine sw_sI (np := 10) sw_k_106 sw_n_106 dX9_adds_9 rfl (fun S1 => ?_)
  refine sw_ald_4_0 (np := 11) dX9_adds_10 rfl ?_
  refine sw_gR (np := 14) sw_f_RX9_9 sw_k_105 sw_r_105_0 dX9_adds_11 rfl ?_
  refine sw_bipush (np := 16) dX9_adds_14 sw_bc_10 rfl ?_
  refine sw_ald_4_0 (np := 17) dX9_adds_16 rfl ?_
  refine sw_gI (np := 20) sw_f_RX9_95 sw_k_105 dX9_adds_17 rfl ?_
  refine sw_iadd (np := 21) dX9_adds_20 rfl ?_
  refine sw_ild_4_2 (np := 22) dX9_adds_21 rfl ?_
  refine sw_sI (np := 23) sw_k_106 sw_n_106 dX9_adds_22 rfl (fun S2 => ?_)
  refine sw_ald_4_0 (np := 24) dX9_adds_23 rfl ?_
  refine sw_gR (np := 27) sw_f_RX9_9 sw_k_105 sw_r_105_0 dX9_adds_24 rfl ?_
  refine sw_bipush (np := 29) dX9_adds_27 sw_bc_20 rfl ?_
  refine sw_ald_4_0 (np := 30) dX9_adds_29 rfl ?_
  refine sw_gI (np := 33) sw_f_RX9_95 sw_k_105 dX9_adds_30 rfl ?_
  refine sw_iadd (np := 34) dX9_adds_33 rfl ?_
  refine sw_ild_4_3 (np := 35) dX9_adds_34 rfl ?_
  refine sw_sI (np := 36) sw_k_106 sw_n_106 dX9_adds_35 rfl (fun S3 => ?_)
  refine sw_ald_4_0 (np := 37) dX9_adds_36 rfl ?_
  refine sw_gR (np := 40) sw_f_RX9_9 sw_k_105 sw_r_105_0 dX9_adds_37 rfl ?_
  refine sw_bipush (np := 42) dX9_adds_40 sw_bc_30 rfl ?_
  refine sw_ald_4_0 (np := 43) dX9_adds_42 rfl ?_
  refine sw_gI (np := 46) sw_f_RX9_95 sw_k_105 dX9_adds_43 rfl ?_
  refine sw_iadd (np := 47) dX9_adds_46 rfl ?_
  refine sw_bipush (np := 49) dX9_adds_47 sw_bc_20 rfl ?_
  refine sw_sI (np := 50) sw_k_106 sw_n_106 dX9_adds_49 rfl (fun S4 => ?_)
  refine sw_ald_4_0 (np := 51) dX9_adds_50 rfl ?_
  refine sw_dup (np := 52) dX9_adds_51 rfl rfl ?_
  refine sw_gI (np := 55) sw_f_RX9_95 sw_k_105 dX9_adds_52 rfl ?_
  refine sw_iconst (np := 56) dX9_adds_55 sw_ic_1 rfl ?_
  refine sw_iadd (np := 57) dX9_adds_56 rfl ?_
  refine sw_pI (np := 60) sw_f_RX9_95 sw_fp_9_6 sw_k_105 dX9_adds_57 rfl (fun S5 => ?_)
  exact sw_vret dX9_adds_60
/-- SwordAtticModel.sword(II)I -/
def fX9_sword (N : Nat) (p1 : Int32) (p2 : Int32) (S : sw_St) : Option (Int32 × sw_St) :=
  sw_bd (fX9_mayCome N p1.toInt64 p2.toInt64 (0 : Int64) S) (fun r1 S1 => (if r1 = 0 then (some ((-1 : Int32), S1)) else (if (S1.1 105 6) = (10 : Int32) then (some ((-3 : Int32), S1)) else (sw_bd (fX9_adds N p1 p2 (50 : Int32) S1) (fun _ S2 => (some (((S2.1 105 6) - (1 : Int32)), S2)))))))
theorem hX9_sword {G : sw_G} {N d : Nat} (hd : 4 ≤ d) {p1 : Int32} {p2 : Int32}  {S : sw_St} : sw_Ev G yX9_sword cX9_sword 3 (some .int) d sw_ei [sw_vr G 105, .int p1, .int p2] S (fX9_sword N p1 p2 S) := by
  refine sw_Ev_of (own := RX9) (lv0 := [some (sw_vr G 105), some (.int p1), some (.int p2)]) (by decide) rfl (Nat.le_of_ble_eq_true rfl) rfl ?_
  unfold fX9_sword
  refine sw_ald_3_0 (np := 1) dX9_sword_0 rfl ?_
  refine sw_ild_3_1 (np := 2) dX9_sword_1 rfl ?_
  refine sw_i2l (np := 3) dX9_sword_2 rfl ?_
  refine sw_ild_3_2 (np := 4) dX9_sword_3 rfl ?_
  refine sw_i2l (np := 5) dX9_sword_4 rfl ?_
  refine sw_lconst (np := 6) dX9_sword_5 sw_lc_0 rfl ?_
  refine sw_cV3i (np := 9) (hX9_mayCome (d := d - 1) (by omega) ) sw_mv_X9_mayCome sw_k_105 sw_wl_RX9_112 dX9_sword_6 (sw_fit_rm (by omega) (by decide)) (Nat.le_of_ble_eq_true rfl) rfl (fun r1 S1 => ?_)
  refine sw_if_ne (np := 12) (tp := 14) dX9_sword_9 rfl rfl ?_ ?_
  · refine sw_ald_3_0 (np := 15) dX9_sword_14 rfl ?_
    refine sw_gI (np := 18) sw_f_RX9_95 sw_k_105 dX9_sword_15 rfl ?_
    refine sw_bipush (np := 20) dX9_sword_18 sw_bc_10 rfl ?_
    refine sw_icmp_ne (np := 23) (tp := 26) dX9_sword_20 rfl rfl ?_ ?_
    · refine sw_ald_3_0 (np := 27) dX9_sword_26 rfl ?_
      refine sw_ild_3_1 (np := 28) dX9_sword_27 rfl ?_
      refine sw_ild_3_2 (np := 29) dX9_sword_28 rfl ?_
      refine sw_bipush (np := 31) dX9_sword_29 sw_bc_50 rfl ?_
      refine sw_cV3v (np := 34) (hX9_adds (d := d - 1) (by omega) ) sw_mv_X9_adds sw_k_105 sw_wl_RX9_115 dX9_sword_31 (sw_fit_rm (by omega) (by decide)) (Nat.le_of_ble_eq_true rfl) rfl (fun _ S2 => ?_)
      refine sw_ald_3_0 (np := 35) dX9_sword_34 rfl ?_
      refine sw_gI (np := 38) sw_f_RX9_95 sw_k_105 dX9_sword_35 rfl ?_
      refine sw_iconst (np := 39) dX9_sword_38 sw_ic_1 rfl ?_
      refine sw_isub (np := 40) dX9_sword_39 rfl ?_
      exact sw_iret dX9_sword_40
    · refine sw_bipush (np := 25) dX9_sword_23 sw_bc_m3 rfl ?_
      exact sw_iret dX9_sword_25
  · refine sw_iconst (np := 13) dX9_sword_12 sw_ic_m1 rfl ?_
    exact sw_iret dX9_sword_13
/-- SwordAtticModel.isShelf(I)Z -/
def fX9_isShelf (N : Nat) (p0 : Int32) (S : sw_St) : Option (Int32 × sw_St) :=
  sw_bd (fX9_within N p0.toInt64 (0 : Int64) (5 : Int64) S) (fun r1 S1 => (some (vp_nar .boolean r1, S1)))
theorem hX9_isShelf {G : sw_G} {N d : Nat} (hd : 2 ≤ d) {p0 : Int32}  {S : sw_St} : sw_Ev G yX9_isShelf cX9_isShelf 1 (some .boolean) d sw_ei [.int p0] S (fX9_isShelf N p0 S) := by
  refine sw_Ev_of (own := RX9) (lv0 := [some (.int p0)]) (by decide) rfl (Nat.le_of_ble_eq_true rfl) rfl ?_
  unfold fX9_isShelf
  refine sw_ild_1_0 (np := 1) dX9_isShelf_0 rfl ?_
  refine sw_i2l (np := 2) dX9_isShelf_1 rfl ?_
  refine sw_lconst (np := 3) dX9_isShelf_2 sw_lc_0 rfl ?_
  refine sw_ldc2 (np := 6) sw_wc_RX9_130 dX9_isShelf_3 rfl ?_
  refine sw_cS3i (np := 9) (hX9_within (d := d - 1) (by omega) ) sw_ms_X9_within sw_wl_RX9_98 dX9_isShelf_6 (sw_fit_rm (by omega) (by decide)) (Nat.le_of_ble_eq_true rfl) rfl (fun r1 S1 => ?_)
  exact sw_zret dX9_isShelf_9
/-- SwordAtticModel.swords(III)I -/
def fX9_swords (N : Nat) (p1 : Int32) (p2 : Int32) (p3 : Int32) (S : sw_St) : Option (Int32 × sw_St) :=
  sw_bd (fX9_isShelf N p1 S) (fun r1 S1 => (if r1 = 0 then (some ((-1 : Int32), S1)) else (sw_bd (fX9_within N p3.toInt64 (1 : Int64) (10 : Int64) S1) (fun r2 S2 => (if r2 = 0 then (some ((-1 : Int32), S2)) else (sw_gd (sw_in p1 6) (sw_jn0 (fun S3 => (sw_gd (sw_in p1 6) (sw_jn1 (fun y1 S4 => (sw_fx2 (fun rec1 x4_1 x5_1 S5 => (if x5_1 = 0 then (some (x4_1, S5)) else (if x4_1 ≥ p3 then (some (x4_1, S5)) else (sw_gd (sw_in p1 6) (sw_jn1 (fun y2 S6 => (sw_li ((((60 : Int32) * p1) + p2) + ((3 : Int32) * x4_1)) (fun x6_1 => (sw_jn1 (fun y3 S7 => (if y3 = 0 then (rec1 x4_1 y3 S7) else (sw_gd (sw_in x6_1 360) (sw_gd (sw_in (x6_1 + (1 : Int32)) 360) (sw_gd (sw_in (x6_1 + (2 : Int32)) 360) (sw_bd (fX9_adds N ((S7.2 126 x6_1.toNatClampNeg).toInt32) ((S7.2 126 (x6_1 + (1 : Int32)).toNatClampNeg).toInt32) ((S7.2 126 (x6_1 + (2 : Int32)).toNatClampNeg).toInt32) S7) (fun _ S8 => (rec1 (x4_1 + (1 : Int32)) y3 S8)))))))) (fun k4 => (sw_jn2 (fun x4_2 x6_2 S9 => (k4 (0 : Int32) S9)) (fun k5 => (if y2 = 0 then (k5 x4_1 x6_1 S6) else (sw_gd (sw_in x6_1 360) (sw_gd (sw_in (x6_1 + (1 : Int32)) 360) (sw_gd (sw_in (x6_1 + (2 : Int32)) 360) (sw_bd (fX9_mayCome N (S6.2 126 x6_1.toNatClampNeg) (S6.2 126 (x6_1 + (1 : Int32)).toNatClampNeg) (S6.2 126 (x6_1 + (2 : Int32)).toNatClampNeg) S6) (fun r4 S10 => (if r4 = 0 then (k5 x4_1 x6_1 S10) else (k4 (1 : Int32) S10))))))))))))))) (fun k3 => (sw_jn1 (fun x4_3 S11 => (k3 (0 : Int32) S11)) (fun k6 => (if p2 > (((S5.1 125 p1.toNatClampNeg) - (3 : Int32)) - ((3 : Int32) * x4_1)) then (k6 x4_1 S5) else (if (S5.1 105 6) ≥ (10 : Int32) then (k6 x4_1 S5) else (k3 (1 : Int32) S5))))))))))) N (0 : Int32) y1 S4)) (fun k2 => (sw_jn0 (fun S12 => (k2 (0 : Int32) S12)) (fun k7 => (if (S3.1 124 p1.toNatClampNeg) = (50 : Int32) then (if p2 < 0 then (k7 S3) else (k2 (1 : Int32) S3)) else (k7 S3)))))))) (fun k1 => (if (S2.1 124 p1.toNatClampNeg) < 0 then (k1 S2) else (sw_gd (sw_in p1 6) (if (S2.1 124 p1.toNatClampNeg) = (50 : Int32) then (k1 S2) else (some ((-12 : Int32), S2)))))))))))))
theorem hX9_swords {G : sw_G} {N d : Nat} (hd : 4 ≤ d) {p1 : Int32} {p2 : Int32} {p3 : Int32}  {S : sw_St} : sw_Ev G yX9_swords cX9_swords 7 (some .int) d sw_ei [sw_vr G 105, .int p1, .int p2, .int p3] S (fX9_swords N p1 p2 p3 S) := by
  refine sw_Ev_of (own := RX9) (lv0 := [some (sw_vr G 105), some (.int p1), some (.int p2), some (.int p3), none, none, none]) (by decide) rfl (Nat.le_of_ble_eq_true rfl) rfl ?_
  unfold fX9_swords
  refine sw_ild_7_1 (np := 1) dX9_swords_0 rfl ?_
  refine sw_cS1i (np := 4) (hX9_isShelf (d := d - 1) (by omega) ) sw_ms_X9_isShelf sw_wl_RX9_119 dX9_swords_1 (sw_fit_rm (by omega) (by decide)) (Nat.le_of_ble_eq_true rfl) rfl (fun r1 S1 => ?_)
  refine sw_if_eq (np := 7) (tp := 19) dX9_swords_4 rfl rfl ?_ ?_
  · refine sw_iconst (np := 20) dX9_swords_19 sw_ic_m1 rfl ?_
    exact sw_iret dX9_swords_20
  · refine sw_ild_7_3 (np := 8) dX9_swords_7 rfl ?_
    refine sw_i2l (np := 9) dX9_swords_8 rfl ?_
    refine sw_lconst (np := 10) dX9_swords_9 sw_lc_1 rfl ?_
    refine sw_ldc2 (np := 13) sw_wc_RX9_123 dX9_swords_10 rfl ?_
    refine sw_cS3i (np := 16) (hX9_within (d := d - 1) (by omega) ) sw_ms_X9_within sw_wl_RX9_98 dX9_swords_13 (sw_fit_rm (by omega) (by decide)) (Nat.le_of_ble_eq_true rfl) rfl (fun r2 S2 => ?_)
    refine sw_if_ne (np := 19) (tp := 21) dX9_swords_16 rfl rfl ?_ ?_
    · refine sw_ald_7_0 (np := 22) dX9_swords_21 rfl ?_
      refine sw_gR (np := 25) sw_f_RX9_64 sw_k_105 sw_r_105_38 dX9_swords_22 rfl ?_
      refine sw_ild_7_1 (np := 26) dX9_swords_25 rfl ?_
      refine sw_iald (np := 27) sw_k_124 sw_n_124 dX9_swords_26 rfl ?_
      refine sw_jm0 (pj := 44) ([some (sw_vr G 105), some (.int p1), some (.int p2), some (.int p3), none, none, none]) ([]) (fun S3 => ?_) (fun k1 hk1 => ?_)
      · refine sw_iconst (np := 45) dX9_swords_44 sw_ic_0 rfl ?_
        refine sw_ist_7_4 (np := 47) dX9_swords_45 rfl rfl ?_
        refine sw_ald_7_0 (np := 48) dX9_swords_47 rfl ?_
        refine sw_gR (np := 51) sw_f_RX9_64 sw_k_105 sw_r_105_38 dX9_swords_48 rfl ?_
        refine sw_ild_7_1 (np := 52) dX9_swords_51 rfl ?_
        refine sw_iald (np := 53) sw_k_124 sw_n_124 dX9_swords_52 rfl ?_
        refine sw_bipush (np := 55) dX9_swords_53 sw_bc_50 rfl ?_
        refine sw_jm1 (pj := 67) (fun y1 => [some (sw_vr G 105), some (.int p1), some (.int p2), some (.int p3), some (.int (0 : Int32)), none, none]) (fun y1 => [.int y1]) (fun y1 S4 => ?_) (fun k2 hk2 => ?_)
        · refine sw_ist_7_5 (np := 69) dX9_swords_67 rfl rfl ?_
          refine sw_lp2 (lv := fun x4_1 x5_1 => [some (sw_vr G 105), some (.int p1), some (.int p2), some (.int p3), some (.int x4_1), some (.int x5_1), none]) (fun rec1 hrec1 x4_1 x5_1 S5 => ?_) _ _ _ _
          refine sw_ild_7_5 (np := 71) dX9_swords_69 rfl ?_
          refine sw_if_eq (np := 74) (tp := 213) dX9_swords_71 rfl rfl ?_ ?_
          · refine sw_ild_7_4 (np := 215) dX9_swords_213 rfl ?_
            exact sw_iret dX9_swords_215
          · refine sw_ild_7_4 (np := 76) dX9_swords_74 rfl ?_
            refine sw_ild_7_3 (np := 77) dX9_swords_76 rfl ?_
            refine sw_icmp_ge (np := 80) (tp := 213) dX9_swords_77 rfl rfl ?_ ?_
            · refine sw_ild_7_4 (np := 215) dX9_swords_213 rfl ?_
              exact sw_iret dX9_swords_215
            · refine sw_ild_7_2 (np := 81) dX9_swords_80 rfl ?_
              refine sw_ald_7_0 (np := 82) dX9_swords_81 rfl ?_
              refine sw_gR (np := 85) sw_f_RX9_67 sw_k_105 sw_r_105_39 dX9_swords_82 rfl ?_
              refine sw_ild_7_1 (np := 86) dX9_swords_85 rfl ?_
              refine sw_iald (np := 87) sw_k_125 sw_n_125 dX9_swords_86 rfl ?_
              refine sw_iconst (np := 88) dX9_swords_87 sw_ic_3 rfl ?_
              refine sw_isub (np := 89) dX9_swords_88 rfl ?_
              refine sw_iconst (np := 90) dX9_swords_89 sw_ic_3 rfl ?_
              refine sw_ild_7_4 (np := 92) dX9_swords_90 rfl ?_
              refine sw_imul (np := 93) dX9_swords_92 rfl ?_
              refine sw_isub (np := 94) dX9_swords_93 rfl ?_
              refine sw_jm1 (pj := 111) (fun y2 => [some (sw_vr G 105), some (.int p1), some (.int p2), some (.int p3), some (.int x4_1), none, none]) (fun y2 => [.int y2]) (fun y2 S6 => ?_) (fun k3 hk3 => ?_)
              · refine sw_ist_7_5 (np := 113) dX9_swords_111 rfl rfl ?_
                refine sw_bipush (np := 115) dX9_swords_113 sw_bc_60 rfl ?_
                refine sw_ild_7_1 (np := 116) dX9_swords_115 rfl ?_
                refine sw_imul (np := 117) dX9_swords_116 rfl ?_
                refine sw_ild_7_2 (np := 118) dX9_swords_117 rfl ?_
                refine sw_iadd (np := 119) dX9_swords_118 rfl ?_
                refine sw_iconst (np := 120) dX9_swords_119 sw_ic_3 rfl ?_
                refine sw_ild_7_4 (np := 122) dX9_swords_120 rfl ?_
                refine sw_imul (np := 123) dX9_swords_122 rfl ?_
                refine sw_iadd (np := 124) dX9_swords_123 rfl ?_
                refine sw_isl_7_6 (np := 126) dX9_swords_124 rfl rfl (fun x6_1 => ?_)
                refine sw_ild_7_5 (np := 128) dX9_swords_126 rfl ?_
                refine sw_jm1 (pj := 168) (fun y3 => [some (sw_vr G 105), some (.int p1), some (.int p2), some (.int p3), some (.int x4_1), none, some (.int x6_1)]) (fun y3 => [.int y3]) (fun y3 S7 => ?_) (fun k4 hk4 => ?_)
                · refine sw_ist_7_5 (np := 170) dX9_swords_168 rfl rfl ?_
                  refine sw_ild_7_5 (np := 172) dX9_swords_170 rfl ?_
                  refine sw_if_eq (np := 175) (tp := 210) dX9_swords_172 rfl rfl ?_ ?_
                  · refine sw_goto (tp := 69) dX9_swords_210 rfl ?_
                    refine sw_dr_7_6 ?_
                    exact hrec1 _ _ _
                  · refine sw_ald_7_0 (np := 176) dX9_swords_175 rfl ?_
                    refine sw_ald_7_0 (np := 177) dX9_swords_176 rfl ?_
                    refine sw_gR (np := 180) sw_f_RX9_70 sw_k_105 sw_r_105_40 dX9_swords_177 rfl ?_
                    refine sw_ild_7_6 (np := 182) dX9_swords_180 rfl ?_
                    refine sw_lald (np := 183) sw_k_126 sw_n_126 dX9_swords_182 rfl ?_
                    refine sw_l2i (np := 184) dX9_swords_183 rfl ?_
                    refine sw_ald_7_0 (np := 185) dX9_swords_184 rfl ?_
                    refine sw_gR (np := 188) sw_f_RX9_70 sw_k_105 sw_r_105_40 dX9_swords_185 rfl ?_
                    refine sw_ild_7_6 (np := 190) dX9_swords_188 rfl ?_
                    refine sw_iconst (np := 191) dX9_swords_190 sw_ic_1 rfl ?_
                    refine sw_iadd (np := 192) dX9_swords_191 rfl ?_
                    refine sw_lald (np := 193) sw_k_126 sw_n_126 dX9_swords_192 rfl ?_
                    refine sw_l2i (np := 194) dX9_swords_193 rfl ?_
                    refine sw_ald_7_0 (np := 195) dX9_swords_194 rfl ?_
                    refine sw_gR (np := 198) sw_f_RX9_70 sw_k_105 sw_r_105_40 dX9_swords_195 rfl ?_
                    refine sw_ild_7_6 (np := 200) dX9_swords_198 rfl ?_
                    refine sw_iconst (np := 201) dX9_swords_200 sw_ic_2 rfl ?_
                    refine sw_iadd (np := 202) dX9_swords_201 rfl ?_
                    refine sw_lald (np := 203) sw_k_126 sw_n_126 dX9_swords_202 rfl ?_
                    refine sw_l2i (np := 204) dX9_swords_203 rfl ?_
                    refine sw_cV3v (np := 207) (hX9_adds (d := d - 1) (by omega) ) sw_mv_X9_adds sw_k_105 sw_wl_RX9_115 dX9_swords_204 (sw_fit_rm (by omega) (by decide)) (Nat.le_of_ble_eq_true rfl) rfl (fun _ S8 => ?_)
                    refine sw_inc_7_4 (np := 210) dX9_swords_207 sw_ic_1 rfl rfl ?_
                    refine sw_goto (tp := 69) dX9_swords_210 rfl ?_
                    refine sw_dr_7_6 ?_
                    exact hrec1 _ _ _
                · refine sw_jm2 (pj := 167) (fun x4_2 x6_2 => [some (sw_vr G 105), some (.int p1), some (.int p2), some (.int p3), some (.int x4_2), none, some (.int x6_2)]) (fun x4_2 x6_2 => []) (fun x4_2 x6_2 S9 => ?_) (fun k5 hk5 => ?_)
                  · refine sw_iconst (np := 168) dX9_swords_167 sw_ic_0 rfl ?_
                    exact hk4 _ _
                  · refine sw_if_eq (np := 131) (tp := 167) dX9_swords_128 rfl rfl ?_ ?_
                    · refine sw_dr_7_5 ?_
                      exact hk5 _ _ _
                    · refine sw_ald_7_0 (np := 132) dX9_swords_131 rfl ?_
                      refine sw_ald_7_0 (np := 133) dX9_swords_132 rfl ?_
                      refine sw_gR (np := 136) sw_f_RX9_70 sw_k_105 sw_r_105_40 dX9_swords_133 rfl ?_
                      refine sw_ild_7_6 (np := 138) dX9_swords_136 rfl ?_
                      refine sw_lald (np := 139) sw_k_126 sw_n_126 dX9_swords_138 rfl ?_
                      refine sw_ald_7_0 (np := 140) dX9_swords_139 rfl ?_
                      refine sw_gR (np := 143) sw_f_RX9_70 sw_k_105 sw_r_105_40 dX9_swords_140 rfl ?_
                      refine sw_ild_7_6 (np := 145) dX9_swords_143 rfl ?_
                      refine sw_iconst (np := 146) dX9_swords_145 sw_ic_1 rfl ?_
                      refine sw_iadd (np := 147) dX9_swords_146 rfl ?_
                      refine sw_lald (np := 148) sw_k_126 sw_n_126 dX9_swords_147 rfl ?_
                      refine sw_ald_7_0 (np := 149) dX9_swords_148 rfl ?_
                      refine sw_gR (np := 152) sw_f_RX9_70 sw_k_105 sw_r_105_40 dX9_swords_149 rfl ?_
                      refine sw_ild_7_6 (np := 154) dX9_swords_152 rfl ?_
                      refine sw_iconst (np := 155) dX9_swords_154 sw_ic_2 rfl ?_
                      refine sw_iadd (np := 156) dX9_swords_155 rfl ?_
                      refine sw_lald (np := 157) sw_k_126 sw_n_126 dX9_swords_156 rfl ?_
                      refine sw_cV3i (np := 160) (hX9_mayCome (d := d - 1) (by omega) ) sw_mv_X9_mayCome sw_k_105 sw_wl_RX9_112 dX9_swords_157 (sw_fit_rm (by omega) (by decide)) (Nat.le_of_ble_eq_true rfl) rfl (fun r4 S10 => ?_)
                      refine sw_if_eq (np := 163) (tp := 167) dX9_swords_160 rfl rfl ?_ ?_
                      · refine sw_dr_7_5 ?_
                        exact hk5 _ _ _
                      · refine sw_iconst (np := 164) dX9_swords_163 sw_ic_1 rfl ?_
                        refine sw_goto (tp := 168) dX9_swords_164 rfl ?_
                        refine sw_dr_7_5 ?_
                        exact hk4 _ _
              · refine sw_jm1 (pj := 110) (fun x4_3 => [some (sw_vr G 105), some (.int p1), some (.int p2), some (.int p3), some (.int x4_3), none, none]) (fun x4_3 => []) (fun x4_3 S11 => ?_) (fun k6 hk6 => ?_)
                · refine sw_iconst (np := 111) dX9_swords_110 sw_ic_0 rfl ?_
                  exact hk3 _ _
                · refine sw_icmp_gt (np := 97) (tp := 110) dX9_swords_94 rfl rfl ?_ ?_
                  · refine sw_dr_7_5 ?_
                    exact hk6 _ _
                  · refine sw_ald_7_0 (np := 98) dX9_swords_97 rfl ?_
                    refine sw_gI (np := 101) sw_f_RX9_95 sw_k_105 dX9_swords_98 rfl ?_
                    refine sw_bipush (np := 103) dX9_swords_101 sw_bc_10 rfl ?_
                    refine sw_icmp_ge (np := 106) (tp := 110) dX9_swords_103 rfl rfl ?_ ?_
                    · refine sw_dr_7_5 ?_
                      exact hk6 _ _
                    · refine sw_iconst (np := 107) dX9_swords_106 sw_ic_1 rfl ?_
                      refine sw_goto (tp := 111) dX9_swords_107 rfl ?_
                      refine sw_dr_7_5 ?_
                      exact hk3 _ _
        · refine sw_jm0 (pj := 66) ([some (sw_vr G 105), some (.int p1), some (.int p2), some (.int p3), some (.int (0 : Int32)), none, none]) ([]) (fun S12 => ?_) (fun k7 hk7 => ?_)
          · refine sw_iconst (np := 67) dX9_swords_66 sw_ic_0 rfl ?_
            exact hk2 _ _
          · refine sw_icmp_ne (np := 58) (tp := 66) dX9_swords_55 rfl rfl ?_ ?_
            · exact hk7 _
            · refine sw_ild_7_2 (np := 59) dX9_swords_58 rfl ?_
              refine sw_if_lt (np := 62) (tp := 66) dX9_swords_59 rfl rfl ?_ ?_
              · exact hk7 _
              · refine sw_iconst (np := 63) dX9_swords_62 sw_ic_1 rfl ?_
                refine sw_goto (tp := 67) dX9_swords_63 rfl ?_
                exact hk2 _ _
      · refine sw_if_lt (np := 30) (tp := 44) dX9_swords_27 rfl rfl ?_ ?_
        · exact hk1 _
        · refine sw_ald_7_0 (np := 31) dX9_swords_30 rfl ?_
          refine sw_gR (np := 34) sw_f_RX9_64 sw_k_105 sw_r_105_38 dX9_swords_31 rfl ?_
          refine sw_ild_7_1 (np := 35) dX9_swords_34 rfl ?_
          refine sw_iald (np := 36) sw_k_124 sw_n_124 dX9_swords_35 rfl ?_
          refine sw_bipush (np := 38) dX9_swords_36 sw_bc_50 rfl ?_
          refine sw_icmp_eq (np := 41) (tp := 44) dX9_swords_38 rfl rfl ?_ ?_
          · exact hk1 _
          · refine sw_bipush (np := 43) dX9_swords_41 sw_bc_m12 rfl ?_
            exact sw_iret dX9_swords_43
    · refine sw_iconst (np := 20) dX9_swords_19 sw_ic_m1 rfl ?_
      exact sw_iret dX9_swords_20
/-- SwordAtticModel.placeOf(II)I -/
def fX9_placeOf (N : Nat) (p1 : Int32) (p2 : Int32) (S : sw_St) : Option (Int32 × sw_St) :=
  sw_bd (fX9_within N p2.toInt64 (0 : Int64) (4 : Int64) S) (fun r1 S1 => (if r1 = 0 then (if p1 = 0 then (sw_bd (fX9_within N p2.toInt64 (5 : Int64) (7 : Int64) S1) (fun r2 S2 => (if r2 = 0 then (some ((-1 : Int32), S2)) else (some ((((50 : Int32) + p2) - (5 : Int32)), S2))))) else (some ((-1 : Int32), S1))) else (sw_bd (fX9_isSword N p1.toInt64 S1) (fun r3 S3 => (if r3 = 0 then (some ((-1 : Int32), S3)) else (some ((((10 : Int32) * p2) + p1), S3)))))))
theorem hX9_placeOf {G : sw_G} {N d : Nat} (hd : 3 ≤ d) {p1 : Int32} {p2 : Int32}  {S : sw_St} : sw_Ev G yX9_placeOf cX9_placeOf 3 (some .int) d sw_ei [sw_vr G 105, .int p1, .int p2] S (fX9_placeOf N p1 p2 S) := by
  refine sw_Ev_of (own := RX9) (lv0 := [some (sw_vr G 105), some (.int p1), some (.int p2)]) (by decide) rfl (Nat.le_of_ble_eq_true rfl) rfl ?_
  unfold fX9_placeOf
  refine sw_ild_3_2 (np := 1) dX9_placeOf_0 rfl ?_
  refine sw_i2l (np := 2) dX9_placeOf_1 rfl ?_
  refine sw_lconst (np := 3) dX9_placeOf_2 sw_lc_0 rfl ?_
  refine sw_ldc2 (np := 6) sw_wc_RX9_125 dX9_placeOf_3 rfl ?_
  refine sw_cS3i (np := 9) (hX9_within (d := d - 1) (by omega) ) sw_ms_X9_within sw_wl_RX9_98 dX9_placeOf_6 (sw_fit_rm (by omega) (by decide)) (Nat.le_of_ble_eq_true rfl) rfl (fun r1 S1 => ?_)
  refine sw_if_eq (np := 12) (tp := 32) dX9_placeOf_9 rfl rfl ?_ ?_
  · refine sw_ild_3_1 (np := 33) dX9_placeOf_32 rfl ?_
    refine sw_if_ne (np := 36) (tp := 59) dX9_placeOf_33 rfl rfl ?_ ?_
    · refine sw_iconst (np := 60) dX9_placeOf_59 sw_ic_m1 rfl ?_
      exact sw_iret dX9_placeOf_60
    · refine sw_ild_3_2 (np := 37) dX9_placeOf_36 rfl ?_
      refine sw_i2l (np := 38) dX9_placeOf_37 rfl ?_
      refine sw_ldc2 (np := 41) sw_wc_RX9_130 dX9_placeOf_38 rfl ?_
      refine sw_ldc2 (np := 44) sw_wc_RX9_132 dX9_placeOf_41 rfl ?_
      refine sw_cS3i (np := 47) (hX9_within (d := d - 1) (by omega) ) sw_ms_X9_within sw_wl_RX9_98 dX9_placeOf_44 (sw_fit_rm (by omega) (by decide)) (Nat.le_of_ble_eq_true rfl) rfl (fun r2 S2 => ?_)
      refine sw_if_eq (np := 50) (tp := 59) dX9_placeOf_47 rfl rfl ?_ ?_
      · refine sw_iconst (np := 60) dX9_placeOf_59 sw_ic_m1 rfl ?_
        exact sw_iret dX9_placeOf_60
      · refine sw_bipush (np := 52) dX9_placeOf_50 sw_bc_50 rfl ?_
        refine sw_ild_3_2 (np := 53) dX9_placeOf_52 rfl ?_
        refine sw_iadd (np := 54) dX9_placeOf_53 rfl ?_
        refine sw_iconst (np := 55) dX9_placeOf_54 sw_ic_5 rfl ?_
        refine sw_isub (np := 56) dX9_placeOf_55 rfl ?_
        refine sw_goto (tp := 60) dX9_placeOf_56 rfl ?_
        exact sw_iret dX9_placeOf_60
  · refine sw_ald_3_0 (np := 13) dX9_placeOf_12 rfl ?_
    refine sw_ild_3_1 (np := 14) dX9_placeOf_13 rfl ?_
    refine sw_i2l (np := 15) dX9_placeOf_14 rfl ?_
    refine sw_cV1i (np := 18) (hX9_isSword (d := d - 1) (by omega) ) sw_mv_X9_isSword sw_k_105 sw_wl_RX9_127 dX9_placeOf_15 (sw_fit_rm (by omega) (by decide)) (Nat.le_of_ble_eq_true rfl) rfl (fun r3 S3 => ?_)
    refine sw_if_eq (np := 21) (tp := 30) dX9_placeOf_18 rfl rfl ?_ ?_
    · refine sw_iconst (np := 31) dX9_placeOf_30 sw_ic_m1 rfl ?_
      exact sw_iret dX9_placeOf_31
    · refine sw_bipush (np := 23) dX9_placeOf_21 sw_bc_10 rfl ?_
      refine sw_ild_3_2 (np := 24) dX9_placeOf_23 rfl ?_
      refine sw_imul (np := 25) dX9_placeOf_24 rfl ?_
      refine sw_ild_3_1 (np := 26) dX9_placeOf_25 rfl ?_
      refine sw_iadd (np := 27) dX9_placeOf_26 rfl ?_
      refine sw_goto (tp := 31) dX9_placeOf_27 rfl ?_
      exact sw_iret dX9_placeOf_31
/-- SwordAtticModel.mayBecome(III)Z -/
def fX9_mayBecome (N : Nat) (p1 : Int32) (p2 : Int32) (p3 : Int32) (S : sw_St) : Option (Int32 × sw_St) :=
  if p2 = (0 : Int32) then (sw_bd (fX9_isCot N p3.toInt64 S) (fun r1 S1 => (if r1 = 0 then (some (vp_nar .boolean (0 : Int32), S1)) else (sw_bd (fX9_inCot N p3 S1) (fun r2 S2 => (if r2 < 0 then (some (vp_nar .boolean (1 : Int32), S2)) else (sw_bd (fX9_inCot N p3 S2) (fun r3 S3 => (if r3 = p1 then (some (vp_nar .boolean (1 : Int32), S3)) else (some (vp_nar .boolean (0 : Int32), S3))))))))))) else (if p2 = (1 : Int32) then (sw_bd (fX9_within N p3.toInt64 (0 : Int64) (9 : Int64) S) (fun r4 S4 => (some (vp_nar .boolean r4, S4)))) else (if p2 = (2 : Int32) then (sw_bd (fX9_within N p3.toInt64 (0 : Int64) (99 : Int64) S) (fun r5 S5 => (some (vp_nar .boolean r5, S5)))) else (if p2 = (3 : Int32) then (sw_bd (fX9_within N p3.toInt64 (0 : Int64) (99 : Int64) S) (fun r6 S6 => (some (vp_nar .boolean r6, S6)))) else (if p2 = (4 : Int32) then (sw_bd (fX9_within N p3.toInt64 (0 : Int64) (1 : Int64) S) (fun r7 S7 => (some (vp_nar .boolean r7, S7)))) else (if p2 = (5 : Int32) then (sw_bd (fX9_within N p3.toInt64 (0 : Int64) (11 : Int64) S) (fun r8 S8 => (some (vp_nar .boolean r8, S8)))) else (if p2 = (6 : Int32) then (sw_bd (fX9_within N p3.toInt64 (0 : Int64) (50 : Int64) S) (fun r9 S9 => (some (vp_nar .boolean r9, S9)))) else (if p2 = (7 : Int32) then (sw_bd (fX9_isCot N p3.toInt64 S) (fun r10 S10 => (some (vp_nar .boolean r10, S10)))) else (sw_bd (fX9_within N p3.toInt64 (0 : Int64) (99 : Int64) S) (fun r11 S11 => (some (vp_nar .boolean r11, S11)))))))))))
theorem hX9_mayBecome {G : sw_G} {N d : Nat} (hd : 3 ≤ d) {p1 : Int32} {p2 : Int32} {p3 : Int32}  {S : sw_St} : sw_Ev G yX9_mayBecome cX9_mayBecome 4 (some .boolean) d sw_ei [sw_vr G 105, .int p1, .int p2, .int p3] S (fX9_mayBecome N p1 p2 p3 S) := by
  refine sw_Ev_of (own := RX9) (lv0 := [some (sw_vr G 105), some (.int p1), some (.int p2), some (.int p3)]) (by decide) rfl (Nat.le_of_ble_eq_true rfl) rfl ?_
  unfold fX9_mayBecome
  refine sw_ild_4_2 (np := 1) dX9_mayBecome_0 rfl ?_
  refine sw_ite (fun hs1 => ?_) (fun hs1 => ?_)
  · refine sw_tabIn (tp := 48) dX9_mayBecome_1 (by rw [hs1]; decide) (by rw [hs1]; decide) (by rw [hs1]; rfl) rfl ?_
    refine sw_ild_4_3 (np := 49) dX9_mayBecome_48 rfl ?_
    refine sw_i2l (np := 50) dX9_mayBecome_49 rfl ?_
    refine sw_cS1i (np := 53) (hX9_isCot (d := d - 1) (by omega) ) sw_ms_X9_isCot sw_wl_RX9_104 dX9_mayBecome_50 (sw_fit_rm (by omega) (by decide)) (Nat.le_of_ble_eq_true rfl) rfl (fun r1 S1 => ?_)
    refine sw_if_eq (np := 56) (tp := 77) dX9_mayBecome_53 rfl rfl ?_ ?_
    · refine sw_iconst (np := 78) dX9_mayBecome_77 sw_ic_0 rfl ?_
      exact sw_zret dX9_mayBecome_78
    · refine sw_ald_4_0 (np := 57) dX9_mayBecome_56 rfl ?_
      refine sw_ild_4_3 (np := 58) dX9_mayBecome_57 rfl ?_
      refine sw_cV1i (np := 61) (hX9_inCot (d := d - 1) (by omega) ) sw_mv_X9_inCot sw_k_105 sw_wl_RX9_87 dX9_mayBecome_58 (sw_fit_rm (by omega) (by decide)) (Nat.le_of_ble_eq_true rfl) rfl (fun r2 S2 => ?_)
      refine sw_if_lt (np := 64) (tp := 73) dX9_mayBecome_61 rfl rfl ?_ ?_
      · refine sw_iconst (np := 74) dX9_mayBecome_73 sw_ic_1 rfl ?_
        refine sw_goto (tp := 78) dX9_mayBecome_74 rfl ?_
        exact sw_zret dX9_mayBecome_78
      · refine sw_ald_4_0 (np := 65) dX9_mayBecome_64 rfl ?_
        refine sw_ild_4_3 (np := 66) dX9_mayBecome_65 rfl ?_
        refine sw_cV1i (np := 69) (hX9_inCot (d := d - 1) (by omega) ) sw_mv_X9_inCot sw_k_105 sw_wl_RX9_87 dX9_mayBecome_66 (sw_fit_rm (by omega) (by decide)) (Nat.le_of_ble_eq_true rfl) rfl (fun r3 S3 => ?_)
        refine sw_ild_4_1 (np := 70) dX9_mayBecome_69 rfl ?_
        refine sw_icmp_ne (np := 73) (tp := 77) dX9_mayBecome_70 rfl rfl ?_ ?_
        · refine sw_iconst (np := 78) dX9_mayBecome_77 sw_ic_0 rfl ?_
          exact sw_zret dX9_mayBecome_78
        · refine sw_iconst (np := 74) dX9_mayBecome_73 sw_ic_1 rfl ?_
          refine sw_goto (tp := 78) dX9_mayBecome_74 rfl ?_
          exact sw_zret dX9_mayBecome_78
  · refine sw_ite (fun hs2 => ?_) (fun hs2 => ?_)
    · refine sw_tabIn (tp := 79) dX9_mayBecome_1 (by rw [hs2]; decide) (by rw [hs2]; decide) (by rw [hs2]; rfl) rfl ?_
      refine sw_ild_4_3 (np := 80) dX9_mayBecome_79 rfl ?_
      refine sw_i2l (np := 81) dX9_mayBecome_80 rfl ?_
      refine sw_lconst (np := 82) dX9_mayBecome_81 sw_lc_0 rfl ?_
      refine sw_ldc2 (np := 85) sw_wc_RX9_108 dX9_mayBecome_82 rfl ?_
      refine sw_cS3i (np := 88) (hX9_within (d := d - 1) (by omega) ) sw_ms_X9_within sw_wl_RX9_98 dX9_mayBecome_85 (sw_fit_rm (by omega) (by decide)) (Nat.le_of_ble_eq_true rfl) rfl (fun r4 S4 => ?_)
      exact sw_zret dX9_mayBecome_88
    · refine sw_ite (fun hs3 => ?_) (fun hs3 => ?_)
      · refine sw_tabIn (tp := 123) dX9_mayBecome_1 (by rw [hs3]; decide) (by rw [hs3]; decide) (by rw [hs3]; rfl) rfl ?_
        refine sw_ild_4_3 (np := 124) dX9_mayBecome_123 rfl ?_
        refine sw_i2l (np := 125) dX9_mayBecome_124 rfl ?_
        refine sw_lconst (np := 126) dX9_mayBecome_125 sw_lc_0 rfl ?_
        refine sw_ldc2 (np := 129) sw_wc_RX9_110 dX9_mayBecome_126 rfl ?_
        refine sw_cS3i (np := 132) (hX9_within (d := d - 1) (by omega) ) sw_ms_X9_within sw_wl_RX9_98 dX9_mayBecome_129 (sw_fit_rm (by omega) (by decide)) (Nat.le_of_ble_eq_true rfl) rfl (fun r5 S5 => ?_)
        exact sw_zret dX9_mayBecome_132
      · refine sw_ite (fun hs4 => ?_) (fun hs4 => ?_)
        · refine sw_tabIn (tp := 123) dX9_mayBecome_1 (by rw [hs4]; decide) (by rw [hs4]; decide) (by rw [hs4]; rfl) rfl ?_
          refine sw_ild_4_3 (np := 124) dX9_mayBecome_123 rfl ?_
          refine sw_i2l (np := 125) dX9_mayBecome_124 rfl ?_
          refine sw_lconst (np := 126) dX9_mayBecome_125 sw_lc_0 rfl ?_
          refine sw_ldc2 (np := 129) sw_wc_RX9_110 dX9_mayBecome_126 rfl ?_
          refine sw_cS3i (np := 132) (hX9_within (d := d - 1) (by omega) ) sw_ms_X9_within sw_wl_RX9_98 dX9_mayBecome_129 (sw_fit_rm (by omega) (by decide)) (Nat.le_of_ble_eq_true rfl) rfl (fun r6 S6 => ?_)
          exact sw_zret dX9_mayBecome_132
        · refine sw_ite (fun hs5 => ?_) (fun hs5 => ?_)
          · refine sw_tabIn (tp := 89) dX9_mayBecome_1 (by rw [hs5]; decide) (by rw [hs5]; decide) (by rw [hs5]; rfl) rfl ?_
            refine sw_ild_4_3 (np := 90) dX9_mayBecome_89 rfl ?_
            refine sw_i2l (np := 91) dX9_mayBecome_90 rfl ?_
            refine sw_lconst (np := 92) dX9_mayBecome_91 sw_lc_0 rfl ?_
            refine sw_lconst (np := 93) dX9_mayBecome_92 sw_lc_1 rfl ?_
            refine sw_cS3i (np := 96) (hX9_within (d := d - 1) (by omega) ) sw_ms_X9_within sw_wl_RX9_98 dX9_mayBecome_93 (sw_fit_rm (by omega) (by decide)) (Nat.le_of_ble_eq_true rfl) rfl (fun r7 S7 => ?_)
            exact sw_zret dX9_mayBecome_96
          · refine sw_ite (fun hs6 => ?_) (fun hs6 => ?_)
            · refine sw_tabIn (tp := 97) dX9_mayBecome_1 (by rw [hs6]; decide) (by rw [hs6]; decide) (by rw [hs6]; rfl) rfl ?_
              refine sw_ild_4_3 (np := 98) dX9_mayBecome_97 rfl ?_
              refine sw_i2l (np := 99) dX9_mayBecome_98 rfl ?_
              refine sw_lconst (np := 100) dX9_mayBecome_99 sw_lc_0 rfl ?_
              refine sw_ldc2 (np := 103) sw_wc_RX9_102 dX9_mayBecome_100 rfl ?_
              refine sw_cS3i (np := 106) (hX9_within (d := d - 1) (by omega) ) sw_ms_X9_within sw_wl_RX9_98 dX9_mayBecome_103 (sw_fit_rm (by omega) (by decide)) (Nat.le_of_ble_eq_true rfl) rfl (fun r8 S8 => ?_)
              exact sw_zret dX9_mayBecome_106
            · refine sw_ite (fun hs7 => ?_) (fun hs7 => ?_)
              · refine sw_tabIn (tp := 107) dX9_mayBecome_1 (by rw [hs7]; decide) (by rw [hs7]; decide) (by rw [hs7]; rfl) rfl ?_
                refine sw_ild_4_3 (np := 108) dX9_mayBecome_107 rfl ?_
                refine sw_i2l (np := 109) dX9_mayBecome_108 rfl ?_
                refine sw_lconst (np := 110) dX9_mayBecome_109 sw_lc_0 rfl ?_
                refine sw_ldc2 (np := 113) sw_wc_RX9_134 dX9_mayBecome_110 rfl ?_
                refine sw_cS3i (np := 116) (hX9_within (d := d - 1) (by omega) ) sw_ms_X9_within sw_wl_RX9_98 dX9_mayBecome_113 (sw_fit_rm (by omega) (by decide)) (Nat.le_of_ble_eq_true rfl) rfl (fun r9 S9 => ?_)
                exact sw_zret dX9_mayBecome_116
              · refine sw_ite (fun hs8 => ?_) (fun hs8 => ?_)
                · refine sw_tabIn (tp := 117) dX9_mayBecome_1 (by rw [hs8]; decide) (by rw [hs8]; decide) (by rw [hs8]; rfl) rfl ?_
                  refine sw_ild_4_3 (np := 118) dX9_mayBecome_117 rfl ?_
                  refine sw_i2l (np := 119) dX9_mayBecome_118 rfl ?_
                  refine sw_cS1i (np := 122) (hX9_isCot (d := d - 1) (by omega) ) sw_ms_X9_isCot sw_wl_RX9_104 dX9_mayBecome_119 (sw_fit_rm (by omega) (by decide)) (Nat.le_of_ble_eq_true rfl) rfl (fun r10 S10 => ?_)
                  exact sw_zret dX9_mayBecome_122
                · have hs1n := sw_neI sw_ic_0 (by decide) (by decide) hs1
                  have hs2n := sw_neI sw_ic_1 (by decide) (by decide) hs2
                  have hs3n := sw_neI sw_ic_2 (by decide) (by decide) hs3
                  have hs4n := sw_neI sw_ic_3 (by decide) (by decide) hs4
                  have hs5n := sw_neI sw_ic_4 (by decide) (by decide) hs5
                  have hs6n := sw_neI sw_ic_5 (by decide) (by decide) hs6
                  have hs7n := sw_neI sw_ic_6 (by decide) (by decide) hs7
                  have hs8n := sw_neI sw_ic_7 (by decide) (by decide) hs8
                  refine sw_tabOut (tp := 123) dX9_mayBecome_1 (by omega) rfl ?_
                  refine sw_ild_4_3 (np := 124) dX9_mayBecome_123 rfl ?_
                  refine sw_i2l (np := 125) dX9_mayBecome_124 rfl ?_
                  refine sw_lconst (np := 126) dX9_mayBecome_125 sw_lc_0 rfl ?_
                  refine sw_ldc2 (np := 129) sw_wc_RX9_110 dX9_mayBecome_126 rfl ?_
                  refine sw_cS3i (np := 132) (hX9_within (d := d - 1) (by omega) ) sw_ms_X9_within sw_wl_RX9_98 dX9_mayBecome_129 (sw_fit_rm (by omega) (by decide)) (Nat.le_of_ble_eq_true rfl) rfl (fun r11 S11 => ?_)
                  exact sw_zret dX9_mayBecome_132
/-- SwordAtticModel.mend(III)I -/
def fX9_mend (N : Nat) (p1 : Int32) (p2 : Int32) (p3 : Int32) (S : sw_St) : Option (Int32 × sw_St) :=
  sw_bd (fX9_placeOf N p1 p2 S) (fun r1 S1 => (if r1 < 0 then (some ((-1 : Int32), S1)) else (sw_bd (fX9_mayBecome N p1 p2 p3 S1) (fun r2 S2 => (if r2 = 0 then (some ((-1 : Int32), S2)) else (sw_bd (fX9_becomes N r1 p3 S2) (fun r3 S3 => (some (r3, S3)))))))))
theorem hX9_mend {G : sw_G} {N d : Nat} (hd : 4 ≤ d) {p1 : Int32} {p2 : Int32} {p3 : Int32}  {S : sw_St} : sw_Ev G yX9_mend cX9_mend 5 (some .int) d sw_ei [sw_vr G 105, .int p1, .int p2, .int p3] S (fX9_mend N p1 p2 p3 S) := by
  refine sw_Ev_of (own := RX9) (lv0 := [some (sw_vr G 105), some (.int p1), some (.int p2), some (.int p3), none]) (by decide) rfl (Nat.le_of_ble_eq_true rfl) rfl ?_
  unfold fX9_mend
  refine sw_ald_5_0 (np := 1) dX9_mend_0 rfl ?_
  refine sw_ild_5_1 (np := 2) dX9_mend_1 rfl ?_
  refine sw_ild_5_2 (np := 3) dX9_mend_2 rfl ?_
  refine sw_cV2i (np := 6) (hX9_placeOf (d := d - 1) (by omega) ) sw_mv_X9_placeOf sw_k_105 sw_wl_RX9_136 dX9_mend_3 (sw_fit_rm (by omega) (by decide)) (Nat.le_of_ble_eq_true rfl) rfl (fun r1 S1 => ?_)
  refine sw_ist_5_4 (np := 8) dX9_mend_6 rfl rfl ?_
  refine sw_ild_5_4 (np := 10) dX9_mend_8 rfl ?_
  refine sw_if_lt (np := 13) (tp := 33) dX9_mend_10 rfl rfl ?_ ?_
  · refine sw_iconst (np := 34) dX9_mend_33 sw_ic_m1 rfl ?_
    exact sw_iret dX9_mend_34
  · refine sw_ald_5_0 (np := 14) dX9_mend_13 rfl ?_
    refine sw_ild_5_1 (np := 15) dX9_mend_14 rfl ?_
    refine sw_ild_5_2 (np := 16) dX9_mend_15 rfl ?_
    refine sw_ild_5_3 (np := 17) dX9_mend_16 rfl ?_
    refine sw_cV3i (np := 20) (hX9_mayBecome (d := d - 1) (by omega) ) sw_mv_X9_mayBecome sw_k_105 sw_wl_RX9_140 dX9_mend_17 (sw_fit_rm (by omega) (by decide)) (Nat.le_of_ble_eq_true rfl) rfl (fun r2 S2 => ?_)
    refine sw_if_eq (np := 23) (tp := 33) dX9_mend_20 rfl rfl ?_ ?_
    · refine sw_iconst (np := 34) dX9_mend_33 sw_ic_m1 rfl ?_
      exact sw_iret dX9_mend_34
    · refine sw_ald_5_0 (np := 24) dX9_mend_23 rfl ?_
      refine sw_ild_5_4 (np := 26) dX9_mend_24 rfl ?_
      refine sw_ild_5_3 (np := 27) dX9_mend_26 rfl ?_
      refine sw_cV2i (np := 30) (hX9_becomes (d := d - 1) (by omega) ) sw_mv_X9_becomes sw_k_105 sw_wl_RX9_144 dX9_mend_27 (sw_fit_rm (by omega) (by decide)) (Nat.le_of_ble_eq_true rfl) rfl (fun r3 S3 => ?_)
      refine sw_goto (tp := 34) dX9_mend_30 rfl ?_
      exact sw_iret dX9_mend_34
/-- SwordAtticModel.of(II)I -/
def fX9_of (N : Nat) (p1 : Int32) (p2 : Int32) (S : sw_St) : Option (Int32 × sw_St) :=
  sw_bd (fX9_placeOf N p1 p2 S) (fun r1 S1 => (if r1 < 0 then (if p2 = (8 : Int32) then (sw_bd (fX9_isCot N p1.toInt64 S1) (fun r2 S2 => (if r2 = 0 then (some ((-1 : Int32), S2)) else (sw_bd (fX9_inCot N p1 S2) (fun r3 S3 => (if r3 ≥ 0 then (sw_bd (fX9_inCot N p1 S3) (fun r4 S4 => (some (r4, S4)))) else (some ((-2 : Int32), S3)))))))) else (some ((-1 : Int32), S1))) else (sw_gd (sw_in r1 53) (some ((S1.1 106 r1.toNatClampNeg), S1)))))
theorem hX9_of {G : sw_G} {N d : Nat} (hd : 4 ≤ d) {p1 : Int32} {p2 : Int32}  {S : sw_St} : sw_Ev G yX9_of cX9_of 4 (some .int) d sw_ei [sw_vr G 105, .int p1, .int p2] S (fX9_of N p1 p2 S) := by
  refine sw_Ev_of (own := RX9) (lv0 := [some (sw_vr G 105), some (.int p1), some (.int p2), none]) (by decide) rfl (Nat.le_of_ble_eq_true rfl) rfl ?_
  unfold fX9_of
  refine sw_ald_4_0 (np := 1) dX9_of_0 rfl ?_
  refine sw_ild_4_1 (np := 2) dX9_of_1 rfl ?_
  refine sw_ild_4_2 (np := 3) dX9_of_2 rfl ?_
  refine sw_cV2i (np := 6) (hX9_placeOf (d := d - 1) (by omega) ) sw_mv_X9_placeOf sw_k_105 sw_wl_RX9_136 dX9_of_3 (sw_fit_rm (by omega) (by decide)) (Nat.le_of_ble_eq_true rfl) rfl (fun r1 S1 => ?_)
  refine sw_ist_4_3 (np := 7) dX9_of_6 rfl rfl ?_
  refine sw_ild_4_3 (np := 8) dX9_of_7 rfl ?_
  refine sw_if_lt (np := 11) (tp := 18) dX9_of_8 rfl rfl ?_ ?_
  · refine sw_ild_4_2 (np := 19) dX9_of_18 rfl ?_
    refine sw_bipush (np := 21) dX9_of_19 sw_bc_8 rfl ?_
    refine sw_icmp_ne (np := 24) (tp := 32) dX9_of_21 rfl rfl ?_ ?_
    · refine sw_iconst (np := 33) dX9_of_32 sw_ic_m1 rfl ?_
      refine sw_goto (tp := 54) dX9_of_33 rfl ?_
      exact sw_iret dX9_of_54
    · refine sw_ild_4_1 (np := 25) dX9_of_24 rfl ?_
      refine sw_i2l (np := 26) dX9_of_25 rfl ?_
      refine sw_cS1i (np := 29) (hX9_isCot (d := d - 1) (by omega) ) sw_ms_X9_isCot sw_wl_RX9_104 dX9_of_26 (sw_fit_rm (by omega) (by decide)) (Nat.le_of_ble_eq_true rfl) rfl (fun r2 S2 => ?_)
      refine sw_if_ne (np := 32) (tp := 36) dX9_of_29 rfl rfl ?_ ?_
      · refine sw_ald_4_0 (np := 37) dX9_of_36 rfl ?_
        refine sw_ild_4_1 (np := 38) dX9_of_37 rfl ?_
        refine sw_cV1i (np := 41) (hX9_inCot (d := d - 1) (by omega) ) sw_mv_X9_inCot sw_k_105 sw_wl_RX9_87 dX9_of_38 (sw_fit_rm (by omega) (by decide)) (Nat.le_of_ble_eq_true rfl) rfl (fun r3 S3 => ?_)
        refine sw_if_ge (np := 44) (tp := 49) dX9_of_41 rfl rfl ?_ ?_
        · refine sw_ald_4_0 (np := 50) dX9_of_49 rfl ?_
          refine sw_ild_4_1 (np := 51) dX9_of_50 rfl ?_
          refine sw_cV1i (np := 54) (hX9_inCot (d := d - 1) (by omega) ) sw_mv_X9_inCot sw_k_105 sw_wl_RX9_87 dX9_of_51 (sw_fit_rm (by omega) (by decide)) (Nat.le_of_ble_eq_true rfl) rfl (fun r4 S4 => ?_)
          exact sw_iret dX9_of_54
        · refine sw_bipush (np := 46) dX9_of_44 sw_bc_m2 rfl ?_
          refine sw_goto (tp := 54) dX9_of_46 rfl ?_
          exact sw_iret dX9_of_54
      · refine sw_iconst (np := 33) dX9_of_32 sw_ic_m1 rfl ?_
        refine sw_goto (tp := 54) dX9_of_33 rfl ?_
        exact sw_iret dX9_of_54
  · refine sw_ald_4_0 (np := 12) dX9_of_11 rfl ?_
    refine sw_gR (np := 15) sw_f_RX9_9 sw_k_105 sw_r_105_0 dX9_of_12 rfl ?_
    refine sw_ild_4_3 (np := 16) dX9_of_15 rfl ?_
    refine sw_iald (np := 17) sw_k_106 sw_n_106 dX9_of_16 rfl ?_
    exact sw_iret dX9_of_17
/-- SwordAtticModel.feed(I)I -/
def fX9_feed (N : Nat) (p1 : Int32) (S : sw_St) : Option (Int32 × sw_St) :=
  sw_bd (fX9_within N p1.toInt64 (0 : Int64) (255 : Int64) S) (fun r1 S1 => (if r1 = 0 then (some ((-1 : Int32), S1)) else (if (S1.1 105 8) = (120 : Int32) then (some ((-3 : Int32), S1)) else (sw_gd (sw_in (S1.1 105 8) 120) (sw_ls (sw_si S1 110 (S1.1 105 8).toNatClampNeg p1) (fun S2 => (sw_ls (sw_si S2 105 8 ((S2.1 105 8) + (1 : Int32))) (fun S3 => (some ((S3.1 105 8), S3))))))))))
theorem hX9_feed {G : sw_G} {N d : Nat} (hd : 2 ≤ d) {p1 : Int32}  {S : sw_St} : sw_Ev G yX9_feed cX9_feed 2 (some .int) d sw_ei [sw_vr G 105, .int p1] S (fX9_feed N p1 S) := by
  refine sw_Ev_of (own := RX9) (lv0 := [some (sw_vr G 105), some (.int p1)]) (by decide) rfl (Nat.le_of_ble_eq_true rfl) rfl ?_
  unfold fX9_feed
  refine sw_ild_2_1 (np := 1) dX9_feed_0 rfl ?_
  refine sw_i2l (np := 2) dX9_feed_1 rfl ?_
  refine sw_lconst (np := 3) dX9_feed_2 sw_lc_0 rfl ?_
  refine sw_ldc2 (np := 6) sw_wc_RX9_147 dX9_feed_3 rfl ?_
  refine sw_cS3i (np := 9) (hX9_within (d := d - 1) (by omega) ) sw_ms_X9_within sw_wl_RX9_98 dX9_feed_6 (sw_fit_rm (by omega) (by decide)) (Nat.le_of_ble_eq_true rfl) rfl (fun r1 S1 => ?_)
  refine sw_if_ne (np := 12) (tp := 14) dX9_feed_9 rfl rfl ?_ ?_
  · refine sw_ald_2_0 (np := 15) dX9_feed_14 rfl ?_
    refine sw_gI (np := 18) sw_f_RX9_149 sw_k_105 dX9_feed_15 rfl ?_
    refine sw_bipush (np := 20) dX9_feed_18 sw_bc_120 rfl ?_
    refine sw_icmp_ne (np := 23) (tp := 26) dX9_feed_20 rfl rfl ?_ ?_
    · refine sw_ald_2_0 (np := 27) dX9_feed_26 rfl ?_
      refine sw_gR (np := 30) sw_f_RX9_22 sw_k_105 sw_r_105_7 dX9_feed_27 rfl ?_
      refine sw_ald_2_0 (np := 31) dX9_feed_30 rfl ?_
      refine sw_gI (np := 34) sw_f_RX9_149 sw_k_105 dX9_feed_31 rfl ?_
      refine sw_ild_2_1 (np := 35) dX9_feed_34 rfl ?_
      refine sw_sI (np := 36) sw_k_110 sw_n_110 dX9_feed_35 rfl (fun S2 => ?_)
      refine sw_ald_2_0 (np := 37) dX9_feed_36 rfl ?_
      refine sw_dup (np := 38) dX9_feed_37 rfl rfl ?_
      refine sw_gI (np := 41) sw_f_RX9_149 sw_k_105 dX9_feed_38 rfl ?_
      refine sw_iconst (np := 42) dX9_feed_41 sw_ic_1 rfl ?_
      refine sw_iadd (np := 43) dX9_feed_42 rfl ?_
      refine sw_pI (np := 46) sw_f_RX9_149 sw_fp_9_8 sw_k_105 dX9_feed_43 rfl (fun S3 => ?_)
      refine sw_ald_2_0 (np := 47) dX9_feed_46 rfl ?_
      refine sw_gI (np := 50) sw_f_RX9_149 sw_k_105 dX9_feed_47 rfl ?_
      exact sw_iret dX9_feed_50
    · refine sw_bipush (np := 25) dX9_feed_23 sw_bc_m3 rfl ?_
      exact sw_iret dX9_feed_25
  · refine sw_iconst (np := 13) dX9_feed_12 sw_ic_m1 rfl ?_
    exact sw_iret dX9_feed_13
/-- SwordAtticModel.byteAt()I -/
def fX9_byteAt (N : Nat)  (S : sw_St) : Option (Int32 × sw_St) :=
  if (S.1 105 12) ≥ (S.1 105 13) then (some ((0 : Int32), S)) else (if (S.1 105 11) ≥ 0 then (sw_gd (sw_in ((S.1 105 11) + (S.1 105 12)) 120) (some ((S.1 111 ((S.1 105 11) + (S.1 105 12)).toNatClampNeg), S))) else (sw_gd (sw_in (S.1 105 12) 120) (some ((S.1 110 (S.1 105 12).toNatClampNeg), S))))
theorem hX9_byteAt {G : sw_G} {N d : Nat} (hd : 1 ≤ d)   {S : sw_St} : sw_Ev G yX9_byteAt cX9_byteAt 1 (some .int) d sw_ei [sw_vr G 105] S (fX9_byteAt N  S) := by
  refine sw_Ev_of (own := RX9) (lv0 := [some (sw_vr G 105)]) (by decide) rfl (Nat.le_of_ble_eq_true rfl) rfl ?_
  unfold fX9_byteAt
  refine sw_ald_1_0 (np := 1) dX9_byteAt_0 rfl ?_
  refine sw_gI (np := 4) sw_f_RX9_152 sw_k_105 dX9_byteAt_1 rfl ?_
  refine sw_ald_1_0 (np := 5) dX9_byteAt_4 rfl ?_
  refine sw_gI (np := 8) sw_f_RX9_155 sw_k_105 dX9_byteAt_5 rfl ?_
  refine sw_icmp_ge (np := 11) (tp := 47) dX9_byteAt_8 rfl rfl ?_ ?_
  · refine sw_iconst (np := 48) dX9_byteAt_47 sw_ic_0 rfl ?_
    exact sw_iret dX9_byteAt_48
  · refine sw_ald_1_0 (np := 12) dX9_byteAt_11 rfl ?_
    refine sw_gI (np := 15) sw_f_RX9_158 sw_k_105 dX9_byteAt_12 rfl ?_
    refine sw_if_ge (np := 18) (tp := 30) dX9_byteAt_15 rfl rfl ?_ ?_
    · refine sw_ald_1_0 (np := 31) dX9_byteAt_30 rfl ?_
      refine sw_gR (np := 34) sw_f_RX9_25 sw_k_105 sw_r_105_9 dX9_byteAt_31 rfl ?_
      refine sw_ald_1_0 (np := 35) dX9_byteAt_34 rfl ?_
      refine sw_gI (np := 38) sw_f_RX9_158 sw_k_105 dX9_byteAt_35 rfl ?_
      refine sw_ald_1_0 (np := 39) dX9_byteAt_38 rfl ?_
      refine sw_gI (np := 42) sw_f_RX9_152 sw_k_105 dX9_byteAt_39 rfl ?_
      refine sw_iadd (np := 43) dX9_byteAt_42 rfl ?_
      refine sw_iald (np := 44) sw_k_111 sw_n_111 dX9_byteAt_43 rfl ?_
      refine sw_goto (tp := 48) dX9_byteAt_44 rfl ?_
      exact sw_iret dX9_byteAt_48
    · refine sw_ald_1_0 (np := 19) dX9_byteAt_18 rfl ?_
      refine sw_gR (np := 22) sw_f_RX9_22 sw_k_105 sw_r_105_7 dX9_byteAt_19 rfl ?_
      refine sw_ald_1_0 (np := 23) dX9_byteAt_22 rfl ?_
      refine sw_gI (np := 26) sw_f_RX9_152 sw_k_105 dX9_byteAt_23 rfl ?_
      refine sw_iald (np := 27) sw_k_110 sw_n_110 dX9_byteAt_26 rfl ?_
      refine sw_goto (tp := 48) dX9_byteAt_27 rfl ?_
      exact sw_iret dX9_byteAt_48
/-- SwordAtticModel.wrong()I -/
def fX9_wrong (N : Nat)  (S : sw_St) : Option (Int32 × sw_St) :=
  if (S.1 105 14) ≥ 0 then (sw_ls (sw_si S 105 14 (S.1 105 14)) (fun S1 => (some ((0 : Int32), S1)))) else (sw_ls (sw_si S 105 14 (S.1 105 12)) (fun S2 => (some ((0 : Int32), S2))))
theorem hX9_wrong {G : sw_G} {N d : Nat} (hd : 1 ≤ d)   {S : sw_St} : sw_Ev G yX9_wrong cX9_wrong 1 (some .int) d sw_ei [sw_vr G 105] S (fX9_wrong N  S) := by
  refine sw_Ev_of (own := RX9) (lv0 := [some (sw_vr G 105)]) (by decide) rfl (Nat.le_of_ble_eq_true rfl) rfl ?_
  unfold fX9_wrong
  refine sw_ald_1_0 (np := 1) dX9_wrong_0 rfl ?_
  refine sw_ald_1_0 (np := 2) dX9_wrong_1 rfl ?_
  refine sw_gI (np := 5) sw_f_RX9_161 sw_k_105 dX9_wrong_2 rfl ?_
  refine sw_if_ge (np := 8) (tp := 15) dX9_wrong_5 rfl rfl ?_ ?_
  · refine sw_ald_1_0 (np := 16) dX9_wrong_15 rfl ?_
    refine sw_gI (np := 19) sw_f_RX9_161 sw_k_105 dX9_wrong_16 rfl ?_
    refine sw_pI (np := 22) sw_f_RX9_161 sw_fp_9_14 sw_k_105 dX9_wrong_19 rfl (fun S1 => ?_)
    refine sw_iconst (np := 23) dX9_wrong_22 sw_ic_0 rfl ?_
    exact sw_iret dX9_wrong_23
  · refine sw_ald_1_0 (np := 9) dX9_wrong_8 rfl ?_
    refine sw_gI (np := 12) sw_f_RX9_152 sw_k_105 dX9_wrong_9 rfl ?_
    refine sw_goto (tp := 19) dX9_wrong_12 rfl ?_
    refine sw_pI (np := 22) sw_f_RX9_161 sw_fp_9_14 sw_k_105 dX9_wrong_19 rfl (fun S2 => ?_)
    refine sw_iconst (np := 23) dX9_wrong_22 sw_ic_0 rfl ?_
    exact sw_iret dX9_wrong_23
/-- SwordAtticModel.takes(I)Z -/
def fX9_takes (N : Nat) (p1 : Int32) (S : sw_St) : Option (Int32 × sw_St) :=
  if (S.1 105 14) ≥ 0 then (some (vp_nar .boolean (0 : Int32), S)) else (sw_bd (fX9_byteAt N S) (fun r1 S1 => (if r1 = p1 then (sw_ls (sw_si S1 105 12 ((S1.1 105 12) + (1 : Int32))) (fun S2 => (some (vp_nar .boolean (1 : Int32), S2)))) else (some (vp_nar .boolean (0 : Int32), S1)))))
theorem hX9_takes {G : sw_G} {N d : Nat} (hd : 2 ≤ d) {p1 : Int32}  {S : sw_St} : sw_Ev G yX9_takes cX9_takes 2 (some .boolean) d sw_ei [sw_vr G 105, .int p1] S (fX9_takes N p1 S) := by
  refine sw_Ev_of (own := RX9) (lv0 := [some (sw_vr G 105), some (.int p1)]) (by decide) rfl (Nat.le_of_ble_eq_true rfl) rfl ?_
  unfold fX9_takes
  refine sw_ald_2_0 (np := 1) dX9_takes_0 rfl ?_
  refine sw_gI (np := 4) sw_f_RX9_161 sw_k_105 dX9_takes_1 rfl ?_
  refine sw_if_ge (np := 7) (tp := 15) dX9_takes_4 rfl rfl ?_ ?_
  · refine sw_iconst (np := 16) dX9_takes_15 sw_ic_0 rfl ?_
    exact sw_zret dX9_takes_16
  · refine sw_ald_2_0 (np := 8) dX9_takes_7 rfl ?_
    refine sw_cV0i (np := 11) (hX9_byteAt (d := d - 1) (by omega) ) sw_mv_X9_byteAt sw_k_105 sw_wl_RX9_164 dX9_takes_8 (sw_fit_rm (by omega) (by decide)) (Nat.le_of_ble_eq_true rfl) rfl (fun r1 S1 => ?_)
    refine sw_ild_2_1 (np := 12) dX9_takes_11 rfl ?_
    refine sw_icmp_eq (np := 15) (tp := 17) dX9_takes_12 rfl rfl ?_ ?_
    · refine sw_ald_2_0 (np := 18) dX9_takes_17 rfl ?_
      refine sw_dup (np := 19) dX9_takes_18 rfl rfl ?_
      refine sw_gI (np := 22) sw_f_RX9_152 sw_k_105 dX9_takes_19 rfl ?_
      refine sw_iconst (np := 23) dX9_takes_22 sw_ic_1 rfl ?_
      refine sw_iadd (np := 24) dX9_takes_23 rfl ?_
      refine sw_pI (np := 27) sw_f_RX9_152 sw_fp_9_12 sw_k_105 dX9_takes_24 rfl (fun S2 => ?_)
      refine sw_iconst (np := 28) dX9_takes_27 sw_ic_1 rfl ?_
      exact sw_zret dX9_takes_28
    · refine sw_iconst (np := 16) dX9_takes_15 sw_ic_0 rfl ?_
      exact sw_zret dX9_takes_16
/-- SwordAtticModel.nameOf(I)I -/
def fX9_nameOf (N : Nat) (p0 : Int32) (S : sw_St) : Option (Int32 × sw_St) :=
  if p0 = (98 : Int32) then (some ((3 : Int32), S)) else (if p0 = (99 : Int32) then (some ((4 : Int32), S)) else (if p0 = (100 : Int32) then (some ((0 : Int32), S)) else (if p0 = (109 : Int32) then (some ((2 : Int32), S)) else (if p0 = (116 : Int32) then (some ((5 : Int32), S)) else (if p0 = (121 : Int32) then (some ((1 : Int32), S)) else (some ((-1 : Int32), S)))))))
theorem hX9_nameOf {G : sw_G} {N d : Nat} (hd : 1 ≤ d) {p0 : Int32}  {S : sw_St} : sw_Ev G yX9_nameOf cX9_nameOf 1 (some .int) d sw_ei [.int p0] S (fX9_nameOf N p0 S) := by
  refine sw_Ev_of (own := RX9) (lv0 := [some (.int p0)]) (by decide) rfl (Nat.le_of_ble_eq_true rfl) rfl ?_
  unfold fX9_nameOf
  refine sw_ild_1_0 (np := 1) dX9_nameOf_0 rfl ?_
  refine sw_ite (fun hs1 => ?_) (fun hs1 => ?_)
  · refine sw_look (tp := 66) dX9_nameOf_1 (by decide) (by rw [hs1] <;> decide) rfl ?_
    refine sw_iconst (np := 67) dX9_nameOf_66 sw_ic_3 rfl ?_
    exact sw_iret dX9_nameOf_67
  · refine sw_ite (fun hs2 => ?_) (fun hs2 => ?_)
    · refine sw_look (tp := 68) dX9_nameOf_1 (by decide) (by rw [hs2] <;> decide) rfl ?_
      refine sw_iconst (np := 69) dX9_nameOf_68 sw_ic_4 rfl ?_
      exact sw_iret dX9_nameOf_69
    · refine sw_ite (fun hs3 => ?_) (fun hs3 => ?_)
      · refine sw_look (tp := 60) dX9_nameOf_1 (by decide) (by rw [hs3] <;> decide) rfl ?_
        refine sw_iconst (np := 61) dX9_nameOf_60 sw_ic_0 rfl ?_
        exact sw_iret dX9_nameOf_61
      · refine sw_ite (fun hs4 => ?_) (fun hs4 => ?_)
        · refine sw_look (tp := 64) dX9_nameOf_1 (by decide) (by rw [hs4] <;> decide) rfl ?_
          refine sw_iconst (np := 65) dX9_nameOf_64 sw_ic_2 rfl ?_
          exact sw_iret dX9_nameOf_65
        · refine sw_ite (fun hs5 => ?_) (fun hs5 => ?_)
          · refine sw_look (tp := 70) dX9_nameOf_1 (by decide) (by rw [hs5] <;> decide) rfl ?_
            refine sw_iconst (np := 71) dX9_nameOf_70 sw_ic_5 rfl ?_
            exact sw_iret dX9_nameOf_71
          · refine sw_ite (fun hs6 => ?_) (fun hs6 => ?_)
            · refine sw_look (tp := 62) dX9_nameOf_1 (by decide) (by rw [hs6] <;> decide) rfl ?_
              refine sw_iconst (np := 63) dX9_nameOf_62 sw_ic_1 rfl ?_
              exact sw_iret dX9_nameOf_63
            · refine sw_look (tp := 72) (off := 71) dX9_nameOf_1 (by decide) (by show Op.lookupswitch.offset [(98, 65), (99, 67), (100, 59), (109, 63), (116, 69), (121, 61)] 71 _ = _; rw [lv_osw hs1 (by decide), lv_osw hs2 (by decide), lv_osw hs3 (by decide), lv_osw hs4 (by decide), lv_osw hs5 (by decide), lv_osw hs6 (by decide)]; rfl) rfl ?_
              refine sw_iconst (np := 73) dX9_nameOf_72 sw_ic_m1 rfl ?_
              exact sw_iret dX9_nameOf_73
/-- SwordAtticModel.either, over what calls it again -/
def gX9_either (N : Nat) (RR : Nat → Int32 → Int32 → Int32 → Int32 → sw_St → Option (Int32 × sw_St))  (S : sw_St) : Option (Int32 × sw_St) :=
  sw_bd (RR 1 0 0 0 0 S) (fun r1 S1 => (sw_fx1 (fun rec1 x1_1 S2 => (sw_bd (fX9_takes N (124 : Int32) S2) (fun r2 S3 => (if r2 = 0 then (some (x1_1, S3)) else (sw_bd (RR 1 0 0 0 0 S3) (fun r3 S4 => (if x1_1 = 0 then (if r3 = 0 then (rec1 (0 : Int32) S4) else (rec1 (1 : Int32) S4)) else (rec1 (1 : Int32) S4)))))))) N r1 S1))
/-- SwordAtticModel.both, over what calls it again -/
def gX9_both (N : Nat) (RR : Nat → Int32 → Int32 → Int32 → Int32 → sw_St → Option (Int32 × sw_St))  (S : sw_St) : Option (Int32 × sw_St) :=
  sw_bd (RR 2 0 0 0 0 S) (fun r1 S1 => (sw_fx1 (fun rec1 x1_1 S2 => (sw_bd (fX9_takes N (38 : Int32) S2) (fun r2 S3 => (if r2 = 0 then (some (x1_1, S3)) else (sw_bd (RR 2 0 0 0 0 S3) (fun r3 S4 => (if x1_1 = 0 then (rec1 (0 : Int32) S4) else (if r3 = 0 then (rec1 (0 : Int32) S4) else (rec1 (1 : Int32) S4))))))))) N r1 S1))
/-- SwordAtticModel.compared, over what calls it again -/
def gX9_compared (N : Nat) (RR : Nat → Int32 → Int32 → Int32 → Int32 → sw_St → Option (Int32 × sw_St))  (S : sw_St) : Option (Int32 × sw_St) :=
  sw_bd (RR 3 0 0 0 0 S) (fun r1 S1 => (sw_bd (fX9_byteAt N S1) (fun r2 S2 => (if (S2.1 105 14) ≥ 0 then (some (r1, S2)) else (sw_jn0 (fun S3 => (sw_ls (sw_si S3 105 12 ((S3.1 105 12) + (1 : Int32))) (fun S4 => (sw_bd (RR 3 0 0 0 0 S4) (fun r3 S5 => (if r2 = (60 : Int32) then (if r1 ≥ r3 then (some ((0 : Int32), S5)) else (some ((1 : Int32), S5))) else (if r2 = (61 : Int32) then (if r1 = r3 then (some ((1 : Int32), S5)) else (some ((0 : Int32), S5))) else (if r1 ≤ r3 then (some ((0 : Int32), S5)) else (some ((1 : Int32), S5)))))))))) (fun k1 => (if r2 = (60 : Int32) then (k1 S2) else (if r2 = (61 : Int32) then (k1 S2) else (if r2 = (62 : Int32) then (k1 S2) else (some (r1, S2)))))))))))
/-- SwordAtticModel.sums, over what calls it again -/
def gX9_sums (N : Nat) (RR : Nat → Int32 → Int32 → Int32 → Int32 → sw_St → Option (Int32 × sw_St))  (S : sw_St) : Option (Int32 × sw_St) :=
  sw_bd (RR 4 0 0 0 0 S) (fun r1 S1 => (sw_fx1 (fun rec1 x1_1 S2 => (if (S2.1 105 14) ≥ 0 then (some (x1_1, S2)) else (sw_bd (fX9_byteAt N S2) (fun r2 S3 => (sw_jn0 (fun S4 => (sw_bd (fX9_byteAt N S4) (fun r3 S5 => (sw_jn1 (fun y1 S6 => (sw_ls (sw_si S6 105 12 ((S6.1 105 12) + (1 : Int32))) (fun S7 => (sw_bd (RR 4 0 0 0 0 S7) (fun r4 S8 => (if y1 = 0 then (sw_li (x1_1 - r4) (fun x1_2 => (rec1 x1_2 S8))) else (sw_li (x1_1 + r4) (fun x1_3 => (rec1 x1_3 S8))))))))) (fun k2 => (if r3 = (43 : Int32) then (k2 (1 : Int32) S5) else (k2 (0 : Int32) S5))))))) (fun k1 => (if r2 = (43 : Int32) then (k1 S3) else (sw_bd (fX9_byteAt N S3) (fun r5 S9 => (if r5 = (45 : Int32) then (k1 S9) else (some (x1_1, S9)))))))))))) N r1 S1))
/-- SwordAtticModel.product, over what calls it again -/
def gX9_product (N : Nat) (RR : Nat → Int32 → Int32 → Int32 → Int32 → sw_St → Option (Int32 × sw_St))  (S : sw_St) : Option (Int32 × sw_St) :=
  sw_bd (RR 5 0 0 0 0 S) (fun r1 S1 => (sw_bd (fX9_byteAt N S1) (fun r2 S2 => (sw_fx2 (fun rec1 x1_1 x2_1 S3 => (if (S3.1 105 14) ≥ 0 then (some (x1_1, S3)) else (sw_jn0 (fun S4 => (sw_ls (sw_si S4 105 12 ((S4.1 105 12) + (1 : Int32))) (fun S5 => (sw_bd (RR 5 0 0 0 0 S5) (fun r3 S6 => (if x2_1 = (42 : Int32) then (sw_li (x1_1 * r3) (fun x1_4 => (sw_bd (fX9_byteAt N S6) (fun r7 S10 => (rec1 x1_4 r7 S10))))) else (if r3 = 0 then (sw_bd (fX9_byteAt N S6) (fun r6 S9 => (rec1 (0 : Int32) r6 S9))) else (if x2_1 = (47 : Int32) then (sw_gd (!decide (r3 = 0)) (sw_li (x1_1 / r3) (fun x1_3 => (sw_bd (fX9_byteAt N S6) (fun r5 S8 => (rec1 x1_3 r5 S8)))))) else (sw_gd (!decide (r3 = 0)) (sw_li (x1_1 - x1_1 / r3 * r3) (fun x1_2 => (sw_bd (fX9_byteAt N S6) (fun r4 S7 => (rec1 x1_2 r4 S7)))))))))))))) (fun k1 => (if x2_1 = (42 : Int32) then (k1 S3) else (if x2_1 = (47 : Int32) then (k1 S3) else (if x2_1 = (37 : Int32) then (k1 S3) else (some (x1_1, S3))))))))) N r1 r2 S2))))
/-- SwordAtticModel.one, over what calls it again -/
def gX9_one (N : Nat) (RR : Nat → Int32 → Int32 → Int32 → Int32 → sw_St → Option (Int32 × sw_St))  (S : sw_St) : Option (Int32 × sw_St) :=
  if (S.1 105 14) < 0 then (sw_bd (fX9_byteAt N S) (fun r1 S1 => (sw_jn0 (fun S2 => (if (S2.1 105 15) = (6 : Int32) then (sw_bd (fX9_wrong N S2) (fun r6 S12 => (some (r6, S12)))) else (sw_ls (sw_si S2 105 15 ((S2.1 105 15) + (1 : Int32))) (fun S3 => (sw_ls (sw_si S3 105 12 ((S3.1 105 12) + (1 : Int32))) (fun S4 => (sw_jn1 (fun y1 S5 => (sw_jn0 (fun S6 => (sw_ls (sw_si S6 105 15 ((S6.1 105 15) - (1 : Int32))) (fun S7 => (if r1 = (40 : Int32) then (some (y1, S7)) else (if r1 = (45 : Int32) then (some ((-y1), S7)) else (if y1 = 0 then (some ((1 : Int32), S7)) else (some ((0 : Int32), S7)))))))) (fun k3 => (if r1 = (40 : Int32) then (sw_bd (fX9_takes N (41 : Int32) S5) (fun r2 S8 => (if r2 = 0 then (sw_bd (fX9_wrong N S8) (fun r3 S9 => (some (r3, S9)))) else (k3 S8)))) else (k3 S5))))) (fun k2 => (if r1 = (40 : Int32) then (sw_bd (RR 0 0 0 0 0 S4) (fun r5 S11 => (k2 r5 S11))) else (sw_bd (RR 5 0 0 0 0 S4) (fun r4 S10 => (k2 r4 S10)))))))))))) (fun k1 => (if r1 = (33 : Int32) then (k1 S1) else (if r1 = (45 : Int32) then (k1 S1) else (if r1 = (40 : Int32) then (k1 S1) else (sw_bd (fX9_nameOf N r1 S1) (fun r7 S13 => (if r7 < 0 then (sw_fx2 (fun rec1 x3_1 x4_1 S14 => (if x4_1 ≥ (4 : Int32) then (if x4_1 = 0 then (sw_bd (fX9_wrong N S14) (fun r8 S15 => (some (r8, S15)))) else (some (x3_1, S14))) else (sw_bd (fX9_byteAt N S14) (fun r9 S16 => (if r9 < (48 : Int32) then (if x4_1 = 0 then (sw_bd (fX9_wrong N S16) (fun r10 S17 => (some (r10, S17)))) else (some (x3_1, S16))) else (sw_bd (fX9_byteAt N S16) (fun r11 S18 => (if r11 > (57 : Int32) then (if x4_1 = 0 then (sw_bd (fX9_wrong N S18) (fun r12 S19 => (some (r12, S19)))) else (some (x3_1, S18))) else (sw_bd (fX9_byteAt N S18) (fun r13 S20 => (sw_li ((((10 : Int32) * x3_1) + r13) - (48 : Int32)) (fun x3_2 => (sw_ls (sw_si S20 105 12 ((S20.1 105 12) + (1 : Int32))) (fun S21 => (rec1 x3_2 (x4_1 + (1 : Int32)) S21))))))))))))))) N (0 : Int32) (0 : Int32) S13) else (sw_ls (sw_si S13 105 12 ((S13.1 105 12) + (1 : Int32))) (fun S22 => (sw_gd (sw_in r7 6) (some ((S22.1 112 r7.toNatClampNeg), S22))))))))))))))) else (some ((0 : Int32), S))
def kG_5 (G : sw_G) (d : Nat) (RR : Nat → Int32 → Int32 → Int32 → Int32 → sw_St → Option (Int32 × sw_St)) : Prop :=
  (∀ (a b c e : Int32) (S : sw_St), sw_Ev G yX9_either cX9_either 3 (some .int) d sw_ei [sw_vr G 105] S (RR 0 a b c e S)) ∧
  (∀ (a b c e : Int32) (S : sw_St), sw_Ev G yX9_both cX9_both 3 (some .int) d sw_ei [sw_vr G 105] S (RR 1 a b c e S)) ∧
  (∀ (a b c e : Int32) (S : sw_St), sw_Ev G yX9_compared cX9_compared 4 (some .int) d sw_ei [sw_vr G 105] S (RR 2 a b c e S)) ∧
  (∀ (a b c e : Int32) (S : sw_St), sw_Ev G yX9_sums cX9_sums 4 (some .int) d sw_ei [sw_vr G 105] S (RR 3 a b c e S)) ∧
  (∀ (a b c e : Int32) (S : sw_St), sw_Ev G yX9_product cX9_product 4 (some .int) d sw_ei [sw_vr G 105] S (RR 4 a b c e S)) ∧
  (∀ (a b c e : Int32) (S : sw_St), sw_Ev G yX9_one cX9_one 5 (some .int) d sw_ei [sw_vr G 105] S (RR 5 a b c e S))
def fG_5 (N : Nat) : Nat → Nat → Int32 → Int32 → Int32 → Int32 → sw_St → Option (Int32 × sw_St)
  | 0 => fun _ _ _ _ _ _ => none
  | n + 1 => fun t a b c e S => match t with
    | 0 => gX9_either N (fG_5 N n)  S
    | 1 => gX9_both N (fG_5 N n)  S
    | 2 => gX9_compared N (fG_5 N n)  S
    | 3 => gX9_sums N (fG_5 N n)  S
    | 4 => gX9_product N (fG_5 N n)  S
    | _ => gX9_one N (fG_5 N n)  S
theorem ogX9_either {G : sw_G} {N d : Nat} (hd : 3 ≤ d) {RR : Nat → Int32 → Int32 → Int32 → Int32 → sw_St → Option (Int32 × sw_St)} (hR : kG_5 G (d - 1) RR)  {S : sw_St} : sw_Ev G yX9_either cX9_either 3 (some .int) d sw_ei [sw_vr G 105] S (gX9_either N RR  S) := by
  refine sw_Ev_of (own := RX9) (lv0 := [some (sw_vr G 105), none, none]) (by decide) rfl (Nat.le_of_ble_eq_true rfl) rfl ?_
  unfold gX9_either
  refine sw_ald_3_0 (np := 1) dX9_either_0 rfl ?_
  refine sw_cV0i (np := 4) (hR.2.1 _ _ _ _ _) sw_mv_X9_both sw_k_105 sw_wl_RX9_168 dX9_either_1 (sw_fit_rm (by omega) (by decide)) (Nat.le_of_ble_eq_true rfl) rfl (fun r1 S1 => ?_)
  refine sw_ist_3_1 (np := 5) dX9_either_4 rfl rfl ?_
  refine sw_lp1 (lv := fun x1_1 => [some (sw_vr G 105), some (.int x1_1), none]) (fun rec1 hrec1 x1_1 S2 => ?_) _ _ _
  refine sw_ald_3_0 (np := 6) dX9_either_5 rfl ?_
  refine sw_bipush (np := 8) dX9_either_6 sw_bc_124 rfl ?_
  refine sw_cV1i (np := 11) (hX9_takes (d := d - 1) (by omega) ) sw_mv_X9_takes sw_k_105 sw_wl_RX9_171 dX9_either_8 (sw_fit_rm (by omega) (by decide)) (Nat.le_of_ble_eq_true rfl) rfl (fun r2 S3 => ?_)
  refine sw_if_eq (np := 14) (tp := 36) dX9_either_11 rfl rfl ?_ ?_
  · refine sw_ild_3_1 (np := 37) dX9_either_36 rfl ?_
    exact sw_iret dX9_either_37
  · refine sw_ald_3_0 (np := 15) dX9_either_14 rfl ?_
    refine sw_cV0i (np := 18) (hR.2.1 _ _ _ _ _) sw_mv_X9_both sw_k_105 sw_wl_RX9_168 dX9_either_15 (sw_fit_rm (by omega) (by decide)) (Nat.le_of_ble_eq_true rfl) rfl (fun r3 S4 => ?_)
    refine sw_ist_3_2 (np := 19) dX9_either_18 rfl rfl ?_
    refine sw_ild_3_1 (np := 20) dX9_either_19 rfl ?_
    refine sw_if_ne (np := 23) (tp := 27) dX9_either_20 rfl rfl ?_ ?_
    · refine sw_iconst (np := 28) dX9_either_27 sw_ic_1 rfl ?_
      refine sw_goto (tp := 32) dX9_either_28 rfl ?_
      refine sw_ist_3_1 (np := 33) dX9_either_32 rfl rfl ?_
      refine sw_goto (tp := 5) dX9_either_33 rfl ?_
      refine sw_dr_3_2 ?_
      exact hrec1 _ _
    · refine sw_ild_3_2 (np := 24) dX9_either_23 rfl ?_
      refine sw_if_eq (np := 27) (tp := 31) dX9_either_24 rfl rfl ?_ ?_
      · refine sw_iconst (np := 32) dX9_either_31 sw_ic_0 rfl ?_
        refine sw_ist_3_1 (np := 33) dX9_either_32 rfl rfl ?_
        refine sw_goto (tp := 5) dX9_either_33 rfl ?_
        refine sw_dr_3_2 ?_
        exact hrec1 _ _
      · refine sw_iconst (np := 28) dX9_either_27 sw_ic_1 rfl ?_
        refine sw_goto (tp := 32) dX9_either_28 rfl ?_
        refine sw_ist_3_1 (np := 33) dX9_either_32 rfl rfl ?_
        refine sw_goto (tp := 5) dX9_either_33 rfl ?_
        refine sw_dr_3_2 ?_
        exact hrec1 _ _
theorem ogX9_both {G : sw_G} {N d : Nat} (hd : 3 ≤ d) {RR : Nat → Int32 → Int32 → Int32 → Int32 → sw_St → Option (Int32 × sw_St)} (hR : kG_5 G (d - 1) RR)  {S : sw_St} : sw_Ev G yX9_both cX9_both 3 (some .int) d sw_ei [sw_vr G 105] S (gX9_both N RR  S) := by
  refine sw_Ev_of (own := RX9) (lv0 := [some (sw_vr G 105), none, none]) (by decide) rfl (Nat.le_of_ble_eq_true rfl) rfl ?_
  unfold gX9_both
  refine sw_ald_3_0 (np := 1) dX9_both_0 rfl ?_
  refine sw_cV0i (np := 4) (hR.2.2.1 _ _ _ _ _) sw_mv_X9_compared sw_k_105 sw_wl_RX9_174 dX9_both_1 (sw_fit_rm (by omega) (by decide)) (Nat.le_of_ble_eq_true rfl) rfl (fun r1 S1 => ?_)
  refine sw_ist_3_1 (np := 5) dX9_both_4 rfl rfl ?_
  refine sw_lp1 (lv := fun x1_1 => [some (sw_vr G 105), some (.int x1_1), none]) (fun rec1 hrec1 x1_1 S2 => ?_) _ _ _
  refine sw_ald_3_0 (np := 6) dX9_both_5 rfl ?_
  refine sw_bipush (np := 8) dX9_both_6 sw_bc_38 rfl ?_
  refine sw_cV1i (np := 11) (hX9_takes (d := d - 1) (by omega) ) sw_mv_X9_takes sw_k_105 sw_wl_RX9_171 dX9_both_8 (sw_fit_rm (by omega) (by decide)) (Nat.le_of_ble_eq_true rfl) rfl (fun r2 S3 => ?_)
  refine sw_if_eq (np := 14) (tp := 36) dX9_both_11 rfl rfl ?_ ?_
  · refine sw_ild_3_1 (np := 37) dX9_both_36 rfl ?_
    exact sw_iret dX9_both_37
  · refine sw_ald_3_0 (np := 15) dX9_both_14 rfl ?_
    refine sw_cV0i (np := 18) (hR.2.2.1 _ _ _ _ _) sw_mv_X9_compared sw_k_105 sw_wl_RX9_174 dX9_both_15 (sw_fit_rm (by omega) (by decide)) (Nat.le_of_ble_eq_true rfl) rfl (fun r3 S4 => ?_)
    refine sw_ist_3_2 (np := 19) dX9_both_18 rfl rfl ?_
    refine sw_ild_3_1 (np := 20) dX9_both_19 rfl ?_
    refine sw_if_eq (np := 23) (tp := 31) dX9_both_20 rfl rfl ?_ ?_
    · refine sw_iconst (np := 32) dX9_both_31 sw_ic_0 rfl ?_
      refine sw_ist_3_1 (np := 33) dX9_both_32 rfl rfl ?_
      refine sw_goto (tp := 5) dX9_both_33 rfl ?_
      refine sw_dr_3_2 ?_
      exact hrec1 _ _
    · refine sw_ild_3_2 (np := 24) dX9_both_23 rfl ?_
      refine sw_if_eq (np := 27) (tp := 31) dX9_both_24 rfl rfl ?_ ?_
      · refine sw_iconst (np := 32) dX9_both_31 sw_ic_0 rfl ?_
        refine sw_ist_3_1 (np := 33) dX9_both_32 rfl rfl ?_
        refine sw_goto (tp := 5) dX9_both_33 rfl ?_
        refine sw_dr_3_2 ?_
        exact hrec1 _ _
      · refine sw_iconst (np := 28) dX9_both_27 sw_ic_1 rfl ?_
        refine sw_goto (tp := 32) dX9_both_28 rfl ?_
        refine sw_ist_3_1 (np := 33) dX9_both_32 rfl rfl ?_
        refine sw_goto (tp := 5) dX9_both_33 rfl ?_
        refine sw_dr_3_2 ?_
        exact hrec1 _ _
theorem ogX9_compared {G : sw_G} {N d : Nat} (hd : 3 ≤ d) {RR : Nat → Int32 → Int32 → Int32 → Int32 → sw_St → Option (Int32 × sw_St)} (hR : kG_5 G (d - 1) RR)  {S : sw_St} : sw_Ev G yX9_compared cX9_compared 4 (some .int) d sw_ei [sw_vr G 105] S (gX9_compared N RR  S) := by
  refine sw_Ev_of (own := RX9) (lv0 := [some (sw_vr G 105), none, none, none]) (by decide) rfl (Nat.le_of_ble_eq_true rfl) rfl ?_
  unfold gX9_compared
  refine sw_ald_4_0 (np := 1) dX9_compared_0 rfl ?_
  refine sw_cV0i (np := 4) (hR.2.2.2.1 _ _ _ _ _) sw_mv_X9_sums sw_k_105 sw_wl_RX9_177 dX9_compared_1 (sw_fit_rm (by omega) (by decide)) (Nat.le_of_ble_eq_true rfl) rfl (fun r1 S1 => ?_)
  refine sw_ist_4_1 (np := 5) dX9_compared_4 rfl rfl ?_
  refine sw_ald_4_0 (np := 6) dX9_compared_5 rfl ?_
  refine sw_cV0i (np := 9) (hX9_byteAt (d := d - 1) (by omega) ) sw_mv_X9_byteAt sw_k_105 sw_wl_RX9_164 dX9_compared_6 (sw_fit_rm (by omega) (by decide)) (Nat.le_of_ble_eq_true rfl) rfl (fun r2 S2 => ?_)
  refine sw_ist_4_2 (np := 10) dX9_compared_9 rfl rfl ?_
  refine sw_ald_4_0 (np := 11) dX9_compared_10 rfl ?_
  refine sw_gI (np := 14) sw_f_RX9_161 sw_k_105 dX9_compared_11 rfl ?_
  refine sw_if_ge (np := 17) (tp := 35) dX9_compared_14 rfl rfl ?_ ?_
  · refine sw_ild_4_1 (np := 36) dX9_compared_35 rfl ?_
    exact sw_iret dX9_compared_36
  · refine sw_ild_4_2 (np := 18) dX9_compared_17 rfl ?_
    refine sw_bipush (np := 20) dX9_compared_18 sw_bc_60 rfl ?_
    refine sw_jm0 (pj := 37) ([some (sw_vr G 105), some (.int r1), some (.int r2), none]) ([]) (fun S3 => ?_) (fun k1 hk1 => ?_)
    · refine sw_ald_4_0 (np := 38) dX9_compared_37 rfl ?_
      refine sw_dup (np := 39) dX9_compared_38 rfl rfl ?_
      refine sw_gI (np := 42) sw_f_RX9_152 sw_k_105 dX9_compared_39 rfl ?_
      refine sw_iconst (np := 43) dX9_compared_42 sw_ic_1 rfl ?_
      refine sw_iadd (np := 44) dX9_compared_43 rfl ?_
      refine sw_pI (np := 47) sw_f_RX9_152 sw_fp_9_12 sw_k_105 dX9_compared_44 rfl (fun S4 => ?_)
      refine sw_ald_4_0 (np := 48) dX9_compared_47 rfl ?_
      refine sw_cV0i (np := 51) (hR.2.2.2.1 _ _ _ _ _) sw_mv_X9_sums sw_k_105 sw_wl_RX9_177 dX9_compared_48 (sw_fit_rm (by omega) (by decide)) (Nat.le_of_ble_eq_true rfl) rfl (fun r3 S5 => ?_)
      refine sw_ist_4_3 (np := 52) dX9_compared_51 rfl rfl ?_
      refine sw_ild_4_2 (np := 53) dX9_compared_52 rfl ?_
      refine sw_bipush (np := 55) dX9_compared_53 sw_bc_60 rfl ?_
      refine sw_icmp_ne (np := 58) (tp := 66) dX9_compared_55 rfl rfl ?_ ?_
      · refine sw_ild_4_2 (np := 67) dX9_compared_66 rfl ?_
        refine sw_bipush (np := 69) dX9_compared_67 sw_bc_61 rfl ?_
        refine sw_icmp_ne (np := 72) (tp := 80) dX9_compared_69 rfl rfl ?_ ?_
        · refine sw_ild_4_1 (np := 81) dX9_compared_80 rfl ?_
          refine sw_ild_4_3 (np := 82) dX9_compared_81 rfl ?_
          refine sw_icmp_le (np := 85) (tp := 89) dX9_compared_82 rfl rfl ?_ ?_
          · refine sw_iconst (np := 90) dX9_compared_89 sw_ic_0 rfl ?_
            exact sw_iret dX9_compared_90
          · refine sw_iconst (np := 86) dX9_compared_85 sw_ic_1 rfl ?_
            refine sw_goto (tp := 90) dX9_compared_86 rfl ?_
            exact sw_iret dX9_compared_90
        · refine sw_ild_4_1 (np := 73) dX9_compared_72 rfl ?_
          refine sw_ild_4_3 (np := 74) dX9_compared_73 rfl ?_
          refine sw_icmp_ne (np := 77) (tp := 89) dX9_compared_74 rfl rfl ?_ ?_
          · refine sw_iconst (np := 90) dX9_compared_89 sw_ic_0 rfl ?_
            exact sw_iret dX9_compared_90
          · refine sw_goto (tp := 85) dX9_compared_77 rfl ?_
            refine sw_iconst (np := 86) dX9_compared_85 sw_ic_1 rfl ?_
            refine sw_goto (tp := 90) dX9_compared_86 rfl ?_
            exact sw_iret dX9_compared_90
      · refine sw_ild_4_1 (np := 59) dX9_compared_58 rfl ?_
        refine sw_ild_4_3 (np := 60) dX9_compared_59 rfl ?_
        refine sw_icmp_ge (np := 63) (tp := 89) dX9_compared_60 rfl rfl ?_ ?_
        · refine sw_iconst (np := 90) dX9_compared_89 sw_ic_0 rfl ?_
          exact sw_iret dX9_compared_90
        · refine sw_goto (tp := 85) dX9_compared_63 rfl ?_
          refine sw_iconst (np := 86) dX9_compared_85 sw_ic_1 rfl ?_
          refine sw_goto (tp := 90) dX9_compared_86 rfl ?_
          exact sw_iret dX9_compared_90
    · refine sw_icmp_eq (np := 23) (tp := 37) dX9_compared_20 rfl rfl ?_ ?_
      · exact hk1 _
      · refine sw_ild_4_2 (np := 24) dX9_compared_23 rfl ?_
        refine sw_bipush (np := 26) dX9_compared_24 sw_bc_61 rfl ?_
        refine sw_icmp_eq (np := 29) (tp := 37) dX9_compared_26 rfl rfl ?_ ?_
        · exact hk1 _
        · refine sw_ild_4_2 (np := 30) dX9_compared_29 rfl ?_
          refine sw_bipush (np := 32) dX9_compared_30 sw_bc_62 rfl ?_
          refine sw_icmp_eq (np := 35) (tp := 37) dX9_compared_32 rfl rfl ?_ ?_
          · exact hk1 _
          · refine sw_ild_4_1 (np := 36) dX9_compared_35 rfl ?_
            exact sw_iret dX9_compared_36
theorem ogX9_sums {G : sw_G} {N d : Nat} (hd : 3 ≤ d) {RR : Nat → Int32 → Int32 → Int32 → Int32 → sw_St → Option (Int32 × sw_St)} (hR : kG_5 G (d - 1) RR)  {S : sw_St} : sw_Ev G yX9_sums cX9_sums 4 (some .int) d sw_ei [sw_vr G 105] S (gX9_sums N RR  S) := by
  refine sw_Ev_of (own := RX9) (lv0 := [some (sw_vr G 105), none, none, none]) (by decide) rfl (Nat.le_of_ble_eq_true rfl) rfl ?_
  unfold gX9_sums
  refine sw_ald_4_0 (np := 1) dX9_sums_0 rfl ?_
  refine sw_cV0i (np := 4) (hR.2.2.2.2.1 _ _ _ _ _) sw_mv_X9_product sw_k_105 sw_wl_RX9_180 dX9_sums_1 (sw_fit_rm (by omega) (by decide)) (Nat.le_of_ble_eq_true rfl) rfl (fun r1 S1 => ?_)
  refine sw_ist_4_1 (np := 5) dX9_sums_4 rfl rfl ?_
  refine sw_lp1 (lv := fun x1_1 => [some (sw_vr G 105), some (.int x1_1), none, none]) (fun rec1 hrec1 x1_1 S2 => ?_) _ _ _
  refine sw_ald_4_0 (np := 6) dX9_sums_5 rfl ?_
  refine sw_gI (np := 9) sw_f_RX9_161 sw_k_105 dX9_sums_6 rfl ?_
  refine sw_if_ge (np := 12) (tp := 77) dX9_sums_9 rfl rfl ?_ ?_
  · refine sw_ild_4_1 (np := 78) dX9_sums_77 rfl ?_
    exact sw_iret dX9_sums_78
  · refine sw_ald_4_0 (np := 13) dX9_sums_12 rfl ?_
    refine sw_cV0i (np := 16) (hX9_byteAt (d := d - 1) (by omega) ) sw_mv_X9_byteAt sw_k_105 sw_wl_RX9_164 dX9_sums_13 (sw_fit_rm (by omega) (by decide)) (Nat.le_of_ble_eq_true rfl) rfl (fun r2 S3 => ?_)
    refine sw_bipush (np := 18) dX9_sums_16 sw_bc_43 rfl ?_
    refine sw_jm0 (pj := 30) ([some (sw_vr G 105), some (.int x1_1), none, none]) ([]) (fun S4 => ?_) (fun k1 hk1 => ?_)
    · refine sw_ald_4_0 (np := 31) dX9_sums_30 rfl ?_
      refine sw_cV0i (np := 34) (hX9_byteAt (d := d - 1) (by omega) ) sw_mv_X9_byteAt sw_k_105 sw_wl_RX9_164 dX9_sums_31 (sw_fit_rm (by omega) (by decide)) (Nat.le_of_ble_eq_true rfl) rfl (fun r3 S5 => ?_)
      refine sw_bipush (np := 36) dX9_sums_34 sw_bc_43 rfl ?_
      refine sw_jm1 (pj := 44) (fun y1 => [some (sw_vr G 105), some (.int x1_1), none, none]) (fun y1 => [.int y1]) (fun y1 S6 => ?_) (fun k2 hk2 => ?_)
      · refine sw_ist_4_2 (np := 45) dX9_sums_44 rfl rfl ?_
        refine sw_ald_4_0 (np := 46) dX9_sums_45 rfl ?_
        refine sw_dup (np := 47) dX9_sums_46 rfl rfl ?_
        refine sw_gI (np := 50) sw_f_RX9_152 sw_k_105 dX9_sums_47 rfl ?_
        refine sw_iconst (np := 51) dX9_sums_50 sw_ic_1 rfl ?_
        refine sw_iadd (np := 52) dX9_sums_51 rfl ?_
        refine sw_pI (np := 55) sw_f_RX9_152 sw_fp_9_12 sw_k_105 dX9_sums_52 rfl (fun S7 => ?_)
        refine sw_ald_4_0 (np := 56) dX9_sums_55 rfl ?_
        refine sw_cV0i (np := 59) (hR.2.2.2.2.1 _ _ _ _ _) sw_mv_X9_product sw_k_105 sw_wl_RX9_180 dX9_sums_56 (sw_fit_rm (by omega) (by decide)) (Nat.le_of_ble_eq_true rfl) rfl (fun r4 S8 => ?_)
        refine sw_ist_4_3 (np := 60) dX9_sums_59 rfl rfl ?_
        refine sw_ild_4_2 (np := 61) dX9_sums_60 rfl ?_
        refine sw_if_eq (np := 64) (tp := 70) dX9_sums_61 rfl rfl ?_ ?_
        · refine sw_ild_4_1 (np := 71) dX9_sums_70 rfl ?_
          refine sw_ild_4_3 (np := 72) dX9_sums_71 rfl ?_
          refine sw_isub (np := 73) dX9_sums_72 rfl ?_
          refine sw_isl_4_1 (np := 74) dX9_sums_73 rfl rfl (fun x1_2 => ?_)
          refine sw_goto (tp := 5) dX9_sums_74 rfl ?_
          refine sw_dr_4_2 ?_
          refine sw_dr_4_3 ?_
          exact hrec1 _ _
        · refine sw_ild_4_1 (np := 65) dX9_sums_64 rfl ?_
          refine sw_ild_4_3 (np := 66) dX9_sums_65 rfl ?_
          refine sw_iadd (np := 67) dX9_sums_66 rfl ?_
          refine sw_goto (tp := 73) dX9_sums_67 rfl ?_
          refine sw_isl_4_1 (np := 74) dX9_sums_73 rfl rfl (fun x1_3 => ?_)
          refine sw_goto (tp := 5) dX9_sums_74 rfl ?_
          refine sw_dr_4_2 ?_
          refine sw_dr_4_3 ?_
          exact hrec1 _ _
      · refine sw_icmp_ne (np := 39) (tp := 43) dX9_sums_36 rfl rfl ?_ ?_
        · refine sw_iconst (np := 44) dX9_sums_43 sw_ic_0 rfl ?_
          exact hk2 _ _
        · refine sw_iconst (np := 40) dX9_sums_39 sw_ic_1 rfl ?_
          refine sw_goto (tp := 44) dX9_sums_40 rfl ?_
          exact hk2 _ _
    · refine sw_icmp_eq (np := 21) (tp := 30) dX9_sums_18 rfl rfl ?_ ?_
      · exact hk1 _
      · refine sw_ald_4_0 (np := 22) dX9_sums_21 rfl ?_
        refine sw_cV0i (np := 25) (hX9_byteAt (d := d - 1) (by omega) ) sw_mv_X9_byteAt sw_k_105 sw_wl_RX9_164 dX9_sums_22 (sw_fit_rm (by omega) (by decide)) (Nat.le_of_ble_eq_true rfl) rfl (fun r5 S9 => ?_)
        refine sw_bipush (np := 27) dX9_sums_25 sw_bc_45 rfl ?_
        refine sw_icmp_ne (np := 30) (tp := 77) dX9_sums_27 rfl rfl ?_ ?_
        · refine sw_ild_4_1 (np := 78) dX9_sums_77 rfl ?_
          exact sw_iret dX9_sums_78
        · exact hk1 _
theorem ogX9_product {G : sw_G} {N d : Nat} (hd : 3 ≤ d) {RR : Nat → Int32 → Int32 → Int32 → Int32 → sw_St → Option (Int32 × sw_St)} (hR : kG_5 G (d - 1) RR)  {S : sw_St} : sw_Ev G yX9_product cX9_product 4 (some .int) d sw_ei [sw_vr G 105] S (gX9_product N RR  S) := by
  refine sw_Ev_of (own := RX9) (lv0 := [some (sw_vr G 105), none, none, none]) (by decide) rfl (Nat.le_of_ble_eq_true rfl) rfl ?_
  unfold gX9_product
  refine sw_ald_4_0 (np := 1) dX9_product_0 rfl ?_
  refine sw_cV0i (np := 4) (hR.2.2.2.2.2 _ _ _ _ _) sw_mv_X9_one sw_k_105 sw_wl_RX9_183 dX9_product_1 (sw_fit_rm (by omega) (by decide)) (Nat.le_of_ble_eq_true rfl) rfl (fun r1 S1 => ?_)
  refine sw_ist_4_1 (np := 5) dX9_product_4 rfl rfl ?_
  refine sw_ald_4_0 (np := 6) dX9_product_5 rfl ?_
  refine sw_cV0i (np := 9) (hX9_byteAt (d := d - 1) (by omega) ) sw_mv_X9_byteAt sw_k_105 sw_wl_RX9_164 dX9_product_6 (sw_fit_rm (by omega) (by decide)) (Nat.le_of_ble_eq_true rfl) rfl (fun r2 S2 => ?_)
  refine sw_ist_4_2 (np := 10) dX9_product_9 rfl rfl ?_
  refine sw_lp2 (lv := fun x1_1 x2_1 => [some (sw_vr G 105), some (.int x1_1), some (.int x2_1), none]) (fun rec1 hrec1 x1_1 x2_1 S3 => ?_) _ _ _ _
  refine sw_ald_4_0 (np := 11) dX9_product_10 rfl ?_
  refine sw_gI (np := 14) sw_f_RX9_161 sw_k_105 dX9_product_11 rfl ?_
  refine sw_if_ge (np := 17) (tp := 94) dX9_product_14 rfl rfl ?_ ?_
  · refine sw_ild_4_1 (np := 95) dX9_product_94 rfl ?_
    exact sw_iret dX9_product_95
  · refine sw_ild_4_2 (np := 18) dX9_product_17 rfl ?_
    refine sw_bipush (np := 20) dX9_product_18 sw_bc_42 rfl ?_
    refine sw_jm0 (pj := 35) ([some (sw_vr G 105), some (.int x1_1), some (.int x2_1), none]) ([]) (fun S4 => ?_) (fun k1 hk1 => ?_)
    · refine sw_ald_4_0 (np := 36) dX9_product_35 rfl ?_
      refine sw_dup (np := 37) dX9_product_36 rfl rfl ?_
      refine sw_gI (np := 40) sw_f_RX9_152 sw_k_105 dX9_product_37 rfl ?_
      refine sw_iconst (np := 41) dX9_product_40 sw_ic_1 rfl ?_
      refine sw_iadd (np := 42) dX9_product_41 rfl ?_
      refine sw_pI (np := 45) sw_f_RX9_152 sw_fp_9_12 sw_k_105 dX9_product_42 rfl (fun S5 => ?_)
      refine sw_ald_4_0 (np := 46) dX9_product_45 rfl ?_
      refine sw_cV0i (np := 49) (hR.2.2.2.2.2 _ _ _ _ _) sw_mv_X9_one sw_k_105 sw_wl_RX9_183 dX9_product_46 (sw_fit_rm (by omega) (by decide)) (Nat.le_of_ble_eq_true rfl) rfl (fun r3 S6 => ?_)
      refine sw_ist_4_3 (np := 50) dX9_product_49 rfl rfl ?_
      refine sw_ild_4_2 (np := 51) dX9_product_50 rfl ?_
      refine sw_bipush (np := 53) dX9_product_51 sw_bc_42 rfl ?_
      refine sw_icmp_ne (np := 56) (tp := 62) dX9_product_53 rfl rfl ?_ ?_
      · refine sw_ild_4_3 (np := 63) dX9_product_62 rfl ?_
        refine sw_if_ne (np := 66) (tp := 70) dX9_product_63 rfl rfl ?_ ?_
        · refine sw_ild_4_2 (np := 71) dX9_product_70 rfl ?_
          refine sw_bipush (np := 73) dX9_product_71 sw_bc_47 rfl ?_
          refine sw_icmp_ne (np := 76) (tp := 82) dX9_product_73 rfl rfl ?_ ?_
          · refine sw_ild_4_1 (np := 83) dX9_product_82 rfl ?_
            refine sw_ild_4_3 (np := 84) dX9_product_83 rfl ?_
            refine sw_iremG (np := 85) dX9_product_84 rfl ?_
            refine sw_isl_4_1 (np := 86) dX9_product_85 rfl rfl (fun x1_2 => ?_)
            refine sw_ald_4_0 (np := 87) dX9_product_86 rfl ?_
            refine sw_cV0i (np := 90) (hX9_byteAt (d := d - 1) (by omega) ) sw_mv_X9_byteAt sw_k_105 sw_wl_RX9_164 dX9_product_87 (sw_fit_rm (by omega) (by decide)) (Nat.le_of_ble_eq_true rfl) rfl (fun r4 S7 => ?_)
            refine sw_ist_4_2 (np := 91) dX9_product_90 rfl rfl ?_
            refine sw_goto (tp := 10) dX9_product_91 rfl ?_
            refine sw_dr_4_3 ?_
            exact hrec1 _ _ _
          · refine sw_ild_4_1 (np := 77) dX9_product_76 rfl ?_
            refine sw_ild_4_3 (np := 78) dX9_product_77 rfl ?_
            refine sw_idivG (np := 79) dX9_product_78 rfl ?_
            refine sw_goto (tp := 85) dX9_product_79 rfl ?_
            refine sw_isl_4_1 (np := 86) dX9_product_85 rfl rfl (fun x1_3 => ?_)
            refine sw_ald_4_0 (np := 87) dX9_product_86 rfl ?_
            refine sw_cV0i (np := 90) (hX9_byteAt (d := d - 1) (by omega) ) sw_mv_X9_byteAt sw_k_105 sw_wl_RX9_164 dX9_product_87 (sw_fit_rm (by omega) (by decide)) (Nat.le_of_ble_eq_true rfl) rfl (fun r5 S8 => ?_)
            refine sw_ist_4_2 (np := 91) dX9_product_90 rfl rfl ?_
            refine sw_goto (tp := 10) dX9_product_91 rfl ?_
            refine sw_dr_4_3 ?_
            exact hrec1 _ _ _
        · refine sw_iconst (np := 67) dX9_product_66 sw_ic_0 rfl ?_
          refine sw_goto (tp := 85) dX9_product_67 rfl ?_
          refine sw_ist_4_1 (np := 86) dX9_product_85 rfl rfl ?_
          refine sw_ald_4_0 (np := 87) dX9_product_86 rfl ?_
          refine sw_cV0i (np := 90) (hX9_byteAt (d := d - 1) (by omega) ) sw_mv_X9_byteAt sw_k_105 sw_wl_RX9_164 dX9_product_87 (sw_fit_rm (by omega) (by decide)) (Nat.le_of_ble_eq_true rfl) rfl (fun r6 S9 => ?_)
          refine sw_ist_4_2 (np := 91) dX9_product_90 rfl rfl ?_
          refine sw_goto (tp := 10) dX9_product_91 rfl ?_
          refine sw_dr_4_3 ?_
          exact hrec1 _ _ _
      · refine sw_ild_4_1 (np := 57) dX9_product_56 rfl ?_
        refine sw_ild_4_3 (np := 58) dX9_product_57 rfl ?_
        refine sw_imul (np := 59) dX9_product_58 rfl ?_
        refine sw_goto (tp := 85) dX9_product_59 rfl ?_
        refine sw_isl_4_1 (np := 86) dX9_product_85 rfl rfl (fun x1_4 => ?_)
        refine sw_ald_4_0 (np := 87) dX9_product_86 rfl ?_
        refine sw_cV0i (np := 90) (hX9_byteAt (d := d - 1) (by omega) ) sw_mv_X9_byteAt sw_k_105 sw_wl_RX9_164 dX9_product_87 (sw_fit_rm (by omega) (by decide)) (Nat.le_of_ble_eq_true rfl) rfl (fun r7 S10 => ?_)
        refine sw_ist_4_2 (np := 91) dX9_product_90 rfl rfl ?_
        refine sw_goto (tp := 10) dX9_product_91 rfl ?_
        refine sw_dr_4_3 ?_
        exact hrec1 _ _ _
    · refine sw_icmp_eq (np := 23) (tp := 35) dX9_product_20 rfl rfl ?_ ?_
      · exact hk1 _
      · refine sw_ild_4_2 (np := 24) dX9_product_23 rfl ?_
        refine sw_bipush (np := 26) dX9_product_24 sw_bc_47 rfl ?_
        refine sw_icmp_eq (np := 29) (tp := 35) dX9_product_26 rfl rfl ?_ ?_
        · exact hk1 _
        · refine sw_ild_4_2 (np := 30) dX9_product_29 rfl ?_
          refine sw_bipush (np := 32) dX9_product_30 sw_bc_37 rfl ?_
          refine sw_icmp_ne (np := 35) (tp := 94) dX9_product_32 rfl rfl ?_ ?_
          · refine sw_ild_4_1 (np := 95) dX9_product_94 rfl ?_
            exact sw_iret dX9_product_95
          · exact hk1 _
theorem ogX9_one {G : sw_G} {N d : Nat} (hd : 3 ≤ d) {RR : Nat → Int32 → Int32 → Int32 → Int32 → sw_St → Option (Int32 × sw_St)} (hR : kG_5 G (d - 1) RR)  {S : sw_St} : sw_Ev G yX9_one cX9_one 5 (some .int) d sw_ei [sw_vr G 105] S (gX9_one N RR  S) := by
  refine sw_Ev_of (own := RX9) (lv0 := [some (sw_vr G 105), none, none, none, none]) (by decide) rfl (Nat.le_of_ble_eq_true rfl) rfl ?_
  unfold gX9_one
  refine sw_ald_5_0 (np := 1) dX9_one_0 rfl ?_
  refine sw_gI (np := 4) sw_f_RX9_161 sw_k_105 dX9_one_1 rfl ?_
  refine sw_if_lt (np := 7) (tp := 9) dX9_one_4 rfl rfl ?_ ?_
  · refine sw_ald_5_0 (np := 10) dX9_one_9 rfl ?_
    refine sw_cV0i (np := 13) (hX9_byteAt (d := d - 1) (by omega) ) sw_mv_X9_byteAt sw_k_105 sw_wl_RX9_164 dX9_one_10 (sw_fit_rm (by omega) (by decide)) (Nat.le_of_ble_eq_true rfl) rfl (fun r1 S1 => ?_)
    refine sw_ist_5_1 (np := 14) dX9_one_13 rfl rfl ?_
    refine sw_ild_5_1 (np := 15) dX9_one_14 rfl ?_
    refine sw_bipush (np := 17) dX9_one_15 sw_bc_33 rfl ?_
    refine sw_jm0 (pj := 32) ([some (sw_vr G 105), some (.int r1), none, none, none]) ([]) (fun S2 => ?_) (fun k1 hk1 => ?_)
    · refine sw_ald_5_0 (np := 33) dX9_one_32 rfl ?_
      refine sw_gI (np := 36) sw_f_RX9_186 sw_k_105 dX9_one_33 rfl ?_
      refine sw_bipush (np := 38) dX9_one_36 sw_bc_6 rfl ?_
      refine sw_icmp_ne (np := 41) (tp := 46) dX9_one_38 rfl rfl ?_ ?_
      · refine sw_ald_5_0 (np := 47) dX9_one_46 rfl ?_
        refine sw_dup (np := 48) dX9_one_47 rfl rfl ?_
        refine sw_gI (np := 51) sw_f_RX9_186 sw_k_105 dX9_one_48 rfl ?_
        refine sw_iconst (np := 52) dX9_one_51 sw_ic_1 rfl ?_
        refine sw_iadd (np := 53) dX9_one_52 rfl ?_
        refine sw_pI (np := 56) sw_f_RX9_186 sw_fp_9_15 sw_k_105 dX9_one_53 rfl (fun S3 => ?_)
        refine sw_ald_5_0 (np := 57) dX9_one_56 rfl ?_
        refine sw_dup (np := 58) dX9_one_57 rfl rfl ?_
        refine sw_gI (np := 61) sw_f_RX9_152 sw_k_105 dX9_one_58 rfl ?_
        refine sw_iconst (np := 62) dX9_one_61 sw_ic_1 rfl ?_
        refine sw_iadd (np := 63) dX9_one_62 rfl ?_
        refine sw_pI (np := 66) sw_f_RX9_152 sw_fp_9_12 sw_k_105 dX9_one_63 rfl (fun S4 => ?_)
        refine sw_ild_5_1 (np := 67) dX9_one_66 rfl ?_
        refine sw_bipush (np := 69) dX9_one_67 sw_bc_40 rfl ?_
        refine sw_jm1 (pj := 83) (fun y1 => [some (sw_vr G 105), some (.int r1), none, none, none]) (fun y1 => [.int y1]) (fun y1 S5 => ?_) (fun k2 hk2 => ?_)
        · refine sw_ist_5_2 (np := 84) dX9_one_83 rfl rfl ?_
          refine sw_ild_5_1 (np := 85) dX9_one_84 rfl ?_
          refine sw_bipush (np := 87) dX9_one_85 sw_bc_40 rfl ?_
          refine sw_jm0 (pj := 104) ([some (sw_vr G 105), some (.int r1), some (.int y1), none, none]) ([]) (fun S6 => ?_) (fun k3 hk3 => ?_)
          · refine sw_ald_5_0 (np := 105) dX9_one_104 rfl ?_
            refine sw_dup (np := 106) dX9_one_105 rfl rfl ?_
            refine sw_gI (np := 109) sw_f_RX9_186 sw_k_105 dX9_one_106 rfl ?_
            refine sw_iconst (np := 110) dX9_one_109 sw_ic_1 rfl ?_
            refine sw_isub (np := 111) dX9_one_110 rfl ?_
            refine sw_pI (np := 114) sw_f_RX9_186 sw_fp_9_15 sw_k_105 dX9_one_111 rfl (fun S7 => ?_)
            refine sw_ild_5_1 (np := 115) dX9_one_114 rfl ?_
            refine sw_bipush (np := 117) dX9_one_115 sw_bc_40 rfl ?_
            refine sw_icmp_ne (np := 120) (tp := 124) dX9_one_117 rfl rfl ?_ ?_
            · refine sw_ild_5_1 (np := 125) dX9_one_124 rfl ?_
              refine sw_bipush (np := 127) dX9_one_125 sw_bc_45 rfl ?_
              refine sw_icmp_ne (np := 130) (tp := 135) dX9_one_127 rfl rfl ?_ ?_
              · refine sw_ild_5_2 (np := 136) dX9_one_135 rfl ?_
                refine sw_if_ne (np := 139) (tp := 143) dX9_one_136 rfl rfl ?_ ?_
                · refine sw_iconst (np := 144) dX9_one_143 sw_ic_0 rfl ?_
                  exact sw_iret dX9_one_144
                · refine sw_iconst (np := 140) dX9_one_139 sw_ic_1 rfl ?_
                  refine sw_goto (tp := 144) dX9_one_140 rfl ?_
                  exact sw_iret dX9_one_144
              · refine sw_ild_5_2 (np := 131) dX9_one_130 rfl ?_
                refine sw_ineg (np := 132) dX9_one_131 rfl ?_
                refine sw_goto (tp := 144) dX9_one_132 rfl ?_
                exact sw_iret dX9_one_144
            · refine sw_ild_5_2 (np := 121) dX9_one_120 rfl ?_
              refine sw_goto (tp := 144) dX9_one_121 rfl ?_
              exact sw_iret dX9_one_144
          · refine sw_icmp_ne (np := 90) (tp := 104) dX9_one_87 rfl rfl ?_ ?_
            · exact hk3 _
            · refine sw_ald_5_0 (np := 91) dX9_one_90 rfl ?_
              refine sw_bipush (np := 93) dX9_one_91 sw_bc_41 rfl ?_
              refine sw_cV1i (np := 96) (hX9_takes (d := d - 1) (by omega) ) sw_mv_X9_takes sw_k_105 sw_wl_RX9_171 dX9_one_93 (sw_fit_rm (by omega) (by decide)) (Nat.le_of_ble_eq_true rfl) rfl (fun r2 S8 => ?_)
              refine sw_if_ne (np := 99) (tp := 104) dX9_one_96 rfl rfl ?_ ?_
              · exact hk3 _
              · refine sw_ald_5_0 (np := 100) dX9_one_99 rfl ?_
                refine sw_cV0i (np := 103) (hX9_wrong (d := d - 1) (by omega) ) sw_mv_X9_wrong sw_k_105 sw_wl_RX9_189 dX9_one_100 (sw_fit_rm (by omega) (by decide)) (Nat.le_of_ble_eq_true rfl) rfl (fun r3 S9 => ?_)
                exact sw_iret dX9_one_103
        · refine sw_icmp_ne (np := 72) (tp := 79) dX9_one_69 rfl rfl ?_ ?_
          · refine sw_ald_5_0 (np := 80) dX9_one_79 rfl ?_
            refine sw_cV0i (np := 83) (hR.2.2.2.2.2 _ _ _ _ _) sw_mv_X9_one sw_k_105 sw_wl_RX9_183 dX9_one_80 (sw_fit_rm (by omega) (by decide)) (Nat.le_of_ble_eq_true rfl) rfl (fun r4 S10 => ?_)
            exact hk2 _ _
          · refine sw_ald_5_0 (np := 73) dX9_one_72 rfl ?_
            refine sw_cV0i (np := 76) (hR.1 _ _ _ _ _) sw_mv_X9_either sw_k_105 sw_wl_RX9_192 dX9_one_73 (sw_fit_rm (by omega) (by decide)) (Nat.le_of_ble_eq_true rfl) rfl (fun r5 S11 => ?_)
            refine sw_goto (tp := 83) dX9_one_76 rfl ?_
            exact hk2 _ _
      · refine sw_ald_5_0 (np := 42) dX9_one_41 rfl ?_
        refine sw_cV0i (np := 45) (hX9_wrong (d := d - 1) (by omega) ) sw_mv_X9_wrong sw_k_105 sw_wl_RX9_189 dX9_one_42 (sw_fit_rm (by omega) (by decide)) (Nat.le_of_ble_eq_true rfl) rfl (fun r6 S12 => ?_)
        exact sw_iret dX9_one_45
    · refine sw_icmp_eq (np := 20) (tp := 32) dX9_one_17 rfl rfl ?_ ?_
      · exact hk1 _
      · refine sw_ild_5_1 (np := 21) dX9_one_20 rfl ?_
        refine sw_bipush (np := 23) dX9_one_21 sw_bc_45 rfl ?_
        refine sw_icmp_eq (np := 26) (tp := 32) dX9_one_23 rfl rfl ?_ ?_
        · exact hk1 _
        · refine sw_ild_5_1 (np := 27) dX9_one_26 rfl ?_
          refine sw_bipush (np := 29) dX9_one_27 sw_bc_40 rfl ?_
          refine sw_icmp_ne (np := 32) (tp := 145) dX9_one_29 rfl rfl ?_ ?_
          · refine sw_ild_5_1 (np := 146) dX9_one_145 rfl ?_
            refine sw_cS1i (np := 149) (hX9_nameOf (d := d - 1) (by omega) ) sw_ms_X9_nameOf sw_wl_RX9_195 dX9_one_146 (sw_fit_rm (by omega) (by decide)) (Nat.le_of_ble_eq_true rfl) rfl (fun r7 S13 => ?_)
            refine sw_ist_5_2 (np := 150) dX9_one_149 rfl rfl ?_
            refine sw_ild_5_2 (np := 151) dX9_one_150 rfl ?_
            refine sw_if_lt (np := 154) (tp := 171) dX9_one_151 rfl rfl ?_ ?_
            · refine sw_iconst (np := 172) dX9_one_171 sw_ic_0 rfl ?_
              refine sw_ist_5_3 (np := 173) dX9_one_172 rfl rfl ?_
              refine sw_iconst (np := 174) dX9_one_173 sw_ic_0 rfl ?_
              refine sw_ist_5_4 (np := 176) dX9_one_174 rfl rfl ?_
              refine sw_dr_5_1 ?_
              refine sw_dr_5_2 ?_
              refine sw_lp2 (lv := fun x3_1 x4_1 => [some (sw_vr G 105), none, none, some (.int x3_1), some (.int x4_1)]) (fun rec1 hrec1 x3_1 x4_1 S14 => ?_) _ _ _ _
              refine sw_ild_5_4 (np := 178) dX9_one_176 rfl ?_
              refine sw_iconst (np := 179) dX9_one_178 sw_ic_4 rfl ?_
              refine sw_icmp_ge (np := 182) (tp := 229) dX9_one_179 rfl rfl ?_ ?_
              · refine sw_ild_5_4 (np := 231) dX9_one_229 rfl ?_
                refine sw_if_ne (np := 234) (tp := 241) dX9_one_231 rfl rfl ?_ ?_
                · refine sw_ild_5_3 (np := 242) dX9_one_241 rfl ?_
                  exact sw_iret dX9_one_242
                · refine sw_ald_5_0 (np := 235) dX9_one_234 rfl ?_
                  refine sw_cV0i (np := 238) (hX9_wrong (d := d - 1) (by omega) ) sw_mv_X9_wrong sw_k_105 sw_wl_RX9_189 dX9_one_235 (sw_fit_rm (by omega) (by decide)) (Nat.le_of_ble_eq_true rfl) rfl (fun r8 S15 => ?_)
                  refine sw_goto (tp := 242) dX9_one_238 rfl ?_
                  exact sw_iret dX9_one_242
              · refine sw_ald_5_0 (np := 183) dX9_one_182 rfl ?_
                refine sw_cV0i (np := 186) (hX9_byteAt (d := d - 1) (by omega) ) sw_mv_X9_byteAt sw_k_105 sw_wl_RX9_164 dX9_one_183 (sw_fit_rm (by omega) (by decide)) (Nat.le_of_ble_eq_true rfl) rfl (fun r9 S16 => ?_)
                refine sw_bipush (np := 188) dX9_one_186 sw_bc_48 rfl ?_
                refine sw_icmp_lt (np := 191) (tp := 229) dX9_one_188 rfl rfl ?_ ?_
                · refine sw_ild_5_4 (np := 231) dX9_one_229 rfl ?_
                  refine sw_if_ne (np := 234) (tp := 241) dX9_one_231 rfl rfl ?_ ?_
                  · refine sw_ild_5_3 (np := 242) dX9_one_241 rfl ?_
                    exact sw_iret dX9_one_242
                  · refine sw_ald_5_0 (np := 235) dX9_one_234 rfl ?_
                    refine sw_cV0i (np := 238) (hX9_wrong (d := d - 1) (by omega) ) sw_mv_X9_wrong sw_k_105 sw_wl_RX9_189 dX9_one_235 (sw_fit_rm (by omega) (by decide)) (Nat.le_of_ble_eq_true rfl) rfl (fun r10 S17 => ?_)
                    refine sw_goto (tp := 242) dX9_one_238 rfl ?_
                    exact sw_iret dX9_one_242
                · refine sw_ald_5_0 (np := 192) dX9_one_191 rfl ?_
                  refine sw_cV0i (np := 195) (hX9_byteAt (d := d - 1) (by omega) ) sw_mv_X9_byteAt sw_k_105 sw_wl_RX9_164 dX9_one_192 (sw_fit_rm (by omega) (by decide)) (Nat.le_of_ble_eq_true rfl) rfl (fun r11 S18 => ?_)
                  refine sw_bipush (np := 197) dX9_one_195 sw_bc_57 rfl ?_
                  refine sw_icmp_gt (np := 200) (tp := 229) dX9_one_197 rfl rfl ?_ ?_
                  · refine sw_ild_5_4 (np := 231) dX9_one_229 rfl ?_
                    refine sw_if_ne (np := 234) (tp := 241) dX9_one_231 rfl rfl ?_ ?_
                    · refine sw_ild_5_3 (np := 242) dX9_one_241 rfl ?_
                      exact sw_iret dX9_one_242
                    · refine sw_ald_5_0 (np := 235) dX9_one_234 rfl ?_
                      refine sw_cV0i (np := 238) (hX9_wrong (d := d - 1) (by omega) ) sw_mv_X9_wrong sw_k_105 sw_wl_RX9_189 dX9_one_235 (sw_fit_rm (by omega) (by decide)) (Nat.le_of_ble_eq_true rfl) rfl (fun r12 S19 => ?_)
                      refine sw_goto (tp := 242) dX9_one_238 rfl ?_
                      exact sw_iret dX9_one_242
                  · refine sw_bipush (np := 202) dX9_one_200 sw_bc_10 rfl ?_
                    refine sw_ild_5_3 (np := 203) dX9_one_202 rfl ?_
                    refine sw_imul (np := 204) dX9_one_203 rfl ?_
                    refine sw_ald_5_0 (np := 205) dX9_one_204 rfl ?_
                    refine sw_cV0i (np := 208) (hX9_byteAt (d := d - 1) (by omega) ) sw_mv_X9_byteAt sw_k_105 sw_wl_RX9_164 dX9_one_205 (sw_fit_rm (by omega) (by decide)) (Nat.le_of_ble_eq_true rfl) rfl (fun r13 S20 => ?_)
                    refine sw_iadd (np := 209) dX9_one_208 rfl ?_
                    refine sw_bipush (np := 211) dX9_one_209 sw_bc_48 rfl ?_
                    refine sw_isub (np := 212) dX9_one_211 rfl ?_
                    refine sw_isl_5_3 (np := 213) dX9_one_212 rfl rfl (fun x3_2 => ?_)
                    refine sw_inc_5_4 (np := 216) dX9_one_213 sw_ic_1 rfl rfl ?_
                    refine sw_ald_5_0 (np := 217) dX9_one_216 rfl ?_
                    refine sw_dup (np := 218) dX9_one_217 rfl rfl ?_
                    refine sw_gI (np := 221) sw_f_RX9_152 sw_k_105 dX9_one_218 rfl ?_
                    refine sw_iconst (np := 222) dX9_one_221 sw_ic_1 rfl ?_
                    refine sw_iadd (np := 223) dX9_one_222 rfl ?_
                    refine sw_pI (np := 226) sw_f_RX9_152 sw_fp_9_12 sw_k_105 dX9_one_223 rfl (fun S21 => ?_)
                    refine sw_goto (tp := 176) dX9_one_226 rfl ?_
                    exact hrec1 _ _ _
            · refine sw_ald_5_0 (np := 155) dX9_one_154 rfl ?_
              refine sw_dup (np := 156) dX9_one_155 rfl rfl ?_
              refine sw_gI (np := 159) sw_f_RX9_152 sw_k_105 dX9_one_156 rfl ?_
              refine sw_iconst (np := 160) dX9_one_159 sw_ic_1 rfl ?_
              refine sw_iadd (np := 161) dX9_one_160 rfl ?_
              refine sw_pI (np := 164) sw_f_RX9_152 sw_fp_9_12 sw_k_105 dX9_one_161 rfl (fun S22 => ?_)
              refine sw_ald_5_0 (np := 165) dX9_one_164 rfl ?_
              refine sw_gR (np := 168) sw_f_RX9_28 sw_k_105 sw_r_105_16 dX9_one_165 rfl ?_
              refine sw_ild_5_2 (np := 169) dX9_one_168 rfl ?_
              refine sw_iald (np := 170) sw_k_112 sw_n_112 dX9_one_169 rfl ?_
              exact sw_iret dX9_one_170
          · exact hk1 _
  · refine sw_iconst (np := 8) dX9_one_7 sw_ic_0 rfl ?_
    exact sw_iret dX9_one_8
theorem hG_5 {G : sw_G} {N : Nat} : ∀ n d, 3 + n ≤ d → kG_5 G d (fG_5 N n) := by
  intro n
  induction n with
  | zero => intro d _; exact ⟨(fun _ _ _ _ _ _ h => by cases h), (fun _ _ _ _ _ _ h => by cases h), (fun _ _ _ _ _ _ h => by cases h), (fun _ _ _ _ _ _ h => by cases h), (fun _ _ _ _ _ _ h => by cases h), (fun _ _ _ _ _ _ h => by cases h)⟩
  | succ n ih => intro d hd; exact ⟨fun _ _ _ _ _ => ogX9_either (by omega) (ih (d - 1) (by omega)), fun _ _ _ _ _ => ogX9_both (by omega) (ih (d - 1) (by omega)), fun _ _ _ _ _ => ogX9_compared (by omega) (ih (d - 1) (by omega)), fun _ _ _ _ _ => ogX9_sums (by omega) (ih (d - 1) (by omega)), fun _ _ _ _ _ => ogX9_product (by omega) (ih (d - 1) (by omega)), fun _ _ _ _ _ => ogX9_one (by omega) (ih (d - 1) (by omega))⟩
def fX9_either (N : Nat)  (S : sw_St) : Option (Int32 × sw_St) := fG_5 N 100 0 0 0 0 0 S
theorem hX9_either {G : sw_G} {N d : Nat} (hd : 103 ≤ d)  {S : sw_St} : sw_Ev G yX9_either cX9_either 3 (some .int) d sw_ei [sw_vr G 105] S (fX9_either N  S) := (hG_5 (G := G) (N := N) 100 d hd).1 _ _ _ _ _
def fX9_both (N : Nat)  (S : sw_St) : Option (Int32 × sw_St) := fG_5 N 100 1 0 0 0 0 S
theorem hX9_both {G : sw_G} {N d : Nat} (hd : 103 ≤ d)  {S : sw_St} : sw_Ev G yX9_both cX9_both 3 (some .int) d sw_ei [sw_vr G 105] S (fX9_both N  S) := (hG_5 (G := G) (N := N) 100 d hd).2.1 _ _ _ _ _
def fX9_compared (N : Nat)  (S : sw_St) : Option (Int32 × sw_St) := fG_5 N 100 2 0 0 0 0 S
theorem hX9_compared {G : sw_G} {N d : Nat} (hd : 103 ≤ d)  {S : sw_St} : sw_Ev G yX9_compared cX9_compared 4 (some .int) d sw_ei [sw_vr G 105] S (fX9_compared N  S) := (hG_5 (G := G) (N := N) 100 d hd).2.2.1 _ _ _ _ _
def fX9_sums (N : Nat)  (S : sw_St) : Option (Int32 × sw_St) := fG_5 N 100 3 0 0 0 0 S
theorem hX9_sums {G : sw_G} {N d : Nat} (hd : 103 ≤ d)  {S : sw_St} : sw_Ev G yX9_sums cX9_sums 4 (some .int) d sw_ei [sw_vr G 105] S (fX9_sums N  S) := (hG_5 (G := G) (N := N) 100 d hd).2.2.2.1 _ _ _ _ _
def fX9_product (N : Nat)  (S : sw_St) : Option (Int32 × sw_St) := fG_5 N 100 4 0 0 0 0 S
theorem hX9_product {G : sw_G} {N d : Nat} (hd : 103 ≤ d)  {S : sw_St} : sw_Ev G yX9_product cX9_product 4 (some .int) d sw_ei [sw_vr G 105] S (fX9_product N  S) := (hG_5 (G := G) (N := N) 100 d hd).2.2.2.2.1 _ _ _ _ _
def fX9_one (N : Nat)  (S : sw_St) : Option (Int32 × sw_St) := fG_5 N 100 5 0 0 0 0 S
theorem hX9_one {G : sw_G} {N d : Nat} (hd : 103 ≤ d)  {S : sw_St} : sw_Ev G yX9_one cX9_one 5 (some .int) d sw_ei [sw_vr G 105] S (fX9_one N  S) := (hG_5 (G := G) (N := N) 100 d hd).2.2.2.2.2 _ _ _ _ _
/-- SwordAtticModel.workOut(II)I -/
def fX9_workOut (N : Nat) (p1 : Int32) (p2 : Int32) (S : sw_St) : Option (Int32 × sw_St) :=
  sw_ls (sw_si S 105 11 p1) (fun S1 => (sw_ls (sw_si S1 105 12 (0 : Int32)) (fun S2 => (sw_ls (sw_si S2 105 13 p2) (fun S3 => (sw_ls (sw_si S3 105 14 (-1 : Int32)) (fun S4 => (sw_ls (sw_si S4 105 15 (0 : Int32)) (fun S5 => (sw_fx3 (fun rec1 x3_1 x4_1 x5_1 S6 => (if x5_1 = 0 then (if (S6.1 105 14) ≥ 0 then (some (x4_1, S6)) else (if (S6.1 105 12) ≥ (S6.1 105 13) then (some (x4_1, S6)) else (sw_bd (fX9_wrong N S6) (fun r1 S7 => (some (r1, S7)))))) else (sw_bd (fX9_either N S6) (fun r2 S8 => (sw_bd (fX9_takes N (63 : Int32) S8) (fun r3 S9 => (sw_jn2 (fun x6_1 x7_1 S10 => (if (S10.1 105 14) ≥ 0 then (sw_bd (fX9_takes N (59 : Int32) S10) (fun r4 S11 => (rec1 x3_1 x4_1 r4 S11))) else (if x7_1 = 0 then (sw_bd (fX9_takes N (59 : Int32) S10) (fun r5 S12 => (rec1 x3_1 x4_1 r5 S12))) else (if x3_1 = 0 then (sw_bd (fX9_takes N (59 : Int32) S10) (fun r7 S14 => (rec1 (1 : Int32) x6_1 r7 S14))) else (sw_bd (fX9_takes N (59 : Int32) S10) (fun r6 S13 => (rec1 x3_1 x4_1 r6 S13))))))) (fun k1 => (if r3 = 0 then (k1 r2 (1 : Int32) S9) else (sw_jn1 (fun y1 S15 => (sw_bd (fX9_either N S15) (fun r8 S16 => (k1 r8 y1 S16)))) (fun k2 => (if r2 = 0 then (k2 (0 : Int32) S9) else (k2 (1 : Int32) S9))))))))))))) N (0 : Int32) (0 : Int32) (1 : Int32) S5))))))))))
theorem hX9_workOut {G : sw_G} {N d : Nat} (hd : 104 ≤ d) {p1 : Int32} {p2 : Int32}  {S : sw_St} : sw_Ev G yX9_workOut cX9_workOut 8 (some .int) d sw_ei [sw_vr G 105, .int p1, .int p2] S (fX9_workOut N p1 p2 S) := by
  refine sw_Ev_of (own := RX9) (lv0 := [some (sw_vr G 105), some (.int p1), some (.int p2), none, none, none, none, none]) (by decide) rfl (Nat.le_of_ble_eq_true rfl) rfl ?_
  unfold fX9_workOut
  refine sw_ald_8_0 (np := 1) dX9_workOut_0 rfl ?_
  refine sw_ild_8_1 (np := 2) dX9_workOut_1 rfl ?_
  refine sw_pI (np := 5) sw_f_RX9_158 sw_fp_9_11 sw_k_105 dX9_workOut_2 rfl (fun S1 => ?_)
  refine sw_ald_8_0 (np := 6) dX9_workOut_5 rfl ?_
  refine sw_iconst (np := 7) dX9_workOut_6 sw_ic_0 rfl ?_
  refine sw_pI (np := 10) sw_f_RX9_152 sw_fp_9_12 sw_k_105 dX9_workOut_7 rfl (fun S2 => ?_)
  refine sw_ald_8_0 (np := 11) dX9_workOut_10 rfl ?_
  refine sw_ild_8_2 (np := 12) dX9_workOut_11 rfl ?_
  refine sw_pI (np := 15) sw_f_RX9_155 sw_fp_9_13 sw_k_105 dX9_workOut_12 rfl (fun S3 => ?_)
  refine sw_ald_8_0 (np := 16) dX9_workOut_15 rfl ?_
  refine sw_iconst (np := 17) dX9_workOut_16 sw_ic_m1 rfl ?_
  refine sw_pI (np := 20) sw_f_RX9_161 sw_fp_9_14 sw_k_105 dX9_workOut_17 rfl (fun S4 => ?_)
  refine sw_ald_8_0 (np := 21) dX9_workOut_20 rfl ?_
  refine sw_iconst (np := 22) dX9_workOut_21 sw_ic_0 rfl ?_
  refine sw_pI (np := 25) sw_f_RX9_186 sw_fp_9_15 sw_k_105 dX9_workOut_22 rfl (fun S5 => ?_)
  refine sw_iconst (np := 26) dX9_workOut_25 sw_ic_0 rfl ?_
  refine sw_ist_8_3 (np := 27) dX9_workOut_26 rfl rfl ?_
  refine sw_iconst (np := 28) dX9_workOut_27 sw_ic_0 rfl ?_
  refine sw_ist_8_4 (np := 30) dX9_workOut_28 rfl rfl ?_
  refine sw_iconst (np := 31) dX9_workOut_30 sw_ic_1 rfl ?_
  refine sw_ist_8_5 (np := 33) dX9_workOut_31 rfl rfl ?_
  refine sw_dr_8_1 ?_
  refine sw_dr_8_2 ?_
  refine sw_lp3 (lv := fun x3_1 x4_1 x5_1 => [some (sw_vr G 105), none, none, some (.int x3_1), some (.int x4_1), some (.int x5_1), none, none]) (fun rec1 hrec1 x3_1 x4_1 x5_1 S6 => ?_) _ _ _ _ _
  refine sw_ild_8_5 (np := 35) dX9_workOut_33 rfl ?_
  refine sw_if_eq (np := 38) (tp := 107) dX9_workOut_35 rfl rfl ?_ ?_
  · refine sw_ald_8_0 (np := 108) dX9_workOut_107 rfl ?_
    refine sw_gI (np := 111) sw_f_RX9_161 sw_k_105 dX9_workOut_108 rfl ?_
    refine sw_if_ge (np := 114) (tp := 130) dX9_workOut_111 rfl rfl ?_ ?_
    · refine sw_ild_8_4 (np := 132) dX9_workOut_130 rfl ?_
      exact sw_iret dX9_workOut_132
    · refine sw_ald_8_0 (np := 115) dX9_workOut_114 rfl ?_
      refine sw_gI (np := 118) sw_f_RX9_152 sw_k_105 dX9_workOut_115 rfl ?_
      refine sw_ald_8_0 (np := 119) dX9_workOut_118 rfl ?_
      refine sw_gI (np := 122) sw_f_RX9_155 sw_k_105 dX9_workOut_119 rfl ?_
      refine sw_icmp_ge (np := 125) (tp := 130) dX9_workOut_122 rfl rfl ?_ ?_
      · refine sw_ild_8_4 (np := 132) dX9_workOut_130 rfl ?_
        exact sw_iret dX9_workOut_132
      · refine sw_ald_8_0 (np := 126) dX9_workOut_125 rfl ?_
        refine sw_cV0i (np := 129) (hX9_wrong (d := d - 1) (by omega) ) sw_mv_X9_wrong sw_k_105 sw_wl_RX9_189 dX9_workOut_126 (sw_fit_rm (by omega) (by decide)) (Nat.le_of_ble_eq_true rfl) rfl (fun r1 S7 => ?_)
        exact sw_iret dX9_workOut_129
  · refine sw_ald_8_0 (np := 39) dX9_workOut_38 rfl ?_
    refine sw_cV0i (np := 42) (hX9_either (d := d - 1) (by omega) ) sw_mv_X9_either sw_k_105 sw_wl_RX9_192 dX9_workOut_39 (sw_fit_rm (by omega) (by decide)) (Nat.le_of_ble_eq_true rfl) rfl (fun r2 S8 => ?_)
    refine sw_ist_8_6 (np := 44) dX9_workOut_42 rfl rfl ?_
    refine sw_iconst (np := 45) dX9_workOut_44 sw_ic_1 rfl ?_
    refine sw_ist_8_7 (np := 47) dX9_workOut_45 rfl rfl ?_
    refine sw_ald_8_0 (np := 48) dX9_workOut_47 rfl ?_
    refine sw_bipush (np := 50) dX9_workOut_48 sw_bc_63 rfl ?_
    refine sw_cV1i (np := 53) (hX9_takes (d := d - 1) (by omega) ) sw_mv_X9_takes sw_k_105 sw_wl_RX9_171 dX9_workOut_50 (sw_fit_rm (by omega) (by decide)) (Nat.le_of_ble_eq_true rfl) rfl (fun r3 S9 => ?_)
    refine sw_jm2 (pj := 74) (fun x6_1 x7_1 => [some (sw_vr G 105), none, none, some (.int x3_1), some (.int x4_1), none, some (.int x6_1), some (.int x7_1)]) (fun x6_1 x7_1 => []) (fun x6_1 x7_1 S10 => ?_) (fun k1 hk1 => ?_)
    · refine sw_ald_8_0 (np := 75) dX9_workOut_74 rfl ?_
      refine sw_gI (np := 78) sw_f_RX9_161 sw_k_105 dX9_workOut_75 rfl ?_
      refine sw_if_ge (np := 81) (tp := 96) dX9_workOut_78 rfl rfl ?_ ?_
      · refine sw_ald_8_0 (np := 97) dX9_workOut_96 rfl ?_
        refine sw_bipush (np := 99) dX9_workOut_97 sw_bc_59 rfl ?_
        refine sw_cV1i (np := 102) (hX9_takes (d := d - 1) (by omega) ) sw_mv_X9_takes sw_k_105 sw_wl_RX9_171 dX9_workOut_99 (sw_fit_rm (by omega) (by decide)) (Nat.le_of_ble_eq_true rfl) rfl (fun r4 S11 => ?_)
        refine sw_ist_8_5 (np := 104) dX9_workOut_102 rfl rfl ?_
        refine sw_goto (tp := 33) dX9_workOut_104 rfl ?_
        refine sw_dr_8_6 ?_
        refine sw_dr_8_7 ?_
        exact hrec1 _ _ _ _
      · refine sw_ild_8_7 (np := 83) dX9_workOut_81 rfl ?_
        refine sw_if_eq (np := 86) (tp := 96) dX9_workOut_83 rfl rfl ?_ ?_
        · refine sw_ald_8_0 (np := 97) dX9_workOut_96 rfl ?_
          refine sw_bipush (np := 99) dX9_workOut_97 sw_bc_59 rfl ?_
          refine sw_cV1i (np := 102) (hX9_takes (d := d - 1) (by omega) ) sw_mv_X9_takes sw_k_105 sw_wl_RX9_171 dX9_workOut_99 (sw_fit_rm (by omega) (by decide)) (Nat.le_of_ble_eq_true rfl) rfl (fun r5 S12 => ?_)
          refine sw_ist_8_5 (np := 104) dX9_workOut_102 rfl rfl ?_
          refine sw_goto (tp := 33) dX9_workOut_104 rfl ?_
          refine sw_dr_8_6 ?_
          refine sw_dr_8_7 ?_
          exact hrec1 _ _ _ _
        · refine sw_ild_8_3 (np := 87) dX9_workOut_86 rfl ?_
          refine sw_if_ne (np := 90) (tp := 96) dX9_workOut_87 rfl rfl ?_ ?_
          · refine sw_ald_8_0 (np := 97) dX9_workOut_96 rfl ?_
            refine sw_bipush (np := 99) dX9_workOut_97 sw_bc_59 rfl ?_
            refine sw_cV1i (np := 102) (hX9_takes (d := d - 1) (by omega) ) sw_mv_X9_takes sw_k_105 sw_wl_RX9_171 dX9_workOut_99 (sw_fit_rm (by omega) (by decide)) (Nat.le_of_ble_eq_true rfl) rfl (fun r6 S13 => ?_)
            refine sw_ist_8_5 (np := 104) dX9_workOut_102 rfl rfl ?_
            refine sw_goto (tp := 33) dX9_workOut_104 rfl ?_
            refine sw_dr_8_6 ?_
            refine sw_dr_8_7 ?_
            exact hrec1 _ _ _ _
          · refine sw_iconst (np := 91) dX9_workOut_90 sw_ic_1 rfl ?_
            refine sw_ist_8_3 (np := 92) dX9_workOut_91 rfl rfl ?_
            refine sw_ild_8_6 (np := 94) dX9_workOut_92 rfl ?_
            refine sw_ist_8_4 (np := 96) dX9_workOut_94 rfl rfl ?_
            refine sw_ald_8_0 (np := 97) dX9_workOut_96 rfl ?_
            refine sw_bipush (np := 99) dX9_workOut_97 sw_bc_59 rfl ?_
            refine sw_cV1i (np := 102) (hX9_takes (d := d - 1) (by omega) ) sw_mv_X9_takes sw_k_105 sw_wl_RX9_171 dX9_workOut_99 (sw_fit_rm (by omega) (by decide)) (Nat.le_of_ble_eq_true rfl) rfl (fun r7 S14 => ?_)
            refine sw_ist_8_5 (np := 104) dX9_workOut_102 rfl rfl ?_
            refine sw_goto (tp := 33) dX9_workOut_104 rfl ?_
            refine sw_dr_8_6 ?_
            refine sw_dr_8_7 ?_
            exact hrec1 _ _ _ _
    · refine sw_if_eq (np := 56) (tp := 74) dX9_workOut_53 rfl rfl ?_ ?_
      · refine sw_dr_8_5 ?_
        exact hk1 _ _ _
      · refine sw_ild_8_6 (np := 58) dX9_workOut_56 rfl ?_
        refine sw_jm1 (pj := 66) (fun y1 => [some (sw_vr G 105), none, none, some (.int x3_1), some (.int x4_1), none, none, none]) (fun y1 => [.int y1]) (fun y1 S15 => ?_) (fun k2 hk2 => ?_)
        · refine sw_ist_8_7 (np := 68) dX9_workOut_66 rfl rfl ?_
          refine sw_ald_8_0 (np := 69) dX9_workOut_68 rfl ?_
          refine sw_cV0i (np := 72) (hX9_either (d := d - 1) (by omega) ) sw_mv_X9_either sw_k_105 sw_wl_RX9_192 dX9_workOut_69 (sw_fit_rm (by omega) (by decide)) (Nat.le_of_ble_eq_true rfl) rfl (fun r8 S16 => ?_)
          refine sw_ist_8_6 (np := 74) dX9_workOut_72 rfl rfl ?_
          exact hk1 _ _ _
        · refine sw_if_eq (np := 61) (tp := 65) dX9_workOut_58 rfl rfl ?_ ?_
          · refine sw_iconst (np := 66) dX9_workOut_65 sw_ic_0 rfl ?_
            refine sw_dr_8_5 ?_
            refine sw_dr_8_6 ?_
            refine sw_dr_8_7 ?_
            exact hk2 _ _
          · refine sw_iconst (np := 62) dX9_workOut_61 sw_ic_1 rfl ?_
            refine sw_goto (tp := 66) dX9_workOut_62 rfl ?_
            refine sw_dr_8_5 ?_
            refine sw_dr_8_6 ?_
            refine sw_dr_8_7 ?_
            exact hk2 _ _
/-- SwordAtticModel.law()I -/
def fX9_law (N : Nat)  (S : sw_St) : Option (Int32 × sw_St) :=
  sw_bd (fX9_workOut N (-1 : Int32) (S.1 105 8) S) (fun r1 S1 => (sw_li (S1.1 105 8) (fun x2_1 => (sw_ls (sw_si S1 105 8 (0 : Int32)) (fun S2 => (if (S2.1 105 14) < 0 then (sw_fx1 (fun rec1 x3_1 S3 => (if x3_1 ≥ x2_1 then (sw_ls (sw_si S3 105 10 x2_1) (fun S4 => (some ((1 : Int32), S4)))) else (sw_gd (sw_in x3_1 120) (sw_gd (sw_in x3_1 120) (sw_ls (sw_si S3 111 x3_1.toNatClampNeg (S3.1 110 x3_1.toNatClampNeg)) (fun S5 => (rec1 (x3_1 + (1 : Int32)) S5))))))) N (0 : Int32) S2) else (some (((-100 : Int32) - (S2.1 105 14)), S2))))))))
theorem hX9_law {G : sw_G} {N d : Nat} (hd : 105 ≤ d)   {S : sw_St} : sw_Ev G yX9_law cX9_law 4 (some .int) d sw_ei [sw_vr G 105] S (fX9_law N  S) := by
  refine sw_Ev_of (own := RX9) (lv0 := [some (sw_vr G 105), none, none, none]) (by decide) rfl (Nat.le_of_ble_eq_true rfl) rfl ?_
  unfold fX9_law
  refine sw_ald_4_0 (np := 1) dX9_law_0 rfl ?_
  refine sw_iconst (np := 2) dX9_law_1 sw_ic_m1 rfl ?_
  refine sw_ald_4_0 (np := 3) dX9_law_2 rfl ?_
  refine sw_gI (np := 6) sw_f_RX9_149 sw_k_105 dX9_law_3 rfl ?_
  refine sw_cV2i (np := 9) (hX9_workOut (d := d - 1) (by omega) ) sw_mv_X9_workOut sw_k_105 sw_wl_RX9_198 dX9_law_6 (sw_fit_rm (by omega) (by decide)) (Nat.le_of_ble_eq_true rfl) rfl (fun r1 S1 => ?_)
  refine sw_ist_4_1 (np := 10) dX9_law_9 rfl rfl ?_
  refine sw_ald_4_0 (np := 11) dX9_law_10 rfl ?_
  refine sw_gI (np := 14) sw_f_RX9_149 sw_k_105 dX9_law_11 rfl ?_
  refine sw_isl_4_2 (np := 15) dX9_law_14 rfl rfl (fun x2_1 => ?_)
  refine sw_ald_4_0 (np := 16) dX9_law_15 rfl ?_
  refine sw_iconst (np := 17) dX9_law_16 sw_ic_0 rfl ?_
  refine sw_pI (np := 20) sw_f_RX9_149 sw_fp_9_8 sw_k_105 dX9_law_17 rfl (fun S2 => ?_)
  refine sw_ald_4_0 (np := 21) dX9_law_20 rfl ?_
  refine sw_gI (np := 24) sw_f_RX9_161 sw_k_105 dX9_law_21 rfl ?_
  refine sw_if_lt (np := 27) (tp := 35) dX9_law_24 rfl rfl ?_ ?_
  · refine sw_iconst (np := 36) dX9_law_35 sw_ic_0 rfl ?_
    refine sw_ist_4_3 (np := 37) dX9_law_36 rfl rfl ?_
    refine sw_dr_4_1 ?_
    refine sw_lp1 (lv := fun x3_1 => [some (sw_vr G 105), none, some (.int x2_1), some (.int x3_1)]) (fun rec1 hrec1 x3_1 S3 => ?_) _ _ _
    refine sw_ild_4_3 (np := 38) dX9_law_37 rfl ?_
    refine sw_ild_4_2 (np := 39) dX9_law_38 rfl ?_
    refine sw_icmp_ge (np := 42) (tp := 60) dX9_law_39 rfl rfl ?_ ?_
    · refine sw_ald_4_0 (np := 61) dX9_law_60 rfl ?_
      refine sw_ild_4_2 (np := 62) dX9_law_61 rfl ?_
      refine sw_pI (np := 65) sw_f_RX9_77 sw_fp_9_10 sw_k_105 dX9_law_62 rfl (fun S4 => ?_)
      refine sw_iconst (np := 66) dX9_law_65 sw_ic_1 rfl ?_
      exact sw_iret dX9_law_66
    · refine sw_ald_4_0 (np := 43) dX9_law_42 rfl ?_
      refine sw_gR (np := 46) sw_f_RX9_25 sw_k_105 sw_r_105_9 dX9_law_43 rfl ?_
      refine sw_ild_4_3 (np := 47) dX9_law_46 rfl ?_
      refine sw_ald_4_0 (np := 48) dX9_law_47 rfl ?_
      refine sw_gR (np := 51) sw_f_RX9_22 sw_k_105 sw_r_105_7 dX9_law_48 rfl ?_
      refine sw_ild_4_3 (np := 52) dX9_law_51 rfl ?_
      refine sw_iald (np := 53) sw_k_110 sw_n_110 dX9_law_52 rfl ?_
      refine sw_sI (np := 54) sw_k_111 sw_n_111 dX9_law_53 rfl (fun S5 => ?_)
      refine sw_inc_4_3 (np := 57) dX9_law_54 sw_ic_1 rfl rfl ?_
      refine sw_goto (tp := 37) dX9_law_57 rfl ?_
      exact hrec1 _ _
  · refine sw_bipush (np := 29) dX9_law_27 sw_bc_m100 rfl ?_
    refine sw_ald_4_0 (np := 30) dX9_law_29 rfl ?_
    refine sw_gI (np := 33) sw_f_RX9_161 sw_k_105 dX9_law_30 rfl ?_
    refine sw_isub (np := 34) dX9_law_33 rfl ?_
    exact sw_iret dX9_law_34
/-- SwordAtticModel.begins()V -/
def fX9_begins (N : Nat)  (S : sw_St) : Option (Unit × sw_St) :=
  sw_fx1 (fun rec1 x1_1 S1 => (if x1_1 ≥ (12 : Int32) then (sw_fx1 (fun rec2 x1_2 S2 => (if x1_2 ≥ (S2.1 105 6) then (sw_gd (sw_in (50 : Int32) 53) (sw_ls (sw_si S2 105 19 (S2.1 106 (50 : Int32).toNatClampNeg)) (fun S3 => (sw_gd (sw_in (52 : Int32) 53) (sw_ls (sw_si S3 105 20 (S3.1 106 (52 : Int32).toNatClampNeg)) (fun S4 => (some ((), S4)))))))) else (sw_gd (sw_in ((30 : Int32) + x1_2) 53) (sw_gd (sw_in x1_2 10) (sw_ls (sw_si S2 114 x1_2.toNatClampNeg (S2.1 106 ((30 : Int32) + x1_2).toNatClampNeg)) (fun S5 => (rec2 (x1_2 + (1 : Int32)) S5))))))) N (0 : Int32) S1) else (sw_bd (fX9_inCot N x1_1 S1) (fun r1 S6 => (sw_gd (sw_in x1_1 12) (sw_ls (sw_si S6 113 x1_1.toNatClampNeg r1) (fun S7 => (rec1 (x1_1 + (1 : Int32)) S7)))))))) N (0 : Int32) S
theorem hX9_begins {G : sw_G} {N d : Nat} (hd : 2 ≤ d)   {S : sw_St} : sw_Ev G yX9_begins cX9_begins 2 none d sw_ev [sw_vr G 105] S (fX9_begins N  S) := by
  refine sw_Ev_of (own := RX9) (lv0 := [some (sw_vr G 105), none]) (by decide) rfl (Nat.le_of_ble_eq_true rfl) rfl ?_
  unfold fX9_begins
  refine sw_iconst (np := 1) dX9_begins_0 sw_ic_0 rfl ?_
  refine sw_ist_2_1 (np := 2) dX9_begins_1 rfl rfl ?_
  refine sw_lp1 (lv := fun x1_1 => [some (sw_vr G 105), some (.int x1_1)]) (fun rec1 hrec1 x1_1 S1 => ?_) _ _ _
  refine sw_ild_2_1 (np := 3) dX9_begins_2 rfl ?_
  refine sw_bipush (np := 5) dX9_begins_3 sw_bc_12 rfl ?_
  refine sw_icmp_ge (np := 8) (tp := 25) dX9_begins_5 rfl rfl ?_ ?_
  · refine sw_iconst (np := 26) dX9_begins_25 sw_ic_0 rfl ?_
    refine sw_ist_2_1 (np := 27) dX9_begins_26 rfl rfl ?_
    refine sw_lp1 (lv := fun x1_2 => [some (sw_vr G 105), some (.int x1_2)]) (fun rec2 hrec2 x1_2 S2 => ?_) _ _ _
    refine sw_ild_2_1 (np := 28) dX9_begins_27 rfl ?_
    refine sw_ald_2_0 (np := 29) dX9_begins_28 rfl ?_
    refine sw_gI (np := 32) sw_f_RX9_95 sw_k_105 dX9_begins_29 rfl ?_
    refine sw_icmp_ge (np := 35) (tp := 56) dX9_begins_32 rfl rfl ?_ ?_
    · refine sw_ald_2_0 (np := 57) dX9_begins_56 rfl ?_
      refine sw_ald_2_0 (np := 58) dX9_begins_57 rfl ?_
      refine sw_gR (np := 61) sw_f_RX9_9 sw_k_105 sw_r_105_0 dX9_begins_58 rfl ?_
      refine sw_bipush (np := 63) dX9_begins_61 sw_bc_50 rfl ?_
      refine sw_iald (np := 64) sw_k_106 sw_n_106 dX9_begins_63 rfl ?_
      refine sw_pI (np := 67) sw_f_RX9_201 sw_fp_9_19 sw_k_105 dX9_begins_64 rfl (fun S3 => ?_)
      refine sw_ald_2_0 (np := 68) dX9_begins_67 rfl ?_
      refine sw_ald_2_0 (np := 69) dX9_begins_68 rfl ?_
      refine sw_gR (np := 72) sw_f_RX9_9 sw_k_105 sw_r_105_0 dX9_begins_69 rfl ?_
      refine sw_bipush (np := 74) dX9_begins_72 sw_bc_52 rfl ?_
      refine sw_iald (np := 75) sw_k_106 sw_n_106 dX9_begins_74 rfl ?_
      refine sw_pI (np := 78) sw_f_RX9_204 sw_fp_9_20 sw_k_105 dX9_begins_75 rfl (fun S4 => ?_)
      exact sw_vret dX9_begins_78
    · refine sw_ald_2_0 (np := 36) dX9_begins_35 rfl ?_
      refine sw_gR (np := 39) sw_f_RX9_34 sw_k_105 sw_r_105_18 dX9_begins_36 rfl ?_
      refine sw_ild_2_1 (np := 40) dX9_begins_39 rfl ?_
      refine sw_ald_2_0 (np := 41) dX9_begins_40 rfl ?_
      refine sw_gR (np := 44) sw_f_RX9_9 sw_k_105 sw_r_105_0 dX9_begins_41 rfl ?_
      refine sw_bipush (np := 46) dX9_begins_44 sw_bc_30 rfl ?_
      refine sw_ild_2_1 (np := 47) dX9_begins_46 rfl ?_
      refine sw_iadd (np := 48) dX9_begins_47 rfl ?_
      refine sw_iald (np := 49) sw_k_106 sw_n_106 dX9_begins_48 rfl ?_
      refine sw_sI (np := 50) sw_k_114 sw_n_114 dX9_begins_49 rfl (fun S5 => ?_)
      refine sw_inc_2_1 (np := 53) dX9_begins_50 sw_ic_1 rfl rfl ?_
      refine sw_goto (tp := 27) dX9_begins_53 rfl ?_
      exact hrec2 _ _
  · refine sw_ald_2_0 (np := 9) dX9_begins_8 rfl ?_
    refine sw_gR (np := 12) sw_f_RX9_31 sw_k_105 sw_r_105_17 dX9_begins_9 rfl ?_
    refine sw_ild_2_1 (np := 13) dX9_begins_12 rfl ?_
    refine sw_ald_2_0 (np := 14) dX9_begins_13 rfl ?_
    refine sw_ild_2_1 (np := 15) dX9_begins_14 rfl ?_
    refine sw_cV1i (np := 18) (hX9_inCot (d := d - 1) (by omega) ) sw_mv_X9_inCot sw_k_105 sw_wl_RX9_87 dX9_begins_15 (sw_fit_rm (by omega) (by decide)) (Nat.le_of_ble_eq_true rfl) rfl (fun r1 S6 => ?_)
    refine sw_sI (np := 19) sw_k_113 sw_n_113 dX9_begins_18 rfl (fun S7 => ?_)
    refine sw_inc_2_1 (np := 22) dX9_begins_19 sw_ic_1 rfl rfl ?_
    refine sw_goto (tp := 2) dX9_begins_22 rfl ?_
    exact hrec1 _ _
/-- SwordAtticModel.isAwake(I)Z -/
def fX9_isAwake (N : Nat) (p1 : Int32) (S : sw_St) : Option (Int32 × sw_St) :=
  sw_gd (sw_in p1 10) (sw_gd (sw_in (51 : Int32) 53) (if (S.1 114 p1.toNatClampNeg) ≤ (S.1 106 (51 : Int32).toNatClampNeg) then (some (vp_nar .boolean (0 : Int32), S)) else (some (vp_nar .boolean (1 : Int32), S))))
theorem hX9_isAwake {G : sw_G} {N d : Nat} (hd : 1 ≤ d) {p1 : Int32}  {S : sw_St} : sw_Ev G yX9_isAwake cX9_isAwake 2 (some .boolean) d sw_ei [sw_vr G 105, .int p1] S (fX9_isAwake N p1 S) := by
  refine sw_Ev_of (own := RX9) (lv0 := [some (sw_vr G 105), some (.int p1)]) (by decide) rfl (Nat.le_of_ble_eq_true rfl) rfl ?_
  unfold fX9_isAwake
  refine sw_ald_2_0 (np := 1) dX9_isAwake_0 rfl ?_
  refine sw_gR (np := 4) sw_f_RX9_34 sw_k_105 sw_r_105_18 dX9_isAwake_1 rfl ?_
  refine sw_ild_2_1 (np := 5) dX9_isAwake_4 rfl ?_
  refine sw_iald (np := 6) sw_k_114 sw_n_114 dX9_isAwake_5 rfl ?_
  refine sw_ald_2_0 (np := 7) dX9_isAwake_6 rfl ?_
  refine sw_gR (np := 10) sw_f_RX9_9 sw_k_105 sw_r_105_0 dX9_isAwake_7 rfl ?_
  refine sw_bipush (np := 12) dX9_isAwake_10 sw_bc_51 rfl ?_
  refine sw_iald (np := 13) sw_k_106 sw_n_106 dX9_isAwake_12 rfl ?_
  refine sw_icmp_le (np := 16) (tp := 20) dX9_isAwake_13 rfl rfl ?_ ?_
  · refine sw_iconst (np := 21) dX9_isAwake_20 sw_ic_0 rfl ?_
    exact sw_zret dX9_isAwake_21
  · refine sw_iconst (np := 17) dX9_isAwake_16 sw_ic_1 rfl ?_
    refine sw_goto (tp := 21) dX9_isAwake_17 rfl ?_
    exact sw_zret dX9_isAwake_21
/-- SwordAtticModel.areBeside(II)Z -/
def fX9_areBeside (N : Nat) (p0 : Int32) (p1 : Int32) (S : sw_St) : Option (Int32 × sw_St) :=
  if (p0 / (6 : Int32)) = (p1 / (6 : Int32)) then (sw_bd (fX9_sizeOf N (p0 - p1) S) (fun r1 S1 => (if r1 = (1 : Int32) then (some (vp_nar .boolean (1 : Int32), S1)) else (some (vp_nar .boolean (0 : Int32), S1))))) else (if (p0 - p0 / (6 : Int32) * (6 : Int32)) = (p1 - p1 / (6 : Int32) * (6 : Int32)) then (some (vp_nar .boolean (1 : Int32), S)) else (some (vp_nar .boolean (0 : Int32), S)))
theorem hX9_areBeside {G : sw_G} {N d : Nat} (hd : 2 ≤ d) {p0 : Int32} {p1 : Int32}  {S : sw_St} : sw_Ev G yX9_areBeside cX9_areBeside 2 (some .boolean) d sw_ei [.int p0, .int p1] S (fX9_areBeside N p0 p1 S) := by
  refine sw_Ev_of (own := RX9) (lv0 := [some (.int p0), some (.int p1)]) (by decide) rfl (Nat.le_of_ble_eq_true rfl) rfl ?_
  unfold fX9_areBeside
  refine sw_ild_2_0 (np := 1) dX9_areBeside_0 rfl ?_
  refine sw_bipush (np := 3) dX9_areBeside_1 sw_bc_6 rfl ?_
  refine sw_idiv (np := 4) dX9_areBeside_3 (by decide) rfl ?_
  refine sw_ild_2_1 (np := 5) dX9_areBeside_4 rfl ?_
  refine sw_bipush (np := 7) dX9_areBeside_5 sw_bc_6 rfl ?_
  refine sw_idiv (np := 8) dX9_areBeside_7 (by decide) rfl ?_
  refine sw_icmp_ne (np := 11) (tp := 29) dX9_areBeside_8 rfl rfl ?_ ?_
  · refine sw_ild_2_0 (np := 30) dX9_areBeside_29 rfl ?_
    refine sw_bipush (np := 32) dX9_areBeside_30 sw_bc_6 rfl ?_
    refine sw_irem (np := 33) dX9_areBeside_32 (by decide) rfl ?_
    refine sw_ild_2_1 (np := 34) dX9_areBeside_33 rfl ?_
    refine sw_bipush (np := 36) dX9_areBeside_34 sw_bc_6 rfl ?_
    refine sw_irem (np := 37) dX9_areBeside_36 (by decide) rfl ?_
    refine sw_icmp_ne (np := 40) (tp := 44) dX9_areBeside_37 rfl rfl ?_ ?_
    · refine sw_iconst (np := 45) dX9_areBeside_44 sw_ic_0 rfl ?_
      exact sw_zret dX9_areBeside_45
    · refine sw_iconst (np := 41) dX9_areBeside_40 sw_ic_1 rfl ?_
      refine sw_goto (tp := 45) dX9_areBeside_41 rfl ?_
      exact sw_zret dX9_areBeside_45
  · refine sw_ild_2_0 (np := 12) dX9_areBeside_11 rfl ?_
    refine sw_ild_2_1 (np := 13) dX9_areBeside_12 rfl ?_
    refine sw_isub (np := 14) dX9_areBeside_13 rfl ?_
    refine sw_cS1i (np := 17) (hX9_sizeOf (d := d - 1) (by omega) ) sw_ms_X9_sizeOf sw_wl_RX9_207 dX9_areBeside_14 (sw_fit_rm (by omega) (by decide)) (Nat.le_of_ble_eq_true rfl) rfl (fun r1 S1 => ?_)
    refine sw_iconst (np := 18) dX9_areBeside_17 sw_ic_1 rfl ?_
    refine sw_icmp_ne (np := 21) (tp := 25) dX9_areBeside_18 rfl rfl ?_ ?_
    · refine sw_iconst (np := 26) dX9_areBeside_25 sw_ic_0 rfl ?_
      refine sw_goto (tp := 45) dX9_areBeside_26 rfl ?_
      exact sw_zret dX9_areBeside_45
    · refine sw_iconst (np := 22) dX9_areBeside_21 sw_ic_1 rfl ?_
      refine sw_goto (tp := 45) dX9_areBeside_22 rfl ?_
      exact sw_zret dX9_areBeside_45
/-- SwordAtticModel.awakeBeside(I)I -/
def fX9_awakeBeside (N : Nat) (p1 : Int32) (S : sw_St) : Option (Int32 × sw_St) :=
  sw_fx2 (fun rec1 x2_1 x3_1 S1 => (if x3_1 ≥ (12 : Int32) then (some (x2_1, S1)) else (sw_bd (fX9_areBeside N p1 x3_1 S1) (fun r1 S2 => (if r1 = 0 then (sw_li (x2_1 + (0 : Int32)) (fun x2_2 => (rec1 x2_2 (x3_1 + (1 : Int32)) S2))) else (sw_gd (sw_in x3_1 12) (if (S2.1 113 x3_1.toNatClampNeg) < 0 then (sw_li (x2_1 + (0 : Int32)) (fun x2_3 => (rec1 x2_3 (x3_1 + (1 : Int32)) S2))) else (sw_gd (sw_in x3_1 12) (sw_bd (fX9_isAwake N (S2.1 113 x3_1.toNatClampNeg) S2) (fun r2 S3 => (if r2 = 0 then (sw_li (x2_1 + (0 : Int32)) (fun x2_4 => (rec1 x2_4 (x3_1 + (1 : Int32)) S3))) else (sw_li (x2_1 + (1 : Int32)) (fun x2_5 => (rec1 x2_5 (x3_1 + (1 : Int32)) S3)))))))))))))) N (0 : Int32) (0 : Int32) S
theorem hX9_awakeBeside {G : sw_G} {N d : Nat} (hd : 3 ≤ d) {p1 : Int32}  {S : sw_St} : sw_Ev G yX9_awakeBeside cX9_awakeBeside 4 (some .int) d sw_ei [sw_vr G 105, .int p1] S (fX9_awakeBeside N p1 S) := by
  refine sw_Ev_of (own := RX9) (lv0 := [some (sw_vr G 105), some (.int p1), none, none]) (by decide) rfl (Nat.le_of_ble_eq_true rfl) rfl ?_
  unfold fX9_awakeBeside
  refine sw_iconst (np := 1) dX9_awakeBeside_0 sw_ic_0 rfl ?_
  refine sw_ist_4_2 (np := 2) dX9_awakeBeside_1 rfl rfl ?_
  refine sw_iconst (np := 3) dX9_awakeBeside_2 sw_ic_0 rfl ?_
  refine sw_ist_4_3 (np := 4) dX9_awakeBeside_3 rfl rfl ?_
  refine sw_lp2 (lv := fun x2_1 x3_1 => [some (sw_vr G 105), some (.int p1), some (.int x2_1), some (.int x3_1)]) (fun rec1 hrec1 x2_1 x3_1 S1 => ?_) _ _ _ _
  refine sw_ild_4_3 (np := 5) dX9_awakeBeside_4 rfl ?_
  refine sw_bipush (np := 7) dX9_awakeBeside_5 sw_bc_12 rfl ?_
  refine sw_icmp_ge (np := 10) (tp := 54) dX9_awakeBeside_7 rfl rfl ?_ ?_
  · refine sw_ild_4_2 (np := 55) dX9_awakeBeside_54 rfl ?_
    exact sw_iret dX9_awakeBeside_55
  · refine sw_ild_4_2 (np := 11) dX9_awakeBeside_10 rfl ?_
    refine sw_ild_4_1 (np := 12) dX9_awakeBeside_11 rfl ?_
    refine sw_ild_4_3 (np := 13) dX9_awakeBeside_12 rfl ?_
    refine sw_cS2i (np := 16) (hX9_areBeside (d := d - 1) (by omega) ) sw_ms_X9_areBeside sw_wl_RX9_210 dX9_awakeBeside_13 (sw_fit_rm (by omega) (by decide)) (Nat.le_of_ble_eq_true rfl) rfl (fun r1 S2 => ?_)
    refine sw_if_eq (np := 19) (tp := 45) dX9_awakeBeside_16 rfl rfl ?_ ?_
    · refine sw_iconst (np := 46) dX9_awakeBeside_45 sw_ic_0 rfl ?_
      refine sw_iadd (np := 47) dX9_awakeBeside_46 rfl ?_
      refine sw_isl_4_2 (np := 48) dX9_awakeBeside_47 rfl rfl (fun x2_2 => ?_)
      refine sw_inc_4_3 (np := 51) dX9_awakeBeside_48 sw_ic_1 rfl rfl ?_
      refine sw_goto (tp := 4) dX9_awakeBeside_51 rfl ?_
      exact hrec1 _ _ _
    · refine sw_ald_4_0 (np := 20) dX9_awakeBeside_19 rfl ?_
      refine sw_gR (np := 23) sw_f_RX9_31 sw_k_105 sw_r_105_17 dX9_awakeBeside_20 rfl ?_
      refine sw_ild_4_3 (np := 24) dX9_awakeBeside_23 rfl ?_
      refine sw_iald (np := 25) sw_k_113 sw_n_113 dX9_awakeBeside_24 rfl ?_
      refine sw_if_lt (np := 28) (tp := 45) dX9_awakeBeside_25 rfl rfl ?_ ?_
      · refine sw_iconst (np := 46) dX9_awakeBeside_45 sw_ic_0 rfl ?_
        refine sw_iadd (np := 47) dX9_awakeBeside_46 rfl ?_
        refine sw_isl_4_2 (np := 48) dX9_awakeBeside_47 rfl rfl (fun x2_3 => ?_)
        refine sw_inc_4_3 (np := 51) dX9_awakeBeside_48 sw_ic_1 rfl rfl ?_
        refine sw_goto (tp := 4) dX9_awakeBeside_51 rfl ?_
        exact hrec1 _ _ _
      · refine sw_ald_4_0 (np := 29) dX9_awakeBeside_28 rfl ?_
        refine sw_ald_4_0 (np := 30) dX9_awakeBeside_29 rfl ?_
        refine sw_gR (np := 33) sw_f_RX9_31 sw_k_105 sw_r_105_17 dX9_awakeBeside_30 rfl ?_
        refine sw_ild_4_3 (np := 34) dX9_awakeBeside_33 rfl ?_
        refine sw_iald (np := 35) sw_k_113 sw_n_113 dX9_awakeBeside_34 rfl ?_
        refine sw_cV1i (np := 38) (hX9_isAwake (d := d - 1) (by omega) ) sw_mv_X9_isAwake sw_k_105 sw_wl_RX9_214 dX9_awakeBeside_35 (sw_fit_rm (by omega) (by decide)) (Nat.le_of_ble_eq_true rfl) rfl (fun r2 S3 => ?_)
        refine sw_if_eq (np := 41) (tp := 45) dX9_awakeBeside_38 rfl rfl ?_ ?_
        · refine sw_iconst (np := 46) dX9_awakeBeside_45 sw_ic_0 rfl ?_
          refine sw_iadd (np := 47) dX9_awakeBeside_46 rfl ?_
          refine sw_isl_4_2 (np := 48) dX9_awakeBeside_47 rfl rfl (fun x2_4 => ?_)
          refine sw_inc_4_3 (np := 51) dX9_awakeBeside_48 sw_ic_1 rfl rfl ?_
          refine sw_goto (tp := 4) dX9_awakeBeside_51 rfl ?_
          exact hrec1 _ _ _
        · refine sw_iconst (np := 42) dX9_awakeBeside_41 sw_ic_1 rfl ?_
          refine sw_goto (tp := 46) dX9_awakeBeside_42 rfl ?_
          refine sw_iadd (np := 47) dX9_awakeBeside_46 rfl ?_
          refine sw_isl_4_2 (np := 48) dX9_awakeBeside_47 rfl rfl (fun x2_5 => ?_)
          refine sw_inc_4_3 (np := 51) dX9_awakeBeside_48 sw_ic_1 rfl rfl ?_
          refine sw_goto (tp := 4) dX9_awakeBeside_51 rfl ?_
          exact hrec1 _ _ _
