/-- SwordAtticModel.growsIn(I)I -/
def fX9_growsIn (N : Nat) (p1 : Int32) (S : sw_St) : Option (Int32 × sw_St) :=
  sw_gd (sw_in p1 12) (sw_li (S.1 113 p1.toNatClampNeg) (fun x2_1 => (sw_bd (fX9_awakeBeside N p1 S) (fun r1 S1 => (sw_jn1 (fun y1 S2 => (sw_gd (sw_in ((10 : Int32) + x2_1) 53) (sw_gd (sw_in ((20 : Int32) + x2_1) 53) (sw_li (((((S2.1 106 ((10 : Int32) + x2_1).toNatClampNeg) + ((3 : Int32) * r1)) - ((S2.1 106 ((20 : Int32) + x2_1).toNatClampNeg) / (20 : Int32))) - ((8 : Int32) * y1)) - (2 : Int32)) (fun x5_1 => (if (S2.1 105 10) < 0 then (if x5_1 ≥ (-20 : Int32) then (if x5_1 ≤ (20 : Int32) then (some (x5_1, S2)) else (some ((20 : Int32), S2))) else (some ((-20 : Int32), S2))) else (sw_gd (sw_in ((10 : Int32) + x2_1) 53) (sw_gd (sw_in (0 : Int32) 6) (sw_ls (sw_si S2 112 (0 : Int32).toNatClampNeg (S2.1 106 ((10 : Int32) + x2_1).toNatClampNeg)) (fun S3 => (sw_gd (sw_in ((20 : Int32) + x2_1) 53) (sw_gd (sw_in (1 : Int32) 6) (sw_ls (sw_si S3 112 (1 : Int32).toNatClampNeg (S3.1 106 ((20 : Int32) + x2_1).toNatClampNeg)) (fun S4 => (sw_gd (sw_in x2_1 10) (sw_gd (sw_in (2 : Int32) 6) (sw_ls (sw_si S4 112 (2 : Int32).toNatClampNeg (S4.1 114 x2_1.toNatClampNeg)) (fun S5 => (sw_gd (sw_in (3 : Int32) 6) (sw_ls (sw_si S5 112 (3 : Int32).toNatClampNeg r1) (fun S6 => (sw_gd (sw_in (4 : Int32) 6) (sw_ls (sw_si S6 112 (4 : Int32).toNatClampNeg y1) (fun S7 => (sw_gd (sw_in (5 : Int32) 6) (sw_ls (sw_si S7 112 (5 : Int32).toNatClampNeg (S7.1 105 19)) (fun S8 => (sw_bd (fX9_workOut N (0 : Int32) (S8.1 105 10) S8) (fun r2 S9 => (if r2 ≥ (-20 : Int32) then (if r2 ≤ (20 : Int32) then (some (r2, S9)) else (some ((20 : Int32), S9))) else (some ((-20 : Int32), S9)))))))))))))))))))))))))))))))) (fun k1 => (if (S1.1 105 20) = p1 then (k1 (1 : Int32) S1) else (k1 (0 : Int32) S1))))))))
theorem hX9_growsIn {G : sw_G} {N d : Nat} (hd : 105 ≤ d) {p1 : Int32}  {S : sw_St} : sw_Ev G yX9_growsIn cX9_growsIn 6 (some .int) d sw_ei [sw_vr G 105, .int p1] S (fX9_growsIn N p1 S) := by
  refine sw_Ev_of (own := RX9) (lv0 := [some (sw_vr G 105), some (.int p1), none, none, none, none]) (by decide) rfl (Nat.le_of_ble_eq_true rfl) rfl ?_
  unfold fX9_growsIn
  refine sw_ald_6_0 (np := 1) dX9_growsIn_0 rfl ?_
  refine sw_gR (np := 4) sw_f_RX9_31 sw_k_105 sw_r_105_17 dX9_growsIn_1 rfl ?_
  refine sw_ild_6_1 (np := 5) dX9_growsIn_4 rfl ?_
  refine sw_iald (np := 6) sw_k_113 sw_n_113 dX9_growsIn_5 rfl ?_
  refine sw_isl_6_2 (np := 7) dX9_growsIn_6 rfl rfl (fun x2_1 => ?_)
  refine sw_ald_6_0 (np := 8) dX9_growsIn_7 rfl ?_
  refine sw_ild_6_1 (np := 9) dX9_growsIn_8 rfl ?_
  refine sw_cV1i (np := 12) (hX9_awakeBeside (d := d - 1) (by omega) ) sw_mv_X9_awakeBeside sw_k_105 sw_wl_RX9_217 dX9_growsIn_9 (sw_fit_rm (by omega) (by decide)) (Nat.le_of_ble_eq_true rfl) rfl (fun r1 S1 => ?_)
  refine sw_ist_6_3 (np := 13) dX9_growsIn_12 rfl rfl ?_
  refine sw_ald_6_0 (np := 14) dX9_growsIn_13 rfl ?_
  refine sw_gI (np := 17) sw_f_RX9_204 sw_k_105 dX9_growsIn_14 rfl ?_
  refine sw_ild_6_1 (np := 18) dX9_growsIn_17 rfl ?_
  refine sw_jm1 (pj := 26) (fun y1 => [some (sw_vr G 105), none, some (.int x2_1), some (.int r1), none, none]) (fun y1 => [.int y1]) (fun y1 S2 => ?_) (fun k1 hk1 => ?_)
  · refine sw_ist_6_4 (np := 28) dX9_growsIn_26 rfl rfl ?_
    refine sw_ald_6_0 (np := 29) dX9_growsIn_28 rfl ?_
    refine sw_gR (np := 32) sw_f_RX9_9 sw_k_105 sw_r_105_0 dX9_growsIn_29 rfl ?_
    refine sw_bipush (np := 34) dX9_growsIn_32 sw_bc_10 rfl ?_
    refine sw_ild_6_2 (np := 35) dX9_growsIn_34 rfl ?_
    refine sw_iadd (np := 36) dX9_growsIn_35 rfl ?_
    refine sw_iald (np := 37) sw_k_106 sw_n_106 dX9_growsIn_36 rfl ?_
    refine sw_iconst (np := 38) dX9_growsIn_37 sw_ic_3 rfl ?_
    refine sw_ild_6_3 (np := 39) dX9_growsIn_38 rfl ?_
    refine sw_imul (np := 40) dX9_growsIn_39 rfl ?_
    refine sw_iadd (np := 41) dX9_growsIn_40 rfl ?_
    refine sw_ald_6_0 (np := 42) dX9_growsIn_41 rfl ?_
    refine sw_gR (np := 45) sw_f_RX9_9 sw_k_105 sw_r_105_0 dX9_growsIn_42 rfl ?_
    refine sw_bipush (np := 47) dX9_growsIn_45 sw_bc_20 rfl ?_
    refine sw_ild_6_2 (np := 48) dX9_growsIn_47 rfl ?_
    refine sw_iadd (np := 49) dX9_growsIn_48 rfl ?_
    refine sw_iald (np := 50) sw_k_106 sw_n_106 dX9_growsIn_49 rfl ?_
    refine sw_bipush (np := 52) dX9_growsIn_50 sw_bc_20 rfl ?_
    refine sw_idiv (np := 53) dX9_growsIn_52 (by decide) rfl ?_
    refine sw_isub (np := 54) dX9_growsIn_53 rfl ?_
    refine sw_bipush (np := 56) dX9_growsIn_54 sw_bc_8 rfl ?_
    refine sw_ild_6_4 (np := 58) dX9_growsIn_56 rfl ?_
    refine sw_imul (np := 59) dX9_growsIn_58 rfl ?_
    refine sw_isub (np := 60) dX9_growsIn_59 rfl ?_
    refine sw_iconst (np := 61) dX9_growsIn_60 sw_ic_2 rfl ?_
    refine sw_isub (np := 62) dX9_growsIn_61 rfl ?_
    refine sw_isl_6_5 (np := 64) dX9_growsIn_62 rfl rfl (fun x5_1 => ?_)
    refine sw_ald_6_0 (np := 65) dX9_growsIn_64 rfl ?_
    refine sw_gI (np := 68) sw_f_RX9_77 sw_k_105 dX9_growsIn_65 rfl ?_
    refine sw_if_lt (np := 71) (tp := 149) dX9_growsIn_68 rfl rfl ?_ ?_
    · refine sw_ild_6_5 (np := 151) dX9_growsIn_149 rfl ?_
      refine sw_bipush (np := 153) dX9_growsIn_151 sw_bc_m20 rfl ?_
      refine sw_icmp_ge (np := 156) (tp := 161) dX9_growsIn_153 rfl rfl ?_ ?_
      · refine sw_ild_6_5 (np := 163) dX9_growsIn_161 rfl ?_
        refine sw_bipush (np := 165) dX9_growsIn_163 sw_bc_20 rfl ?_
        refine sw_icmp_le (np := 168) (tp := 173) dX9_growsIn_165 rfl rfl ?_ ?_
        · refine sw_ild_6_5 (np := 175) dX9_growsIn_173 rfl ?_
          exact sw_iret dX9_growsIn_175
        · refine sw_bipush (np := 170) dX9_growsIn_168 sw_bc_20 rfl ?_
          refine sw_goto (tp := 175) dX9_growsIn_170 rfl ?_
          exact sw_iret dX9_growsIn_175
      · refine sw_bipush (np := 158) dX9_growsIn_156 sw_bc_m20 rfl ?_
        refine sw_goto (tp := 175) dX9_growsIn_158 rfl ?_
        exact sw_iret dX9_growsIn_175
    · refine sw_ald_6_0 (np := 72) dX9_growsIn_71 rfl ?_
      refine sw_gR (np := 75) sw_f_RX9_28 sw_k_105 sw_r_105_16 dX9_growsIn_72 rfl ?_
      refine sw_iconst (np := 76) dX9_growsIn_75 sw_ic_0 rfl ?_
      refine sw_ald_6_0 (np := 77) dX9_growsIn_76 rfl ?_
      refine sw_gR (np := 80) sw_f_RX9_9 sw_k_105 sw_r_105_0 dX9_growsIn_77 rfl ?_
      refine sw_bipush (np := 82) dX9_growsIn_80 sw_bc_10 rfl ?_
      refine sw_ild_6_2 (np := 83) dX9_growsIn_82 rfl ?_
      refine sw_iadd (np := 84) dX9_growsIn_83 rfl ?_
      refine sw_iald (np := 85) sw_k_106 sw_n_106 dX9_growsIn_84 rfl ?_
      refine sw_sI (np := 86) sw_k_112 sw_n_112 dX9_growsIn_85 rfl (fun S3 => ?_)
      refine sw_ald_6_0 (np := 87) dX9_growsIn_86 rfl ?_
      refine sw_gR (np := 90) sw_f_RX9_28 sw_k_105 sw_r_105_16 dX9_growsIn_87 rfl ?_
      refine sw_iconst (np := 91) dX9_growsIn_90 sw_ic_1 rfl ?_
      refine sw_ald_6_0 (np := 92) dX9_growsIn_91 rfl ?_
      refine sw_gR (np := 95) sw_f_RX9_9 sw_k_105 sw_r_105_0 dX9_growsIn_92 rfl ?_
      refine sw_bipush (np := 97) dX9_growsIn_95 sw_bc_20 rfl ?_
      refine sw_ild_6_2 (np := 98) dX9_growsIn_97 rfl ?_
      refine sw_iadd (np := 99) dX9_growsIn_98 rfl ?_
      refine sw_iald (np := 100) sw_k_106 sw_n_106 dX9_growsIn_99 rfl ?_
      refine sw_sI (np := 101) sw_k_112 sw_n_112 dX9_growsIn_100 rfl (fun S4 => ?_)
      refine sw_ald_6_0 (np := 102) dX9_growsIn_101 rfl ?_
      refine sw_gR (np := 105) sw_f_RX9_28 sw_k_105 sw_r_105_16 dX9_growsIn_102 rfl ?_
      refine sw_iconst (np := 106) dX9_growsIn_105 sw_ic_2 rfl ?_
      refine sw_ald_6_0 (np := 107) dX9_growsIn_106 rfl ?_
      refine sw_gR (np := 110) sw_f_RX9_34 sw_k_105 sw_r_105_18 dX9_growsIn_107 rfl ?_
      refine sw_ild_6_2 (np := 111) dX9_growsIn_110 rfl ?_
      refine sw_iald (np := 112) sw_k_114 sw_n_114 dX9_growsIn_111 rfl ?_
      refine sw_sI (np := 113) sw_k_112 sw_n_112 dX9_growsIn_112 rfl (fun S5 => ?_)
      refine sw_ald_6_0 (np := 114) dX9_growsIn_113 rfl ?_
      refine sw_gR (np := 117) sw_f_RX9_28 sw_k_105 sw_r_105_16 dX9_growsIn_114 rfl ?_
      refine sw_iconst (np := 118) dX9_growsIn_117 sw_ic_3 rfl ?_
      refine sw_ild_6_3 (np := 119) dX9_growsIn_118 rfl ?_
      refine sw_sI (np := 120) sw_k_112 sw_n_112 dX9_growsIn_119 rfl (fun S6 => ?_)
      refine sw_ald_6_0 (np := 121) dX9_growsIn_120 rfl ?_
      refine sw_gR (np := 124) sw_f_RX9_28 sw_k_105 sw_r_105_16 dX9_growsIn_121 rfl ?_
      refine sw_iconst (np := 125) dX9_growsIn_124 sw_ic_4 rfl ?_
      refine sw_ild_6_4 (np := 127) dX9_growsIn_125 rfl ?_
      refine sw_sI (np := 128) sw_k_112 sw_n_112 dX9_growsIn_127 rfl (fun S7 => ?_)
      refine sw_ald_6_0 (np := 129) dX9_growsIn_128 rfl ?_
      refine sw_gR (np := 132) sw_f_RX9_28 sw_k_105 sw_r_105_16 dX9_growsIn_129 rfl ?_
      refine sw_iconst (np := 133) dX9_growsIn_132 sw_ic_5 rfl ?_
      refine sw_ald_6_0 (np := 134) dX9_growsIn_133 rfl ?_
      refine sw_gI (np := 137) sw_f_RX9_201 sw_k_105 dX9_growsIn_134 rfl ?_
      refine sw_sI (np := 138) sw_k_112 sw_n_112 dX9_growsIn_137 rfl (fun S8 => ?_)
      refine sw_ald_6_0 (np := 139) dX9_growsIn_138 rfl ?_
      refine sw_iconst (np := 140) dX9_growsIn_139 sw_ic_0 rfl ?_
      refine sw_ald_6_0 (np := 141) dX9_growsIn_140 rfl ?_
      refine sw_gI (np := 144) sw_f_RX9_77 sw_k_105 dX9_growsIn_141 rfl ?_
      refine sw_cV2i (np := 147) (hX9_workOut (d := d - 1) (by omega) ) sw_mv_X9_workOut sw_k_105 sw_wl_RX9_198 dX9_growsIn_144 (sw_fit_rm (by omega) (by decide)) (Nat.le_of_ble_eq_true rfl) rfl (fun r2 S9 => ?_)
      refine sw_ist_6_5 (np := 149) dX9_growsIn_147 rfl rfl ?_
      refine sw_ild_6_5 (np := 151) dX9_growsIn_149 rfl ?_
      refine sw_bipush (np := 153) dX9_growsIn_151 sw_bc_m20 rfl ?_
      refine sw_icmp_ge (np := 156) (tp := 161) dX9_growsIn_153 rfl rfl ?_ ?_
      · refine sw_ild_6_5 (np := 163) dX9_growsIn_161 rfl ?_
        refine sw_bipush (np := 165) dX9_growsIn_163 sw_bc_20 rfl ?_
        refine sw_icmp_le (np := 168) (tp := 173) dX9_growsIn_165 rfl rfl ?_ ?_
        · refine sw_ild_6_5 (np := 175) dX9_growsIn_173 rfl ?_
          exact sw_iret dX9_growsIn_175
        · refine sw_bipush (np := 170) dX9_growsIn_168 sw_bc_20 rfl ?_
          refine sw_goto (tp := 175) dX9_growsIn_170 rfl ?_
          exact sw_iret dX9_growsIn_175
      · refine sw_bipush (np := 158) dX9_growsIn_156 sw_bc_m20 rfl ?_
        refine sw_goto (tp := 175) dX9_growsIn_158 rfl ?_
        exact sw_iret dX9_growsIn_175
  · refine sw_icmp_ne (np := 21) (tp := 25) dX9_growsIn_18 rfl rfl ?_ ?_
    · refine sw_iconst (np := 26) dX9_growsIn_25 sw_ic_0 rfl ?_
      refine sw_dr_6_1 ?_
      exact hk1 _ _
    · refine sw_iconst (np := 22) dX9_growsIn_21 sw_ic_1 rfl ?_
      refine sw_goto (tp := 26) dX9_growsIn_22 rfl ?_
      refine sw_dr_6_1 ?_
      exact hk1 _ _
/-- SwordAtticModel.heldMind(I)I -/
def fX9_heldMind (N : Nat) (p0 : Int32) (S : sw_St) : Option (Int32 × sw_St) :=
  if p0 ≥ 0 then (if p0 ≤ (99 : Int32) then (some (p0, S)) else (some ((99 : Int32), S))) else (some ((0 : Int32), S))
theorem hX9_heldMind {G : sw_G} {N d : Nat} (hd : 1 ≤ d) {p0 : Int32}  {S : sw_St} : sw_Ev G yX9_heldMind cX9_heldMind 1 (some .int) d sw_ei [.int p0] S (fX9_heldMind N p0 S) := by
  refine sw_Ev_of (own := RX9) (lv0 := [some (.int p0)]) (by decide) rfl (Nat.le_of_ble_eq_true rfl) rfl ?_
  unfold fX9_heldMind
  refine sw_ild_1_0 (np := 1) dX9_heldMind_0 rfl ?_
  refine sw_if_ge (np := 4) (tp := 8) dX9_heldMind_1 rfl rfl ?_ ?_
  · refine sw_ild_1_0 (np := 9) dX9_heldMind_8 rfl ?_
    refine sw_bipush (np := 11) dX9_heldMind_9 sw_bc_99 rfl ?_
    refine sw_icmp_le (np := 14) (tp := 19) dX9_heldMind_11 rfl rfl ?_ ?_
    · refine sw_ild_1_0 (np := 20) dX9_heldMind_19 rfl ?_
      exact sw_iret dX9_heldMind_20
    · refine sw_bipush (np := 16) dX9_heldMind_14 sw_bc_99 rfl ?_
      refine sw_goto (tp := 20) dX9_heldMind_16 rfl ?_
      exact sw_iret dX9_heldMind_20
  · refine sw_iconst (np := 5) dX9_heldMind_4 sw_ic_0 rfl ?_
    refine sw_goto (tp := 20) dX9_heldMind_5 rfl ?_
    exact sw_iret dX9_heldMind_20
/-- SwordAtticModel.goesHour()V -/
def fX9_goesHour (N : Nat)  (S : sw_St) : Option (Unit × sw_St) :=
  sw_fx1 (fun rec1 x1_1 S1 => (if x1_1 ≥ (12 : Int32) then (sw_fx1 (fun rec2 x1_2 S2 => (if x1_2 ≥ (12 : Int32) then (sw_ls (sw_si S2 105 19 (((S2.1 105 19) + (1 : Int32)) - ((S2.1 105 19) + (1 : Int32)) / (12 : Int32) * (12 : Int32))) (fun S3 => (some ((), S3)))) else (sw_gd (sw_in x1_2 12) (if (S2.1 113 x1_2.toNatClampNeg) < 0 then (rec2 (x1_2 + (1 : Int32)) S2) else (sw_gd (sw_in x1_2 12) (sw_gd (sw_in x1_2 12) (sw_gd (sw_in (S2.1 113 x1_2.toNatClampNeg) 10) (sw_gd (sw_in x1_2 12) (sw_bd (fX9_heldMind N ((S2.1 114 (S2.1 113 x1_2.toNatClampNeg).toNatClampNeg) + (S2.1 115 x1_2.toNatClampNeg)) S2) (fun r1 S4 => (sw_gd (sw_in (S2.1 113 x1_2.toNatClampNeg) 10) (sw_ls (sw_si S4 114 (S2.1 113 x1_2.toNatClampNeg).toNatClampNeg r1) (fun S5 => (rec2 (x1_2 + (1 : Int32)) S5)))))))))))))) N (0 : Int32) S1) else (sw_gd (sw_in x1_1 12) (if (S1.1 113 x1_1.toNatClampNeg) ≥ 0 then (sw_bd (fX9_growsIn N x1_1 S1) (fun r2 S6 => (sw_gd (sw_in x1_1 12) (sw_gd (sw_in ((40 : Int32) + (S6.1 113 x1_1.toNatClampNeg)) 53) (sw_gd (sw_in x1_1 12) (sw_ls (sw_si S6 115 x1_1.toNatClampNeg (r2 - ((3 : Int32) * (S6.1 106 ((40 : Int32) + (S6.1 113 x1_1.toNatClampNeg)).toNatClampNeg)))) (fun S7 => (rec1 (x1_1 + (1 : Int32)) S7)))))))) else (sw_gd (sw_in x1_1 12) (sw_ls (sw_si S1 115 x1_1.toNatClampNeg (0 : Int32)) (fun S8 => (rec1 (x1_1 + (1 : Int32)) S8)))))))) N (0 : Int32) S
theorem hX9_goesHour {G : sw_G} {N d : Nat} (hd : 106 ≤ d)   {S : sw_St} : sw_Ev G yX9_goesHour cX9_goesHour 2 none d sw_ev [sw_vr G 105] S (fX9_goesHour N  S) := by
  refine sw_Ev_of (own := RX9) (lv0 := [some (sw_vr G 105), none]) (by decide) rfl (Nat.le_of_ble_eq_true rfl) rfl ?_
  unfold fX9_goesHour
  refine sw_iconst (np := 1) dX9_goesHour_0 sw_ic_0 rfl ?_
  refine sw_ist_2_1 (np := 2) dX9_goesHour_1 rfl rfl ?_
  refine sw_lp1 (lv := fun x1_1 => [some (sw_vr G 105), some (.int x1_1)]) (fun rec1 hrec1 x1_1 S1 => ?_) _ _ _
  refine sw_ild_2_1 (np := 3) dX9_goesHour_2 rfl ?_
  refine sw_bipush (np := 5) dX9_goesHour_3 sw_bc_12 rfl ?_
  refine sw_icmp_ge (np := 8) (tp := 55) dX9_goesHour_5 rfl rfl ?_ ?_
  · refine sw_iconst (np := 56) dX9_goesHour_55 sw_ic_0 rfl ?_
    refine sw_ist_2_1 (np := 57) dX9_goesHour_56 rfl rfl ?_
    refine sw_lp1 (lv := fun x1_2 => [some (sw_vr G 105), some (.int x1_2)]) (fun rec2 hrec2 x1_2 S2 => ?_) _ _ _
    refine sw_ild_2_1 (np := 58) dX9_goesHour_57 rfl ?_
    refine sw_bipush (np := 60) dX9_goesHour_58 sw_bc_12 rfl ?_
    refine sw_icmp_ge (np := 63) (tp := 110) dX9_goesHour_60 rfl rfl ?_ ?_
    · refine sw_ald_2_0 (np := 111) dX9_goesHour_110 rfl ?_
      refine sw_ald_2_0 (np := 112) dX9_goesHour_111 rfl ?_
      refine sw_gI (np := 115) sw_f_RX9_201 sw_k_105 dX9_goesHour_112 rfl ?_
      refine sw_iconst (np := 116) dX9_goesHour_115 sw_ic_1 rfl ?_
      refine sw_iadd (np := 117) dX9_goesHour_116 rfl ?_
      refine sw_bipush (np := 119) dX9_goesHour_117 sw_bc_12 rfl ?_
      refine sw_irem (np := 120) dX9_goesHour_119 (by decide) rfl ?_
      refine sw_pI (np := 123) sw_f_RX9_201 sw_fp_9_19 sw_k_105 dX9_goesHour_120 rfl (fun S3 => ?_)
      exact sw_vret dX9_goesHour_123
    · refine sw_ald_2_0 (np := 64) dX9_goesHour_63 rfl ?_
      refine sw_gR (np := 67) sw_f_RX9_31 sw_k_105 sw_r_105_17 dX9_goesHour_64 rfl ?_
      refine sw_ild_2_1 (np := 68) dX9_goesHour_67 rfl ?_
      refine sw_iald (np := 69) sw_k_113 sw_n_113 dX9_goesHour_68 rfl ?_
      refine sw_if_lt (np := 72) (tp := 104) dX9_goesHour_69 rfl rfl ?_ ?_
      · refine sw_inc_2_1 (np := 107) dX9_goesHour_104 sw_ic_1 rfl rfl ?_
        refine sw_goto (tp := 57) dX9_goesHour_107 rfl ?_
        exact hrec2 _ _
      · refine sw_ald_2_0 (np := 73) dX9_goesHour_72 rfl ?_
        refine sw_gR (np := 76) sw_f_RX9_34 sw_k_105 sw_r_105_18 dX9_goesHour_73 rfl ?_
        refine sw_ald_2_0 (np := 77) dX9_goesHour_76 rfl ?_
        refine sw_gR (np := 80) sw_f_RX9_31 sw_k_105 sw_r_105_17 dX9_goesHour_77 rfl ?_
        refine sw_ild_2_1 (np := 81) dX9_goesHour_80 rfl ?_
        refine sw_iald (np := 82) sw_k_113 sw_n_113 dX9_goesHour_81 rfl ?_
        refine sw_ald_2_0 (np := 83) dX9_goesHour_82 rfl ?_
        refine sw_gR (np := 86) sw_f_RX9_34 sw_k_105 sw_r_105_18 dX9_goesHour_83 rfl ?_
        refine sw_ald_2_0 (np := 87) dX9_goesHour_86 rfl ?_
        refine sw_gR (np := 90) sw_f_RX9_31 sw_k_105 sw_r_105_17 dX9_goesHour_87 rfl ?_
        refine sw_ild_2_1 (np := 91) dX9_goesHour_90 rfl ?_
        refine sw_iald (np := 92) sw_k_113 sw_n_113 dX9_goesHour_91 rfl ?_
        refine sw_iald (np := 93) sw_k_114 sw_n_114 dX9_goesHour_92 rfl ?_
        refine sw_ald_2_0 (np := 94) dX9_goesHour_93 rfl ?_
        refine sw_gR (np := 97) sw_f_RX9_37 sw_k_105 sw_r_105_21 dX9_goesHour_94 rfl ?_
        refine sw_ild_2_1 (np := 98) dX9_goesHour_97 rfl ?_
        refine sw_iald (np := 99) sw_k_115 sw_n_115 dX9_goesHour_98 rfl ?_
        refine sw_iadd (np := 100) dX9_goesHour_99 rfl ?_
        refine sw_cS1i (np := 103) (hX9_heldMind (d := d - 1) (by omega) ) sw_ms_X9_heldMind sw_wl_RX9_223 dX9_goesHour_100 (sw_fit_rm (by omega) (by decide)) (Nat.le_of_ble_eq_true rfl) rfl (fun r1 S4 => ?_)
        refine sw_sI (np := 104) sw_k_114 sw_n_114 dX9_goesHour_103 rfl (fun S5 => ?_)
        refine sw_inc_2_1 (np := 107) dX9_goesHour_104 sw_ic_1 rfl rfl ?_
        refine sw_goto (tp := 57) dX9_goesHour_107 rfl ?_
        exact hrec2 _ _
  · refine sw_ald_2_0 (np := 9) dX9_goesHour_8 rfl ?_
    refine sw_gR (np := 12) sw_f_RX9_37 sw_k_105 sw_r_105_21 dX9_goesHour_9 rfl ?_
    refine sw_ild_2_1 (np := 13) dX9_goesHour_12 rfl ?_
    refine sw_ald_2_0 (np := 14) dX9_goesHour_13 rfl ?_
    refine sw_gR (np := 17) sw_f_RX9_31 sw_k_105 sw_r_105_17 dX9_goesHour_14 rfl ?_
    refine sw_ild_2_1 (np := 18) dX9_goesHour_17 rfl ?_
    refine sw_iald (np := 19) sw_k_113 sw_n_113 dX9_goesHour_18 rfl ?_
    refine sw_if_ge (np := 22) (tp := 26) dX9_goesHour_19 rfl rfl ?_ ?_
    · refine sw_ald_2_0 (np := 27) dX9_goesHour_26 rfl ?_
      refine sw_ild_2_1 (np := 28) dX9_goesHour_27 rfl ?_
      refine sw_cV1i (np := 31) (hX9_growsIn (d := d - 1) (by omega) ) sw_mv_X9_growsIn sw_k_105 sw_wl_RX9_220 dX9_goesHour_28 (sw_fit_rm (by omega) (by decide)) (Nat.le_of_ble_eq_true rfl) rfl (fun r2 S6 => ?_)
      refine sw_iconst (np := 32) dX9_goesHour_31 sw_ic_3 rfl ?_
      refine sw_ald_2_0 (np := 33) dX9_goesHour_32 rfl ?_
      refine sw_gR (np := 36) sw_f_RX9_9 sw_k_105 sw_r_105_0 dX9_goesHour_33 rfl ?_
      refine sw_bipush (np := 38) dX9_goesHour_36 sw_bc_40 rfl ?_
      refine sw_ald_2_0 (np := 39) dX9_goesHour_38 rfl ?_
      refine sw_gR (np := 42) sw_f_RX9_31 sw_k_105 sw_r_105_17 dX9_goesHour_39 rfl ?_
      refine sw_ild_2_1 (np := 43) dX9_goesHour_42 rfl ?_
      refine sw_iald (np := 44) sw_k_113 sw_n_113 dX9_goesHour_43 rfl ?_
      refine sw_iadd (np := 45) dX9_goesHour_44 rfl ?_
      refine sw_iald (np := 46) sw_k_106 sw_n_106 dX9_goesHour_45 rfl ?_
      refine sw_imul (np := 47) dX9_goesHour_46 rfl ?_
      refine sw_isub (np := 48) dX9_goesHour_47 rfl ?_
      refine sw_sI (np := 49) sw_k_115 sw_n_115 dX9_goesHour_48 rfl (fun S7 => ?_)
      refine sw_inc_2_1 (np := 52) dX9_goesHour_49 sw_ic_1 rfl rfl ?_
      refine sw_goto (tp := 2) dX9_goesHour_52 rfl ?_
      exact hrec1 _ _
    · refine sw_iconst (np := 23) dX9_goesHour_22 sw_ic_0 rfl ?_
      refine sw_goto (tp := 48) dX9_goesHour_23 rfl ?_
      refine sw_sI (np := 49) sw_k_115 sw_n_115 dX9_goesHour_48 rfl (fun S8 => ?_)
      refine sw_inc_2_1 (np := 52) dX9_goesHour_49 sw_ic_1 rfl rfl ?_
      refine sw_goto (tp := 2) dX9_goesHour_52 rfl ?_
      exact hrec1 _ _
/-- SwordAtticModel.awakeSet()I -/
def fX9_awakeSet (N : Nat)  (S : sw_St) : Option (Int32 × sw_St) :=
  sw_fx2 (fun rec1 x1_1 x2_1 S1 => (if x2_1 ≥ (S1.1 105 6) then (some (x1_1, S1)) else (sw_bd (fX9_isAwake N x2_1 S1) (fun r1 S2 => (if r1 = 0 then (sw_li (x1_1 ||| (0 : Int32)) (fun x1_2 => (rec1 x1_2 (x2_1 + (1 : Int32)) S2))) else (sw_li (x1_1 ||| ((1 : Int32) <<< (x2_1 &&& 31))) (fun x1_3 => (rec1 x1_3 (x2_1 + (1 : Int32)) S2)))))))) N (0 : Int32) (0 : Int32) S
theorem hX9_awakeSet {G : sw_G} {N d : Nat} (hd : 2 ≤ d)   {S : sw_St} : sw_Ev G yX9_awakeSet cX9_awakeSet 3 (some .int) d sw_ei [sw_vr G 105] S (fX9_awakeSet N  S) := by
  refine sw_Ev_of (own := RX9) (lv0 := [some (sw_vr G 105), none, none]) (by decide) rfl (Nat.le_of_ble_eq_true rfl) rfl ?_
  unfold fX9_awakeSet
  refine sw_iconst (np := 1) dX9_awakeSet_0 sw_ic_0 rfl ?_
  refine sw_ist_3_1 (np := 2) dX9_awakeSet_1 rfl rfl ?_
  refine sw_iconst (np := 3) dX9_awakeSet_2 sw_ic_0 rfl ?_
  refine sw_ist_3_2 (np := 4) dX9_awakeSet_3 rfl rfl ?_
  refine sw_lp2 (lv := fun x1_1 x2_1 => [some (sw_vr G 105), some (.int x1_1), some (.int x2_1)]) (fun rec1 hrec1 x1_1 x2_1 S1 => ?_) _ _ _ _
  refine sw_ild_3_2 (np := 5) dX9_awakeSet_4 rfl ?_
  refine sw_ald_3_0 (np := 6) dX9_awakeSet_5 rfl ?_
  refine sw_gI (np := 9) sw_f_RX9_95 sw_k_105 dX9_awakeSet_6 rfl ?_
  refine sw_icmp_ge (np := 12) (tp := 36) dX9_awakeSet_9 rfl rfl ?_ ?_
  · refine sw_ild_3_1 (np := 37) dX9_awakeSet_36 rfl ?_
    exact sw_iret dX9_awakeSet_37
  · refine sw_ild_3_1 (np := 13) dX9_awakeSet_12 rfl ?_
    refine sw_ald_3_0 (np := 14) dX9_awakeSet_13 rfl ?_
    refine sw_ild_3_2 (np := 15) dX9_awakeSet_14 rfl ?_
    refine sw_cV1i (np := 18) (hX9_isAwake (d := d - 1) (by omega) ) sw_mv_X9_isAwake sw_k_105 sw_wl_RX9_214 dX9_awakeSet_15 (sw_fit_rm (by omega) (by decide)) (Nat.le_of_ble_eq_true rfl) rfl (fun r1 S2 => ?_)
    refine sw_if_eq (np := 21) (tp := 27) dX9_awakeSet_18 rfl rfl ?_ ?_
    · refine sw_iconst (np := 28) dX9_awakeSet_27 sw_ic_0 rfl ?_
      refine sw_ior (np := 29) dX9_awakeSet_28 rfl ?_
      refine sw_isl_3_1 (np := 30) dX9_awakeSet_29 rfl rfl (fun x1_2 => ?_)
      refine sw_inc_3_2 (np := 33) dX9_awakeSet_30 sw_ic_1 rfl rfl ?_
      refine sw_goto (tp := 4) dX9_awakeSet_33 rfl ?_
      exact hrec1 _ _ _
    · refine sw_iconst (np := 22) dX9_awakeSet_21 sw_ic_1 rfl ?_
      refine sw_ild_3_2 (np := 23) dX9_awakeSet_22 rfl ?_
      refine sw_ishl (np := 24) dX9_awakeSet_23 rfl ?_
      refine sw_goto (tp := 28) dX9_awakeSet_24 rfl ?_
      refine sw_ior (np := 29) dX9_awakeSet_28 rfl ?_
      refine sw_isl_3_1 (np := 30) dX9_awakeSet_29 rfl rfl (fun x1_3 => ?_)
      refine sw_inc_3_2 (np := 33) dX9_awakeSet_30 sw_ic_1 rfl rfl ?_
      refine sw_goto (tp := 4) dX9_awakeSet_33 rfl ?_
      exact hrec1 _ _ _
/-- SwordAtticModel.awakeMany()I -/
def fX9_awakeMany (N : Nat)  (S : sw_St) : Option (Int32 × sw_St) :=
  sw_bd (fX9_awakeSet N S) (fun r1 S1 => (sw_bd (fX9_bitsOf N r1 S1) (fun r2 S2 => (some (r2, S2)))))
theorem hX9_awakeMany {G : sw_G} {N d : Nat} (hd : 3 ≤ d)   {S : sw_St} : sw_Ev G yX9_awakeMany cX9_awakeMany 1 (some .int) d sw_ei [sw_vr G 105] S (fX9_awakeMany N  S) := by
  refine sw_Ev_of (own := RX9) (lv0 := [some (sw_vr G 105)]) (by decide) rfl (Nat.le_of_ble_eq_true rfl) rfl ?_
  unfold fX9_awakeMany
  refine sw_ald_1_0 (np := 1) dX9_awakeMany_0 rfl ?_
  refine sw_cV0i (np := 4) (hX9_awakeSet (d := d - 1) (by omega) ) sw_mv_X9_awakeSet sw_k_105 sw_wl_RX9_226 dX9_awakeMany_1 (sw_fit_rm (by omega) (by decide)) (Nat.le_of_ble_eq_true rfl) rfl (fun r1 S1 => ?_)
  refine sw_cS1i (np := 7) (hX9_bitsOf (d := d - 1) (by omega) ) sw_ms_X9_bitsOf sw_wl_RX9_229 dX9_awakeMany_4 (sw_fit_rm (by omega) (by decide)) (Nat.le_of_ble_eq_true rfl) rfl (fun r2 S2 => ?_)
  exact sw_iret dX9_awakeMany_7
/-- SwordAtticModel.mindAll()I -/
def fX9_mindAll (N : Nat)  (S : sw_St) : Option (Int32 × sw_St) :=
  sw_fx2 (fun rec1 x1_1 x2_1 S1 => (if x2_1 ≥ (S1.1 105 6) then (some (x1_1, S1)) else (sw_gd (sw_in x2_1 10) (sw_li (x1_1 + (S1.1 114 x2_1.toNatClampNeg)) (fun x1_2 => (rec1 x1_2 (x2_1 + (1 : Int32)) S1)))))) N (0 : Int32) (0 : Int32) S
theorem hX9_mindAll {G : sw_G} {N d : Nat} (hd : 1 ≤ d)   {S : sw_St} : sw_Ev G yX9_mindAll cX9_mindAll 3 (some .int) d sw_ei [sw_vr G 105] S (fX9_mindAll N  S) := by
  refine sw_Ev_of (own := RX9) (lv0 := [some (sw_vr G 105), none, none]) (by decide) rfl (Nat.le_of_ble_eq_true rfl) rfl ?_
  unfold fX9_mindAll
  refine sw_iconst (np := 1) dX9_mindAll_0 sw_ic_0 rfl ?_
  refine sw_ist_3_1 (np := 2) dX9_mindAll_1 rfl rfl ?_
  refine sw_iconst (np := 3) dX9_mindAll_2 sw_ic_0 rfl ?_
  refine sw_ist_3_2 (np := 4) dX9_mindAll_3 rfl rfl ?_
  refine sw_lp2 (lv := fun x1_1 x2_1 => [some (sw_vr G 105), some (.int x1_1), some (.int x2_1)]) (fun rec1 hrec1 x1_1 x2_1 S1 => ?_) _ _ _ _
  refine sw_ild_3_2 (np := 5) dX9_mindAll_4 rfl ?_
  refine sw_ald_3_0 (np := 6) dX9_mindAll_5 rfl ?_
  refine sw_gI (np := 9) sw_f_RX9_95 sw_k_105 dX9_mindAll_6 rfl ?_
  refine sw_icmp_ge (np := 12) (tp := 27) dX9_mindAll_9 rfl rfl ?_ ?_
  · refine sw_ild_3_1 (np := 28) dX9_mindAll_27 rfl ?_
    exact sw_iret dX9_mindAll_28
  · refine sw_ild_3_1 (np := 13) dX9_mindAll_12 rfl ?_
    refine sw_ald_3_0 (np := 14) dX9_mindAll_13 rfl ?_
    refine sw_gR (np := 17) sw_f_RX9_34 sw_k_105 sw_r_105_18 dX9_mindAll_14 rfl ?_
    refine sw_ild_3_2 (np := 18) dX9_mindAll_17 rfl ?_
    refine sw_iald (np := 19) sw_k_114 sw_n_114 dX9_mindAll_18 rfl ?_
    refine sw_iadd (np := 20) dX9_mindAll_19 rfl ?_
    refine sw_isl_3_1 (np := 21) dX9_mindAll_20 rfl rfl (fun x1_2 => ?_)
    refine sw_inc_3_2 (np := 24) dX9_mindAll_21 sw_ic_1 rfl rfl ?_
    refine sw_goto (tp := 4) dX9_mindAll_24 rfl ?_
    exact hrec1 _ _ _
/-- SwordAtticModel.grows(I)I -/
def fX9_grows (N : Nat) (p1 : Int32) (S : sw_St) : Option (Int32 × sw_St) :=
  sw_bd (fX9_isSword N p1.toInt64 S) (fun r1 S1 => (if r1 = 0 then (some ((-2000000000 : Int32), S1)) else (sw_bd (fX9_begins N S1) (fun _ S2 => (sw_gd (sw_in p1 53) (sw_bd (fX9_growsIn N (S2.1 106 p1.toNatClampNeg) S2) (fun r3 S3 => (some (r3, S3)))))))))
theorem hX9_grows {G : sw_G} {N d : Nat} (hd : 106 ≤ d) {p1 : Int32}  {S : sw_St} : sw_Ev G yX9_grows cX9_grows 2 (some .int) d sw_ei [sw_vr G 105, .int p1] S (fX9_grows N p1 S) := by
  refine sw_Ev_of (own := RX9) (lv0 := [some (sw_vr G 105), some (.int p1)]) (by decide) rfl (Nat.le_of_ble_eq_true rfl) rfl ?_
  unfold fX9_grows
  refine sw_ald_2_0 (np := 1) dX9_grows_0 rfl ?_
  refine sw_ild_2_1 (np := 2) dX9_grows_1 rfl ?_
  refine sw_i2l (np := 3) dX9_grows_2 rfl ?_
  refine sw_cV1i (np := 6) (hX9_isSword (d := d - 1) (by omega) ) sw_mv_X9_isSword sw_k_105 sw_wl_RX9_127 dX9_grows_3 (sw_fit_rm (by omega) (by decide)) (Nat.le_of_ble_eq_true rfl) rfl (fun r1 S1 => ?_)
  refine sw_if_ne (np := 9) (tp := 12) dX9_grows_6 rfl rfl ?_ ?_
  · refine sw_ald_2_0 (np := 13) dX9_grows_12 rfl ?_
    refine sw_cV0v (np := 16) (hX9_begins (d := d - 1) (by omega) ) sw_mv_X9_begins sw_k_105 sw_wl_RX9_233 dX9_grows_13 (sw_fit_rm (by omega) (by decide)) (Nat.le_of_ble_eq_true rfl) rfl (fun _ S2 => ?_)
    refine sw_ald_2_0 (np := 17) dX9_grows_16 rfl ?_
    refine sw_ald_2_0 (np := 18) dX9_grows_17 rfl ?_
    refine sw_gR (np := 21) sw_f_RX9_9 sw_k_105 sw_r_105_0 dX9_grows_18 rfl ?_
    refine sw_ild_2_1 (np := 22) dX9_grows_21 rfl ?_
    refine sw_iald (np := 23) sw_k_106 sw_n_106 dX9_grows_22 rfl ?_
    refine sw_cV1i (np := 26) (hX9_growsIn (d := d - 1) (by omega) ) sw_mv_X9_growsIn sw_k_105 sw_wl_RX9_220 dX9_grows_23 (sw_fit_rm (by omega) (by decide)) (Nat.le_of_ble_eq_true rfl) rfl (fun r3 S3 => ?_)
    exact sw_iret dX9_grows_26
  · refine sw_ldc (np := 11) sw_wc_RX9_232 dX9_grows_9 rfl ?_
    exact sw_iret dX9_grows_11
/-- SwordAtticModel.isToldAt(II)V -/
def fX9_isToldAt (N : Nat) (p1 : Int32) (p2 : Int32) (S : sw_St) : Option (Unit × sw_St) :=
  sw_gd (sw_in p1 12) (sw_li (S.1 113 p1.toNatClampNeg) (fun x3_1 => (if x3_1 < 0 then (some ((), S)) else (sw_gd (sw_in x3_1 10) (sw_gd (sw_in ((10 : Int32) + x3_1) 53) (if (S.1 106 ((10 : Int32) + x3_1).toNatClampNeg) > p2 then (sw_bd (fX9_heldMind N ((S.1 114 x3_1.toNatClampNeg) + p2) S) (fun r1 S1 => (sw_gd (sw_in x3_1 10) (sw_ls (sw_si S1 114 x3_1.toNatClampNeg r1) (fun S2 => (some ((), S2))))))) else (sw_bd (fX9_heldMind N ((S.1 114 x3_1.toNatClampNeg) + ((-2 : Int32) * p2)) S) (fun r2 S3 => (sw_gd (sw_in x3_1 10) (sw_ls (sw_si S3 114 x3_1.toNatClampNeg r2) (fun S4 => (some ((), S4)))))))))))))
theorem hX9_isToldAt {G : sw_G} {N d : Nat} (hd : 2 ≤ d) {p1 : Int32} {p2 : Int32}  {S : sw_St} : sw_Ev G yX9_isToldAt cX9_isToldAt 4 none d sw_ev [sw_vr G 105, .int p1, .int p2] S (fX9_isToldAt N p1 p2 S) := by
  refine sw_Ev_of (own := RX9) (lv0 := [some (sw_vr G 105), some (.int p1), some (.int p2), none]) (by decide) rfl (Nat.le_of_ble_eq_true rfl) rfl ?_
  unfold fX9_isToldAt
  refine sw_ald_4_0 (np := 1) dX9_isToldAt_0 rfl ?_
  refine sw_gR (np := 4) sw_f_RX9_31 sw_k_105 sw_r_105_17 dX9_isToldAt_1 rfl ?_
  refine sw_ild_4_1 (np := 5) dX9_isToldAt_4 rfl ?_
  refine sw_iald (np := 6) sw_k_113 sw_n_113 dX9_isToldAt_5 rfl ?_
  refine sw_isl_4_3 (np := 7) dX9_isToldAt_6 rfl rfl (fun x3_1 => ?_)
  refine sw_ild_4_3 (np := 8) dX9_isToldAt_7 rfl ?_
  refine sw_if_lt (np := 11) (tp := 48) dX9_isToldAt_8 rfl rfl ?_ ?_
  · exact sw_vret dX9_isToldAt_48
  · refine sw_ald_4_0 (np := 12) dX9_isToldAt_11 rfl ?_
    refine sw_gR (np := 15) sw_f_RX9_34 sw_k_105 sw_r_105_18 dX9_isToldAt_12 rfl ?_
    refine sw_ild_4_3 (np := 16) dX9_isToldAt_15 rfl ?_
    refine sw_ald_4_0 (np := 17) dX9_isToldAt_16 rfl ?_
    refine sw_gR (np := 20) sw_f_RX9_34 sw_k_105 sw_r_105_18 dX9_isToldAt_17 rfl ?_
    refine sw_ild_4_3 (np := 21) dX9_isToldAt_20 rfl ?_
    refine sw_iald (np := 22) sw_k_114 sw_n_114 dX9_isToldAt_21 rfl ?_
    refine sw_ald_4_0 (np := 23) dX9_isToldAt_22 rfl ?_
    refine sw_gR (np := 26) sw_f_RX9_9 sw_k_105 sw_r_105_0 dX9_isToldAt_23 rfl ?_
    refine sw_bipush (np := 28) dX9_isToldAt_26 sw_bc_10 rfl ?_
    refine sw_ild_4_3 (np := 29) dX9_isToldAt_28 rfl ?_
    refine sw_iadd (np := 30) dX9_isToldAt_29 rfl ?_
    refine sw_iald (np := 31) sw_k_106 sw_n_106 dX9_isToldAt_30 rfl ?_
    refine sw_ild_4_2 (np := 32) dX9_isToldAt_31 rfl ?_
    refine sw_icmp_gt (np := 35) (tp := 42) dX9_isToldAt_32 rfl rfl ?_ ?_
    · refine sw_ild_4_2 (np := 43) dX9_isToldAt_42 rfl ?_
      refine sw_iadd (np := 44) dX9_isToldAt_43 rfl ?_
      refine sw_cS1i (np := 47) (hX9_heldMind (d := d - 1) (by omega) ) sw_ms_X9_heldMind sw_wl_RX9_223 dX9_isToldAt_44 (sw_fit_rm (by omega) (by decide)) (Nat.le_of_ble_eq_true rfl) rfl (fun r1 S1 => ?_)
      refine sw_sI (np := 48) sw_k_114 sw_n_114 dX9_isToldAt_47 rfl (fun S2 => ?_)
      exact sw_vret dX9_isToldAt_48
    · refine sw_bipush (np := 37) dX9_isToldAt_35 sw_bc_m2 rfl ?_
      refine sw_ild_4_2 (np := 38) dX9_isToldAt_37 rfl ?_
      refine sw_imul (np := 39) dX9_isToldAt_38 rfl ?_
      refine sw_goto (tp := 43) dX9_isToldAt_39 rfl ?_
      refine sw_iadd (np := 44) dX9_isToldAt_43 rfl ?_
      refine sw_cS1i (np := 47) (hX9_heldMind (d := d - 1) (by omega) ) sw_ms_X9_heldMind sw_wl_RX9_223 dX9_isToldAt_44 (sw_fit_rm (by omega) (by decide)) (Nat.le_of_ble_eq_true rfl) rfl (fun r2 S3 => ?_)
      refine sw_sI (np := 48) sw_k_114 sw_n_114 dX9_isToldAt_47 rfl (fun S4 => ?_)
      exact sw_vret dX9_isToldAt_48
/-- SwordAtticModel.touchedMany()I -/
def fX9_touchedMany (N : Nat)  (S : sw_St) : Option (Int32 × sw_St) :=
  sw_fx2 (fun rec1 x1_1 x2_1 S1 => (if x2_1 ≥ (12 : Int32) then (some (x1_1, S1)) else (sw_gd (sw_in x2_1 12) (if (S1.1 116 x2_1.toNatClampNeg) = (2 : Int32) then (sw_li (x1_1 + (1 : Int32)) (fun x1_3 => (rec1 x1_3 (x2_1 + (1 : Int32)) S1))) else (sw_li (x1_1 + (0 : Int32)) (fun x1_2 => (rec1 x1_2 (x2_1 + (1 : Int32)) S1))))))) N (0 : Int32) (0 : Int32) S
theorem hX9_touchedMany {G : sw_G} {N d : Nat} (hd : 1 ≤ d)   {S : sw_St} : sw_Ev G yX9_touchedMany cX9_touchedMany 3 (some .int) d sw_ei [sw_vr G 105] S (fX9_touchedMany N  S) := by
  refine sw_Ev_of (own := RX9) (lv0 := [some (sw_vr G 105), none, none]) (by decide) rfl (Nat.le_of_ble_eq_true rfl) rfl ?_
  unfold fX9_touchedMany
  refine sw_iconst (np := 1) dX9_touchedMany_0 sw_ic_0 rfl ?_
  refine sw_ist_3_1 (np := 2) dX9_touchedMany_1 rfl rfl ?_
  refine sw_iconst (np := 3) dX9_touchedMany_2 sw_ic_0 rfl ?_
  refine sw_ist_3_2 (np := 4) dX9_touchedMany_3 rfl rfl ?_
  refine sw_lp2 (lv := fun x1_1 x2_1 => [some (sw_vr G 105), some (.int x1_1), some (.int x2_1)]) (fun rec1 hrec1 x1_1 x2_1 S1 => ?_) _ _ _ _
  refine sw_ild_3_2 (np := 5) dX9_touchedMany_4 rfl ?_
  refine sw_bipush (np := 7) dX9_touchedMany_5 sw_bc_12 rfl ?_
  refine sw_icmp_ge (np := 10) (tp := 34) dX9_touchedMany_7 rfl rfl ?_ ?_
  · refine sw_ild_3_1 (np := 35) dX9_touchedMany_34 rfl ?_
    exact sw_iret dX9_touchedMany_35
  · refine sw_ild_3_1 (np := 11) dX9_touchedMany_10 rfl ?_
    refine sw_ald_3_0 (np := 12) dX9_touchedMany_11 rfl ?_
    refine sw_gR (np := 15) sw_f_RX9_40 sw_k_105 sw_r_105_22 dX9_touchedMany_12 rfl ?_
    refine sw_ild_3_2 (np := 16) dX9_touchedMany_15 rfl ?_
    refine sw_iald (np := 17) sw_k_116 sw_n_116 dX9_touchedMany_16 rfl ?_
    refine sw_iconst (np := 18) dX9_touchedMany_17 sw_ic_2 rfl ?_
    refine sw_icmp_ne (np := 21) (tp := 25) dX9_touchedMany_18 rfl rfl ?_ ?_
    · refine sw_iconst (np := 26) dX9_touchedMany_25 sw_ic_0 rfl ?_
      refine sw_iadd (np := 27) dX9_touchedMany_26 rfl ?_
      refine sw_isl_3_1 (np := 28) dX9_touchedMany_27 rfl rfl (fun x1_2 => ?_)
      refine sw_inc_3_2 (np := 31) dX9_touchedMany_28 sw_ic_1 rfl rfl ?_
      refine sw_goto (tp := 4) dX9_touchedMany_31 rfl ?_
      exact hrec1 _ _ _
    · refine sw_iconst (np := 22) dX9_touchedMany_21 sw_ic_1 rfl ?_
      refine sw_goto (tp := 26) dX9_touchedMany_22 rfl ?_
      refine sw_iadd (np := 27) dX9_touchedMany_26 rfl ?_
      refine sw_isl_3_1 (np := 28) dX9_touchedMany_27 rfl rfl (fun x1_3 => ?_)
      refine sw_inc_3_2 (np := 31) dX9_touchedMany_28 sw_ic_1 rfl rfl ?_
      refine sw_goto (tp := 4) dX9_touchedMany_31 rfl ?_
      exact hrec1 _ _ _
/-- SwordAtticModel.isTouched(I)V -/
def fX9_isTouched (N : Nat) (p1 : Int32) (S : sw_St) : Option (Unit × sw_St) :=
  sw_fx1 (fun rec1 x2_1 S1 => (if x2_1 ≥ (12 : Int32) then (sw_fx1 (fun rec2 x2_2 S2 => (if x2_2 = 0 then (some ((), S2)) else (sw_fx2 (fun rec3 x2_3 x3_1 S3 => (if x3_1 ≥ (12 : Int32) then (rec2 x2_3 S3) else (sw_gd (sw_in x3_1 12) (if (S3.1 116 x3_1.toNatClampNeg) = (1 : Int32) then (sw_gd (sw_in x3_1 12) (if (S3.1 113 x3_1.toNatClampNeg) < 0 then (rec3 x2_3 (x3_1 + (1 : Int32)) S3) else (sw_gd (sw_in x3_1 12) (sw_ls (sw_si S3 116 x3_1.toNatClampNeg (2 : Int32)) (fun S4 => (sw_gd (sw_in x3_1 12) (sw_bd (fX9_isAwake N (S4.1 113 x3_1.toNatClampNeg) S4) (fun r1 S5 => (sw_gd (sw_in x3_1 12) (sw_gd (sw_in x3_1 12) (sw_gd (sw_in (S5.1 113 x3_1.toNatClampNeg) 10) (sw_bd (fX9_heldMind N ((S5.1 114 (S5.1 113 x3_1.toNatClampNeg).toNatClampNeg) + (15 : Int32)) S5) (fun r2 S6 => (sw_gd (sw_in (S5.1 113 x3_1.toNatClampNeg) 10) (sw_ls (sw_si S6 114 (S5.1 113 x3_1.toNatClampNeg).toNatClampNeg r2) (fun S7 => (sw_fx1 (fun rec4 x5_1 S8 => (if x5_1 ≥ (12 : Int32) then (rec3 (1 : Int32) (x3_1 + (1 : Int32)) S8) else (if r1 = 0 then (sw_gd (sw_in x3_1 12) (sw_bd (fX9_isAwake N (S8.1 113 x3_1.toNatClampNeg) S8) (fun r3 S10 => (if r3 = 0 then (sw_gd (sw_in x5_1 12) (sw_gd (sw_in x5_1 12) (sw_ls (sw_si S10 116 x5_1.toNatClampNeg (S10.1 116 x5_1.toNatClampNeg)) (fun S11 => (rec4 (x5_1 + (1 : Int32)) S11))))) else (sw_bd (fX9_areBeside N x3_1 x5_1 S10) (fun r4 S12 => (if r4 = 0 then (sw_gd (sw_in x5_1 12) (sw_gd (sw_in x5_1 12) (sw_ls (sw_si S12 116 x5_1.toNatClampNeg (S12.1 116 x5_1.toNatClampNeg)) (fun S13 => (rec4 (x5_1 + (1 : Int32)) S13))))) else (sw_gd (sw_in x5_1 12) (if (S12.1 116 x5_1.toNatClampNeg) = 0 then (sw_gd (sw_in x5_1 12) (sw_ls (sw_si S12 116 x5_1.toNatClampNeg (1 : Int32)) (fun S15 => (rec4 (x5_1 + (1 : Int32)) S15)))) else (sw_gd (sw_in x5_1 12) (sw_gd (sw_in x5_1 12) (sw_ls (sw_si S12 116 x5_1.toNatClampNeg (S12.1 116 x5_1.toNatClampNeg)) (fun S14 => (rec4 (x5_1 + (1 : Int32)) S14)))))))))))))) else (sw_gd (sw_in x5_1 12) (sw_gd (sw_in x5_1 12) (sw_ls (sw_si S8 116 x5_1.toNatClampNeg (S8.1 116 x5_1.toNatClampNeg)) (fun S9 => (rec4 (x5_1 + (1 : Int32)) S9)))))))) N (0 : Int32) S7))))))))))))))))) else (rec3 x2_3 (x3_1 + (1 : Int32)) S3))))) N (0 : Int32) (0 : Int32) S2))) N (1 : Int32) S1) else (if x2_1 = p1 then (sw_gd (sw_in x2_1 12) (sw_ls (sw_si S1 116 x2_1.toNatClampNeg (1 : Int32)) (fun S17 => (rec1 (x2_1 + (1 : Int32)) S17)))) else (sw_gd (sw_in x2_1 12) (sw_ls (sw_si S1 116 x2_1.toNatClampNeg (0 : Int32)) (fun S16 => (rec1 (x2_1 + (1 : Int32)) S16))))))) N (0 : Int32) S
theorem hX9_isTouched {G : sw_G} {N d : Nat} (hd : 3 ≤ d) {p1 : Int32}  {S : sw_St} : sw_Ev G yX9_isTouched cX9_isTouched 6 none d sw_ev [sw_vr G 105, .int p1] S (fX9_isTouched N p1 S) := by
  refine sw_Ev_of (own := RX9) (lv0 := [some (sw_vr G 105), some (.int p1), none, none, none, none]) (by decide) rfl (Nat.le_of_ble_eq_true rfl) rfl ?_
  unfold fX9_isTouched
  refine sw_iconst (np := 1) dX9_isTouched_0 sw_ic_0 rfl ?_
  refine sw_ist_6_2 (np := 2) dX9_isTouched_1 rfl rfl ?_
  refine sw_lp1 (lv := fun x2_1 => [some (sw_vr G 105), some (.int p1), some (.int x2_1), none, none, none]) (fun rec1 hrec1 x2_1 S1 => ?_) _ _ _
  refine sw_ild_6_2 (np := 3) dX9_isTouched_2 rfl ?_
  refine sw_bipush (np := 5) dX9_isTouched_3 sw_bc_12 rfl ?_
  refine sw_icmp_ge (np := 8) (tp := 30) dX9_isTouched_5 rfl rfl ?_ ?_
  · refine sw_iconst (np := 31) dX9_isTouched_30 sw_ic_1 rfl ?_
    refine sw_ist_6_2 (np := 32) dX9_isTouched_31 rfl rfl ?_
    refine sw_dr_6_1 ?_
    refine sw_lp1 (lv := fun x2_2 => [some (sw_vr G 105), none, some (.int x2_2), none, none, none]) (fun rec2 hrec2 x2_2 S2 => ?_) _ _ _
    refine sw_ild_6_2 (np := 33) dX9_isTouched_32 rfl ?_
    refine sw_if_eq (np := 36) (tp := 194) dX9_isTouched_33 rfl rfl ?_ ?_
    · exact sw_vret dX9_isTouched_194
    · refine sw_iconst (np := 37) dX9_isTouched_36 sw_ic_0 rfl ?_
      refine sw_ist_6_2 (np := 38) dX9_isTouched_37 rfl rfl ?_
      refine sw_iconst (np := 39) dX9_isTouched_38 sw_ic_0 rfl ?_
      refine sw_ist_6_3 (np := 40) dX9_isTouched_39 rfl rfl ?_
      refine sw_lp2 (lv := fun x2_3 x3_1 => [some (sw_vr G 105), none, some (.int x2_3), some (.int x3_1), none, none]) (fun rec3 hrec3 x2_3 x3_1 S3 => ?_) _ _ _ _
      refine sw_ild_6_3 (np := 41) dX9_isTouched_40 rfl ?_
      refine sw_bipush (np := 43) dX9_isTouched_41 sw_bc_12 rfl ?_
      refine sw_icmp_ge (np := 46) (tp := 191) dX9_isTouched_43 rfl rfl ?_ ?_
      · refine sw_goto (tp := 32) dX9_isTouched_191 rfl ?_
        refine sw_dr_6_3 ?_
        exact hrec2 _ _
      · refine sw_ald_6_0 (np := 47) dX9_isTouched_46 rfl ?_
        refine sw_gR (np := 50) sw_f_RX9_40 sw_k_105 sw_r_105_22 dX9_isTouched_47 rfl ?_
        refine sw_ild_6_3 (np := 51) dX9_isTouched_50 rfl ?_
        refine sw_iald (np := 52) sw_k_116 sw_n_116 dX9_isTouched_51 rfl ?_
        refine sw_iconst (np := 53) dX9_isTouched_52 sw_ic_1 rfl ?_
        refine sw_icmp_ne (np := 56) (tp := 185) dX9_isTouched_53 rfl rfl ?_ ?_
        · refine sw_inc_6_3 (np := 188) dX9_isTouched_185 sw_ic_1 rfl rfl ?_
          refine sw_goto (tp := 40) dX9_isTouched_188 rfl ?_
          exact hrec3 _ _ _
        · refine sw_ald_6_0 (np := 57) dX9_isTouched_56 rfl ?_
          refine sw_gR (np := 60) sw_f_RX9_31 sw_k_105 sw_r_105_17 dX9_isTouched_57 rfl ?_
          refine sw_ild_6_3 (np := 61) dX9_isTouched_60 rfl ?_
          refine sw_iald (np := 62) sw_k_113 sw_n_113 dX9_isTouched_61 rfl ?_
          refine sw_if_lt (np := 65) (tp := 185) dX9_isTouched_62 rfl rfl ?_ ?_
          · refine sw_inc_6_3 (np := 188) dX9_isTouched_185 sw_ic_1 rfl rfl ?_
            refine sw_goto (tp := 40) dX9_isTouched_188 rfl ?_
            exact hrec3 _ _ _
          · refine sw_iconst (np := 66) dX9_isTouched_65 sw_ic_1 rfl ?_
            refine sw_ist_6_2 (np := 67) dX9_isTouched_66 rfl rfl ?_
            refine sw_ald_6_0 (np := 68) dX9_isTouched_67 rfl ?_
            refine sw_gR (np := 71) sw_f_RX9_40 sw_k_105 sw_r_105_22 dX9_isTouched_68 rfl ?_
            refine sw_ild_6_3 (np := 72) dX9_isTouched_71 rfl ?_
            refine sw_iconst (np := 73) dX9_isTouched_72 sw_ic_2 rfl ?_
            refine sw_sI (np := 74) sw_k_116 sw_n_116 dX9_isTouched_73 rfl (fun S4 => ?_)
            refine sw_ald_6_0 (np := 75) dX9_isTouched_74 rfl ?_
            refine sw_ald_6_0 (np := 76) dX9_isTouched_75 rfl ?_
            refine sw_gR (np := 79) sw_f_RX9_31 sw_k_105 sw_r_105_17 dX9_isTouched_76 rfl ?_
            refine sw_ild_6_3 (np := 80) dX9_isTouched_79 rfl ?_
            refine sw_iald (np := 81) sw_k_113 sw_n_113 dX9_isTouched_80 rfl ?_
            refine sw_cV1i (np := 84) (hX9_isAwake (d := d - 1) (by omega) ) sw_mv_X9_isAwake sw_k_105 sw_wl_RX9_214 dX9_isTouched_81 (sw_fit_rm (by omega) (by decide)) (Nat.le_of_ble_eq_true rfl) rfl (fun r1 S5 => ?_)
            refine sw_ist_6_4 (np := 86) dX9_isTouched_84 rfl rfl ?_
            refine sw_ald_6_0 (np := 87) dX9_isTouched_86 rfl ?_
            refine sw_gR (np := 90) sw_f_RX9_34 sw_k_105 sw_r_105_18 dX9_isTouched_87 rfl ?_
            refine sw_ald_6_0 (np := 91) dX9_isTouched_90 rfl ?_
            refine sw_gR (np := 94) sw_f_RX9_31 sw_k_105 sw_r_105_17 dX9_isTouched_91 rfl ?_
            refine sw_ild_6_3 (np := 95) dX9_isTouched_94 rfl ?_
            refine sw_iald (np := 96) sw_k_113 sw_n_113 dX9_isTouched_95 rfl ?_
            refine sw_ald_6_0 (np := 97) dX9_isTouched_96 rfl ?_
            refine sw_gR (np := 100) sw_f_RX9_34 sw_k_105 sw_r_105_18 dX9_isTouched_97 rfl ?_
            refine sw_ald_6_0 (np := 101) dX9_isTouched_100 rfl ?_
            refine sw_gR (np := 104) sw_f_RX9_31 sw_k_105 sw_r_105_17 dX9_isTouched_101 rfl ?_
            refine sw_ild_6_3 (np := 105) dX9_isTouched_104 rfl ?_
            refine sw_iald (np := 106) sw_k_113 sw_n_113 dX9_isTouched_105 rfl ?_
            refine sw_iald (np := 107) sw_k_114 sw_n_114 dX9_isTouched_106 rfl ?_
            refine sw_bipush (np := 109) dX9_isTouched_107 sw_bc_15 rfl ?_
            refine sw_iadd (np := 110) dX9_isTouched_109 rfl ?_
            refine sw_cS1i (np := 113) (hX9_heldMind (d := d - 1) (by omega) ) sw_ms_X9_heldMind sw_wl_RX9_223 dX9_isTouched_110 (sw_fit_rm (by omega) (by decide)) (Nat.le_of_ble_eq_true rfl) rfl (fun r2 S6 => ?_)
            refine sw_sI (np := 114) sw_k_114 sw_n_114 dX9_isTouched_113 rfl (fun S7 => ?_)
            refine sw_iconst (np := 115) dX9_isTouched_114 sw_ic_0 rfl ?_
            refine sw_ist_6_5 (np := 117) dX9_isTouched_115 rfl rfl ?_
            refine sw_lp1 (lv := fun x5_1 => [some (sw_vr G 105), none, some (.int (1 : Int32)), some (.int x3_1), some (.int r1), some (.int x5_1)]) (fun rec4 hrec4 x5_1 S8 => ?_) _ _ _
            refine sw_ild_6_5 (np := 119) dX9_isTouched_117 rfl ?_
            refine sw_bipush (np := 121) dX9_isTouched_119 sw_bc_12 rfl ?_
            refine sw_icmp_ge (np := 124) (tp := 185) dX9_isTouched_121 rfl rfl ?_ ?_
            · refine sw_inc_6_3 (np := 188) dX9_isTouched_185 sw_ic_1 rfl rfl ?_
              refine sw_goto (tp := 40) dX9_isTouched_188 rfl ?_
              refine sw_dr_6_4 ?_
              refine sw_dr_6_5 ?_
              exact hrec3 _ _ _
            · refine sw_ald_6_0 (np := 125) dX9_isTouched_124 rfl ?_
              refine sw_gR (np := 128) sw_f_RX9_40 sw_k_105 sw_r_105_22 dX9_isTouched_125 rfl ?_
              refine sw_ild_6_5 (np := 130) dX9_isTouched_128 rfl ?_
              refine sw_ild_6_4 (np := 132) dX9_isTouched_130 rfl ?_
              refine sw_if_ne (np := 135) (tp := 171) dX9_isTouched_132 rfl rfl ?_ ?_
              · refine sw_ald_6_0 (np := 172) dX9_isTouched_171 rfl ?_
                refine sw_gR (np := 175) sw_f_RX9_40 sw_k_105 sw_r_105_22 dX9_isTouched_172 rfl ?_
                refine sw_ild_6_5 (np := 177) dX9_isTouched_175 rfl ?_
                refine sw_iald (np := 178) sw_k_116 sw_n_116 dX9_isTouched_177 rfl ?_
                refine sw_sI (np := 179) sw_k_116 sw_n_116 dX9_isTouched_178 rfl (fun S9 => ?_)
                refine sw_inc_6_5 (np := 182) dX9_isTouched_179 sw_ic_1 rfl rfl ?_
                refine sw_goto (tp := 117) dX9_isTouched_182 rfl ?_
                exact hrec4 _ _
              · refine sw_ald_6_0 (np := 136) dX9_isTouched_135 rfl ?_
                refine sw_ald_6_0 (np := 137) dX9_isTouched_136 rfl ?_
                refine sw_gR (np := 140) sw_f_RX9_31 sw_k_105 sw_r_105_17 dX9_isTouched_137 rfl ?_
                refine sw_ild_6_3 (np := 141) dX9_isTouched_140 rfl ?_
                refine sw_iald (np := 142) sw_k_113 sw_n_113 dX9_isTouched_141 rfl ?_
                refine sw_cV1i (np := 145) (hX9_isAwake (d := d - 1) (by omega) ) sw_mv_X9_isAwake sw_k_105 sw_wl_RX9_214 dX9_isTouched_142 (sw_fit_rm (by omega) (by decide)) (Nat.le_of_ble_eq_true rfl) rfl (fun r3 S10 => ?_)
                refine sw_if_eq (np := 148) (tp := 171) dX9_isTouched_145 rfl rfl ?_ ?_
                · refine sw_ald_6_0 (np := 172) dX9_isTouched_171 rfl ?_
                  refine sw_gR (np := 175) sw_f_RX9_40 sw_k_105 sw_r_105_22 dX9_isTouched_172 rfl ?_
                  refine sw_ild_6_5 (np := 177) dX9_isTouched_175 rfl ?_
                  refine sw_iald (np := 178) sw_k_116 sw_n_116 dX9_isTouched_177 rfl ?_
                  refine sw_sI (np := 179) sw_k_116 sw_n_116 dX9_isTouched_178 rfl (fun S11 => ?_)
                  refine sw_inc_6_5 (np := 182) dX9_isTouched_179 sw_ic_1 rfl rfl ?_
                  refine sw_goto (tp := 117) dX9_isTouched_182 rfl ?_
                  exact hrec4 _ _
                · refine sw_ild_6_3 (np := 149) dX9_isTouched_148 rfl ?_
                  refine sw_ild_6_5 (np := 151) dX9_isTouched_149 rfl ?_
                  refine sw_cS2i (np := 154) (hX9_areBeside (d := d - 1) (by omega) ) sw_ms_X9_areBeside sw_wl_RX9_210 dX9_isTouched_151 (sw_fit_rm (by omega) (by decide)) (Nat.le_of_ble_eq_true rfl) rfl (fun r4 S12 => ?_)
                  refine sw_if_eq (np := 157) (tp := 171) dX9_isTouched_154 rfl rfl ?_ ?_
                  · refine sw_ald_6_0 (np := 172) dX9_isTouched_171 rfl ?_
                    refine sw_gR (np := 175) sw_f_RX9_40 sw_k_105 sw_r_105_22 dX9_isTouched_172 rfl ?_
                    refine sw_ild_6_5 (np := 177) dX9_isTouched_175 rfl ?_
                    refine sw_iald (np := 178) sw_k_116 sw_n_116 dX9_isTouched_177 rfl ?_
                    refine sw_sI (np := 179) sw_k_116 sw_n_116 dX9_isTouched_178 rfl (fun S13 => ?_)
                    refine sw_inc_6_5 (np := 182) dX9_isTouched_179 sw_ic_1 rfl rfl ?_
                    refine sw_goto (tp := 117) dX9_isTouched_182 rfl ?_
                    exact hrec4 _ _
                  · refine sw_ald_6_0 (np := 158) dX9_isTouched_157 rfl ?_
                    refine sw_gR (np := 161) sw_f_RX9_40 sw_k_105 sw_r_105_22 dX9_isTouched_158 rfl ?_
                    refine sw_ild_6_5 (np := 163) dX9_isTouched_161 rfl ?_
                    refine sw_iald (np := 164) sw_k_116 sw_n_116 dX9_isTouched_163 rfl ?_
                    refine sw_if_ne (np := 167) (tp := 171) dX9_isTouched_164 rfl rfl ?_ ?_
                    · refine sw_ald_6_0 (np := 172) dX9_isTouched_171 rfl ?_
                      refine sw_gR (np := 175) sw_f_RX9_40 sw_k_105 sw_r_105_22 dX9_isTouched_172 rfl ?_
                      refine sw_ild_6_5 (np := 177) dX9_isTouched_175 rfl ?_
                      refine sw_iald (np := 178) sw_k_116 sw_n_116 dX9_isTouched_177 rfl ?_
                      refine sw_sI (np := 179) sw_k_116 sw_n_116 dX9_isTouched_178 rfl (fun S14 => ?_)
                      refine sw_inc_6_5 (np := 182) dX9_isTouched_179 sw_ic_1 rfl rfl ?_
                      refine sw_goto (tp := 117) dX9_isTouched_182 rfl ?_
                      exact hrec4 _ _
                    · refine sw_iconst (np := 168) dX9_isTouched_167 sw_ic_1 rfl ?_
                      refine sw_goto (tp := 178) dX9_isTouched_168 rfl ?_
                      refine sw_sI (np := 179) sw_k_116 sw_n_116 dX9_isTouched_178 rfl (fun S15 => ?_)
                      refine sw_inc_6_5 (np := 182) dX9_isTouched_179 sw_ic_1 rfl rfl ?_
                      refine sw_goto (tp := 117) dX9_isTouched_182 rfl ?_
                      exact hrec4 _ _
  · refine sw_ald_6_0 (np := 9) dX9_isTouched_8 rfl ?_
    refine sw_gR (np := 12) sw_f_RX9_40 sw_k_105 sw_r_105_22 dX9_isTouched_9 rfl ?_
    refine sw_ild_6_2 (np := 13) dX9_isTouched_12 rfl ?_
    refine sw_ild_6_2 (np := 14) dX9_isTouched_13 rfl ?_
    refine sw_ild_6_1 (np := 15) dX9_isTouched_14 rfl ?_
    refine sw_icmp_ne (np := 18) (tp := 22) dX9_isTouched_15 rfl rfl ?_ ?_
    · refine sw_iconst (np := 23) dX9_isTouched_22 sw_ic_0 rfl ?_
      refine sw_sI (np := 24) sw_k_116 sw_n_116 dX9_isTouched_23 rfl (fun S16 => ?_)
      refine sw_inc_6_2 (np := 27) dX9_isTouched_24 sw_ic_1 rfl rfl ?_
      refine sw_goto (tp := 2) dX9_isTouched_27 rfl ?_
      exact hrec1 _ _
    · refine sw_iconst (np := 19) dX9_isTouched_18 sw_ic_1 rfl ?_
      refine sw_goto (tp := 23) dX9_isTouched_19 rfl ?_
      refine sw_sI (np := 24) sw_k_116 sw_n_116 dX9_isTouched_23 rfl (fun S17 => ?_)
      refine sw_inc_6_2 (np := 27) dX9_isTouched_24 sw_ic_1 rfl rfl ?_
      refine sw_goto (tp := 2) dX9_isTouched_27 rfl ?_
      exact hrec1 _ _
/-- SwordAtticModel.bytesIs(I)I -/
def fX9_bytesIs (N : Nat) (p1 : Int32) (S : sw_St) : Option (Int32 × sw_St) :=
  sw_bd (fX9_isShelf N p1 S) (fun r1 S1 => (if r1 = 0 then (some ((-1 : Int32), S1)) else (sw_gd (sw_in p1 6) (if (S1.1 124 p1.toNatClampNeg) ≥ 0 then (sw_gd (sw_in p1 6) (if (S1.1 124 p1.toNatClampNeg) = (50 : Int32) then (some ((1 : Int32), S1)) else (some ((-12 : Int32), S1)))) else (some ((-11 : Int32), S1))))))
theorem hX9_bytesIs {G : sw_G} {N d : Nat} (hd : 3 ≤ d) {p1 : Int32}  {S : sw_St} : sw_Ev G yX9_bytesIs cX9_bytesIs 2 (some .int) d sw_ei [sw_vr G 105, .int p1] S (fX9_bytesIs N p1 S) := by
  refine sw_Ev_of (own := RX9) (lv0 := [some (sw_vr G 105), some (.int p1)]) (by decide) rfl (Nat.le_of_ble_eq_true rfl) rfl ?_
  unfold fX9_bytesIs
  refine sw_ild_2_1 (np := 1) dX9_bytesIs_0 rfl ?_
  refine sw_cS1i (np := 4) (hX9_isShelf (d := d - 1) (by omega) ) sw_ms_X9_isShelf sw_wl_RX9_119 dX9_bytesIs_1 (sw_fit_rm (by omega) (by decide)) (Nat.le_of_ble_eq_true rfl) rfl (fun r1 S1 => ?_)
  refine sw_if_ne (np := 7) (tp := 11) dX9_bytesIs_4 rfl rfl ?_ ?_
  · refine sw_ald_2_0 (np := 12) dX9_bytesIs_11 rfl ?_
    refine sw_gR (np := 15) sw_f_RX9_64 sw_k_105 sw_r_105_38 dX9_bytesIs_12 rfl ?_
    refine sw_ild_2_1 (np := 16) dX9_bytesIs_15 rfl ?_
    refine sw_iald (np := 17) sw_k_124 sw_n_124 dX9_bytesIs_16 rfl ?_
    refine sw_if_ge (np := 20) (tp := 25) dX9_bytesIs_17 rfl rfl ?_ ?_
    · refine sw_ald_2_0 (np := 26) dX9_bytesIs_25 rfl ?_
      refine sw_gR (np := 29) sw_f_RX9_64 sw_k_105 sw_r_105_38 dX9_bytesIs_26 rfl ?_
      refine sw_ild_2_1 (np := 30) dX9_bytesIs_29 rfl ?_
      refine sw_iald (np := 31) sw_k_124 sw_n_124 dX9_bytesIs_30 rfl ?_
      refine sw_bipush (np := 33) dX9_bytesIs_31 sw_bc_50 rfl ?_
      refine sw_icmp_ne (np := 36) (tp := 40) dX9_bytesIs_33 rfl rfl ?_ ?_
      · refine sw_bipush (np := 42) dX9_bytesIs_40 sw_bc_m12 rfl ?_
        exact sw_iret dX9_bytesIs_42
      · refine sw_iconst (np := 37) dX9_bytesIs_36 sw_ic_1 rfl ?_
        refine sw_goto (tp := 42) dX9_bytesIs_37 rfl ?_
        exact sw_iret dX9_bytesIs_42
    · refine sw_bipush (np := 22) dX9_bytesIs_20 sw_bc_m11 rfl ?_
      refine sw_goto (tp := 42) dX9_bytesIs_22 rfl ?_
      exact sw_iret dX9_bytesIs_42
  · refine sw_iconst (np := 8) dX9_bytesIs_7 sw_ic_m1 rfl ?_
    refine sw_goto (tp := 42) dX9_bytesIs_8 rfl ?_
    exact sw_iret dX9_bytesIs_42
/-- SwordAtticModel.hourMany(I)I -/
def fX9_hourMany (N : Nat) (p1 : Int32) (S : sw_St) : Option (Int32 × sw_St) :=
  sw_fx1 (fun rec1 x2_1 S1 => (if x2_1 ≥ (24 : Int32) then (some (x2_1, S1)) else (sw_gd (sw_in p1 6) (if x2_1 ≥ (S1.1 125 p1.toNatClampNeg) then (some (x2_1, S1)) else (sw_gd (sw_in (((60 : Int32) * p1) + x2_1) 360) (sw_bd (fX9_isCot N (S1.2 126 (((60 : Int32) * p1) + x2_1).toNatClampNeg) S1) (fun r1 S2 => (if r1 = 0 then (some (x2_1, S2)) else (rec1 (x2_1 + (1 : Int32)) S2))))))))) N (0 : Int32) S
theorem hX9_hourMany {G : sw_G} {N d : Nat} (hd : 3 ≤ d) {p1 : Int32}  {S : sw_St} : sw_Ev G yX9_hourMany cX9_hourMany 3 (some .int) d sw_ei [sw_vr G 105, .int p1] S (fX9_hourMany N p1 S) := by
  refine sw_Ev_of (own := RX9) (lv0 := [some (sw_vr G 105), some (.int p1), none]) (by decide) rfl (Nat.le_of_ble_eq_true rfl) rfl ?_
  unfold fX9_hourMany
  refine sw_iconst (np := 1) dX9_hourMany_0 sw_ic_0 rfl ?_
  refine sw_ist_3_2 (np := 2) dX9_hourMany_1 rfl rfl ?_
  refine sw_lp1 (lv := fun x2_1 => [some (sw_vr G 105), some (.int p1), some (.int x2_1)]) (fun rec1 hrec1 x2_1 S1 => ?_) _ _ _
  refine sw_ild_3_2 (np := 3) dX9_hourMany_2 rfl ?_
  refine sw_bipush (np := 5) dX9_hourMany_3 sw_bc_24 rfl ?_
  refine sw_icmp_ge (np := 8) (tp := 41) dX9_hourMany_5 rfl rfl ?_ ?_
  · refine sw_ild_3_2 (np := 42) dX9_hourMany_41 rfl ?_
    exact sw_iret dX9_hourMany_42
  · refine sw_ild_3_2 (np := 9) dX9_hourMany_8 rfl ?_
    refine sw_ald_3_0 (np := 10) dX9_hourMany_9 rfl ?_
    refine sw_gR (np := 13) sw_f_RX9_67 sw_k_105 sw_r_105_39 dX9_hourMany_10 rfl ?_
    refine sw_ild_3_1 (np := 14) dX9_hourMany_13 rfl ?_
    refine sw_iald (np := 15) sw_k_125 sw_n_125 dX9_hourMany_14 rfl ?_
    refine sw_icmp_ge (np := 18) (tp := 41) dX9_hourMany_15 rfl rfl ?_ ?_
    · refine sw_ild_3_2 (np := 42) dX9_hourMany_41 rfl ?_
      exact sw_iret dX9_hourMany_42
    · refine sw_ald_3_0 (np := 19) dX9_hourMany_18 rfl ?_
      refine sw_gR (np := 22) sw_f_RX9_70 sw_k_105 sw_r_105_40 dX9_hourMany_19 rfl ?_
      refine sw_bipush (np := 24) dX9_hourMany_22 sw_bc_60 rfl ?_
      refine sw_ild_3_1 (np := 25) dX9_hourMany_24 rfl ?_
      refine sw_imul (np := 26) dX9_hourMany_25 rfl ?_
      refine sw_ild_3_2 (np := 27) dX9_hourMany_26 rfl ?_
      refine sw_iadd (np := 28) dX9_hourMany_27 rfl ?_
      refine sw_lald (np := 29) sw_k_126 sw_n_126 dX9_hourMany_28 rfl ?_
      refine sw_cS1i (np := 32) (hX9_isCot (d := d - 1) (by omega) ) sw_ms_X9_isCot sw_wl_RX9_104 dX9_hourMany_29 (sw_fit_rm (by omega) (by decide)) (Nat.le_of_ble_eq_true rfl) rfl (fun r1 S2 => ?_)
      refine sw_if_eq (np := 35) (tp := 41) dX9_hourMany_32 rfl rfl ?_ ?_
      · refine sw_ild_3_2 (np := 42) dX9_hourMany_41 rfl ?_
        exact sw_iret dX9_hourMany_42
      · refine sw_inc_3_2 (np := 38) dX9_hourMany_35 sw_ic_1 rfl rfl ?_
        refine sw_goto (tp := 2) dX9_hourMany_38 rfl ?_
        exact hrec1 _ _
/-- SwordAtticModel.goesNext(II)V -/
def fX9_goesNext (N : Nat) (p1 : Int32) (p2 : Int32) (S : sw_St) : Option (Unit × sw_St) :=
  sw_gd (sw_in (((60 : Int32) * p1) + p2) 360) (sw_ls (sw_si S 105 20 ((S.2 126 (((60 : Int32) * p1) + p2).toNatClampNeg).toInt32)) (fun S1 => (sw_bd (fX9_goesHour N S1) (fun _ S2 => (some ((), S2))))))
theorem hX9_goesNext {G : sw_G} {N d : Nat} (hd : 107 ≤ d) {p1 : Int32} {p2 : Int32}  {S : sw_St} : sw_Ev G yX9_goesNext cX9_goesNext 3 none d sw_ev [sw_vr G 105, .int p1, .int p2] S (fX9_goesNext N p1 p2 S) := by
  refine sw_Ev_of (own := RX9) (lv0 := [some (sw_vr G 105), some (.int p1), some (.int p2)]) (by decide) rfl (Nat.le_of_ble_eq_true rfl) rfl ?_
  unfold fX9_goesNext
  refine sw_ald_3_0 (np := 1) dX9_goesNext_0 rfl ?_
  refine sw_ald_3_0 (np := 2) dX9_goesNext_1 rfl ?_
  refine sw_gR (np := 5) sw_f_RX9_70 sw_k_105 sw_r_105_40 dX9_goesNext_2 rfl ?_
  refine sw_bipush (np := 7) dX9_goesNext_5 sw_bc_60 rfl ?_
  refine sw_ild_3_1 (np := 8) dX9_goesNext_7 rfl ?_
  refine sw_imul (np := 9) dX9_goesNext_8 rfl ?_
  refine sw_ild_3_2 (np := 10) dX9_goesNext_9 rfl ?_
  refine sw_iadd (np := 11) dX9_goesNext_10 rfl ?_
  refine sw_lald (np := 12) sw_k_126 sw_n_126 dX9_goesNext_11 rfl ?_
  refine sw_l2i (np := 13) dX9_goesNext_12 rfl ?_
  refine sw_pI (np := 16) sw_f_RX9_204 sw_fp_9_20 sw_k_105 dX9_goesNext_13 rfl (fun S1 => ?_)
  refine sw_ald_3_0 (np := 17) dX9_goesNext_16 rfl ?_
  refine sw_cV0v (np := 20) (hX9_goesHour (d := d - 1) (by omega) ) sw_mv_X9_goesHour sw_k_105 sw_wl_RX9_236 dX9_goesNext_17 (sw_fit_rm (by omega) (by decide)) (Nat.le_of_ble_eq_true rfl) rfl (fun _ S2 => ?_)
  exact sw_vret dX9_goesNext_20
/-- SwordAtticModel.goesRound(II)V -/
def fX9_goesRound (N : Nat) (p1 : Int32) (p2 : Int32) (S : sw_St) : Option (Unit × sw_St) :=
  sw_bd (fX9_begins N S) (fun _ S1 => (sw_bd (fX9_hourMany N p1 S1) (fun r2 S2 => (sw_fx1 (fun rec1 x4_1 S3 => (if x4_1 ≥ p2 then (some ((), S3)) else (if x4_1 ≥ r2 then (some ((), S3)) else (sw_bd (fX9_goesNext N p1 x4_1 S3) (fun _ S4 => (rec1 (x4_1 + (1 : Int32)) S4)))))) N (0 : Int32) S2))))
theorem hX9_goesRound {G : sw_G} {N d : Nat} (hd : 108 ≤ d) {p1 : Int32} {p2 : Int32}  {S : sw_St} : sw_Ev G yX9_goesRound cX9_goesRound 5 none d sw_ev [sw_vr G 105, .int p1, .int p2] S (fX9_goesRound N p1 p2 S) := by
  refine sw_Ev_of (own := RX9) (lv0 := [some (sw_vr G 105), some (.int p1), some (.int p2), none, none]) (by decide) rfl (Nat.le_of_ble_eq_true rfl) rfl ?_
  unfold fX9_goesRound
  refine sw_ald_5_0 (np := 1) dX9_goesRound_0 rfl ?_
  refine sw_cV0v (np := 4) (hX9_begins (d := d - 1) (by omega) ) sw_mv_X9_begins sw_k_105 sw_wl_RX9_233 dX9_goesRound_1 (sw_fit_rm (by omega) (by decide)) (Nat.le_of_ble_eq_true rfl) rfl (fun _ S1 => ?_)
  refine sw_ald_5_0 (np := 5) dX9_goesRound_4 rfl ?_
  refine sw_ild_5_1 (np := 6) dX9_goesRound_5 rfl ?_
  refine sw_cV1i (np := 9) (hX9_hourMany (d := d - 1) (by omega) ) sw_mv_X9_hourMany sw_k_105 sw_wl_RX9_239 dX9_goesRound_6 (sw_fit_rm (by omega) (by decide)) (Nat.le_of_ble_eq_true rfl) rfl (fun r2 S2 => ?_)
  refine sw_ist_5_3 (np := 10) dX9_goesRound_9 rfl rfl ?_
  refine sw_iconst (np := 11) dX9_goesRound_10 sw_ic_0 rfl ?_
  refine sw_ist_5_4 (np := 13) dX9_goesRound_11 rfl rfl ?_
  refine sw_lp1 (lv := fun x4_1 => [some (sw_vr G 105), some (.int p1), some (.int p2), some (.int r2), some (.int x4_1)]) (fun rec1 hrec1 x4_1 S3 => ?_) _ _ _
  refine sw_ild_5_4 (np := 15) dX9_goesRound_13 rfl ?_
  refine sw_ild_5_2 (np := 16) dX9_goesRound_15 rfl ?_
  refine sw_icmp_ge (np := 19) (tp := 38) dX9_goesRound_16 rfl rfl ?_ ?_
  · exact sw_vret dX9_goesRound_38
  · refine sw_ild_5_4 (np := 21) dX9_goesRound_19 rfl ?_
    refine sw_ild_5_3 (np := 22) dX9_goesRound_21 rfl ?_
    refine sw_icmp_ge (np := 25) (tp := 38) dX9_goesRound_22 rfl rfl ?_ ?_
    · exact sw_vret dX9_goesRound_38
    · refine sw_ald_5_0 (np := 26) dX9_goesRound_25 rfl ?_
      refine sw_ild_5_1 (np := 27) dX9_goesRound_26 rfl ?_
      refine sw_ild_5_4 (np := 29) dX9_goesRound_27 rfl ?_
      refine sw_cV2v (np := 32) (hX9_goesNext (d := d - 1) (by omega) ) sw_mv_X9_goesNext sw_k_105 sw_wl_RX9_242 dX9_goesRound_29 (sw_fit_rm (by omega) (by decide)) (Nat.le_of_ble_eq_true rfl) rfl (fun _ S4 => ?_)
      refine sw_inc_5_4 (np := 35) dX9_goesRound_32 sw_ic_1 rfl rfl ?_
      refine sw_goto (tp := 13) dX9_goesRound_35 rfl ?_
      exact hrec1 _ _
/-- SwordAtticModel.later(III)I -/
def fX9_later (N : Nat) (p1 : Int32) (p2 : Int32) (p3 : Int32) (S : sw_St) : Option (Int32 × sw_St) :=
  sw_bd (fX9_bytesIs N p1 S) (fun r1 S1 => (if r1 = (-1 : Int32) then (some ((-1 : Int32), S1)) else (sw_bd (fX9_within N p2.toInt64 (0 : Int64) (24 : Int64) S1) (fun r2 S2 => (if r2 = 0 then (some ((-1 : Int32), S2)) else (sw_bd (fX9_isSword N p3.toInt64 S2) (fun r3 S3 => (if r3 = 0 then (some ((-1 : Int32), S3)) else (sw_bd (fX9_bytesIs N p1 S3) (fun r4 S4 => (if r4 ≥ 0 then (sw_bd (fX9_goesRound N p1 p2 S4) (fun _ S5 => (sw_gd (sw_in p3 10) (some ((S5.1 114 p3.toNatClampNeg), S5))))) else (sw_bd (fX9_bytesIs N p1 S4) (fun r6 S6 => (some (r6, S6)))))))))))))))
theorem hX9_later {G : sw_G} {N d : Nat} (hd : 109 ≤ d) {p1 : Int32} {p2 : Int32} {p3 : Int32}  {S : sw_St} : sw_Ev G yX9_later cX9_later 4 (some .int) d sw_ei [sw_vr G 105, .int p1, .int p2, .int p3] S (fX9_later N p1 p2 p3 S) := by
  refine sw_Ev_of (own := RX9) (lv0 := [some (sw_vr G 105), some (.int p1), some (.int p2), some (.int p3)]) (by decide) rfl (Nat.le_of_ble_eq_true rfl) rfl ?_
  unfold fX9_later
  refine sw_ald_4_0 (np := 1) dX9_later_0 rfl ?_
  refine sw_ild_4_1 (np := 2) dX9_later_1 rfl ?_
  refine sw_cV1i (np := 5) (hX9_bytesIs (d := d - 1) (by omega) ) sw_mv_X9_bytesIs sw_k_105 sw_wl_RX9_245 dX9_later_2 (sw_fit_rm (by omega) (by decide)) (Nat.le_of_ble_eq_true rfl) rfl (fun r1 S1 => ?_)
  refine sw_iconst (np := 6) dX9_later_5 sw_ic_m1 rfl ?_
  refine sw_icmp_eq (np := 9) (tp := 30) dX9_later_6 rfl rfl ?_ ?_
  · refine sw_iconst (np := 31) dX9_later_30 sw_ic_m1 rfl ?_
    exact sw_iret dX9_later_31
  · refine sw_ild_4_2 (np := 10) dX9_later_9 rfl ?_
    refine sw_i2l (np := 11) dX9_later_10 rfl ?_
    refine sw_lconst (np := 12) dX9_later_11 sw_lc_0 rfl ?_
    refine sw_ldc2 (np := 15) sw_wc_RX9_248 dX9_later_12 rfl ?_
    refine sw_cS3i (np := 18) (hX9_within (d := d - 1) (by omega) ) sw_ms_X9_within sw_wl_RX9_98 dX9_later_15 (sw_fit_rm (by omega) (by decide)) (Nat.le_of_ble_eq_true rfl) rfl (fun r2 S2 => ?_)
    refine sw_if_eq (np := 21) (tp := 30) dX9_later_18 rfl rfl ?_ ?_
    · refine sw_iconst (np := 31) dX9_later_30 sw_ic_m1 rfl ?_
      exact sw_iret dX9_later_31
    · refine sw_ald_4_0 (np := 22) dX9_later_21 rfl ?_
      refine sw_ild_4_3 (np := 23) dX9_later_22 rfl ?_
      refine sw_i2l (np := 24) dX9_later_23 rfl ?_
      refine sw_cV1i (np := 27) (hX9_isSword (d := d - 1) (by omega) ) sw_mv_X9_isSword sw_k_105 sw_wl_RX9_127 dX9_later_24 (sw_fit_rm (by omega) (by decide)) (Nat.le_of_ble_eq_true rfl) rfl (fun r3 S3 => ?_)
      refine sw_if_ne (np := 30) (tp := 32) dX9_later_27 rfl rfl ?_ ?_
      · refine sw_ald_4_0 (np := 33) dX9_later_32 rfl ?_
        refine sw_ild_4_1 (np := 34) dX9_later_33 rfl ?_
        refine sw_cV1i (np := 37) (hX9_bytesIs (d := d - 1) (by omega) ) sw_mv_X9_bytesIs sw_k_105 sw_wl_RX9_245 dX9_later_34 (sw_fit_rm (by omega) (by decide)) (Nat.le_of_ble_eq_true rfl) rfl (fun r4 S4 => ?_)
        refine sw_if_ge (np := 40) (tp := 46) dX9_later_37 rfl rfl ?_ ?_
        · refine sw_ald_4_0 (np := 47) dX9_later_46 rfl ?_
          refine sw_ild_4_1 (np := 48) dX9_later_47 rfl ?_
          refine sw_ild_4_2 (np := 49) dX9_later_48 rfl ?_
          refine sw_cV2v (np := 52) (hX9_goesRound (d := d - 1) (by omega) ) sw_mv_X9_goesRound sw_k_105 sw_wl_RX9_250 dX9_later_49 (sw_fit_rm (by omega) (by decide)) (Nat.le_of_ble_eq_true rfl) rfl (fun _ S5 => ?_)
          refine sw_ald_4_0 (np := 53) dX9_later_52 rfl ?_
          refine sw_gR (np := 56) sw_f_RX9_34 sw_k_105 sw_r_105_18 dX9_later_53 rfl ?_
          refine sw_ild_4_3 (np := 57) dX9_later_56 rfl ?_
          refine sw_iald (np := 58) sw_k_114 sw_n_114 dX9_later_57 rfl ?_
          exact sw_iret dX9_later_58
        · refine sw_ald_4_0 (np := 41) dX9_later_40 rfl ?_
          refine sw_ild_4_1 (np := 42) dX9_later_41 rfl ?_
          refine sw_cV1i (np := 45) (hX9_bytesIs (d := d - 1) (by omega) ) sw_mv_X9_bytesIs sw_k_105 sw_wl_RX9_245 dX9_later_42 (sw_fit_rm (by omega) (by decide)) (Nat.le_of_ble_eq_true rfl) rfl (fun r6 S6 => ?_)
          exact sw_iret dX9_later_45
      · refine sw_iconst (np := 31) dX9_later_30 sw_ic_m1 rfl ?_
        exact sw_iret dX9_later_31
/-- SwordAtticModel.awake(III)I -/
def fX9_awake (N : Nat) (p1 : Int32) (p2 : Int32) (p3 : Int32) (S : sw_St) : Option (Int32 × sw_St) :=
  sw_bd (fX9_bytesIs N p1 S) (fun r1 S1 => (if r1 = (-1 : Int32) then (some ((-1 : Int32), S1)) else (sw_bd (fX9_within N p2.toInt64 (0 : Int64) (24 : Int64) S1) (fun r2 S2 => (if r2 = 0 then (some ((-1 : Int32), S2)) else (sw_bd (fX9_within N p3.toInt64 (0 : Int64) (1 : Int64) S2) (fun r3 S3 => (if r3 = 0 then (some ((-1 : Int32), S3)) else (sw_bd (fX9_bytesIs N p1 S3) (fun r4 S4 => (if r4 ≥ 0 then (sw_bd (fX9_goesRound N p1 p2 S4) (fun _ S5 => (if p3 = 0 then (sw_bd (fX9_awakeSet N S5) (fun r7 S7 => (some (r7, S7)))) else (sw_bd (fX9_mindAll N S5) (fun r6 S6 => (some (r6, S6))))))) else (sw_bd (fX9_bytesIs N p1 S4) (fun r8 S8 => (some (r8, S8)))))))))))))))
theorem hX9_awake {G : sw_G} {N d : Nat} (hd : 109 ≤ d) {p1 : Int32} {p2 : Int32} {p3 : Int32}  {S : sw_St} : sw_Ev G yX9_awake cX9_awake 4 (some .int) d sw_ei [sw_vr G 105, .int p1, .int p2, .int p3] S (fX9_awake N p1 p2 p3 S) := by
  refine sw_Ev_of (own := RX9) (lv0 := [some (sw_vr G 105), some (.int p1), some (.int p2), some (.int p3)]) (by decide) rfl (Nat.le_of_ble_eq_true rfl) rfl ?_
  unfold fX9_awake
  refine sw_ald_4_0 (np := 1) dX9_awake_0 rfl ?_
  refine sw_ild_4_1 (np := 2) dX9_awake_1 rfl ?_
  refine sw_cV1i (np := 5) (hX9_bytesIs (d := d - 1) (by omega) ) sw_mv_X9_bytesIs sw_k_105 sw_wl_RX9_245 dX9_awake_2 (sw_fit_rm (by omega) (by decide)) (Nat.le_of_ble_eq_true rfl) rfl (fun r1 S1 => ?_)
  refine sw_iconst (np := 6) dX9_awake_5 sw_ic_m1 rfl ?_
  refine sw_icmp_eq (np := 9) (tp := 31) dX9_awake_6 rfl rfl ?_ ?_
  · refine sw_iconst (np := 32) dX9_awake_31 sw_ic_m1 rfl ?_
    exact sw_iret dX9_awake_32
  · refine sw_ild_4_2 (np := 10) dX9_awake_9 rfl ?_
    refine sw_i2l (np := 11) dX9_awake_10 rfl ?_
    refine sw_lconst (np := 12) dX9_awake_11 sw_lc_0 rfl ?_
    refine sw_ldc2 (np := 15) sw_wc_RX9_248 dX9_awake_12 rfl ?_
    refine sw_cS3i (np := 18) (hX9_within (d := d - 1) (by omega) ) sw_ms_X9_within sw_wl_RX9_98 dX9_awake_15 (sw_fit_rm (by omega) (by decide)) (Nat.le_of_ble_eq_true rfl) rfl (fun r2 S2 => ?_)
    refine sw_if_eq (np := 21) (tp := 31) dX9_awake_18 rfl rfl ?_ ?_
    · refine sw_iconst (np := 32) dX9_awake_31 sw_ic_m1 rfl ?_
      exact sw_iret dX9_awake_32
    · refine sw_ild_4_3 (np := 22) dX9_awake_21 rfl ?_
      refine sw_i2l (np := 23) dX9_awake_22 rfl ?_
      refine sw_lconst (np := 24) dX9_awake_23 sw_lc_0 rfl ?_
      refine sw_lconst (np := 25) dX9_awake_24 sw_lc_1 rfl ?_
      refine sw_cS3i (np := 28) (hX9_within (d := d - 1) (by omega) ) sw_ms_X9_within sw_wl_RX9_98 dX9_awake_25 (sw_fit_rm (by omega) (by decide)) (Nat.le_of_ble_eq_true rfl) rfl (fun r3 S3 => ?_)
      refine sw_if_ne (np := 31) (tp := 33) dX9_awake_28 rfl rfl ?_ ?_
      · refine sw_ald_4_0 (np := 34) dX9_awake_33 rfl ?_
        refine sw_ild_4_1 (np := 35) dX9_awake_34 rfl ?_
        refine sw_cV1i (np := 38) (hX9_bytesIs (d := d - 1) (by omega) ) sw_mv_X9_bytesIs sw_k_105 sw_wl_RX9_245 dX9_awake_35 (sw_fit_rm (by omega) (by decide)) (Nat.le_of_ble_eq_true rfl) rfl (fun r4 S4 => ?_)
        refine sw_if_ge (np := 41) (tp := 47) dX9_awake_38 rfl rfl ?_ ?_
        · refine sw_ald_4_0 (np := 48) dX9_awake_47 rfl ?_
          refine sw_ild_4_1 (np := 49) dX9_awake_48 rfl ?_
          refine sw_ild_4_2 (np := 50) dX9_awake_49 rfl ?_
          refine sw_cV2v (np := 53) (hX9_goesRound (d := d - 1) (by omega) ) sw_mv_X9_goesRound sw_k_105 sw_wl_RX9_250 dX9_awake_50 (sw_fit_rm (by omega) (by decide)) (Nat.le_of_ble_eq_true rfl) rfl (fun _ S5 => ?_)
          refine sw_ild_4_3 (np := 54) dX9_awake_53 rfl ?_
          refine sw_if_ne (np := 57) (tp := 64) dX9_awake_54 rfl rfl ?_ ?_
          · refine sw_ald_4_0 (np := 65) dX9_awake_64 rfl ?_
            refine sw_cV0i (np := 68) (hX9_mindAll (d := d - 1) (by omega) ) sw_mv_X9_mindAll sw_k_105 sw_wl_RX9_253 dX9_awake_65 (sw_fit_rm (by omega) (by decide)) (Nat.le_of_ble_eq_true rfl) rfl (fun r6 S6 => ?_)
            exact sw_iret dX9_awake_68
          · refine sw_ald_4_0 (np := 58) dX9_awake_57 rfl ?_
            refine sw_cV0i (np := 61) (hX9_awakeSet (d := d - 1) (by omega) ) sw_mv_X9_awakeSet sw_k_105 sw_wl_RX9_226 dX9_awake_58 (sw_fit_rm (by omega) (by decide)) (Nat.le_of_ble_eq_true rfl) rfl (fun r7 S7 => ?_)
            refine sw_goto (tp := 68) dX9_awake_61 rfl ?_
            exact sw_iret dX9_awake_68
        · refine sw_ald_4_0 (np := 42) dX9_awake_41 rfl ?_
          refine sw_ild_4_1 (np := 43) dX9_awake_42 rfl ?_
          refine sw_cV1i (np := 46) (hX9_bytesIs (d := d - 1) (by omega) ) sw_mv_X9_bytesIs sw_k_105 sw_wl_RX9_245 dX9_awake_43 (sw_fit_rm (by omega) (by decide)) (Nat.le_of_ble_eq_true rfl) rfl (fun r8 S8 => ?_)
          exact sw_iret dX9_awake_46
      · refine sw_iconst (np := 32) dX9_awake_31 sw_ic_m1 rfl ?_
        exact sw_iret dX9_awake_32
/-- SwordAtticModel.cries(III)I -/
def fX9_cries (N : Nat) (p1 : Int32) (p2 : Int32) (p3 : Int32) (S : sw_St) : Option (Int32 × sw_St) :=
  sw_bd (fX9_bytesIs N p1 S) (fun r1 S1 => (if r1 = (-1 : Int32) then (some ((-1 : Int32), S1)) else (sw_bd (fX9_isSword N p2.toInt64 S1) (fun r2 S2 => (if r2 = 0 then (some ((-1 : Int32), S2)) else (sw_bd (fX9_within N p3.toInt64 (0 : Int64) (99 : Int64) S2) (fun r3 S3 => (if r3 = 0 then (some ((-1 : Int32), S3)) else (sw_bd (fX9_bytesIs N p1 S3) (fun r4 S4 => (if r4 ≥ 0 then (sw_fx1 (fun rec1 x4_1 S5 => (sw_bd (fX9_hourMany N p1 S5) (fun r5 S6 => (if x4_1 > r5 then (some ((-2 : Int32), S6)) else (sw_bd (fX9_goesRound N p1 x4_1 S6) (fun _ S7 => (sw_gd (sw_in p2 10) (if (S7.1 114 p2.toNatClampNeg) < p3 then (rec1 (x4_1 + (1 : Int32)) S7) else (some (x4_1, S7)))))))))) N (0 : Int32) S4) else (sw_bd (fX9_bytesIs N p1 S4) (fun r7 S8 => (some (r7, S8)))))))))))))))
theorem hX9_cries {G : sw_G} {N d : Nat} (hd : 109 ≤ d) {p1 : Int32} {p2 : Int32} {p3 : Int32}  {S : sw_St} : sw_Ev G yX9_cries cX9_cries 5 (some .int) d sw_ei [sw_vr G 105, .int p1, .int p2, .int p3] S (fX9_cries N p1 p2 p3 S) := by
  refine sw_Ev_of (own := RX9) (lv0 := [some (sw_vr G 105), some (.int p1), some (.int p2), some (.int p3), none]) (by decide) rfl (Nat.le_of_ble_eq_true rfl) rfl ?_
  unfold fX9_cries
  refine sw_ald_5_0 (np := 1) dX9_cries_0 rfl ?_
  refine sw_ild_5_1 (np := 2) dX9_cries_1 rfl ?_
  refine sw_cV1i (np := 5) (hX9_bytesIs (d := d - 1) (by omega) ) sw_mv_X9_bytesIs sw_k_105 sw_wl_RX9_245 dX9_cries_2 (sw_fit_rm (by omega) (by decide)) (Nat.le_of_ble_eq_true rfl) rfl (fun r1 S1 => ?_)
  refine sw_iconst (np := 6) dX9_cries_5 sw_ic_m1 rfl ?_
  refine sw_icmp_eq (np := 9) (tp := 30) dX9_cries_6 rfl rfl ?_ ?_
  · refine sw_iconst (np := 31) dX9_cries_30 sw_ic_m1 rfl ?_
    exact sw_iret dX9_cries_31
  · refine sw_ald_5_0 (np := 10) dX9_cries_9 rfl ?_
    refine sw_ild_5_2 (np := 11) dX9_cries_10 rfl ?_
    refine sw_i2l (np := 12) dX9_cries_11 rfl ?_
    refine sw_cV1i (np := 15) (hX9_isSword (d := d - 1) (by omega) ) sw_mv_X9_isSword sw_k_105 sw_wl_RX9_127 dX9_cries_12 (sw_fit_rm (by omega) (by decide)) (Nat.le_of_ble_eq_true rfl) rfl (fun r2 S2 => ?_)
    refine sw_if_eq (np := 18) (tp := 30) dX9_cries_15 rfl rfl ?_ ?_
    · refine sw_iconst (np := 31) dX9_cries_30 sw_ic_m1 rfl ?_
      exact sw_iret dX9_cries_31
    · refine sw_ild_5_3 (np := 19) dX9_cries_18 rfl ?_
      refine sw_i2l (np := 20) dX9_cries_19 rfl ?_
      refine sw_lconst (np := 21) dX9_cries_20 sw_lc_0 rfl ?_
      refine sw_ldc2 (np := 24) sw_wc_RX9_110 dX9_cries_21 rfl ?_
      refine sw_cS3i (np := 27) (hX9_within (d := d - 1) (by omega) ) sw_ms_X9_within sw_wl_RX9_98 dX9_cries_24 (sw_fit_rm (by omega) (by decide)) (Nat.le_of_ble_eq_true rfl) rfl (fun r3 S3 => ?_)
      refine sw_if_ne (np := 30) (tp := 32) dX9_cries_27 rfl rfl ?_ ?_
      · refine sw_ald_5_0 (np := 33) dX9_cries_32 rfl ?_
        refine sw_ild_5_1 (np := 34) dX9_cries_33 rfl ?_
        refine sw_cV1i (np := 37) (hX9_bytesIs (d := d - 1) (by omega) ) sw_mv_X9_bytesIs sw_k_105 sw_wl_RX9_245 dX9_cries_34 (sw_fit_rm (by omega) (by decide)) (Nat.le_of_ble_eq_true rfl) rfl (fun r4 S4 => ?_)
        refine sw_if_ge (np := 40) (tp := 46) dX9_cries_37 rfl rfl ?_ ?_
        · refine sw_iconst (np := 47) dX9_cries_46 sw_ic_0 rfl ?_
          refine sw_ist_5_4 (np := 49) dX9_cries_47 rfl rfl ?_
          refine sw_lp1 (lv := fun x4_1 => [some (sw_vr G 105), some (.int p1), some (.int p2), some (.int p3), some (.int x4_1)]) (fun rec1 hrec1 x4_1 S5 => ?_) _ _ _
          refine sw_ild_5_4 (np := 51) dX9_cries_49 rfl ?_
          refine sw_ald_5_0 (np := 52) dX9_cries_51 rfl ?_
          refine sw_ild_5_1 (np := 53) dX9_cries_52 rfl ?_
          refine sw_cV1i (np := 56) (hX9_hourMany (d := d - 1) (by omega) ) sw_mv_X9_hourMany sw_k_105 sw_wl_RX9_239 dX9_cries_53 (sw_fit_rm (by omega) (by decide)) (Nat.le_of_ble_eq_true rfl) rfl (fun r5 S6 => ?_)
          refine sw_icmp_gt (np := 59) (tp := 85) dX9_cries_56 rfl rfl ?_ ?_
          · refine sw_bipush (np := 87) dX9_cries_85 sw_bc_m2 rfl ?_
            exact sw_iret dX9_cries_87
          · refine sw_ald_5_0 (np := 60) dX9_cries_59 rfl ?_
            refine sw_ild_5_1 (np := 61) dX9_cries_60 rfl ?_
            refine sw_ild_5_4 (np := 63) dX9_cries_61 rfl ?_
            refine sw_cV2v (np := 66) (hX9_goesRound (d := d - 1) (by omega) ) sw_mv_X9_goesRound sw_k_105 sw_wl_RX9_250 dX9_cries_63 (sw_fit_rm (by omega) (by decide)) (Nat.le_of_ble_eq_true rfl) rfl (fun _ S7 => ?_)
            refine sw_ald_5_0 (np := 67) dX9_cries_66 rfl ?_
            refine sw_gR (np := 70) sw_f_RX9_34 sw_k_105 sw_r_105_18 dX9_cries_67 rfl ?_
            refine sw_ild_5_2 (np := 71) dX9_cries_70 rfl ?_
            refine sw_iald (np := 72) sw_k_114 sw_n_114 dX9_cries_71 rfl ?_
            refine sw_ild_5_3 (np := 73) dX9_cries_72 rfl ?_
            refine sw_icmp_lt (np := 76) (tp := 79) dX9_cries_73 rfl rfl ?_ ?_
            · refine sw_inc_5_4 (np := 82) dX9_cries_79 sw_ic_1 rfl rfl ?_
              refine sw_goto (tp := 49) dX9_cries_82 rfl ?_
              exact hrec1 _ _
            · refine sw_ild_5_4 (np := 78) dX9_cries_76 rfl ?_
              exact sw_iret dX9_cries_78
        · refine sw_ald_5_0 (np := 41) dX9_cries_40 rfl ?_
          refine sw_ild_5_1 (np := 42) dX9_cries_41 rfl ?_
          refine sw_cV1i (np := 45) (hX9_bytesIs (d := d - 1) (by omega) ) sw_mv_X9_bytesIs sw_k_105 sw_wl_RX9_245 dX9_cries_42 (sw_fit_rm (by omega) (by decide)) (Nat.le_of_ble_eq_true rfl) rfl (fun r7 S8 => ?_)
          exact sw_iret dX9_cries_45
      · refine sw_iconst (np := 31) dX9_cries_30 sw_ic_m1 rfl ?_
        exact sw_iret dX9_cries_31
/-- SwordAtticModel.asleep(I)I -/
def fX9_asleep (N : Nat) (p1 : Int32) (S : sw_St) : Option (Int32 × sw_St) :=
  sw_bd (fX9_bytesIs N p1 S) (fun r1 S1 => (if r1 ≥ 0 then (sw_fx1 (fun rec1 x2_1 S2 => (sw_bd (fX9_hourMany N p1 S2) (fun r2 S3 => (if x2_1 > r2 then (some ((-2 : Int32), S3)) else (sw_bd (fX9_goesRound N p1 x2_1 S3) (fun _ S4 => (sw_bd (fX9_awakeSet N S4) (fun r4 S5 => (if r4 = 0 then (some (x2_1, S5)) else (rec1 (x2_1 + (1 : Int32)) S5)))))))))) N (0 : Int32) S1) else (sw_bd (fX9_bytesIs N p1 S1) (fun r5 S6 => (some (r5, S6))))))
theorem hX9_asleep {G : sw_G} {N d : Nat} (hd : 109 ≤ d) {p1 : Int32}  {S : sw_St} : sw_Ev G yX9_asleep cX9_asleep 3 (some .int) d sw_ei [sw_vr G 105, .int p1] S (fX9_asleep N p1 S) := by
  refine sw_Ev_of (own := RX9) (lv0 := [some (sw_vr G 105), some (.int p1), none]) (by decide) rfl (Nat.le_of_ble_eq_true rfl) rfl ?_
  unfold fX9_asleep
  refine sw_ald_3_0 (np := 1) dX9_asleep_0 rfl ?_
  refine sw_ild_3_1 (np := 2) dX9_asleep_1 rfl ?_
  refine sw_cV1i (np := 5) (hX9_bytesIs (d := d - 1) (by omega) ) sw_mv_X9_bytesIs sw_k_105 sw_wl_RX9_245 dX9_asleep_2 (sw_fit_rm (by omega) (by decide)) (Nat.le_of_ble_eq_true rfl) rfl (fun r1 S1 => ?_)
  refine sw_if_ge (np := 8) (tp := 14) dX9_asleep_5 rfl rfl ?_ ?_
  · refine sw_iconst (np := 15) dX9_asleep_14 sw_ic_0 rfl ?_
    refine sw_ist_3_2 (np := 16) dX9_asleep_15 rfl rfl ?_
    refine sw_lp1 (lv := fun x2_1 => [some (sw_vr G 105), some (.int p1), some (.int x2_1)]) (fun rec1 hrec1 x2_1 S2 => ?_) _ _ _
    refine sw_ild_3_2 (np := 17) dX9_asleep_16 rfl ?_
    refine sw_ald_3_0 (np := 18) dX9_asleep_17 rfl ?_
    refine sw_ild_3_1 (np := 19) dX9_asleep_18 rfl ?_
    refine sw_cV1i (np := 22) (hX9_hourMany (d := d - 1) (by omega) ) sw_mv_X9_hourMany sw_k_105 sw_wl_RX9_239 dX9_asleep_19 (sw_fit_rm (by omega) (by decide)) (Nat.le_of_ble_eq_true rfl) rfl (fun r2 S3 => ?_)
    refine sw_icmp_gt (np := 25) (tp := 46) dX9_asleep_22 rfl rfl ?_ ?_
    · refine sw_bipush (np := 48) dX9_asleep_46 sw_bc_m2 rfl ?_
      exact sw_iret dX9_asleep_48
    · refine sw_ald_3_0 (np := 26) dX9_asleep_25 rfl ?_
      refine sw_ild_3_1 (np := 27) dX9_asleep_26 rfl ?_
      refine sw_ild_3_2 (np := 28) dX9_asleep_27 rfl ?_
      refine sw_cV2v (np := 31) (hX9_goesRound (d := d - 1) (by omega) ) sw_mv_X9_goesRound sw_k_105 sw_wl_RX9_250 dX9_asleep_28 (sw_fit_rm (by omega) (by decide)) (Nat.le_of_ble_eq_true rfl) rfl (fun _ S4 => ?_)
      refine sw_ald_3_0 (np := 32) dX9_asleep_31 rfl ?_
      refine sw_cV0i (np := 35) (hX9_awakeSet (d := d - 1) (by omega) ) sw_mv_X9_awakeSet sw_k_105 sw_wl_RX9_226 dX9_asleep_32 (sw_fit_rm (by omega) (by decide)) (Nat.le_of_ble_eq_true rfl) rfl (fun r4 S5 => ?_)
      refine sw_if_ne (np := 38) (tp := 40) dX9_asleep_35 rfl rfl ?_ ?_
      · refine sw_inc_3_2 (np := 43) dX9_asleep_40 sw_ic_1 rfl rfl ?_
        refine sw_goto (tp := 16) dX9_asleep_43 rfl ?_
        exact hrec1 _ _
      · refine sw_ild_3_2 (np := 39) dX9_asleep_38 rfl ?_
        exact sw_iret dX9_asleep_39
  · refine sw_ald_3_0 (np := 9) dX9_asleep_8 rfl ?_
    refine sw_ild_3_1 (np := 10) dX9_asleep_9 rfl ?_
    refine sw_cV1i (np := 13) (hX9_bytesIs (d := d - 1) (by omega) ) sw_mv_X9_bytesIs sw_k_105 sw_wl_RX9_245 dX9_asleep_10 (sw_fit_rm (by omega) (by decide)) (Nat.le_of_ble_eq_true rfl) rfl (fun r5 S6 => ?_)
    exact sw_iret dX9_asleep_13
/-- SwordAtticModel.triesRound, over what calls it again -/
def gX9_triesRound (N : Nat) (RR : Nat → Int32 → Int32 → Int32 → Int32 → sw_St → Option (Unit × sw_St)) (p1 : Int32) (p2 : Int32) (S : sw_St) : Option (Unit × sw_St) :=
  if p1 = p2 then (sw_bd (fX9_begins N S) (fun _ S4 => (sw_fx1 (fun rec2 x3_2 S5 => (if x3_2 ≥ p2 then (sw_bd (fX9_awakeMany N S5) (fun r3 S6 => (sw_jn0 (fun S7 => (sw_bd (fX9_awakeMany N S7) (fun r4 S8 => (sw_ls (sw_si S8 105 25 r4) (fun S9 => (sw_bd (fX9_mindAll N S9) (fun r5 S10 => (sw_ls (sw_si S10 105 26 r5) (fun S11 => (sw_fx1 (fun rec3 x3_3 S12 => (if x3_3 ≥ p2 then (some ((), S12)) else (sw_gd (sw_in x3_3 4) (sw_gd (sw_in x3_3 3) (sw_ls (sw_si S12 118 x3_3.toNatClampNeg (S12.1 117 x3_3.toNatClampNeg)) (fun S13 => (rec3 (x3_3 + (1 : Int32)) S13))))))) N (0 : Int32) S11)))))))))) (fun k1 => (if r3 < (S6.1 105 25) then (k1 S6) else (sw_bd (fX9_awakeMany N S6) (fun r6 S14 => (if r6 = (S14.1 105 25) then (sw_bd (fX9_mindAll N S14) (fun r7 S15 => (if r7 ≥ (S15.1 105 26) then (some ((), S15)) else (k1 S15)))) else (some ((), S14)))))))))) else (sw_gd (sw_in x3_2 4) (sw_ls (sw_si S5 105 20 (S5.1 117 x3_2.toNatClampNeg)) (fun S16 => (sw_bd (fX9_goesHour N S16) (fun _ S17 => (rec2 (x3_2 + (1 : Int32)) S17)))))))) N (0 : Int32) S4))) else (sw_fx1 (fun rec1 x3_1 S1 => (if x3_1 ≥ (12 : Int32) then (some ((), S1)) else (sw_gd (sw_in p1 4) (sw_ls (sw_si S1 117 p1.toNatClampNeg x3_1) (fun S2 => (sw_bd (RR 0 (p1 + (1 : Int32)) p2 0 0 S2) (fun _ S3 => (rec1 (x3_1 + (1 : Int32)) S3)))))))) N (0 : Int32) S)
def kG_6 (G : sw_G) (d : Nat) (RR : Nat → Int32 → Int32 → Int32 → Int32 → sw_St → Option (Unit × sw_St)) : Prop :=
  (∀ (a b c e : Int32) (S : sw_St), sw_Ev G yX9_triesRound cX9_triesRound 4 none d sw_ev [sw_vr G 105, .int a, .int b] S (RR 0 a b c e S))
def fG_6 (N : Nat) : Nat → Nat → Int32 → Int32 → Int32 → Int32 → sw_St → Option (Unit × sw_St)
  | 0 => fun _ _ _ _ _ _ => none
  | n + 1 => fun t a b c e S => match t with
    | _ => gX9_triesRound N (fG_6 N n) a b S
theorem ogX9_triesRound {G : sw_G} {N d : Nat} (hd : 107 ≤ d) {RR : Nat → Int32 → Int32 → Int32 → Int32 → sw_St → Option (Unit × sw_St)} (hR : kG_6 G (d - 1) RR) {p1 : Int32} {p2 : Int32} {S : sw_St} : sw_Ev G yX9_triesRound cX9_triesRound 4 none d sw_ev [sw_vr G 105, .int p1, .int p2] S (gX9_triesRound N RR p1 p2 S) := by
  refine sw_Ev_of (own := RX9) (lv0 := [some (sw_vr G 105), some (.int p1), some (.int p2), none]) (by decide) rfl (Nat.le_of_ble_eq_true rfl) rfl ?_
  unfold gX9_triesRound
  refine sw_ild_4_1 (np := 1) dX9_triesRound_0 rfl ?_
  refine sw_ild_4_2 (np := 2) dX9_triesRound_1 rfl ?_
  refine sw_icmp_ne (np := 5) (tp := 111) dX9_triesRound_2 rfl rfl ?_ ?_
  · refine sw_iconst (np := 112) dX9_triesRound_111 sw_ic_0 rfl ?_
    refine sw_ist_4_3 (np := 113) dX9_triesRound_112 rfl rfl ?_
    refine sw_lp1 (lv := fun x3_1 => [some (sw_vr G 105), some (.int p1), some (.int p2), some (.int x3_1)]) (fun rec1 hrec1 x3_1 S1 => ?_) _ _ _
    refine sw_ild_4_3 (np := 114) dX9_triesRound_113 rfl ?_
    refine sw_bipush (np := 116) dX9_triesRound_114 sw_bc_12 rfl ?_
    refine sw_icmp_ge (np := 119) (tp := 140) dX9_triesRound_116 rfl rfl ?_ ?_
    · exact sw_vret dX9_triesRound_140
    · refine sw_ald_4_0 (np := 120) dX9_triesRound_119 rfl ?_
      refine sw_gR (np := 123) sw_f_RX9_43 sw_k_105 sw_r_105_23 dX9_triesRound_120 rfl ?_
      refine sw_ild_4_1 (np := 124) dX9_triesRound_123 rfl ?_
      refine sw_ild_4_3 (np := 125) dX9_triesRound_124 rfl ?_
      refine sw_sI (np := 126) sw_k_117 sw_n_117 dX9_triesRound_125 rfl (fun S2 => ?_)
      refine sw_ald_4_0 (np := 127) dX9_triesRound_126 rfl ?_
      refine sw_ild_4_1 (np := 128) dX9_triesRound_127 rfl ?_
      refine sw_iconst (np := 129) dX9_triesRound_128 sw_ic_1 rfl ?_
      refine sw_iadd (np := 130) dX9_triesRound_129 rfl ?_
      refine sw_ild_4_2 (np := 131) dX9_triesRound_130 rfl ?_
      refine sw_cV2v (np := 134) (hR _ _ _ _ _) sw_mv_X9_triesRound sw_k_105 sw_wl_RX9_265 dX9_triesRound_131 (sw_fit_rm (by omega) (by decide)) (Nat.le_of_ble_eq_true rfl) rfl (fun _ S3 => ?_)
      refine sw_inc_4_3 (np := 137) dX9_triesRound_134 sw_ic_1 rfl rfl ?_
      refine sw_goto (tp := 113) dX9_triesRound_137 rfl ?_
      exact hrec1 _ _
  · refine sw_ald_4_0 (np := 6) dX9_triesRound_5 rfl ?_
    refine sw_cV0v (np := 9) (hX9_begins (d := d - 1) (by omega) ) sw_mv_X9_begins sw_k_105 sw_wl_RX9_233 dX9_triesRound_6 (sw_fit_rm (by omega) (by decide)) (Nat.le_of_ble_eq_true rfl) rfl (fun _ S4 => ?_)
    refine sw_iconst (np := 10) dX9_triesRound_9 sw_ic_0 rfl ?_
    refine sw_ist_4_3 (np := 11) dX9_triesRound_10 rfl rfl ?_
    refine sw_dr_4_1 ?_
    refine sw_lp1 (lv := fun x3_2 => [some (sw_vr G 105), none, some (.int p2), some (.int x3_2)]) (fun rec2 hrec2 x3_2 S5 => ?_) _ _ _
    refine sw_ild_4_3 (np := 12) dX9_triesRound_11 rfl ?_
    refine sw_ild_4_2 (np := 13) dX9_triesRound_12 rfl ?_
    refine sw_icmp_ge (np := 16) (tp := 36) dX9_triesRound_13 rfl rfl ?_ ?_
    · refine sw_ald_4_0 (np := 37) dX9_triesRound_36 rfl ?_
      refine sw_cV0i (np := 40) (hX9_awakeMany (d := d - 1) (by omega) ) sw_mv_X9_awakeMany sw_k_105 sw_wl_RX9_256 dX9_triesRound_37 (sw_fit_rm (by omega) (by decide)) (Nat.le_of_ble_eq_true rfl) rfl (fun r3 S6 => ?_)
      refine sw_ald_4_0 (np := 41) dX9_triesRound_40 rfl ?_
      refine sw_gI (np := 44) sw_f_RX9_259 sw_k_105 dX9_triesRound_41 rfl ?_
      refine sw_jm0 (pj := 69) ([some (sw_vr G 105), none, some (.int p2), none]) ([]) (fun S7 => ?_) (fun k1 hk1 => ?_)
      · refine sw_ald_4_0 (np := 70) dX9_triesRound_69 rfl ?_
        refine sw_ald_4_0 (np := 71) dX9_triesRound_70 rfl ?_
        refine sw_cV0i (np := 74) (hX9_awakeMany (d := d - 1) (by omega) ) sw_mv_X9_awakeMany sw_k_105 sw_wl_RX9_256 dX9_triesRound_71 (sw_fit_rm (by omega) (by decide)) (Nat.le_of_ble_eq_true rfl) rfl (fun r4 S8 => ?_)
        refine sw_pI (np := 77) sw_f_RX9_259 sw_fp_9_25 sw_k_105 dX9_triesRound_74 rfl (fun S9 => ?_)
        refine sw_ald_4_0 (np := 78) dX9_triesRound_77 rfl ?_
        refine sw_ald_4_0 (np := 79) dX9_triesRound_78 rfl ?_
        refine sw_cV0i (np := 82) (hX9_mindAll (d := d - 1) (by omega) ) sw_mv_X9_mindAll sw_k_105 sw_wl_RX9_253 dX9_triesRound_79 (sw_fit_rm (by omega) (by decide)) (Nat.le_of_ble_eq_true rfl) rfl (fun r5 S10 => ?_)
        refine sw_pI (np := 85) sw_f_RX9_262 sw_fp_9_26 sw_k_105 dX9_triesRound_82 rfl (fun S11 => ?_)
        refine sw_iconst (np := 86) dX9_triesRound_85 sw_ic_0 rfl ?_
        refine sw_ist_4_3 (np := 87) dX9_triesRound_86 rfl rfl ?_
        refine sw_lp1 (lv := fun x3_3 => [some (sw_vr G 105), none, some (.int p2), some (.int x3_3)]) (fun rec3 hrec3 x3_3 S12 => ?_) _ _ _
        refine sw_ild_4_3 (np := 88) dX9_triesRound_87 rfl ?_
        refine sw_ild_4_2 (np := 89) dX9_triesRound_88 rfl ?_
        refine sw_icmp_ge (np := 92) (tp := 110) dX9_triesRound_89 rfl rfl ?_ ?_
        · exact sw_vret dX9_triesRound_110
        · refine sw_ald_4_0 (np := 93) dX9_triesRound_92 rfl ?_
          refine sw_gR (np := 96) sw_f_RX9_46 sw_k_105 sw_r_105_24 dX9_triesRound_93 rfl ?_
          refine sw_ild_4_3 (np := 97) dX9_triesRound_96 rfl ?_
          refine sw_ald_4_0 (np := 98) dX9_triesRound_97 rfl ?_
          refine sw_gR (np := 101) sw_f_RX9_43 sw_k_105 sw_r_105_23 dX9_triesRound_98 rfl ?_
          refine sw_ild_4_3 (np := 102) dX9_triesRound_101 rfl ?_
          refine sw_iald (np := 103) sw_k_117 sw_n_117 dX9_triesRound_102 rfl ?_
          refine sw_sI (np := 104) sw_k_118 sw_n_118 dX9_triesRound_103 rfl (fun S13 => ?_)
          refine sw_inc_4_3 (np := 107) dX9_triesRound_104 sw_ic_1 rfl rfl ?_
          refine sw_goto (tp := 87) dX9_triesRound_107 rfl ?_
          exact hrec3 _ _
      · refine sw_icmp_lt (np := 47) (tp := 69) dX9_triesRound_44 rfl rfl ?_ ?_
        · refine sw_dr_4_3 ?_
          exact hk1 _
        · refine sw_ald_4_0 (np := 48) dX9_triesRound_47 rfl ?_
          refine sw_cV0i (np := 51) (hX9_awakeMany (d := d - 1) (by omega) ) sw_mv_X9_awakeMany sw_k_105 sw_wl_RX9_256 dX9_triesRound_48 (sw_fit_rm (by omega) (by decide)) (Nat.le_of_ble_eq_true rfl) rfl (fun r6 S14 => ?_)
          refine sw_ald_4_0 (np := 52) dX9_triesRound_51 rfl ?_
          refine sw_gI (np := 55) sw_f_RX9_259 sw_k_105 dX9_triesRound_52 rfl ?_
          refine sw_icmp_ne (np := 58) (tp := 110) dX9_triesRound_55 rfl rfl ?_ ?_
          · exact sw_vret dX9_triesRound_110
          · refine sw_ald_4_0 (np := 59) dX9_triesRound_58 rfl ?_
            refine sw_cV0i (np := 62) (hX9_mindAll (d := d - 1) (by omega) ) sw_mv_X9_mindAll sw_k_105 sw_wl_RX9_253 dX9_triesRound_59 (sw_fit_rm (by omega) (by decide)) (Nat.le_of_ble_eq_true rfl) rfl (fun r7 S15 => ?_)
            refine sw_ald_4_0 (np := 63) dX9_triesRound_62 rfl ?_
            refine sw_gI (np := 66) sw_f_RX9_262 sw_k_105 dX9_triesRound_63 rfl ?_
            refine sw_icmp_ge (np := 69) (tp := 110) dX9_triesRound_66 rfl rfl ?_ ?_
            · exact sw_vret dX9_triesRound_110
            · refine sw_dr_4_3 ?_
              exact hk1 _
    · refine sw_ald_4_0 (np := 17) dX9_triesRound_16 rfl ?_
      refine sw_ald_4_0 (np := 18) dX9_triesRound_17 rfl ?_
      refine sw_gR (np := 21) sw_f_RX9_43 sw_k_105 sw_r_105_23 dX9_triesRound_18 rfl ?_
      refine sw_ild_4_3 (np := 22) dX9_triesRound_21 rfl ?_
      refine sw_iald (np := 23) sw_k_117 sw_n_117 dX9_triesRound_22 rfl ?_
      refine sw_pI (np := 26) sw_f_RX9_204 sw_fp_9_20 sw_k_105 dX9_triesRound_23 rfl (fun S16 => ?_)
      refine sw_ald_4_0 (np := 27) dX9_triesRound_26 rfl ?_
      refine sw_cV0v (np := 30) (hX9_goesHour (d := d - 1) (by omega) ) sw_mv_X9_goesHour sw_k_105 sw_wl_RX9_236 dX9_triesRound_27 (sw_fit_rm (by omega) (by decide)) (Nat.le_of_ble_eq_true rfl) rfl (fun _ S17 => ?_)
      refine sw_inc_4_3 (np := 33) dX9_triesRound_30 sw_ic_1 rfl rfl ?_
      refine sw_goto (tp := 11) dX9_triesRound_33 rfl ?_
      exact hrec2 _ _
theorem hG_6 {G : sw_G} {N : Nat} : ∀ n d, 107 + n ≤ d → kG_6 G d (fG_6 N n) := by
  intro n
  induction n with
  | zero => intro d _; exact (fun _ _ _ _ _ _ h => by cases h)
  | succ n ih => intro d hd; exact fun _ _ _ _ _ => ogX9_triesRound (by omega) (ih (d - 1) (by omega))
def fX9_triesRound (N : Nat) (p1 : Int32) (p2 : Int32) (S : sw_St) : Option (Unit × sw_St) := fG_6 N 100 0 p1 p2 0 0 S
theorem hX9_triesRound {G : sw_G} {N d : Nat} (hd : 207 ≤ d) {p1 : Int32} {p2 : Int32} {S : sw_St} : sw_Ev G yX9_triesRound cX9_triesRound 4 none d sw_ev [sw_vr G 105, .int p1, .int p2] S (fX9_triesRound N p1 p2 S) := (hG_6 (G := G) (N := N) 100 d hd) _ _ _ _ _
/-- SwordAtticModel.bestRound(II)I -/
def fX9_bestRound (N : Nat) (p1 : Int32) (p2 : Int32) (S : sw_St) : Option (Int32 × sw_St) :=
  sw_bd (fX9_within N p1.toInt64 (0 : Int64) (3 : Int64) S) (fun r1 S1 => (if r1 = 0 then (some ((-1 : Int32), S1)) else (sw_bd (fX9_within N p2.toInt64 (-2 : Int64) ((p1 - (1 : Int32)).toInt64) S1) (fun r2 S2 => (if r2 = 0 then (some ((-1 : Int32), S2)) else (sw_ls (sw_si S2 105 25 (1000000 : Int32)) (fun S3 => (sw_ls (sw_si S3 105 26 (1000000 : Int32)) (fun S4 => (sw_bd (fX9_triesRound N (0 : Int32) p1 S4) (fun _ S5 => (if p2 = (-1 : Int32) then (some ((S5.1 105 25), S5)) else (if p2 = (-2 : Int32) then (some ((S5.1 105 26), S5)) else (sw_gd (sw_in p2 3) (some ((S5.1 118 p2.toNatClampNeg), S5))))))))))))))))
theorem hX9_bestRound {G : sw_G} {N d : Nat} (hd : 208 ≤ d) {p1 : Int32} {p2 : Int32}  {S : sw_St} : sw_Ev G yX9_bestRound cX9_bestRound 3 (some .int) d sw_ei [sw_vr G 105, .int p1, .int p2] S (fX9_bestRound N p1 p2 S) := by
  refine sw_Ev_of (own := RX9) (lv0 := [some (sw_vr G 105), some (.int p1), some (.int p2)]) (by decide) rfl (Nat.le_of_ble_eq_true rfl) rfl ?_
  unfold fX9_bestRound
  refine sw_ild_3_1 (np := 1) dX9_bestRound_0 rfl ?_
  refine sw_i2l (np := 2) dX9_bestRound_1 rfl ?_
  refine sw_lconst (np := 3) dX9_bestRound_2 sw_lc_0 rfl ?_
  refine sw_ldc2 (np := 6) sw_wc_RX9_268 dX9_bestRound_3 rfl ?_
  refine sw_cS3i (np := 9) (hX9_within (d := d - 1) (by omega) ) sw_ms_X9_within sw_wl_RX9_98 dX9_bestRound_6 (sw_fit_rm (by omega) (by decide)) (Nat.le_of_ble_eq_true rfl) rfl (fun r1 S1 => ?_)
  refine sw_if_eq (np := 12) (tp := 27) dX9_bestRound_9 rfl rfl ?_ ?_
  · refine sw_iconst (np := 28) dX9_bestRound_27 sw_ic_m1 rfl ?_
    exact sw_iret dX9_bestRound_28
  · refine sw_ild_3_2 (np := 13) dX9_bestRound_12 rfl ?_
    refine sw_i2l (np := 14) dX9_bestRound_13 rfl ?_
    refine sw_ldc2 (np := 17) sw_wc_RX9_270 dX9_bestRound_14 rfl ?_
    refine sw_ild_3_1 (np := 18) dX9_bestRound_17 rfl ?_
    refine sw_iconst (np := 19) dX9_bestRound_18 sw_ic_1 rfl ?_
    refine sw_isub (np := 20) dX9_bestRound_19 rfl ?_
    refine sw_i2l (np := 21) dX9_bestRound_20 rfl ?_
    refine sw_cS3i (np := 24) (hX9_within (d := d - 1) (by omega) ) sw_ms_X9_within sw_wl_RX9_98 dX9_bestRound_21 (sw_fit_rm (by omega) (by decide)) (Nat.le_of_ble_eq_true rfl) rfl (fun r2 S2 => ?_)
    refine sw_if_ne (np := 27) (tp := 29) dX9_bestRound_24 rfl rfl ?_ ?_
    · refine sw_ald_3_0 (np := 30) dX9_bestRound_29 rfl ?_
      refine sw_ldcw (np := 33) sw_wc_RX9_272 dX9_bestRound_30 rfl ?_
      refine sw_pI (np := 36) sw_f_RX9_259 sw_fp_9_25 sw_k_105 dX9_bestRound_33 rfl (fun S3 => ?_)
      refine sw_ald_3_0 (np := 37) dX9_bestRound_36 rfl ?_
      refine sw_ldcw (np := 40) sw_wc_RX9_272 dX9_bestRound_37 rfl ?_
      refine sw_pI (np := 43) sw_f_RX9_262 sw_fp_9_26 sw_k_105 dX9_bestRound_40 rfl (fun S4 => ?_)
      refine sw_ald_3_0 (np := 44) dX9_bestRound_43 rfl ?_
      refine sw_iconst (np := 45) dX9_bestRound_44 sw_ic_0 rfl ?_
      refine sw_ild_3_1 (np := 46) dX9_bestRound_45 rfl ?_
      refine sw_cV2v (np := 49) (hX9_triesRound (d := d - 1) (by omega) ) sw_mv_X9_triesRound sw_k_105 sw_wl_RX9_265 dX9_bestRound_46 (sw_fit_rm (by omega) (by decide)) (Nat.le_of_ble_eq_true rfl) rfl (fun _ S5 => ?_)
      refine sw_ild_3_2 (np := 50) dX9_bestRound_49 rfl ?_
      refine sw_iconst (np := 51) dX9_bestRound_50 sw_ic_m1 rfl ?_
      refine sw_icmp_ne (np := 54) (tp := 61) dX9_bestRound_51 rfl rfl ?_ ?_
      · refine sw_ild_3_2 (np := 62) dX9_bestRound_61 rfl ?_
        refine sw_bipush (np := 64) dX9_bestRound_62 sw_bc_m2 rfl ?_
        refine sw_icmp_ne (np := 67) (tp := 74) dX9_bestRound_64 rfl rfl ?_ ?_
        · refine sw_ald_3_0 (np := 75) dX9_bestRound_74 rfl ?_
          refine sw_gR (np := 78) sw_f_RX9_46 sw_k_105 sw_r_105_24 dX9_bestRound_75 rfl ?_
          refine sw_ild_3_2 (np := 79) dX9_bestRound_78 rfl ?_
          refine sw_iald (np := 80) sw_k_118 sw_n_118 dX9_bestRound_79 rfl ?_
          exact sw_iret dX9_bestRound_80
        · refine sw_ald_3_0 (np := 68) dX9_bestRound_67 rfl ?_
          refine sw_gI (np := 71) sw_f_RX9_262 sw_k_105 dX9_bestRound_68 rfl ?_
          refine sw_goto (tp := 80) dX9_bestRound_71 rfl ?_
          exact sw_iret dX9_bestRound_80
      · refine sw_ald_3_0 (np := 55) dX9_bestRound_54 rfl ?_
        refine sw_gI (np := 58) sw_f_RX9_259 sw_k_105 dX9_bestRound_55 rfl ?_
        refine sw_goto (tp := 80) dX9_bestRound_58 rfl ?_
        exact sw_iret dX9_bestRound_80
    · refine sw_iconst (np := 28) dX9_bestRound_27 sw_ic_m1 rfl ?_
      exact sw_iret dX9_bestRound_28
/-- SwordAtticModel.told(I)I -/
def fX9_told (N : Nat) (p1 : Int32) (S : sw_St) : Option (Int32 × sw_St) :=
  sw_bd (fX9_within N p1.toInt64 (0 : Int64) (1 : Int64) S) (fun r1 S1 => (if r1 = 0 then (some ((-1 : Int32), S1)) else (sw_bd (fX9_begins N S1) (fun _ S2 => (sw_fx2 (fun rec1 x2_1 x3_1 S3 => (if x3_1 ≥ (12 : Int32) then (sw_bd (fX9_awakeSet N S3) (fun r3 S4 => (if r3 = 0 then (if p1 = 0 then (some (x2_1, S4)) else (sw_bd (fX9_mindAll N S4) (fun r4 S5 => (some (r4, S5))))) else (some ((-2 : Int32), S4))))) else (sw_gd (sw_in x3_1 12) (if (S3.1 113 x3_1.toNatClampNeg) < 0 then (rec1 x2_1 (x3_1 + (1 : Int32)) S3) else (sw_gd (sw_in x3_1 12) (sw_bd (fX9_isAwake N (S3.1 113 x3_1.toNatClampNeg) S3) (fun r5 S6 => (if r5 = 0 then (rec1 x2_1 (x3_1 + (1 : Int32)) S6) else (sw_bd (fX9_isToldAt N x3_1 (9 : Int32) S6) (fun _ S7 => (rec1 (x2_1 + (1 : Int32)) (x3_1 + (1 : Int32)) S7))))))))))) N (0 : Int32) (0 : Int32) S2)))))
theorem hX9_told {G : sw_G} {N d : Nat} (hd : 3 ≤ d) {p1 : Int32}  {S : sw_St} : sw_Ev G yX9_told cX9_told 4 (some .int) d sw_ei [sw_vr G 105, .int p1] S (fX9_told N p1 S) := by
  refine sw_Ev_of (own := RX9) (lv0 := [some (sw_vr G 105), some (.int p1), none, none]) (by decide) rfl (Nat.le_of_ble_eq_true rfl) rfl ?_
  unfold fX9_told
  refine sw_ild_4_1 (np := 1) dX9_told_0 rfl ?_
  refine sw_i2l (np := 2) dX9_told_1 rfl ?_
  refine sw_lconst (np := 3) dX9_told_2 sw_lc_0 rfl ?_
  refine sw_lconst (np := 4) dX9_told_3 sw_lc_1 rfl ?_
  refine sw_cS3i (np := 7) (hX9_within (d := d - 1) (by omega) ) sw_ms_X9_within sw_wl_RX9_98 dX9_told_4 (sw_fit_rm (by omega) (by decide)) (Nat.le_of_ble_eq_true rfl) rfl (fun r1 S1 => ?_)
  refine sw_if_ne (np := 10) (tp := 12) dX9_told_7 rfl rfl ?_ ?_
  · refine sw_ald_4_0 (np := 13) dX9_told_12 rfl ?_
    refine sw_cV0v (np := 16) (hX9_begins (d := d - 1) (by omega) ) sw_mv_X9_begins sw_k_105 sw_wl_RX9_233 dX9_told_13 (sw_fit_rm (by omega) (by decide)) (Nat.le_of_ble_eq_true rfl) rfl (fun _ S2 => ?_)
    refine sw_iconst (np := 17) dX9_told_16 sw_ic_0 rfl ?_
    refine sw_ist_4_2 (np := 18) dX9_told_17 rfl rfl ?_
    refine sw_iconst (np := 19) dX9_told_18 sw_ic_0 rfl ?_
    refine sw_ist_4_3 (np := 20) dX9_told_19 rfl rfl ?_
    refine sw_lp2 (lv := fun x2_1 x3_1 => [some (sw_vr G 105), some (.int p1), some (.int x2_1), some (.int x3_1)]) (fun rec1 hrec1 x2_1 x3_1 S3 => ?_) _ _ _ _
    refine sw_ild_4_3 (np := 21) dX9_told_20 rfl ?_
    refine sw_bipush (np := 23) dX9_told_21 sw_bc_12 rfl ?_
    refine sw_icmp_ge (np := 26) (tp := 64) dX9_told_23 rfl rfl ?_ ?_
    · refine sw_ald_4_0 (np := 65) dX9_told_64 rfl ?_
      refine sw_cV0i (np := 68) (hX9_awakeSet (d := d - 1) (by omega) ) sw_mv_X9_awakeSet sw_k_105 sw_wl_RX9_226 dX9_told_65 (sw_fit_rm (by omega) (by decide)) (Nat.le_of_ble_eq_true rfl) rfl (fun r3 S4 => ?_)
      refine sw_if_eq (np := 71) (tp := 76) dX9_told_68 rfl rfl ?_ ?_
      · refine sw_ild_4_1 (np := 77) dX9_told_76 rfl ?_
        refine sw_if_ne (np := 80) (tp := 84) dX9_told_77 rfl rfl ?_ ?_
        · refine sw_ald_4_0 (np := 85) dX9_told_84 rfl ?_
          refine sw_cV0i (np := 88) (hX9_mindAll (d := d - 1) (by omega) ) sw_mv_X9_mindAll sw_k_105 sw_wl_RX9_253 dX9_told_85 (sw_fit_rm (by omega) (by decide)) (Nat.le_of_ble_eq_true rfl) rfl (fun r4 S5 => ?_)
          exact sw_iret dX9_told_88
        · refine sw_ild_4_2 (np := 81) dX9_told_80 rfl ?_
          refine sw_goto (tp := 88) dX9_told_81 rfl ?_
          exact sw_iret dX9_told_88
      · refine sw_bipush (np := 73) dX9_told_71 sw_bc_m2 rfl ?_
        refine sw_goto (tp := 88) dX9_told_73 rfl ?_
        exact sw_iret dX9_told_88
    · refine sw_ald_4_0 (np := 27) dX9_told_26 rfl ?_
      refine sw_gR (np := 30) sw_f_RX9_31 sw_k_105 sw_r_105_17 dX9_told_27 rfl ?_
      refine sw_ild_4_3 (np := 31) dX9_told_30 rfl ?_
      refine sw_iald (np := 32) sw_k_113 sw_n_113 dX9_told_31 rfl ?_
      refine sw_if_lt (np := 35) (tp := 58) dX9_told_32 rfl rfl ?_ ?_
      · refine sw_inc_4_3 (np := 61) dX9_told_58 sw_ic_1 rfl rfl ?_
        refine sw_goto (tp := 20) dX9_told_61 rfl ?_
        exact hrec1 _ _ _
      · refine sw_ald_4_0 (np := 36) dX9_told_35 rfl ?_
        refine sw_ald_4_0 (np := 37) dX9_told_36 rfl ?_
        refine sw_gR (np := 40) sw_f_RX9_31 sw_k_105 sw_r_105_17 dX9_told_37 rfl ?_
        refine sw_ild_4_3 (np := 41) dX9_told_40 rfl ?_
        refine sw_iald (np := 42) sw_k_113 sw_n_113 dX9_told_41 rfl ?_
        refine sw_cV1i (np := 45) (hX9_isAwake (d := d - 1) (by omega) ) sw_mv_X9_isAwake sw_k_105 sw_wl_RX9_214 dX9_told_42 (sw_fit_rm (by omega) (by decide)) (Nat.le_of_ble_eq_true rfl) rfl (fun r5 S6 => ?_)
        refine sw_if_eq (np := 48) (tp := 58) dX9_told_45 rfl rfl ?_ ?_
        · refine sw_inc_4_3 (np := 61) dX9_told_58 sw_ic_1 rfl rfl ?_
          refine sw_goto (tp := 20) dX9_told_61 rfl ?_
          exact hrec1 _ _ _
        · refine sw_ald_4_0 (np := 49) dX9_told_48 rfl ?_
          refine sw_ild_4_3 (np := 50) dX9_told_49 rfl ?_
          refine sw_bipush (np := 52) dX9_told_50 sw_bc_9 rfl ?_
          refine sw_cV2v (np := 55) (hX9_isToldAt (d := d - 1) (by omega) ) sw_mv_X9_isToldAt sw_k_105 sw_wl_RX9_273 dX9_told_52 (sw_fit_rm (by omega) (by decide)) (Nat.le_of_ble_eq_true rfl) rfl (fun _ S7 => ?_)
          refine sw_inc_4_2 (np := 58) dX9_told_55 sw_ic_1 rfl rfl ?_
          refine sw_inc_4_3 (np := 61) dX9_told_58 sw_ic_1 rfl rfl ?_
          refine sw_goto (tp := 20) dX9_told_61 rfl ?_
          exact hrec1 _ _ _
  · refine sw_iconst (np := 11) dX9_told_10 sw_ic_m1 rfl ?_
    exact sw_iret dX9_told_11
/-- SwordAtticModel.woken(II)I -/
def fX9_woken (N : Nat) (p1 : Int32) (p2 : Int32) (S : sw_St) : Option (Int32 × sw_St) :=
  sw_bd (fX9_isCot N p1.toInt64 S) (fun r1 S1 => (if r1 = 0 then (some ((-1 : Int32), S1)) else (sw_bd (fX9_within N p2.toInt64 (0 : Int64) (1 : Int64) S1) (fun r2 S2 => (if r2 = 0 then (some ((-1 : Int32), S2)) else (sw_bd (fX9_begins N S2) (fun _ S3 => (sw_bd (fX9_awakeSet N S3) (fun r4 S4 => (sw_bd (fX9_isTouched N p1 S4) (fun _ S5 => (if p2 = 0 then (sw_bd (fX9_awakeSet N S5) (fun r7 S7 => (some ((r7 &&& (r4 ^^^ (-1 : Int32))), S7)))) else (sw_bd (fX9_touchedMany N S5) (fun r6 S6 => (some (r6, S6))))))))))))))))
theorem hX9_woken {G : sw_G} {N d : Nat} (hd : 4 ≤ d) {p1 : Int32} {p2 : Int32}  {S : sw_St} : sw_Ev G yX9_woken cX9_woken 4 (some .int) d sw_ei [sw_vr G 105, .int p1, .int p2] S (fX9_woken N p1 p2 S) := by
  refine sw_Ev_of (own := RX9) (lv0 := [some (sw_vr G 105), some (.int p1), some (.int p2), none]) (by decide) rfl (Nat.le_of_ble_eq_true rfl) rfl ?_
  unfold fX9_woken
  refine sw_ild_4_1 (np := 1) dX9_woken_0 rfl ?_
  refine sw_i2l (np := 2) dX9_woken_1 rfl ?_
  refine sw_cS1i (np := 5) (hX9_isCot (d := d - 1) (by omega) ) sw_ms_X9_isCot sw_wl_RX9_104 dX9_woken_2 (sw_fit_rm (by omega) (by decide)) (Nat.le_of_ble_eq_true rfl) rfl (fun r1 S1 => ?_)
  refine sw_if_eq (np := 8) (tp := 18) dX9_woken_5 rfl rfl ?_ ?_
  · refine sw_iconst (np := 19) dX9_woken_18 sw_ic_m1 rfl ?_
    exact sw_iret dX9_woken_19
  · refine sw_ild_4_2 (np := 9) dX9_woken_8 rfl ?_
    refine sw_i2l (np := 10) dX9_woken_9 rfl ?_
    refine sw_lconst (np := 11) dX9_woken_10 sw_lc_0 rfl ?_
    refine sw_lconst (np := 12) dX9_woken_11 sw_lc_1 rfl ?_
    refine sw_cS3i (np := 15) (hX9_within (d := d - 1) (by omega) ) sw_ms_X9_within sw_wl_RX9_98 dX9_woken_12 (sw_fit_rm (by omega) (by decide)) (Nat.le_of_ble_eq_true rfl) rfl (fun r2 S2 => ?_)
    refine sw_if_ne (np := 18) (tp := 20) dX9_woken_15 rfl rfl ?_ ?_
    · refine sw_ald_4_0 (np := 21) dX9_woken_20 rfl ?_
      refine sw_cV0v (np := 24) (hX9_begins (d := d - 1) (by omega) ) sw_mv_X9_begins sw_k_105 sw_wl_RX9_233 dX9_woken_21 (sw_fit_rm (by omega) (by decide)) (Nat.le_of_ble_eq_true rfl) rfl (fun _ S3 => ?_)
      refine sw_ald_4_0 (np := 25) dX9_woken_24 rfl ?_
      refine sw_cV0i (np := 28) (hX9_awakeSet (d := d - 1) (by omega) ) sw_mv_X9_awakeSet sw_k_105 sw_wl_RX9_226 dX9_woken_25 (sw_fit_rm (by omega) (by decide)) (Nat.le_of_ble_eq_true rfl) rfl (fun r4 S4 => ?_)
      refine sw_ist_4_3 (np := 29) dX9_woken_28 rfl rfl ?_
      refine sw_ald_4_0 (np := 30) dX9_woken_29 rfl ?_
      refine sw_ild_4_1 (np := 31) dX9_woken_30 rfl ?_
      refine sw_cV1v (np := 34) (hX9_isTouched (d := d - 1) (by omega) ) sw_mv_X9_isTouched sw_k_105 sw_wl_RX9_276 dX9_woken_31 (sw_fit_rm (by omega) (by decide)) (Nat.le_of_ble_eq_true rfl) rfl (fun _ S5 => ?_)
      refine sw_ild_4_2 (np := 35) dX9_woken_34 rfl ?_
      refine sw_if_ne (np := 38) (tp := 49) dX9_woken_35 rfl rfl ?_ ?_
      · refine sw_ald_4_0 (np := 50) dX9_woken_49 rfl ?_
        refine sw_cV0i (np := 53) (hX9_touchedMany (d := d - 1) (by omega) ) sw_mv_X9_touchedMany sw_k_105 sw_wl_RX9_280 dX9_woken_50 (sw_fit_rm (by omega) (by decide)) (Nat.le_of_ble_eq_true rfl) rfl (fun r6 S6 => ?_)
        exact sw_iret dX9_woken_53
      · refine sw_ald_4_0 (np := 39) dX9_woken_38 rfl ?_
        refine sw_cV0i (np := 42) (hX9_awakeSet (d := d - 1) (by omega) ) sw_mv_X9_awakeSet sw_k_105 sw_wl_RX9_226 dX9_woken_39 (sw_fit_rm (by omega) (by decide)) (Nat.le_of_ble_eq_true rfl) rfl (fun r7 S7 => ?_)
        refine sw_ild_4_3 (np := 43) dX9_woken_42 rfl ?_
        refine sw_iconst (np := 44) dX9_woken_43 sw_ic_m1 rfl ?_
        refine sw_ixor (np := 45) dX9_woken_44 rfl ?_
        refine sw_iand (np := 46) dX9_woken_45 rfl ?_
        refine sw_goto (tp := 53) dX9_woken_46 rfl ?_
        exact sw_iret dX9_woken_53
    · refine sw_iconst (np := 19) dX9_woken_18 sw_ic_m1 rfl ?_
      exact sw_iret dX9_woken_19
/-- SwordAtticModel.stepsTo(II)I -/
def fX9_stepsTo (N : Nat) (p0 : Int32) (p1 : Int32) (S : sw_St) : Option (Int32 × sw_St) :=
  sw_bd (fX9_sizeOf N ((p0 - p0 / (6 : Int32) * (6 : Int32)) - (p1 - p1 / (6 : Int32) * (6 : Int32))) S) (fun r1 S1 => (if (p0 / (6 : Int32)) = (p1 / (6 : Int32)) then (some ((r1 + (0 : Int32)), S1)) else (some ((r1 + (1 : Int32)), S1))))
theorem hX9_stepsTo {G : sw_G} {N d : Nat} (hd : 2 ≤ d) {p0 : Int32} {p1 : Int32}  {S : sw_St} : sw_Ev G yX9_stepsTo cX9_stepsTo 2 (some .int) d sw_ei [.int p0, .int p1] S (fX9_stepsTo N p0 p1 S) := by
  refine sw_Ev_of (own := RX9) (lv0 := [some (.int p0), some (.int p1)]) (by decide) rfl (Nat.le_of_ble_eq_true rfl) rfl ?_
  unfold fX9_stepsTo
  refine sw_ild_2_0 (np := 1) dX9_stepsTo_0 rfl ?_
  refine sw_bipush (np := 3) dX9_stepsTo_1 sw_bc_6 rfl ?_
  refine sw_irem (np := 4) dX9_stepsTo_3 (by decide) rfl ?_
  refine sw_ild_2_1 (np := 5) dX9_stepsTo_4 rfl ?_
  refine sw_bipush (np := 7) dX9_stepsTo_5 sw_bc_6 rfl ?_
  refine sw_irem (np := 8) dX9_stepsTo_7 (by decide) rfl ?_
  refine sw_isub (np := 9) dX9_stepsTo_8 rfl ?_
  refine sw_cS1i (np := 12) (hX9_sizeOf (d := d - 1) (by omega) ) sw_ms_X9_sizeOf sw_wl_RX9_207 dX9_stepsTo_9 (sw_fit_rm (by omega) (by decide)) (Nat.le_of_ble_eq_true rfl) rfl (fun r1 S1 => ?_)
  refine sw_ild_2_0 (np := 13) dX9_stepsTo_12 rfl ?_
  refine sw_bipush (np := 15) dX9_stepsTo_13 sw_bc_6 rfl ?_
  refine sw_idiv (np := 16) dX9_stepsTo_15 (by decide) rfl ?_
  refine sw_ild_2_1 (np := 17) dX9_stepsTo_16 rfl ?_
  refine sw_bipush (np := 19) dX9_stepsTo_17 sw_bc_6 rfl ?_
  refine sw_idiv (np := 20) dX9_stepsTo_19 (by decide) rfl ?_
  refine sw_icmp_ne (np := 23) (tp := 27) dX9_stepsTo_20 rfl rfl ?_ ?_
  · refine sw_iconst (np := 28) dX9_stepsTo_27 sw_ic_1 rfl ?_
    refine sw_iadd (np := 29) dX9_stepsTo_28 rfl ?_
    exact sw_iret dX9_stepsTo_29
  · refine sw_iconst (np := 24) dX9_stepsTo_23 sw_ic_0 rfl ?_
    refine sw_goto (tp := 28) dX9_stepsTo_24 rfl ?_
    refine sw_iadd (np := 29) dX9_stepsTo_28 rfl ?_
    exact sw_iret dX9_stepsTo_29
/-- SwordAtticModel.stepsBy, over what calls it again -/
def gX9_stepsBy (N : Nat) (RR : Nat → Int32 → Int32 → Int32 → Int32 → sw_St → Option (Int32 × sw_St)) (p1 : Int32) (p2 : Int32) (S : sw_St) : Option (Int32 × sw_St) :=
  if p2 = 0 then (some ((0 : Int32), S)) else (sw_fx2 (fun rec1 x3_1 x4_1 S1 => (if x4_1 ≥ (12 : Int32) then (some (x3_1, S1)) else (sw_bd (fX9_isIn N p2 x4_1 S1) (fun r1 S2 => (if r1 = 0 then (rec1 x3_1 (x4_1 + (1 : Int32)) S2) else (sw_bd (fX9_stepsTo N p1 x4_1 S2) (fun r2 S3 => (sw_bd (RR 0 x4_1 (p2 &&& (((1 : Int32) <<< (x4_1 &&& 31)) ^^^ (-1 : Int32))) 0 0 S3) (fun r3 S4 => (sw_li (r2 + r3) (fun x5_1 => (if x5_1 ≥ x3_1 then (rec1 x3_1 (x4_1 + (1 : Int32)) S4) else (rec1 x5_1 (x4_1 + (1 : Int32)) S4))))))))))))) N (1000000 : Int32) (0 : Int32) S)
def kG_7 (G : sw_G) (d : Nat) (RR : Nat → Int32 → Int32 → Int32 → Int32 → sw_St → Option (Int32 × sw_St)) : Prop :=
  (∀ (a b c e : Int32) (S : sw_St), sw_Ev G yX9_stepsBy cX9_stepsBy 6 (some .int) d sw_ei [sw_vr G 105, .int a, .int b] S (RR 0 a b c e S))
def fG_7 (N : Nat) : Nat → Nat → Int32 → Int32 → Int32 → Int32 → sw_St → Option (Int32 × sw_St)
  | 0 => fun _ _ _ _ _ _ => none
  | n + 1 => fun t a b c e S => match t with
    | _ => gX9_stepsBy N (fG_7 N n) a b S
theorem ogX9_stepsBy {G : sw_G} {N d : Nat} (hd : 3 ≤ d) {RR : Nat → Int32 → Int32 → Int32 → Int32 → sw_St → Option (Int32 × sw_St)} (hR : kG_7 G (d - 1) RR) {p1 : Int32} {p2 : Int32} {S : sw_St} : sw_Ev G yX9_stepsBy cX9_stepsBy 6 (some .int) d sw_ei [sw_vr G 105, .int p1, .int p2] S (gX9_stepsBy N RR p1 p2 S) := by
  refine sw_Ev_of (own := RX9) (lv0 := [some (sw_vr G 105), some (.int p1), some (.int p2), none, none, none]) (by decide) rfl (Nat.le_of_ble_eq_true rfl) rfl ?_
  unfold gX9_stepsBy
  refine sw_ild_6_2 (np := 1) dX9_stepsBy_0 rfl ?_
  refine sw_if_ne (np := 4) (tp := 6) dX9_stepsBy_1 rfl rfl ?_ ?_
  · refine sw_ldcw (np := 9) sw_wc_RX9_272 dX9_stepsBy_6 rfl ?_
    refine sw_ist_6_3 (np := 10) dX9_stepsBy_9 rfl rfl ?_
    refine sw_iconst (np := 11) dX9_stepsBy_10 sw_ic_0 rfl ?_
    refine sw_ist_6_4 (np := 13) dX9_stepsBy_11 rfl rfl ?_
    refine sw_lp2 (lv := fun x3_1 x4_1 => [some (sw_vr G 105), some (.int p1), some (.int p2), some (.int x3_1), some (.int x4_1), none]) (fun rec1 hrec1 x3_1 x4_1 S1 => ?_) _ _ _ _
    refine sw_ild_6_4 (np := 15) dX9_stepsBy_13 rfl ?_
    refine sw_bipush (np := 17) dX9_stepsBy_15 sw_bc_12 rfl ?_
    refine sw_icmp_ge (np := 20) (tp := 71) dX9_stepsBy_17 rfl rfl ?_ ?_
    · refine sw_ild_6_3 (np := 72) dX9_stepsBy_71 rfl ?_
      exact sw_iret dX9_stepsBy_72
    · refine sw_ild_6_2 (np := 21) dX9_stepsBy_20 rfl ?_
      refine sw_ild_6_4 (np := 23) dX9_stepsBy_21 rfl ?_
      refine sw_cS2i (np := 26) (hX9_isIn (d := d - 1) (by omega) ) sw_ms_X9_isIn sw_wl_RX9_283 dX9_stepsBy_23 (sw_fit_rm (by omega) (by decide)) (Nat.le_of_ble_eq_true rfl) rfl (fun r1 S2 => ?_)
      refine sw_if_eq (np := 29) (tp := 65) dX9_stepsBy_26 rfl rfl ?_ ?_
      · refine sw_inc_6_4 (np := 68) dX9_stepsBy_65 sw_ic_1 rfl rfl ?_
        refine sw_goto (tp := 13) dX9_stepsBy_68 rfl ?_
        exact hrec1 _ _ _
      · refine sw_ild_6_1 (np := 30) dX9_stepsBy_29 rfl ?_
        refine sw_ild_6_4 (np := 32) dX9_stepsBy_30 rfl ?_
        refine sw_cS2i (np := 35) (hX9_stepsTo (d := d - 1) (by omega) ) sw_ms_X9_stepsTo sw_wl_RX9_286 dX9_stepsBy_32 (sw_fit_rm (by omega) (by decide)) (Nat.le_of_ble_eq_true rfl) rfl (fun r2 S3 => ?_)
        refine sw_ald_6_0 (np := 36) dX9_stepsBy_35 rfl ?_
        refine sw_ild_6_4 (np := 38) dX9_stepsBy_36 rfl ?_
        refine sw_ild_6_2 (np := 39) dX9_stepsBy_38 rfl ?_
        refine sw_iconst (np := 40) dX9_stepsBy_39 sw_ic_1 rfl ?_
        refine sw_ild_6_4 (np := 42) dX9_stepsBy_40 rfl ?_
        refine sw_ishl (np := 43) dX9_stepsBy_42 rfl ?_
        refine sw_iconst (np := 44) dX9_stepsBy_43 sw_ic_m1 rfl ?_
        refine sw_ixor (np := 45) dX9_stepsBy_44 rfl ?_
        refine sw_iand (np := 46) dX9_stepsBy_45 rfl ?_
        refine sw_cV2i (np := 49) (hR _ _ _ _ _) sw_mv_X9_stepsBy sw_k_105 sw_wl_RX9_289 dX9_stepsBy_46 (sw_fit_rm (by omega) (by decide)) (Nat.le_of_ble_eq_true rfl) rfl (fun r3 S4 => ?_)
        refine sw_iadd (np := 50) dX9_stepsBy_49 rfl ?_
        refine sw_isl_6_5 (np := 52) dX9_stepsBy_50 rfl rfl (fun x5_1 => ?_)
        refine sw_ild_6_5 (np := 54) dX9_stepsBy_52 rfl ?_
        refine sw_ild_6_3 (np := 55) dX9_stepsBy_54 rfl ?_
        refine sw_icmp_ge (np := 58) (tp := 63) dX9_stepsBy_55 rfl rfl ?_ ?_
        · refine sw_ild_6_3 (np := 64) dX9_stepsBy_63 rfl ?_
          refine sw_ist_6_3 (np := 65) dX9_stepsBy_64 rfl rfl ?_
          refine sw_inc_6_4 (np := 68) dX9_stepsBy_65 sw_ic_1 rfl rfl ?_
          refine sw_goto (tp := 13) dX9_stepsBy_68 rfl ?_
          refine sw_dr_6_5 ?_
          exact hrec1 _ _ _
        · refine sw_ild_6_5 (np := 60) dX9_stepsBy_58 rfl ?_
          refine sw_goto (tp := 64) dX9_stepsBy_60 rfl ?_
          refine sw_ist_6_3 (np := 65) dX9_stepsBy_64 rfl rfl ?_
          refine sw_inc_6_4 (np := 68) dX9_stepsBy_65 sw_ic_1 rfl rfl ?_
          refine sw_goto (tp := 13) dX9_stepsBy_68 rfl ?_
          refine sw_dr_6_5 ?_
          exact hrec1 _ _ _
  · refine sw_iconst (np := 5) dX9_stepsBy_4 sw_ic_0 rfl ?_
    exact sw_iret dX9_stepsBy_5
theorem hG_7 {G : sw_G} {N : Nat} : ∀ n d, 3 + n ≤ d → kG_7 G d (fG_7 N n) := by
  intro n
  induction n with
  | zero => intro d _; exact (fun _ _ _ _ _ _ h => by cases h)
  | succ n ih => intro d hd; exact fun _ _ _ _ _ => ogX9_stepsBy (by omega) (ih (d - 1) (by omega))
def fX9_stepsBy (N : Nat) (p1 : Int32) (p2 : Int32) (S : sw_St) : Option (Int32 × sw_St) := fG_7 N 100 0 p1 p2 0 0 S
theorem hX9_stepsBy {G : sw_G} {N d : Nat} (hd : 103 ≤ d) {p1 : Int32} {p2 : Int32} {S : sw_St} : sw_Ev G yX9_stepsBy cX9_stepsBy 6 (some .int) d sw_ei [sw_vr G 105, .int p1, .int p2] S (fX9_stepsBy N p1 p2 S) := (hG_7 (G := G) (N := N) 100 d hd) _ _ _ _ _
/-- SwordAtticModel.walk(I)I -/
def fX9_walk (N : Nat) (p1 : Int32) (S : sw_St) : Option (Int32 × sw_St) :=
  sw_bd (fX9_within N p1.toInt64 (0 : Int64) (2 : Int64) S) (fun r1 S1 => (if r1 = 0 then (some ((-1 : Int32), S1)) else (sw_bd (fX9_begins N S1) (fun _ S2 => (sw_fx3 (fun rec1 x2_1 x3_1 x4_1 S3 => (if x4_1 ≥ (12 : Int32) then (if p1 = (2 : Int32) then (sw_bd (fX9_bitsOf N x2_1 S3) (fun r4 S5 => (if r4 ≤ (6 : Int32) then (sw_bd (fX9_stepsBy N (S5.1 105 20) x2_1 S5) (fun r5 S6 => (some (r5, S6)))) else (some ((-5 : Int32), S5))))) else (if x3_1 ≥ 0 then (if p1 = 0 then (sw_bd (fX9_stepsTo N (S3.1 105 20) x3_1 S3) (fun r3 S4 => (some (r3, S4)))) else (some (x3_1, S3))) else (some ((-2 : Int32), S3)))) else (sw_gd (sw_in x4_1 12) (if (S3.1 113 x4_1.toNatClampNeg) < 0 then (rec1 x2_1 x3_1 (x4_1 + (1 : Int32)) S3) else (sw_gd (sw_in x4_1 12) (sw_bd (fX9_isAwake N (S3.1 113 x4_1.toNatClampNeg) S3) (fun r6 S7 => (if r6 = 0 then (rec1 x2_1 x3_1 (x4_1 + (1 : Int32)) S7) else (sw_li (x2_1 ||| ((1 : Int32) <<< (x4_1 &&& 31))) (fun x2_2 => (if x3_1 < 0 then (rec1 x2_2 x4_1 (x4_1 + (1 : Int32)) S7) else (sw_bd (fX9_stepsTo N (S7.1 105 20) x4_1 S7) (fun r7 S8 => (sw_bd (fX9_stepsTo N (S8.1 105 20) x3_1 S8) (fun r8 S9 => (if r7 ≥ r8 then (rec1 x2_2 x3_1 (x4_1 + (1 : Int32)) S9) else (rec1 x2_2 x4_1 (x4_1 + (1 : Int32)) S9))))))))))))))))) N (0 : Int32) (-1 : Int32) (0 : Int32) S2)))))
theorem hX9_walk {G : sw_G} {N d : Nat} (hd : 104 ≤ d) {p1 : Int32}  {S : sw_St} : sw_Ev G yX9_walk cX9_walk 5 (some .int) d sw_ei [sw_vr G 105, .int p1] S (fX9_walk N p1 S) := by
  refine sw_Ev_of (own := RX9) (lv0 := [some (sw_vr G 105), some (.int p1), none, none, none]) (by decide) rfl (Nat.le_of_ble_eq_true rfl) rfl ?_
  unfold fX9_walk
  refine sw_ild_5_1 (np := 1) dX9_walk_0 rfl ?_
  refine sw_i2l (np := 2) dX9_walk_1 rfl ?_
  refine sw_lconst (np := 3) dX9_walk_2 sw_lc_0 rfl ?_
  refine sw_ldc2 (np := 6) sw_wc_RX9_292 dX9_walk_3 rfl ?_
  refine sw_cS3i (np := 9) (hX9_within (d := d - 1) (by omega) ) sw_ms_X9_within sw_wl_RX9_98 dX9_walk_6 (sw_fit_rm (by omega) (by decide)) (Nat.le_of_ble_eq_true rfl) rfl (fun r1 S1 => ?_)
  refine sw_if_ne (np := 12) (tp := 14) dX9_walk_9 rfl rfl ?_ ?_
  · refine sw_ald_5_0 (np := 15) dX9_walk_14 rfl ?_
    refine sw_cV0v (np := 18) (hX9_begins (d := d - 1) (by omega) ) sw_mv_X9_begins sw_k_105 sw_wl_RX9_233 dX9_walk_15 (sw_fit_rm (by omega) (by decide)) (Nat.le_of_ble_eq_true rfl) rfl (fun _ S2 => ?_)
    refine sw_iconst (np := 19) dX9_walk_18 sw_ic_0 rfl ?_
    refine sw_ist_5_2 (np := 20) dX9_walk_19 rfl rfl ?_
    refine sw_iconst (np := 21) dX9_walk_20 sw_ic_m1 rfl ?_
    refine sw_ist_5_3 (np := 22) dX9_walk_21 rfl rfl ?_
    refine sw_iconst (np := 23) dX9_walk_22 sw_ic_0 rfl ?_
    refine sw_ist_5_4 (np := 25) dX9_walk_23 rfl rfl ?_
    refine sw_lp3 (lv := fun x2_1 x3_1 x4_1 => [some (sw_vr G 105), some (.int p1), some (.int x2_1), some (.int x3_1), some (.int x4_1)]) (fun rec1 hrec1 x2_1 x3_1 x4_1 S3 => ?_) _ _ _ _ _
    refine sw_ild_5_4 (np := 27) dX9_walk_25 rfl ?_
    refine sw_bipush (np := 29) dX9_walk_27 sw_bc_12 rfl ?_
    refine sw_icmp_ge (np := 32) (tp := 100) dX9_walk_29 rfl rfl ?_ ?_
    · refine sw_ild_5_1 (np := 101) dX9_walk_100 rfl ?_
      refine sw_iconst (np := 102) dX9_walk_101 sw_ic_2 rfl ?_
      refine sw_icmp_ne (np := 105) (tp := 129) dX9_walk_102 rfl rfl ?_ ?_
      · refine sw_ild_5_3 (np := 130) dX9_walk_129 rfl ?_
        refine sw_if_ge (np := 133) (tp := 138) dX9_walk_130 rfl rfl ?_ ?_
        · refine sw_ild_5_1 (np := 139) dX9_walk_138 rfl ?_
          refine sw_if_ne (np := 142) (tp := 153) dX9_walk_139 rfl rfl ?_ ?_
          · refine sw_ild_5_3 (np := 154) dX9_walk_153 rfl ?_
            exact sw_iret dX9_walk_154
          · refine sw_ald_5_0 (np := 143) dX9_walk_142 rfl ?_
            refine sw_gI (np := 146) sw_f_RX9_204 sw_k_105 dX9_walk_143 rfl ?_
            refine sw_ild_5_3 (np := 147) dX9_walk_146 rfl ?_
            refine sw_cS2i (np := 150) (hX9_stepsTo (d := d - 1) (by omega) ) sw_ms_X9_stepsTo sw_wl_RX9_286 dX9_walk_147 (sw_fit_rm (by omega) (by decide)) (Nat.le_of_ble_eq_true rfl) rfl (fun r3 S4 => ?_)
            refine sw_goto (tp := 154) dX9_walk_150 rfl ?_
            exact sw_iret dX9_walk_154
        · refine sw_bipush (np := 135) dX9_walk_133 sw_bc_m2 rfl ?_
          refine sw_goto (tp := 154) dX9_walk_135 rfl ?_
          exact sw_iret dX9_walk_154
      · refine sw_ild_5_2 (np := 106) dX9_walk_105 rfl ?_
        refine sw_cS1i (np := 109) (hX9_bitsOf (d := d - 1) (by omega) ) sw_ms_X9_bitsOf sw_wl_RX9_229 dX9_walk_106 (sw_fit_rm (by omega) (by decide)) (Nat.le_of_ble_eq_true rfl) rfl (fun r4 S5 => ?_)
        refine sw_bipush (np := 111) dX9_walk_109 sw_bc_6 rfl ?_
        refine sw_icmp_le (np := 114) (tp := 119) dX9_walk_111 rfl rfl ?_ ?_
        · refine sw_ald_5_0 (np := 120) dX9_walk_119 rfl ?_
          refine sw_ald_5_0 (np := 121) dX9_walk_120 rfl ?_
          refine sw_gI (np := 124) sw_f_RX9_204 sw_k_105 dX9_walk_121 rfl ?_
          refine sw_ild_5_2 (np := 125) dX9_walk_124 rfl ?_
          refine sw_cV2i (np := 128) (hX9_stepsBy (d := d - 1) (by omega) ) sw_mv_X9_stepsBy sw_k_105 sw_wl_RX9_289 dX9_walk_125 (sw_fit_rm (by omega) (by decide)) (Nat.le_of_ble_eq_true rfl) rfl (fun r5 S6 => ?_)
          exact sw_iret dX9_walk_128
        · refine sw_bipush (np := 116) dX9_walk_114 sw_bc_m5 rfl ?_
          refine sw_goto (tp := 128) dX9_walk_116 rfl ?_
          exact sw_iret dX9_walk_128
    · refine sw_ald_5_0 (np := 33) dX9_walk_32 rfl ?_
      refine sw_gR (np := 36) sw_f_RX9_31 sw_k_105 sw_r_105_17 dX9_walk_33 rfl ?_
      refine sw_ild_5_4 (np := 38) dX9_walk_36 rfl ?_
      refine sw_iald (np := 39) sw_k_113 sw_n_113 dX9_walk_38 rfl ?_
      refine sw_if_lt (np := 42) (tp := 94) dX9_walk_39 rfl rfl ?_ ?_
      · refine sw_inc_5_4 (np := 97) dX9_walk_94 sw_ic_1 rfl rfl ?_
        refine sw_goto (tp := 25) dX9_walk_97 rfl ?_
        exact hrec1 _ _ _ _
      · refine sw_ald_5_0 (np := 43) dX9_walk_42 rfl ?_
        refine sw_ald_5_0 (np := 44) dX9_walk_43 rfl ?_
        refine sw_gR (np := 47) sw_f_RX9_31 sw_k_105 sw_r_105_17 dX9_walk_44 rfl ?_
        refine sw_ild_5_4 (np := 49) dX9_walk_47 rfl ?_
        refine sw_iald (np := 50) sw_k_113 sw_n_113 dX9_walk_49 rfl ?_
        refine sw_cV1i (np := 53) (hX9_isAwake (d := d - 1) (by omega) ) sw_mv_X9_isAwake sw_k_105 sw_wl_RX9_214 dX9_walk_50 (sw_fit_rm (by omega) (by decide)) (Nat.le_of_ble_eq_true rfl) rfl (fun r6 S7 => ?_)
        refine sw_if_eq (np := 56) (tp := 94) dX9_walk_53 rfl rfl ?_ ?_
        · refine sw_inc_5_4 (np := 97) dX9_walk_94 sw_ic_1 rfl rfl ?_
          refine sw_goto (tp := 25) dX9_walk_97 rfl ?_
          exact hrec1 _ _ _ _
        · refine sw_ild_5_2 (np := 57) dX9_walk_56 rfl ?_
          refine sw_iconst (np := 58) dX9_walk_57 sw_ic_1 rfl ?_
          refine sw_ild_5_4 (np := 60) dX9_walk_58 rfl ?_
          refine sw_ishl (np := 61) dX9_walk_60 rfl ?_
          refine sw_ior (np := 62) dX9_walk_61 rfl ?_
          refine sw_isl_5_2 (np := 63) dX9_walk_62 rfl rfl (fun x2_2 => ?_)
          refine sw_ild_5_3 (np := 64) dX9_walk_63 rfl ?_
          refine sw_if_lt (np := 67) (tp := 87) dX9_walk_64 rfl rfl ?_ ?_
          · refine sw_ild_5_4 (np := 89) dX9_walk_87 rfl ?_
            refine sw_goto (tp := 93) dX9_walk_89 rfl ?_
            refine sw_ist_5_3 (np := 94) dX9_walk_93 rfl rfl ?_
            refine sw_inc_5_4 (np := 97) dX9_walk_94 sw_ic_1 rfl rfl ?_
            refine sw_goto (tp := 25) dX9_walk_97 rfl ?_
            exact hrec1 _ _ _ _
          · refine sw_ald_5_0 (np := 68) dX9_walk_67 rfl ?_
            refine sw_gI (np := 71) sw_f_RX9_204 sw_k_105 dX9_walk_68 rfl ?_
            refine sw_ild_5_4 (np := 73) dX9_walk_71 rfl ?_
            refine sw_cS2i (np := 76) (hX9_stepsTo (d := d - 1) (by omega) ) sw_ms_X9_stepsTo sw_wl_RX9_286 dX9_walk_73 (sw_fit_rm (by omega) (by decide)) (Nat.le_of_ble_eq_true rfl) rfl (fun r7 S8 => ?_)
            refine sw_ald_5_0 (np := 77) dX9_walk_76 rfl ?_
            refine sw_gI (np := 80) sw_f_RX9_204 sw_k_105 dX9_walk_77 rfl ?_
            refine sw_ild_5_3 (np := 81) dX9_walk_80 rfl ?_
            refine sw_cS2i (np := 84) (hX9_stepsTo (d := d - 1) (by omega) ) sw_ms_X9_stepsTo sw_wl_RX9_286 dX9_walk_81 (sw_fit_rm (by omega) (by decide)) (Nat.le_of_ble_eq_true rfl) rfl (fun r8 S9 => ?_)
            refine sw_icmp_ge (np := 87) (tp := 92) dX9_walk_84 rfl rfl ?_ ?_
            · refine sw_ild_5_3 (np := 93) dX9_walk_92 rfl ?_
              refine sw_ist_5_3 (np := 94) dX9_walk_93 rfl rfl ?_
              refine sw_inc_5_4 (np := 97) dX9_walk_94 sw_ic_1 rfl rfl ?_
              refine sw_goto (tp := 25) dX9_walk_97 rfl ?_
              exact hrec1 _ _ _ _
            · refine sw_ild_5_4 (np := 89) dX9_walk_87 rfl ?_
              refine sw_goto (tp := 93) dX9_walk_89 rfl ?_
              refine sw_ist_5_3 (np := 94) dX9_walk_93 rfl rfl ?_
              refine sw_inc_5_4 (np := 97) dX9_walk_94 sw_ic_1 rfl rfl ?_
              refine sw_goto (tp := 25) dX9_walk_97 rfl ?_
              exact hrec1 _ _ _ _
  · refine sw_iconst (np := 13) dX9_walk_12 sw_ic_m1 rfl ?_
    exact sw_iret dX9_walk_13
/-- SwordAtticModel.rowsAre(I)I -/
def fX9_rowsAre (N : Nat) (p1 : Int32) (S : sw_St) : Option (Int32 × sw_St) :=
  if p1 < 0 then (some ((-1 : Int32), S)) else (sw_bd (fX9_isShelf N (p1 / (10 : Int32)) S) (fun r1 S1 => (if r1 = 0 then (some ((-1 : Int32), S1)) else (sw_bd (fX9_isShelf N (p1 - p1 / (10 : Int32) * (10 : Int32)) S1) (fun r2 S2 => (if r2 = 0 then (some ((-1 : Int32), S2)) else (sw_bd (fX9_bytesIs N (p1 / (10 : Int32)) S2) (fun r3 S3 => (if r3 ≥ 0 then (sw_bd (fX9_bytesIs N (p1 - p1 / (10 : Int32) * (10 : Int32)) S3) (fun r4 S4 => (some (r4, S4)))) else (sw_bd (fX9_bytesIs N (p1 / (10 : Int32)) S3) (fun r5 S5 => (some (r5, S5)))))))))))))
theorem hX9_rowsAre {G : sw_G} {N d : Nat} (hd : 4 ≤ d) {p1 : Int32}  {S : sw_St} : sw_Ev G yX9_rowsAre cX9_rowsAre 2 (some .int) d sw_ei [sw_vr G 105, .int p1] S (fX9_rowsAre N p1 S) := by
  refine sw_Ev_of (own := RX9) (lv0 := [some (sw_vr G 105), some (.int p1)]) (by decide) rfl (Nat.le_of_ble_eq_true rfl) rfl ?_
  unfold fX9_rowsAre
  refine sw_ild_2_1 (np := 1) dX9_rowsAre_0 rfl ?_
  refine sw_if_lt (np := 4) (tp := 24) dX9_rowsAre_1 rfl rfl ?_ ?_
  · refine sw_iconst (np := 25) dX9_rowsAre_24 sw_ic_m1 rfl ?_
    exact sw_iret dX9_rowsAre_25
  · refine sw_ild_2_1 (np := 5) dX9_rowsAre_4 rfl ?_
    refine sw_bipush (np := 7) dX9_rowsAre_5 sw_bc_10 rfl ?_
    refine sw_idiv (np := 8) dX9_rowsAre_7 (by decide) rfl ?_
    refine sw_cS1i (np := 11) (hX9_isShelf (d := d - 1) (by omega) ) sw_ms_X9_isShelf sw_wl_RX9_119 dX9_rowsAre_8 (sw_fit_rm (by omega) (by decide)) (Nat.le_of_ble_eq_true rfl) rfl (fun r1 S1 => ?_)
    refine sw_if_eq (np := 14) (tp := 24) dX9_rowsAre_11 rfl rfl ?_ ?_
    · refine sw_iconst (np := 25) dX9_rowsAre_24 sw_ic_m1 rfl ?_
      exact sw_iret dX9_rowsAre_25
    · refine sw_ild_2_1 (np := 15) dX9_rowsAre_14 rfl ?_
      refine sw_bipush (np := 17) dX9_rowsAre_15 sw_bc_10 rfl ?_
      refine sw_irem (np := 18) dX9_rowsAre_17 (by decide) rfl ?_
      refine sw_cS1i (np := 21) (hX9_isShelf (d := d - 1) (by omega) ) sw_ms_X9_isShelf sw_wl_RX9_119 dX9_rowsAre_18 (sw_fit_rm (by omega) (by decide)) (Nat.le_of_ble_eq_true rfl) rfl (fun r2 S2 => ?_)
      refine sw_if_ne (np := 24) (tp := 26) dX9_rowsAre_21 rfl rfl ?_ ?_
      · refine sw_ald_2_0 (np := 27) dX9_rowsAre_26 rfl ?_
        refine sw_ild_2_1 (np := 28) dX9_rowsAre_27 rfl ?_
        refine sw_bipush (np := 30) dX9_rowsAre_28 sw_bc_10 rfl ?_
        refine sw_idiv (np := 31) dX9_rowsAre_30 (by decide) rfl ?_
        refine sw_cV1i (np := 34) (hX9_bytesIs (d := d - 1) (by omega) ) sw_mv_X9_bytesIs sw_k_105 sw_wl_RX9_245 dX9_rowsAre_31 (sw_fit_rm (by omega) (by decide)) (Nat.le_of_ble_eq_true rfl) rfl (fun r3 S3 => ?_)
        refine sw_if_ge (np := 37) (tp := 48) dX9_rowsAre_34 rfl rfl ?_ ?_
        · refine sw_ald_2_0 (np := 49) dX9_rowsAre_48 rfl ?_
          refine sw_ild_2_1 (np := 50) dX9_rowsAre_49 rfl ?_
          refine sw_bipush (np := 52) dX9_rowsAre_50 sw_bc_10 rfl ?_
          refine sw_irem (np := 53) dX9_rowsAre_52 (by decide) rfl ?_
          refine sw_cV1i (np := 56) (hX9_bytesIs (d := d - 1) (by omega) ) sw_mv_X9_bytesIs sw_k_105 sw_wl_RX9_245 dX9_rowsAre_53 (sw_fit_rm (by omega) (by decide)) (Nat.le_of_ble_eq_true rfl) rfl (fun r4 S4 => ?_)
          exact sw_iret dX9_rowsAre_56
        · refine sw_ald_2_0 (np := 38) dX9_rowsAre_37 rfl ?_
          refine sw_ild_2_1 (np := 39) dX9_rowsAre_38 rfl ?_
          refine sw_bipush (np := 41) dX9_rowsAre_39 sw_bc_10 rfl ?_
          refine sw_idiv (np := 42) dX9_rowsAre_41 (by decide) rfl ?_
          refine sw_cV1i (np := 45) (hX9_bytesIs (d := d - 1) (by omega) ) sw_mv_X9_bytesIs sw_k_105 sw_wl_RX9_245 dX9_rowsAre_42 (sw_fit_rm (by omega) (by decide)) (Nat.le_of_ble_eq_true rfl) rfl (fun r5 S5 => ?_)
          refine sw_goto (tp := 56) dX9_rowsAre_45 rfl ?_
          exact sw_iret dX9_rowsAre_56
      · refine sw_iconst (np := 25) dX9_rowsAre_24 sw_ic_m1 rfl ?_
        exact sw_iret dX9_rowsAre_25
/-- SwordAtticModel.firstFalse(II)I -/
def fX9_firstFalse (N : Nat) (p1 : Int32) (p2 : Int32) (S : sw_St) : Option (Int32 × sw_St) :=
  sw_bd (fX9_begins N S) (fun _ S1 => (sw_bd (fX9_hourMany N (p1 / (10 : Int32)) S1) (fun r2 S2 => (sw_fx1 (fun rec1 x4_1 S3 => (sw_gd (sw_in (p1 - p1 / (10 : Int32) * (10 : Int32)) 6) (if x4_1 ≥ (S3.1 125 (p1 - p1 / (10 : Int32) * (10 : Int32)).toNatClampNeg) then (some ((-2 : Int32), S3)) else (if x4_1 ≤ r2 then (sw_jn0 (fun S4 => (sw_gd (sw_in (((60 : Int32) * (p1 - p1 / (10 : Int32) * (10 : Int32))) + x4_1) 360) (sw_gd (sw_in p2 10) (if (lg_cmp (S4.2 126 (((60 : Int32) * (p1 - p1 / (10 : Int32) * (10 : Int32))) + x4_1).toNatClampNeg) ((S4.1 114 p2.toNatClampNeg).toInt64)) = 0 then (rec1 (x4_1 + (1 : Int32)) S4) else (some (x4_1, S4)))))) (fun k1 => (if x4_1 ≤ 0 then (k1 S3) else (sw_bd (fX9_goesNext N (p1 / (10 : Int32)) (x4_1 - (1 : Int32)) S3) (fun _ S5 => (k1 S5)))))) else (some (x4_1, S3)))))) N (0 : Int32) S2))))
theorem hX9_firstFalse {G : sw_G} {N d : Nat} (hd : 108 ≤ d) {p1 : Int32} {p2 : Int32}  {S : sw_St} : sw_Ev G yX9_firstFalse cX9_firstFalse 5 (some .int) d sw_ei [sw_vr G 105, .int p1, .int p2] S (fX9_firstFalse N p1 p2 S) := by
  refine sw_Ev_of (own := RX9) (lv0 := [some (sw_vr G 105), some (.int p1), some (.int p2), none, none]) (by decide) rfl (Nat.le_of_ble_eq_true rfl) rfl ?_
  unfold fX9_firstFalse
  refine sw_ald_5_0 (np := 1) dX9_firstFalse_0 rfl ?_
  refine sw_cV0v (np := 4) (hX9_begins (d := d - 1) (by omega) ) sw_mv_X9_begins sw_k_105 sw_wl_RX9_233 dX9_firstFalse_1 (sw_fit_rm (by omega) (by decide)) (Nat.le_of_ble_eq_true rfl) rfl (fun _ S1 => ?_)
  refine sw_ald_5_0 (np := 5) dX9_firstFalse_4 rfl ?_
  refine sw_ild_5_1 (np := 6) dX9_firstFalse_5 rfl ?_
  refine sw_bipush (np := 8) dX9_firstFalse_6 sw_bc_10 rfl ?_
  refine sw_idiv (np := 9) dX9_firstFalse_8 (by decide) rfl ?_
  refine sw_cV1i (np := 12) (hX9_hourMany (d := d - 1) (by omega) ) sw_mv_X9_hourMany sw_k_105 sw_wl_RX9_239 dX9_firstFalse_9 (sw_fit_rm (by omega) (by decide)) (Nat.le_of_ble_eq_true rfl) rfl (fun r2 S2 => ?_)
  refine sw_ist_5_3 (np := 13) dX9_firstFalse_12 rfl rfl ?_
  refine sw_iconst (np := 14) dX9_firstFalse_13 sw_ic_0 rfl ?_
  refine sw_ist_5_4 (np := 16) dX9_firstFalse_14 rfl rfl ?_
  refine sw_lp1 (lv := fun x4_1 => [some (sw_vr G 105), some (.int p1), some (.int p2), some (.int r2), some (.int x4_1)]) (fun rec1 hrec1 x4_1 S3 => ?_) _ _ _
  refine sw_ild_5_4 (np := 18) dX9_firstFalse_16 rfl ?_
  refine sw_ald_5_0 (np := 19) dX9_firstFalse_18 rfl ?_
  refine sw_gR (np := 22) sw_f_RX9_67 sw_k_105 sw_r_105_39 dX9_firstFalse_19 rfl ?_
  refine sw_ild_5_1 (np := 23) dX9_firstFalse_22 rfl ?_
  refine sw_bipush (np := 25) dX9_firstFalse_23 sw_bc_10 rfl ?_
  refine sw_irem (np := 26) dX9_firstFalse_25 (by decide) rfl ?_
  refine sw_iald (np := 27) sw_k_125 sw_n_125 dX9_firstFalse_26 rfl ?_
  refine sw_icmp_ge (np := 30) (tp := 91) dX9_firstFalse_27 rfl rfl ?_ ?_
  · refine sw_bipush (np := 93) dX9_firstFalse_91 sw_bc_m2 rfl ?_
    exact sw_iret dX9_firstFalse_93
  · refine sw_ild_5_4 (np := 32) dX9_firstFalse_30 rfl ?_
    refine sw_ild_5_3 (np := 33) dX9_firstFalse_32 rfl ?_
    refine sw_icmp_le (np := 36) (tp := 39) dX9_firstFalse_33 rfl rfl ?_ ?_
    · refine sw_ild_5_4 (np := 41) dX9_firstFalse_39 rfl ?_
      refine sw_jm0 (pj := 56) ([some (sw_vr G 105), some (.int p1), some (.int p2), some (.int r2), some (.int x4_1)]) ([]) (fun S4 => ?_) (fun k1 hk1 => ?_)
      · refine sw_ald_5_0 (np := 57) dX9_firstFalse_56 rfl ?_
        refine sw_gR (np := 60) sw_f_RX9_70 sw_k_105 sw_r_105_40 dX9_firstFalse_57 rfl ?_
        refine sw_bipush (np := 62) dX9_firstFalse_60 sw_bc_60 rfl ?_
        refine sw_ild_5_1 (np := 63) dX9_firstFalse_62 rfl ?_
        refine sw_bipush (np := 65) dX9_firstFalse_63 sw_bc_10 rfl ?_
        refine sw_irem (np := 66) dX9_firstFalse_65 (by decide) rfl ?_
        refine sw_imul (np := 67) dX9_firstFalse_66 rfl ?_
        refine sw_ild_5_4 (np := 69) dX9_firstFalse_67 rfl ?_
        refine sw_iadd (np := 70) dX9_firstFalse_69 rfl ?_
        refine sw_lald (np := 71) sw_k_126 sw_n_126 dX9_firstFalse_70 rfl ?_
        refine sw_ald_5_0 (np := 72) dX9_firstFalse_71 rfl ?_
        refine sw_gR (np := 75) sw_f_RX9_34 sw_k_105 sw_r_105_18 dX9_firstFalse_72 rfl ?_
        refine sw_ild_5_2 (np := 76) dX9_firstFalse_75 rfl ?_
        refine sw_iald (np := 77) sw_k_114 sw_n_114 dX9_firstFalse_76 rfl ?_
        refine sw_i2l (np := 78) dX9_firstFalse_77 rfl ?_
        refine sw_lcmp (np := 79) dX9_firstFalse_78 rfl ?_
        refine sw_if_eq (np := 82) (tp := 85) dX9_firstFalse_79 rfl rfl ?_ ?_
        · refine sw_inc_5_4 (np := 88) dX9_firstFalse_85 sw_ic_1 rfl rfl ?_
          refine sw_goto (tp := 16) dX9_firstFalse_88 rfl ?_
          exact hrec1 _ _
        · refine sw_ild_5_4 (np := 84) dX9_firstFalse_82 rfl ?_
          exact sw_iret dX9_firstFalse_84
      · refine sw_if_le (np := 44) (tp := 56) dX9_firstFalse_41 rfl rfl ?_ ?_
        · exact hk1 _
        · refine sw_ald_5_0 (np := 45) dX9_firstFalse_44 rfl ?_
          refine sw_ild_5_1 (np := 46) dX9_firstFalse_45 rfl ?_
          refine sw_bipush (np := 48) dX9_firstFalse_46 sw_bc_10 rfl ?_
          refine sw_idiv (np := 49) dX9_firstFalse_48 (by decide) rfl ?_
          refine sw_ild_5_4 (np := 51) dX9_firstFalse_49 rfl ?_
          refine sw_iconst (np := 52) dX9_firstFalse_51 sw_ic_1 rfl ?_
          refine sw_isub (np := 53) dX9_firstFalse_52 rfl ?_
          refine sw_cV2v (np := 56) (hX9_goesNext (d := d - 1) (by omega) ) sw_mv_X9_goesNext sw_k_105 sw_wl_RX9_242 dX9_firstFalse_53 (sw_fit_rm (by omega) (by decide)) (Nat.le_of_ble_eq_true rfl) rfl (fun _ S5 => ?_)
          exact hk1 _
    · refine sw_ild_5_4 (np := 38) dX9_firstFalse_36 rfl ?_
      exact sw_iret dX9_firstFalse_38
/-- SwordAtticModel.judge(II)I -/
def fX9_judge (N : Nat) (p1 : Int32) (p2 : Int32) (S : sw_St) : Option (Int32 × sw_St) :=
  sw_bd (fX9_rowsAre N p1 S) (fun r1 S1 => (if r1 = (-1 : Int32) then (some ((-1 : Int32), S1)) else (sw_bd (fX9_isSword N p2.toInt64 S1) (fun r2 S2 => (if r2 = 0 then (some ((-1 : Int32), S2)) else (sw_bd (fX9_rowsAre N p1 S2) (fun r3 S3 => (if r3 ≥ 0 then (sw_bd (fX9_firstFalse N p1 p2 S3) (fun r4 S4 => (some (r4, S4)))) else (sw_bd (fX9_rowsAre N p1 S3) (fun r5 S5 => (some (r5, S5))))))))))))
theorem hX9_judge {G : sw_G} {N d : Nat} (hd : 109 ≤ d) {p1 : Int32} {p2 : Int32}  {S : sw_St} : sw_Ev G yX9_judge cX9_judge 3 (some .int) d sw_ei [sw_vr G 105, .int p1, .int p2] S (fX9_judge N p1 p2 S) := by
  refine sw_Ev_of (own := RX9) (lv0 := [some (sw_vr G 105), some (.int p1), some (.int p2)]) (by decide) rfl (Nat.le_of_ble_eq_true rfl) rfl ?_
  unfold fX9_judge
  refine sw_ald_3_0 (np := 1) dX9_judge_0 rfl ?_
  refine sw_ild_3_1 (np := 2) dX9_judge_1 rfl ?_
  refine sw_cV1i (np := 5) (hX9_rowsAre (d := d - 1) (by omega) ) sw_mv_X9_rowsAre sw_k_105 sw_wl_RX9_294 dX9_judge_2 (sw_fit_rm (by omega) (by decide)) (Nat.le_of_ble_eq_true rfl) rfl (fun r1 S1 => ?_)
  refine sw_iconst (np := 6) dX9_judge_5 sw_ic_m1 rfl ?_
  refine sw_icmp_eq (np := 9) (tp := 18) dX9_judge_6 rfl rfl ?_ ?_
  · refine sw_iconst (np := 19) dX9_judge_18 sw_ic_m1 rfl ?_
    exact sw_iret dX9_judge_19
  · refine sw_ald_3_0 (np := 10) dX9_judge_9 rfl ?_
    refine sw_ild_3_2 (np := 11) dX9_judge_10 rfl ?_
    refine sw_i2l (np := 12) dX9_judge_11 rfl ?_
    refine sw_cV1i (np := 15) (hX9_isSword (d := d - 1) (by omega) ) sw_mv_X9_isSword sw_k_105 sw_wl_RX9_127 dX9_judge_12 (sw_fit_rm (by omega) (by decide)) (Nat.le_of_ble_eq_true rfl) rfl (fun r2 S2 => ?_)
    refine sw_if_ne (np := 18) (tp := 20) dX9_judge_15 rfl rfl ?_ ?_
    · refine sw_ald_3_0 (np := 21) dX9_judge_20 rfl ?_
      refine sw_ild_3_1 (np := 22) dX9_judge_21 rfl ?_
      refine sw_cV1i (np := 25) (hX9_rowsAre (d := d - 1) (by omega) ) sw_mv_X9_rowsAre sw_k_105 sw_wl_RX9_294 dX9_judge_22 (sw_fit_rm (by omega) (by decide)) (Nat.le_of_ble_eq_true rfl) rfl (fun r3 S3 => ?_)
      refine sw_if_ge (np := 28) (tp := 36) dX9_judge_25 rfl rfl ?_ ?_
      · refine sw_ald_3_0 (np := 37) dX9_judge_36 rfl ?_
        refine sw_ild_3_1 (np := 38) dX9_judge_37 rfl ?_
        refine sw_ild_3_2 (np := 39) dX9_judge_38 rfl ?_
        refine sw_cV2i (np := 42) (hX9_firstFalse (d := d - 1) (by omega) ) sw_mv_X9_firstFalse sw_k_105 sw_wl_RX9_297 dX9_judge_39 (sw_fit_rm (by omega) (by decide)) (Nat.le_of_ble_eq_true rfl) rfl (fun r4 S4 => ?_)
        exact sw_iret dX9_judge_42
      · refine sw_ald_3_0 (np := 29) dX9_judge_28 rfl ?_
        refine sw_ild_3_1 (np := 30) dX9_judge_29 rfl ?_
        refine sw_cV1i (np := 33) (hX9_rowsAre (d := d - 1) (by omega) ) sw_mv_X9_rowsAre sw_k_105 sw_wl_RX9_294 dX9_judge_30 (sw_fit_rm (by omega) (by decide)) (Nat.le_of_ble_eq_true rfl) rfl (fun r5 S5 => ?_)
        refine sw_goto (tp := 42) dX9_judge_33 rfl ?_
        exact sw_iret dX9_judge_42
    · refine sw_iconst (np := 19) dX9_judge_18 sw_ic_m1 rfl ?_
      exact sw_iret dX9_judge_19
/-- SwordAtticModel.fits(III)I -/
def fX9_fits (N : Nat) (p1 : Int32) (p2 : Int32) (p3 : Int32) (S : sw_St) : Option (Int32 × sw_St) :=
  sw_bd (fX9_rowsAre N p1 S) (fun r1 S1 => (if r1 = (-1 : Int32) then (some ((-1 : Int32), S1)) else (if p2 < 0 then (some ((-1 : Int32), S1)) else (sw_bd (fX9_isSword N ((p2 / (10 : Int32)).toInt64) S1) (fun r2 S2 => (if r2 = 0 then (some ((-1 : Int32), S2)) else (sw_bd (fX9_isSword N ((p2 - p2 / (10 : Int32) * (10 : Int32)).toInt64) S2) (fun r3 S3 => (if r3 = 0 then (some ((-1 : Int32), S3)) else (sw_bd (fX9_within N p3.toInt64 (0 : Int64) (3 : Int64) S3) (fun r4 S4 => (if r4 = 0 then (some ((-1 : Int32), S4)) else (sw_bd (fX9_rowsAre N p1 S4) (fun r5 S5 => (if r5 ≥ 0 then (sw_jn1 (fun y1 S6 => (sw_li (y1 + (p2 - p2 / (10 : Int32) * (10 : Int32))) (fun x4_1 => (sw_gd (sw_in x4_1 53) (sw_li (S6.1 106 x4_1.toNatClampNeg) (fun x5_1 => (sw_fx3 (fun rec1 x6_1 x7_1 x8_1 S7 => (sw_jn1 (fun y2 S8 => (if x8_1 > y2 then (sw_gd (sw_in x4_1 53) (sw_ls (sw_si S8 106 x4_1.toNatClampNeg x5_1) (fun S9 => (if (p3 - p3 / (2 : Int32) * (2 : Int32)) = 0 then (some (x6_1, S9)) else (some (x7_1, S9)))))) else (sw_gd (sw_in x4_1 53) (sw_ls (sw_si S8 106 x4_1.toNatClampNeg x8_1) (fun S10 => (sw_bd (fX9_firstFalse N p1 (p2 / (10 : Int32)) S10) (fun r6 S11 => (if r6 = (-2 : Int32) then (if x6_1 = 0 then (rec1 (x6_1 + (1 : Int32)) x8_1 (x8_1 + (1 : Int32)) S11) else (rec1 (x6_1 + (1 : Int32)) x7_1 (x8_1 + (1 : Int32)) S11)) else (rec1 x6_1 x7_1 (x8_1 + (1 : Int32)) S11))))))))) (fun k2 => (if p3 ≥ (2 : Int32) then (k2 (99 : Int32) S7) else (k2 (9 : Int32) S7))))) N (0 : Int32) (-2 : Int32) (0 : Int32) S6))))))) (fun k1 => (if p3 ≥ (2 : Int32) then (k1 (20 : Int32) S5) else (k1 (10 : Int32) S5)))) else (sw_bd (fX9_rowsAre N p1 S5) (fun r7 S12 => (some (r7, S12)))))))))))))))))))
theorem hX9_fits {G : sw_G} {N d : Nat} (hd : 109 ≤ d) {p1 : Int32} {p2 : Int32} {p3 : Int32}  {S : sw_St} : sw_Ev G yX9_fits cX9_fits 9 (some .int) d sw_ei [sw_vr G 105, .int p1, .int p2, .int p3] S (fX9_fits N p1 p2 p3 S) := by
  refine sw_Ev_of (own := RX9) (lv0 := [some (sw_vr G 105), some (.int p1), some (.int p2), some (.int p3), none, none, none, none, none]) (by decide) rfl (Nat.le_of_ble_eq_true rfl) rfl ?_
  unfold fX9_fits
  refine sw_ald_9_0 (np := 1) dX9_fits_0 rfl ?_
  refine sw_ild_9_1 (np := 2) dX9_fits_1 rfl ?_
  refine sw_cV1i (np := 5) (hX9_rowsAre (d := d - 1) (by omega) ) sw_mv_X9_rowsAre sw_k_105 sw_wl_RX9_294 dX9_fits_2 (sw_fit_rm (by omega) (by decide)) (Nat.le_of_ble_eq_true rfl) rfl (fun r1 S1 => ?_)
  refine sw_iconst (np := 6) dX9_fits_5 sw_ic_m1 rfl ?_
  refine sw_icmp_eq (np := 9) (tp := 49) dX9_fits_6 rfl rfl ?_ ?_
  · refine sw_iconst (np := 50) dX9_fits_49 sw_ic_m1 rfl ?_
    exact sw_iret dX9_fits_50
  · refine sw_ild_9_2 (np := 10) dX9_fits_9 rfl ?_
    refine sw_if_lt (np := 13) (tp := 49) dX9_fits_10 rfl rfl ?_ ?_
    · refine sw_iconst (np := 50) dX9_fits_49 sw_ic_m1 rfl ?_
      exact sw_iret dX9_fits_50
    · refine sw_ald_9_0 (np := 14) dX9_fits_13 rfl ?_
      refine sw_ild_9_2 (np := 15) dX9_fits_14 rfl ?_
      refine sw_bipush (np := 17) dX9_fits_15 sw_bc_10 rfl ?_
      refine sw_idiv (np := 18) dX9_fits_17 (by decide) rfl ?_
      refine sw_i2l (np := 19) dX9_fits_18 rfl ?_
      refine sw_cV1i (np := 22) (hX9_isSword (d := d - 1) (by omega) ) sw_mv_X9_isSword sw_k_105 sw_wl_RX9_127 dX9_fits_19 (sw_fit_rm (by omega) (by decide)) (Nat.le_of_ble_eq_true rfl) rfl (fun r2 S2 => ?_)
      refine sw_if_eq (np := 25) (tp := 49) dX9_fits_22 rfl rfl ?_ ?_
      · refine sw_iconst (np := 50) dX9_fits_49 sw_ic_m1 rfl ?_
        exact sw_iret dX9_fits_50
      · refine sw_ald_9_0 (np := 26) dX9_fits_25 rfl ?_
        refine sw_ild_9_2 (np := 27) dX9_fits_26 rfl ?_
        refine sw_bipush (np := 29) dX9_fits_27 sw_bc_10 rfl ?_
        refine sw_irem (np := 30) dX9_fits_29 (by decide) rfl ?_
        refine sw_i2l (np := 31) dX9_fits_30 rfl ?_
        refine sw_cV1i (np := 34) (hX9_isSword (d := d - 1) (by omega) ) sw_mv_X9_isSword sw_k_105 sw_wl_RX9_127 dX9_fits_31 (sw_fit_rm (by omega) (by decide)) (Nat.le_of_ble_eq_true rfl) rfl (fun r3 S3 => ?_)
        refine sw_if_eq (np := 37) (tp := 49) dX9_fits_34 rfl rfl ?_ ?_
        · refine sw_iconst (np := 50) dX9_fits_49 sw_ic_m1 rfl ?_
          exact sw_iret dX9_fits_50
        · refine sw_ild_9_3 (np := 38) dX9_fits_37 rfl ?_
          refine sw_i2l (np := 39) dX9_fits_38 rfl ?_
          refine sw_lconst (np := 40) dX9_fits_39 sw_lc_0 rfl ?_
          refine sw_ldc2 (np := 43) sw_wc_RX9_268 dX9_fits_40 rfl ?_
          refine sw_cS3i (np := 46) (hX9_within (d := d - 1) (by omega) ) sw_ms_X9_within sw_wl_RX9_98 dX9_fits_43 (sw_fit_rm (by omega) (by decide)) (Nat.le_of_ble_eq_true rfl) rfl (fun r4 S4 => ?_)
          refine sw_if_ne (np := 49) (tp := 51) dX9_fits_46 rfl rfl ?_ ?_
          · refine sw_ald_9_0 (np := 52) dX9_fits_51 rfl ?_
            refine sw_ild_9_1 (np := 53) dX9_fits_52 rfl ?_
            refine sw_cV1i (np := 56) (hX9_rowsAre (d := d - 1) (by omega) ) sw_mv_X9_rowsAre sw_k_105 sw_wl_RX9_294 dX9_fits_53 (sw_fit_rm (by omega) (by decide)) (Nat.le_of_ble_eq_true rfl) rfl (fun r5 S5 => ?_)
            refine sw_if_ge (np := 59) (tp := 65) dX9_fits_56 rfl rfl ?_ ?_
            · refine sw_ild_9_3 (np := 66) dX9_fits_65 rfl ?_
              refine sw_iconst (np := 67) dX9_fits_66 sw_ic_2 rfl ?_
              refine sw_jm1 (pj := 77) (fun y1 => [some (sw_vr G 105), some (.int p1), some (.int p2), some (.int p3), none, none, none, none, none]) (fun y1 => [.int y1]) (fun y1 S6 => ?_) (fun k1 hk1 => ?_)
              · refine sw_ild_9_2 (np := 78) dX9_fits_77 rfl ?_
                refine sw_bipush (np := 80) dX9_fits_78 sw_bc_10 rfl ?_
                refine sw_irem (np := 81) dX9_fits_80 (by decide) rfl ?_
                refine sw_iadd (np := 82) dX9_fits_81 rfl ?_
                refine sw_isl_9_4 (np := 84) dX9_fits_82 rfl rfl (fun x4_1 => ?_)
                refine sw_ald_9_0 (np := 85) dX9_fits_84 rfl ?_
                refine sw_gR (np := 88) sw_f_RX9_9 sw_k_105 sw_r_105_0 dX9_fits_85 rfl ?_
                refine sw_ild_9_4 (np := 90) dX9_fits_88 rfl ?_
                refine sw_iald (np := 91) sw_k_106 sw_n_106 dX9_fits_90 rfl ?_
                refine sw_isl_9_5 (np := 93) dX9_fits_91 rfl rfl (fun x5_1 => ?_)
                refine sw_iconst (np := 94) dX9_fits_93 sw_ic_0 rfl ?_
                refine sw_ist_9_6 (np := 96) dX9_fits_94 rfl rfl ?_
                refine sw_bipush (np := 98) dX9_fits_96 sw_bc_m2 rfl ?_
                refine sw_ist_9_7 (np := 100) dX9_fits_98 rfl rfl ?_
                refine sw_iconst (np := 101) dX9_fits_100 sw_ic_0 rfl ?_
                refine sw_ist_9_8 (np := 103) dX9_fits_101 rfl rfl ?_
                refine sw_lp3 (lv := fun x6_1 x7_1 x8_1 => [some (sw_vr G 105), some (.int p1), some (.int p2), some (.int p3), some (.int x4_1), some (.int x5_1), some (.int x6_1), some (.int x7_1), some (.int x8_1)]) (fun rec1 hrec1 x6_1 x7_1 x8_1 S7 => ?_) _ _ _ _ _
                refine sw_ild_9_8 (np := 105) dX9_fits_103 rfl ?_
                refine sw_ild_9_3 (np := 106) dX9_fits_105 rfl ?_
                refine sw_iconst (np := 107) dX9_fits_106 sw_ic_2 rfl ?_
                refine sw_jm1 (pj := 117) (fun y2 => [some (sw_vr G 105), some (.int p1), some (.int p2), some (.int p3), some (.int x4_1), some (.int x5_1), some (.int x6_1), some (.int x7_1), some (.int x8_1)]) (fun y2 => [.int y2, .int x8_1]) (fun y2 S8 => ?_) (fun k2 hk2 => ?_)
                · refine sw_icmp_gt (np := 120) (tp := 166) dX9_fits_117 rfl rfl ?_ ?_
                  · refine sw_ald_9_0 (np := 167) dX9_fits_166 rfl ?_
                    refine sw_gR (np := 170) sw_f_RX9_9 sw_k_105 sw_r_105_0 dX9_fits_167 rfl ?_
                    refine sw_ild_9_4 (np := 172) dX9_fits_170 rfl ?_
                    refine sw_ild_9_5 (np := 174) dX9_fits_172 rfl ?_
                    refine sw_sI (np := 175) sw_k_106 sw_n_106 dX9_fits_174 rfl (fun S9 => ?_)
                    refine sw_ild_9_3 (np := 176) dX9_fits_175 rfl ?_
                    refine sw_iconst (np := 177) dX9_fits_176 sw_ic_2 rfl ?_
                    refine sw_irem (np := 178) dX9_fits_177 (by decide) rfl ?_
                    refine sw_if_ne (np := 181) (tp := 186) dX9_fits_178 rfl rfl ?_ ?_
                    · refine sw_ild_9_7 (np := 188) dX9_fits_186 rfl ?_
                      exact sw_iret dX9_fits_188
                    · refine sw_ild_9_6 (np := 183) dX9_fits_181 rfl ?_
                      refine sw_goto (tp := 188) dX9_fits_183 rfl ?_
                      exact sw_iret dX9_fits_188
                  · refine sw_ald_9_0 (np := 121) dX9_fits_120 rfl ?_
                    refine sw_gR (np := 124) sw_f_RX9_9 sw_k_105 sw_r_105_0 dX9_fits_121 rfl ?_
                    refine sw_ild_9_4 (np := 126) dX9_fits_124 rfl ?_
                    refine sw_ild_9_8 (np := 128) dX9_fits_126 rfl ?_
                    refine sw_sI (np := 129) sw_k_106 sw_n_106 dX9_fits_128 rfl (fun S10 => ?_)
                    refine sw_ald_9_0 (np := 130) dX9_fits_129 rfl ?_
                    refine sw_ild_9_1 (np := 131) dX9_fits_130 rfl ?_
                    refine sw_ild_9_2 (np := 132) dX9_fits_131 rfl ?_
                    refine sw_bipush (np := 134) dX9_fits_132 sw_bc_10 rfl ?_
                    refine sw_idiv (np := 135) dX9_fits_134 (by decide) rfl ?_
                    refine sw_cV2i (np := 138) (hX9_firstFalse (d := d - 1) (by omega) ) sw_mv_X9_firstFalse sw_k_105 sw_wl_RX9_297 dX9_fits_135 (sw_fit_rm (by omega) (by decide)) (Nat.le_of_ble_eq_true rfl) rfl (fun r6 S11 => ?_)
                    refine sw_bipush (np := 140) dX9_fits_138 sw_bc_m2 rfl ?_
                    refine sw_icmp_ne (np := 143) (tp := 160) dX9_fits_140 rfl rfl ?_ ?_
                    · refine sw_inc_9_8 (np := 163) dX9_fits_160 sw_ic_1 rfl rfl ?_
                      refine sw_goto (tp := 103) dX9_fits_163 rfl ?_
                      exact hrec1 _ _ _ _
                    · refine sw_ild_9_6 (np := 145) dX9_fits_143 rfl ?_
                      refine sw_if_ne (np := 148) (tp := 153) dX9_fits_145 rfl rfl ?_ ?_
                      · refine sw_ild_9_7 (np := 155) dX9_fits_153 rfl ?_
                        refine sw_ist_9_7 (np := 157) dX9_fits_155 rfl rfl ?_
                        refine sw_inc_9_6 (np := 160) dX9_fits_157 sw_ic_1 rfl rfl ?_
                        refine sw_inc_9_8 (np := 163) dX9_fits_160 sw_ic_1 rfl rfl ?_
                        refine sw_goto (tp := 103) dX9_fits_163 rfl ?_
                        exact hrec1 _ _ _ _
                      · refine sw_ild_9_8 (np := 150) dX9_fits_148 rfl ?_
                        refine sw_goto (tp := 155) dX9_fits_150 rfl ?_
                        refine sw_ist_9_7 (np := 157) dX9_fits_155 rfl rfl ?_
                        refine sw_inc_9_6 (np := 160) dX9_fits_157 sw_ic_1 rfl rfl ?_
                        refine sw_inc_9_8 (np := 163) dX9_fits_160 sw_ic_1 rfl rfl ?_
                        refine sw_goto (tp := 103) dX9_fits_163 rfl ?_
                        exact hrec1 _ _ _ _
                · refine sw_icmp_ge (np := 110) (tp := 115) dX9_fits_107 rfl rfl ?_ ?_
                  · refine sw_bipush (np := 117) dX9_fits_115 sw_bc_99 rfl ?_
                    exact hk2 _ _
                  · refine sw_bipush (np := 112) dX9_fits_110 sw_bc_9 rfl ?_
                    refine sw_goto (tp := 117) dX9_fits_112 rfl ?_
                    exact hk2 _ _
              · refine sw_icmp_ge (np := 70) (tp := 75) dX9_fits_67 rfl rfl ?_ ?_
                · refine sw_bipush (np := 77) dX9_fits_75 sw_bc_20 rfl ?_
                  exact hk1 _ _
                · refine sw_bipush (np := 72) dX9_fits_70 sw_bc_10 rfl ?_
                  refine sw_goto (tp := 77) dX9_fits_72 rfl ?_
                  exact hk1 _ _
            · refine sw_ald_9_0 (np := 60) dX9_fits_59 rfl ?_
              refine sw_ild_9_1 (np := 61) dX9_fits_60 rfl ?_
              refine sw_cV1i (np := 64) (hX9_rowsAre (d := d - 1) (by omega) ) sw_mv_X9_rowsAre sw_k_105 sw_wl_RX9_294 dX9_fits_61 (sw_fit_rm (by omega) (by decide)) (Nat.le_of_ble_eq_true rfl) rfl (fun r7 S12 => ?_)
              exact sw_iret dX9_fits_64
          · refine sw_iconst (np := 50) dX9_fits_49 sw_ic_m1 rfl ?_
            exact sw_iret dX9_fits_50
