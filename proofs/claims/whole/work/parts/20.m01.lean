/-- SwordAttic$Blades.add(I)I -/
def fX0_add (N : Nat) (p1 : Int32) (S : sw_St) : Option (Int32 × sw_St) :=
  sw_gd (sw_in (S.1 89 0) 50) (sw_ls (sw_si S 90 (S.1 89 0).toNatClampNeg p1) (fun S1 => (sw_ls (sw_si S1 89 0 ((S1.1 89 0) + (1 : Int32))) (fun S2 => (some ((S1.1 89 0), S2))))))
theorem hX0_add {G : sw_G} {N d : Nat} (hd : 1 ≤ d) {p1 : Int32}  {S : sw_St} : sw_Ev G yX0_add cX0_add 2 (some .int) d sw_ei [sw_vr G 89, .int p1] S (fX0_add N p1 S) := by
  refine sw_Ev_of (own := RX0) (lv0 := [some (sw_vr G 89), some (.int p1)]) (by decide) rfl (Nat.le_of_ble_eq_true rfl) rfl ?_
  unfold fX0_add
  refine sw_ald_2_0 (np := 1) dX0_add_0 rfl ?_
  refine sw_gR (np := 4) sw_f_RX0_16 sw_k_89 sw_r_89_2 dX0_add_1 rfl ?_
  refine sw_ald_2_0 (np := 5) dX0_add_4 rfl ?_
  refine sw_gI (np := 8) sw_f_RX0_7 sw_k_89 dX0_add_5 rfl ?_
  refine sw_ild_2_1 (np := 9) dX0_add_8 rfl ?_
  refine sw_sI (np := 10) sw_k_90 sw_n_90 dX0_add_9 rfl (fun S1 => ?_)
  refine sw_ald_2_0 (np := 11) dX0_add_10 rfl ?_
  refine sw_dup (np := 12) dX0_add_11 rfl rfl ?_
  refine sw_gI (np := 15) sw_f_RX0_7 sw_k_89 dX0_add_12 rfl ?_
  refine sw_dup_x1 (np := 16) dX0_add_15 rfl rfl rfl ?_
  refine sw_iconst (np := 17) dX0_add_16 sw_ic_1 rfl ?_
  refine sw_iadd (np := 18) dX0_add_17 rfl ?_
  refine sw_pI (np := 21) sw_f_RX0_7 sw_fp_0_0 sw_k_89 dX0_add_18 rfl (fun S2 => ?_)
  exact sw_iret dX0_add_21
/-- SwordAttic$Blades.isUnder(II)Z -/
def fX0_isUnder (N : Nat) (p0 : Int32) (p1 : Int32) (S : sw_St) : Option (Int32 × sw_St) :=
  sw_fx2 (fun rec1 x2_1 x3_1 S1 => (if x3_1 ≥ (8 : Int32) then (some (vp_nar .boolean (0 : Int32), S1)) else (if x2_1 < 0 then (some (vp_nar .boolean (0 : Int32), S1)) else (if x2_1 = p1 then (some (vp_nar .boolean (1 : Int32), S1)) else (sw_gd (sw_in x2_1 8) (sw_li ((sw_tb 2).getD x2_1.toNatClampNeg 0) (fun x2_2 => (rec1 x2_2 (x3_1 + (1 : Int32)) S1)))))))) N p0 (0 : Int32) S
theorem hX0_isUnder {G : sw_G} {N d : Nat} (hd : 1 ≤ d) {p0 : Int32} {p1 : Int32}  {S : sw_St} : sw_Ev G yX0_isUnder cX0_isUnder 4 (some .boolean) d sw_ei [.int p0, .int p1] S (fX0_isUnder N p0 p1 S) := by
  refine sw_Ev_of (own := RX0) (lv0 := [some (.int p0), some (.int p1), none, none]) (by decide) rfl (Nat.le_of_ble_eq_true rfl) rfl ?_
  unfold fX0_isUnder
  refine sw_ild_4_0 (np := 1) dX0_isUnder_0 rfl ?_
  refine sw_ist_4_2 (np := 2) dX0_isUnder_1 rfl rfl ?_
  refine sw_iconst (np := 3) dX0_isUnder_2 sw_ic_0 rfl ?_
  refine sw_ist_4_3 (np := 4) dX0_isUnder_3 rfl rfl ?_
  refine sw_dr_4_0 ?_
  refine sw_lp2 (lv := fun x2_1 x3_1 => [none, some (.int p1), some (.int x2_1), some (.int x3_1)]) (fun rec1 hrec1 x2_1 x3_1 S1 => ?_) _ _ _ _
  refine sw_ild_4_3 (np := 5) dX0_isUnder_4 rfl ?_
  refine sw_bipush (np := 7) dX0_isUnder_5 sw_bc_8 rfl ?_
  refine sw_icmp_ge (np := 10) (tp := 33) dX0_isUnder_7 rfl rfl ?_ ?_
  · refine sw_iconst (np := 34) dX0_isUnder_33 sw_ic_0 rfl ?_
    exact sw_zret dX0_isUnder_34
  · refine sw_ild_4_2 (np := 11) dX0_isUnder_10 rfl ?_
    refine sw_if_lt (np := 14) (tp := 33) dX0_isUnder_11 rfl rfl ?_ ?_
    · refine sw_iconst (np := 34) dX0_isUnder_33 sw_ic_0 rfl ?_
      exact sw_zret dX0_isUnder_34
    · refine sw_ild_4_2 (np := 15) dX0_isUnder_14 rfl ?_
      refine sw_ild_4_1 (np := 16) dX0_isUnder_15 rfl ?_
      refine sw_icmp_ne (np := 19) (tp := 21) dX0_isUnder_16 rfl rfl ?_ ?_
      · refine sw_gets (np := 24) (fun _ _ h => sw_hs_2 h) rfl sw_ws_RX0_26 dX0_isUnder_21 rfl ?_
        refine sw_ild_4_2 (np := 25) dX0_isUnder_24 rfl ?_
        refine sw_tald (np := 26) (fun _ _ h => sw_hs_2 h) dX0_isUnder_25 rfl ?_
        refine sw_isl_4_2 (np := 27) dX0_isUnder_26 rfl rfl (fun x2_2 => ?_)
        refine sw_inc_4_3 (np := 30) dX0_isUnder_27 sw_ic_1 rfl rfl ?_
        refine sw_goto (tp := 4) dX0_isUnder_30 rfl ?_
        exact hrec1 _ _ _
      · refine sw_iconst (np := 20) dX0_isUnder_19 sw_ic_1 rfl ?_
        exact sw_zret dX0_isUnder_20
/-- SwordAttic$Blades.own, over what calls it again -/
def gX0_own (N : Nat) (RR : Nat → Int32 → Int32 → Int32 → Int32 → sw_St → Option (Int32 × sw_St)) (p1 : Int32) (p2 : Int32) (p3 : Int32) (S : sw_St) : Option (Int32 × sw_St) :=
  sw_gd (sw_in (S.1 89 4) 50) (sw_bd (RR 2 (S.1 90 (S.1 89 4).toNatClampNeg) p1 p2 p3 S) (fun r1 S1 => (some (r1, S1))))
/-- SwordAttic$Blades.above, over what calls it again -/
def gX0_above (N : Nat) (RR : Nat → Int32 → Int32 → Int32 → Int32 → sw_St → Option (Int32 × sw_St)) (p1 : Int32) (p2 : Int32) (p3 : Int32) (p4 : Int32) (S : sw_St) : Option (Int32 × sw_St) :=
  sw_gd (sw_in p1 8) (sw_bd (RR 2 ((sw_tb 2).getD p1.toNatClampNeg 0) p2 p3 p4 S) (fun r1 S1 => (some (r1, S1))))
/-- SwordAttic$Blades.from, over what calls it again -/
def gX0_from (N : Nat) (RR : Nat → Int32 → Int32 → Int32 → Int32 → sw_St → Option (Int32 × sw_St)) (p1 : Int32) (p2 : Int32) (p3 : Int32) (p4 : Int32) (S : sw_St) : Option (Int32 × sw_St) :=
  sw_fx2 (fun rec1 x5_1 x6_1 S1 => (if x6_1 ≥ (8 : Int32) then (some ((0 : Int32), S1)) else (if x5_1 < 0 then (some ((0 : Int32), S1)) else (sw_gd (sw_in ((x5_1 * (4 : Int32)) + p2) 32) (sw_li ((sw_tb 3).getD ((x5_1 * (4 : Int32)) + p2).toNatClampNeg 0) (fun x7_1 => (if x7_1 = 0 then (sw_gd (sw_in x5_1 8) (sw_li ((sw_tb 2).getD x5_1.toNatClampNeg 0) (fun x5_2 => (rec1 x5_2 (x6_1 + (1 : Int32)) S1)))) else (if p4 ≥ (40 : Int32) then (some ((0 : Int32), S1)) else (sw_bd (RR 3 x7_1 p3 (p4 + (1 : Int32)) 0 S1) (fun r1 S2 => (some (r1, S2)))))))))))) N p1 (0 : Int32) S
/-- SwordAttic$Blades.run, over what calls it again -/
def gX0_run (N : Nat) (RR : Nat → Int32 → Int32 → Int32 → Int32 → sw_St → Option (Int32 × sw_St)) (p1 : Int32) (p2 : Int32) (p3 : Int32) (S : sw_St) : Option (Int32 × sw_St) :=
  sw_jn0 (fun S1 => (sw_ls (sw_si S1 89 1 ((S1.1 89 1) + (1 : Int32))) (fun S2 => (if p1 = (1 : Int32) then (some ((p2 + (S2.1 89 4)), S2)) else (if p1 = (2 : Int32) then (sw_bd (RR 0 (1 : Int32) p2 p3 0 S2) (fun r1 S3 => (sw_bd (RR 0 (2 : Int32) (1 : Int32) p3 0 S3) (fun r2 S4 => (some ((r1 - r2), S4)))))) else (if p1 = (10 : Int32) then (sw_bd (RR 0 (0 : Int32) p2 p3 0 S2) (fun r3 S5 => (some ((r3 * (2 : Int32)), S5)))) else (if p1 = (11 : Int32) then (some ((p2 ^^^ (S2.1 89 4)), S2)) else (if p1 = (20 : Int32) then (sw_bd (RR 1 (1 : Int32) (0 : Int32) p2 p3 S2) (fun r4 S6 => (some ((r4 + (3 : Int32)), S6)))) else (if p1 = (30 : Int32) then (sw_bd (RR 1 (2 : Int32) (1 : Int32) p2 p3 S2) (fun r5 S7 => (some ((-r5), S7)))) else (if p1 = (40 : Int32) then (sw_bd (RR 1 (3 : Int32) (2 : Int32) p2 p3 S2) (fun r6 S8 => (some ((r6 * (3 : Int32)), S8)))) else (if p1 = (41 : Int32) then (sw_bd (RR 1 (3 : Int32) (1 : Int32) (p2 + (1 : Int32)) p3 S2) (fun r7 S9 => (some (r7, S9)))) else (if p1 = (50 : Int32) then (sw_bd (RR 1 (4 : Int32) (2 : Int32) p2 p3 S2) (fun r8 S10 => (sw_bd (RR 0 (0 : Int32) (2 : Int32) p3 0 S10) (fun r9 S11 => (some ((r8 - r9), S11)))))) else (if p1 = (60 : Int32) then (sw_bd (RR 1 (5 : Int32) (3 : Int32) p2 p3 S2) (fun r10 S12 => (some ((r10 ^^^ (5 : Int32)), S12)))) else (if p1 = (70 : Int32) then (sw_bd (RR 1 (6 : Int32) (0 : Int32) p2 p3 S2) (fun r11 S13 => (some ((r11 * (2 : Int32)), S13)))) else (if p1 = (80 : Int32) then (sw_bd (RR 1 (7 : Int32) (1 : Int32) p2 p3 S2) (fun r12 S14 => (sw_bd (RR 0 (2 : Int32) (2 : Int32) p3 0 S14) (fun r13 S15 => (some ((r12 + r13), S15)))))) else (if p1 = (81 : Int32) then (sw_bd (RR 1 (7 : Int32) (3 : Int32) p2 p3 S2) (fun r14 S16 => (some ((r14 - (1 : Int32)), S16)))) else (some ((0 : Int32), S2)))))))))))))))))) (fun k1 => (if (S.1 89 1) ≥ (24 : Int32) then (k1 S) else (sw_gd (sw_in (S.1 89 1) 24) (sw_ls (sw_si S 91 (S.1 89 1).toNatClampNeg p1) (fun S17 => (k1 S17))))))
def kG_1 (G : sw_G) (d : Nat) (RR : Nat → Int32 → Int32 → Int32 → Int32 → sw_St → Option (Int32 × sw_St)) : Prop :=
  (∀ (a b c e : Int32) (S : sw_St), sw_Ev G yX0_own cX0_own 4 (some .int) d sw_ei [sw_vr G 89, .int a, .int b, .int c] S (RR 0 a b c e S)) ∧
  (∀ (a b c e : Int32) (S : sw_St), sw_Ev G yX0_above cX0_above 5 (some .int) d sw_ei [sw_vr G 89, .int a, .int b, .int c, .int e] S (RR 1 a b c e S)) ∧
  (∀ (a b c e : Int32) (S : sw_St), sw_Ev G yX0_from cX0_from 8 (some .int) d sw_ei [sw_vr G 89, .int a, .int b, .int c, .int e] S (RR 2 a b c e S)) ∧
  (∀ (a b c e : Int32) (S : sw_St), sw_Ev G yX0_run cX0_run 4 (some .int) d sw_ei [sw_vr G 89, .int a, .int b, .int c] S (RR 3 a b c e S))
def fG_1 (N : Nat) : Nat → Nat → Int32 → Int32 → Int32 → Int32 → sw_St → Option (Int32 × sw_St)
  | 0 => fun _ _ _ _ _ _ => none
  | n + 1 => fun t a b c e S => match t with
    | 0 => gX0_own N (fG_1 N n) a b c S
    | 1 => gX0_above N (fG_1 N n) a b c e S
    | 2 => gX0_from N (fG_1 N n) a b c e S
    | _ => gX0_run N (fG_1 N n) a b c S
theorem ogX0_own {G : sw_G} {N d : Nat} (hd : 1 ≤ d) {RR : Nat → Int32 → Int32 → Int32 → Int32 → sw_St → Option (Int32 × sw_St)} (hR : kG_1 G (d - 1) RR) {p1 : Int32} {p2 : Int32} {p3 : Int32} {S : sw_St} : sw_Ev G yX0_own cX0_own 4 (some .int) d sw_ei [sw_vr G 89, .int p1, .int p2, .int p3] S (gX0_own N RR p1 p2 p3 S) := by
  refine sw_Ev_of (own := RX0) (lv0 := [some (sw_vr G 89), some (.int p1), some (.int p2), some (.int p3)]) (by decide) rfl (Nat.le_of_ble_eq_true rfl) rfl ?_
  unfold gX0_own
  refine sw_ald_4_0 (np := 1) dX0_own_0 rfl ?_
  refine sw_ald_4_0 (np := 2) dX0_own_1 rfl ?_
  refine sw_gR (np := 5) sw_f_RX0_16 sw_k_89 sw_r_89_2 dX0_own_2 rfl ?_
  refine sw_ald_4_0 (np := 6) dX0_own_5 rfl ?_
  refine sw_gI (np := 9) sw_f_RX0_23 sw_k_89 dX0_own_6 rfl ?_
  refine sw_iald (np := 10) sw_k_90 sw_n_90 dX0_own_9 rfl ?_
  refine sw_ild_4_1 (np := 11) dX0_own_10 rfl ?_
  refine sw_ild_4_2 (np := 12) dX0_own_11 rfl ?_
  refine sw_ild_4_3 (np := 13) dX0_own_12 rfl ?_
  refine sw_cV4i (np := 16) (hR.2.2.1 _ _ _ _ _) sw_mv_X0_from sw_k_89 sw_wl_RX0_35 dX0_own_13 (sw_fit_rm (by omega) (by decide)) (Nat.le_of_ble_eq_true rfl) rfl (fun r1 S1 => ?_)
  exact sw_iret dX0_own_16
theorem ogX0_above {G : sw_G} {N d : Nat} (hd : 1 ≤ d) {RR : Nat → Int32 → Int32 → Int32 → Int32 → sw_St → Option (Int32 × sw_St)} (hR : kG_1 G (d - 1) RR) {p1 : Int32} {p2 : Int32} {p3 : Int32} {p4 : Int32} {S : sw_St} : sw_Ev G yX0_above cX0_above 5 (some .int) d sw_ei [sw_vr G 89, .int p1, .int p2, .int p3, .int p4] S (gX0_above N RR p1 p2 p3 p4 S) := by
  refine sw_Ev_of (own := RX0) (lv0 := [some (sw_vr G 89), some (.int p1), some (.int p2), some (.int p3), some (.int p4)]) (by decide) rfl (Nat.le_of_ble_eq_true rfl) rfl ?_
  unfold gX0_above
  refine sw_ald_5_0 (np := 1) dX0_above_0 rfl ?_
  refine sw_gets (np := 4) (fun _ _ h => sw_hs_2 h) rfl sw_ws_RX0_26 dX0_above_1 rfl ?_
  refine sw_ild_5_1 (np := 5) dX0_above_4 rfl ?_
  refine sw_tald (np := 6) (fun _ _ h => sw_hs_2 h) dX0_above_5 rfl ?_
  refine sw_ild_5_2 (np := 7) dX0_above_6 rfl ?_
  refine sw_ild_5_3 (np := 8) dX0_above_7 rfl ?_
  refine sw_ild_5_4 (np := 10) dX0_above_8 rfl ?_
  refine sw_cV4i (np := 13) (hR.2.2.1 _ _ _ _ _) sw_mv_X0_from sw_k_89 sw_wl_RX0_35 dX0_above_10 (sw_fit_rm (by omega) (by decide)) (Nat.le_of_ble_eq_true rfl) rfl (fun r1 S1 => ?_)
  exact sw_iret dX0_above_13
theorem ogX0_from {G : sw_G} {N d : Nat} (hd : 1 ≤ d) {RR : Nat → Int32 → Int32 → Int32 → Int32 → sw_St → Option (Int32 × sw_St)} (hR : kG_1 G (d - 1) RR) {p1 : Int32} {p2 : Int32} {p3 : Int32} {p4 : Int32} {S : sw_St} : sw_Ev G yX0_from cX0_from 8 (some .int) d sw_ei [sw_vr G 89, .int p1, .int p2, .int p3, .int p4] S (gX0_from N RR p1 p2 p3 p4 S) := by
  refine sw_Ev_of (own := RX0) (lv0 := [some (sw_vr G 89), some (.int p1), some (.int p2), some (.int p3), some (.int p4), none, none, none]) (by decide) rfl (Nat.le_of_ble_eq_true rfl) rfl ?_
  unfold gX0_from
  refine sw_ild_8_1 (np := 1) dX0_from_0 rfl ?_
  refine sw_ist_8_5 (np := 3) dX0_from_1 rfl rfl ?_
  refine sw_iconst (np := 4) dX0_from_3 sw_ic_0 rfl ?_
  refine sw_ist_8_6 (np := 6) dX0_from_4 rfl rfl ?_
  refine sw_dr_8_1 ?_
  refine sw_lp2 (lv := fun x5_1 x6_1 => [some (sw_vr G 89), none, some (.int p2), some (.int p3), some (.int p4), some (.int x5_1), some (.int x6_1), none]) (fun rec1 hrec1 x5_1 x6_1 S1 => ?_) _ _ _ _
  refine sw_ild_8_6 (np := 8) dX0_from_6 rfl ?_
  refine sw_bipush (np := 10) dX0_from_8 sw_bc_8 rfl ?_
  refine sw_icmp_ge (np := 13) (tp := 72) dX0_from_10 rfl rfl ?_ ?_
  · refine sw_iconst (np := 73) dX0_from_72 sw_ic_0 rfl ?_
    exact sw_iret dX0_from_73
  · refine sw_ild_8_5 (np := 15) dX0_from_13 rfl ?_
    refine sw_if_lt (np := 18) (tp := 72) dX0_from_15 rfl rfl ?_ ?_
    · refine sw_iconst (np := 73) dX0_from_72 sw_ic_0 rfl ?_
      exact sw_iret dX0_from_73
    · refine sw_gets (np := 21) (fun _ _ h => sw_hs_3 h) rfl sw_ws_RX0_39 dX0_from_18 rfl ?_
      refine sw_ild_8_5 (np := 23) dX0_from_21 rfl ?_
      refine sw_iconst (np := 24) dX0_from_23 sw_ic_4 rfl ?_
      refine sw_imul (np := 25) dX0_from_24 rfl ?_
      refine sw_ild_8_2 (np := 26) dX0_from_25 rfl ?_
      refine sw_iadd (np := 27) dX0_from_26 rfl ?_
      refine sw_tald (np := 28) (fun _ _ h => sw_hs_3 h) dX0_from_27 rfl ?_
      refine sw_isl_8_7 (np := 30) dX0_from_28 rfl rfl (fun x7_1 => ?_)
      refine sw_ild_8_7 (np := 32) dX0_from_30 rfl ?_
      refine sw_if_eq (np := 35) (tp := 58) dX0_from_32 rfl rfl ?_ ?_
      · refine sw_gets (np := 61) (fun _ _ h => sw_hs_2 h) rfl sw_ws_RX0_26 dX0_from_58 rfl ?_
        refine sw_ild_8_5 (np := 63) dX0_from_61 rfl ?_
        refine sw_tald (np := 64) (fun _ _ h => sw_hs_2 h) dX0_from_63 rfl ?_
        refine sw_isl_8_5 (np := 66) dX0_from_64 rfl rfl (fun x5_2 => ?_)
        refine sw_inc_8_6 (np := 69) dX0_from_66 sw_ic_1 rfl rfl ?_
        refine sw_goto (tp := 6) dX0_from_69 rfl ?_
        refine sw_dr_8_7 ?_
        exact hrec1 _ _ _
      · refine sw_ild_8_4 (np := 37) dX0_from_35 rfl ?_
        refine sw_bipush (np := 39) dX0_from_37 sw_bc_40 rfl ?_
        refine sw_icmp_ge (np := 42) (tp := 56) dX0_from_39 rfl rfl ?_ ?_
        · refine sw_iconst (np := 57) dX0_from_56 sw_ic_0 rfl ?_
          exact sw_iret dX0_from_57
        · refine sw_ald_8_0 (np := 43) dX0_from_42 rfl ?_
          refine sw_ild_8_7 (np := 45) dX0_from_43 rfl ?_
          refine sw_ild_8_3 (np := 46) dX0_from_45 rfl ?_
          refine sw_ild_8_4 (np := 48) dX0_from_46 rfl ?_
          refine sw_iconst (np := 49) dX0_from_48 sw_ic_1 rfl ?_
          refine sw_iadd (np := 50) dX0_from_49 rfl ?_
          refine sw_cV3i (np := 53) (hR.2.2.2 _ _ _ _ _) sw_mv_X0_run sw_k_89 sw_wl_RX0_42 dX0_from_50 (sw_fit_rm (by omega) (by decide)) (Nat.le_of_ble_eq_true rfl) rfl (fun r1 S2 => ?_)
          refine sw_goto (tp := 57) dX0_from_53 rfl ?_
          exact sw_iret dX0_from_57
theorem ogX0_run {G : sw_G} {N d : Nat} (hd : 1 ≤ d) {RR : Nat → Int32 → Int32 → Int32 → Int32 → sw_St → Option (Int32 × sw_St)} (hR : kG_1 G (d - 1) RR) {p1 : Int32} {p2 : Int32} {p3 : Int32} {S : sw_St} : sw_Ev G yX0_run cX0_run 4 (some .int) d sw_ei [sw_vr G 89, .int p1, .int p2, .int p3] S (gX0_run N RR p1 p2 p3 S) := by
  refine sw_Ev_of (own := RX0) (lv0 := [some (sw_vr G 89), some (.int p1), some (.int p2), some (.int p3)]) (by decide) rfl (Nat.le_of_ble_eq_true rfl) rfl ?_
  unfold gX0_run
  refine sw_ald_4_0 (np := 1) dX0_run_0 rfl ?_
  refine sw_gI (np := 4) sw_f_RX0_13 sw_k_89 dX0_run_1 rfl ?_
  refine sw_bipush (np := 6) dX0_run_4 sw_bc_24 rfl ?_
  refine sw_jm0 (pj := 19) ([some (sw_vr G 89), some (.int p1), some (.int p2), some (.int p3)]) ([]) (fun S1 => ?_) (fun k1 hk1 => ?_)
  · refine sw_ald_4_0 (np := 20) dX0_run_19 rfl ?_
    refine sw_dup (np := 21) dX0_run_20 rfl rfl ?_
    refine sw_gI (np := 24) sw_f_RX0_13 sw_k_89 dX0_run_21 rfl ?_
    refine sw_iconst (np := 25) dX0_run_24 sw_ic_1 rfl ?_
    refine sw_iadd (np := 26) dX0_run_25 rfl ?_
    refine sw_pI (np := 29) sw_f_RX0_13 sw_fp_0_1 sw_k_89 dX0_run_26 rfl (fun S2 => ?_)
    refine sw_ild_4_1 (np := 30) dX0_run_29 rfl ?_
    refine sw_ite (fun hs1 => ?_) (fun hs1 => ?_)
    · refine sw_look (tp := 144) dX0_run_30 (by decide) (by rw [hs1] <;> decide) rfl ?_
      refine sw_ild_4_2 (np := 145) dX0_run_144 rfl ?_
      refine sw_ald_4_0 (np := 146) dX0_run_145 rfl ?_
      refine sw_gI (np := 149) sw_f_RX0_23 sw_k_89 dX0_run_146 rfl ?_
      refine sw_iadd (np := 150) dX0_run_149 rfl ?_
      exact sw_iret dX0_run_150
    · refine sw_ite (fun hs2 => ?_) (fun hs2 => ?_)
      · refine sw_look (tp := 151) dX0_run_30 (by decide) (by rw [hs2] <;> decide) rfl ?_
        refine sw_ald_4_0 (np := 152) dX0_run_151 rfl ?_
        refine sw_iconst (np := 153) dX0_run_152 sw_ic_1 rfl ?_
        refine sw_ild_4_2 (np := 154) dX0_run_153 rfl ?_
        refine sw_ild_4_3 (np := 155) dX0_run_154 rfl ?_
        refine sw_cV3i (np := 158) (hR.1 _ _ _ _ _) sw_mv_X0_own sw_k_89 sw_wl_RX0_46 dX0_run_155 (sw_fit_rm (by omega) (by decide)) (Nat.le_of_ble_eq_true rfl) rfl (fun r1 S3 => ?_)
        refine sw_ald_4_0 (np := 159) dX0_run_158 rfl ?_
        refine sw_iconst (np := 160) dX0_run_159 sw_ic_2 rfl ?_
        refine sw_iconst (np := 161) dX0_run_160 sw_ic_1 rfl ?_
        refine sw_ild_4_3 (np := 162) dX0_run_161 rfl ?_
        refine sw_cV3i (np := 165) (hR.1 _ _ _ _ _) sw_mv_X0_own sw_k_89 sw_wl_RX0_46 dX0_run_162 (sw_fit_rm (by omega) (by decide)) (Nat.le_of_ble_eq_true rfl) rfl (fun r2 S4 => ?_)
        refine sw_isub (np := 166) dX0_run_165 rfl ?_
        exact sw_iret dX0_run_166
      · refine sw_ite (fun hs3 => ?_) (fun hs3 => ?_)
        · refine sw_look (tp := 167) dX0_run_30 (by decide) (by rw [hs3] <;> decide) rfl ?_
          refine sw_ald_4_0 (np := 168) dX0_run_167 rfl ?_
          refine sw_iconst (np := 169) dX0_run_168 sw_ic_0 rfl ?_
          refine sw_ild_4_2 (np := 170) dX0_run_169 rfl ?_
          refine sw_ild_4_3 (np := 171) dX0_run_170 rfl ?_
          refine sw_cV3i (np := 174) (hR.1 _ _ _ _ _) sw_mv_X0_own sw_k_89 sw_wl_RX0_46 dX0_run_171 (sw_fit_rm (by omega) (by decide)) (Nat.le_of_ble_eq_true rfl) rfl (fun r3 S5 => ?_)
          refine sw_iconst (np := 175) dX0_run_174 sw_ic_2 rfl ?_
          refine sw_imul (np := 176) dX0_run_175 rfl ?_
          exact sw_iret dX0_run_176
        · refine sw_ite (fun hs4 => ?_) (fun hs4 => ?_)
          · refine sw_look (tp := 177) dX0_run_30 (by decide) (by rw [hs4] <;> decide) rfl ?_
            refine sw_ild_4_2 (np := 178) dX0_run_177 rfl ?_
            refine sw_ald_4_0 (np := 179) dX0_run_178 rfl ?_
            refine sw_gI (np := 182) sw_f_RX0_23 sw_k_89 dX0_run_179 rfl ?_
            refine sw_ixor (np := 183) dX0_run_182 rfl ?_
            exact sw_iret dX0_run_183
          · refine sw_ite (fun hs5 => ?_) (fun hs5 => ?_)
            · refine sw_look (tp := 184) dX0_run_30 (by decide) (by rw [hs5] <;> decide) rfl ?_
              refine sw_ald_4_0 (np := 185) dX0_run_184 rfl ?_
              refine sw_iconst (np := 186) dX0_run_185 sw_ic_1 rfl ?_
              refine sw_iconst (np := 187) dX0_run_186 sw_ic_0 rfl ?_
              refine sw_ild_4_2 (np := 188) dX0_run_187 rfl ?_
              refine sw_ild_4_3 (np := 189) dX0_run_188 rfl ?_
              refine sw_cV4i (np := 192) (hR.2.1 _ _ _ _ _) sw_mv_X0_above sw_k_89 sw_wl_RX0_49 dX0_run_189 (sw_fit_rm (by omega) (by decide)) (Nat.le_of_ble_eq_true rfl) rfl (fun r4 S6 => ?_)
              refine sw_iconst (np := 193) dX0_run_192 sw_ic_3 rfl ?_
              refine sw_iadd (np := 194) dX0_run_193 rfl ?_
              exact sw_iret dX0_run_194
            · refine sw_ite (fun hs6 => ?_) (fun hs6 => ?_)
              · refine sw_look (tp := 195) dX0_run_30 (by decide) (by rw [hs6] <;> decide) rfl ?_
                refine sw_ald_4_0 (np := 196) dX0_run_195 rfl ?_
                refine sw_iconst (np := 197) dX0_run_196 sw_ic_2 rfl ?_
                refine sw_iconst (np := 198) dX0_run_197 sw_ic_1 rfl ?_
                refine sw_ild_4_2 (np := 199) dX0_run_198 rfl ?_
                refine sw_ild_4_3 (np := 200) dX0_run_199 rfl ?_
                refine sw_cV4i (np := 203) (hR.2.1 _ _ _ _ _) sw_mv_X0_above sw_k_89 sw_wl_RX0_49 dX0_run_200 (sw_fit_rm (by omega) (by decide)) (Nat.le_of_ble_eq_true rfl) rfl (fun r5 S7 => ?_)
                refine sw_ineg (np := 204) dX0_run_203 rfl ?_
                exact sw_iret dX0_run_204
              · refine sw_ite (fun hs7 => ?_) (fun hs7 => ?_)
                · refine sw_look (tp := 205) dX0_run_30 (by decide) (by rw [hs7] <;> decide) rfl ?_
                  refine sw_ald_4_0 (np := 206) dX0_run_205 rfl ?_
                  refine sw_iconst (np := 207) dX0_run_206 sw_ic_3 rfl ?_
                  refine sw_iconst (np := 208) dX0_run_207 sw_ic_2 rfl ?_
                  refine sw_ild_4_2 (np := 209) dX0_run_208 rfl ?_
                  refine sw_ild_4_3 (np := 210) dX0_run_209 rfl ?_
                  refine sw_cV4i (np := 213) (hR.2.1 _ _ _ _ _) sw_mv_X0_above sw_k_89 sw_wl_RX0_49 dX0_run_210 (sw_fit_rm (by omega) (by decide)) (Nat.le_of_ble_eq_true rfl) rfl (fun r6 S8 => ?_)
                  refine sw_iconst (np := 214) dX0_run_213 sw_ic_3 rfl ?_
                  refine sw_imul (np := 215) dX0_run_214 rfl ?_
                  exact sw_iret dX0_run_215
                · refine sw_ite (fun hs8 => ?_) (fun hs8 => ?_)
                  · refine sw_look (tp := 216) dX0_run_30 (by decide) (by rw [hs8] <;> decide) rfl ?_
                    refine sw_ald_4_0 (np := 217) dX0_run_216 rfl ?_
                    refine sw_iconst (np := 218) dX0_run_217 sw_ic_3 rfl ?_
                    refine sw_iconst (np := 219) dX0_run_218 sw_ic_1 rfl ?_
                    refine sw_ild_4_2 (np := 220) dX0_run_219 rfl ?_
                    refine sw_iconst (np := 221) dX0_run_220 sw_ic_1 rfl ?_
                    refine sw_iadd (np := 222) dX0_run_221 rfl ?_
                    refine sw_ild_4_3 (np := 223) dX0_run_222 rfl ?_
                    refine sw_cV4i (np := 226) (hR.2.1 _ _ _ _ _) sw_mv_X0_above sw_k_89 sw_wl_RX0_49 dX0_run_223 (sw_fit_rm (by omega) (by decide)) (Nat.le_of_ble_eq_true rfl) rfl (fun r7 S9 => ?_)
                    exact sw_iret dX0_run_226
                  · refine sw_ite (fun hs9 => ?_) (fun hs9 => ?_)
                    · refine sw_look (tp := 227) dX0_run_30 (by decide) (by rw [hs9] <;> decide) rfl ?_
                      refine sw_ald_4_0 (np := 228) dX0_run_227 rfl ?_
                      refine sw_iconst (np := 229) dX0_run_228 sw_ic_4 rfl ?_
                      refine sw_iconst (np := 230) dX0_run_229 sw_ic_2 rfl ?_
                      refine sw_ild_4_2 (np := 231) dX0_run_230 rfl ?_
                      refine sw_ild_4_3 (np := 232) dX0_run_231 rfl ?_
                      refine sw_cV4i (np := 235) (hR.2.1 _ _ _ _ _) sw_mv_X0_above sw_k_89 sw_wl_RX0_49 dX0_run_232 (sw_fit_rm (by omega) (by decide)) (Nat.le_of_ble_eq_true rfl) rfl (fun r8 S10 => ?_)
                      refine sw_ald_4_0 (np := 236) dX0_run_235 rfl ?_
                      refine sw_iconst (np := 237) dX0_run_236 sw_ic_0 rfl ?_
                      refine sw_iconst (np := 238) dX0_run_237 sw_ic_2 rfl ?_
                      refine sw_ild_4_3 (np := 239) dX0_run_238 rfl ?_
                      refine sw_cV3i (np := 242) (hR.1 _ _ _ _ _) sw_mv_X0_own sw_k_89 sw_wl_RX0_46 dX0_run_239 (sw_fit_rm (by omega) (by decide)) (Nat.le_of_ble_eq_true rfl) rfl (fun r9 S11 => ?_)
                      refine sw_isub (np := 243) dX0_run_242 rfl ?_
                      exact sw_iret dX0_run_243
                    · refine sw_ite (fun hs10 => ?_) (fun hs10 => ?_)
                      · refine sw_look (tp := 244) dX0_run_30 (by decide) (by rw [hs10] <;> decide) rfl ?_
                        refine sw_ald_4_0 (np := 245) dX0_run_244 rfl ?_
                        refine sw_iconst (np := 246) dX0_run_245 sw_ic_5 rfl ?_
                        refine sw_iconst (np := 247) dX0_run_246 sw_ic_3 rfl ?_
                        refine sw_ild_4_2 (np := 248) dX0_run_247 rfl ?_
                        refine sw_ild_4_3 (np := 249) dX0_run_248 rfl ?_
                        refine sw_cV4i (np := 252) (hR.2.1 _ _ _ _ _) sw_mv_X0_above sw_k_89 sw_wl_RX0_49 dX0_run_249 (sw_fit_rm (by omega) (by decide)) (Nat.le_of_ble_eq_true rfl) rfl (fun r10 S12 => ?_)
                        refine sw_iconst (np := 253) dX0_run_252 sw_ic_5 rfl ?_
                        refine sw_ixor (np := 254) dX0_run_253 rfl ?_
                        exact sw_iret dX0_run_254
                      · refine sw_ite (fun hs11 => ?_) (fun hs11 => ?_)
                        · refine sw_look (tp := 255) dX0_run_30 (by decide) (by rw [hs11] <;> decide) rfl ?_
                          refine sw_ald_4_0 (np := 256) dX0_run_255 rfl ?_
                          refine sw_bipush (np := 258) dX0_run_256 sw_bc_6 rfl ?_
                          refine sw_iconst (np := 259) dX0_run_258 sw_ic_0 rfl ?_
                          refine sw_ild_4_2 (np := 260) dX0_run_259 rfl ?_
                          refine sw_ild_4_3 (np := 261) dX0_run_260 rfl ?_
                          refine sw_cV4i (np := 264) (hR.2.1 _ _ _ _ _) sw_mv_X0_above sw_k_89 sw_wl_RX0_49 dX0_run_261 (sw_fit_rm (by omega) (by decide)) (Nat.le_of_ble_eq_true rfl) rfl (fun r11 S13 => ?_)
                          refine sw_iconst (np := 265) dX0_run_264 sw_ic_2 rfl ?_
                          refine sw_imul (np := 266) dX0_run_265 rfl ?_
                          exact sw_iret dX0_run_266
                        · refine sw_ite (fun hs12 => ?_) (fun hs12 => ?_)
                          · refine sw_look (tp := 267) dX0_run_30 (by decide) (by rw [hs12] <;> decide) rfl ?_
                            refine sw_ald_4_0 (np := 268) dX0_run_267 rfl ?_
                            refine sw_bipush (np := 270) dX0_run_268 sw_bc_7 rfl ?_
                            refine sw_iconst (np := 271) dX0_run_270 sw_ic_1 rfl ?_
                            refine sw_ild_4_2 (np := 272) dX0_run_271 rfl ?_
                            refine sw_ild_4_3 (np := 273) dX0_run_272 rfl ?_
                            refine sw_cV4i (np := 276) (hR.2.1 _ _ _ _ _) sw_mv_X0_above sw_k_89 sw_wl_RX0_49 dX0_run_273 (sw_fit_rm (by omega) (by decide)) (Nat.le_of_ble_eq_true rfl) rfl (fun r12 S14 => ?_)
                            refine sw_ald_4_0 (np := 277) dX0_run_276 rfl ?_
                            refine sw_iconst (np := 278) dX0_run_277 sw_ic_2 rfl ?_
                            refine sw_iconst (np := 279) dX0_run_278 sw_ic_2 rfl ?_
                            refine sw_ild_4_3 (np := 280) dX0_run_279 rfl ?_
                            refine sw_cV3i (np := 283) (hR.1 _ _ _ _ _) sw_mv_X0_own sw_k_89 sw_wl_RX0_46 dX0_run_280 (sw_fit_rm (by omega) (by decide)) (Nat.le_of_ble_eq_true rfl) rfl (fun r13 S15 => ?_)
                            refine sw_iadd (np := 284) dX0_run_283 rfl ?_
                            exact sw_iret dX0_run_284
                          · refine sw_ite (fun hs13 => ?_) (fun hs13 => ?_)
                            · refine sw_look (tp := 285) dX0_run_30 (by decide) (by rw [hs13] <;> decide) rfl ?_
                              refine sw_ald_4_0 (np := 286) dX0_run_285 rfl ?_
                              refine sw_bipush (np := 288) dX0_run_286 sw_bc_7 rfl ?_
                              refine sw_iconst (np := 289) dX0_run_288 sw_ic_3 rfl ?_
                              refine sw_ild_4_2 (np := 290) dX0_run_289 rfl ?_
                              refine sw_ild_4_3 (np := 291) dX0_run_290 rfl ?_
                              refine sw_cV4i (np := 294) (hR.2.1 _ _ _ _ _) sw_mv_X0_above sw_k_89 sw_wl_RX0_49 dX0_run_291 (sw_fit_rm (by omega) (by decide)) (Nat.le_of_ble_eq_true rfl) rfl (fun r14 S16 => ?_)
                              refine sw_iconst (np := 295) dX0_run_294 sw_ic_1 rfl ?_
                              refine sw_isub (np := 296) dX0_run_295 rfl ?_
                              exact sw_iret dX0_run_296
                            · refine sw_look (tp := 297) (off := 267) dX0_run_30 (by decide) (by show Op.lookupswitch.offset [(1, 114), (2, 121), (10, 137), (11, 147), (20, 154), (30, 165), (40, 175), (41, 186), (50, 197), (60, 214), (70, 225), (80, 237), (81, 255)] 267 _ = _; rw [lv_osw hs1 (by decide), lv_osw hs2 (by decide), lv_osw hs3 (by decide), lv_osw hs4 (by decide), lv_osw hs5 (by decide), lv_osw hs6 (by decide), lv_osw hs7 (by decide), lv_osw hs8 (by decide), lv_osw hs9 (by decide), lv_osw hs10 (by decide), lv_osw hs11 (by decide), lv_osw hs12 (by decide), lv_osw hs13 (by decide)]; rfl) rfl ?_
                              refine sw_iconst (np := 298) dX0_run_297 sw_ic_0 rfl ?_
                              exact sw_iret dX0_run_298
  · refine sw_icmp_ge (np := 9) (tp := 19) dX0_run_6 rfl rfl ?_ ?_
    · exact hk1 _
    · refine sw_ald_4_0 (np := 10) dX0_run_9 rfl ?_
      refine sw_gR (np := 13) sw_f_RX0_20 sw_k_89 sw_r_89_3 dX0_run_10 rfl ?_
      refine sw_ald_4_0 (np := 14) dX0_run_13 rfl ?_
      refine sw_gI (np := 17) sw_f_RX0_13 sw_k_89 dX0_run_14 rfl ?_
      refine sw_ild_4_1 (np := 18) dX0_run_17 rfl ?_
      refine sw_sI (np := 19) sw_k_91 sw_n_91 dX0_run_18 rfl (fun S17 => ?_)
      exact hk1 _
theorem hG_1 {G : sw_G} {N : Nat} : ∀ n d, 1 + n ≤ d → kG_1 G d (fG_1 N n) := by
  intro n
  induction n with
  | zero => intro d _; exact ⟨(fun _ _ _ _ _ _ h => by cases h), (fun _ _ _ _ _ _ h => by cases h), (fun _ _ _ _ _ _ h => by cases h), (fun _ _ _ _ _ _ h => by cases h)⟩
  | succ n ih => intro d hd; exact ⟨(fun _ _ _ _ _ => ogX0_own (N := N) (by omega) (ih (d - 1) (by omega))), (fun _ _ _ _ _ => ogX0_above (N := N) (by omega) (ih (d - 1) (by omega))), (fun _ _ _ _ _ => ogX0_from (N := N) (by omega) (ih (d - 1) (by omega))), (fun _ _ _ _ _ => ogX0_run (N := N) (by omega) (ih (d - 1) (by omega)))⟩
def fX0_own (N : Nat) (p1 : Int32) (p2 : Int32) (p3 : Int32) (S : sw_St) : Option (Int32 × sw_St) := fG_1 N 100 0 p1 p2 p3 0 S
theorem hX0_own {G : sw_G} {N d : Nat} (hd : 101 ≤ d) {p1 : Int32} {p2 : Int32} {p3 : Int32} {S : sw_St} : sw_Ev G yX0_own cX0_own 4 (some .int) d sw_ei [sw_vr G 89, .int p1, .int p2, .int p3] S (fX0_own N p1 p2 p3 S) := (hG_1 (G := G) (N := N) 100 d hd).1 _ _ _ _ _
def fX0_above (N : Nat) (p1 : Int32) (p2 : Int32) (p3 : Int32) (p4 : Int32) (S : sw_St) : Option (Int32 × sw_St) := fG_1 N 100 1 p1 p2 p3 p4 S
theorem hX0_above {G : sw_G} {N d : Nat} (hd : 101 ≤ d) {p1 : Int32} {p2 : Int32} {p3 : Int32} {p4 : Int32} {S : sw_St} : sw_Ev G yX0_above cX0_above 5 (some .int) d sw_ei [sw_vr G 89, .int p1, .int p2, .int p3, .int p4] S (fX0_above N p1 p2 p3 p4 S) := (hG_1 (G := G) (N := N) 100 d hd).2.1 _ _ _ _ _
def fX0_from (N : Nat) (p1 : Int32) (p2 : Int32) (p3 : Int32) (p4 : Int32) (S : sw_St) : Option (Int32 × sw_St) := fG_1 N 100 2 p1 p2 p3 p4 S
theorem hX0_from {G : sw_G} {N d : Nat} (hd : 101 ≤ d) {p1 : Int32} {p2 : Int32} {p3 : Int32} {p4 : Int32} {S : sw_St} : sw_Ev G yX0_from cX0_from 8 (some .int) d sw_ei [sw_vr G 89, .int p1, .int p2, .int p3, .int p4] S (fX0_from N p1 p2 p3 p4 S) := (hG_1 (G := G) (N := N) 100 d hd).2.2.1 _ _ _ _ _
def fX0_run (N : Nat) (p1 : Int32) (p2 : Int32) (p3 : Int32) (S : sw_St) : Option (Int32 × sw_St) := fG_1 N 100 3 p1 p2 p3 0 S
theorem hX0_run {G : sw_G} {N d : Nat} (hd : 101 ≤ d) {p1 : Int32} {p2 : Int32} {p3 : Int32} {S : sw_St} : sw_Ev G yX0_run cX0_run 4 (some .int) d sw_ei [sw_vr G 89, .int p1, .int p2, .int p3] S (fX0_run N p1 p2 p3 S) := (hG_1 (G := G) (N := N) 100 d hd).2.2.2 _ _ _ _ _
/-- SwordAttic.within(III)Z -/
def fX8_within (N : Nat) (p0 : Int32) (p1 : Int32) (p2 : Int32) (S : sw_St) : Option (Int32 × sw_St) :=
  if p0 < p1 then (some (vp_nar .boolean (0 : Int32), S)) else (if p0 > p2 then (some (vp_nar .boolean (0 : Int32), S)) else (some (vp_nar .boolean (1 : Int32), S)))
theorem hX8_within {G : sw_G} {N d : Nat} (hd : 1 ≤ d) {p0 : Int32} {p1 : Int32} {p2 : Int32}  {S : sw_St} : sw_Ev G yX8_within cX8_within 3 (some .boolean) d sw_ei [.int p0, .int p1, .int p2] S (fX8_within N p0 p1 p2 S) := by
  refine sw_Ev_of (own := RX8) (lv0 := [some (.int p0), some (.int p1), some (.int p2)]) (by decide) rfl (Nat.le_of_ble_eq_true rfl) rfl ?_
  unfold fX8_within
  refine sw_ild_3_0 (np := 1) dX8_within_0 rfl ?_
  refine sw_ild_3_1 (np := 2) dX8_within_1 rfl ?_
  refine sw_icmp_lt (np := 5) (tp := 14) dX8_within_2 rfl rfl ?_ ?_
  · refine sw_iconst (np := 15) dX8_within_14 sw_ic_0 rfl ?_
    exact sw_zret dX8_within_15
  · refine sw_ild_3_0 (np := 6) dX8_within_5 rfl ?_
    refine sw_ild_3_2 (np := 7) dX8_within_6 rfl ?_
    refine sw_icmp_gt (np := 10) (tp := 14) dX8_within_7 rfl rfl ?_ ?_
    · refine sw_iconst (np := 15) dX8_within_14 sw_ic_0 rfl ?_
      exact sw_zret dX8_within_15
    · refine sw_iconst (np := 11) dX8_within_10 sw_ic_1 rfl ?_
      refine sw_goto (tp := 15) dX8_within_11 rfl ?_
      exact sw_zret dX8_within_15
/-- SwordAttic$Blades.perform(III)I -/
def fX0_perform (N : Nat) (p1 : Int32) (p2 : Int32) (p3 : Int32) (S : sw_St) : Option (Int32 × sw_St) :=
  sw_ls (sw_si S 89 1 (0 : Int32)) (fun S1 => (sw_bd (fX8_within N p1 (0 : Int32) ((S1.1 89 0) - (1 : Int32)) S1) (fun r1 S2 => (if r1 = 0 then (some ((0 : Int32), S2)) else (sw_bd (fX8_within N p2 (0 : Int32) (3 : Int32) S2) (fun r2 S3 => (if r2 = 0 then (some ((0 : Int32), S3)) else (sw_ls (sw_si S3 89 4 p1) (fun S4 => (sw_gd (sw_in p1 50) (sw_bd (fX0_from N (S4.1 90 p1.toNatClampNeg) p2 p3 (0 : Int32) S4) (fun r3 S5 => (some (r3, S5))))))))))))))
theorem hX0_perform {G : sw_G} {N d : Nat} (hd : 102 ≤ d) {p1 : Int32} {p2 : Int32} {p3 : Int32}  {S : sw_St} : sw_Ev G yX0_perform cX0_perform 4 (some .int) d sw_ei [sw_vr G 89, .int p1, .int p2, .int p3] S (fX0_perform N p1 p2 p3 S) := by
  refine sw_Ev_of (own := RX0) (lv0 := [some (sw_vr G 89), some (.int p1), some (.int p2), some (.int p3)]) (by decide) rfl (Nat.le_of_ble_eq_true rfl) rfl ?_
  unfold fX0_perform
  refine sw_ald_4_0 (np := 1) dX0_perform_0 rfl ?_
  refine sw_iconst (np := 2) dX0_perform_1 sw_ic_0 rfl ?_
  refine sw_pI (np := 5) sw_f_RX0_13 sw_fp_0_1 sw_k_89 dX0_perform_2 rfl (fun S1 => ?_)
  refine sw_ild_4_1 (np := 6) dX0_perform_5 rfl ?_
  refine sw_iconst (np := 7) dX0_perform_6 sw_ic_0 rfl ?_
  refine sw_ald_4_0 (np := 8) dX0_perform_7 rfl ?_
  refine sw_gI (np := 11) sw_f_RX0_7 sw_k_89 dX0_perform_8 rfl ?_
  refine sw_iconst (np := 12) dX0_perform_11 sw_ic_1 rfl ?_
  refine sw_isub (np := 13) dX0_perform_12 rfl ?_
  refine sw_cT3i (np := 16) (hX8_within (d := d - 1) (by omega) ) sw_ms_X8_within sw_wn_RX0_29 dX0_perform_13 (sw_fit_rm (by omega) (by decide)) (Nat.le_of_ble_eq_true rfl) rfl (fun r1 S2 => ?_)
  refine sw_if_eq (np := 19) (tp := 28) dX0_perform_16 rfl rfl ?_ ?_
  · refine sw_iconst (np := 29) dX0_perform_28 sw_ic_0 rfl ?_
    exact sw_iret dX0_perform_29
  · refine sw_ild_4_2 (np := 20) dX0_perform_19 rfl ?_
    refine sw_iconst (np := 21) dX0_perform_20 sw_ic_0 rfl ?_
    refine sw_iconst (np := 22) dX0_perform_21 sw_ic_3 rfl ?_
    refine sw_cT3i (np := 25) (hX8_within (d := d - 1) (by omega) ) sw_ms_X8_within sw_wn_RX0_29 dX0_perform_22 (sw_fit_rm (by omega) (by decide)) (Nat.le_of_ble_eq_true rfl) rfl (fun r2 S3 => ?_)
    refine sw_if_ne (np := 28) (tp := 30) dX0_perform_25 rfl rfl ?_ ?_
    · refine sw_ald_4_0 (np := 31) dX0_perform_30 rfl ?_
      refine sw_ild_4_1 (np := 32) dX0_perform_31 rfl ?_
      refine sw_pI (np := 35) sw_f_RX0_23 sw_fp_0_4 sw_k_89 dX0_perform_32 rfl (fun S4 => ?_)
      refine sw_ald_4_0 (np := 36) dX0_perform_35 rfl ?_
      refine sw_ald_4_0 (np := 37) dX0_perform_36 rfl ?_
      refine sw_gR (np := 40) sw_f_RX0_16 sw_k_89 sw_r_89_2 dX0_perform_37 rfl ?_
      refine sw_ild_4_1 (np := 41) dX0_perform_40 rfl ?_
      refine sw_iald (np := 42) sw_k_90 sw_n_90 dX0_perform_41 rfl ?_
      refine sw_ild_4_2 (np := 43) dX0_perform_42 rfl ?_
      refine sw_ild_4_3 (np := 44) dX0_perform_43 rfl ?_
      refine sw_iconst (np := 45) dX0_perform_44 sw_ic_0 rfl ?_
      refine sw_cV4i (np := 48) (hX0_from (d := d - 1) (by omega) ) sw_mv_X0_from sw_k_89 sw_wl_RX0_35 dX0_perform_45 (sw_fit_rm (by omega) (by decide)) (Nat.le_of_ble_eq_true rfl) rfl (fun r3 S5 => ?_)
      exact sw_iret dX0_perform_48
    · refine sw_iconst (np := 29) dX0_perform_28 sw_ic_0 rfl ?_
      exact sw_iret dX0_perform_29
/-- SwordAttic$Changes.dropFirst()V -/
def fX1_dropFirst (N : Nat)  (S : sw_St) : Option (Unit × sw_St) :=
  sw_gd (sw_cg (1 : Int32) (0 : Int32) (39 : Int32) 40 40) (sw_ls (sw_ci S 80 80 (1 : Int32).toNatClampNeg (0 : Int32).toNatClampNeg (39 : Int32).toNatClampNeg) (fun S1 => (sw_gd (sw_cg (1 : Int32) (0 : Int32) (39 : Int32) 40 40) (sw_ls (sw_ci S1 81 81 (1 : Int32).toNatClampNeg (0 : Int32).toNatClampNeg (39 : Int32).toNatClampNeg) (fun S2 => (sw_gd (sw_cg (1 : Int32) (0 : Int32) (39 : Int32) 40 40) (sw_ls (sw_ci S2 82 82 (1 : Int32).toNatClampNeg (0 : Int32).toNatClampNeg (39 : Int32).toNatClampNeg) (fun S3 => (sw_gd (sw_cg (1 : Int32) (0 : Int32) (39 : Int32) 40 40) (sw_ls (sw_ci S3 83 83 (1 : Int32).toNatClampNeg (0 : Int32).toNatClampNeg (39 : Int32).toNatClampNeg) (fun S4 => (sw_ls (sw_si S4 79 1 (39 : Int32)) (fun S5 => (some ((), S5)))))))))))))))
theorem hX1_dropFirst {G : sw_G} {N d : Nat} (hd : 1 ≤ d)   {S : sw_St} : sw_Ev G yX1_dropFirst cX1_dropFirst 1 none d sw_ev [sw_vr G 79] S (fX1_dropFirst N  S) := by
  refine sw_Ev_of (own := RX1) (lv0 := [some (sw_vr G 79)]) (by decide) rfl (Nat.le_of_ble_eq_true rfl) rfl ?_
  unfold fX1_dropFirst
  refine sw_ald_1_0 (np := 1) dX1_dropFirst_0 rfl ?_
  refine sw_gR (np := 4) sw_f_RX1_18 sw_k_79 sw_r_79_2 dX1_dropFirst_1 rfl ?_
  refine sw_iconst (np := 5) dX1_dropFirst_4 sw_ic_1 rfl ?_
  refine sw_ald_1_0 (np := 6) dX1_dropFirst_5 rfl ?_
  refine sw_gR (np := 9) sw_f_RX1_18 sw_k_79 sw_r_79_2 dX1_dropFirst_6 rfl ?_
  refine sw_iconst (np := 10) dX1_dropFirst_9 sw_ic_0 rfl ?_
  refine sw_bipush (np := 12) dX1_dropFirst_10 sw_bc_39 rfl ?_
  refine sw_yI (np := 15) sw_acw_ok sw_k_80 sw_k_80 sw_n_80 sw_n_80 sw_wl_RX1_34 (by show 1 ≤ d; omega) (sw_room (by omega) (Nat.le_of_ble_eq_true rfl)) dX1_dropFirst_12 rfl (fun S1 => ?_)
  refine sw_ald_1_0 (np := 16) dX1_dropFirst_15 rfl ?_
  refine sw_gR (np := 19) sw_f_RX1_22 sw_k_79 sw_r_79_3 dX1_dropFirst_16 rfl ?_
  refine sw_iconst (np := 20) dX1_dropFirst_19 sw_ic_1 rfl ?_
  refine sw_ald_1_0 (np := 21) dX1_dropFirst_20 rfl ?_
  refine sw_gR (np := 24) sw_f_RX1_22 sw_k_79 sw_r_79_3 dX1_dropFirst_21 rfl ?_
  refine sw_iconst (np := 25) dX1_dropFirst_24 sw_ic_0 rfl ?_
  refine sw_bipush (np := 27) dX1_dropFirst_25 sw_bc_39 rfl ?_
  refine sw_yI (np := 30) sw_acw_ok sw_k_81 sw_k_81 sw_n_81 sw_n_81 sw_wl_RX1_34 (by show 1 ≤ d; omega) (sw_room (by omega) (Nat.le_of_ble_eq_true rfl)) dX1_dropFirst_27 rfl (fun S2 => ?_)
  refine sw_ald_1_0 (np := 31) dX1_dropFirst_30 rfl ?_
  refine sw_gR (np := 34) sw_f_RX1_25 sw_k_79 sw_r_79_4 dX1_dropFirst_31 rfl ?_
  refine sw_iconst (np := 35) dX1_dropFirst_34 sw_ic_1 rfl ?_
  refine sw_ald_1_0 (np := 36) dX1_dropFirst_35 rfl ?_
  refine sw_gR (np := 39) sw_f_RX1_25 sw_k_79 sw_r_79_4 dX1_dropFirst_36 rfl ?_
  refine sw_iconst (np := 40) dX1_dropFirst_39 sw_ic_0 rfl ?_
  refine sw_bipush (np := 42) dX1_dropFirst_40 sw_bc_39 rfl ?_
  refine sw_yI (np := 45) sw_acw_ok sw_k_82 sw_k_82 sw_n_82 sw_n_82 sw_wl_RX1_34 (by show 1 ≤ d; omega) (sw_room (by omega) (Nat.le_of_ble_eq_true rfl)) dX1_dropFirst_42 rfl (fun S3 => ?_)
  refine sw_ald_1_0 (np := 46) dX1_dropFirst_45 rfl ?_
  refine sw_gR (np := 49) sw_f_RX1_28 sw_k_79 sw_r_79_5 dX1_dropFirst_46 rfl ?_
  refine sw_iconst (np := 50) dX1_dropFirst_49 sw_ic_1 rfl ?_
  refine sw_ald_1_0 (np := 51) dX1_dropFirst_50 rfl ?_
  refine sw_gR (np := 54) sw_f_RX1_28 sw_k_79 sw_r_79_5 dX1_dropFirst_51 rfl ?_
  refine sw_iconst (np := 55) dX1_dropFirst_54 sw_ic_0 rfl ?_
  refine sw_bipush (np := 57) dX1_dropFirst_55 sw_bc_39 rfl ?_
  refine sw_yI (np := 60) sw_acw_ok sw_k_83 sw_k_83 sw_n_83 sw_n_83 sw_wl_RX1_34 (by show 1 ≤ d; omega) (sw_room (by omega) (Nat.le_of_ble_eq_true rfl)) dX1_dropFirst_57 rfl (fun S4 => ?_)
  refine sw_ald_1_0 (np := 61) dX1_dropFirst_60 rfl ?_
  refine sw_bipush (np := 63) dX1_dropFirst_61 sw_bc_39 rfl ?_
  refine sw_pI (np := 66) sw_f_RX1_15 sw_fp_1_1 sw_k_79 dX1_dropFirst_63 rfl (fun S5 => ?_)
  exact sw_vret dX1_dropFirst_66
/-- SwordAttic$Changes.add(IIII)V -/
def fX1_add (N : Nat) (p1 : Int32) (p2 : Int32) (p3 : Int32) (p4 : Int32) (S : sw_St) : Option (Unit × sw_St) :=
  sw_jn0 (fun S1 => (sw_gd (sw_in (S1.1 79 1) 40) (sw_ls (sw_si S1 80 (S1.1 79 1).toNatClampNeg p1) (fun S2 => (sw_gd (sw_in (S2.1 79 1) 40) (sw_ls (sw_si S2 81 (S2.1 79 1).toNatClampNeg p2) (fun S3 => (sw_gd (sw_in (S3.1 79 1) 40) (sw_ls (sw_si S3 82 (S3.1 79 1).toNatClampNeg p3) (fun S4 => (sw_gd (sw_in (S4.1 79 1) 40) (sw_ls (sw_si S4 83 (S4.1 79 1).toNatClampNeg p4) (fun S5 => (sw_ls (sw_si S5 79 1 ((S5.1 79 1) + (1 : Int32))) (fun S6 => (sw_ls (sw_si S6 79 0 (S6.1 79 1)) (fun S7 => (some ((), S7))))))))))))))))))) (fun k1 => (if (S.1 79 1) < (40 : Int32) then (k1 S) else (sw_bd (fX1_dropFirst N S) (fun _ S8 => (k1 S8)))))
theorem hX1_add {G : sw_G} {N d : Nat} (hd : 2 ≤ d) {p1 : Int32} {p2 : Int32} {p3 : Int32} {p4 : Int32}  {S : sw_St} : sw_Ev G yX1_add cX1_add 5 none d sw_ev [sw_vr G 79, .int p1, .int p2, .int p3, .int p4] S (fX1_add N p1 p2 p3 p4 S) := by
  refine sw_Ev_of (own := RX1) (lv0 := [some (sw_vr G 79), some (.int p1), some (.int p2), some (.int p3), some (.int p4)]) (by decide) rfl (Nat.le_of_ble_eq_true rfl) rfl ?_
  unfold fX1_add
  refine sw_ald_5_0 (np := 1) dX1_add_0 rfl ?_
  refine sw_gI (np := 4) sw_f_RX1_15 sw_k_79 dX1_add_1 rfl ?_
  refine sw_bipush (np := 6) dX1_add_4 sw_bc_40 rfl ?_
  refine sw_jm0 (pj := 13) ([some (sw_vr G 79), some (.int p1), some (.int p2), some (.int p3), some (.int p4)]) ([]) (fun S1 => ?_) (fun k1 hk1 => ?_)
  · refine sw_ald_5_0 (np := 14) dX1_add_13 rfl ?_
    refine sw_gR (np := 17) sw_f_RX1_18 sw_k_79 sw_r_79_2 dX1_add_14 rfl ?_
    refine sw_ald_5_0 (np := 18) dX1_add_17 rfl ?_
    refine sw_gI (np := 21) sw_f_RX1_15 sw_k_79 dX1_add_18 rfl ?_
    refine sw_ild_5_1 (np := 22) dX1_add_21 rfl ?_
    refine sw_sI (np := 23) sw_k_80 sw_n_80 dX1_add_22 rfl (fun S2 => ?_)
    refine sw_ald_5_0 (np := 24) dX1_add_23 rfl ?_
    refine sw_gR (np := 27) sw_f_RX1_22 sw_k_79 sw_r_79_3 dX1_add_24 rfl ?_
    refine sw_ald_5_0 (np := 28) dX1_add_27 rfl ?_
    refine sw_gI (np := 31) sw_f_RX1_15 sw_k_79 dX1_add_28 rfl ?_
    refine sw_ild_5_2 (np := 32) dX1_add_31 rfl ?_
    refine sw_sI (np := 33) sw_k_81 sw_n_81 dX1_add_32 rfl (fun S3 => ?_)
    refine sw_ald_5_0 (np := 34) dX1_add_33 rfl ?_
    refine sw_gR (np := 37) sw_f_RX1_25 sw_k_79 sw_r_79_4 dX1_add_34 rfl ?_
    refine sw_ald_5_0 (np := 38) dX1_add_37 rfl ?_
    refine sw_gI (np := 41) sw_f_RX1_15 sw_k_79 dX1_add_38 rfl ?_
    refine sw_ild_5_3 (np := 42) dX1_add_41 rfl ?_
    refine sw_sI (np := 43) sw_k_82 sw_n_82 dX1_add_42 rfl (fun S4 => ?_)
    refine sw_ald_5_0 (np := 44) dX1_add_43 rfl ?_
    refine sw_gR (np := 47) sw_f_RX1_28 sw_k_79 sw_r_79_5 dX1_add_44 rfl ?_
    refine sw_ald_5_0 (np := 48) dX1_add_47 rfl ?_
    refine sw_gI (np := 51) sw_f_RX1_15 sw_k_79 dX1_add_48 rfl ?_
    refine sw_ild_5_4 (np := 53) dX1_add_51 rfl ?_
    refine sw_sI (np := 54) sw_k_83 sw_n_83 dX1_add_53 rfl (fun S5 => ?_)
    refine sw_ald_5_0 (np := 55) dX1_add_54 rfl ?_
    refine sw_dup (np := 56) dX1_add_55 rfl rfl ?_
    refine sw_gI (np := 59) sw_f_RX1_15 sw_k_79 dX1_add_56 rfl ?_
    refine sw_iconst (np := 60) dX1_add_59 sw_ic_1 rfl ?_
    refine sw_iadd (np := 61) dX1_add_60 rfl ?_
    refine sw_pI (np := 64) sw_f_RX1_15 sw_fp_1_1 sw_k_79 dX1_add_61 rfl (fun S6 => ?_)
    refine sw_ald_5_0 (np := 65) dX1_add_64 rfl ?_
    refine sw_ald_5_0 (np := 66) dX1_add_65 rfl ?_
    refine sw_gI (np := 69) sw_f_RX1_15 sw_k_79 dX1_add_66 rfl ?_
    refine sw_pI (np := 72) sw_f_RX1_9 sw_fp_1_0 sw_k_79 dX1_add_69 rfl (fun S7 => ?_)
    exact sw_vret dX1_add_72
  · refine sw_icmp_lt (np := 9) (tp := 13) dX1_add_6 rfl rfl ?_ ?_
    · exact hk1 _
    · refine sw_ald_5_0 (np := 10) dX1_add_9 rfl ?_
      refine sw_cV0v (np := 13) (hX1_dropFirst (d := d - 1) (by omega) ) sw_mv_X1_dropFirst sw_k_79 sw_wl_RX1_31 dX1_add_10 (sw_fit_rm (by omega) (by decide)) (Nat.le_of_ble_eq_true rfl) rfl (fun _ S8 => ?_)
      exact hk1 _
/-- SwordAttic$Night.isTakenByOther(II)Z -/
def fX4_isTakenByOther (N : Nat) (o : Nat) (p1 : Int32) (p2 : Int32) (S : sw_St) : Option (Int32 × sw_St) :=
  sw_gd (sw_in p1 12) (if (S.1 (o + 6) p1.toNatClampNeg) < 0 then (some (vp_nar .boolean (0 : Int32), S)) else (sw_gd (sw_in p1 12) (if (S.1 (o + 6) p1.toNatClampNeg) = p2 then (some (vp_nar .boolean (0 : Int32), S)) else (some (vp_nar .boolean (1 : Int32), S)))))
theorem hX4_isTakenByOther {G : sw_G} {N d : Nat} (hd : 1 ≤ d) {o : Nat} {p1 : Int32} {p2 : Int32} (ho : sw_kd o = 4) {S : sw_St} : sw_Ev G yX4_isTakenByOther cX4_isTakenByOther 3 (some .boolean) d sw_ei [sw_vr G o, .int p1, .int p2] S (fX4_isTakenByOther N o p1 p2 S) := by
  refine sw_Ev_of (own := RX4) (lv0 := [some (sw_vr G o), some (.int p1), some (.int p2)]) (by decide) rfl (Nat.le_of_ble_eq_true rfl) rfl ?_
  unfold fX4_isTakenByOther
  refine sw_ald_3_0 (np := 1) dX4_isTakenByOther_0 rfl ?_
  refine sw_gR (np := 4) sw_f_RX4_43 ho (sw_rf_4_10 ho) dX4_isTakenByOther_1 rfl ?_
  refine sw_ild_3_1 (np := 5) dX4_isTakenByOther_4 rfl ?_
  refine sw_iald (np := 6) (sw_kd_4_10 ho) (sw_ln_4_10 ho) dX4_isTakenByOther_5 rfl ?_
  refine sw_if_lt (np := 9) (tp := 23) dX4_isTakenByOther_6 rfl rfl ?_ ?_
  · refine sw_iconst (np := 24) dX4_isTakenByOther_23 sw_ic_0 rfl ?_
    exact sw_zret dX4_isTakenByOther_24
  · refine sw_ald_3_0 (np := 10) dX4_isTakenByOther_9 rfl ?_
    refine sw_gR (np := 13) sw_f_RX4_43 ho (sw_rf_4_10 ho) dX4_isTakenByOther_10 rfl ?_
    refine sw_ild_3_1 (np := 14) dX4_isTakenByOther_13 rfl ?_
    refine sw_iald (np := 15) (sw_kd_4_10 ho) (sw_ln_4_10 ho) dX4_isTakenByOther_14 rfl ?_
    refine sw_ild_3_2 (np := 16) dX4_isTakenByOther_15 rfl ?_
    refine sw_icmp_eq (np := 19) (tp := 23) dX4_isTakenByOther_16 rfl rfl ?_ ?_
    · refine sw_iconst (np := 24) dX4_isTakenByOther_23 sw_ic_0 rfl ?_
      exact sw_zret dX4_isTakenByOther_24
    · refine sw_iconst (np := 20) dX4_isTakenByOther_19 sw_ic_1 rfl ?_
      refine sw_goto (tp := 24) dX4_isTakenByOther_20 rfl ?_
      exact sw_zret dX4_isTakenByOther_24
/-- SwordAttic$Night.move(II)V -/
def fX4_move (N : Nat) (o : Nat) (p1 : Int32) (p2 : Int32) (S : sw_St) : Option (Unit × sw_St) :=
  sw_gd (sw_in p1 10) (sw_gd (sw_in (S.1 (o + 1) p1.toNatClampNeg) 12) (sw_ls (sw_si S (o + 6) (S.1 (o + 1) p1.toNatClampNeg).toNatClampNeg (-1 : Int32)) (fun S1 => (sw_gd (sw_in p1 10) (sw_ls (sw_si S1 (o + 1) p1.toNatClampNeg p2) (fun S2 => (sw_gd (sw_in p2 12) (sw_ls (sw_si S2 (o + 6) p2.toNatClampNeg p1) (fun S3 => (some ((), S3)))))))))))
theorem hX4_move {G : sw_G} {N d : Nat} (hd : 1 ≤ d) {o : Nat} {p1 : Int32} {p2 : Int32} (ho : sw_kd o = 4) {S : sw_St} : sw_Ev G yX4_move cX4_move 3 none d sw_ev [sw_vr G o, .int p1, .int p2] S (fX4_move N o p1 p2 S) := by
  refine sw_Ev_of (own := RX4) (lv0 := [some (sw_vr G o), some (.int p1), some (.int p2)]) (by decide) rfl (Nat.le_of_ble_eq_true rfl) rfl ?_
  unfold fX4_move
  refine sw_ald_3_0 (np := 1) dX4_move_0 rfl ?_
  refine sw_gR (np := 4) sw_f_RX4_43 ho (sw_rf_4_10 ho) dX4_move_1 rfl ?_
  refine sw_ald_3_0 (np := 5) dX4_move_4 rfl ?_
  refine sw_gR (np := 8) sw_f_RX4_27 ho (sw_rf_4_5 ho) dX4_move_5 rfl ?_
  refine sw_ild_3_1 (np := 9) dX4_move_8 rfl ?_
  refine sw_iald (np := 10) (sw_kd_4_5 ho) (sw_ln_4_5 ho) dX4_move_9 rfl ?_
  refine sw_iconst (np := 11) dX4_move_10 sw_ic_m1 rfl ?_
  refine sw_sI (np := 12) (sw_kd_4_10 ho) (sw_ln_4_10 ho) dX4_move_11 rfl (fun S1 => ?_)
  refine sw_ald_3_0 (np := 13) dX4_move_12 rfl ?_
  refine sw_gR (np := 16) sw_f_RX4_27 ho (sw_rf_4_5 ho) dX4_move_13 rfl ?_
  refine sw_ild_3_1 (np := 17) dX4_move_16 rfl ?_
  refine sw_ild_3_2 (np := 18) dX4_move_17 rfl ?_
  refine sw_sI (np := 19) (sw_kd_4_5 ho) (sw_ln_4_5 ho) dX4_move_18 rfl (fun S2 => ?_)
  refine sw_ald_3_0 (np := 20) dX4_move_19 rfl ?_
  refine sw_gR (np := 23) sw_f_RX4_43 ho (sw_rf_4_10 ho) dX4_move_20 rfl ?_
  refine sw_ild_3_2 (np := 24) dX4_move_23 rfl ?_
  refine sw_ild_3_1 (np := 25) dX4_move_24 rfl ?_
  refine sw_sI (np := 26) (sw_kd_4_10 ho) (sw_ln_4_10 ho) dX4_move_25 rfl (fun S3 => ?_)
  exact sw_vret dX4_move_26
/-- SwordAttic$Night.set(III)V -/
def fX4_set (N : Nat) (o : Nat) (p1 : Int32) (p2 : Int32) (p3 : Int32) (S : sw_St) : Option (Unit × sw_St) :=
  if p2 = (0 : Int32) then (sw_bd (fX4_move N o p1 p3 S) (fun _ S1 => (some ((), S1)))) else (if p2 = (1 : Int32) then (sw_gd (sw_in p1 10) (sw_ls (sw_si S (o + 2) p1.toNatClampNeg p3) (fun S2 => (some ((), S2))))) else (if p2 = (2 : Int32) then (sw_gd (sw_in p1 10) (sw_ls (sw_si S (o + 3) p1.toNatClampNeg p3) (fun S3 => (some ((), S3))))) else (if p2 = (3 : Int32) then (sw_gd (sw_in p1 10) (sw_ls (sw_si S (o + 4) p1.toNatClampNeg p3) (fun S4 => (some ((), S4))))) else (if p2 = (4 : Int32) then (sw_gd (sw_in p1 10) (sw_ls (sw_si S (o + 5) p1.toNatClampNeg p3) (fun S5 => (some ((), S5))))) else (if p2 = (5 : Int32) then (sw_ls (sw_si S o 1 p3) (fun S6 => (some ((), S6)))) else (if p2 = (6 : Int32) then (sw_ls (sw_si S o 2 p3) (fun S7 => (some ((), S7)))) else (sw_ls (sw_si S o 3 p3) (fun S8 => (some ((), S8))))))))))
theorem hX4_set {G : sw_G} {N d : Nat} (hd : 2 ≤ d) {o : Nat} {p1 : Int32} {p2 : Int32} {p3 : Int32} (ho : sw_kd o = 4) {S : sw_St} : sw_Ev G yX4_set cX4_set 4 none d sw_ev [sw_vr G o, .int p1, .int p2, .int p3] S (fX4_set N o p1 p2 p3 S) := by
  refine sw_Ev_of (own := RX4) (lv0 := [some (sw_vr G o), some (.int p1), some (.int p2), some (.int p3)]) (by decide) rfl (Nat.le_of_ble_eq_true rfl) rfl ?_
  unfold fX4_set
  refine sw_ild_4_2 (np := 1) dX4_set_0 rfl ?_
  refine sw_ite (fun hs1 => ?_) (fun hs1 => ?_)
  · refine sw_tabIn (tp := 44) dX4_set_1 (by rw [hs1]; decide) (by rw [hs1]; decide) (by rw [hs1]; rfl) rfl ?_
    refine sw_ald_4_0 (np := 45) dX4_set_44 rfl ?_
    refine sw_ild_4_1 (np := 46) dX4_set_45 rfl ?_
    refine sw_ild_4_3 (np := 47) dX4_set_46 rfl ?_
    refine sw_cV2v (np := 50) (hX4_move (d := d - 1) (by omega) ho) sw_mv_X4_move ho sw_wl_RX4_90 dX4_set_47 (sw_fit_rm (by omega) (by decide)) (Nat.le_of_ble_eq_true rfl) rfl (fun _ S1 => ?_)
    refine sw_goto (tp := 114) dX4_set_50 rfl ?_
    exact sw_vret dX4_set_114
  · refine sw_ite (fun hs2 => ?_) (fun hs2 => ?_)
    · refine sw_tabIn (tp := 53) dX4_set_1 (by rw [hs2]; decide) (by rw [hs2]; decide) (by rw [hs2]; rfl) rfl ?_
      refine sw_ald_4_0 (np := 54) dX4_set_53 rfl ?_
      refine sw_gR (np := 57) sw_f_RX4_31 ho (sw_rf_4_6 ho) dX4_set_54 rfl ?_
      refine sw_ild_4_1 (np := 58) dX4_set_57 rfl ?_
      refine sw_ild_4_3 (np := 59) dX4_set_58 rfl ?_
      refine sw_sI (np := 60) (sw_kd_4_6 ho) (sw_ln_4_6 ho) dX4_set_59 rfl (fun S2 => ?_)
      refine sw_goto (tp := 114) dX4_set_60 rfl ?_
      exact sw_vret dX4_set_114
    · refine sw_ite (fun hs3 => ?_) (fun hs3 => ?_)
      · refine sw_tabIn (tp := 63) dX4_set_1 (by rw [hs3]; decide) (by rw [hs3]; decide) (by rw [hs3]; rfl) rfl ?_
        refine sw_ald_4_0 (np := 64) dX4_set_63 rfl ?_
        refine sw_gR (np := 67) sw_f_RX4_34 ho (sw_rf_4_7 ho) dX4_set_64 rfl ?_
        refine sw_ild_4_1 (np := 68) dX4_set_67 rfl ?_
        refine sw_ild_4_3 (np := 69) dX4_set_68 rfl ?_
        refine sw_sI (np := 70) (sw_kd_4_7 ho) (sw_ln_4_7 ho) dX4_set_69 rfl (fun S3 => ?_)
        refine sw_goto (tp := 114) dX4_set_70 rfl ?_
        exact sw_vret dX4_set_114
      · refine sw_ite (fun hs4 => ?_) (fun hs4 => ?_)
        · refine sw_tabIn (tp := 73) dX4_set_1 (by rw [hs4]; decide) (by rw [hs4]; decide) (by rw [hs4]; rfl) rfl ?_
          refine sw_ald_4_0 (np := 74) dX4_set_73 rfl ?_
          refine sw_gR (np := 77) sw_f_RX4_37 ho (sw_rf_4_8 ho) dX4_set_74 rfl ?_
          refine sw_ild_4_1 (np := 78) dX4_set_77 rfl ?_
          refine sw_ild_4_3 (np := 79) dX4_set_78 rfl ?_
          refine sw_sI (np := 80) (sw_kd_4_8 ho) (sw_ln_4_8 ho) dX4_set_79 rfl (fun S4 => ?_)
          refine sw_goto (tp := 114) dX4_set_80 rfl ?_
          exact sw_vret dX4_set_114
        · refine sw_ite (fun hs5 => ?_) (fun hs5 => ?_)
          · refine sw_tabIn (tp := 83) dX4_set_1 (by rw [hs5]; decide) (by rw [hs5]; decide) (by rw [hs5]; rfl) rfl ?_
            refine sw_ald_4_0 (np := 84) dX4_set_83 rfl ?_
            refine sw_gR (np := 87) sw_f_RX4_40 ho (sw_rf_4_9 ho) dX4_set_84 rfl ?_
            refine sw_ild_4_1 (np := 88) dX4_set_87 rfl ?_
            refine sw_ild_4_3 (np := 89) dX4_set_88 rfl ?_
            refine sw_sI (np := 90) (sw_kd_4_9 ho) (sw_ln_4_9 ho) dX4_set_89 rfl (fun S5 => ?_)
            refine sw_goto (tp := 114) dX4_set_90 rfl ?_
            exact sw_vret dX4_set_114
          · refine sw_ite (fun hs6 => ?_) (fun hs6 => ?_)
            · refine sw_tabIn (tp := 93) dX4_set_1 (by rw [hs6]; decide) (by rw [hs6]; decide) (by rw [hs6]; rfl) rfl ?_
              refine sw_ald_4_0 (np := 94) dX4_set_93 rfl ?_
              refine sw_ild_4_3 (np := 95) dX4_set_94 rfl ?_
              refine sw_pI (np := 98) sw_f_RX4_15 sw_fp_4_1 ho dX4_set_95 rfl (fun S6 => ?_)
              refine sw_goto (tp := 114) dX4_set_98 rfl ?_
              exact sw_vret dX4_set_114
            · refine sw_ite (fun hs7 => ?_) (fun hs7 => ?_)
              · refine sw_tabIn (tp := 101) dX4_set_1 (by rw [hs7]; decide) (by rw [hs7]; decide) (by rw [hs7]; rfl) rfl ?_
                refine sw_ald_4_0 (np := 102) dX4_set_101 rfl ?_
                refine sw_ild_4_3 (np := 103) dX4_set_102 rfl ?_
                refine sw_pI (np := 106) sw_f_RX4_18 sw_fp_4_2 ho dX4_set_103 rfl (fun S7 => ?_)
                refine sw_goto (tp := 114) dX4_set_106 rfl ?_
                exact sw_vret dX4_set_114
              · have hs1n := sw_neI sw_ic_0 (by decide) (by decide) hs1
                have hs2n := sw_neI sw_ic_1 (by decide) (by decide) hs2
                have hs3n := sw_neI sw_ic_2 (by decide) (by decide) hs3
                have hs4n := sw_neI sw_ic_3 (by decide) (by decide) hs4
                have hs5n := sw_neI sw_ic_4 (by decide) (by decide) hs5
                have hs6n := sw_neI sw_ic_5 (by decide) (by decide) hs6
                have hs7n := sw_neI sw_ic_6 (by decide) (by decide) hs7
                refine sw_tabOut (tp := 109) dX4_set_1 (by omega) rfl ?_
                refine sw_ald_4_0 (np := 110) dX4_set_109 rfl ?_
                refine sw_ild_4_3 (np := 111) dX4_set_110 rfl ?_
                refine sw_pI (np := 114) sw_f_RX4_21 sw_fp_4_3 ho dX4_set_111 rfl (fun S8 => ?_)
                exact sw_vret dX4_set_114
/-- SwordAttic$Changes.lay(LSwordAttic$Night;II)V -/
def fX1_lay (N : Nat) (o1 : Nat) (p2 : Int32) (p3 : Int32) (S : sw_St) : Option (Unit × sw_St) :=
  sw_gd (sw_in p2 40) (sw_jn1 (fun y1 S1 => (if y1 = 0 then (sw_gd (sw_in p2 40) (sw_gd (sw_in p2 40) (sw_bd (fX4_set N o1 (S1.1 80 p2.toNatClampNeg) (S1.1 81 p2.toNatClampNeg) p3 S1) (fun _ S2 => (some ((), S2)))))) else (some ((), S1)))) (fun k1 => (if (S.1 81 p2.toNatClampNeg) = 0 then (sw_gd (sw_in p2 40) (sw_bd (fX4_isTakenByOther N o1 p3 (S.1 80 p2.toNatClampNeg) S) (fun r2 S3 => (if r2 = 0 then (k1 (0 : Int32) S3) else (k1 (1 : Int32) S3))))) else (k1 (0 : Int32) S))))
theorem hX1_lay {G : sw_G} {N d : Nat} (hd : 3 ≤ d) {o1 : Nat} {p2 : Int32} {p3 : Int32} (ho1 : sw_kd o1 = 4) {S : sw_St} : sw_Ev G yX1_lay cX1_lay 5 none d sw_ev [sw_vr G 79, sw_vr G o1, .int p2, .int p3] S (fX1_lay N o1 p2 p3 S) := by
  refine sw_Ev_of (own := RX1) (lv0 := [some (sw_vr G 79), some (sw_vr G o1), some (.int p2), some (.int p3), none]) (by decide) rfl (Nat.le_of_ble_eq_true rfl) rfl ?_
  unfold fX1_lay
  refine sw_ald_5_0 (np := 1) dX1_lay_0 rfl ?_
  refine sw_gR (np := 4) sw_f_RX1_22 sw_k_79 sw_r_79_3 dX1_lay_1 rfl ?_
  refine sw_ild_5_2 (np := 5) dX1_lay_4 rfl ?_
  refine sw_iald (np := 6) sw_k_81 sw_n_81 dX1_lay_5 rfl ?_
  refine sw_jm1 (pj := 28) (fun y1 => [some (sw_vr G 79), some (sw_vr G o1), some (.int p2), some (.int p3), none]) (fun y1 => [.int y1]) (fun y1 S1 => ?_) (fun k1 hk1 => ?_)
  · refine sw_ist_5_4 (np := 30) dX1_lay_28 rfl rfl ?_
    refine sw_ild_5_4 (np := 32) dX1_lay_30 rfl ?_
    refine sw_if_ne (np := 35) (tp := 52) dX1_lay_32 rfl rfl ?_ ?_
    · exact sw_vret dX1_lay_52
    · refine sw_ald_5_1 (np := 36) dX1_lay_35 rfl ?_
      refine sw_ald_5_0 (np := 37) dX1_lay_36 rfl ?_
      refine sw_gR (np := 40) sw_f_RX1_18 sw_k_79 sw_r_79_2 dX1_lay_37 rfl ?_
      refine sw_ild_5_2 (np := 41) dX1_lay_40 rfl ?_
      refine sw_iald (np := 42) sw_k_80 sw_n_80 dX1_lay_41 rfl ?_
      refine sw_ald_5_0 (np := 43) dX1_lay_42 rfl ?_
      refine sw_gR (np := 46) sw_f_RX1_22 sw_k_79 sw_r_79_3 dX1_lay_43 rfl ?_
      refine sw_ild_5_2 (np := 47) dX1_lay_46 rfl ?_
      refine sw_iald (np := 48) sw_k_81 sw_n_81 dX1_lay_47 rfl ?_
      refine sw_ild_5_3 (np := 49) dX1_lay_48 rfl ?_
      refine sw_cV3v (np := 52) (hX4_set (d := d - 1) (by omega) ho1) sw_mv_X4_set ho1 sw_wl_RX1_50 dX1_lay_49 (sw_fit_rm (by omega) (by decide)) (Nat.le_of_ble_eq_true rfl) rfl (fun _ S2 => ?_)
      exact sw_vret dX1_lay_52
  · refine sw_if_ne (np := 9) (tp := 27) dX1_lay_6 rfl rfl ?_ ?_
    · refine sw_iconst (np := 28) dX1_lay_27 sw_ic_0 rfl ?_
      exact hk1 _ _
    · refine sw_ald_5_1 (np := 10) dX1_lay_9 rfl ?_
      refine sw_ild_5_3 (np := 11) dX1_lay_10 rfl ?_
      refine sw_ald_5_0 (np := 12) dX1_lay_11 rfl ?_
      refine sw_gR (np := 15) sw_f_RX1_18 sw_k_79 sw_r_79_2 dX1_lay_12 rfl ?_
      refine sw_ild_5_2 (np := 16) dX1_lay_15 rfl ?_
      refine sw_iald (np := 17) sw_k_80 sw_n_80 dX1_lay_16 rfl ?_
      refine sw_cV2i (np := 20) (hX4_isTakenByOther (d := d - 1) (by omega) ho1) sw_mv_X4_isTakenByOther ho1 sw_wl_RX1_44 dX1_lay_17 (sw_fit_rm (by omega) (by decide)) (Nat.le_of_ble_eq_true rfl) rfl (fun r2 S3 => ?_)
      refine sw_if_eq (np := 23) (tp := 27) dX1_lay_20 rfl rfl ?_ ?_
      · refine sw_iconst (np := 28) dX1_lay_27 sw_ic_0 rfl ?_
        exact hk1 _ _
      · refine sw_iconst (np := 24) dX1_lay_23 sw_ic_1 rfl ?_
        refine sw_goto (tp := 28) dX1_lay_24 rfl ?_
        exact hk1 _ _
/-- SwordAttic$Changes.stepBack(LSwordAttic$Night;)Z -/
def fX1_stepBack (N : Nat) (o1 : Nat) (S : sw_St) : Option (Int32 × sw_St) :=
  if (S.1 79 1) > 0 then (sw_ls (sw_si S 79 1 ((S.1 79 1) - (1 : Int32))) (fun S1 => (sw_gd (sw_in (S1.1 79 1) 40) (sw_bd (fX1_lay N o1 (S1.1 79 1) (S1.1 82 (S1.1 79 1).toNatClampNeg) S1) (fun _ S2 => (some (vp_nar .boolean (1 : Int32), S2))))))) else (some (vp_nar .boolean (0 : Int32), S))
theorem hX1_stepBack {G : sw_G} {N d : Nat} (hd : 4 ≤ d) {o1 : Nat} (ho1 : sw_kd o1 = 4) {S : sw_St} : sw_Ev G yX1_stepBack cX1_stepBack 2 (some .boolean) d sw_ei [sw_vr G 79, sw_vr G o1] S (fX1_stepBack N o1 S) := by
  refine sw_Ev_of (own := RX1) (lv0 := [some (sw_vr G 79), some (sw_vr G o1)]) (by decide) rfl (Nat.le_of_ble_eq_true rfl) rfl ?_
  unfold fX1_stepBack
  refine sw_ald_2_0 (np := 1) dX1_stepBack_0 rfl ?_
  refine sw_gI (np := 4) sw_f_RX1_15 sw_k_79 dX1_stepBack_1 rfl ?_
  refine sw_if_gt (np := 7) (tp := 9) dX1_stepBack_4 rfl rfl ?_ ?_
  · refine sw_ald_2_0 (np := 10) dX1_stepBack_9 rfl ?_
    refine sw_dup (np := 11) dX1_stepBack_10 rfl rfl ?_
    refine sw_gI (np := 14) sw_f_RX1_15 sw_k_79 dX1_stepBack_11 rfl ?_
    refine sw_iconst (np := 15) dX1_stepBack_14 sw_ic_1 rfl ?_
    refine sw_isub (np := 16) dX1_stepBack_15 rfl ?_
    refine sw_pI (np := 19) sw_f_RX1_15 sw_fp_1_1 sw_k_79 dX1_stepBack_16 rfl (fun S1 => ?_)
    refine sw_ald_2_0 (np := 20) dX1_stepBack_19 rfl ?_
    refine sw_ald_2_1 (np := 21) dX1_stepBack_20 rfl ?_
    refine sw_ald_2_0 (np := 22) dX1_stepBack_21 rfl ?_
    refine sw_gI (np := 25) sw_f_RX1_15 sw_k_79 dX1_stepBack_22 rfl ?_
    refine sw_ald_2_0 (np := 26) dX1_stepBack_25 rfl ?_
    refine sw_gR (np := 29) sw_f_RX1_25 sw_k_79 sw_r_79_4 dX1_stepBack_26 rfl ?_
    refine sw_ald_2_0 (np := 30) dX1_stepBack_29 rfl ?_
    refine sw_gI (np := 33) sw_f_RX1_15 sw_k_79 dX1_stepBack_30 rfl ?_
    refine sw_iald (np := 34) sw_k_82 sw_n_82 dX1_stepBack_33 rfl ?_
    refine sw_cV3v (np := 37) (hX1_lay (d := d - 1) (by omega) ho1) sw_mv_X1_lay sw_k_79 sw_wl_RX1_40 dX1_stepBack_34 (sw_fit_rm (by omega) (by decide)) (Nat.le_of_ble_eq_true rfl) rfl (fun _ S2 => ?_)
    refine sw_iconst (np := 38) dX1_stepBack_37 sw_ic_1 rfl ?_
    exact sw_zret dX1_stepBack_38
  · refine sw_iconst (np := 8) dX1_stepBack_7 sw_ic_0 rfl ?_
    exact sw_zret dX1_stepBack_8
/-- SwordAttic$Changes.stepOn(LSwordAttic$Night;)Z -/
def fX1_stepOn (N : Nat) (o1 : Nat) (S : sw_St) : Option (Int32 × sw_St) :=
  if (S.1 79 1) < (S.1 79 0) then (sw_gd (sw_in (S.1 79 1) 40) (sw_bd (fX1_lay N o1 (S.1 79 1) (S.1 83 (S.1 79 1).toNatClampNeg) S) (fun _ S1 => (sw_ls (sw_si S1 79 1 ((S1.1 79 1) + (1 : Int32))) (fun S2 => (some (vp_nar .boolean (1 : Int32), S2))))))) else (some (vp_nar .boolean (0 : Int32), S))
theorem hX1_stepOn {G : sw_G} {N d : Nat} (hd : 4 ≤ d) {o1 : Nat} (ho1 : sw_kd o1 = 4) {S : sw_St} : sw_Ev G yX1_stepOn cX1_stepOn 2 (some .boolean) d sw_ei [sw_vr G 79, sw_vr G o1] S (fX1_stepOn N o1 S) := by
  refine sw_Ev_of (own := RX1) (lv0 := [some (sw_vr G 79), some (sw_vr G o1)]) (by decide) rfl (Nat.le_of_ble_eq_true rfl) rfl ?_
  unfold fX1_stepOn
  refine sw_ald_2_0 (np := 1) dX1_stepOn_0 rfl ?_
  refine sw_gI (np := 4) sw_f_RX1_15 sw_k_79 dX1_stepOn_1 rfl ?_
  refine sw_ald_2_0 (np := 5) dX1_stepOn_4 rfl ?_
  refine sw_gI (np := 8) sw_f_RX1_9 sw_k_79 dX1_stepOn_5 rfl ?_
  refine sw_icmp_lt (np := 11) (tp := 13) dX1_stepOn_8 rfl rfl ?_ ?_
  · refine sw_ald_2_0 (np := 14) dX1_stepOn_13 rfl ?_
    refine sw_ald_2_1 (np := 15) dX1_stepOn_14 rfl ?_
    refine sw_ald_2_0 (np := 16) dX1_stepOn_15 rfl ?_
    refine sw_gI (np := 19) sw_f_RX1_15 sw_k_79 dX1_stepOn_16 rfl ?_
    refine sw_ald_2_0 (np := 20) dX1_stepOn_19 rfl ?_
    refine sw_gR (np := 23) sw_f_RX1_28 sw_k_79 sw_r_79_5 dX1_stepOn_20 rfl ?_
    refine sw_ald_2_0 (np := 24) dX1_stepOn_23 rfl ?_
    refine sw_gI (np := 27) sw_f_RX1_15 sw_k_79 dX1_stepOn_24 rfl ?_
    refine sw_iald (np := 28) sw_k_83 sw_n_83 dX1_stepOn_27 rfl ?_
    refine sw_cV3v (np := 31) (hX1_lay (d := d - 1) (by omega) ho1) sw_mv_X1_lay sw_k_79 sw_wl_RX1_40 dX1_stepOn_28 (sw_fit_rm (by omega) (by decide)) (Nat.le_of_ble_eq_true rfl) rfl (fun _ S1 => ?_)
    refine sw_ald_2_0 (np := 32) dX1_stepOn_31 rfl ?_
    refine sw_dup (np := 33) dX1_stepOn_32 rfl rfl ?_
    refine sw_gI (np := 36) sw_f_RX1_15 sw_k_79 dX1_stepOn_33 rfl ?_
    refine sw_iconst (np := 37) dX1_stepOn_36 sw_ic_1 rfl ?_
    refine sw_iadd (np := 38) dX1_stepOn_37 rfl ?_
    refine sw_pI (np := 41) sw_f_RX1_15 sw_fp_1_1 sw_k_79 dX1_stepOn_38 rfl (fun S2 => ?_)
    refine sw_iconst (np := 42) dX1_stepOn_41 sw_ic_1 rfl ?_
    exact sw_zret dX1_stepOn_42
  · refine sw_iconst (np := 12) dX1_stepOn_11 sw_ic_0 rfl ?_
    exact sw_zret dX1_stepOn_12
/-- SwordAttic$Deeds.add(II)V -/
def fX2_add (N : Nat) (p1 : Int32) (p2 : Int32) (S : sw_St) : Option (Unit × sw_St) :=
  sw_gd (sw_in p1 5) (sw_gd (sw_in p1 5) (sw_ls (sw_si S 85 p1.toNatClampNeg ((S.1 85 p1.toNatClampNeg) + p2)) (fun S1 => (some ((), S1)))))
theorem hX2_add {G : sw_G} {N d : Nat} (hd : 1 ≤ d) {p1 : Int32} {p2 : Int32}  {S : sw_St} : sw_Ev G yX2_add cX2_add 3 none d sw_ev [sw_vr G 84, .int p1, .int p2] S (fX2_add N p1 p2 S) := by
  refine sw_Ev_of (own := RX2) (lv0 := [some (sw_vr G 84), some (.int p1), some (.int p2)]) (by decide) rfl (Nat.le_of_ble_eq_true rfl) rfl ?_
  unfold fX2_add
  refine sw_ald_3_0 (np := 1) dX2_add_0 rfl ?_
  refine sw_gR (np := 4) sw_f_RX2_15 sw_k_84 sw_r_84_1 dX2_add_1 rfl ?_
  refine sw_ild_3_1 (np := 5) dX2_add_4 rfl ?_
  refine sw_dup2 (np := 6) dX2_add_5 rfl rfl rfl ?_
  refine sw_iald (np := 7) sw_k_85 sw_n_85 dX2_add_6 rfl ?_
  refine sw_ild_3_2 (np := 8) dX2_add_7 rfl ?_
  refine sw_iadd (np := 9) dX2_add_8 rfl ?_
  refine sw_sI (np := 10) sw_k_85 sw_n_85 dX2_add_9 rfl (fun S1 => ?_)
  exact sw_vret dX2_add_10
/-- SwordAttic$Deeds.keepImage(LSwordAttic$Night;)V -/
def fX2_keepImage (N : Nat) (o1 : Nat) (S : sw_St) : Option (Unit × sw_St) :=
  sw_ls (sw_si S 84 0 (1 : Int32)) (fun S1 => (sw_ls (sw_si S1 84 5 (S1.1 o1 0)) (fun S2 => (sw_ls (sw_si S2 84 6 (S2.1 o1 1)) (fun S3 => (sw_ls (sw_si S3 84 7 (S3.1 o1 3)) (fun S4 => (sw_gd (sw_cg (0 : Int32) (0 : Int32) (S4.1 84 5) 10 10) (sw_ls (sw_ci S4 (o1 + 4) 87 (0 : Int32).toNatClampNeg (0 : Int32).toNatClampNeg (S4.1 84 5).toNatClampNeg) (fun S5 => (sw_gd (sw_cg (0 : Int32) (0 : Int32) (S5.1 84 5) 10 10) (sw_ls (sw_ci S5 (o1 + 5) 88 (0 : Int32).toNatClampNeg (0 : Int32).toNatClampNeg (S5.1 84 5).toNatClampNeg) (fun S6 => (sw_gd (sw_cg (0 : Int32) (0 : Int32) (5 : Int32) 5 5) (sw_ls (sw_ci S6 85 86 (0 : Int32).toNatClampNeg (0 : Int32).toNatClampNeg (5 : Int32).toNatClampNeg) (fun S7 => (some ((), S7))))))))))))))))))
theorem hX2_keepImage {G : sw_G} {N d : Nat} (hd : 1 ≤ d) {o1 : Nat} (ho1 : sw_kd o1 = 4) {S : sw_St} : sw_Ev G yX2_keepImage cX2_keepImage 2 none d sw_ev [sw_vr G 84, sw_vr G o1] S (fX2_keepImage N o1 S) := by
  refine sw_Ev_of (own := RX2) (lv0 := [some (sw_vr G 84), some (sw_vr G o1)]) (by decide) rfl (Nat.le_of_ble_eq_true rfl) rfl ?_
  unfold fX2_keepImage
  refine sw_ald_2_0 (np := 1) dX2_keepImage_0 rfl ?_
  refine sw_iconst (np := 2) dX2_keepImage_1 sw_ic_1 rfl ?_
  refine sw_pZ (np := 5) sw_f_RX2_9 sw_fp_2_0 (by rfl) (by rfl) sw_k_84 dX2_keepImage_2 rfl (fun S1 => ?_)
  refine sw_ald_2_0 (np := 6) dX2_keepImage_5 rfl ?_
  refine sw_ald_2_1 (np := 7) dX2_keepImage_6 rfl ?_
  refine sw_gI (np := 10) sw_f_RX2_38 ho1 dX2_keepImage_7 rfl ?_
  refine sw_pI (np := 13) sw_f_RX2_28 sw_fp_2_5 sw_k_84 dX2_keepImage_10 rfl (fun S2 => ?_)
  refine sw_ald_2_0 (np := 14) dX2_keepImage_13 rfl ?_
  refine sw_ald_2_1 (np := 15) dX2_keepImage_14 rfl ?_
  refine sw_gI (np := 18) sw_f_RX2_43 ho1 dX2_keepImage_15 rfl ?_
  refine sw_pI (np := 21) sw_f_RX2_32 sw_fp_2_6 sw_k_84 dX2_keepImage_18 rfl (fun S3 => ?_)
  refine sw_ald_2_0 (np := 22) dX2_keepImage_21 rfl ?_
  refine sw_ald_2_1 (np := 23) dX2_keepImage_22 rfl ?_
  refine sw_gI (np := 26) sw_f_RX2_46 ho1 dX2_keepImage_23 rfl ?_
  refine sw_pI (np := 29) sw_f_RX2_35 sw_fp_2_7 sw_k_84 dX2_keepImage_26 rfl (fun S4 => ?_)
  refine sw_ald_2_1 (np := 30) dX2_keepImage_29 rfl ?_
  refine sw_gR (np := 33) sw_f_RX2_49 ho1 (sw_rf_4_8 ho1) dX2_keepImage_30 rfl ?_
  refine sw_iconst (np := 34) dX2_keepImage_33 sw_ic_0 rfl ?_
  refine sw_ald_2_0 (np := 35) dX2_keepImage_34 rfl ?_
  refine sw_gR (np := 38) sw_f_RX2_22 sw_k_84 sw_r_84_3 dX2_keepImage_35 rfl ?_
  refine sw_iconst (np := 39) dX2_keepImage_38 sw_ic_0 rfl ?_
  refine sw_ald_2_0 (np := 40) dX2_keepImage_39 rfl ?_
  refine sw_gI (np := 43) sw_f_RX2_28 sw_k_84 dX2_keepImage_40 rfl ?_
  refine sw_yI (np := 46) sw_acw_ok (sw_kd_4_8 ho1) sw_k_87 (sw_ln_4_8 ho1) sw_n_87 sw_wl_RX2_52 (by show 1 ≤ d; omega) (sw_room (by omega) (Nat.le_of_ble_eq_true rfl)) dX2_keepImage_43 rfl (fun S5 => ?_)
  refine sw_ald_2_1 (np := 47) dX2_keepImage_46 rfl ?_
  refine sw_gR (np := 50) sw_f_RX2_58 ho1 (sw_rf_4_9 ho1) dX2_keepImage_47 rfl ?_
  refine sw_iconst (np := 51) dX2_keepImage_50 sw_ic_0 rfl ?_
  refine sw_ald_2_0 (np := 52) dX2_keepImage_51 rfl ?_
  refine sw_gR (np := 55) sw_f_RX2_25 sw_k_84 sw_r_84_4 dX2_keepImage_52 rfl ?_
  refine sw_iconst (np := 56) dX2_keepImage_55 sw_ic_0 rfl ?_
  refine sw_ald_2_0 (np := 57) dX2_keepImage_56 rfl ?_
  refine sw_gI (np := 60) sw_f_RX2_28 sw_k_84 dX2_keepImage_57 rfl ?_
  refine sw_yI (np := 63) sw_acw_ok (sw_kd_4_9 ho1) sw_k_88 (sw_ln_4_9 ho1) sw_n_88 sw_wl_RX2_52 (by show 1 ≤ d; omega) (sw_room (by omega) (Nat.le_of_ble_eq_true rfl)) dX2_keepImage_60 rfl (fun S6 => ?_)
  refine sw_ald_2_0 (np := 64) dX2_keepImage_63 rfl ?_
  refine sw_gR (np := 67) sw_f_RX2_15 sw_k_84 sw_r_84_1 dX2_keepImage_64 rfl ?_
  refine sw_iconst (np := 68) dX2_keepImage_67 sw_ic_0 rfl ?_
  refine sw_ald_2_0 (np := 69) dX2_keepImage_68 rfl ?_
  refine sw_gR (np := 72) sw_f_RX2_19 sw_k_84 sw_r_84_2 dX2_keepImage_69 rfl ?_
  refine sw_iconst (np := 73) dX2_keepImage_72 sw_ic_0 rfl ?_
  refine sw_iconst (np := 74) dX2_keepImage_73 sw_ic_5 rfl ?_
  refine sw_yI (np := 77) sw_acw_ok sw_k_85 sw_k_86 sw_n_85 sw_n_86 sw_wl_RX2_52 (by show 1 ≤ d; omega) (sw_room (by omega) (Nat.le_of_ble_eq_true rfl)) dX2_keepImage_74 rfl (fun S7 => ?_)
  exact sw_vret dX2_keepImage_77
/-- SwordAttic$Deeds.layBack(LSwordAttic$Night;)V -/
def fX2_layBack (N : Nat) (o1 : Nat) (S : sw_St) : Option (Unit × sw_St) :=
  sw_ls (sw_si S o1 1 (S.1 84 6)) (fun S1 => (sw_ls (sw_si S1 o1 3 (S1.1 84 7)) (fun S2 => (sw_gd (sw_cg (0 : Int32) (0 : Int32) (S2.1 84 5) 10 10) (sw_ls (sw_ci S2 87 (o1 + 4) (0 : Int32).toNatClampNeg (0 : Int32).toNatClampNeg (S2.1 84 5).toNatClampNeg) (fun S3 => (sw_gd (sw_cg (0 : Int32) (0 : Int32) (S3.1 84 5) 10 10) (sw_ls (sw_ci S3 88 (o1 + 5) (0 : Int32).toNatClampNeg (0 : Int32).toNatClampNeg (S3.1 84 5).toNatClampNeg) (fun S4 => (sw_gd (sw_cg (0 : Int32) (0 : Int32) (5 : Int32) 5 5) (sw_ls (sw_ci S4 86 85 (0 : Int32).toNatClampNeg (0 : Int32).toNatClampNeg (5 : Int32).toNatClampNeg) (fun S5 => (some ((), S5))))))))))))))
theorem hX2_layBack {G : sw_G} {N d : Nat} (hd : 1 ≤ d) {o1 : Nat} (ho1 : sw_kd o1 = 4) {S : sw_St} : sw_Ev G yX2_layBack cX2_layBack 2 none d sw_ev [sw_vr G 84, sw_vr G o1] S (fX2_layBack N o1 S) := by
  refine sw_Ev_of (own := RX2) (lv0 := [some (sw_vr G 84), some (sw_vr G o1)]) (by decide) rfl (Nat.le_of_ble_eq_true rfl) rfl ?_
  unfold fX2_layBack
  refine sw_ald_2_1 (np := 1) dX2_layBack_0 rfl ?_
  refine sw_ald_2_0 (np := 2) dX2_layBack_1 rfl ?_
  refine sw_gI (np := 5) sw_f_RX2_32 sw_k_84 dX2_layBack_2 rfl ?_
  refine sw_pI (np := 8) sw_f_RX2_43 sw_fp_4_1 ho1 dX2_layBack_5 rfl (fun S1 => ?_)
  refine sw_ald_2_1 (np := 9) dX2_layBack_8 rfl ?_
  refine sw_ald_2_0 (np := 10) dX2_layBack_9 rfl ?_
  refine sw_gI (np := 13) sw_f_RX2_35 sw_k_84 dX2_layBack_10 rfl ?_
  refine sw_pI (np := 16) sw_f_RX2_46 sw_fp_4_3 ho1 dX2_layBack_13 rfl (fun S2 => ?_)
  refine sw_ald_2_0 (np := 17) dX2_layBack_16 rfl ?_
  refine sw_gR (np := 20) sw_f_RX2_22 sw_k_84 sw_r_84_3 dX2_layBack_17 rfl ?_
  refine sw_iconst (np := 21) dX2_layBack_20 sw_ic_0 rfl ?_
  refine sw_ald_2_1 (np := 22) dX2_layBack_21 rfl ?_
  refine sw_gR (np := 25) sw_f_RX2_49 ho1 (sw_rf_4_8 ho1) dX2_layBack_22 rfl ?_
  refine sw_iconst (np := 26) dX2_layBack_25 sw_ic_0 rfl ?_
  refine sw_ald_2_0 (np := 27) dX2_layBack_26 rfl ?_
  refine sw_gI (np := 30) sw_f_RX2_28 sw_k_84 dX2_layBack_27 rfl ?_
  refine sw_yI (np := 33) sw_acw_ok sw_k_87 (sw_kd_4_8 ho1) sw_n_87 (sw_ln_4_8 ho1) sw_wl_RX2_52 (by show 1 ≤ d; omega) (sw_room (by omega) (Nat.le_of_ble_eq_true rfl)) dX2_layBack_30 rfl (fun S3 => ?_)
  refine sw_ald_2_0 (np := 34) dX2_layBack_33 rfl ?_
  refine sw_gR (np := 37) sw_f_RX2_25 sw_k_84 sw_r_84_4 dX2_layBack_34 rfl ?_
  refine sw_iconst (np := 38) dX2_layBack_37 sw_ic_0 rfl ?_
  refine sw_ald_2_1 (np := 39) dX2_layBack_38 rfl ?_
  refine sw_gR (np := 42) sw_f_RX2_58 ho1 (sw_rf_4_9 ho1) dX2_layBack_39 rfl ?_
  refine sw_iconst (np := 43) dX2_layBack_42 sw_ic_0 rfl ?_
  refine sw_ald_2_0 (np := 44) dX2_layBack_43 rfl ?_
  refine sw_gI (np := 47) sw_f_RX2_28 sw_k_84 dX2_layBack_44 rfl ?_
  refine sw_yI (np := 50) sw_acw_ok sw_k_88 (sw_kd_4_9 ho1) sw_n_88 (sw_ln_4_9 ho1) sw_wl_RX2_52 (by show 1 ≤ d; omega) (sw_room (by omega) (Nat.le_of_ble_eq_true rfl)) dX2_layBack_47 rfl (fun S4 => ?_)
  refine sw_ald_2_0 (np := 51) dX2_layBack_50 rfl ?_
  refine sw_gR (np := 54) sw_f_RX2_19 sw_k_84 sw_r_84_2 dX2_layBack_51 rfl ?_
  refine sw_iconst (np := 55) dX2_layBack_54 sw_ic_0 rfl ?_
  refine sw_ald_2_0 (np := 56) dX2_layBack_55 rfl ?_
  refine sw_gR (np := 59) sw_f_RX2_15 sw_k_84 sw_r_84_1 dX2_layBack_56 rfl ?_
  refine sw_iconst (np := 60) dX2_layBack_59 sw_ic_0 rfl ?_
  refine sw_iconst (np := 61) dX2_layBack_60 sw_ic_5 rfl ?_
  refine sw_yI (np := 64) sw_acw_ok sw_k_86 sw_k_85 sw_n_86 sw_n_85 sw_wl_RX2_52 (by show 1 ≤ d; omega) (sw_room (by omega) (Nat.le_of_ble_eq_true rfl)) dX2_layBack_61 rfl (fun S5 => ?_)
  exact sw_vret dX2_layBack_64
/-- SwordAttic$Law.become(LSwordAttic$Law;)V -/
def fX3_become (N : Nat) (o : Nat) (o1 : Nat) (S : sw_St) : Option (Unit × sw_St) :=
  sw_ls (sw_si S o 0 (1 : Int32)) (fun S1 => (sw_ls (sw_si S1 o 1 (S1.1 o1 1)) (fun S2 => (sw_gd (sw_cg (0 : Int32) (0 : Int32) (128 : Int32) 128 128) (sw_ls (sw_ci S2 (o1 + 1) (o + 1) (0 : Int32).toNatClampNeg (0 : Int32).toNatClampNeg (128 : Int32).toNatClampNeg) (fun S3 => (sw_gd (sw_cg (0 : Int32) (0 : Int32) (128 : Int32) 128 128) (sw_ls (sw_ci S3 (o1 + 2) (o + 2) (0 : Int32).toNatClampNeg (0 : Int32).toNatClampNeg (128 : Int32).toNatClampNeg) (fun S4 => (some ((), S4)))))))))))
theorem hX3_become {G : sw_G} {N d : Nat} (hd : 1 ≤ d) {o : Nat} {o1 : Nat} (ho : sw_kd o = 3) (ho1 : sw_kd o1 = 3) {S : sw_St} : sw_Ev G yX3_become cX3_become 2 none d sw_ev [sw_vr G o, sw_vr G o1] S (fX3_become N o o1 S) := by
  refine sw_Ev_of (own := RX3) (lv0 := [some (sw_vr G o), some (sw_vr G o1)]) (by decide) rfl (Nat.le_of_ble_eq_true rfl) rfl ?_
  unfold fX3_become
  refine sw_ald_2_0 (np := 1) dX3_become_0 rfl ?_
  refine sw_iconst (np := 2) dX3_become_1 sw_ic_1 rfl ?_
  refine sw_pZ (np := 5) sw_f_RX3_7 sw_fp_3_0 (by rfl) (by rfl) ho dX3_become_2 rfl (fun S1 => ?_)
  refine sw_ald_2_0 (np := 6) dX3_become_5 rfl ?_
  refine sw_ald_2_1 (np := 7) dX3_become_6 rfl ?_
  refine sw_gI (np := 10) sw_f_RX3_13 ho1 dX3_become_7 rfl ?_
  refine sw_pI (np := 13) sw_f_RX3_13 sw_fp_3_1 ho dX3_become_10 rfl (fun S2 => ?_)
  refine sw_ald_2_1 (np := 14) dX3_become_13 rfl ?_
  refine sw_gR (np := 17) sw_f_RX3_17 ho1 (sw_rf_3_2 ho1) dX3_become_14 rfl ?_
  refine sw_iconst (np := 18) dX3_become_17 sw_ic_0 rfl ?_
  refine sw_ald_2_0 (np := 19) dX3_become_18 rfl ?_
  refine sw_gR (np := 22) sw_f_RX3_17 ho (sw_rf_3_2 ho) dX3_become_19 rfl ?_
  refine sw_iconst (np := 23) dX3_become_22 sw_ic_0 rfl ?_
  refine sw_sipush (np := 26) dX3_become_23 sw_sc_128 rfl ?_
  refine sw_yI (np := 29) sw_acw_ok (sw_kd_3_2 ho1) (sw_kd_3_2 ho) (sw_ln_3_2 ho1) (sw_ln_3_2 ho) sw_wl_RX3_30 (by show 1 ≤ d; omega) (sw_room (by omega) (Nat.le_of_ble_eq_true rfl)) dX3_become_26 rfl (fun S3 => ?_)
  refine sw_ald_2_1 (np := 30) dX3_become_29 rfl ?_
  refine sw_gR (np := 33) sw_f_RX3_21 ho1 (sw_rf_3_3 ho1) dX3_become_30 rfl ?_
  refine sw_iconst (np := 34) dX3_become_33 sw_ic_0 rfl ?_
  refine sw_ald_2_0 (np := 35) dX3_become_34 rfl ?_
  refine sw_gR (np := 38) sw_f_RX3_21 ho (sw_rf_3_3 ho) dX3_become_35 rfl ?_
  refine sw_iconst (np := 39) dX3_become_38 sw_ic_0 rfl ?_
  refine sw_sipush (np := 42) dX3_become_39 sw_sc_128 rfl ?_
  refine sw_yI (np := 45) sw_acw_ok (sw_kd_3_3 ho1) (sw_kd_3_3 ho) (sw_ln_3_3 ho1) (sw_ln_3_3 ho) sw_wl_RX3_30 (by show 1 ≤ d; omega) (sw_room (by omega) (Nat.le_of_ble_eq_true rfl)) dX3_become_42 rfl (fun S4 => ?_)
  exact sw_vret dX3_become_45
/-- SwordAttic$Law.add(II)V -/
def fX3_add (N : Nat) (o : Nat) (p1 : Int32) (p2 : Int32) (S : sw_St) : Option (Unit × sw_St) :=
  if (S.1 o 1) ≥ (128 : Int32) then (some ((), S)) else (sw_gd (sw_in (S.1 o 1) 128) (sw_ls (sw_si S (o + 1) (S.1 o 1).toNatClampNeg p1) (fun S1 => (sw_gd (sw_in (S1.1 o 1) 128) (sw_ls (sw_si S1 (o + 2) (S1.1 o 1).toNatClampNeg p2) (fun S2 => (sw_ls (sw_si S2 o 1 ((S2.1 o 1) + (1 : Int32))) (fun S3 => (some ((), S3))))))))))
theorem hX3_add {G : sw_G} {N d : Nat} (hd : 1 ≤ d) {o : Nat} {p1 : Int32} {p2 : Int32} (ho : sw_kd o = 3) {S : sw_St} : sw_Ev G yX3_add cX3_add 3 none d sw_ev [sw_vr G o, .int p1, .int p2] S (fX3_add N o p1 p2 S) := by
  refine sw_Ev_of (own := RX3) (lv0 := [some (sw_vr G o), some (.int p1), some (.int p2)]) (by decide) rfl (Nat.le_of_ble_eq_true rfl) rfl ?_
  unfold fX3_add
  refine sw_ald_3_0 (np := 1) dX3_add_0 rfl ?_
  refine sw_gI (np := 4) sw_f_RX3_13 ho dX3_add_1 rfl ?_
  refine sw_sipush (np := 7) dX3_add_4 sw_sc_128 rfl ?_
  refine sw_icmp_ge (np := 10) (tp := 40) dX3_add_7 rfl rfl ?_ ?_
  · exact sw_vret dX3_add_40
  · refine sw_ald_3_0 (np := 11) dX3_add_10 rfl ?_
    refine sw_gR (np := 14) sw_f_RX3_17 ho (sw_rf_3_2 ho) dX3_add_11 rfl ?_
    refine sw_ald_3_0 (np := 15) dX3_add_14 rfl ?_
    refine sw_gI (np := 18) sw_f_RX3_13 ho dX3_add_15 rfl ?_
    refine sw_ild_3_1 (np := 19) dX3_add_18 rfl ?_
    refine sw_sI (np := 20) (sw_kd_3_2 ho) (sw_ln_3_2 ho) dX3_add_19 rfl (fun S1 => ?_)
    refine sw_ald_3_0 (np := 21) dX3_add_20 rfl ?_
    refine sw_gR (np := 24) sw_f_RX3_21 ho (sw_rf_3_3 ho) dX3_add_21 rfl ?_
    refine sw_ald_3_0 (np := 25) dX3_add_24 rfl ?_
    refine sw_gI (np := 28) sw_f_RX3_13 ho dX3_add_25 rfl ?_
    refine sw_ild_3_2 (np := 29) dX3_add_28 rfl ?_
    refine sw_sI (np := 30) (sw_kd_3_3 ho) (sw_ln_3_3 ho) dX3_add_29 rfl (fun S2 => ?_)
    refine sw_ald_3_0 (np := 31) dX3_add_30 rfl ?_
    refine sw_dup (np := 32) dX3_add_31 rfl rfl ?_
    refine sw_gI (np := 35) sw_f_RX3_13 ho dX3_add_32 rfl ?_
    refine sw_iconst (np := 36) dX3_add_35 sw_ic_1 rfl ?_
    refine sw_iadd (np := 37) dX3_add_36 rfl ?_
    refine sw_pI (np := 40) sw_f_RX3_13 sw_fp_3_1 ho dX3_add_37 rfl (fun S3 => ?_)
    exact sw_vret dX3_add_40
/-- SwordAttic$Law.joined(III)I -/
def fX3_joined (N : Nat) (p0 : Int32) (p1 : Int32) (p2 : Int32) (S : sw_St) : Option (Int32 × sw_St) :=
  if p0 = (37 : Int32) then (if p2 = 0 then (some ((0 : Int32), S)) else (sw_gd (!decide (p2 = 0)) (some ((p1 - p1 / p2 * p2), S)))) else (if p0 = (38 : Int32) then (if p1 = 0 then (some ((0 : Int32), S)) else (if p2 = 0 then (some ((0 : Int32), S)) else (some ((1 : Int32), S)))) else (if p0 = (39 : Int32) then (if p1 = 0 then (if p2 = 0 then (some ((0 : Int32), S)) else (some ((1 : Int32), S))) else (some ((1 : Int32), S))) else (if p0 = (40 : Int32) then (if p1 = 0 then (if p2 = 0 then (some ((0 : Int32), S)) else (some ((1 : Int32), S))) else (some ((1 : Int32), S))) else (if p0 = (41 : Int32) then (if p1 = 0 then (if p2 = 0 then (some ((0 : Int32), S)) else (some ((1 : Int32), S))) else (some ((1 : Int32), S))) else (if p0 = (42 : Int32) then (some ((p1 * p2), S)) else (if p0 = (43 : Int32) then (some ((p1 + p2), S)) else (if p0 = (44 : Int32) then (if p1 = 0 then (if p2 = 0 then (some ((0 : Int32), S)) else (some ((1 : Int32), S))) else (some ((1 : Int32), S))) else (if p0 = (45 : Int32) then (some ((p1 - p2), S)) else (if p0 = (46 : Int32) then (if p1 = 0 then (if p2 = 0 then (some ((0 : Int32), S)) else (some ((1 : Int32), S))) else (some ((1 : Int32), S))) else (if p0 = (47 : Int32) then (if p2 = 0 then (some ((0 : Int32), S)) else (sw_gd (!decide (p2 = 0)) (some ((p1 / p2), S)))) else (if p0 = (48 : Int32) then (if p1 = 0 then (if p2 = 0 then (some ((0 : Int32), S)) else (some ((1 : Int32), S))) else (some ((1 : Int32), S))) else (if p0 = (49 : Int32) then (if p1 = 0 then (if p2 = 0 then (some ((0 : Int32), S)) else (some ((1 : Int32), S))) else (some ((1 : Int32), S))) else (if p0 = (50 : Int32) then (if p1 = 0 then (if p2 = 0 then (some ((0 : Int32), S)) else (some ((1 : Int32), S))) else (some ((1 : Int32), S))) else (if p0 = (51 : Int32) then (if p1 = 0 then (if p2 = 0 then (some ((0 : Int32), S)) else (some ((1 : Int32), S))) else (some ((1 : Int32), S))) else (if p0 = (52 : Int32) then (if p1 = 0 then (if p2 = 0 then (some ((0 : Int32), S)) else (some ((1 : Int32), S))) else (some ((1 : Int32), S))) else (if p0 = (53 : Int32) then (if p1 = 0 then (if p2 = 0 then (some ((0 : Int32), S)) else (some ((1 : Int32), S))) else (some ((1 : Int32), S))) else (if p0 = (54 : Int32) then (if p1 = 0 then (if p2 = 0 then (some ((0 : Int32), S)) else (some ((1 : Int32), S))) else (some ((1 : Int32), S))) else (if p0 = (55 : Int32) then (if p1 = 0 then (if p2 = 0 then (some ((0 : Int32), S)) else (some ((1 : Int32), S))) else (some ((1 : Int32), S))) else (if p0 = (56 : Int32) then (if p1 = 0 then (if p2 = 0 then (some ((0 : Int32), S)) else (some ((1 : Int32), S))) else (some ((1 : Int32), S))) else (if p0 = (57 : Int32) then (if p1 = 0 then (if p2 = 0 then (some ((0 : Int32), S)) else (some ((1 : Int32), S))) else (some ((1 : Int32), S))) else (if p0 = (58 : Int32) then (if p1 = 0 then (if p2 = 0 then (some ((0 : Int32), S)) else (some ((1 : Int32), S))) else (some ((1 : Int32), S))) else (if p0 = (59 : Int32) then (if p1 = 0 then (if p2 = 0 then (some ((0 : Int32), S)) else (some ((1 : Int32), S))) else (some ((1 : Int32), S))) else (if p0 = (60 : Int32) then (if p1 ≥ p2 then (some ((0 : Int32), S)) else (some ((1 : Int32), S))) else (if p0 = (61 : Int32) then (if p1 = p2 then (some ((1 : Int32), S)) else (some ((0 : Int32), S))) else (if p0 = (62 : Int32) then (if p1 ≤ p2 then (some ((0 : Int32), S)) else (some ((1 : Int32), S))) else (if p1 = 0 then (if p2 = 0 then (some ((0 : Int32), S)) else (some ((1 : Int32), S))) else (some ((1 : Int32), S))))))))))))))))))))))))))))
theorem hX3_joined {G : sw_G} {N d : Nat} (hd : 1 ≤ d) {p0 : Int32} {p1 : Int32} {p2 : Int32}  {S : sw_St} : sw_Ev G yX3_joined cX3_joined 3 (some .int) d sw_ei [.int p0, .int p1, .int p2] S (fX3_joined N p0 p1 p2 S) := by
  refine sw_Ev_of (own := RX3) (lv0 := [some (.int p0), some (.int p1), some (.int p2)]) (by decide) rfl (Nat.le_of_ble_eq_true rfl) rfl ?_
  unfold fX3_joined
  refine sw_ild_3_0 (np := 1) dX3_joined_0 rfl ?_
  refine sw_ite (fun hs1 => ?_) (fun hs1 => ?_)
  · refine sw_tabIn (tp := 144) dX3_joined_1 (by rw [hs1]; decide) (by rw [hs1]; decide) (by rw [hs1]; rfl) rfl ?_
    refine sw_ild_3_2 (np := 145) dX3_joined_144 rfl ?_
    refine sw_if_ne (np := 148) (tp := 152) dX3_joined_145 rfl rfl ?_ ?_
    · refine sw_ild_3_1 (np := 153) dX3_joined_152 rfl ?_
      refine sw_ild_3_2 (np := 154) dX3_joined_153 rfl ?_
      refine sw_iremG (np := 155) dX3_joined_154 rfl ?_
      exact sw_iret dX3_joined_155
    · refine sw_iconst (np := 149) dX3_joined_148 sw_ic_0 rfl ?_
      refine sw_goto (tp := 155) dX3_joined_149 rfl ?_
      exact sw_iret dX3_joined_155
  · refine sw_ite (fun hs2 => ?_) (fun hs2 => ?_)
    · refine sw_tabIn (tp := 189) dX3_joined_1 (by rw [hs2]; decide) (by rw [hs2]; decide) (by rw [hs2]; rfl) rfl ?_
      refine sw_ild_3_1 (np := 190) dX3_joined_189 rfl ?_
      refine sw_if_eq (np := 193) (tp := 201) dX3_joined_190 rfl rfl ?_ ?_
      · refine sw_iconst (np := 202) dX3_joined_201 sw_ic_0 rfl ?_
        exact sw_iret dX3_joined_202
      · refine sw_ild_3_2 (np := 194) dX3_joined_193 rfl ?_
        refine sw_if_eq (np := 197) (tp := 201) dX3_joined_194 rfl rfl ?_ ?_
        · refine sw_iconst (np := 202) dX3_joined_201 sw_ic_0 rfl ?_
          exact sw_iret dX3_joined_202
        · refine sw_iconst (np := 198) dX3_joined_197 sw_ic_1 rfl ?_
          refine sw_goto (tp := 202) dX3_joined_198 rfl ?_
          exact sw_iret dX3_joined_202
    · refine sw_ite (fun hs3 => ?_) (fun hs3 => ?_)
      · refine sw_tabIn (tp := 203) dX3_joined_1 (by rw [hs3]; decide) (by rw [hs3]; decide) (by rw [hs3]; rfl) rfl ?_
        refine sw_ild_3_1 (np := 204) dX3_joined_203 rfl ?_
        refine sw_if_ne (np := 207) (tp := 211) dX3_joined_204 rfl rfl ?_ ?_
        · refine sw_iconst (np := 212) dX3_joined_211 sw_ic_1 rfl ?_
          refine sw_goto (tp := 216) dX3_joined_212 rfl ?_
          exact sw_iret dX3_joined_216
        · refine sw_ild_3_2 (np := 208) dX3_joined_207 rfl ?_
          refine sw_if_eq (np := 211) (tp := 215) dX3_joined_208 rfl rfl ?_ ?_
          · refine sw_iconst (np := 216) dX3_joined_215 sw_ic_0 rfl ?_
            exact sw_iret dX3_joined_216
          · refine sw_iconst (np := 212) dX3_joined_211 sw_ic_1 rfl ?_
            refine sw_goto (tp := 216) dX3_joined_212 rfl ?_
            exact sw_iret dX3_joined_216
      · refine sw_ite (fun hs4 => ?_) (fun hs4 => ?_)
        · refine sw_tabIn (tp := 203) dX3_joined_1 (by rw [hs4]; decide) (by rw [hs4]; decide) (by rw [hs4]; rfl) rfl ?_
          refine sw_ild_3_1 (np := 204) dX3_joined_203 rfl ?_
          refine sw_if_ne (np := 207) (tp := 211) dX3_joined_204 rfl rfl ?_ ?_
          · refine sw_iconst (np := 212) dX3_joined_211 sw_ic_1 rfl ?_
            refine sw_goto (tp := 216) dX3_joined_212 rfl ?_
            exact sw_iret dX3_joined_216
          · refine sw_ild_3_2 (np := 208) dX3_joined_207 rfl ?_
            refine sw_if_eq (np := 211) (tp := 215) dX3_joined_208 rfl rfl ?_ ?_
            · refine sw_iconst (np := 216) dX3_joined_215 sw_ic_0 rfl ?_
              exact sw_iret dX3_joined_216
            · refine sw_iconst (np := 212) dX3_joined_211 sw_ic_1 rfl ?_
              refine sw_goto (tp := 216) dX3_joined_212 rfl ?_
              exact sw_iret dX3_joined_216
        · refine sw_ite (fun hs5 => ?_) (fun hs5 => ?_)
          · refine sw_tabIn (tp := 203) dX3_joined_1 (by rw [hs5]; decide) (by rw [hs5]; decide) (by rw [hs5]; rfl) rfl ?_
            refine sw_ild_3_1 (np := 204) dX3_joined_203 rfl ?_
            refine sw_if_ne (np := 207) (tp := 211) dX3_joined_204 rfl rfl ?_ ?_
            · refine sw_iconst (np := 212) dX3_joined_211 sw_ic_1 rfl ?_
              refine sw_goto (tp := 216) dX3_joined_212 rfl ?_
              exact sw_iret dX3_joined_216
            · refine sw_ild_3_2 (np := 208) dX3_joined_207 rfl ?_
              refine sw_if_eq (np := 211) (tp := 215) dX3_joined_208 rfl rfl ?_ ?_
              · refine sw_iconst (np := 216) dX3_joined_215 sw_ic_0 rfl ?_
                exact sw_iret dX3_joined_216
              · refine sw_iconst (np := 212) dX3_joined_211 sw_ic_1 rfl ?_
                refine sw_goto (tp := 216) dX3_joined_212 rfl ?_
                exact sw_iret dX3_joined_216
          · refine sw_ite (fun hs6 => ?_) (fun hs6 => ?_)
            · refine sw_tabIn (tp := 128) dX3_joined_1 (by rw [hs6]; decide) (by rw [hs6]; decide) (by rw [hs6]; rfl) rfl ?_
              refine sw_ild_3_1 (np := 129) dX3_joined_128 rfl ?_
              refine sw_ild_3_2 (np := 130) dX3_joined_129 rfl ?_
              refine sw_imul (np := 131) dX3_joined_130 rfl ?_
              exact sw_iret dX3_joined_131
            · refine sw_ite (fun hs7 => ?_) (fun hs7 => ?_)
              · refine sw_tabIn (tp := 120) dX3_joined_1 (by rw [hs7]; decide) (by rw [hs7]; decide) (by rw [hs7]; rfl) rfl ?_
                refine sw_ild_3_1 (np := 121) dX3_joined_120 rfl ?_
                refine sw_ild_3_2 (np := 122) dX3_joined_121 rfl ?_
                refine sw_iadd (np := 123) dX3_joined_122 rfl ?_
                exact sw_iret dX3_joined_123
              · refine sw_ite (fun hs8 => ?_) (fun hs8 => ?_)
                · refine sw_tabIn (tp := 203) dX3_joined_1 (by rw [hs8]; decide) (by rw [hs8]; decide) (by rw [hs8]; rfl) rfl ?_
                  refine sw_ild_3_1 (np := 204) dX3_joined_203 rfl ?_
                  refine sw_if_ne (np := 207) (tp := 211) dX3_joined_204 rfl rfl ?_ ?_
                  · refine sw_iconst (np := 212) dX3_joined_211 sw_ic_1 rfl ?_
                    refine sw_goto (tp := 216) dX3_joined_212 rfl ?_
                    exact sw_iret dX3_joined_216
                  · refine sw_ild_3_2 (np := 208) dX3_joined_207 rfl ?_
                    refine sw_if_eq (np := 211) (tp := 215) dX3_joined_208 rfl rfl ?_ ?_
                    · refine sw_iconst (np := 216) dX3_joined_215 sw_ic_0 rfl ?_
                      exact sw_iret dX3_joined_216
                    · refine sw_iconst (np := 212) dX3_joined_211 sw_ic_1 rfl ?_
                      refine sw_goto (tp := 216) dX3_joined_212 rfl ?_
                      exact sw_iret dX3_joined_216
                · refine sw_ite (fun hs9 => ?_) (fun hs9 => ?_)
                  · refine sw_tabIn (tp := 124) dX3_joined_1 (by rw [hs9]; decide) (by rw [hs9]; decide) (by rw [hs9]; rfl) rfl ?_
                    refine sw_ild_3_1 (np := 125) dX3_joined_124 rfl ?_
                    refine sw_ild_3_2 (np := 126) dX3_joined_125 rfl ?_
                    refine sw_isub (np := 127) dX3_joined_126 rfl ?_
                    exact sw_iret dX3_joined_127
                  · refine sw_ite (fun hs10 => ?_) (fun hs10 => ?_)
                    · refine sw_tabIn (tp := 203) dX3_joined_1 (by rw [hs10]; decide) (by rw [hs10]; decide) (by rw [hs10]; rfl) rfl ?_
                      refine sw_ild_3_1 (np := 204) dX3_joined_203 rfl ?_
                      refine sw_if_ne (np := 207) (tp := 211) dX3_joined_204 rfl rfl ?_ ?_
                      · refine sw_iconst (np := 212) dX3_joined_211 sw_ic_1 rfl ?_
                        refine sw_goto (tp := 216) dX3_joined_212 rfl ?_
                        exact sw_iret dX3_joined_216
                      · refine sw_ild_3_2 (np := 208) dX3_joined_207 rfl ?_
                        refine sw_if_eq (np := 211) (tp := 215) dX3_joined_208 rfl rfl ?_ ?_
                        · refine sw_iconst (np := 216) dX3_joined_215 sw_ic_0 rfl ?_
                          exact sw_iret dX3_joined_216
                        · refine sw_iconst (np := 212) dX3_joined_211 sw_ic_1 rfl ?_
                          refine sw_goto (tp := 216) dX3_joined_212 rfl ?_
                          exact sw_iret dX3_joined_216
                    · refine sw_ite (fun hs11 => ?_) (fun hs11 => ?_)
                      · refine sw_tabIn (tp := 132) dX3_joined_1 (by rw [hs11]; decide) (by rw [hs11]; decide) (by rw [hs11]; rfl) rfl ?_
                        refine sw_ild_3_2 (np := 133) dX3_joined_132 rfl ?_
                        refine sw_if_ne (np := 136) (tp := 140) dX3_joined_133 rfl rfl ?_ ?_
                        · refine sw_ild_3_1 (np := 141) dX3_joined_140 rfl ?_
                          refine sw_ild_3_2 (np := 142) dX3_joined_141 rfl ?_
                          refine sw_idivG (np := 143) dX3_joined_142 rfl ?_
                          exact sw_iret dX3_joined_143
                        · refine sw_iconst (np := 137) dX3_joined_136 sw_ic_0 rfl ?_
                          refine sw_goto (tp := 143) dX3_joined_137 rfl ?_
                          exact sw_iret dX3_joined_143
                      · refine sw_ite (fun hs12 => ?_) (fun hs12 => ?_)
                        · refine sw_tabIn (tp := 203) dX3_joined_1 (by rw [hs12]; decide) (by rw [hs12]; decide) (by rw [hs12]; rfl) rfl ?_
                          refine sw_ild_3_1 (np := 204) dX3_joined_203 rfl ?_
                          refine sw_if_ne (np := 207) (tp := 211) dX3_joined_204 rfl rfl ?_ ?_
                          · refine sw_iconst (np := 212) dX3_joined_211 sw_ic_1 rfl ?_
                            refine sw_goto (tp := 216) dX3_joined_212 rfl ?_
                            exact sw_iret dX3_joined_216
                          · refine sw_ild_3_2 (np := 208) dX3_joined_207 rfl ?_
                            refine sw_if_eq (np := 211) (tp := 215) dX3_joined_208 rfl rfl ?_ ?_
                            · refine sw_iconst (np := 216) dX3_joined_215 sw_ic_0 rfl ?_
                              exact sw_iret dX3_joined_216
                            · refine sw_iconst (np := 212) dX3_joined_211 sw_ic_1 rfl ?_
                              refine sw_goto (tp := 216) dX3_joined_212 rfl ?_
                              exact sw_iret dX3_joined_216
                        · refine sw_ite (fun hs13 => ?_) (fun hs13 => ?_)
                          · refine sw_tabIn (tp := 203) dX3_joined_1 (by rw [hs13]; decide) (by rw [hs13]; decide) (by rw [hs13]; rfl) rfl ?_
                            refine sw_ild_3_1 (np := 204) dX3_joined_203 rfl ?_
                            refine sw_if_ne (np := 207) (tp := 211) dX3_joined_204 rfl rfl ?_ ?_
                            · refine sw_iconst (np := 212) dX3_joined_211 sw_ic_1 rfl ?_
                              refine sw_goto (tp := 216) dX3_joined_212 rfl ?_
                              exact sw_iret dX3_joined_216
                            · refine sw_ild_3_2 (np := 208) dX3_joined_207 rfl ?_
                              refine sw_if_eq (np := 211) (tp := 215) dX3_joined_208 rfl rfl ?_ ?_
                              · refine sw_iconst (np := 216) dX3_joined_215 sw_ic_0 rfl ?_
                                exact sw_iret dX3_joined_216
                              · refine sw_iconst (np := 212) dX3_joined_211 sw_ic_1 rfl ?_
                                refine sw_goto (tp := 216) dX3_joined_212 rfl ?_
                                exact sw_iret dX3_joined_216
                          · refine sw_ite (fun hs14 => ?_) (fun hs14 => ?_)
                            · refine sw_tabIn (tp := 203) dX3_joined_1 (by rw [hs14]; decide) (by rw [hs14]; decide) (by rw [hs14]; rfl) rfl ?_
                              refine sw_ild_3_1 (np := 204) dX3_joined_203 rfl ?_
                              refine sw_if_ne (np := 207) (tp := 211) dX3_joined_204 rfl rfl ?_ ?_
                              · refine sw_iconst (np := 212) dX3_joined_211 sw_ic_1 rfl ?_
                                refine sw_goto (tp := 216) dX3_joined_212 rfl ?_
                                exact sw_iret dX3_joined_216
                              · refine sw_ild_3_2 (np := 208) dX3_joined_207 rfl ?_
                                refine sw_if_eq (np := 211) (tp := 215) dX3_joined_208 rfl rfl ?_ ?_
                                · refine sw_iconst (np := 216) dX3_joined_215 sw_ic_0 rfl ?_
                                  exact sw_iret dX3_joined_216
                                · refine sw_iconst (np := 212) dX3_joined_211 sw_ic_1 rfl ?_
                                  refine sw_goto (tp := 216) dX3_joined_212 rfl ?_
                                  exact sw_iret dX3_joined_216
                            · refine sw_ite (fun hs15 => ?_) (fun hs15 => ?_)
                              · refine sw_tabIn (tp := 203) dX3_joined_1 (by rw [hs15]; decide) (by rw [hs15]; decide) (by rw [hs15]; rfl) rfl ?_
                                refine sw_ild_3_1 (np := 204) dX3_joined_203 rfl ?_
                                refine sw_if_ne (np := 207) (tp := 211) dX3_joined_204 rfl rfl ?_ ?_
                                · refine sw_iconst (np := 212) dX3_joined_211 sw_ic_1 rfl ?_
                                  refine sw_goto (tp := 216) dX3_joined_212 rfl ?_
                                  exact sw_iret dX3_joined_216
                                · refine sw_ild_3_2 (np := 208) dX3_joined_207 rfl ?_
                                  refine sw_if_eq (np := 211) (tp := 215) dX3_joined_208 rfl rfl ?_ ?_
                                  · refine sw_iconst (np := 216) dX3_joined_215 sw_ic_0 rfl ?_
                                    exact sw_iret dX3_joined_216
                                  · refine sw_iconst (np := 212) dX3_joined_211 sw_ic_1 rfl ?_
                                    refine sw_goto (tp := 216) dX3_joined_212 rfl ?_
                                    exact sw_iret dX3_joined_216
                              · refine sw_ite (fun hs16 => ?_) (fun hs16 => ?_)
                                · refine sw_tabIn (tp := 203) dX3_joined_1 (by rw [hs16]; decide) (by rw [hs16]; decide) (by rw [hs16]; rfl) rfl ?_
                                  refine sw_ild_3_1 (np := 204) dX3_joined_203 rfl ?_
                                  refine sw_if_ne (np := 207) (tp := 211) dX3_joined_204 rfl rfl ?_ ?_
                                  · refine sw_iconst (np := 212) dX3_joined_211 sw_ic_1 rfl ?_
                                    refine sw_goto (tp := 216) dX3_joined_212 rfl ?_
                                    exact sw_iret dX3_joined_216
                                  · refine sw_ild_3_2 (np := 208) dX3_joined_207 rfl ?_
                                    refine sw_if_eq (np := 211) (tp := 215) dX3_joined_208 rfl rfl ?_ ?_
                                    · refine sw_iconst (np := 216) dX3_joined_215 sw_ic_0 rfl ?_
                                      exact sw_iret dX3_joined_216
                                    · refine sw_iconst (np := 212) dX3_joined_211 sw_ic_1 rfl ?_
                                      refine sw_goto (tp := 216) dX3_joined_212 rfl ?_
                                      exact sw_iret dX3_joined_216
                                · refine sw_ite (fun hs17 => ?_) (fun hs17 => ?_)
                                  · refine sw_tabIn (tp := 203) dX3_joined_1 (by rw [hs17]; decide) (by rw [hs17]; decide) (by rw [hs17]; rfl) rfl ?_
                                    refine sw_ild_3_1 (np := 204) dX3_joined_203 rfl ?_
                                    refine sw_if_ne (np := 207) (tp := 211) dX3_joined_204 rfl rfl ?_ ?_
                                    · refine sw_iconst (np := 212) dX3_joined_211 sw_ic_1 rfl ?_
                                      refine sw_goto (tp := 216) dX3_joined_212 rfl ?_
                                      exact sw_iret dX3_joined_216
                                    · refine sw_ild_3_2 (np := 208) dX3_joined_207 rfl ?_
                                      refine sw_if_eq (np := 211) (tp := 215) dX3_joined_208 rfl rfl ?_ ?_
                                      · refine sw_iconst (np := 216) dX3_joined_215 sw_ic_0 rfl ?_
                                        exact sw_iret dX3_joined_216
                                      · refine sw_iconst (np := 212) dX3_joined_211 sw_ic_1 rfl ?_
                                        refine sw_goto (tp := 216) dX3_joined_212 rfl ?_
                                        exact sw_iret dX3_joined_216
                                  · refine sw_ite (fun hs18 => ?_) (fun hs18 => ?_)
                                    · refine sw_tabIn (tp := 203) dX3_joined_1 (by rw [hs18]; decide) (by rw [hs18]; decide) (by rw [hs18]; rfl) rfl ?_
                                      refine sw_ild_3_1 (np := 204) dX3_joined_203 rfl ?_
                                      refine sw_if_ne (np := 207) (tp := 211) dX3_joined_204 rfl rfl ?_ ?_
                                      · refine sw_iconst (np := 212) dX3_joined_211 sw_ic_1 rfl ?_
                                        refine sw_goto (tp := 216) dX3_joined_212 rfl ?_
                                        exact sw_iret dX3_joined_216
                                      · refine sw_ild_3_2 (np := 208) dX3_joined_207 rfl ?_
                                        refine sw_if_eq (np := 211) (tp := 215) dX3_joined_208 rfl rfl ?_ ?_
                                        · refine sw_iconst (np := 216) dX3_joined_215 sw_ic_0 rfl ?_
                                          exact sw_iret dX3_joined_216
                                        · refine sw_iconst (np := 212) dX3_joined_211 sw_ic_1 rfl ?_
                                          refine sw_goto (tp := 216) dX3_joined_212 rfl ?_
                                          exact sw_iret dX3_joined_216
                                    · refine sw_ite (fun hs19 => ?_) (fun hs19 => ?_)
                                      · refine sw_tabIn (tp := 203) dX3_joined_1 (by rw [hs19]; decide) (by rw [hs19]; decide) (by rw [hs19]; rfl) rfl ?_
                                        refine sw_ild_3_1 (np := 204) dX3_joined_203 rfl ?_
                                        refine sw_if_ne (np := 207) (tp := 211) dX3_joined_204 rfl rfl ?_ ?_
                                        · refine sw_iconst (np := 212) dX3_joined_211 sw_ic_1 rfl ?_
                                          refine sw_goto (tp := 216) dX3_joined_212 rfl ?_
                                          exact sw_iret dX3_joined_216
                                        · refine sw_ild_3_2 (np := 208) dX3_joined_207 rfl ?_
                                          refine sw_if_eq (np := 211) (tp := 215) dX3_joined_208 rfl rfl ?_ ?_
                                          · refine sw_iconst (np := 216) dX3_joined_215 sw_ic_0 rfl ?_
                                            exact sw_iret dX3_joined_216
                                          · refine sw_iconst (np := 212) dX3_joined_211 sw_ic_1 rfl ?_
                                            refine sw_goto (tp := 216) dX3_joined_212 rfl ?_
                                            exact sw_iret dX3_joined_216
                                      · refine sw_ite (fun hs20 => ?_) (fun hs20 => ?_)
                                        · refine sw_tabIn (tp := 203) dX3_joined_1 (by rw [hs20]; decide) (by rw [hs20]; decide) (by rw [hs20]; rfl) rfl ?_
                                          refine sw_ild_3_1 (np := 204) dX3_joined_203 rfl ?_
                                          refine sw_if_ne (np := 207) (tp := 211) dX3_joined_204 rfl rfl ?_ ?_
                                          · refine sw_iconst (np := 212) dX3_joined_211 sw_ic_1 rfl ?_
                                            refine sw_goto (tp := 216) dX3_joined_212 rfl ?_
                                            exact sw_iret dX3_joined_216
                                          · refine sw_ild_3_2 (np := 208) dX3_joined_207 rfl ?_
                                            refine sw_if_eq (np := 211) (tp := 215) dX3_joined_208 rfl rfl ?_ ?_
                                            · refine sw_iconst (np := 216) dX3_joined_215 sw_ic_0 rfl ?_
                                              exact sw_iret dX3_joined_216
                                            · refine sw_iconst (np := 212) dX3_joined_211 sw_ic_1 rfl ?_
                                              refine sw_goto (tp := 216) dX3_joined_212 rfl ?_
                                              exact sw_iret dX3_joined_216
                                        · refine sw_ite (fun hs21 => ?_) (fun hs21 => ?_)
                                          · refine sw_tabIn (tp := 203) dX3_joined_1 (by rw [hs21]; decide) (by rw [hs21]; decide) (by rw [hs21]; rfl) rfl ?_
                                            refine sw_ild_3_1 (np := 204) dX3_joined_203 rfl ?_
                                            refine sw_if_ne (np := 207) (tp := 211) dX3_joined_204 rfl rfl ?_ ?_
                                            · refine sw_iconst (np := 212) dX3_joined_211 sw_ic_1 rfl ?_
                                              refine sw_goto (tp := 216) dX3_joined_212 rfl ?_
                                              exact sw_iret dX3_joined_216
                                            · refine sw_ild_3_2 (np := 208) dX3_joined_207 rfl ?_
                                              refine sw_if_eq (np := 211) (tp := 215) dX3_joined_208 rfl rfl ?_ ?_
                                              · refine sw_iconst (np := 216) dX3_joined_215 sw_ic_0 rfl ?_
                                                exact sw_iret dX3_joined_216
                                              · refine sw_iconst (np := 212) dX3_joined_211 sw_ic_1 rfl ?_
                                                refine sw_goto (tp := 216) dX3_joined_212 rfl ?_
                                                exact sw_iret dX3_joined_216
                                          · refine sw_ite (fun hs22 => ?_) (fun hs22 => ?_)
                                            · refine sw_tabIn (tp := 203) dX3_joined_1 (by rw [hs22]; decide) (by rw [hs22]; decide) (by rw [hs22]; rfl) rfl ?_
                                              refine sw_ild_3_1 (np := 204) dX3_joined_203 rfl ?_
                                              refine sw_if_ne (np := 207) (tp := 211) dX3_joined_204 rfl rfl ?_ ?_
                                              · refine sw_iconst (np := 212) dX3_joined_211 sw_ic_1 rfl ?_
                                                refine sw_goto (tp := 216) dX3_joined_212 rfl ?_
                                                exact sw_iret dX3_joined_216
                                              · refine sw_ild_3_2 (np := 208) dX3_joined_207 rfl ?_
                                                refine sw_if_eq (np := 211) (tp := 215) dX3_joined_208 rfl rfl ?_ ?_
                                                · refine sw_iconst (np := 216) dX3_joined_215 sw_ic_0 rfl ?_
                                                  exact sw_iret dX3_joined_216
                                                · refine sw_iconst (np := 212) dX3_joined_211 sw_ic_1 rfl ?_
                                                  refine sw_goto (tp := 216) dX3_joined_212 rfl ?_
                                                  exact sw_iret dX3_joined_216
                                            · refine sw_ite (fun hs23 => ?_) (fun hs23 => ?_)
                                              · refine sw_tabIn (tp := 203) dX3_joined_1 (by rw [hs23]; decide) (by rw [hs23]; decide) (by rw [hs23]; rfl) rfl ?_
                                                refine sw_ild_3_1 (np := 204) dX3_joined_203 rfl ?_
                                                refine sw_if_ne (np := 207) (tp := 211) dX3_joined_204 rfl rfl ?_ ?_
                                                · refine sw_iconst (np := 212) dX3_joined_211 sw_ic_1 rfl ?_
                                                  refine sw_goto (tp := 216) dX3_joined_212 rfl ?_
                                                  exact sw_iret dX3_joined_216
                                                · refine sw_ild_3_2 (np := 208) dX3_joined_207 rfl ?_
                                                  refine sw_if_eq (np := 211) (tp := 215) dX3_joined_208 rfl rfl ?_ ?_
                                                  · refine sw_iconst (np := 216) dX3_joined_215 sw_ic_0 rfl ?_
                                                    exact sw_iret dX3_joined_216
                                                  · refine sw_iconst (np := 212) dX3_joined_211 sw_ic_1 rfl ?_
                                                    refine sw_goto (tp := 216) dX3_joined_212 rfl ?_
                                                    exact sw_iret dX3_joined_216
                                              · refine sw_ite (fun hs24 => ?_) (fun hs24 => ?_)
                                                · refine sw_tabIn (tp := 156) dX3_joined_1 (by rw [hs24]; decide) (by rw [hs24]; decide) (by rw [hs24]; rfl) rfl ?_
                                                  refine sw_ild_3_1 (np := 157) dX3_joined_156 rfl ?_
                                                  refine sw_ild_3_2 (np := 158) dX3_joined_157 rfl ?_
                                                  refine sw_icmp_ge (np := 161) (tp := 165) dX3_joined_158 rfl rfl ?_ ?_
                                                  · refine sw_iconst (np := 166) dX3_joined_165 sw_ic_0 rfl ?_
                                                    exact sw_iret dX3_joined_166
                                                  · refine sw_iconst (np := 162) dX3_joined_161 sw_ic_1 rfl ?_
                                                    refine sw_goto (tp := 166) dX3_joined_162 rfl ?_
                                                    exact sw_iret dX3_joined_166
                                                · refine sw_ite (fun hs25 => ?_) (fun hs25 => ?_)
                                                  · refine sw_tabIn (tp := 167) dX3_joined_1 (by rw [hs25]; decide) (by rw [hs25]; decide) (by rw [hs25]; rfl) rfl ?_
                                                    refine sw_ild_3_1 (np := 168) dX3_joined_167 rfl ?_
                                                    refine sw_ild_3_2 (np := 169) dX3_joined_168 rfl ?_
                                                    refine sw_icmp_ne (np := 172) (tp := 176) dX3_joined_169 rfl rfl ?_ ?_
                                                    · refine sw_iconst (np := 177) dX3_joined_176 sw_ic_0 rfl ?_
                                                      exact sw_iret dX3_joined_177
                                                    · refine sw_iconst (np := 173) dX3_joined_172 sw_ic_1 rfl ?_
                                                      refine sw_goto (tp := 177) dX3_joined_173 rfl ?_
                                                      exact sw_iret dX3_joined_177
                                                  · refine sw_ite (fun hs26 => ?_) (fun hs26 => ?_)
                                                    · refine sw_tabIn (tp := 178) dX3_joined_1 (by rw [hs26]; decide) (by rw [hs26]; decide) (by rw [hs26]; rfl) rfl ?_
                                                      refine sw_ild_3_1 (np := 179) dX3_joined_178 rfl ?_
                                                      refine sw_ild_3_2 (np := 180) dX3_joined_179 rfl ?_
                                                      refine sw_icmp_le (np := 183) (tp := 187) dX3_joined_180 rfl rfl ?_ ?_
                                                      · refine sw_iconst (np := 188) dX3_joined_187 sw_ic_0 rfl ?_
                                                        exact sw_iret dX3_joined_188
                                                      · refine sw_iconst (np := 184) dX3_joined_183 sw_ic_1 rfl ?_
                                                        refine sw_goto (tp := 188) dX3_joined_184 rfl ?_
                                                        exact sw_iret dX3_joined_188
                                                    · have hs1n := sw_neI sw_ic_37 (by decide) (by decide) hs1
                                                      have hs2n := sw_neI sw_ic_38 (by decide) (by decide) hs2
                                                      have hs3n := sw_neI sw_ic_39 (by decide) (by decide) hs3
                                                      have hs4n := sw_neI sw_ic_40 (by decide) (by decide) hs4
                                                      have hs5n := sw_neI sw_ic_41 (by decide) (by decide) hs5
                                                      have hs6n := sw_neI sw_ic_42 (by decide) (by decide) hs6
                                                      have hs7n := sw_neI sw_ic_43 (by decide) (by decide) hs7
                                                      have hs8n := sw_neI sw_ic_44 (by decide) (by decide) hs8
                                                      have hs9n := sw_neI sw_ic_45 (by decide) (by decide) hs9
                                                      have hs10n := sw_neI sw_ic_46 (by decide) (by decide) hs10
                                                      have hs11n := sw_neI sw_ic_47 (by decide) (by decide) hs11
                                                      have hs12n := sw_neI sw_ic_48 (by decide) (by decide) hs12
                                                      have hs13n := sw_neI sw_ic_49 (by decide) (by decide) hs13
                                                      have hs14n := sw_neI sw_ic_50 (by decide) (by decide) hs14
                                                      have hs15n := sw_neI sw_ic_51 (by decide) (by decide) hs15
                                                      have hs16n := sw_neI sw_ic_52 (by decide) (by decide) hs16
                                                      have hs17n := sw_neI sw_ic_53 (by decide) (by decide) hs17
                                                      have hs18n := sw_neI sw_ic_54 (by decide) (by decide) hs18
                                                      have hs19n := sw_neI sw_ic_55 (by decide) (by decide) hs19
                                                      have hs20n := sw_neI sw_ic_56 (by decide) (by decide) hs20
                                                      have hs21n := sw_neI sw_ic_57 (by decide) (by decide) hs21
                                                      have hs22n := sw_neI sw_ic_58 (by decide) (by decide) hs22
                                                      have hs23n := sw_neI sw_ic_59 (by decide) (by decide) hs23
                                                      have hs24n := sw_neI sw_ic_60 (by decide) (by decide) hs24
                                                      have hs25n := sw_neI sw_ic_61 (by decide) (by decide) hs25
                                                      have hs26n := sw_neI sw_ic_62 (by decide) (by decide) hs26
                                                      refine sw_tabOut (tp := 203) dX3_joined_1 (by omega) rfl ?_
                                                      refine sw_ild_3_1 (np := 204) dX3_joined_203 rfl ?_
                                                      refine sw_if_ne (np := 207) (tp := 211) dX3_joined_204 rfl rfl ?_ ?_
                                                      · refine sw_iconst (np := 212) dX3_joined_211 sw_ic_1 rfl ?_
                                                        refine sw_goto (tp := 216) dX3_joined_212 rfl ?_
                                                        exact sw_iret dX3_joined_216
                                                      · refine sw_ild_3_2 (np := 208) dX3_joined_207 rfl ?_
                                                        refine sw_if_eq (np := 211) (tp := 215) dX3_joined_208 rfl rfl ?_ ?_
                                                        · refine sw_iconst (np := 216) dX3_joined_215 sw_ic_0 rfl ?_
                                                          exact sw_iret dX3_joined_216
                                                        · refine sw_iconst (np := 212) dX3_joined_211 sw_ic_1 rfl ?_
                                                          refine sw_goto (tp := 216) dX3_joined_212 rfl ?_
                                                          exact sw_iret dX3_joined_216
/-- SwordAttic$Law.workedOut()I -/
def fX3_workedOut (N : Nat) (o : Nat) (S : sw_St) : Option (Int32 × sw_St) :=
  sw_fx2 (fun rec1 x1_1 x2_1 S1 => (if x2_1 ≥ (S1.1 o 1) then (some ((0 : Int32), S1)) else (if x1_1 ≥ (128 : Int32) then (some ((0 : Int32), S1)) else (sw_gd (sw_in x2_1 128) (sw_li (S1.1 (o + 1) x2_1.toNatClampNeg) (fun x3_1 => (if x3_1 = (48 : Int32) then (sw_gd (sw_in x2_1 128) (sw_gd (sw_in x1_1 128) (sw_ls (sw_si S1 (o + 3) x1_1.toNatClampNeg (S1.1 (o + 2) x2_1.toNatClampNeg)) (fun S10 => (rec1 (x1_1 + (1 : Int32)) (x2_1 + (1 : Int32)) S10))))) else (if x3_1 = (110 : Int32) then (sw_gd (sw_in x2_1 128) (sw_bd (fX8_within N (S1.1 (o + 2) x2_1.toNatClampNeg) (0 : Int32) (5 : Int32) S1) (fun r2 S7 => (if r2 = 0 then (sw_gd (sw_in x1_1 128) (sw_ls (sw_si S7 (o + 3) x1_1.toNatClampNeg (0 : Int32)) (fun S8 => (rec1 (x1_1 + (1 : Int32)) (x2_1 + (1 : Int32)) S8)))) else (sw_gd (sw_in x2_1 128) (sw_gd (sw_in (S7.1 (o + 2) x2_1.toNatClampNeg) 6) (sw_gd (sw_in x1_1 128) (sw_ls (sw_si S7 (o + 3) x1_1.toNatClampNeg (S7.1 (o + 4) (S7.1 (o + 2) x2_1.toNatClampNeg).toNatClampNeg)) (fun S9 => (rec1 (x1_1 + (1 : Int32)) (x2_1 + (1 : Int32)) S9)))))))))) else (if x1_1 ≥ (1 : Int32) then (if x3_1 = (59 : Int32) then (sw_gd (sw_in (x1_1 - (1 : Int32)) 128) (some ((S1.1 (o + 3) (x1_1 - (1 : Int32)).toNatClampNeg), S1))) else (if x3_1 = (63 : Int32) then (sw_gd (sw_in (x1_1 + (-1 : Int32)) 128) (if (S1.1 (o + 3) (x1_1 + (-1 : Int32)).toNatClampNeg) = 0 then (sw_gd (sw_in x2_1 128) (sw_li (sw_mx x2_1 (S1.1 (o + 2) x2_1.toNatClampNeg)) (fun x2_2 => (rec1 (x1_1 + (-1 : Int32)) (x2_2 + (1 : Int32)) S1)))) else (rec1 (x1_1 + (-1 : Int32)) (x2_1 + (1 : Int32)) S1))) else (if x3_1 = (126 : Int32) then (sw_gd (sw_in (x1_1 - (1 : Int32)) 128) (sw_gd (sw_in (x1_1 - (1 : Int32)) 128) (sw_ls (sw_si S1 (o + 3) (x1_1 - (1 : Int32)).toNatClampNeg (-(S1.1 (o + 3) (x1_1 - (1 : Int32)).toNatClampNeg))) (fun S6 => (rec1 x1_1 (x2_1 + (1 : Int32)) S6))))) else (if x3_1 = (33 : Int32) then (sw_gd (sw_in (x1_1 - (1 : Int32)) 128) (if (S1.1 (o + 3) (x1_1 - (1 : Int32)).toNatClampNeg) = 0 then (sw_gd (sw_in (x1_1 - (1 : Int32)) 128) (sw_ls (sw_si S1 (o + 3) (x1_1 - (1 : Int32)).toNatClampNeg (1 : Int32)) (fun S5 => (rec1 x1_1 (x2_1 + (1 : Int32)) S5)))) else (sw_gd (sw_in (x1_1 - (1 : Int32)) 128) (sw_ls (sw_si S1 (o + 3) (x1_1 - (1 : Int32)).toNatClampNeg (0 : Int32)) (fun S4 => (rec1 x1_1 (x2_1 + (1 : Int32)) S4)))))) else (if x1_1 < (2 : Int32) then (rec1 x1_1 (x2_1 + (1 : Int32)) S1) else (sw_gd (sw_in ((x1_1 + (-1 : Int32)) - (1 : Int32)) 128) (sw_gd (sw_in (x1_1 + (-1 : Int32)) 128) (sw_bd (fX3_joined N x3_1 (S1.1 (o + 3) ((x1_1 + (-1 : Int32)) - (1 : Int32)).toNatClampNeg) (S1.1 (o + 3) (x1_1 + (-1 : Int32)).toNatClampNeg) S1) (fun r1 S2 => (sw_gd (sw_in ((x1_1 + (-1 : Int32)) - (1 : Int32)) 128) (sw_ls (sw_si S2 (o + 3) ((x1_1 + (-1 : Int32)) - (1 : Int32)).toNatClampNeg r1) (fun S3 => (rec1 (x1_1 + (-1 : Int32)) (x2_1 + (1 : Int32)) S3))))))))))))) else (some ((0 : Int32), S1))))))))))) N (0 : Int32) (0 : Int32) S
theorem hX3_workedOut {G : sw_G} {N d : Nat} (hd : 2 ≤ d) {o : Nat} (ho : sw_kd o = 3) {S : sw_St} : sw_Ev G yX3_workedOut cX3_workedOut 4 (some .int) d sw_ei [sw_vr G o] S (fX3_workedOut N o S) := by
  refine sw_Ev_of (own := RX3) (lv0 := [some (sw_vr G o), none, none, none]) (by decide) rfl (Nat.le_of_ble_eq_true rfl) rfl ?_
  unfold fX3_workedOut
  refine sw_iconst (np := 1) dX3_workedOut_0 sw_ic_0 rfl ?_
  refine sw_ist_4_1 (np := 2) dX3_workedOut_1 rfl rfl ?_
  refine sw_iconst (np := 3) dX3_workedOut_2 sw_ic_0 rfl ?_
  refine sw_ist_4_2 (np := 4) dX3_workedOut_3 rfl rfl ?_
  refine sw_lp2 (lv := fun x1_1 x2_1 => [some (sw_vr G o), some (.int x1_1), some (.int x2_1), none]) (fun rec1 hrec1 x1_1 x2_1 S1 => ?_) _ _ _ _
  refine sw_ild_4_2 (np := 5) dX3_workedOut_4 rfl ?_
  refine sw_ald_4_0 (np := 6) dX3_workedOut_5 rfl ?_
  refine sw_gI (np := 9) sw_f_RX3_13 ho dX3_workedOut_6 rfl ?_
  refine sw_icmp_ge (np := 12) (tp := 254) dX3_workedOut_9 rfl rfl ?_ ?_
  · refine sw_iconst (np := 255) dX3_workedOut_254 sw_ic_0 rfl ?_
    exact sw_iret dX3_workedOut_255
  · refine sw_ild_4_1 (np := 13) dX3_workedOut_12 rfl ?_
    refine sw_sipush (np := 16) dX3_workedOut_13 sw_sc_128 rfl ?_
    refine sw_icmp_ge (np := 19) (tp := 254) dX3_workedOut_16 rfl rfl ?_ ?_
    · refine sw_iconst (np := 255) dX3_workedOut_254 sw_ic_0 rfl ?_
      exact sw_iret dX3_workedOut_255
    · refine sw_ald_4_0 (np := 20) dX3_workedOut_19 rfl ?_
      refine sw_gR (np := 23) sw_f_RX3_17 ho (sw_rf_3_2 ho) dX3_workedOut_20 rfl ?_
      refine sw_ild_4_2 (np := 24) dX3_workedOut_23 rfl ?_
      refine sw_iald (np := 25) (sw_kd_3_2 ho) (sw_ln_3_2 ho) dX3_workedOut_24 rfl ?_
      refine sw_isl_4_3 (np := 26) dX3_workedOut_25 rfl rfl (fun x3_1 => ?_)
      refine sw_ild_4_3 (np := 27) dX3_workedOut_26 rfl ?_
      refine sw_bipush (np := 29) dX3_workedOut_27 sw_bc_48 rfl ?_
      refine sw_icmp_ne (np := 32) (tp := 50) dX3_workedOut_29 rfl rfl ?_ ?_
      · refine sw_ild_4_3 (np := 51) dX3_workedOut_50 rfl ?_
        refine sw_bipush (np := 53) dX3_workedOut_51 sw_bc_110 rfl ?_
        refine sw_icmp_ne (np := 56) (tp := 97) dX3_workedOut_53 rfl rfl ?_ ?_
        · refine sw_ild_4_1 (np := 98) dX3_workedOut_97 rfl ?_
          refine sw_iconst (np := 99) dX3_workedOut_98 sw_ic_1 rfl ?_
          refine sw_icmp_ge (np := 102) (tp := 104) dX3_workedOut_99 rfl rfl ?_ ?_
          · refine sw_ild_4_3 (np := 105) dX3_workedOut_104 rfl ?_
            refine sw_bipush (np := 107) dX3_workedOut_105 sw_bc_59 rfl ?_
            refine sw_icmp_ne (np := 110) (tp := 119) dX3_workedOut_107 rfl rfl ?_ ?_
            · refine sw_ild_4_3 (np := 120) dX3_workedOut_119 rfl ?_
              refine sw_bipush (np := 122) dX3_workedOut_120 sw_bc_63 rfl ?_
              refine sw_icmp_ne (np := 125) (tp := 155) dX3_workedOut_122 rfl rfl ?_ ?_
              · refine sw_ild_4_3 (np := 156) dX3_workedOut_155 rfl ?_
                refine sw_bipush (np := 158) dX3_workedOut_156 sw_bc_126 rfl ?_
                refine sw_icmp_ne (np := 161) (tp := 181) dX3_workedOut_158 rfl rfl ?_ ?_
                · refine sw_ild_4_3 (np := 182) dX3_workedOut_181 rfl ?_
                  refine sw_bipush (np := 184) dX3_workedOut_182 sw_bc_33 rfl ?_
                  refine sw_icmp_ne (np := 187) (tp := 214) dX3_workedOut_184 rfl rfl ?_ ?_
                  · refine sw_ild_4_1 (np := 215) dX3_workedOut_214 rfl ?_
                    refine sw_iconst (np := 216) dX3_workedOut_215 sw_ic_2 rfl ?_
                    refine sw_icmp_lt (np := 219) (tp := 248) dX3_workedOut_216 rfl rfl ?_ ?_
                    · refine sw_inc_4_2 (np := 251) dX3_workedOut_248 sw_ic_1 rfl rfl ?_
                      refine sw_goto (tp := 4) dX3_workedOut_251 rfl ?_
                      refine sw_dr_4_3 ?_
                      exact hrec1 _ _ _
                    · refine sw_inc_4_1 (np := 222) dX3_workedOut_219 sw_ic_m1 rfl rfl ?_
                      refine sw_ald_4_0 (np := 223) dX3_workedOut_222 rfl ?_
                      refine sw_gR (np := 226) sw_f_RX3_24 ho (sw_rf_3_4 ho) dX3_workedOut_223 rfl ?_
                      refine sw_ild_4_1 (np := 227) dX3_workedOut_226 rfl ?_
                      refine sw_iconst (np := 228) dX3_workedOut_227 sw_ic_1 rfl ?_
                      refine sw_isub (np := 229) dX3_workedOut_228 rfl ?_
                      refine sw_ild_4_3 (np := 230) dX3_workedOut_229 rfl ?_
                      refine sw_ald_4_0 (np := 231) dX3_workedOut_230 rfl ?_
                      refine sw_gR (np := 234) sw_f_RX3_24 ho (sw_rf_3_4 ho) dX3_workedOut_231 rfl ?_
                      refine sw_ild_4_1 (np := 235) dX3_workedOut_234 rfl ?_
                      refine sw_iconst (np := 236) dX3_workedOut_235 sw_ic_1 rfl ?_
                      refine sw_isub (np := 237) dX3_workedOut_236 rfl ?_
                      refine sw_iald (np := 238) (sw_kd_3_4 ho) (sw_ln_3_4 ho) dX3_workedOut_237 rfl ?_
                      refine sw_ald_4_0 (np := 239) dX3_workedOut_238 rfl ?_
                      refine sw_gR (np := 242) sw_f_RX3_24 ho (sw_rf_3_4 ho) dX3_workedOut_239 rfl ?_
                      refine sw_ild_4_1 (np := 243) dX3_workedOut_242 rfl ?_
                      refine sw_iald (np := 244) (sw_kd_3_4 ho) (sw_ln_3_4 ho) dX3_workedOut_243 rfl ?_
                      refine sw_cS3i (np := 247) (hX3_joined (d := d - 1) (by omega) ) sw_ms_X3_joined sw_wl_RX3_56 dX3_workedOut_244 (sw_fit_rm (by omega) (by decide)) (Nat.le_of_ble_eq_true rfl) rfl (fun r1 S2 => ?_)
                      refine sw_sI (np := 248) (sw_kd_3_4 ho) (sw_ln_3_4 ho) dX3_workedOut_247 rfl (fun S3 => ?_)
                      refine sw_inc_4_2 (np := 251) dX3_workedOut_248 sw_ic_1 rfl rfl ?_
                      refine sw_goto (tp := 4) dX3_workedOut_251 rfl ?_
                      refine sw_dr_4_3 ?_
                      exact hrec1 _ _ _
                  · refine sw_ald_4_0 (np := 188) dX3_workedOut_187 rfl ?_
                    refine sw_gR (np := 191) sw_f_RX3_24 ho (sw_rf_3_4 ho) dX3_workedOut_188 rfl ?_
                    refine sw_ild_4_1 (np := 192) dX3_workedOut_191 rfl ?_
                    refine sw_iconst (np := 193) dX3_workedOut_192 sw_ic_1 rfl ?_
                    refine sw_isub (np := 194) dX3_workedOut_193 rfl ?_
                    refine sw_ald_4_0 (np := 195) dX3_workedOut_194 rfl ?_
                    refine sw_gR (np := 198) sw_f_RX3_24 ho (sw_rf_3_4 ho) dX3_workedOut_195 rfl ?_
                    refine sw_ild_4_1 (np := 199) dX3_workedOut_198 rfl ?_
                    refine sw_iconst (np := 200) dX3_workedOut_199 sw_ic_1 rfl ?_
                    refine sw_isub (np := 201) dX3_workedOut_200 rfl ?_
                    refine sw_iald (np := 202) (sw_kd_3_4 ho) (sw_ln_3_4 ho) dX3_workedOut_201 rfl ?_
                    refine sw_if_ne (np := 205) (tp := 209) dX3_workedOut_202 rfl rfl ?_ ?_
                    · refine sw_iconst (np := 210) dX3_workedOut_209 sw_ic_0 rfl ?_
                      refine sw_sI (np := 211) (sw_kd_3_4 ho) (sw_ln_3_4 ho) dX3_workedOut_210 rfl (fun S4 => ?_)
                      refine sw_goto (tp := 248) dX3_workedOut_211 rfl ?_
                      refine sw_inc_4_2 (np := 251) dX3_workedOut_248 sw_ic_1 rfl rfl ?_
                      refine sw_goto (tp := 4) dX3_workedOut_251 rfl ?_
                      refine sw_dr_4_3 ?_
                      exact hrec1 _ _ _
                    · refine sw_iconst (np := 206) dX3_workedOut_205 sw_ic_1 rfl ?_
                      refine sw_goto (tp := 210) dX3_workedOut_206 rfl ?_
                      refine sw_sI (np := 211) (sw_kd_3_4 ho) (sw_ln_3_4 ho) dX3_workedOut_210 rfl (fun S5 => ?_)
                      refine sw_goto (tp := 248) dX3_workedOut_211 rfl ?_
                      refine sw_inc_4_2 (np := 251) dX3_workedOut_248 sw_ic_1 rfl rfl ?_
                      refine sw_goto (tp := 4) dX3_workedOut_251 rfl ?_
                      refine sw_dr_4_3 ?_
                      exact hrec1 _ _ _
                · refine sw_ald_4_0 (np := 162) dX3_workedOut_161 rfl ?_
                  refine sw_gR (np := 165) sw_f_RX3_24 ho (sw_rf_3_4 ho) dX3_workedOut_162 rfl ?_
                  refine sw_ild_4_1 (np := 166) dX3_workedOut_165 rfl ?_
                  refine sw_iconst (np := 167) dX3_workedOut_166 sw_ic_1 rfl ?_
                  refine sw_isub (np := 168) dX3_workedOut_167 rfl ?_
                  refine sw_ald_4_0 (np := 169) dX3_workedOut_168 rfl ?_
                  refine sw_gR (np := 172) sw_f_RX3_24 ho (sw_rf_3_4 ho) dX3_workedOut_169 rfl ?_
                  refine sw_ild_4_1 (np := 173) dX3_workedOut_172 rfl ?_
                  refine sw_iconst (np := 174) dX3_workedOut_173 sw_ic_1 rfl ?_
                  refine sw_isub (np := 175) dX3_workedOut_174 rfl ?_
                  refine sw_iald (np := 176) (sw_kd_3_4 ho) (sw_ln_3_4 ho) dX3_workedOut_175 rfl ?_
                  refine sw_ineg (np := 177) dX3_workedOut_176 rfl ?_
                  refine sw_sI (np := 178) (sw_kd_3_4 ho) (sw_ln_3_4 ho) dX3_workedOut_177 rfl (fun S6 => ?_)
                  refine sw_goto (tp := 248) dX3_workedOut_178 rfl ?_
                  refine sw_inc_4_2 (np := 251) dX3_workedOut_248 sw_ic_1 rfl rfl ?_
                  refine sw_goto (tp := 4) dX3_workedOut_251 rfl ?_
                  refine sw_dr_4_3 ?_
                  exact hrec1 _ _ _
              · refine sw_inc_4_1 (np := 128) dX3_workedOut_125 sw_ic_m1 rfl rfl ?_
                refine sw_ald_4_0 (np := 129) dX3_workedOut_128 rfl ?_
                refine sw_gR (np := 132) sw_f_RX3_24 ho (sw_rf_3_4 ho) dX3_workedOut_129 rfl ?_
                refine sw_ild_4_1 (np := 133) dX3_workedOut_132 rfl ?_
                refine sw_iald (np := 134) (sw_kd_3_4 ho) (sw_ln_3_4 ho) dX3_workedOut_133 rfl ?_
                refine sw_if_ne (np := 137) (tp := 150) dX3_workedOut_134 rfl rfl ?_ ?_
                · refine sw_ild_4_2 (np := 151) dX3_workedOut_150 rfl ?_
                  refine sw_ist_4_2 (np := 152) dX3_workedOut_151 rfl rfl ?_
                  refine sw_goto (tp := 248) dX3_workedOut_152 rfl ?_
                  refine sw_inc_4_2 (np := 251) dX3_workedOut_248 sw_ic_1 rfl rfl ?_
                  refine sw_goto (tp := 4) dX3_workedOut_251 rfl ?_
                  refine sw_dr_4_3 ?_
                  exact hrec1 _ _ _
                · refine sw_ild_4_2 (np := 138) dX3_workedOut_137 rfl ?_
                  refine sw_ald_4_0 (np := 139) dX3_workedOut_138 rfl ?_
                  refine sw_gR (np := 142) sw_f_RX3_21 ho (sw_rf_3_3 ho) dX3_workedOut_139 rfl ?_
                  refine sw_ild_4_2 (np := 143) dX3_workedOut_142 rfl ?_
                  refine sw_iald (np := 144) (sw_kd_3_3 ho) (sw_ln_3_3 ho) dX3_workedOut_143 rfl ?_
                  refine sw_mmax (np := 147) sw_mth_max sw_wm_RX3_50 (by show 1 ≤ d; omega) (sw_room (by omega) (Nat.le_of_ble_eq_true rfl)) (Nat.zero_le _) (Nat.zero_le _) dX3_workedOut_144 rfl ?_
                  refine sw_goto (tp := 151) dX3_workedOut_147 rfl ?_
                  refine sw_isl_4_2 (np := 152) dX3_workedOut_151 rfl rfl (fun x2_2 => ?_)
                  refine sw_goto (tp := 248) dX3_workedOut_152 rfl ?_
                  refine sw_inc_4_2 (np := 251) dX3_workedOut_248 sw_ic_1 rfl rfl ?_
                  refine sw_goto (tp := 4) dX3_workedOut_251 rfl ?_
                  refine sw_dr_4_3 ?_
                  exact hrec1 _ _ _
            · refine sw_ald_4_0 (np := 111) dX3_workedOut_110 rfl ?_
              refine sw_gR (np := 114) sw_f_RX3_24 ho (sw_rf_3_4 ho) dX3_workedOut_111 rfl ?_
              refine sw_ild_4_1 (np := 115) dX3_workedOut_114 rfl ?_
              refine sw_iconst (np := 116) dX3_workedOut_115 sw_ic_1 rfl ?_
              refine sw_isub (np := 117) dX3_workedOut_116 rfl ?_
              refine sw_iald (np := 118) (sw_kd_3_4 ho) (sw_ln_3_4 ho) dX3_workedOut_117 rfl ?_
              exact sw_iret dX3_workedOut_118
          · refine sw_iconst (np := 103) dX3_workedOut_102 sw_ic_0 rfl ?_
            exact sw_iret dX3_workedOut_103
        · refine sw_ald_4_0 (np := 57) dX3_workedOut_56 rfl ?_
          refine sw_gR (np := 60) sw_f_RX3_24 ho (sw_rf_3_4 ho) dX3_workedOut_57 rfl ?_
          refine sw_ild_4_1 (np := 61) dX3_workedOut_60 rfl ?_
          refine sw_inc_4_1 (np := 64) dX3_workedOut_61 sw_ic_1 rfl rfl ?_
          refine sw_ald_4_0 (np := 65) dX3_workedOut_64 rfl ?_
          refine sw_gR (np := 68) sw_f_RX3_21 ho (sw_rf_3_3 ho) dX3_workedOut_65 rfl ?_
          refine sw_ild_4_2 (np := 69) dX3_workedOut_68 rfl ?_
          refine sw_iald (np := 70) (sw_kd_3_3 ho) (sw_ln_3_3 ho) dX3_workedOut_69 rfl ?_
          refine sw_iconst (np := 71) dX3_workedOut_70 sw_ic_0 rfl ?_
          refine sw_iconst (np := 72) dX3_workedOut_71 sw_ic_5 rfl ?_
          refine sw_cT3i (np := 75) (hX8_within (d := d - 1) (by omega) ) sw_ms_X8_within sw_wn_RX3_46 dX3_workedOut_72 (sw_fit_rm (by omega) (by decide)) (Nat.le_of_ble_eq_true rfl) rfl (fun r2 S7 => ?_)
          refine sw_if_eq (np := 78) (tp := 92) dX3_workedOut_75 rfl rfl ?_ ?_
          · refine sw_iconst (np := 93) dX3_workedOut_92 sw_ic_0 rfl ?_
            refine sw_sI (np := 94) (sw_kd_3_4 ho) (sw_ln_3_4 ho) dX3_workedOut_93 rfl (fun S8 => ?_)
            refine sw_goto (tp := 248) dX3_workedOut_94 rfl ?_
            refine sw_inc_4_2 (np := 251) dX3_workedOut_248 sw_ic_1 rfl rfl ?_
            refine sw_goto (tp := 4) dX3_workedOut_251 rfl ?_
            refine sw_dr_4_3 ?_
            exact hrec1 _ _ _
          · refine sw_ald_4_0 (np := 79) dX3_workedOut_78 rfl ?_
            refine sw_gR (np := 82) sw_f_RX3_27 ho (sw_rf_3_5 ho) dX3_workedOut_79 rfl ?_
            refine sw_ald_4_0 (np := 83) dX3_workedOut_82 rfl ?_
            refine sw_gR (np := 86) sw_f_RX3_21 ho (sw_rf_3_3 ho) dX3_workedOut_83 rfl ?_
            refine sw_ild_4_2 (np := 87) dX3_workedOut_86 rfl ?_
            refine sw_iald (np := 88) (sw_kd_3_3 ho) (sw_ln_3_3 ho) dX3_workedOut_87 rfl ?_
            refine sw_iald (np := 89) (sw_kd_3_5 ho) (sw_ln_3_5 ho) dX3_workedOut_88 rfl ?_
            refine sw_goto (tp := 93) dX3_workedOut_89 rfl ?_
            refine sw_sI (np := 94) (sw_kd_3_4 ho) (sw_ln_3_4 ho) dX3_workedOut_93 rfl (fun S9 => ?_)
            refine sw_goto (tp := 248) dX3_workedOut_94 rfl ?_
            refine sw_inc_4_2 (np := 251) dX3_workedOut_248 sw_ic_1 rfl rfl ?_
            refine sw_goto (tp := 4) dX3_workedOut_251 rfl ?_
            refine sw_dr_4_3 ?_
            exact hrec1 _ _ _
      · refine sw_ald_4_0 (np := 33) dX3_workedOut_32 rfl ?_
        refine sw_gR (np := 36) sw_f_RX3_24 ho (sw_rf_3_4 ho) dX3_workedOut_33 rfl ?_
        refine sw_ild_4_1 (np := 37) dX3_workedOut_36 rfl ?_
        refine sw_inc_4_1 (np := 40) dX3_workedOut_37 sw_ic_1 rfl rfl ?_
        refine sw_ald_4_0 (np := 41) dX3_workedOut_40 rfl ?_
        refine sw_gR (np := 44) sw_f_RX3_21 ho (sw_rf_3_3 ho) dX3_workedOut_41 rfl ?_
        refine sw_ild_4_2 (np := 45) dX3_workedOut_44 rfl ?_
        refine sw_iald (np := 46) (sw_kd_3_3 ho) (sw_ln_3_3 ho) dX3_workedOut_45 rfl ?_
        refine sw_sI (np := 47) (sw_kd_3_4 ho) (sw_ln_3_4 ho) dX3_workedOut_46 rfl (fun S10 => ?_)
        refine sw_goto (tp := 248) dX3_workedOut_47 rfl ?_
        refine sw_inc_4_2 (np := 251) dX3_workedOut_248 sw_ic_1 rfl rfl ?_
        refine sw_goto (tp := 4) dX3_workedOut_251 rfl ?_
        refine sw_dr_4_3 ?_
        exact hrec1 _ _ _
/-- SwordAttic.heldWithin(III)I -/
def fX8_heldWithin (N : Nat) (p0 : Int32) (p1 : Int32) (p2 : Int32) (S : sw_St) : Option (Int32 × sw_St) :=
  some ((sw_mx p1 (sw_mn p2 p0)), S)
theorem hX8_heldWithin {G : sw_G} {N d : Nat} (hd : 1 ≤ d) {p0 : Int32} {p1 : Int32} {p2 : Int32}  {S : sw_St} : sw_Ev G yX8_heldWithin cX8_heldWithin 3 (some .int) d sw_ei [.int p0, .int p1, .int p2] S (fX8_heldWithin N p0 p1 p2 S) := by
  refine sw_Ev_of (own := RX8) (lv0 := [some (.int p0), some (.int p1), some (.int p2)]) (by decide) rfl (Nat.le_of_ble_eq_true rfl) rfl ?_
  unfold fX8_heldWithin
  refine sw_ild_3_1 (np := 1) dX8_heldWithin_0 rfl ?_
  refine sw_ild_3_2 (np := 2) dX8_heldWithin_1 rfl ?_
  refine sw_ild_3_0 (np := 3) dX8_heldWithin_2 rfl ?_
  refine sw_mmin (np := 6) sw_mth_min sw_wm_RX8_311 (by show 1 ≤ d; omega) (sw_room (by omega) (Nat.le_of_ble_eq_true rfl)) (Nat.zero_le _) (Nat.zero_le _) dX8_heldWithin_3 rfl ?_
  refine sw_mmax (np := 9) sw_mth_max sw_wm_RX8_370 (by show 1 ≤ d; omega) (sw_room (by omega) (Nat.le_of_ble_eq_true rfl)) (Nat.zero_le _) (Nat.zero_le _) dX8_heldWithin_6 rfl ?_
  exact sw_iret dX8_heldWithin_9
/-- SwordAttic$Law.growth(IIIIII)I -/
def fX3_growth (N : Nat) (o : Nat) (p1 : Int32) (p2 : Int32) (p3 : Int32) (p4 : Int32) (p5 : Int32) (p6 : Int32) (S : sw_St) : Option (Int32 × sw_St) :=
  if (S.1 o 0) = 0 then (sw_bd (fX8_heldWithin N ((((p1 + ((3 : Int32) * p4)) - (p2 / (20 : Int32))) - ((8 : Int32) * p5)) - (2 : Int32)) (-20 : Int32) (20 : Int32) S) (fun r3 S9 => (some (r3, S9)))) else (sw_gd (sw_in (0 : Int32) 6) (sw_ls (sw_si S (o + 4) (0 : Int32).toNatClampNeg p1) (fun S1 => (sw_gd (sw_in (1 : Int32) 6) (sw_ls (sw_si S1 (o + 4) (1 : Int32).toNatClampNeg p2) (fun S2 => (sw_gd (sw_in (2 : Int32) 6) (sw_ls (sw_si S2 (o + 4) (2 : Int32).toNatClampNeg p3) (fun S3 => (sw_gd (sw_in (3 : Int32) 6) (sw_ls (sw_si S3 (o + 4) (3 : Int32).toNatClampNeg p4) (fun S4 => (sw_gd (sw_in (4 : Int32) 6) (sw_ls (sw_si S4 (o + 4) (4 : Int32).toNatClampNeg p5) (fun S5 => (sw_gd (sw_in (5 : Int32) 6) (sw_ls (sw_si S5 (o + 4) (5 : Int32).toNatClampNeg p6) (fun S6 => (sw_bd (fX3_workedOut N o S6) (fun r1 S7 => (sw_bd (fX8_heldWithin N r1 (-20 : Int32) (20 : Int32) S7) (fun r2 S8 => (some (r2, S8))))))))))))))))))))))))
theorem hX3_growth {G : sw_G} {N d : Nat} (hd : 3 ≤ d) {o : Nat} {p1 : Int32} {p2 : Int32} {p3 : Int32} {p4 : Int32} {p5 : Int32} {p6 : Int32} (ho : sw_kd o = 3) {S : sw_St} : sw_Ev G yX3_growth cX3_growth 7 (some .int) d sw_ei [sw_vr G o, .int p1, .int p2, .int p3, .int p4, .int p5, .int p6] S (fX3_growth N o p1 p2 p3 p4 p5 p6 S) := by
  refine sw_Ev_of (own := RX3) (lv0 := [some (sw_vr G o), some (.int p1), some (.int p2), some (.int p3), some (.int p4), some (.int p5), some (.int p6)]) (by decide) rfl (Nat.le_of_ble_eq_true rfl) rfl ?_
  unfold fX3_growth
  refine sw_ald_7_0 (np := 1) dX3_growth_0 rfl ?_
  refine sw_gI (np := 4) sw_f_RX3_7 ho dX3_growth_1 rfl ?_
  refine sw_if_ne (np := 7) (tp := 34) dX3_growth_4 rfl rfl ?_ ?_
  · refine sw_ald_7_0 (np := 35) dX3_growth_34 rfl ?_
    refine sw_gR (np := 38) sw_f_RX3_27 ho (sw_rf_3_5 ho) dX3_growth_35 rfl ?_
    refine sw_iconst (np := 39) dX3_growth_38 sw_ic_0 rfl ?_
    refine sw_ild_7_1 (np := 40) dX3_growth_39 rfl ?_
    refine sw_sI (np := 41) (sw_kd_3_5 ho) (sw_ln_3_5 ho) dX3_growth_40 rfl (fun S1 => ?_)
    refine sw_ald_7_0 (np := 42) dX3_growth_41 rfl ?_
    refine sw_gR (np := 45) sw_f_RX3_27 ho (sw_rf_3_5 ho) dX3_growth_42 rfl ?_
    refine sw_iconst (np := 46) dX3_growth_45 sw_ic_1 rfl ?_
    refine sw_ild_7_2 (np := 47) dX3_growth_46 rfl ?_
    refine sw_sI (np := 48) (sw_kd_3_5 ho) (sw_ln_3_5 ho) dX3_growth_47 rfl (fun S2 => ?_)
    refine sw_ald_7_0 (np := 49) dX3_growth_48 rfl ?_
    refine sw_gR (np := 52) sw_f_RX3_27 ho (sw_rf_3_5 ho) dX3_growth_49 rfl ?_
    refine sw_iconst (np := 53) dX3_growth_52 sw_ic_2 rfl ?_
    refine sw_ild_7_3 (np := 54) dX3_growth_53 rfl ?_
    refine sw_sI (np := 55) (sw_kd_3_5 ho) (sw_ln_3_5 ho) dX3_growth_54 rfl (fun S3 => ?_)
    refine sw_ald_7_0 (np := 56) dX3_growth_55 rfl ?_
    refine sw_gR (np := 59) sw_f_RX3_27 ho (sw_rf_3_5 ho) dX3_growth_56 rfl ?_
    refine sw_iconst (np := 60) dX3_growth_59 sw_ic_3 rfl ?_
    refine sw_ild_7_4 (np := 62) dX3_growth_60 rfl ?_
    refine sw_sI (np := 63) (sw_kd_3_5 ho) (sw_ln_3_5 ho) dX3_growth_62 rfl (fun S4 => ?_)
    refine sw_ald_7_0 (np := 64) dX3_growth_63 rfl ?_
    refine sw_gR (np := 67) sw_f_RX3_27 ho (sw_rf_3_5 ho) dX3_growth_64 rfl ?_
    refine sw_iconst (np := 68) dX3_growth_67 sw_ic_4 rfl ?_
    refine sw_ild_7_5 (np := 70) dX3_growth_68 rfl ?_
    refine sw_sI (np := 71) (sw_kd_3_5 ho) (sw_ln_3_5 ho) dX3_growth_70 rfl (fun S5 => ?_)
    refine sw_ald_7_0 (np := 72) dX3_growth_71 rfl ?_
    refine sw_gR (np := 75) sw_f_RX3_27 ho (sw_rf_3_5 ho) dX3_growth_72 rfl ?_
    refine sw_iconst (np := 76) dX3_growth_75 sw_ic_5 rfl ?_
    refine sw_ild_7_6 (np := 78) dX3_growth_76 rfl ?_
    refine sw_sI (np := 79) (sw_kd_3_5 ho) (sw_ln_3_5 ho) dX3_growth_78 rfl (fun S6 => ?_)
    refine sw_ald_7_0 (np := 80) dX3_growth_79 rfl ?_
    refine sw_cV0i (np := 83) (hX3_workedOut (d := d - 1) (by omega) ho) sw_mv_X3_workedOut ho sw_wl_RX3_42 dX3_growth_80 (sw_fit_rm (by omega) (by decide)) (Nat.le_of_ble_eq_true rfl) rfl (fun r1 S7 => ?_)
    refine sw_bipush (np := 85) dX3_growth_83 sw_bc_m20 rfl ?_
    refine sw_bipush (np := 87) dX3_growth_85 sw_bc_20 rfl ?_
    refine sw_cT3i (np := 90) (hX8_heldWithin (d := d - 1) (by omega) ) sw_ms_X8_heldWithin sw_wn_RX3_36 dX3_growth_87 (sw_fit_rm (by omega) (by decide)) (Nat.le_of_ble_eq_true rfl) rfl (fun r2 S8 => ?_)
    exact sw_iret dX3_growth_90
  · refine sw_ild_7_1 (np := 8) dX3_growth_7 rfl ?_
    refine sw_iconst (np := 9) dX3_growth_8 sw_ic_3 rfl ?_
    refine sw_ild_7_4 (np := 11) dX3_growth_9 rfl ?_
    refine sw_imul (np := 12) dX3_growth_11 rfl ?_
    refine sw_iadd (np := 13) dX3_growth_12 rfl ?_
    refine sw_ild_7_2 (np := 14) dX3_growth_13 rfl ?_
    refine sw_bipush (np := 16) dX3_growth_14 sw_bc_20 rfl ?_
    refine sw_idiv (np := 17) dX3_growth_16 (by decide) rfl ?_
    refine sw_isub (np := 18) dX3_growth_17 rfl ?_
    refine sw_bipush (np := 20) dX3_growth_18 sw_bc_8 rfl ?_
    refine sw_ild_7_5 (np := 22) dX3_growth_20 rfl ?_
    refine sw_imul (np := 23) dX3_growth_22 rfl ?_
    refine sw_isub (np := 24) dX3_growth_23 rfl ?_
    refine sw_iconst (np := 25) dX3_growth_24 sw_ic_2 rfl ?_
    refine sw_isub (np := 26) dX3_growth_25 rfl ?_
    refine sw_bipush (np := 28) dX3_growth_26 sw_bc_m20 rfl ?_
    refine sw_bipush (np := 30) dX3_growth_28 sw_bc_20 rfl ?_
    refine sw_cT3i (np := 33) (hX8_heldWithin (d := d - 1) (by omega) ) sw_ms_X8_heldWithin sw_wn_RX3_36 dX3_growth_30 (sw_fit_rm (by omega) (by decide)) (Nat.le_of_ble_eq_true rfl) rfl (fun r3 S9 => ?_)
    exact sw_iret dX3_growth_33
/-- SwordAttic$Night.becomeInMind(LSwordAttic$Night;)V -/
def fX4_becomeInMind (N : Nat) (o : Nat) (o1 : Nat) (S : sw_St) : Option (Unit × sw_St) :=
  sw_ls (sw_si S o 1 (S.1 o1 1)) (fun S1 => (sw_gd (sw_cg (0 : Int32) (0 : Int32) (10 : Int32) 10 10) (sw_ls (sw_ci S1 (o1 + 4) (o + 4) (0 : Int32).toNatClampNeg (0 : Int32).toNatClampNeg (10 : Int32).toNatClampNeg) (fun S2 => (some ((), S2))))))
theorem hX4_becomeInMind {G : sw_G} {N d : Nat} (hd : 1 ≤ d) {o : Nat} {o1 : Nat} (ho : sw_kd o = 4) (ho1 : sw_kd o1 = 4) {S : sw_St} : sw_Ev G yX4_becomeInMind cX4_becomeInMind 2 none d sw_ev [sw_vr G o, sw_vr G o1] S (fX4_becomeInMind N o o1 S) := by
  refine sw_Ev_of (own := RX4) (lv0 := [some (sw_vr G o), some (sw_vr G o1)]) (by decide) rfl (Nat.le_of_ble_eq_true rfl) rfl ?_
  unfold fX4_becomeInMind
  refine sw_ald_2_0 (np := 1) dX4_becomeInMind_0 rfl ?_
  refine sw_ald_2_1 (np := 2) dX4_becomeInMind_1 rfl ?_
  refine sw_gI (np := 5) sw_f_RX4_15 ho1 dX4_becomeInMind_2 rfl ?_
  refine sw_pI (np := 8) sw_f_RX4_15 sw_fp_4_1 ho dX4_becomeInMind_5 rfl (fun S1 => ?_)
  refine sw_ald_2_1 (np := 9) dX4_becomeInMind_8 rfl ?_
  refine sw_gR (np := 12) sw_f_RX4_37 ho1 (sw_rf_4_8 ho1) dX4_becomeInMind_9 rfl ?_
  refine sw_iconst (np := 13) dX4_becomeInMind_12 sw_ic_0 rfl ?_
  refine sw_ald_2_0 (np := 14) dX4_becomeInMind_13 rfl ?_
  refine sw_gR (np := 17) sw_f_RX4_37 ho (sw_rf_4_8 ho) dX4_becomeInMind_14 rfl ?_
  refine sw_iconst (np := 18) dX4_becomeInMind_17 sw_ic_0 rfl ?_
  refine sw_bipush (np := 20) dX4_becomeInMind_18 sw_bc_10 rfl ?_
  refine sw_yI (np := 23) sw_acw_ok (sw_kd_4_8 ho1) (sw_kd_4_8 ho) (sw_ln_4_8 ho1) (sw_ln_4_8 ho) sw_wl_RX4_55 (by show 1 ≤ d; omega) (sw_room (by omega) (Nat.le_of_ble_eq_true rfl)) dX4_becomeInMind_20 rfl (fun S2 => ?_)
  exact sw_vret dX4_becomeInMind_23
/-- SwordAttic$Night.become(LSwordAttic$Night;)V -/
def fX4_become (N : Nat) (o : Nat) (o1 : Nat) (S : sw_St) : Option (Unit × sw_St) :=
  sw_ls (sw_si S o 0 (S.1 o1 0)) (fun S1 => (sw_ls (sw_si S1 o 2 (S1.1 o1 2)) (fun S2 => (sw_ls (sw_si S2 o 3 (S2.1 o1 3)) (fun S3 => (sw_gd (sw_cg (0 : Int32) (0 : Int32) (10 : Int32) 10 10) (sw_ls (sw_ci S3 (o1 + 1) (o + 1) (0 : Int32).toNatClampNeg (0 : Int32).toNatClampNeg (10 : Int32).toNatClampNeg) (fun S4 => (sw_gd (sw_cg (0 : Int32) (0 : Int32) (10 : Int32) 10 10) (sw_ls (sw_ci S4 (o1 + 2) (o + 2) (0 : Int32).toNatClampNeg (0 : Int32).toNatClampNeg (10 : Int32).toNatClampNeg) (fun S5 => (sw_gd (sw_cg (0 : Int32) (0 : Int32) (10 : Int32) 10 10) (sw_ls (sw_ci S5 (o1 + 3) (o + 3) (0 : Int32).toNatClampNeg (0 : Int32).toNatClampNeg (10 : Int32).toNatClampNeg) (fun S6 => (sw_gd (sw_cg (0 : Int32) (0 : Int32) (10 : Int32) 10 10) (sw_ls (sw_ci S6 (o1 + 5) (o + 5) (0 : Int32).toNatClampNeg (0 : Int32).toNatClampNeg (10 : Int32).toNatClampNeg) (fun S7 => (sw_gd (sw_cg (0 : Int32) (0 : Int32) (12 : Int32) 12 12) (sw_ls (sw_ci S7 (o1 + 6) (o + 6) (0 : Int32).toNatClampNeg (0 : Int32).toNatClampNeg (12 : Int32).toNatClampNeg) (fun S8 => (sw_bd (fX4_becomeInMind N o o1 S8) (fun _ S9 => (some ((), S9))))))))))))))))))))))))
theorem hX4_become {G : sw_G} {N d : Nat} (hd : 2 ≤ d) {o : Nat} {o1 : Nat} (ho : sw_kd o = 4) (ho1 : sw_kd o1 = 4) {S : sw_St} : sw_Ev G yX4_become cX4_become 2 none d sw_ev [sw_vr G o, sw_vr G o1] S (fX4_become N o o1 S) := by
  refine sw_Ev_of (own := RX4) (lv0 := [some (sw_vr G o), some (sw_vr G o1)]) (by decide) rfl (Nat.le_of_ble_eq_true rfl) rfl ?_
  unfold fX4_become
  refine sw_ald_2_0 (np := 1) dX4_become_0 rfl ?_
  refine sw_ald_2_1 (np := 2) dX4_become_1 rfl ?_
  refine sw_gI (np := 5) sw_f_RX4_9 ho1 dX4_become_2 rfl ?_
  refine sw_pI (np := 8) sw_f_RX4_9 sw_fp_4_0 ho dX4_become_5 rfl (fun S1 => ?_)
  refine sw_ald_2_0 (np := 9) dX4_become_8 rfl ?_
  refine sw_ald_2_1 (np := 10) dX4_become_9 rfl ?_
  refine sw_gI (np := 13) sw_f_RX4_18 ho1 dX4_become_10 rfl ?_
  refine sw_pI (np := 16) sw_f_RX4_18 sw_fp_4_2 ho dX4_become_13 rfl (fun S2 => ?_)
  refine sw_ald_2_0 (np := 17) dX4_become_16 rfl ?_
  refine sw_ald_2_1 (np := 18) dX4_become_17 rfl ?_
  refine sw_gI (np := 21) sw_f_RX4_21 ho1 dX4_become_18 rfl ?_
  refine sw_pI (np := 24) sw_f_RX4_21 sw_fp_4_3 ho dX4_become_21 rfl (fun S3 => ?_)
  refine sw_ald_2_1 (np := 25) dX4_become_24 rfl ?_
  refine sw_gR (np := 28) sw_f_RX4_27 ho1 (sw_rf_4_5 ho1) dX4_become_25 rfl ?_
  refine sw_iconst (np := 29) dX4_become_28 sw_ic_0 rfl ?_
  refine sw_ald_2_0 (np := 30) dX4_become_29 rfl ?_
  refine sw_gR (np := 33) sw_f_RX4_27 ho (sw_rf_4_5 ho) dX4_become_30 rfl ?_
  refine sw_iconst (np := 34) dX4_become_33 sw_ic_0 rfl ?_
  refine sw_bipush (np := 36) dX4_become_34 sw_bc_10 rfl ?_
  refine sw_yI (np := 39) sw_acw_ok (sw_kd_4_5 ho1) (sw_kd_4_5 ho) (sw_ln_4_5 ho1) (sw_ln_4_5 ho) sw_wl_RX4_55 (by show 1 ≤ d; omega) (sw_room (by omega) (Nat.le_of_ble_eq_true rfl)) dX4_become_36 rfl (fun S4 => ?_)
  refine sw_ald_2_1 (np := 40) dX4_become_39 rfl ?_
  refine sw_gR (np := 43) sw_f_RX4_31 ho1 (sw_rf_4_6 ho1) dX4_become_40 rfl ?_
  refine sw_iconst (np := 44) dX4_become_43 sw_ic_0 rfl ?_
  refine sw_ald_2_0 (np := 45) dX4_become_44 rfl ?_
  refine sw_gR (np := 48) sw_f_RX4_31 ho (sw_rf_4_6 ho) dX4_become_45 rfl ?_
  refine sw_iconst (np := 49) dX4_become_48 sw_ic_0 rfl ?_
  refine sw_bipush (np := 51) dX4_become_49 sw_bc_10 rfl ?_
  refine sw_yI (np := 54) sw_acw_ok (sw_kd_4_6 ho1) (sw_kd_4_6 ho) (sw_ln_4_6 ho1) (sw_ln_4_6 ho) sw_wl_RX4_55 (by show 1 ≤ d; omega) (sw_room (by omega) (Nat.le_of_ble_eq_true rfl)) dX4_become_51 rfl (fun S5 => ?_)
  refine sw_ald_2_1 (np := 55) dX4_become_54 rfl ?_
  refine sw_gR (np := 58) sw_f_RX4_34 ho1 (sw_rf_4_7 ho1) dX4_become_55 rfl ?_
  refine sw_iconst (np := 59) dX4_become_58 sw_ic_0 rfl ?_
  refine sw_ald_2_0 (np := 60) dX4_become_59 rfl ?_
  refine sw_gR (np := 63) sw_f_RX4_34 ho (sw_rf_4_7 ho) dX4_become_60 rfl ?_
  refine sw_iconst (np := 64) dX4_become_63 sw_ic_0 rfl ?_
  refine sw_bipush (np := 66) dX4_become_64 sw_bc_10 rfl ?_
  refine sw_yI (np := 69) sw_acw_ok (sw_kd_4_7 ho1) (sw_kd_4_7 ho) (sw_ln_4_7 ho1) (sw_ln_4_7 ho) sw_wl_RX4_55 (by show 1 ≤ d; omega) (sw_room (by omega) (Nat.le_of_ble_eq_true rfl)) dX4_become_66 rfl (fun S6 => ?_)
  refine sw_ald_2_1 (np := 70) dX4_become_69 rfl ?_
  refine sw_gR (np := 73) sw_f_RX4_40 ho1 (sw_rf_4_9 ho1) dX4_become_70 rfl ?_
  refine sw_iconst (np := 74) dX4_become_73 sw_ic_0 rfl ?_
  refine sw_ald_2_0 (np := 75) dX4_become_74 rfl ?_
  refine sw_gR (np := 78) sw_f_RX4_40 ho (sw_rf_4_9 ho) dX4_become_75 rfl ?_
  refine sw_iconst (np := 79) dX4_become_78 sw_ic_0 rfl ?_
  refine sw_bipush (np := 81) dX4_become_79 sw_bc_10 rfl ?_
  refine sw_yI (np := 84) sw_acw_ok (sw_kd_4_9 ho1) (sw_kd_4_9 ho) (sw_ln_4_9 ho1) (sw_ln_4_9 ho) sw_wl_RX4_55 (by show 1 ≤ d; omega) (sw_room (by omega) (Nat.le_of_ble_eq_true rfl)) dX4_become_81 rfl (fun S7 => ?_)
  refine sw_ald_2_1 (np := 85) dX4_become_84 rfl ?_
  refine sw_gR (np := 88) sw_f_RX4_43 ho1 (sw_rf_4_10 ho1) dX4_become_85 rfl ?_
  refine sw_iconst (np := 89) dX4_become_88 sw_ic_0 rfl ?_
  refine sw_ald_2_0 (np := 90) dX4_become_89 rfl ?_
  refine sw_gR (np := 93) sw_f_RX4_43 ho (sw_rf_4_10 ho) dX4_become_90 rfl ?_
  refine sw_iconst (np := 94) dX4_become_93 sw_ic_0 rfl ?_
  refine sw_bipush (np := 96) dX4_become_94 sw_bc_12 rfl ?_
  refine sw_yI (np := 99) sw_acw_ok (sw_kd_4_10 ho1) (sw_kd_4_10 ho) (sw_ln_4_10 ho1) (sw_ln_4_10 ho) sw_wl_RX4_55 (by show 1 ≤ d; omega) (sw_room (by omega) (Nat.le_of_ble_eq_true rfl)) dX4_become_96 rfl (fun S8 => ?_)
  refine sw_ald_2_0 (np := 100) dX4_become_99 rfl ?_
  refine sw_ald_2_1 (np := 101) dX4_become_100 rfl ?_
  refine sw_cV1v (np := 104) (hX4_becomeInMind (d := d - 1) (by omega) ho ho1) sw_mv_X4_becomeInMind ho sw_wl_RX4_61 dX4_become_101 (sw_fit_rm (by omega) (by decide)) (Nat.le_of_ble_eq_true rfl) rfl (fun _ S9 => ?_)
  exact sw_vret dX4_become_104
/-- SwordAttic.isCot(I)Z -/
def fX8_isCot (N : Nat) (p0 : Int32) (S : sw_St) : Option (Int32 × sw_St) :=
  sw_bd (fX8_within N p0 (0 : Int32) (11 : Int32) S) (fun r1 S1 => (some (vp_nar .boolean r1, S1)))
theorem hX8_isCot {G : sw_G} {N d : Nat} (hd : 2 ≤ d) {p0 : Int32}  {S : sw_St} : sw_Ev G yX8_isCot cX8_isCot 1 (some .boolean) d sw_ei [.int p0] S (fX8_isCot N p0 S) := by
  refine sw_Ev_of (own := RX8) (lv0 := [some (.int p0)]) (by decide) rfl (Nat.le_of_ble_eq_true rfl) rfl ?_
  unfold fX8_isCot
  refine sw_ild_1_0 (np := 1) dX8_isCot_0 rfl ?_
  refine sw_iconst (np := 2) dX8_isCot_1 sw_ic_0 rfl ?_
  refine sw_bipush (np := 4) dX8_isCot_2 sw_bc_11 rfl ?_
  refine sw_cS3i (np := 7) (hX8_within (d := d - 1) (by omega) ) sw_ms_X8_within sw_wl_RX8_83 dX8_isCot_4 (sw_fit_rm (by omega) (by decide)) (Nat.le_of_ble_eq_true rfl) rfl (fun r1 S1 => ?_)
  exact sw_zret dX8_isCot_7
/-- SwordAttic$Night.mayCome(III)Z -/
def fX4_mayCome (N : Nat) (o : Nat) (p1 : Int32) (p2 : Int32) (p3 : Int32) (S : sw_St) : Option (Int32 × sw_St) :=
  sw_bd (fX8_isCot N p1 S) (fun r1 S1 => (if r1 = 0 then (some (vp_nar .boolean (0 : Int32), S1)) else (sw_gd (sw_in p1 12) (if (S1.1 (o + 6) p1.toNatClampNeg) ≥ 0 then (some (vp_nar .boolean (0 : Int32), S1)) else (sw_bd (fX8_within N p2 (0 : Int32) (9 : Int32) S1) (fun r2 S2 => (if r2 = 0 then (some (vp_nar .boolean (0 : Int32), S2)) else (sw_bd (fX8_within N p3 (0 : Int32) (99 : Int32) S2) (fun r3 S3 => (if r3 = 0 then (some (vp_nar .boolean (0 : Int32), S3)) else (some (vp_nar .boolean (1 : Int32), S3))))))))))))
theorem hX4_mayCome {G : sw_G} {N d : Nat} (hd : 3 ≤ d) {o : Nat} {p1 : Int32} {p2 : Int32} {p3 : Int32} (ho : sw_kd o = 4) {S : sw_St} : sw_Ev G yX4_mayCome cX4_mayCome 4 (some .boolean) d sw_ei [sw_vr G o, .int p1, .int p2, .int p3] S (fX4_mayCome N o p1 p2 p3 S) := by
  refine sw_Ev_of (own := RX4) (lv0 := [some (sw_vr G o), some (.int p1), some (.int p2), some (.int p3)]) (by decide) rfl (Nat.le_of_ble_eq_true rfl) rfl ?_
  unfold fX4_mayCome
  refine sw_ild_4_1 (np := 1) dX4_mayCome_0 rfl ?_
  refine sw_cT1i (np := 4) (hX8_isCot (d := d - 1) (by omega) ) sw_ms_X8_isCot sw_wn_RX4_65 dX4_mayCome_1 (sw_fit_rm (by omega) (by decide)) (Nat.le_of_ble_eq_true rfl) rfl (fun r1 S1 => ?_)
  refine sw_if_eq (np := 7) (tp := 40) dX4_mayCome_4 rfl rfl ?_ ?_
  · refine sw_iconst (np := 41) dX4_mayCome_40 sw_ic_0 rfl ?_
    exact sw_zret dX4_mayCome_41
  · refine sw_ald_4_0 (np := 8) dX4_mayCome_7 rfl ?_
    refine sw_gR (np := 11) sw_f_RX4_43 ho (sw_rf_4_10 ho) dX4_mayCome_8 rfl ?_
    refine sw_ild_4_1 (np := 12) dX4_mayCome_11 rfl ?_
    refine sw_iald (np := 13) (sw_kd_4_10 ho) (sw_ln_4_10 ho) dX4_mayCome_12 rfl ?_
    refine sw_if_ge (np := 16) (tp := 40) dX4_mayCome_13 rfl rfl ?_ ?_
    · refine sw_iconst (np := 41) dX4_mayCome_40 sw_ic_0 rfl ?_
      exact sw_zret dX4_mayCome_41
    · refine sw_ild_4_2 (np := 17) dX4_mayCome_16 rfl ?_
      refine sw_iconst (np := 18) dX4_mayCome_17 sw_ic_0 rfl ?_
      refine sw_bipush (np := 20) dX4_mayCome_18 sw_bc_9 rfl ?_
      refine sw_cT3i (np := 23) (hX8_within (d := d - 1) (by omega) ) sw_ms_X8_within sw_wn_RX4_69 dX4_mayCome_20 (sw_fit_rm (by omega) (by decide)) (Nat.le_of_ble_eq_true rfl) rfl (fun r2 S2 => ?_)
      refine sw_if_eq (np := 26) (tp := 40) dX4_mayCome_23 rfl rfl ?_ ?_
      · refine sw_iconst (np := 41) dX4_mayCome_40 sw_ic_0 rfl ?_
        exact sw_zret dX4_mayCome_41
      · refine sw_ild_4_3 (np := 27) dX4_mayCome_26 rfl ?_
        refine sw_iconst (np := 28) dX4_mayCome_27 sw_ic_0 rfl ?_
        refine sw_bipush (np := 30) dX4_mayCome_28 sw_bc_99 rfl ?_
        refine sw_cT3i (np := 33) (hX8_within (d := d - 1) (by omega) ) sw_ms_X8_within sw_wn_RX4_69 dX4_mayCome_30 (sw_fit_rm (by omega) (by decide)) (Nat.le_of_ble_eq_true rfl) rfl (fun r3 S3 => ?_)
        refine sw_if_eq (np := 36) (tp := 40) dX4_mayCome_33 rfl rfl ?_ ?_
        · refine sw_iconst (np := 41) dX4_mayCome_40 sw_ic_0 rfl ?_
          exact sw_zret dX4_mayCome_41
        · refine sw_iconst (np := 37) dX4_mayCome_36 sw_ic_1 rfl ?_
          refine sw_goto (tp := 41) dX4_mayCome_37 rfl ?_
          exact sw_zret dX4_mayCome_41
