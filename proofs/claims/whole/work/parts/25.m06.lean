/-- SwordAtticModel.either, over what calls it again -/
def gX9_either (N : Nat) (RR : Nat → Int32 → Int32 → Int32 → Int32 → sw_St → Option (Int32 × sw_St))  (S : sw_St) : Option (Int32 × sw_St) :=
  sw_bd (RR 1 0 0 0 0 S) (fun r1 S1 => (sw_fx1 (fun rec1 x1_1 S2 => (sw_bd (fX9_takes N (124 : Int32) S2) (fun r2 S3 => (if r2 = 0 then (some (x1_1, S3)) else (sw_bd (RR 1 0 0 0 0 S3) (fun r3 S4 => (if x1_1 = 0 then (if r3 = 0 then (rec1 (0 : Int32) S4) else (rec1 (1 : Int32) S4)) else (rec1 (1 : Int32) S4)))))))) N r1 S1))
/-- SwordAtticModel.both, over what calls it again -/
def gX9_both (N : Nat) (RR : Nat → Int32 → Int32 → Int32 → Int32 → sw_St → Option (Int32 × sw_St))  (S : sw_St) : Option (Int32 × sw_St) :=
  sw_bd (RR 2 0 0 0 0 S) (fun r1 S1 => (sw_fx1 (fun rec1 x1_1 S2 => (sw_bd (fX9_takes N (38 : Int32) S2) (fun r2 S3 => (if r2 = 0 then (some (x1_1, S3)) else (sw_bd (RR 2 0 0 0 0 S3) (fun r3 S4 => (if x1_1 = 0 then (rec1 (0 : Int32) S4) else (if r3 = 0 then (rec1 (0 : Int32) S4) else (rec1 (1 : Int32) S4))))))))) N r1 S1))
/-- SwordAtticModel.compared, over what calls it again -/
def gX9_compared (N : Nat) (RR : Nat → Int32 → Int32 → Int32 → Int32 → sw_St → Option (Int32 × sw_St))  (S : sw_St) : Option (Int32 × sw_St) :=
  sw_bd (RR 3 0 0 0 0 S) (fun r1 S1 => (sw_bd (fX9_byteAt N S1) (fun r2 S2 => (if (S2.1 105 14) ≥ 0 then (some (r1, S2)) else (sw_jn0 (fun S3 => (sw_ls (sw_si S3 105 12 ((S3.1 105 12) + (1 : Int32))) (fun S4 => (sw_bd (RR 3 0 0 0 0 S4) (fun r3 S5 => (if r2 = (60 : Int32) then (if r1 ≥ r3 then (some ((0 : Int32), S5)) else (some ((1 : Int32), S5))) else (if r2 = (61 : Int32) then (if r1 = r3 then (some ((1 : Int32), S5)) else (some ((0 : Int32), S5))) else (if r1 ≤ r3 then (some ((0 : Int32), S5)) else (some ((1 : Int32), S5)))))))))) (fun k1 => (if r2 = (60 : Int32) then (k1 S2) else (if r2 = (61 : Int32) then (k1 S2) else (if r2 = (62 : Int32) then (k1 S2) else (some (r1, S2)))))))))))
/-- SwordAtticModel.sums, over what calls it again -/
def gX9_sums (N : Nat) (RR : Nat → Int32 → Int32 → Int32 → Int32 → sw_St → Option (Int32 × sw_St))  (S : sw_St) : Option (Int32 × sw_St) :=
  sw_bd (RR 4 0 0 0 0 S) (fun r1 S1 => (sw_fx1 (fun rec1 x1_1 S2 => (if (S2.1 105 14) ≥ 0 then (some (x1_1, S2)) else (sw_bd (fX9_byteAt N S2) (fun r2 S3 => (if r2 = (43 : Int32) then (sw_bd (fX9_byteAt N S3) (fun r3 S4 => (sw_jn1 (fun y1 S5 => (sw_ls (sw_si S5 105 12 ((S5.1 105 12) + (1 : Int32))) (fun S6 => (sw_bd (RR 4 0 0 0 0 S6) (fun r4 S7 => (if y1 = 0 then (sw_li (x1_1 - r4) (fun x1_2 => (rec1 x1_2 S7))) else (sw_li (x1_1 + r4) (fun x1_3 => (rec1 x1_3 S7))))))))) (fun k1 => (if r3 = (43 : Int32) then (k1 (1 : Int32) S4) else (k1 (0 : Int32) S4)))))) else (sw_bd (fX9_byteAt N S3) (fun r5 S8 => (if r5 = (45 : Int32) then (sw_bd (fX9_byteAt N S8) (fun r6 S9 => (sw_jn1 (fun y2 S10 => (sw_ls (sw_si S10 105 12 ((S10.1 105 12) + (1 : Int32))) (fun S11 => (sw_bd (RR 4 0 0 0 0 S11) (fun r7 S12 => (if y2 = 0 then (sw_li (x1_1 - r7) (fun x1_4 => (rec1 x1_4 S12))) else (sw_li (x1_1 + r7) (fun x1_5 => (rec1 x1_5 S12))))))))) (fun k2 => (if r6 = (43 : Int32) then (k2 (1 : Int32) S9) else (k2 (0 : Int32) S9)))))) else (some (x1_1, S8)))))))))) N r1 S1))
/-- SwordAtticModel.product, over what calls it again -/
def gX9_product (N : Nat) (RR : Nat → Int32 → Int32 → Int32 → Int32 → sw_St → Option (Int32 × sw_St))  (S : sw_St) : Option (Int32 × sw_St) :=
  sw_bd (RR 5 0 0 0 0 S) (fun r1 S1 => (sw_bd (fX9_byteAt N S1) (fun r2 S2 => (sw_fx2 (fun rec1 x1_1 x2_1 S3 => (if (S3.1 105 14) ≥ 0 then (some (x1_1, S3)) else (sw_jn0 (fun S4 => (sw_ls (sw_si S4 105 12 ((S4.1 105 12) + (1 : Int32))) (fun S5 => (sw_bd (RR 5 0 0 0 0 S5) (fun r3 S6 => (if x2_1 = (42 : Int32) then (sw_li (x1_1 * r3) (fun x1_4 => (sw_bd (fX9_byteAt N S6) (fun r7 S10 => (rec1 x1_4 r7 S10))))) else (if r3 = 0 then (sw_bd (fX9_byteAt N S6) (fun r6 S9 => (rec1 (0 : Int32) r6 S9))) else (if x2_1 = (47 : Int32) then (sw_gd (!decide (r3 = 0)) (sw_li (x1_1 / r3) (fun x1_3 => (sw_bd (fX9_byteAt N S6) (fun r5 S8 => (rec1 x1_3 r5 S8)))))) else (sw_gd (!decide (r3 = 0)) (sw_li (x1_1 - x1_1 / r3 * r3) (fun x1_2 => (sw_bd (fX9_byteAt N S6) (fun r4 S7 => (rec1 x1_2 r4 S7)))))))))))))) (fun k1 => (if x2_1 = (42 : Int32) then (k1 S3) else (if x2_1 = (47 : Int32) then (k1 S3) else (if x2_1 = (37 : Int32) then (k1 S3) else (some (x1_1, S3))))))))) N r1 r2 S2))))
/-- SwordAtticModel.one, over what calls it again -/
def gX9_one (N : Nat) (RR : Nat → Int32 → Int32 → Int32 → Int32 → sw_St → Option (Int32 × sw_St))  (S : sw_St) : Option (Int32 × sw_St) :=
  if (S.1 105 14) < 0 then (sw_bd (fX9_byteAt N S) (fun r1 S1 => (sw_jn0 (fun S2 => (if (S2.1 105 15) = (6 : Int32) then (sw_bd (fX9_wrong N S2) (fun r8 S15 => (some (r8, S15)))) else (sw_ls (sw_si S2 105 15 ((S2.1 105 15) + (1 : Int32))) (fun S3 => (sw_ls (sw_si S3 105 12 ((S3.1 105 12) + (1 : Int32))) (fun S4 => (if r1 = (40 : Int32) then (sw_bd (RR 0 0 0 0 0 S4) (fun r5 S10 => (sw_jn0 (fun S11 => (sw_ls (sw_si S11 105 15 ((S11.1 105 15) - (1 : Int32))) (fun S12 => (if r1 = (40 : Int32) then (some (r5, S12)) else (if r1 = (45 : Int32) then (some ((-r5), S12)) else (if r5 = 0 then (some ((1 : Int32), S12)) else (some ((0 : Int32), S12)))))))) (fun k3 => (if r1 = (40 : Int32) then (sw_bd (fX9_takes N (41 : Int32) S10) (fun r6 S13 => (if r6 = 0 then (sw_bd (fX9_wrong N S13) (fun r7 S14 => (some (r7, S14)))) else (k3 S13)))) else (k3 S10)))))) else (sw_bd (RR 5 0 0 0 0 S4) (fun r2 S5 => (sw_jn0 (fun S6 => (sw_ls (sw_si S6 105 15 ((S6.1 105 15) - (1 : Int32))) (fun S7 => (if r1 = (40 : Int32) then (some (r2, S7)) else (if r1 = (45 : Int32) then (some ((-r2), S7)) else (if r2 = 0 then (some ((1 : Int32), S7)) else (some ((0 : Int32), S7)))))))) (fun k2 => (if r1 = (40 : Int32) then (sw_bd (fX9_takes N (41 : Int32) S5) (fun r3 S8 => (if r3 = 0 then (sw_bd (fX9_wrong N S8) (fun r4 S9 => (some (r4, S9)))) else (k2 S8)))) else (k2 S5))))))))))))) (fun k1 => (if r1 = (33 : Int32) then (k1 S1) else (if r1 = (45 : Int32) then (k1 S1) else (if r1 = (40 : Int32) then (k1 S1) else (sw_bd (fX9_nameOf N r1 S1) (fun r9 S16 => (if r9 < 0 then (sw_fx2 (fun rec1 x3_1 x4_1 S17 => (if x4_1 ≥ (4 : Int32) then (if x4_1 = 0 then (sw_bd (fX9_wrong N S17) (fun r10 S18 => (some (r10, S18)))) else (some (x3_1, S17))) else (sw_bd (fX9_byteAt N S17) (fun r11 S19 => (if r11 < (48 : Int32) then (if x4_1 = 0 then (sw_bd (fX9_wrong N S19) (fun r12 S20 => (some (r12, S20)))) else (some (x3_1, S19))) else (sw_bd (fX9_byteAt N S19) (fun r13 S21 => (if r13 > (57 : Int32) then (if x4_1 = 0 then (sw_bd (fX9_wrong N S21) (fun r14 S22 => (some (r14, S22)))) else (some (x3_1, S21))) else (sw_bd (fX9_byteAt N S21) (fun r15 S23 => (sw_li ((((10 : Int32) * x3_1) + r15) - (48 : Int32)) (fun x3_2 => (sw_ls (sw_si S23 105 12 ((S23.1 105 12) + (1 : Int32))) (fun S24 => (rec1 x3_2 (x4_1 + (1 : Int32)) S24))))))))))))))) N (0 : Int32) (0 : Int32) S16) else (sw_ls (sw_si S16 105 12 ((S16.1 105 12) + (1 : Int32))) (fun S25 => (sw_gd (sw_in r9 6) (some ((S25.1 112 r9.toNatClampNeg), S25))))))))))))))) else (some ((0 : Int32), S))
def kG_5 (G : sw_G) (d : Nat) (RR : Nat → Int32 → Int32 → Int32 → Int32 → sw_St → Option (Int32 × sw_St)) : Prop :=
  (∀ (a b c e : Int32) (S : sw_St), sw_Ev G yX9_either cX9_either 3 (some .int) d sw_ei [sw_vr G 105] S (RR 0 a b c e S)) ∧
  (∀ (a b c e : Int32) (S : sw_St), sw_Ev G yX9_both cX9_both 3 (some .int) d sw_ei [sw_vr G 105] S (RR 1 a b c e S)) ∧
  (∀ (a b c e : Int32) (S : sw_St), sw_Ev G yX9_compared cX9_compared 4 (some .int) d sw_ei [sw_vr G 105] S (RR 2 a b c e S)) ∧
  (∀ (a b c e : Int32) (S : sw_St), sw_Ev G yX9_sums cX9_sums 4 (some .int) d sw_ei [sw_vr G 105] S (RR 3 a b c e S)) ∧
  (∀ (a b c e : Int32) (S : sw_St), sw_Ev G yX9_product cX9_product 4 (some .int) d sw_ei [sw_vr G 105] S (RR 4 a b c e S)) ∧
  (∀ (a b c e : Int32) (S : sw_St), sw_Ev G yX9_one cX9_one 5 (some .int) d sw_ei [sw_vr G 105] S (RR 5 a b c e S))
def fG_5 (N : Nat) : Nat → Nat → Int32 → Int32 → Int32 → Int32 → sw_St → Option (Int32 × sw_St)
  | 0 => fun _ _ _ _ _ _ => none
  | n + 1 => fun t a b c e S => match t with
    | 0 => gX9_either N (fG_5 N n)  S
    | 1 => gX9_both N (fG_5 N n)  S
    | 2 => gX9_compared N (fG_5 N n)  S
    | 3 => gX9_sums N (fG_5 N n)  S
    | 4 => gX9_product N (fG_5 N n)  S
    | _ => gX9_one N (fG_5 N n)  S
theorem ogX9_either {G : sw_G} {N d : Nat} (hd : 3 ≤ d) {RR : Nat → Int32 → Int32 → Int32 → Int32 → sw_St → Option (Int32 × sw_St)} (hR : kG_5 G (d - 1) RR)  {S : sw_St} : sw_Ev G yX9_either cX9_either 3 (some .int) d sw_ei [sw_vr G 105] S (gX9_either N RR  S) := by
  refine sw_Ev_of (own := RX9) (lv0 := [some (sw_vr G 105), none, none]) (by decide) rfl (Nat.le_of_ble_eq_true rfl) rfl ?_
  unfold gX9_either
  refine sw_ald_3_0 (np := 1) dX9_either_0 rfl ?_
  refine sw_cV0i (np := 4) (hR.2.1 _ _ _ _ _) sw_mv_X9_both sw_k_105 sw_wl_RX9_168 dX9_either_1 (sw_fit_rm (by omega) (by decide)) (Nat.le_of_ble_eq_true rfl) rfl (fun r1 S1 => ?_)
  refine sw_ist_3_1 (np := 5) dX9_either_4 rfl rfl ?_
  refine sw_lp1 (lv := fun x1_1 => [some (sw_vr G 105), some (.int x1_1), none]) (fun rec1 hrec1 x1_1 S2 => ?_) _ _ _
  refine sw_ald_3_0 (np := 6) dX9_either_5 rfl ?_
  refine sw_bipush (np := 8) dX9_either_6 sw_bc_124 rfl ?_
  refine sw_cV1i (np := 11) (hX9_takes (d := d - 1) (by omega) ) sw_mv_X9_takes sw_k_105 sw_wl_RX9_171 dX9_either_8 (sw_fit_rm (by omega) (by decide)) (Nat.le_of_ble_eq_true rfl) rfl (fun r2 S3 => ?_)
  refine sw_if_eq (np := 14) (tp := 36) dX9_either_11 rfl rfl ?_ ?_
  · refine sw_ild_3_1 (np := 37) dX9_either_36 rfl ?_
    exact sw_iret dX9_either_37
  · refine sw_ald_3_0 (np := 15) dX9_either_14 rfl ?_
    refine sw_cV0i (np := 18) (hR.2.1 _ _ _ _ _) sw_mv_X9_both sw_k_105 sw_wl_RX9_168 dX9_either_15 (sw_fit_rm (by omega) (by decide)) (Nat.le_of_ble_eq_true rfl) rfl (fun r3 S4 => ?_)
    refine sw_ist_3_2 (np := 19) dX9_either_18 rfl rfl ?_
    refine sw_ild_3_1 (np := 20) dX9_either_19 rfl ?_
    refine sw_if_ne (np := 23) (tp := 27) dX9_either_20 rfl rfl ?_ ?_
    · refine sw_iconst (np := 28) dX9_either_27 sw_ic_1 rfl ?_
      refine sw_goto (tp := 32) dX9_either_28 rfl ?_
      refine sw_ist_3_1 (np := 33) dX9_either_32 rfl rfl ?_
      refine sw_goto (tp := 5) dX9_either_33 rfl ?_
      refine sw_dr_3_2 ?_
      exact hrec1 _ _
    · refine sw_ild_3_2 (np := 24) dX9_either_23 rfl ?_
      refine sw_if_eq (np := 27) (tp := 31) dX9_either_24 rfl rfl ?_ ?_
      · refine sw_iconst (np := 32) dX9_either_31 sw_ic_0 rfl ?_
        refine sw_ist_3_1 (np := 33) dX9_either_32 rfl rfl ?_
        refine sw_goto (tp := 5) dX9_either_33 rfl ?_
        refine sw_dr_3_2 ?_
        exact hrec1 _ _
      · refine sw_iconst (np := 28) dX9_either_27 sw_ic_1 rfl ?_
        refine sw_goto (tp := 32) dX9_either_28 rfl ?_
        refine sw_ist_3_1 (np := 33) dX9_either_32 rfl rfl ?_
        refine sw_goto (tp := 5) dX9_either_33 rfl ?_
        refine sw_dr_3_2 ?_
        exact hrec1 _ _
theorem ogX9_both {G : sw_G} {N d : Nat} (hd : 3 ≤ d) {RR : Nat → Int32 → Int32 → Int32 → Int32 → sw_St → Option (Int32 × sw_St)} (hR : kG_5 G (d - 1) RR)  {S : sw_St} : sw_Ev G yX9_both cX9_both 3 (some .int) d sw_ei [sw_vr G 105] S (gX9_both N RR  S) := by
  refine sw_Ev_of (own := RX9) (lv0 := [some (sw_vr G 105), none, none]) (by decide) rfl (Nat.le_of_ble_eq_true rfl) rfl ?_
  unfold gX9_both
  refine sw_ald_3_0 (np := 1) dX9_both_0 rfl ?_
  refine sw_cV0i (np := 4) (hR.2.2.1 _ _ _ _ _) sw_mv_X9_compared sw_k_105 sw_wl_RX9_174 dX9_both_1 (sw_fit_rm (by omega) (by decide)) (Nat.le_of_ble_eq_true rfl) rfl (fun r1 S1 => ?_)
  refine sw_ist_3_1 (np := 5) dX9_both_4 rfl rfl ?_
  refine sw_lp1 (lv := fun x1_1 => [some (sw_vr G 105), some (.int x1_1), none]) (fun rec1 hrec1 x1_1 S2 => ?_) _ _ _
  refine sw_ald_3_0 (np := 6) dX9_both_5 rfl ?_
  refine sw_bipush (np := 8) dX9_both_6 sw_bc_38 rfl ?_
  refine sw_cV1i (np := 11) (hX9_takes (d := d - 1) (by omega) ) sw_mv_X9_takes sw_k_105 sw_wl_RX9_171 dX9_both_8 (sw_fit_rm (by omega) (by decide)) (Nat.le_of_ble_eq_true rfl) rfl (fun r2 S3 => ?_)
  refine sw_if_eq (np := 14) (tp := 36) dX9_both_11 rfl rfl ?_ ?_
  · refine sw_ild_3_1 (np := 37) dX9_both_36 rfl ?_
    exact sw_iret dX9_both_37
  · refine sw_ald_3_0 (np := 15) dX9_both_14 rfl ?_
    refine sw_cV0i (np := 18) (hR.2.2.1 _ _ _ _ _) sw_mv_X9_compared sw_k_105 sw_wl_RX9_174 dX9_both_15 (sw_fit_rm (by omega) (by decide)) (Nat.le_of_ble_eq_true rfl) rfl (fun r3 S4 => ?_)
    refine sw_ist_3_2 (np := 19) dX9_both_18 rfl rfl ?_
    refine sw_ild_3_1 (np := 20) dX9_both_19 rfl ?_
    refine sw_if_eq (np := 23) (tp := 31) dX9_both_20 rfl rfl ?_ ?_
    · refine sw_iconst (np := 32) dX9_both_31 sw_ic_0 rfl ?_
      refine sw_ist_3_1 (np := 33) dX9_both_32 rfl rfl ?_
      refine sw_goto (tp := 5) dX9_both_33 rfl ?_
      refine sw_dr_3_2 ?_
      exact hrec1 _ _
    · refine sw_ild_3_2 (np := 24) dX9_both_23 rfl ?_
      refine sw_if_eq (np := 27) (tp := 31) dX9_both_24 rfl rfl ?_ ?_
      · refine sw_iconst (np := 32) dX9_both_31 sw_ic_0 rfl ?_
        refine sw_ist_3_1 (np := 33) dX9_both_32 rfl rfl ?_
        refine sw_goto (tp := 5) dX9_both_33 rfl ?_
        refine sw_dr_3_2 ?_
        exact hrec1 _ _
      · refine sw_iconst (np := 28) dX9_both_27 sw_ic_1 rfl ?_
        refine sw_goto (tp := 32) dX9_both_28 rfl ?_
        refine sw_ist_3_1 (np := 33) dX9_both_32 rfl rfl ?_
        refine sw_goto (tp := 5) dX9_both_33 rfl ?_
        refine sw_dr_3_2 ?_
        exact hrec1 _ _
theorem ogX9_compared {G : sw_G} {N d : Nat} (hd : 3 ≤ d) {RR : Nat → Int32 → Int32 → Int32 → Int32 → sw_St → Option (Int32 × sw_St)} (hR : kG_5 G (d - 1) RR)  {S : sw_St} : sw_Ev G yX9_compared cX9_compared 4 (some .int) d sw_ei [sw_vr G 105] S (gX9_compared N RR  S) := by
  refine sw_Ev_of (own := RX9) (lv0 := [some (sw_vr G 105), none, none, none]) (by decide) rfl (Nat.le_of_ble_eq_true rfl) rfl ?_
  unfold gX9_compared
  refine sw_ald_4_0 (np := 1) dX9_compared_0 rfl ?_
  refine sw_cV0i (np := 4) (hR.2.2.2.1 _ _ _ _ _) sw_mv_X9_sums sw_k_105 sw_wl_RX9_177 dX9_compared_1 (sw_fit_rm (by omega) (by decide)) (Nat.le_of_ble_eq_true rfl) rfl (fun r1 S1 => ?_)
  refine sw_ist_4_1 (np := 5) dX9_compared_4 rfl rfl ?_
  refine sw_ald_4_0 (np := 6) dX9_compared_5 rfl ?_
  refine sw_cV0i (np := 9) (hX9_byteAt (d := d - 1) (by omega) ) sw_mv_X9_byteAt sw_k_105 sw_wl_RX9_164 dX9_compared_6 (sw_fit_rm (by omega) (by decide)) (Nat.le_of_ble_eq_true rfl) rfl (fun r2 S2 => ?_)
  refine sw_ist_4_2 (np := 10) dX9_compared_9 rfl rfl ?_
  refine sw_ald_4_0 (np := 11) dX9_compared_10 rfl ?_
  refine sw_gI (np := 14) sw_f_RX9_161 sw_k_105 dX9_compared_11 rfl ?_
  refine sw_if_ge (np := 17) (tp := 35) dX9_compared_14 rfl rfl ?_ ?_
  · refine sw_ild_4_1 (np := 36) dX9_compared_35 rfl ?_
    exact sw_iret dX9_compared_36
  · refine sw_ild_4_2 (np := 18) dX9_compared_17 rfl ?_
    refine sw_bipush (np := 20) dX9_compared_18 sw_bc_60 rfl ?_
    refine sw_jm0 (pj := 37) ([some (sw_vr G 105), some (.int r1), some (.int r2), none]) ([]) (fun S3 => ?_) (fun k1 hk1 => ?_)
    · refine sw_ald_4_0 (np := 38) dX9_compared_37 rfl ?_
      refine sw_dup (np := 39) dX9_compared_38 rfl rfl ?_
      refine sw_gI (np := 42) sw_f_RX9_152 sw_k_105 dX9_compared_39 rfl ?_
      refine sw_iconst (np := 43) dX9_compared_42 sw_ic_1 rfl ?_
      refine sw_iadd (np := 44) dX9_compared_43 rfl ?_
      refine sw_pI (np := 47) sw_f_RX9_152 sw_fp_9_12 sw_k_105 dX9_compared_44 rfl (fun S4 => ?_)
      refine sw_ald_4_0 (np := 48) dX9_compared_47 rfl ?_
      refine sw_cV0i (np := 51) (hR.2.2.2.1 _ _ _ _ _) sw_mv_X9_sums sw_k_105 sw_wl_RX9_177 dX9_compared_48 (sw_fit_rm (by omega) (by decide)) (Nat.le_of_ble_eq_true rfl) rfl (fun r3 S5 => ?_)
      refine sw_ist_4_3 (np := 52) dX9_compared_51 rfl rfl ?_
      refine sw_ild_4_2 (np := 53) dX9_compared_52 rfl ?_
      refine sw_bipush (np := 55) dX9_compared_53 sw_bc_60 rfl ?_
      refine sw_icmp_ne (np := 58) (tp := 66) dX9_compared_55 rfl rfl ?_ ?_
      · refine sw_ild_4_2 (np := 67) dX9_compared_66 rfl ?_
        refine sw_bipush (np := 69) dX9_compared_67 sw_bc_61 rfl ?_
        refine sw_icmp_ne (np := 72) (tp := 80) dX9_compared_69 rfl rfl ?_ ?_
        · refine sw_ild_4_1 (np := 81) dX9_compared_80 rfl ?_
          refine sw_ild_4_3 (np := 82) dX9_compared_81 rfl ?_
          refine sw_icmp_le (np := 85) (tp := 89) dX9_compared_82 rfl rfl ?_ ?_
          · refine sw_iconst (np := 90) dX9_compared_89 sw_ic_0 rfl ?_
            exact sw_iret dX9_compared_90
          · refine sw_iconst (np := 86) dX9_compared_85 sw_ic_1 rfl ?_
            refine sw_goto (tp := 90) dX9_compared_86 rfl ?_
            exact sw_iret dX9_compared_90
        · refine sw_ild_4_1 (np := 73) dX9_compared_72 rfl ?_
          refine sw_ild_4_3 (np := 74) dX9_compared_73 rfl ?_
          refine sw_icmp_ne (np := 77) (tp := 89) dX9_compared_74 rfl rfl ?_ ?_
          · refine sw_iconst (np := 90) dX9_compared_89 sw_ic_0 rfl ?_
            exact sw_iret dX9_compared_90
          · refine sw_goto (tp := 85) dX9_compared_77 rfl ?_
            refine sw_iconst (np := 86) dX9_compared_85 sw_ic_1 rfl ?_
            refine sw_goto (tp := 90) dX9_compared_86 rfl ?_
            exact sw_iret dX9_compared_90
      · refine sw_ild_4_1 (np := 59) dX9_compared_58 rfl ?_
        refine sw_ild_4_3 (np := 60) dX9_compared_59 rfl ?_
        refine sw_icmp_ge (np := 63) (tp := 89) dX9_compared_60 rfl rfl ?_ ?_
        · refine sw_iconst (np := 90) dX9_compared_89 sw_ic_0 rfl ?_
          exact sw_iret dX9_compared_90
        · refine sw_goto (tp := 85) dX9_compared_63 rfl ?_
          refine sw_iconst (np := 86) dX9_compared_85 sw_ic_1 rfl ?_
          refine sw_goto (tp := 90) dX9_compared_86 rfl ?_
          exact sw_iret dX9_compared_90
    · refine sw_icmp_eq (np := 23) (tp := 37) dX9_compared_20 rfl rfl ?_ ?_
      · exact hk1 _
      · refine sw_ild_4_2 (np := 24) dX9_compared_23 rfl ?_
        refine sw_bipush (np := 26) dX9_compared_24 sw_bc_61 rfl ?_
        refine sw_icmp_eq (np := 29) (tp := 37) dX9_compared_26 rfl rfl ?_ ?_
        · exact hk1 _
        · refine sw_ild_4_2 (np := 30) dX9_compared_29 rfl ?_
          refine sw_bipush (np := 32) dX9_compared_30 sw_bc_62 rfl ?_
          refine sw_icmp_eq (np := 35) (tp := 37) dX9_compared_32 rfl rfl ?_ ?_
          · exact hk1 _
          · refine sw_ild_4_1 (np := 36) dX9_compared_35 rfl ?_
            exact sw_iret dX9_compared_36
theorem ogX9_sums {G : sw_G} {N d : Nat} (hd : 3 ≤ d) {RR : Nat → Int32 → Int32 → Int32 → Int32 → sw_St → Option (Int32 × sw_St)} (hR : kG_5 G (d - 1) RR)  {S : sw_St} : sw_Ev G yX9_sums cX9_sums 4 (some .int) d sw_ei [sw_vr G 105] S (gX9_sums N RR  S) := by
  refine sw_Ev_of (own := RX9) (lv0 := [some (sw_vr G 105), none, none, none]) (by decide) rfl (Nat.le_of_ble_eq_true rfl) rfl ?_
  unfold gX9_sums
  refine sw_ald_4_0 (np := 1) dX9_sums_0 rfl ?_
  refine sw_cV0i (np := 4) (hR.2.2.2.2.1 _ _ _ _ _) sw_mv_X9_product sw_k_105 sw_wl_RX9_180 dX9_sums_1 (sw_fit_rm (by omega) (by decide)) (Nat.le_of_ble_eq_true rfl) rfl (fun r1 S1 => ?_)
  refine sw_ist_4_1 (np := 5) dX9_sums_4 rfl rfl ?_
  refine sw_lp1 (lv := fun x1_1 => [some (sw_vr G 105), some (.int x1_1), none, none]) (fun rec1 hrec1 x1_1 S2 => ?_) _ _ _
  refine sw_ald_4_0 (np := 6) dX9_sums_5 rfl ?_
  refine sw_gI (np := 9) sw_f_RX9_161 sw_k_105 dX9_sums_6 rfl ?_
  refine sw_if_ge (np := 12) (tp := 77) dX9_sums_9 rfl rfl ?_ ?_
  · refine sw_ild_4_1 (np := 78) dX9_sums_77 rfl ?_
    exact sw_iret dX9_sums_78
  · refine sw_ald_4_0 (np := 13) dX9_sums_12 rfl ?_
    refine sw_cV0i (np := 16) (hX9_byteAt (d := d - 1) (by omega) ) sw_mv_X9_byteAt sw_k_105 sw_wl_RX9_164 dX9_sums_13 (sw_fit_rm (by omega) (by decide)) (Nat.le_of_ble_eq_true rfl) rfl (fun r2 S3 => ?_)
    refine sw_bipush (np := 18) dX9_sums_16 sw_bc_43 rfl ?_
    refine sw_icmp_eq (np := 21) (tp := 30) dX9_sums_18 rfl rfl ?_ ?_
    · refine sw_ald_4_0 (np := 31) dX9_sums_30 rfl ?_
      refine sw_cV0i (np := 34) (hX9_byteAt (d := d - 1) (by omega) ) sw_mv_X9_byteAt sw_k_105 sw_wl_RX9_164 dX9_sums_31 (sw_fit_rm (by omega) (by decide)) (Nat.le_of_ble_eq_true rfl) rfl (fun r3 S4 => ?_)
      refine sw_bipush (np := 36) dX9_sums_34 sw_bc_43 rfl ?_
      refine sw_jm1 (pj := 44) (fun y1 => [some (sw_vr G 105), some (.int x1_1), none, none]) (fun y1 => [.int y1]) (fun y1 S5 => ?_) (fun k1 hk1 => ?_)
      · refine sw_ist_4_2 (np := 45) dX9_sums_44 rfl rfl ?_
        refine sw_ald_4_0 (np := 46) dX9_sums_45 rfl ?_
        refine sw_dup (np := 47) dX9_sums_46 rfl rfl ?_
        refine sw_gI (np := 50) sw_f_RX9_152 sw_k_105 dX9_sums_47 rfl ?_
        refine sw_iconst (np := 51) dX9_sums_50 sw_ic_1 rfl ?_
        refine sw_iadd (np := 52) dX9_sums_51 rfl ?_
        refine sw_pI (np := 55) sw_f_RX9_152 sw_fp_9_12 sw_k_105 dX9_sums_52 rfl (fun S6 => ?_)
        refine sw_ald_4_0 (np := 56) dX9_sums_55 rfl ?_
        refine sw_cV0i (np := 59) (hR.2.2.2.2.1 _ _ _ _ _) sw_mv_X9_product sw_k_105 sw_wl_RX9_180 dX9_sums_56 (sw_fit_rm (by omega) (by decide)) (Nat.le_of_ble_eq_true rfl) rfl (fun r4 S7 => ?_)
        refine sw_ist_4_3 (np := 60) dX9_sums_59 rfl rfl ?_
        refine sw_ild_4_2 (np := 61) dX9_sums_60 rfl ?_
        refine sw_if_eq (np := 64) (tp := 70) dX9_sums_61 rfl rfl ?_ ?_
        · refine sw_ild_4_1 (np := 71) dX9_sums_70 rfl ?_
          refine sw_ild_4_3 (np := 72) dX9_sums_71 rfl ?_
          refine sw_isub (np := 73) dX9_sums_72 rfl ?_
          refine sw_isl_4_1 (np := 74) dX9_sums_73 rfl rfl (fun x1_2 => ?_)
          refine sw_goto (tp := 5) dX9_sums_74 rfl ?_
          refine sw_dr_4_2 ?_
          refine sw_dr_4_3 ?_
          exact hrec1 _ _
        · refine sw_ild_4_1 (np := 65) dX9_sums_64 rfl ?_
          refine sw_ild_4_3 (np := 66) dX9_sums_65 rfl ?_
          refine sw_iadd (np := 67) dX9_sums_66 rfl ?_
          refine sw_goto (tp := 73) dX9_sums_67 rfl ?_
          refine sw_isl_4_1 (np := 74) dX9_sums_73 rfl rfl (fun x1_3 => ?_)
          refine sw_goto (tp := 5) dX9_sums_74 rfl ?_
          refine sw_dr_4_2 ?_
          refine sw_dr_4_3 ?_
          exact hrec1 _ _
      · refine sw_icmp_ne (np := 39) (tp := 43) dX9_sums_36 rfl rfl ?_ ?_
        · refine sw_iconst (np := 44) dX9_sums_43 sw_ic_0 rfl ?_
          exact hk1 _ _
        · refine sw_iconst (np := 40) dX9_sums_39 sw_ic_1 rfl ?_
          refine sw_goto (tp := 44) dX9_sums_40 rfl ?_
          exact hk1 _ _
    · refine sw_ald_4_0 (np := 22) dX9_sums_21 rfl ?_
      refine sw_cV0i (np := 25) (hX9_byteAt (d := d - 1) (by omega) ) sw_mv_X9_byteAt sw_k_105 sw_wl_RX9_164 dX9_sums_22 (sw_fit_rm (by omega) (by decide)) (Nat.le_of_ble_eq_true rfl) rfl (fun r5 S8 => ?_)
      refine sw_bipush (np := 27) dX9_sums_25 sw_bc_45 rfl ?_
      refine sw_icmp_ne (np := 30) (tp := 77) dX9_sums_27 rfl rfl ?_ ?_
      · refine sw_ild_4_1 (np := 78) dX9_sums_77 rfl ?_
        exact sw_iret dX9_sums_78
      · refine sw_ald_4_0 (np := 31) dX9_sums_30 rfl ?_
        refine sw_cV0i (np := 34) (hX9_byteAt (d := d - 1) (by omega) ) sw_mv_X9_byteAt sw_k_105 sw_wl_RX9_164 dX9_sums_31 (sw_fit_rm (by omega) (by decide)) (Nat.le_of_ble_eq_true rfl) rfl (fun r6 S9 => ?_)
        refine sw_bipush (np := 36) dX9_sums_34 sw_bc_43 rfl ?_
        refine sw_jm1 (pj := 44) (fun y2 => [some (sw_vr G 105), some (.int x1_1), none, none]) (fun y2 => [.int y2]) (fun y2 S10 => ?_) (fun k2 hk2 => ?_)
        · refine sw_ist_4_2 (np := 45) dX9_sums_44 rfl rfl ?_
          refine sw_ald_4_0 (np := 46) dX9_sums_45 rfl ?_
          refine sw_dup (np := 47) dX9_sums_46 rfl rfl ?_
          refine sw_gI (np := 50) sw_f_RX9_152 sw_k_105 dX9_sums_47 rfl ?_
          refine sw_iconst (np := 51) dX9_sums_50 sw_ic_1 rfl ?_
          refine sw_iadd (np := 52) dX9_sums_51 rfl ?_
          refine sw_pI (np := 55) sw_f_RX9_152 sw_fp_9_12 sw_k_105 dX9_sums_52 rfl (fun S11 => ?_)
          refine sw_ald_4_0 (np := 56) dX9_sums_55 rfl ?_
          refine sw_cV0i (np := 59) (hR.2.2.2.2.1 _ _ _ _ _) sw_mv_X9_product sw_k_105 sw_wl_RX9_180 dX9_sums_56 (sw_fit_rm (by omega) (by decide)) (Nat.le_of_ble_eq_true rfl) rfl (fun r7 S12 => ?_)
          refine sw_ist_4_3 (np := 60) dX9_sums_59 rfl rfl ?_
          refine sw_ild_4_2 (np := 61) dX9_sums_60 rfl ?_
          refine sw_if_eq (np := 64) (tp := 70) dX9_sums_61 rfl rfl ?_ ?_
          · refine sw_ild_4_1 (np := 71) dX9_sums_70 rfl ?_
            refine sw_ild_4_3 (np := 72) dX9_sums_71 rfl ?_
            refine sw_isub (np := 73) dX9_sums_72 rfl ?_
            refine sw_isl_4_1 (np := 74) dX9_sums_73 rfl rfl (fun x1_4 => ?_)
            refine sw_goto (tp := 5) dX9_sums_74 rfl ?_
            refine sw_dr_4_2 ?_
            refine sw_dr_4_3 ?_
            exact hrec1 _ _
          · refine sw_ild_4_1 (np := 65) dX9_sums_64 rfl ?_
            refine sw_ild_4_3 (np := 66) dX9_sums_65 rfl ?_
            refine sw_iadd (np := 67) dX9_sums_66 rfl ?_
            refine sw_goto (tp := 73) dX9_sums_67 rfl ?_
            refine sw_isl_4_1 (np := 74) dX9_sums_73 rfl rfl (fun x1_5 => ?_)
            refine sw_goto (tp := 5) dX9_sums_74 rfl ?_
            refine sw_dr_4_2 ?_
            refine sw_dr_4_3 ?_
            exact hrec1 _ _
        · refine sw_icmp_ne (np := 39) (tp := 43) dX9_sums_36 rfl rfl ?_ ?_
          · refine sw_iconst (np := 44) dX9_sums_43 sw_ic_0 rfl ?_
            exact hk2 _ _
          · refine sw_iconst (np := 40) dX9_sums_39 sw_ic_1 rfl ?_
            refine sw_goto (tp := 44) dX9_sums_40 rfl ?_
            exact hk2 _ _
theorem ogX9_product {G : sw_G} {N d : Nat} (hd : 3 ≤ d) {RR : Nat → Int32 → Int32 → Int32 → Int32 → sw_St → Option (Int32 × sw_St)} (hR : kG_5 G (d - 1) RR)  {S : sw_St} : sw_Ev G yX9_product cX9_product 4 (some .int) d sw_ei [sw_vr G 105] S (gX9_product N RR  S) := by
  refine sw_Ev_of (own := RX9) (lv0 := [some (sw_vr G 105), none, none, none]) (by decide) rfl (Nat.le_of_ble_eq_true rfl) rfl ?_
  unfold gX9_product
  refine sw_ald_4_0 (np := 1) dX9_product_0 rfl ?_
  refine sw_cV0i (np := 4) (hR.2.2.2.2.2 _ _ _ _ _) sw_mv_X9_one sw_k_105 sw_wl_RX9_183 dX9_product_1 (sw_fit_rm (by omega) (by decide)) (Nat.le_of_ble_eq_true rfl) rfl (fun r1 S1 => ?_)
  refine sw_ist_4_1 (np := 5) dX9_product_4 rfl rfl ?_
  refine sw_ald_4_0 (np := 6) dX9_product_5 rfl ?_
  refine sw_cV0i (np := 9) (hX9_byteAt (d := d - 1) (by omega) ) sw_mv_X9_byteAt sw_k_105 sw_wl_RX9_164 dX9_product_6 (sw_fit_rm (by omega) (by decide)) (Nat.le_of_ble_eq_true rfl) rfl (fun r2 S2 => ?_)
  refine sw_ist_4_2 (np := 10) dX9_product_9 rfl rfl ?_
  refine sw_lp2 (lv := fun x1_1 x2_1 => [some (sw_vr G 105), some (.int x1_1), some (.int x2_1), none]) (fun rec1 hrec1 x1_1 x2_1 S3 => ?_) _ _ _ _
  refine sw_ald_4_0 (np := 11) dX9_product_10 rfl ?_
  refine sw_gI (np := 14) sw_f_RX9_161 sw_k_105 dX9_product_11 rfl ?_
  refine sw_if_ge (np := 17) (tp := 94) dX9_product_14 rfl rfl ?_ ?_
  · refine sw_ild_4_1 (np := 95) dX9_product_94 rfl ?_
    exact sw_iret dX9_product_95
  · refine sw_ild_4_2 (np := 18) dX9_product_17 rfl ?_
    refine sw_bipush (np := 20) dX9_product_18 sw_bc_42 rfl ?_
    refine sw_jm0 (pj := 35) ([some (sw_vr G 105), some (.int x1_1), some (.int x2_1), none]) ([]) (fun S4 => ?_) (fun k1 hk1 => ?_)
    · refine sw_ald_4_0 (np := 36) dX9_product_35 rfl ?_
      refine sw_dup (np := 37) dX9_product_36 rfl rfl ?_
      refine sw_gI (np := 40) sw_f_RX9_152 sw_k_105 dX9_product_37 rfl ?_
      refine sw_iconst (np := 41) dX9_product_40 sw_ic_1 rfl ?_
      refine sw_iadd (np := 42) dX9_product_41 rfl ?_
      refine sw_pI (np := 45) sw_f_RX9_152 sw_fp_9_12 sw_k_105 dX9_product_42 rfl (fun S5 => ?_)
      refine sw_ald_4_0 (np := 46) dX9_product_45 rfl ?_
      refine sw_cV0i (np := 49) (hR.2.2.2.2.2 _ _ _ _ _) sw_mv_X9_one sw_k_105 sw_wl_RX9_183 dX9_product_46 (sw_fit_rm (by omega) (by decide)) (Nat.le_of_ble_eq_true rfl) rfl (fun r3 S6 => ?_)
      refine sw_ist_4_3 (np := 50) dX9_product_49 rfl rfl ?_
      refine sw_ild_4_2 (np := 51) dX9_product_50 rfl ?_
      refine sw_bipush (np := 53) dX9_product_51 sw_bc_42 rfl ?_
      refine sw_icmp_ne (np := 56) (tp := 62) dX9_product_53 rfl rfl ?_ ?_
      · refine sw_ild_4_3 (np := 63) dX9_product_62 rfl ?_
        refine sw_if_ne (np := 66) (tp := 70) dX9_product_63 rfl rfl ?_ ?_
        · refine sw_ild_4_2 (np := 71) dX9_product_70 rfl ?_
          refine sw_bipush (np := 73) dX9_product_71 sw_bc_47 rfl ?_
          refine sw_icmp_ne (np := 76) (tp := 82) dX9_product_73 rfl rfl ?_ ?_
          · refine sw_ild_4_1 (np := 83) dX9_product_82 rfl ?_
            refine sw_ild_4_3 (np := 84) dX9_product_83 rfl ?_
            refine sw_iremG (np := 85) dX9_product_84 rfl ?_
            refine sw_isl_4_1 (np := 86) dX9_product_85 rfl rfl (fun x1_2 => ?_)
            refine sw_ald_4_0 (np := 87) dX9_product_86 rfl ?_
            refine sw_cV0i (np := 90) (hX9_byteAt (d := d - 1) (by omega) ) sw_mv_X9_byteAt sw_k_105 sw_wl_RX9_164 dX9_product_87 (sw_fit_rm (by omega) (by decide)) (Nat.le_of_ble_eq_true rfl) rfl (fun r4 S7 => ?_)
            refine sw_ist_4_2 (np := 91) dX9_product_90 rfl rfl ?_
            refine sw_goto (tp := 10) dX9_product_91 rfl ?_
            refine sw_dr_4_3 ?_
            exact hrec1 _ _ _
          · refine sw_ild_4_1 (np := 77) dX9_product_76 rfl ?_
            refine sw_ild_4_3 (np := 78) dX9_product_77 rfl ?_
            refine sw_idivG (np := 79) dX9_product_78 rfl ?_
            refine sw_goto (tp := 85) dX9_product_79 rfl ?_
            refine sw_isl_4_1 (np := 86) dX9_product_85 rfl rfl (fun x1_3 => ?_)
            refine sw_ald_4_0 (np := 87) dX9_product_86 rfl ?_
            refine sw_cV0i (np := 90) (hX9_byteAt (d := d - 1) (by omega) ) sw_mv_X9_byteAt sw_k_105 sw_wl_RX9_164 dX9_product_87 (sw_fit_rm (by omega) (by decide)) (Nat.le_of_ble_eq_true rfl) rfl (fun r5 S8 => ?_)
            refine sw_ist_4_2 (np := 91) dX9_product_90 rfl rfl ?_
            refine sw_goto (tp := 10) dX9_product_91 rfl ?_
            refine sw_dr_4_3 ?_
            exact hrec1 _ _ _
        · refine sw_iconst (np := 67) dX9_product_66 sw_ic_0 rfl ?_
          refine sw_goto (tp := 85) dX9_product_67 rfl ?_
          refine sw_ist_4_1 (np := 86) dX9_product_85 rfl rfl ?_
          refine sw_ald_4_0 (np := 87) dX9_product_86 rfl ?_
          refine sw_cV0i (np := 90) (hX9_byteAt (d := d - 1) (by omega) ) sw_mv_X9_byteAt sw_k_105 sw_wl_RX9_164 dX9_product_87 (sw_fit_rm (by omega) (by decide)) (Nat.le_of_ble_eq_true rfl) rfl (fun r6 S9 => ?_)
          refine sw_ist_4_2 (np := 91) dX9_product_90 rfl rfl ?_
          refine sw_goto (tp := 10) dX9_product_91 rfl ?_
          refine sw_dr_4_3 ?_
          exact hrec1 _ _ _
      · refine sw_ild_4_1 (np := 57) dX9_product_56 rfl ?_
        refine sw_ild_4_3 (np := 58) dX9_product_57 rfl ?_
        refine sw_imul (np := 59) dX9_product_58 rfl ?_
        refine sw_goto (tp := 85) dX9_product_59 rfl ?_
        refine sw_isl_4_1 (np := 86) dX9_product_85 rfl rfl (fun x1_4 => ?_)
        refine sw_ald_4_0 (np := 87) dX9_product_86 rfl ?_
        refine sw_cV0i (np := 90) (hX9_byteAt (d := d - 1) (by omega) ) sw_mv_X9_byteAt sw_k_105 sw_wl_RX9_164 dX9_product_87 (sw_fit_rm (by omega) (by decide)) (Nat.le_of_ble_eq_true rfl) rfl (fun r7 S10 => ?_)
        refine sw_ist_4_2 (np := 91) dX9_product_90 rfl rfl ?_
        refine sw_goto (tp := 10) dX9_product_91 rfl ?_
        refine sw_dr_4_3 ?_
        exact hrec1 _ _ _
    · refine sw_icmp_eq (np := 23) (tp := 35) dX9_product_20 rfl rfl ?_ ?_
      · exact hk1 _
      · refine sw_ild_4_2 (np := 24) dX9_product_23 rfl ?_
        refine sw_bipush (np := 26) dX9_product_24 sw_bc_47 rfl ?_
        refine sw_icmp_eq (np := 29) (tp := 35) dX9_product_26 rfl rfl ?_ ?_
        · exact hk1 _
        · refine sw_ild_4_2 (np := 30) dX9_product_29 rfl ?_
          refine sw_bipush (np := 32) dX9_product_30 sw_bc_37 rfl ?_
          refine sw_icmp_ne (np := 35) (tp := 94) dX9_product_32 rfl rfl ?_ ?_
          · refine sw_ild_4_1 (np := 95) dX9_product_94 rfl ?_
            exact sw_iret dX9_product_95
          · exact hk1 _
theorem ogX9_one {G : sw_G} {N d : Nat} (hd : 3 ≤ d) {RR : Nat → Int32 → Int32 → Int32 → Int32 → sw_St → Option (Int32 × sw_St)} (hR : kG_5 G (d - 1) RR)  {S : sw_St} : sw_Ev G yX9_one cX9_one 5 (some .int) d sw_ei [sw_vr G 105] S (gX9_one N RR  S) := by
  refine sw_Ev_of (own := RX9) (lv0 := [some (sw_vr G 105), none, none, none, none]) (by decide) rfl (Nat.le_of_ble_eq_true rfl) rfl ?_
  unfold gX9_one
  refine sw_ald_5_0 (np := 1) dX9_one_0 rfl ?_
  refine sw_gI (np := 4) sw_f_RX9_161 sw_k_105 dX9_one_1 rfl ?_
  refine sw_if_lt (np := 7) (tp := 9) dX9_one_4 rfl rfl ?_ ?_
  · refine sw_ald_5_0 (np := 10) dX9_one_9 rfl ?_
    refine sw_cV0i (np := 13) (hX9_byteAt (d := d - 1) (by omega) ) sw_mv_X9_byteAt sw_k_105 sw_wl_RX9_164 dX9_one_10 (sw_fit_rm (by omega) (by decide)) (Nat.le_of_ble_eq_true rfl) rfl (fun r1 S1 => ?_)
    refine sw_ist_5_1 (np := 14) dX9_one_13 rfl rfl ?_
    refine sw_ild_5_1 (np := 15) dX9_one_14 rfl ?_
    refine sw_bipush (np := 17) dX9_one_15 sw_bc_33 rfl ?_
    refine sw_jm0 (pj := 32) ([some (sw_vr G 105), some (.int r1), none, none, none]) ([]) (fun S2 => ?_) (fun k1 hk1 => ?_)
    · refine sw_ald_5_0 (np := 33) dX9_one_32 rfl ?_
      refine sw_gI (np := 36) sw_f_RX9_186 sw_k_105 dX9_one_33 rfl ?_
      refine sw_bipush (np := 38) dX9_one_36 sw_bc_6 rfl ?_
      refine sw_icmp_ne (np := 41) (tp := 46) dX9_one_38 rfl rfl ?_ ?_
      · refine sw_ald_5_0 (np := 47) dX9_one_46 rfl ?_
        refine sw_dup (np := 48) dX9_one_47 rfl rfl ?_
        refine sw_gI (np := 51) sw_f_RX9_186 sw_k_105 dX9_one_48 rfl ?_
        refine sw_iconst (np := 52) dX9_one_51 sw_ic_1 rfl ?_
        refine sw_iadd (np := 53) dX9_one_52 rfl ?_
        refine sw_pI (np := 56) sw_f_RX9_186 sw_fp_9_15 sw_k_105 dX9_one_53 rfl (fun S3 => ?_)
        refine sw_ald_5_0 (np := 57) dX9_one_56 rfl ?_
        refine sw_dup (np := 58) dX9_one_57 rfl rfl ?_
        refine sw_gI (np := 61) sw_f_RX9_152 sw_k_105 dX9_one_58 rfl ?_
        refine sw_iconst (np := 62) dX9_one_61 sw_ic_1 rfl ?_
        refine sw_iadd (np := 63) dX9_one_62 rfl ?_
        refine sw_pI (np := 66) sw_f_RX9_152 sw_fp_9_12 sw_k_105 dX9_one_63 rfl (fun S4 => ?_)
        refine sw_ild_5_1 (np := 67) dX9_one_66 rfl ?_
        refine sw_bipush (np := 69) dX9_one_67 sw_bc_40 rfl ?_
        refine sw_icmp_ne (np := 72) (tp := 79) dX9_one_69 rfl rfl ?_ ?_
        · refine sw_ald_5_0 (np := 80) dX9_one_79 rfl ?_
          refine sw_cV0i (np := 83) (hR.2.2.2.2.2 _ _ _ _ _) sw_mv_X9_one sw_k_105 sw_wl_RX9_183 dX9_one_80 (sw_fit_rm (by omega) (by decide)) (Nat.le_of_ble_eq_true rfl) rfl (fun r2 S5 => ?_)
          refine sw_ist_5_2 (np := 84) dX9_one_83 rfl rfl ?_
          refine sw_ild_5_1 (np := 85) dX9_one_84 rfl ?_
          refine sw_bipush (np := 87) dX9_one_85 sw_bc_40 rfl ?_
          refine sw_jm0 (pj := 104) ([some (sw_vr G 105), some (.int r1), some (.int r2), none, none]) ([]) (fun S6 => ?_) (fun k2 hk2 => ?_)
          · refine sw_ald_5_0 (np := 105) dX9_one_104 rfl ?_
            refine sw_dup (np := 106) dX9_one_105 rfl rfl ?_
            refine sw_gI (np := 109) sw_f_RX9_186 sw_k_105 dX9_one_106 rfl ?_
            refine sw_iconst (np := 110) dX9_one_109 sw_ic_1 rfl ?_
            refine sw_isub (np := 111) dX9_one_110 rfl ?_
            refine sw_pI (np := 114) sw_f_RX9_186 sw_fp_9_15 sw_k_105 dX9_one_111 rfl (fun S7 => ?_)
            refine sw_ild_5_1 (np := 115) dX9_one_114 rfl ?_
            refine sw_bipush (np := 117) dX9_one_115 sw_bc_40 rfl ?_
            refine sw_icmp_ne (np := 120) (tp := 124) dX9_one_117 rfl rfl ?_ ?_
            · refine sw_ild_5_1 (np := 125) dX9_one_124 rfl ?_
              refine sw_bipush (np := 127) dX9_one_125 sw_bc_45 rfl ?_
              refine sw_icmp_ne (np := 130) (tp := 135) dX9_one_127 rfl rfl ?_ ?_
              · refine sw_ild_5_2 (np := 136) dX9_one_135 rfl ?_
                refine sw_if_ne (np := 139) (tp := 143) dX9_one_136 rfl rfl ?_ ?_
                · refine sw_iconst (np := 144) dX9_one_143 sw_ic_0 rfl ?_
                  exact sw_iret dX9_one_144
                · refine sw_iconst (np := 140) dX9_one_139 sw_ic_1 rfl ?_
                  refine sw_goto (tp := 144) dX9_one_140 rfl ?_
                  exact sw_iret dX9_one_144
              · refine sw_ild_5_2 (np := 131) dX9_one_130 rfl ?_
                refine sw_ineg (np := 132) dX9_one_131 rfl ?_
                refine sw_goto (tp := 144) dX9_one_132 rfl ?_
                exact sw_iret dX9_one_144
            · refine sw_ild_5_2 (np := 121) dX9_one_120 rfl ?_
              refine sw_goto (tp := 144) dX9_one_121 rfl ?_
              exact sw_iret dX9_one_144
          · refine sw_icmp_ne (np := 90) (tp := 104) dX9_one_87 rfl rfl ?_ ?_
            · exact hk2 _
            · refine sw_ald_5_0 (np := 91) dX9_one_90 rfl ?_
              refine sw_bipush (np := 93) dX9_one_91 sw_bc_41 rfl ?_
              refine sw_cV1i (np := 96) (hX9_takes (d := d - 1) (by omega) ) sw_mv_X9_takes sw_k_105 sw_wl_RX9_171 dX9_one_93 (sw_fit_rm (by omega) (by decide)) (Nat.le_of_ble_eq_true rfl) rfl (fun r3 S8 => ?_)
              refine sw_if_ne (np := 99) (tp := 104) dX9_one_96 rfl rfl ?_ ?_
              · exact hk2 _
              · refine sw_ald_5_0 (np := 100) dX9_one_99 rfl ?_
                refine sw_cV0i (np := 103) (hX9_wrong (d := d - 1) (by omega) ) sw_mv_X9_wrong sw_k_105 sw_wl_RX9_189 dX9_one_100 (sw_fit_rm (by omega) (by decide)) (Nat.le_of_ble_eq_true rfl) rfl (fun r4 S9 => ?_)
                exact sw_iret dX9_one_103
        · refine sw_ald_5_0 (np := 73) dX9_one_72 rfl ?_
          refine sw_cV0i (np := 76) (hR.1 _ _ _ _ _) sw_mv_X9_either sw_k_105 sw_wl_RX9_192 dX9_one_73 (sw_fit_rm (by omega) (by decide)) (Nat.le_of_ble_eq_true rfl) rfl (fun r5 S10 => ?_)
          refine sw_goto (tp := 83) dX9_one_76 rfl ?_
          refine sw_ist_5_2 (np := 84) dX9_one_83 rfl rfl ?_
          refine sw_ild_5_1 (np := 85) dX9_one_84 rfl ?_
          refine sw_bipush (np := 87) dX9_one_85 sw_bc_40 rfl ?_
          refine sw_jm0 (pj := 104) ([some (sw_vr G 105), some (.int r1), some (.int r5), none, none]) ([]) (fun S11 => ?_) (fun k3 hk3 => ?_)
          · refine sw_ald_5_0 (np := 105) dX9_one_104 rfl ?_
            refine sw_dup (np := 106) dX9_one_105 rfl rfl ?_
            refine sw_gI (np := 109) sw_f_RX9_186 sw_k_105 dX9_one_106 rfl ?_
            refine sw_iconst (np := 110) dX9_one_109 sw_ic_1 rfl ?_
            refine sw_isub (np := 111) dX9_one_110 rfl ?_
            refine sw_pI (np := 114) sw_f_RX9_186 sw_fp_9_15 sw_k_105 dX9_one_111 rfl (fun S12 => ?_)
            refine sw_ild_5_1 (np := 115) dX9_one_114 rfl ?_
            refine sw_bipush (np := 117) dX9_one_115 sw_bc_40 rfl ?_
            refine sw_icmp_ne (np := 120) (tp := 124) dX9_one_117 rfl rfl ?_ ?_
            · refine sw_ild_5_1 (np := 125) dX9_one_124 rfl ?_
              refine sw_bipush (np := 127) dX9_one_125 sw_bc_45 rfl ?_
              refine sw_icmp_ne (np := 130) (tp := 135) dX9_one_127 rfl rfl ?_ ?_
              · refine sw_ild_5_2 (np := 136) dX9_one_135 rfl ?_
                refine sw_if_ne (np := 139) (tp := 143) dX9_one_136 rfl rfl ?_ ?_
                · refine sw_iconst (np := 144) dX9_one_143 sw_ic_0 rfl ?_
                  exact sw_iret dX9_one_144
                · refine sw_iconst (np := 140) dX9_one_139 sw_ic_1 rfl ?_
                  refine sw_goto (tp := 144) dX9_one_140 rfl ?_
                  exact sw_iret dX9_one_144
              · refine sw_ild_5_2 (np := 131) dX9_one_130 rfl ?_
                refine sw_ineg (np := 132) dX9_one_131 rfl ?_
                refine sw_goto (tp := 144) dX9_one_132 rfl ?_
                exact sw_iret dX9_one_144
            · refine sw_ild_5_2 (np := 121) dX9_one_120 rfl ?_
              refine sw_goto (tp := 144) dX9_one_121 rfl ?_
              exact sw_iret dX9_one_144
          · refine sw_icmp_ne (np := 90) (tp := 104) dX9_one_87 rfl rfl ?_ ?_
            · exact hk3 _
            · refine sw_ald_5_0 (np := 91) dX9_one_90 rfl ?_
              refine sw_bipush (np := 93) dX9_one_91 sw_bc_41 rfl ?_
              refine sw_cV1i (np := 96) (hX9_takes (d := d - 1) (by omega) ) sw_mv_X9_takes sw_k_105 sw_wl_RX9_171 dX9_one_93 (sw_fit_rm (by omega) (by decide)) (Nat.le_of_ble_eq_true rfl) rfl (fun r6 S13 => ?_)
              refine sw_if_ne (np := 99) (tp := 104) dX9_one_96 rfl rfl ?_ ?_
              · exact hk3 _
              · refine sw_ald_5_0 (np := 100) dX9_one_99 rfl ?_
                refine sw_cV0i (np := 103) (hX9_wrong (d := d - 1) (by omega) ) sw_mv_X9_wrong sw_k_105 sw_wl_RX9_189 dX9_one_100 (sw_fit_rm (by omega) (by decide)) (Nat.le_of_ble_eq_true rfl) rfl (fun r7 S14 => ?_)
                exact sw_iret dX9_one_103
      · refine sw_ald_5_0 (np := 42) dX9_one_41 rfl ?_
        refine sw_cV0i (np := 45) (hX9_wrong (d := d - 1) (by omega) ) sw_mv_X9_wrong sw_k_105 sw_wl_RX9_189 dX9_one_42 (sw_fit_rm (by omega) (by decide)) (Nat.le_of_ble_eq_true rfl) rfl (fun r8 S15 => ?_)
        exact sw_iret dX9_one_45
    · refine sw_icmp_eq (np := 20) (tp := 32) dX9_one_17 rfl rfl ?_ ?_
      · exact hk1 _
      · refine sw_ild_5_1 (np := 21) dX9_one_20 rfl ?_
        refine sw_bipush (np := 23) dX9_one_21 sw_bc_45 rfl ?_
        refine sw_icmp_eq (np := 26) (tp := 32) dX9_one_23 rfl rfl ?_ ?_
        · exact hk1 _
        · refine sw_ild_5_1 (np := 27) dX9_one_26 rfl ?_
          refine sw_bipush (np := 29) dX9_one_27 sw_bc_40 rfl ?_
          refine sw_icmp_ne (np := 32) (tp := 145) dX9_one_29 rfl rfl ?_ ?_
          · refine sw_ild_5_1 (np := 146) dX9_one_145 rfl ?_
            refine sw_cS1i (np := 149) (hX9_nameOf (d := d - 1) (by omega) ) sw_ms_X9_nameOf sw_wl_RX9_195 dX9_one_146 (sw_fit_rm (by omega) (by decide)) (Nat.le_of_ble_eq_true rfl) rfl (fun r9 S16 => ?_)
            refine sw_ist_5_2 (np := 150) dX9_one_149 rfl rfl ?_
            refine sw_ild_5_2 (np := 151) dX9_one_150 rfl ?_
            refine sw_if_lt (np := 154) (tp := 171) dX9_one_151 rfl rfl ?_ ?_
            · refine sw_iconst (np := 172) dX9_one_171 sw_ic_0 rfl ?_
              refine sw_ist_5_3 (np := 173) dX9_one_172 rfl rfl ?_
              refine sw_iconst (np := 174) dX9_one_173 sw_ic_0 rfl ?_
              refine sw_ist_5_4 (np := 176) dX9_one_174 rfl rfl ?_
              refine sw_dr_5_1 ?_
              refine sw_dr_5_2 ?_
              refine sw_lp2 (lv := fun x3_1 x4_1 => [some (sw_vr G 105), none, none, some (.int x3_1), some (.int x4_1)]) (fun rec1 hrec1 x3_1 x4_1 S17 => ?_) _ _ _ _
              refine sw_ild_5_4 (np := 178) dX9_one_176 rfl ?_
              refine sw_iconst (np := 179) dX9_one_178 sw_ic_4 rfl ?_
              refine sw_icmp_ge (np := 182) (tp := 229) dX9_one_179 rfl rfl ?_ ?_
              · refine sw_ild_5_4 (np := 231) dX9_one_229 rfl ?_
                refine sw_if_ne (np := 234) (tp := 241) dX9_one_231 rfl rfl ?_ ?_
                · refine sw_ild_5_3 (np := 242) dX9_one_241 rfl ?_
                  exact sw_iret dX9_one_242
                · refine sw_ald_5_0 (np := 235) dX9_one_234 rfl ?_
                  refine sw_cV0i (np := 238) (hX9_wrong (d := d - 1) (by omega) ) sw_mv_X9_wrong sw_k_105 sw_wl_RX9_189 dX9_one_235 (sw_fit_rm (by omega) (by decide)) (Nat.le_of_ble_eq_true rfl) rfl (fun r10 S18 => ?_)
                  refine sw_goto (tp := 242) dX9_one_238 rfl ?_
                  exact sw_iret dX9_one_242
              · refine sw_ald_5_0 (np := 183) dX9_one_182 rfl ?_
                refine sw_cV0i (np := 186) (hX9_byteAt (d := d - 1) (by omega) ) sw_mv_X9_byteAt sw_k_105 sw_wl_RX9_164 dX9_one_183 (sw_fit_rm (by omega) (by decide)) (Nat.le_of_ble_eq_true rfl) rfl (fun r11 S19 => ?_)
                refine sw_bipush (np := 188) dX9_one_186 sw_bc_48 rfl ?_
                refine sw_icmp_lt (np := 191) (tp := 229) dX9_one_188 rfl rfl ?_ ?_
                · refine sw_ild_5_4 (np := 231) dX9_one_229 rfl ?_
                  refine sw_if_ne (np := 234) (tp := 241) dX9_one_231 rfl rfl ?_ ?_
                  · refine sw_ild_5_3 (np := 242) dX9_one_241 rfl ?_
                    exact sw_iret dX9_one_242
                  · refine sw_ald_5_0 (np := 235) dX9_one_234 rfl ?_
                    refine sw_cV0i (np := 238) (hX9_wrong (d := d - 1) (by omega) ) sw_mv_X9_wrong sw_k_105 sw_wl_RX9_189 dX9_one_235 (sw_fit_rm (by omega) (by decide)) (Nat.le_of_ble_eq_true rfl) rfl (fun r12 S20 => ?_)
                    refine sw_goto (tp := 242) dX9_one_238 rfl ?_
                    exact sw_iret dX9_one_242
                · refine sw_ald_5_0 (np := 192) dX9_one_191 rfl ?_
                  refine sw_cV0i (np := 195) (hX9_byteAt (d := d - 1) (by omega) ) sw_mv_X9_byteAt sw_k_105 sw_wl_RX9_164 dX9_one_192 (sw_fit_rm (by omega) (by decide)) (Nat.le_of_ble_eq_true rfl) rfl (fun r13 S21 => ?_)
                  refine sw_bipush (np := 197) dX9_one_195 sw_bc_57 rfl ?_
                  refine sw_icmp_gt (np := 200) (tp := 229) dX9_one_197 rfl rfl ?_ ?_
                  · refine sw_ild_5_4 (np := 231) dX9_one_229 rfl ?_
                    refine sw_if_ne (np := 234) (tp := 241) dX9_one_231 rfl rfl ?_ ?_
                    · refine sw_ild_5_3 (np := 242) dX9_one_241 rfl ?_
                      exact sw_iret dX9_one_242
                    · refine sw_ald_5_0 (np := 235) dX9_one_234 rfl ?_
                      refine sw_cV0i (np := 238) (hX9_wrong (d := d - 1) (by omega) ) sw_mv_X9_wrong sw_k_105 sw_wl_RX9_189 dX9_one_235 (sw_fit_rm (by omega) (by decide)) (Nat.le_of_ble_eq_true rfl) rfl (fun r14 S22 => ?_)
                      refine sw_goto (tp := 242) dX9_one_238 rfl ?_
                      exact sw_iret dX9_one_242
                  · refine sw_bipush (np := 202) dX9_one_200 sw_bc_10 rfl ?_
                    refine sw_ild_5_3 (np := 203) dX9_one_202 rfl ?_
                    refine sw_imul (np := 204) dX9_one_203 rfl ?_
                    refine sw_ald_5_0 (np := 205) dX9_one_204 rfl ?_
                    refine sw_cV0i (np := 208) (hX9_byteAt (d := d - 1) (by omega) ) sw_mv_X9_byteAt sw_k_105 sw_wl_RX9_164 dX9_one_205 (sw_fit_rm (by omega) (by decide)) (Nat.le_of_ble_eq_true rfl) rfl (fun r15 S23 => ?_)
                    refine sw_iadd (np := 209) dX9_one_208 rfl ?_
                    refine sw_bipush (np := 211) dX9_one_209 sw_bc_48 rfl ?_
                    refine sw_isub (np := 212) dX9_one_211 rfl ?_
                    refine sw_isl_5_3 (np := 213) dX9_one_212 rfl rfl (fun x3_2 => ?_)
                    refine sw_inc_5_4 (np := 216) dX9_one_213 sw_ic_1 rfl rfl ?_
                    refine sw_ald_5_0 (np := 217) dX9_one_216 rfl ?_
                    refine sw_dup (np := 218) dX9_one_217 rfl rfl ?_
                    refine sw_gI (np := 221) sw_f_RX9_152 sw_k_105 dX9_one_218 rfl ?_
                    refine sw_iconst (np := 222) dX9_one_221 sw_ic_1 rfl ?_
                    refine sw_iadd (np := 223) dX9_one_222 rfl ?_
                    refine sw_pI (np := 226) sw_f_RX9_152 sw_fp_9_12 sw_k_105 dX9_one_223 rfl (fun S24 => ?_)
                    refine sw_goto (tp := 176) dX9_one_226 rfl ?_
                    exact hrec1 _ _ _
            · refine sw_ald_5_0 (np := 155) dX9_one_154 rfl ?_
              refine sw_dup (np := 156) dX9_one_155 rfl rfl ?_
              refine sw_gI (np := 159) sw_f_RX9_152 sw_k_105 dX9_one_156 rfl ?_
              refine sw_iconst (np := 160) dX9_one_159 sw_ic_1 rfl ?_
              refine sw_iadd (np := 161) dX9_one_160 rfl ?_
              refine sw_pI (np := 164) sw_f_RX9_152 sw_fp_9_12 sw_k_105 dX9_one_161 rfl (fun S25 => ?_)
              refine sw_ald_5_0 (np := 165) dX9_one_164 rfl ?_
              refine sw_gR (np := 168) sw_f_RX9_28 sw_k_105 sw_r_105_16 dX9_one_165 rfl ?_
              refine sw_ild_5_2 (np := 169) dX9_one_168 rfl ?_
              refine sw_iald (np := 170) sw_k_112 sw_n_112 dX9_one_169 rfl ?_
              exact sw_iret dX9_one_170
          · exact hk1 _
  · refine sw_iconst (np := 8) dX9_one_7 sw_ic_0 rfl ?_
    exact sw_iret dX9_one_8
theorem hG_5 {G : sw_G} {N : Nat} : ∀ n d, 3 + n ≤ d → kG_5 G d (fG_5 N n) := by
  intro n
  induction n with
  | zero => intro d _; exact ⟨(fun _ _ _ _ _ _ h => by cases h), (fun _ _ _ _ _ _ h => by cases h), (fun _ _ _ _ _ _ h => by cases h), (fun _ _ _ _ _ _ h => by cases h), (fun _ _ _ _ _ _ h => by cases h), (fun _ _ _ _ _ _ h => by cases h)⟩
  | succ n ih => intro d hd; exact ⟨(fun _ _ _ _ _ => ogX9_either (N := N) (by omega) (ih (d - 1) (by omega))), (fun _ _ _ _ _ => ogX9_both (N := N) (by omega) (ih (d - 1) (by omega))), (fun _ _ _ _ _ => ogX9_compared (N := N) (by omega) (ih (d - 1) (by omega))), (fun _ _ _ _ _ => ogX9_sums (N := N) (by omega) (ih (d - 1) (by omega))), (fun _ _ _ _ _ => ogX9_product (N := N) (by omega) (ih (d - 1) (by omega))), (fun _ _ _ _ _ => ogX9_one (N := N) (by omega) (ih (d - 1) (by omega)))⟩
def fX9_either (N : Nat)  (S : sw_St) : Option (Int32 × sw_St) := fG_5 N 100 0 0 0 0 0 S
theorem hX9_either {G : sw_G} {N d : Nat} (hd : 103 ≤ d)  {S : sw_St} : sw_Ev G yX9_either cX9_either 3 (some .int) d sw_ei [sw_vr G 105] S (fX9_either N  S) := (hG_5 (G := G) (N := N) 100 d hd).1 _ _ _ _ _
def fX9_both (N : Nat)  (S : sw_St) : Option (Int32 × sw_St) := fG_5 N 100 1 0 0 0 0 S
theorem hX9_both {G : sw_G} {N d : Nat} (hd : 103 ≤ d)  {S : sw_St} : sw_Ev G yX9_both cX9_both 3 (some .int) d sw_ei [sw_vr G 105] S (fX9_both N  S) := (hG_5 (G := G) (N := N) 100 d hd).2.1 _ _ _ _ _
def fX9_compared (N : Nat)  (S : sw_St) : Option (Int32 × sw_St) := fG_5 N 100 2 0 0 0 0 S
theorem hX9_compared {G : sw_G} {N d : Nat} (hd : 103 ≤ d)  {S : sw_St} : sw_Ev G yX9_compared cX9_compared 4 (some .int) d sw_ei [sw_vr G 105] S (fX9_compared N  S) := (hG_5 (G := G) (N := N) 100 d hd).2.2.1 _ _ _ _ _
def fX9_sums (N : Nat)  (S : sw_St) : Option (Int32 × sw_St) := fG_5 N 100 3 0 0 0 0 S
theorem hX9_sums {G : sw_G} {N d : Nat} (hd : 103 ≤ d)  {S : sw_St} : sw_Ev G yX9_sums cX9_sums 4 (some .int) d sw_ei [sw_vr G 105] S (fX9_sums N  S) := (hG_5 (G := G) (N := N) 100 d hd).2.2.2.1 _ _ _ _ _
def fX9_product (N : Nat)  (S : sw_St) : Option (Int32 × sw_St) := fG_5 N 100 4 0 0 0 0 S
theorem hX9_product {G : sw_G} {N d : Nat} (hd : 103 ≤ d)  {S : sw_St} : sw_Ev G yX9_product cX9_product 4 (some .int) d sw_ei [sw_vr G 105] S (fX9_product N  S) := (hG_5 (G := G) (N := N) 100 d hd).2.2.2.2.1 _ _ _ _ _
def fX9_one (N : Nat)  (S : sw_St) : Option (Int32 × sw_St) := fG_5 N 100 5 0 0 0 0 S
theorem hX9_one {G : sw_G} {N d : Nat} (hd : 103 ≤ d)  {S : sw_St} : sw_Ev G yX9_one cX9_one 5 (some .int) d sw_ei [sw_vr G 105] S (fX9_one N  S) := (hG_5 (G := G) (N := N) 100 d hd).2.2.2.2.2 _ _ _ _ _
/-- SwordAtticModel.workOut(II)I -/
def fX9_workOut (N : Nat) (p1 : Int32) (p2 : Int32) (S : sw_St) : Option (Int32 × sw_St) :=
  sw_ls (sw_si S 105 11 p1) (fun S1 => (sw_ls (sw_si S1 105 12 (0 : Int32)) (fun S2 => (sw_ls (sw_si S2 105 13 p2) (fun S3 => (sw_ls (sw_si S3 105 14 (-1 : Int32)) (fun S4 => (sw_ls (sw_si S4 105 15 (0 : Int32)) (fun S5 => (sw_fx3 (fun rec1 x3_1 x4_1 x5_1 S6 => (if x5_1 = 0 then (if (S6.1 105 14) ≥ 0 then (some (x4_1, S6)) else (if (S6.1 105 12) ≥ (S6.1 105 13) then (some (x4_1, S6)) else (sw_bd (fX9_wrong N S6) (fun r1 S7 => (some (r1, S7)))))) else (sw_bd (fX9_either N S6) (fun r2 S8 => (sw_bd (fX9_takes N (63 : Int32) S8) (fun r3 S9 => (sw_jn2 (fun x6_1 x7_1 S10 => (if (S10.1 105 14) ≥ 0 then (sw_bd (fX9_takes N (59 : Int32) S10) (fun r4 S11 => (rec1 x3_1 x4_1 r4 S11))) else (if x7_1 = 0 then (sw_bd (fX9_takes N (59 : Int32) S10) (fun r5 S12 => (rec1 x3_1 x4_1 r5 S12))) else (if x3_1 = 0 then (sw_bd (fX9_takes N (59 : Int32) S10) (fun r7 S14 => (rec1 (1 : Int32) x6_1 r7 S14))) else (sw_bd (fX9_takes N (59 : Int32) S10) (fun r6 S13 => (rec1 x3_1 x4_1 r6 S13))))))) (fun k1 => (if r3 = 0 then (k1 r2 (1 : Int32) S9) else (if r2 = 0 then (sw_bd (fX9_either N S9) (fun r8 S15 => (k1 r8 (0 : Int32) S15))) else (sw_bd (fX9_either N S9) (fun r9 S16 => (k1 r9 (1 : Int32) S16))))))))))))) N (0 : Int32) (0 : Int32) (1 : Int32) S5))))))))))
theorem hX9_workOut {G : sw_G} {N d : Nat} (hd : 104 ≤ d) {p1 : Int32} {p2 : Int32}  {S : sw_St} : sw_Ev G yX9_workOut cX9_workOut 8 (some .int) d sw_ei [sw_vr G 105, .int p1, .int p2] S (fX9_workOut N p1 p2 S) := by
  refine sw_Ev_of (own := RX9) (lv0 := [some (sw_vr G 105), some (.int p1), some (.int p2), none, none, none, none, none]) (by decide) rfl (Nat.le_of_ble_eq_true rfl) rfl ?_
  unfold fX9_workOut
  refine sw_ald_8_0 (np := 1) dX9_workOut_0 rfl ?_
  refine sw_ild_8_1 (np := 2) dX9_workOut_1 rfl ?_
  refine sw_pI (np := 5) sw_f_RX9_158 sw_fp_9_11 sw_k_105 dX9_workOut_2 rfl (fun S1 => ?_)
  refine sw_ald_8_0 (np := 6) dX9_workOut_5 rfl ?_
  refine sw_iconst (np := 7) dX9_workOut_6 sw_ic_0 rfl ?_
  refine sw_pI (np := 10) sw_f_RX9_152 sw_fp_9_12 sw_k_105 dX9_workOut_7 rfl (fun S2 => ?_)
  refine sw_ald_8_0 (np := 11) dX9_workOut_10 rfl ?_
  refine sw_ild_8_2 (np := 12) dX9_workOut_11 rfl ?_
  refine sw_pI (np := 15) sw_f_RX9_155 sw_fp_9_13 sw_k_105 dX9_workOut_12 rfl (fun S3 => ?_)
  refine sw_ald_8_0 (np := 16) dX9_workOut_15 rfl ?_
  refine sw_iconst (np := 17) dX9_workOut_16 sw_ic_m1 rfl ?_
  refine sw_pI (np := 20) sw_f_RX9_161 sw_fp_9_14 sw_k_105 dX9_workOut_17 rfl (fun S4 => ?_)
  refine sw_ald_8_0 (np := 21) dX9_workOut_20 rfl ?_
  refine sw_iconst (np := 22) dX9_workOut_21 sw_ic_0 rfl ?_
  refine sw_pI (np := 25) sw_f_RX9_186 sw_fp_9_15 sw_k_105 dX9_workOut_22 rfl (fun S5 => ?_)
  refine sw_iconst (np := 26) dX9_workOut_25 sw_ic_0 rfl ?_
  refine sw_ist_8_3 (np := 27) dX9_workOut_26 rfl rfl ?_
  refine sw_iconst (np := 28) dX9_workOut_27 sw_ic_0 rfl ?_
  refine sw_ist_8_4 (np := 30) dX9_workOut_28 rfl rfl ?_
  refine sw_iconst (np := 31) dX9_workOut_30 sw_ic_1 rfl ?_
  refine sw_ist_8_5 (np := 33) dX9_workOut_31 rfl rfl ?_
  refine sw_dr_8_1 ?_
  refine sw_dr_8_2 ?_
  refine sw_lp3 (lv := fun x3_1 x4_1 x5_1 => [some (sw_vr G 105), none, none, some (.int x3_1), some (.int x4_1), some (.int x5_1), none, none]) (fun rec1 hrec1 x3_1 x4_1 x5_1 S6 => ?_) _ _ _ _ _
  refine sw_ild_8_5 (np := 35) dX9_workOut_33 rfl ?_
  refine sw_if_eq (np := 38) (tp := 107) dX9_workOut_35 rfl rfl ?_ ?_
  · refine sw_ald_8_0 (np := 108) dX9_workOut_107 rfl ?_
    refine sw_gI (np := 111) sw_f_RX9_161 sw_k_105 dX9_workOut_108 rfl ?_
    refine sw_if_ge (np := 114) (tp := 130) dX9_workOut_111 rfl rfl ?_ ?_
    · refine sw_ild_8_4 (np := 132) dX9_workOut_130 rfl ?_
      exact sw_iret dX9_workOut_132
    · refine sw_ald_8_0 (np := 115) dX9_workOut_114 rfl ?_
      refine sw_gI (np := 118) sw_f_RX9_152 sw_k_105 dX9_workOut_115 rfl ?_
      refine sw_ald_8_0 (np := 119) dX9_workOut_118 rfl ?_
      refine sw_gI (np := 122) sw_f_RX9_155 sw_k_105 dX9_workOut_119 rfl ?_
      refine sw_icmp_ge (np := 125) (tp := 130) dX9_workOut_122 rfl rfl ?_ ?_
      · refine sw_ild_8_4 (np := 132) dX9_workOut_130 rfl ?_
        exact sw_iret dX9_workOut_132
      · refine sw_ald_8_0 (np := 126) dX9_workOut_125 rfl ?_
        refine sw_cV0i (np := 129) (hX9_wrong (d := d - 1) (by omega) ) sw_mv_X9_wrong sw_k_105 sw_wl_RX9_189 dX9_workOut_126 (sw_fit_rm (by omega) (by decide)) (Nat.le_of_ble_eq_true rfl) rfl (fun r1 S7 => ?_)
        exact sw_iret dX9_workOut_129
  · refine sw_ald_8_0 (np := 39) dX9_workOut_38 rfl ?_
    refine sw_cV0i (np := 42) (hX9_either (d := d - 1) (by omega) ) sw_mv_X9_either sw_k_105 sw_wl_RX9_192 dX9_workOut_39 (sw_fit_rm (by omega) (by decide)) (Nat.le_of_ble_eq_true rfl) rfl (fun r2 S8 => ?_)
    refine sw_ist_8_6 (np := 44) dX9_workOut_42 rfl rfl ?_
    refine sw_iconst (np := 45) dX9_workOut_44 sw_ic_1 rfl ?_
    refine sw_ist_8_7 (np := 47) dX9_workOut_45 rfl rfl ?_
    refine sw_ald_8_0 (np := 48) dX9_workOut_47 rfl ?_
    refine sw_bipush (np := 50) dX9_workOut_48 sw_bc_63 rfl ?_
    refine sw_cV1i (np := 53) (hX9_takes (d := d - 1) (by omega) ) sw_mv_X9_takes sw_k_105 sw_wl_RX9_171 dX9_workOut_50 (sw_fit_rm (by omega) (by decide)) (Nat.le_of_ble_eq_true rfl) rfl (fun r3 S9 => ?_)
    refine sw_jm2 (pj := 74) (fun x6_1 x7_1 => [some (sw_vr G 105), none, none, some (.int x3_1), some (.int x4_1), none, some (.int x6_1), some (.int x7_1)]) (fun x6_1 x7_1 => []) (fun x6_1 x7_1 S10 => ?_) (fun k1 hk1 => ?_)
    · refine sw_ald_8_0 (np := 75) dX9_workOut_74 rfl ?_
      refine sw_gI (np := 78) sw_f_RX9_161 sw_k_105 dX9_workOut_75 rfl ?_
      refine sw_if_ge (np := 81) (tp := 96) dX9_workOut_78 rfl rfl ?_ ?_
      · refine sw_ald_8_0 (np := 97) dX9_workOut_96 rfl ?_
        refine sw_bipush (np := 99) dX9_workOut_97 sw_bc_59 rfl ?_
        refine sw_cV1i (np := 102) (hX9_takes (d := d - 1) (by omega) ) sw_mv_X9_takes sw_k_105 sw_wl_RX9_171 dX9_workOut_99 (sw_fit_rm (by omega) (by decide)) (Nat.le_of_ble_eq_true rfl) rfl (fun r4 S11 => ?_)
        refine sw_ist_8_5 (np := 104) dX9_workOut_102 rfl rfl ?_
        refine sw_goto (tp := 33) dX9_workOut_104 rfl ?_
        refine sw_dr_8_6 ?_
        refine sw_dr_8_7 ?_
        exact hrec1 _ _ _ _
      · refine sw_ild_8_7 (np := 83) dX9_workOut_81 rfl ?_
        refine sw_if_eq (np := 86) (tp := 96) dX9_workOut_83 rfl rfl ?_ ?_
        · refine sw_ald_8_0 (np := 97) dX9_workOut_96 rfl ?_
          refine sw_bipush (np := 99) dX9_workOut_97 sw_bc_59 rfl ?_
          refine sw_cV1i (np := 102) (hX9_takes (d := d - 1) (by omega) ) sw_mv_X9_takes sw_k_105 sw_wl_RX9_171 dX9_workOut_99 (sw_fit_rm (by omega) (by decide)) (Nat.le_of_ble_eq_true rfl) rfl (fun r5 S12 => ?_)
          refine sw_ist_8_5 (np := 104) dX9_workOut_102 rfl rfl ?_
          refine sw_goto (tp := 33) dX9_workOut_104 rfl ?_
          refine sw_dr_8_6 ?_
          refine sw_dr_8_7 ?_
          exact hrec1 _ _ _ _
        · refine sw_ild_8_3 (np := 87) dX9_workOut_86 rfl ?_
          refine sw_if_ne (np := 90) (tp := 96) dX9_workOut_87 rfl rfl ?_ ?_
          · refine sw_ald_8_0 (np := 97) dX9_workOut_96 rfl ?_
            refine sw_bipush (np := 99) dX9_workOut_97 sw_bc_59 rfl ?_
            refine sw_cV1i (np := 102) (hX9_takes (d := d - 1) (by omega) ) sw_mv_X9_takes sw_k_105 sw_wl_RX9_171 dX9_workOut_99 (sw_fit_rm (by omega) (by decide)) (Nat.le_of_ble_eq_true rfl) rfl (fun r6 S13 => ?_)
            refine sw_ist_8_5 (np := 104) dX9_workOut_102 rfl rfl ?_
            refine sw_goto (tp := 33) dX9_workOut_104 rfl ?_
            refine sw_dr_8_6 ?_
            refine sw_dr_8_7 ?_
            exact hrec1 _ _ _ _
          · refine sw_iconst (np := 91) dX9_workOut_90 sw_ic_1 rfl ?_
            refine sw_ist_8_3 (np := 92) dX9_workOut_91 rfl rfl ?_
            refine sw_ild_8_6 (np := 94) dX9_workOut_92 rfl ?_
            refine sw_ist_8_4 (np := 96) dX9_workOut_94 rfl rfl ?_
            refine sw_ald_8_0 (np := 97) dX9_workOut_96 rfl ?_
            refine sw_bipush (np := 99) dX9_workOut_97 sw_bc_59 rfl ?_
            refine sw_cV1i (np := 102) (hX9_takes (d := d - 1) (by omega) ) sw_mv_X9_takes sw_k_105 sw_wl_RX9_171 dX9_workOut_99 (sw_fit_rm (by omega) (by decide)) (Nat.le_of_ble_eq_true rfl) rfl (fun r7 S14 => ?_)
            refine sw_ist_8_5 (np := 104) dX9_workOut_102 rfl rfl ?_
            refine sw_goto (tp := 33) dX9_workOut_104 rfl ?_
            refine sw_dr_8_6 ?_
            refine sw_dr_8_7 ?_
            exact hrec1 _ _ _ _
    · refine sw_if_eq (np := 56) (tp := 74) dX9_workOut_53 rfl rfl ?_ ?_
      · refine sw_dr_8_5 ?_
        exact hk1 _ _ _
      · refine sw_ild_8_6 (np := 58) dX9_workOut_56 rfl ?_
        refine sw_if_eq (np := 61) (tp := 65) dX9_workOut_58 rfl rfl ?_ ?_
        · refine sw_iconst (np := 66) dX9_workOut_65 sw_ic_0 rfl ?_
          refine sw_ist_8_7 (np := 68) dX9_workOut_66 rfl rfl ?_
          refine sw_ald_8_0 (np := 69) dX9_workOut_68 rfl ?_
          refine sw_cV0i (np := 72) (hX9_either (d := d - 1) (by omega) ) sw_mv_X9_either sw_k_105 sw_wl_RX9_192 dX9_workOut_69 (sw_fit_rm (by omega) (by decide)) (Nat.le_of_ble_eq_true rfl) rfl (fun r8 S15 => ?_)
          refine sw_ist_8_6 (np := 74) dX9_workOut_72 rfl rfl ?_
          refine sw_dr_8_5 ?_
          exact hk1 _ _ _
        · refine sw_iconst (np := 62) dX9_workOut_61 sw_ic_1 rfl ?_
          refine sw_goto (tp := 66) dX9_workOut_62 rfl ?_
          refine sw_ist_8_7 (np := 68) dX9_workOut_66 rfl rfl ?_
          refine sw_ald_8_0 (np := 69) dX9_workOut_68 rfl ?_
          refine sw_cV0i (np := 72) (hX9_either (d := d - 1) (by omega) ) sw_mv_X9_either sw_k_105 sw_wl_RX9_192 dX9_workOut_69 (sw_fit_rm (by omega) (by decide)) (Nat.le_of_ble_eq_true rfl) rfl (fun r9 S16 => ?_)
          refine sw_ist_8_6 (np := 74) dX9_workOut_72 rfl rfl ?_
          refine sw_dr_8_5 ?_
          exact hk1 _ _ _
/-- SwordAtticModel.law()I -/
def fX9_law (N : Nat)  (S : sw_St) : Option (Int32 × sw_St) :=
  sw_bd (fX9_workOut N (-1 : Int32) (S.1 105 8) S) (fun r1 S1 => (sw_li (S1.1 105 8) (fun x2_1 => (sw_ls (sw_si S1 105 8 (0 : Int32)) (fun S2 => (if (S2.1 105 14) < 0 then (sw_fx1 (fun rec1 x3_1 S3 => (if x3_1 ≥ x2_1 then (sw_ls (sw_si S3 105 10 x2_1) (fun S4 => (some ((1 : Int32), S4)))) else (sw_gd (sw_in x3_1 120) (sw_gd (sw_in x3_1 120) (sw_ls (sw_si S3 111 x3_1.toNatClampNeg (S3.1 110 x3_1.toNatClampNeg)) (fun S5 => (rec1 (x3_1 + (1 : Int32)) S5))))))) N (0 : Int32) S2) else (some (((-100 : Int32) - (S2.1 105 14)), S2))))))))
theorem hX9_law {G : sw_G} {N d : Nat} (hd : 105 ≤ d)   {S : sw_St} : sw_Ev G yX9_law cX9_law 4 (some .int) d sw_ei [sw_vr G 105] S (fX9_law N  S) := by
  refine sw_Ev_of (own := RX9) (lv0 := [some (sw_vr G 105), none, none, none]) (by decide) rfl (Nat.le_of_ble_eq_true rfl) rfl ?_
  unfold fX9_law
  refine sw_ald_4_0 (np := 1) dX9_law_0 rfl ?_
  refine sw_iconst (np := 2) dX9_law_1 sw_ic_m1 rfl ?_
  refine sw_ald_4_0 (np := 3) dX9_law_2 rfl ?_
  refine sw_gI (np := 6) sw_f_RX9_149 sw_k_105 dX9_law_3 rfl ?_
  refine sw_cV2i (np := 9) (hX9_workOut (d := d - 1) (by omega) ) sw_mv_X9_workOut sw_k_105 sw_wl_RX9_198 dX9_law_6 (sw_fit_rm (by omega) (by decide)) (Nat.le_of_ble_eq_true rfl) rfl (fun r1 S1 => ?_)
  refine sw_ist_4_1 (np := 10) dX9_law_9 rfl rfl ?_
  refine sw_ald_4_0 (np := 11) dX9_law_10 rfl ?_
  refine sw_gI (np := 14) sw_f_RX9_149 sw_k_105 dX9_law_11 rfl ?_
  refine sw_isl_4_2 (np := 15) dX9_law_14 rfl rfl (fun x2_1 => ?_)
  refine sw_ald_4_0 (np := 16) dX9_law_15 rfl ?_
  refine sw_iconst (np := 17) dX9_law_16 sw_ic_0 rfl ?_
  refine sw_pI (np := 20) sw_f_RX9_149 sw_fp_9_8 sw_k_105 dX9_law_17 rfl (fun S2 => ?_)
  refine sw_ald_4_0 (np := 21) dX9_law_20 rfl ?_
  refine sw_gI (np := 24) sw_f_RX9_161 sw_k_105 dX9_law_21 rfl ?_
  refine sw_if_lt (np := 27) (tp := 35) dX9_law_24 rfl rfl ?_ ?_
  · refine sw_iconst (np := 36) dX9_law_35 sw_ic_0 rfl ?_
    refine sw_ist_4_3 (np := 37) dX9_law_36 rfl rfl ?_
    refine sw_dr_4_1 ?_
    refine sw_lp1 (lv := fun x3_1 => [some (sw_vr G 105), none, some (.int x2_1), some (.int x3_1)]) (fun rec1 hrec1 x3_1 S3 => ?_) _ _ _
    refine sw_ild_4_3 (np := 38) dX9_law_37 rfl ?_
    refine sw_ild_4_2 (np := 39) dX9_law_38 rfl ?_
    refine sw_icmp_ge (np := 42) (tp := 60) dX9_law_39 rfl rfl ?_ ?_
    · refine sw_ald_4_0 (np := 61) dX9_law_60 rfl ?_
      refine sw_ild_4_2 (np := 62) dX9_law_61 rfl ?_
      refine sw_pI (np := 65) sw_f_RX9_77 sw_fp_9_10 sw_k_105 dX9_law_62 rfl (fun S4 => ?_)
      refine sw_iconst (np := 66) dX9_law_65 sw_ic_1 rfl ?_
      exact sw_iret dX9_law_66
    · refine sw_ald_4_0 (np := 43) dX9_law_42 rfl ?_
      refine sw_gR (np := 46) sw_f_RX9_25 sw_k_105 sw_r_105_9 dX9_law_43 rfl ?_
      refine sw_ild_4_3 (np := 47) dX9_law_46 rfl ?_
      refine sw_ald_4_0 (np := 48) dX9_law_47 rfl ?_
      refine sw_gR (np := 51) sw_f_RX9_22 sw_k_105 sw_r_105_7 dX9_law_48 rfl ?_
      refine sw_ild_4_3 (np := 52) dX9_law_51 rfl ?_
      refine sw_iald (np := 53) sw_k_110 sw_n_110 dX9_law_52 rfl ?_
      refine sw_sI (np := 54) sw_k_111 sw_n_111 dX9_law_53 rfl (fun S5 => ?_)
      refine sw_inc_4_3 (np := 57) dX9_law_54 sw_ic_1 rfl rfl ?_
      refine sw_goto (tp := 37) dX9_law_57 rfl ?_
      exact hrec1 _ _
  · refine sw_bipush (np := 29) dX9_law_27 sw_bc_m100 rfl ?_
    refine sw_ald_4_0 (np := 30) dX9_law_29 rfl ?_
    refine sw_gI (np := 33) sw_f_RX9_161 sw_k_105 dX9_law_30 rfl ?_
    refine sw_isub (np := 34) dX9_law_33 rfl ?_
    exact sw_iret dX9_law_34
/-- SwordAtticModel.begins()V -/
def fX9_begins (N : Nat)  (S : sw_St) : Option (Unit × sw_St) :=
  sw_fx1 (fun rec1 x1_1 S1 => (if x1_1 ≥ (12 : Int32) then (sw_fx1 (fun rec2 x1_2 S2 => (if x1_2 ≥ (S2.1 105 6) then (sw_gd (sw_in (50 : Int32) 53) (sw_ls (sw_si S2 105 19 (S2.1 106 (50 : Int32).toNatClampNeg)) (fun S3 => (sw_gd (sw_in (52 : Int32) 53) (sw_ls (sw_si S3 105 20 (S3.1 106 (52 : Int32).toNatClampNeg)) (fun S4 => (some ((), S4)))))))) else (sw_gd (sw_in ((30 : Int32) + x1_2) 53) (sw_gd (sw_in x1_2 10) (sw_ls (sw_si S2 114 x1_2.toNatClampNeg (S2.1 106 ((30 : Int32) + x1_2).toNatClampNeg)) (fun S5 => (rec2 (x1_2 + (1 : Int32)) S5))))))) N (0 : Int32) S1) else (sw_bd (fX9_inCot N x1_1 S1) (fun r1 S6 => (sw_gd (sw_in x1_1 12) (sw_ls (sw_si S6 113 x1_1.toNatClampNeg r1) (fun S7 => (rec1 (x1_1 + (1 : Int32)) S7)))))))) N (0 : Int32) S
theorem hX9_begins {G : sw_G} {N d : Nat} (hd : 2 ≤ d)   {S : sw_St} : sw_Ev G yX9_begins cX9_begins 2 none d sw_ev [sw_vr G 105] S (fX9_begins N  S) := by
  refine sw_Ev_of (own := RX9) (lv0 := [some (sw_vr G 105), none]) (by decide) rfl (Nat.le_of_ble_eq_true rfl) rfl ?_
  unfold fX9_begins
  refine sw_iconst (np := 1) dX9_begins_0 sw_ic_0 rfl ?_
  refine sw_ist_2_1 (np := 2) dX9_begins_1 rfl rfl ?_
  refine sw_lp1 (lv := fun x1_1 => [some (sw_vr G 105), some (.int x1_1)]) (fun rec1 hrec1 x1_1 S1 => ?_) _ _ _
  refine sw_ild_2_1 (np := 3) dX9_begins_2 rfl ?_
  refine sw_bipush (np := 5) dX9_begins_3 sw_bc_12 rfl ?_
  refine sw_icmp_ge (np := 8) (tp := 25) dX9_begins_5 rfl rfl ?_ ?_
  · refine sw_iconst (np := 26) dX9_begins_25 sw_ic_0 rfl ?_
    refine sw_ist_2_1 (np := 27) dX9_begins_26 rfl rfl ?_
    refine sw_lp1 (lv := fun x1_2 => [some (sw_vr G 105), some (.int x1_2)]) (fun rec2 hrec2 x1_2 S2 => ?_) _ _ _
    refine sw_ild_2_1 (np := 28) dX9_begins_27 rfl ?_
    refine sw_ald_2_0 (np := 29) dX9_begins_28 rfl ?_
    refine sw_gI (np := 32) sw_f_RX9_95 sw_k_105 dX9_begins_29 rfl ?_
    refine sw_icmp_ge (np := 35) (tp := 56) dX9_begins_32 rfl rfl ?_ ?_
    · refine sw_ald_2_0 (np := 57) dX9_begins_56 rfl ?_
      refine sw_ald_2_0 (np := 58) dX9_begins_57 rfl ?_
      refine sw_gR (np := 61) sw_f_RX9_9 sw_k_105 sw_r_105_0 dX9_begins_58 rfl ?_
      refine sw_bipush (np := 63) dX9_begins_61 sw_bc_50 rfl ?_
      refine sw_iald (np := 64) sw_k_106 sw_n_106 dX9_begins_63 rfl ?_
      refine sw_pI (np := 67) sw_f_RX9_201 sw_fp_9_19 sw_k_105 dX9_begins_64 rfl (fun S3 => ?_)
      refine sw_ald_2_0 (np := 68) dX9_begins_67 rfl ?_
      refine sw_ald_2_0 (np := 69) dX9_begins_68 rfl ?_
      refine sw_gR (np := 72) sw_f_RX9_9 sw_k_105 sw_r_105_0 dX9_begins_69 rfl ?_
      refine sw_bipush (np := 74) dX9_begins_72 sw_bc_52 rfl ?_
      refine sw_iald (np := 75) sw_k_106 sw_n_106 dX9_begins_74 rfl ?_
      refine sw_pI (np := 78) sw_f_RX9_204 sw_fp_9_20 sw_k_105 dX9_begins_75 rfl (fun S4 => ?_)
      exact sw_vret dX9_begins_78
    · refine sw_ald_2_0 (np := 36) dX9_begins_35 rfl ?_
      refine sw_gR (np := 39) sw_f_RX9_34 sw_k_105 sw_r_105_18 dX9_begins_36 rfl ?_
      refine sw_ild_2_1 (np := 40) dX9_begins_39 rfl ?_
      refine sw_ald_2_0 (np := 41) dX9_begins_40 rfl ?_
      refine sw_gR (np := 44) sw_f_RX9_9 sw_k_105 sw_r_105_0 dX9_begins_41 rfl ?_
      refine sw_bipush (np := 46) dX9_begins_44 sw_bc_30 rfl ?_
      refine sw_ild_2_1 (np := 47) dX9_begins_46 rfl ?_
      refine sw_iadd (np := 48) dX9_begins_47 rfl ?_
      refine sw_iald (np := 49) sw_k_106 sw_n_106 dX9_begins_48 rfl ?_
      refine sw_sI (np := 50) sw_k_114 sw_n_114 dX9_begins_49 rfl (fun S5 => ?_)
      refine sw_inc_2_1 (np := 53) dX9_begins_50 sw_ic_1 rfl rfl ?_
      refine sw_goto (tp := 27) dX9_begins_53 rfl ?_
      exact hrec2 _ _
  · refine sw_ald_2_0 (np := 9) dX9_begins_8 rfl ?_
    refine sw_gR (np := 12) sw_f_RX9_31 sw_k_105 sw_r_105_17 dX9_begins_9 rfl ?_
    refine sw_ild_2_1 (np := 13) dX9_begins_12 rfl ?_
    refine sw_ald_2_0 (np := 14) dX9_begins_13 rfl ?_
    refine sw_ild_2_1 (np := 15) dX9_begins_14 rfl ?_
    refine sw_cV1i (np := 18) (hX9_inCot (d := d - 1) (by omega) ) sw_mv_X9_inCot sw_k_105 sw_wl_RX9_87 dX9_begins_15 (sw_fit_rm (by omega) (by decide)) (Nat.le_of_ble_eq_true rfl) rfl (fun r1 S6 => ?_)
    refine sw_sI (np := 19) sw_k_113 sw_n_113 dX9_begins_18 rfl (fun S7 => ?_)
    refine sw_inc_2_1 (np := 22) dX9_begins_19 sw_ic_1 rfl rfl ?_
    refine sw_goto (tp := 2) dX9_begins_22 rfl ?_
    exact hrec1 _ _
/-- SwordAtticModel.isAwake(I)Z -/
def fX9_isAwake (N : Nat) (p1 : Int32) (S : sw_St) : Option (Int32 × sw_St) :=
  sw_gd (sw_in p1 10) (sw_gd (sw_in (51 : Int32) 53) (if (S.1 114 p1.toNatClampNeg) ≤ (S.1 106 (51 : Int32).toNatClampNeg) then (some (vp_nar .boolean (0 : Int32), S)) else (some (vp_nar .boolean (1 : Int32), S))))
theorem hX9_isAwake {G : sw_G} {N d : Nat} (hd : 1 ≤ d) {p1 : Int32}  {S : sw_St} : sw_Ev G yX9_isAwake cX9_isAwake 2 (some .boolean) d sw_ei [sw_vr G 105, .int p1] S (fX9_isAwake N p1 S) := by
  refine sw_Ev_of (own := RX9) (lv0 := [some (sw_vr G 105), some (.int p1)]) (by decide) rfl (Nat.le_of_ble_eq_true rfl) rfl ?_
  unfold fX9_isAwake
  refine sw_ald_2_0 (np := 1) dX9_isAwake_0 rfl ?_
  refine sw_gR (np := 4) sw_f_RX9_34 sw_k_105 sw_r_105_18 dX9_isAwake_1 rfl ?_
  refine sw_ild_2_1 (np := 5) dX9_isAwake_4 rfl ?_
  refine sw_iald (np := 6) sw_k_114 sw_n_114 dX9_isAwake_5 rfl ?_
  refine sw_ald_2_0 (np := 7) dX9_isAwake_6 rfl ?_
  refine sw_gR (np := 10) sw_f_RX9_9 sw_k_105 sw_r_105_0 dX9_isAwake_7 rfl ?_
  refine sw_bipush (np := 12) dX9_isAwake_10 sw_bc_51 rfl ?_
  refine sw_iald (np := 13) sw_k_106 sw_n_106 dX9_isAwake_12 rfl ?_
  refine sw_icmp_le (np := 16) (tp := 20) dX9_isAwake_13 rfl rfl ?_ ?_
  · refine sw_iconst (np := 21) dX9_isAwake_20 sw_ic_0 rfl ?_
    exact sw_zret dX9_isAwake_21
  · refine sw_iconst (np := 17) dX9_isAwake_16 sw_ic_1 rfl ?_
    refine sw_goto (tp := 21) dX9_isAwake_17 rfl ?_
    exact sw_zret dX9_isAwake_21
/-- SwordAtticModel.areBeside(II)Z -/
def fX9_areBeside (N : Nat) (p0 : Int32) (p1 : Int32) (S : sw_St) : Option (Int32 × sw_St) :=
  if (p0 / (6 : Int32)) = (p1 / (6 : Int32)) then (sw_bd (fX9_sizeOf N (p0 - p1) S) (fun r1 S1 => (if r1 = (1 : Int32) then (some (vp_nar .boolean (1 : Int32), S1)) else (some (vp_nar .boolean (0 : Int32), S1))))) else (if (p0 - p0 / (6 : Int32) * (6 : Int32)) = (p1 - p1 / (6 : Int32) * (6 : Int32)) then (some (vp_nar .boolean (1 : Int32), S)) else (some (vp_nar .boolean (0 : Int32), S)))
theorem hX9_areBeside {G : sw_G} {N d : Nat} (hd : 2 ≤ d) {p0 : Int32} {p1 : Int32}  {S : sw_St} : sw_Ev G yX9_areBeside cX9_areBeside 2 (some .boolean) d sw_ei [.int p0, .int p1] S (fX9_areBeside N p0 p1 S) := by
  refine sw_Ev_of (own := RX9) (lv0 := [some (.int p0), some (.int p1)]) (by decide) rfl (Nat.le_of_ble_eq_true rfl) rfl ?_
  unfold fX9_areBeside
  refine sw_ild_2_0 (np := 1) dX9_areBeside_0 rfl ?_
  refine sw_bipush (np := 3) dX9_areBeside_1 sw_bc_6 rfl ?_
  refine sw_idiv (np := 4) dX9_areBeside_3 (by decide) rfl ?_
  refine sw_ild_2_1 (np := 5) dX9_areBeside_4 rfl ?_
  refine sw_bipush (np := 7) dX9_areBeside_5 sw_bc_6 rfl ?_
  refine sw_idiv (np := 8) dX9_areBeside_7 (by decide) rfl ?_
  refine sw_icmp_ne (np := 11) (tp := 29) dX9_areBeside_8 rfl rfl ?_ ?_
  · refine sw_ild_2_0 (np := 30) dX9_areBeside_29 rfl ?_
    refine sw_bipush (np := 32) dX9_areBeside_30 sw_bc_6 rfl ?_
    refine sw_irem (np := 33) dX9_areBeside_32 (by decide) rfl ?_
    refine sw_ild_2_1 (np := 34) dX9_areBeside_33 rfl ?_
    refine sw_bipush (np := 36) dX9_areBeside_34 sw_bc_6 rfl ?_
    refine sw_irem (np := 37) dX9_areBeside_36 (by decide) rfl ?_
    refine sw_icmp_ne (np := 40) (tp := 44) dX9_areBeside_37 rfl rfl ?_ ?_
    · refine sw_iconst (np := 45) dX9_areBeside_44 sw_ic_0 rfl ?_
      exact sw_zret dX9_areBeside_45
    · refine sw_iconst (np := 41) dX9_areBeside_40 sw_ic_1 rfl ?_
      refine sw_goto (tp := 45) dX9_areBeside_41 rfl ?_
      exact sw_zret dX9_areBeside_45
  · refine sw_ild_2_0 (np := 12) dX9_areBeside_11 rfl ?_
    refine sw_ild_2_1 (np := 13) dX9_areBeside_12 rfl ?_
    refine sw_isub (np := 14) dX9_areBeside_13 rfl ?_
    refine sw_cS1i (np := 17) (hX9_sizeOf (d := d - 1) (by omega) ) sw_ms_X9_sizeOf sw_wl_RX9_207 dX9_areBeside_14 (sw_fit_rm (by omega) (by decide)) (Nat.le_of_ble_eq_true rfl) rfl (fun r1 S1 => ?_)
    refine sw_iconst (np := 18) dX9_areBeside_17 sw_ic_1 rfl ?_
    refine sw_icmp_ne (np := 21) (tp := 25) dX9_areBeside_18 rfl rfl ?_ ?_
    · refine sw_iconst (np := 26) dX9_areBeside_25 sw_ic_0 rfl ?_
      refine sw_goto (tp := 45) dX9_areBeside_26 rfl ?_
      exact sw_zret dX9_areBeside_45
    · refine sw_iconst (np := 22) dX9_areBeside_21 sw_ic_1 rfl ?_
      refine sw_goto (tp := 45) dX9_areBeside_22 rfl ?_
      exact sw_zret dX9_areBeside_45
/-- SwordAtticModel.awakeBeside(I)I -/
def fX9_awakeBeside (N : Nat) (p1 : Int32) (S : sw_St) : Option (Int32 × sw_St) :=
  sw_fx2 (fun rec1 x2_1 x3_1 S1 => (if x3_1 ≥ (12 : Int32) then (some (x2_1, S1)) else (sw_bd (fX9_areBeside N p1 x3_1 S1) (fun r1 S2 => (if r1 = 0 then (sw_li (x2_1 + (0 : Int32)) (fun x2_2 => (rec1 x2_2 (x3_1 + (1 : Int32)) S2))) else (sw_gd (sw_in x3_1 12) (if (S2.1 113 x3_1.toNatClampNeg) < 0 then (sw_li (x2_1 + (0 : Int32)) (fun x2_3 => (rec1 x2_3 (x3_1 + (1 : Int32)) S2))) else (sw_gd (sw_in x3_1 12) (sw_bd (fX9_isAwake N (S2.1 113 x3_1.toNatClampNeg) S2) (fun r2 S3 => (if r2 = 0 then (sw_li (x2_1 + (0 : Int32)) (fun x2_4 => (rec1 x2_4 (x3_1 + (1 : Int32)) S3))) else (sw_li (x2_1 + (1 : Int32)) (fun x2_5 => (rec1 x2_5 (x3_1 + (1 : Int32)) S3)))))))))))))) N (0 : Int32) (0 : Int32) S
theorem hX9_awakeBeside {G : sw_G} {N d : Nat} (hd : 3 ≤ d) {p1 : Int32}  {S : sw_St} : sw_Ev G yX9_awakeBeside cX9_awakeBeside 4 (some .int) d sw_ei [sw_vr G 105, .int p1] S (fX9_awakeBeside N p1 S) := by
  refine sw_Ev_of (own := RX9) (lv0 := [some (sw_vr G 105), some (.int p1), none, none]) (by decide) rfl (Nat.le_of_ble_eq_true rfl) rfl ?_
  unfold fX9_awakeBeside
  refine sw_iconst (np := 1) dX9_awakeBeside_0 sw_ic_0 rfl ?_
  refine sw_ist_4_2 (np := 2) dX9_awakeBeside_1 rfl rfl ?_
  refine sw_iconst (np := 3) dX9_awakeBeside_2 sw_ic_0 rfl ?_
  refine sw_ist_4_3 (np := 4) dX9_awakeBeside_3 rfl rfl ?_
  refine sw_lp2 (lv := fun x2_1 x3_1 => [some (sw_vr G 105), some (.int p1), some (.int x2_1), some (.int x3_1)]) (fun rec1 hrec1 x2_1 x3_1 S1 => ?_) _ _ _ _
  refine sw_ild_4_3 (np := 5) dX9_awakeBeside_4 rfl ?_
  refine sw_bipush (np := 7) dX9_awakeBeside_5 sw_bc_12 rfl ?_
  refine sw_icmp_ge (np := 10) (tp := 54) dX9_awakeBeside_7 rfl rfl ?_ ?_
  · refine sw_ild_4_2 (np := 55) dX9_awakeBeside_54 rfl ?_
    exact sw_iret dX9_awakeBeside_55
  · refine sw_ild_4_2 (np := 11) dX9_awakeBeside_10 rfl ?_
    refine sw_ild_4_1 (np := 12) dX9_awakeBeside_11 rfl ?_
    refine sw_ild_4_3 (np := 13) dX9_awakeBeside_12 rfl ?_
    refine sw_cS2i (np := 16) (hX9_areBeside (d := d - 1) (by omega) ) sw_ms_X9_areBeside sw_wl_RX9_210 dX9_awakeBeside_13 (sw_fit_rm (by omega) (by decide)) (Nat.le_of_ble_eq_true rfl) rfl (fun r1 S2 => ?_)
    refine sw_if_eq (np := 19) (tp := 45) dX9_awakeBeside_16 rfl rfl ?_ ?_
    · refine sw_iconst (np := 46) dX9_awakeBeside_45 sw_ic_0 rfl ?_
      refine sw_iadd (np := 47) dX9_awakeBeside_46 rfl ?_
      refine sw_isl_4_2 (np := 48) dX9_awakeBeside_47 rfl rfl (fun x2_2 => ?_)
      refine sw_inc_4_3 (np := 51) dX9_awakeBeside_48 sw_ic_1 rfl rfl ?_
      refine sw_goto (tp := 4) dX9_awakeBeside_51 rfl ?_
      exact hrec1 _ _ _
    · refine sw_ald_4_0 (np := 20) dX9_awakeBeside_19 rfl ?_
      refine sw_gR (np := 23) sw_f_RX9_31 sw_k_105 sw_r_105_17 dX9_awakeBeside_20 rfl ?_
      refine sw_ild_4_3 (np := 24) dX9_awakeBeside_23 rfl ?_
      refine sw_iald (np := 25) sw_k_113 sw_n_113 dX9_awakeBeside_24 rfl ?_
      refine sw_if_lt (np := 28) (tp := 45) dX9_awakeBeside_25 rfl rfl ?_ ?_
      · refine sw_iconst (np := 46) dX9_awakeBeside_45 sw_ic_0 rfl ?_
        refine sw_iadd (np := 47) dX9_awakeBeside_46 rfl ?_
        refine sw_isl_4_2 (np := 48) dX9_awakeBeside_47 rfl rfl (fun x2_3 => ?_)
        refine sw_inc_4_3 (np := 51) dX9_awakeBeside_48 sw_ic_1 rfl rfl ?_
        refine sw_goto (tp := 4) dX9_awakeBeside_51 rfl ?_
        exact hrec1 _ _ _
      · refine sw_ald_4_0 (np := 29) dX9_awakeBeside_28 rfl ?_
        refine sw_ald_4_0 (np := 30) dX9_awakeBeside_29 rfl ?_
        refine sw_gR (np := 33) sw_f_RX9_31 sw_k_105 sw_r_105_17 dX9_awakeBeside_30 rfl ?_
        refine sw_ild_4_3 (np := 34) dX9_awakeBeside_33 rfl ?_
        refine sw_iald (np := 35) sw_k_113 sw_n_113 dX9_awakeBeside_34 rfl ?_
        refine sw_cV1i (np := 38) (hX9_isAwake (d := d - 1) (by omega) ) sw_mv_X9_isAwake sw_k_105 sw_wl_RX9_214 dX9_awakeBeside_35 (sw_fit_rm (by omega) (by decide)) (Nat.le_of_ble_eq_true rfl) rfl (fun r2 S3 => ?_)
        refine sw_if_eq (np := 41) (tp := 45) dX9_awakeBeside_38 rfl rfl ?_ ?_
        · refine sw_iconst (np := 46) dX9_awakeBeside_45 sw_ic_0 rfl ?_
          refine sw_iadd (np := 47) dX9_awakeBeside_46 rfl ?_
          refine sw_isl_4_2 (np := 48) dX9_awakeBeside_47 rfl rfl (fun x2_4 => ?_)
          refine sw_inc_4_3 (np := 51) dX9_awakeBeside_48 sw_ic_1 rfl rfl ?_
          refine sw_goto (tp := 4) dX9_awakeBeside_51 rfl ?_
          exact hrec1 _ _ _
        · refine sw_iconst (np := 42) dX9_awakeBeside_41 sw_ic_1 rfl ?_
          refine sw_goto (tp := 46) dX9_awakeBeside_42 rfl ?_
          refine sw_iadd (np := 47) dX9_awakeBeside_46 rfl ?_
          refine sw_isl_4_2 (np := 48) dX9_awakeBeside_47 rfl rfl (fun x2_5 => ?_)
          refine sw_inc_4_3 (np := 51) dX9_awakeBeside_48 sw_ic_1 rfl rfl ?_
          refine sw_goto (tp := 4) dX9_awakeBeside_51 rfl ?_
          exact hrec1 _ _ _
/-- SwordAtticModel.growsIn(I)I -/
def fX9_growsIn (N : Nat) (p1 : Int32) (S : sw_St) : Option (Int32 × sw_St) :=
  sw_gd (sw_in p1 12) (sw_li (S.1 113 p1.toNatClampNeg) (fun x2_1 => (sw_bd (fX9_awakeBeside N p1 S) (fun r1 S1 => (sw_jn1 (fun y1 S2 => (sw_gd (sw_in ((10 : Int32) + x2_1) 53) (sw_gd (sw_in ((20 : Int32) + x2_1) 53) (sw_li (((((S2.1 106 ((10 : Int32) + x2_1).toNatClampNeg) + ((3 : Int32) * r1)) - ((S2.1 106 ((20 : Int32) + x2_1).toNatClampNeg) / (20 : Int32))) - ((8 : Int32) * y1)) - (2 : Int32)) (fun x5_1 => (if (S2.1 105 10) < 0 then (if x5_1 ≥ (-20 : Int32) then (if x5_1 ≤ (20 : Int32) then (some (x5_1, S2)) else (some ((20 : Int32), S2))) else (some ((-20 : Int32), S2))) else (sw_gd (sw_in ((10 : Int32) + x2_1) 53) (sw_gd (sw_in (0 : Int32) 6) (sw_ls (sw_si S2 112 (0 : Int32).toNatClampNeg (S2.1 106 ((10 : Int32) + x2_1).toNatClampNeg)) (fun S3 => (sw_gd (sw_in ((20 : Int32) + x2_1) 53) (sw_gd (sw_in (1 : Int32) 6) (sw_ls (sw_si S3 112 (1 : Int32).toNatClampNeg (S3.1 106 ((20 : Int32) + x2_1).toNatClampNeg)) (fun S4 => (sw_gd (sw_in x2_1 10) (sw_gd (sw_in (2 : Int32) 6) (sw_ls (sw_si S4 112 (2 : Int32).toNatClampNeg (S4.1 114 x2_1.toNatClampNeg)) (fun S5 => (sw_gd (sw_in (3 : Int32) 6) (sw_ls (sw_si S5 112 (3 : Int32).toNatClampNeg r1) (fun S6 => (sw_gd (sw_in (4 : Int32) 6) (sw_ls (sw_si S6 112 (4 : Int32).toNatClampNeg y1) (fun S7 => (sw_gd (sw_in (5 : Int32) 6) (sw_ls (sw_si S7 112 (5 : Int32).toNatClampNeg (S7.1 105 19)) (fun S8 => (sw_bd (fX9_workOut N (0 : Int32) (S8.1 105 10) S8) (fun r2 S9 => (if r2 ≥ (-20 : Int32) then (if r2 ≤ (20 : Int32) then (some (r2, S9)) else (some ((20 : Int32), S9))) else (some ((-20 : Int32), S9)))))))))))))))))))))))))))))))) (fun k1 => (if (S1.1 105 20) = p1 then (k1 (1 : Int32) S1) else (k1 (0 : Int32) S1))))))))
theorem hX9_growsIn {G : sw_G} {N d : Nat} (hd : 105 ≤ d) {p1 : Int32}  {S : sw_St} : sw_Ev G yX9_growsIn cX9_growsIn 6 (some .int) d sw_ei [sw_vr G 105, .int p1] S (fX9_growsIn N p1 S) := by
  refine sw_Ev_of (own := RX9) (lv0 := [some (sw_vr G 105), some (.int p1), none, none, none, none]) (by decide) rfl (Nat.le_of_ble_eq_true rfl) rfl ?_
  unfold fX9_growsIn
  refine sw_ald_6_0 (np := 1) dX9_growsIn_0 rfl ?_
  refine sw_gR (np := 4) sw_f_RX9_31 sw_k_105 sw_r_105_17 dX9_growsIn_1 rfl ?_
  refine sw_ild_6_1 (np := 5) dX9_growsIn_4 rfl ?_
  refine sw_iald (np := 6) sw_k_113 sw_n_113 dX9_growsIn_5 rfl ?_
  refine sw_isl_6_2 (np := 7) dX9_growsIn_6 rfl rfl (fun x2_1 => ?_)
  refine sw_ald_6_0 (np := 8) dX9_growsIn_7 rfl ?_
  refine sw_ild_6_1 (np := 9) dX9_growsIn_8 rfl ?_
  refine sw_cV1i (np := 12) (hX9_awakeBeside (d := d - 1) (by omega) ) sw_mv_X9_awakeBeside sw_k_105 sw_wl_RX9_217 dX9_growsIn_9 (sw_fit_rm (by omega) (by decide)) (Nat.le_of_ble_eq_true rfl) rfl (fun r1 S1 => ?_)
  refine sw_ist_6_3 (np := 13) dX9_growsIn_12 rfl rfl ?_
  refine sw_ald_6_0 (np := 14) dX9_growsIn_13 rfl ?_
  refine sw_gI (np := 17) sw_f_RX9_204 sw_k_105 dX9_growsIn_14 rfl ?_
  refine sw_ild_6_1 (np := 18) dX9_growsIn_17 rfl ?_
  refine sw_jm1 (pj := 26) (fun y1 => [some (sw_vr G 105), none, some (.int x2_1), some (.int r1), none, none]) (fun y1 => [.int y1]) (fun y1 S2 => ?_) (fun k1 hk1 => ?_)
  · refine sw_ist_6_4 (np := 28) dX9_growsIn_26 rfl rfl ?_
    refine sw_ald_6_0 (np := 29) dX9_growsIn_28 rfl ?_
    refine sw_gR (np := 32) sw_f_RX9_9 sw_k_105 sw_r_105_0 dX9_growsIn_29 rfl ?_
    refine sw_bipush (np := 34) dX9_growsIn_32 sw_bc_10 rfl ?_
    refine sw_ild_6_2 (np := 35) dX9_growsIn_34 rfl ?_
    refine sw_iadd (np := 36) dX9_growsIn_35 rfl ?_
    refine sw_iald (np := 37) sw_k_106 sw_n_106 dX9_growsIn_36 rfl ?_
    refine sw_iconst (np := 38) dX9_growsIn_37 sw_ic_3 rfl ?_
    refine sw_ild_6_3 (np := 39) dX9_growsIn_38 rfl ?_
    refine sw_imul (np := 40) dX9_growsIn_39 rfl ?_
    refine sw_iadd (np := 41) dX9_growsIn_40 rfl ?_
    refine sw_ald_6_0 (np := 42) dX9_growsIn_41 rfl ?_
    refine sw_gR (np := 45) sw_f_RX9_9 sw_k_105 sw_r_105_0 dX9_growsIn_42 rfl ?_
    refine sw_bipush (np := 47) dX9_growsIn_45 sw_bc_20 rfl ?_
    refine sw_ild_6_2 (np := 48) dX9_growsIn_47 rfl ?_
    refine sw_iadd (np := 49) dX9_growsIn_48 rfl ?_
    refine sw_iald (np := 50) sw_k_106 sw_n_106 dX9_growsIn_49 rfl ?_
    refine sw_bipush (np := 52) dX9_growsIn_50 sw_bc_20 rfl ?_
    refine sw_idiv (np := 53) dX9_growsIn_52 (by decide) rfl ?_
    refine sw_isub (np := 54) dX9_growsIn_53 rfl ?_
    refine sw_bipush (np := 56) dX9_growsIn_54 sw_bc_8 rfl ?_
    refine sw_ild_6_4 (np := 58) dX9_growsIn_56 rfl ?_
    refine sw_imul (np := 59) dX9_growsIn_58 rfl ?_
    refine sw_isub (np := 60) dX9_growsIn_59 rfl ?_
    refine sw_iconst (np := 61) dX9_growsIn_60 sw_ic_2 rfl ?_
    refine sw_isub (np := 62) dX9_growsIn_61 rfl ?_
    refine sw_isl_6_5 (np := 64) dX9_growsIn_62 rfl rfl (fun x5_1 => ?_)
    refine sw_ald_6_0 (np := 65) dX9_growsIn_64 rfl ?_
    refine sw_gI (np := 68) sw_f_RX9_77 sw_k_105 dX9_growsIn_65 rfl ?_
    refine sw_if_lt (np := 71) (tp := 149) dX9_growsIn_68 rfl rfl ?_ ?_
    · refine sw_ild_6_5 (np := 151) dX9_growsIn_149 rfl ?_
      refine sw_bipush (np := 153) dX9_growsIn_151 sw_bc_m20 rfl ?_
      refine sw_icmp_ge (np := 156) (tp := 161) dX9_growsIn_153 rfl rfl ?_ ?_
      · refine sw_ild_6_5 (np := 163) dX9_growsIn_161 rfl ?_
        refine sw_bipush (np := 165) dX9_growsIn_163 sw_bc_20 rfl ?_
        refine sw_icmp_le (np := 168) (tp := 173) dX9_growsIn_165 rfl rfl ?_ ?_
        · refine sw_ild_6_5 (np := 175) dX9_growsIn_173 rfl ?_
          exact sw_iret dX9_growsIn_175
        · refine sw_bipush (np := 170) dX9_growsIn_168 sw_bc_20 rfl ?_
          refine sw_goto (tp := 175) dX9_growsIn_170 rfl ?_
          exact sw_iret dX9_growsIn_175
      · refine sw_bipush (np := 158) dX9_growsIn_156 sw_bc_m20 rfl ?_
        refine sw_goto (tp := 175) dX9_growsIn_158 rfl ?_
        exact sw_iret dX9_growsIn_175
    · refine sw_ald_6_0 (np := 72) dX9_growsIn_71 rfl ?_
      refine sw_gR (np := 75) sw_f_RX9_28 sw_k_105 sw_r_105_16 dX9_growsIn_72 rfl ?_
      refine sw_iconst (np := 76) dX9_growsIn_75 sw_ic_0 rfl ?_
      refine sw_ald_6_0 (np := 77) dX9_growsIn_76 rfl ?_
      refine sw_gR (np := 80) sw_f_RX9_9 sw_k_105 sw_r_105_0 dX9_growsIn_77 rfl ?_
      refine sw_bipush (np := 82) dX9_growsIn_80 sw_bc_10 rfl ?_
      refine sw_ild_6_2 (np := 83) dX9_growsIn_82 rfl ?_
      refine sw_iadd (np := 84) dX9_growsIn_83 rfl ?_
      refine sw_iald (np := 85) sw_k_106 sw_n_106 dX9_growsIn_84 rfl ?_
      refine sw_sI (np := 86) sw_k_112 sw_n_112 dX9_growsIn_85 rfl (fun S3 => ?_)
      refine sw_ald_6_0 (np := 87) dX9_growsIn_86 rfl ?_
      refine sw_gR (np := 90) sw_f_RX9_28 sw_k_105 sw_r_105_16 dX9_growsIn_87 rfl ?_
      refine sw_iconst (np := 91) dX9_growsIn_90 sw_ic_1 rfl ?_
      refine sw_ald_6_0 (np := 92) dX9_growsIn_91 rfl ?_
      refine sw_gR (np := 95) sw_f_RX9_9 sw_k_105 sw_r_105_0 dX9_growsIn_92 rfl ?_
      refine sw_bipush (np := 97) dX9_growsIn_95 sw_bc_20 rfl ?_
      refine sw_ild_6_2 (np := 98) dX9_growsIn_97 rfl ?_
      refine sw_iadd (np := 99) dX9_growsIn_98 rfl ?_
      refine sw_iald (np := 100) sw_k_106 sw_n_106 dX9_growsIn_99 rfl ?_
      refine sw_sI (np := 101) sw_k_112 sw_n_112 dX9_growsIn_100 rfl (fun S4 => ?_)
      refine sw_ald_6_0 (np := 102) dX9_growsIn_101 rfl ?_
      refine sw_gR (np := 105) sw_f_RX9_28 sw_k_105 sw_r_105_16 dX9_growsIn_102 rfl ?_
      refine sw_iconst (np := 106) dX9_growsIn_105 sw_ic_2 rfl ?_
      refine sw_ald_6_0 (np := 107) dX9_growsIn_106 rfl ?_
      refine sw_gR (np := 110) sw_f_RX9_34 sw_k_105 sw_r_105_18 dX9_growsIn_107 rfl ?_
      refine sw_ild_6_2 (np := 111) dX9_growsIn_110 rfl ?_
      refine sw_iald (np := 112) sw_k_114 sw_n_114 dX9_growsIn_111 rfl ?_
      refine sw_sI (np := 113) sw_k_112 sw_n_112 dX9_growsIn_112 rfl (fun S5 => ?_)
      refine sw_ald_6_0 (np := 114) dX9_growsIn_113 rfl ?_
      refine sw_gR (np := 117) sw_f_RX9_28 sw_k_105 sw_r_105_16 dX9_growsIn_114 rfl ?_
      refine sw_iconst (np := 118) dX9_growsIn_117 sw_ic_3 rfl ?_
      refine sw_ild_6_3 (np := 119) dX9_growsIn_118 rfl ?_
      refine sw_sI (np := 120) sw_k_112 sw_n_112 dX9_growsIn_119 rfl (fun S6 => ?_)
      refine sw_ald_6_0 (np := 121) dX9_growsIn_120 rfl ?_
      refine sw_gR (np := 124) sw_f_RX9_28 sw_k_105 sw_r_105_16 dX9_growsIn_121 rfl ?_
      refine sw_iconst (np := 125) dX9_growsIn_124 sw_ic_4 rfl ?_
      refine sw_ild_6_4 (np := 127) dX9_growsIn_125 rfl ?_
      refine sw_sI (np := 128) sw_k_112 sw_n_112 dX9_growsIn_127 rfl (fun S7 => ?_)
      refine sw_ald_6_0 (np := 129) dX9_growsIn_128 rfl ?_
      refine sw_gR (np := 132) sw_f_RX9_28 sw_k_105 sw_r_105_16 dX9_growsIn_129 rfl ?_
      refine sw_iconst (np := 133) dX9_growsIn_132 sw_ic_5 rfl ?_
      refine sw_ald_6_0 (np := 134) dX9_growsIn_133 rfl ?_
      refine sw_gI (np := 137) sw_f_RX9_201 sw_k_105 dX9_growsIn_134 rfl ?_
      refine sw_sI (np := 138) sw_k_112 sw_n_112 dX9_growsIn_137 rfl (fun S8 => ?_)
      refine sw_ald_6_0 (np := 139) dX9_growsIn_138 rfl ?_
      refine sw_iconst (np := 140) dX9_growsIn_139 sw_ic_0 rfl ?_
      refine sw_ald_6_0 (np := 141) dX9_growsIn_140 rfl ?_
      refine sw_gI (np := 144) sw_f_RX9_77 sw_k_105 dX9_growsIn_141 rfl ?_
      refine sw_cV2i (np := 147) (hX9_workOut (d := d - 1) (by omega) ) sw_mv_X9_workOut sw_k_105 sw_wl_RX9_198 dX9_growsIn_144 (sw_fit_rm (by omega) (by decide)) (Nat.le_of_ble_eq_true rfl) rfl (fun r2 S9 => ?_)
      refine sw_ist_6_5 (np := 149) dX9_growsIn_147 rfl rfl ?_
      refine sw_ild_6_5 (np := 151) dX9_growsIn_149 rfl ?_
      refine sw_bipush (np := 153) dX9_growsIn_151 sw_bc_m20 rfl ?_
      refine sw_icmp_ge (np := 156) (tp := 161) dX9_growsIn_153 rfl rfl ?_ ?_
      · refine sw_ild_6_5 (np := 163) dX9_growsIn_161 rfl ?_
        refine sw_bipush (np := 165) dX9_growsIn_163 sw_bc_20 rfl ?_
        refine sw_icmp_le (np := 168) (tp := 173) dX9_growsIn_165 rfl rfl ?_ ?_
        · refine sw_ild_6_5 (np := 175) dX9_growsIn_173 rfl ?_
          exact sw_iret dX9_growsIn_175
        · refine sw_bipush (np := 170) dX9_growsIn_168 sw_bc_20 rfl ?_
          refine sw_goto (tp := 175) dX9_growsIn_170 rfl ?_
          exact sw_iret dX9_growsIn_175
      · refine sw_bipush (np := 158) dX9_growsIn_156 sw_bc_m20 rfl ?_
        refine sw_goto (tp := 175) dX9_growsIn_158 rfl ?_
        exact sw_iret dX9_growsIn_175
  · refine sw_icmp_ne (np := 21) (tp := 25) dX9_growsIn_18 rfl rfl ?_ ?_
    · refine sw_iconst (np := 26) dX9_growsIn_25 sw_ic_0 rfl ?_
      refine sw_dr_6_1 ?_
      exact hk1 _ _
    · refine sw_iconst (np := 22) dX9_growsIn_21 sw_ic_1 rfl ?_
      refine sw_goto (tp := 26) dX9_growsIn_22 rfl ?_
      refine sw_dr_6_1 ?_
      exact hk1 _ _
/-- SwordAtticModel.heldMind(I)I -/
def fX9_heldMind (N : Nat) (p0 : Int32) (S : sw_St) : Option (Int32 × sw_St) :=
  if p0 ≥ 0 then (if p0 ≤ (99 : Int32) then (some (p0, S)) else (some ((99 : Int32), S))) else (some ((0 : Int32), S))
theorem hX9_heldMind {G : sw_G} {N d : Nat} (hd : 1 ≤ d) {p0 : Int32}  {S : sw_St} : sw_Ev G yX9_heldMind cX9_heldMind 1 (some .int) d sw_ei [.int p0] S (fX9_heldMind N p0 S) := by
  refine sw_Ev_of (own := RX9) (lv0 := [some (.int p0)]) (by decide) rfl (Nat.le_of_ble_eq_true rfl) rfl ?_
  unfold fX9_heldMind
  refine sw_ild_1_0 (np := 1) dX9_heldMind_0 rfl ?_
  refine sw_if_ge (np := 4) (tp := 8) dX9_heldMind_1 rfl rfl ?_ ?_
  · refine sw_ild_1_0 (np := 9) dX9_heldMind_8 rfl ?_
    refine sw_bipush (np := 11) dX9_heldMind_9 sw_bc_99 rfl ?_
    refine sw_icmp_le (np := 14) (tp := 19) dX9_heldMind_11 rfl rfl ?_ ?_
    · refine sw_ild_1_0 (np := 20) dX9_heldMind_19 rfl ?_
      exact sw_iret dX9_heldMind_20
    · refine sw_bipush (np := 16) dX9_heldMind_14 sw_bc_99 rfl ?_
      refine sw_goto (tp := 20) dX9_heldMind_16 rfl ?_
      exact sw_iret dX9_heldMind_20
  · refine sw_iconst (np := 5) dX9_heldMind_4 sw_ic_0 rfl ?_
    refine sw_goto (tp := 20) dX9_heldMind_5 rfl ?_
    exact sw_iret dX9_heldMind_20
/-- SwordAtticModel.goesHour()V -/
def fX9_goesHour (N : Nat)  (S : sw_St) : Option (Unit × sw_St) :=
  sw_fx1 (fun rec1 x1_1 S1 => (if x1_1 ≥ (12 : Int32) then (sw_fx1 (fun rec2 x1_2 S2 => (if x1_2 ≥ (12 : Int32) then (sw_ls (sw_si S2 105 19 (((S2.1 105 19) + (1 : Int32)) - ((S2.1 105 19) + (1 : Int32)) / (12 : Int32) * (12 : Int32))) (fun S3 => (some ((), S3)))) else (sw_gd (sw_in x1_2 12) (if (S2.1 113 x1_2.toNatClampNeg) < 0 then (rec2 (x1_2 + (1 : Int32)) S2) else (sw_gd (sw_in x1_2 12) (sw_gd (sw_in x1_2 12) (sw_gd (sw_in (S2.1 113 x1_2.toNatClampNeg) 10) (sw_gd (sw_in x1_2 12) (sw_bd (fX9_heldMind N ((S2.1 114 (S2.1 113 x1_2.toNatClampNeg).toNatClampNeg) + (S2.1 115 x1_2.toNatClampNeg)) S2) (fun r1 S4 => (sw_gd (sw_in (S2.1 113 x1_2.toNatClampNeg) 10) (sw_ls (sw_si S4 114 (S2.1 113 x1_2.toNatClampNeg).toNatClampNeg r1) (fun S5 => (rec2 (x1_2 + (1 : Int32)) S5)))))))))))))) N (0 : Int32) S1) else (sw_gd (sw_in x1_1 12) (if (S1.1 113 x1_1.toNatClampNeg) ≥ 0 then (sw_bd (fX9_growsIn N x1_1 S1) (fun r2 S6 => (sw_gd (sw_in x1_1 12) (sw_gd (sw_in ((40 : Int32) + (S6.1 113 x1_1.toNatClampNeg)) 53) (sw_gd (sw_in x1_1 12) (sw_ls (sw_si S6 115 x1_1.toNatClampNeg (r2 - ((3 : Int32) * (S6.1 106 ((40 : Int32) + (S6.1 113 x1_1.toNatClampNeg)).toNatClampNeg)))) (fun S7 => (rec1 (x1_1 + (1 : Int32)) S7)))))))) else (sw_gd (sw_in x1_1 12) (sw_ls (sw_si S1 115 x1_1.toNatClampNeg (0 : Int32)) (fun S8 => (rec1 (x1_1 + (1 : Int32)) S8)))))))) N (0 : Int32) S
theorem hX9_goesHour {G : sw_G} {N d : Nat} (hd : 106 ≤ d)   {S : sw_St} : sw_Ev G yX9_goesHour cX9_goesHour 2 none d sw_ev [sw_vr G 105] S (fX9_goesHour N  S) := by
  refine sw_Ev_of (own := RX9) (lv0 := [some (sw_vr G 105), none]) (by decide) rfl (Nat.le_of_ble_eq_true rfl) rfl ?_
  unfold fX9_goesHour
  refine sw_iconst (np := 1) dX9_goesHour_0 sw_ic_0 rfl ?_
  refine sw_ist_2_1 (np := 2) dX9_goesHour_1 rfl rfl ?_
  refine sw_lp1 (lv := fun x1_1 => [some (sw_vr G 105), some (.int x1_1)]) (fun rec1 hrec1 x1_1 S1 => ?_) _ _ _
  refine sw_ild_2_1 (np := 3) dX9_goesHour_2 rfl ?_
  refine sw_bipush (np := 5) dX9_goesHour_3 sw_bc_12 rfl ?_
  refine sw_icmp_ge (np := 8) (tp := 55) dX9_goesHour_5 rfl rfl ?_ ?_
  · refine sw_iconst (np := 56) dX9_goesHour_55 sw_ic_0 rfl ?_
    refine sw_ist_2_1 (np := 57) dX9_goesHour_56 rfl rfl ?_
    refine sw_lp1 (lv := fun x1_2 => [some (sw_vr G 105), some (.int x1_2)]) (fun rec2 hrec2 x1_2 S2 => ?_) _ _ _
    refine sw_ild_2_1 (np := 58) dX9_goesHour_57 rfl ?_
    refine sw_bipush (np := 60) dX9_goesHour_58 sw_bc_12 rfl ?_
    refine sw_icmp_ge (np := 63) (tp := 110) dX9_goesHour_60 rfl rfl ?_ ?_
    · refine sw_ald_2_0 (np := 111) dX9_goesHour_110 rfl ?_
      refine sw_ald_2_0 (np := 112) dX9_goesHour_111 rfl ?_
      refine sw_gI (np := 115) sw_f_RX9_201 sw_k_105 dX9_goesHour_112 rfl ?_
      refine sw_iconst (np := 116) dX9_goesHour_115 sw_ic_1 rfl ?_
      refine sw_iadd (np := 117) dX9_goesHour_116 rfl ?_
      refine sw_bipush (np := 119) dX9_goesHour_117 sw_bc_12 rfl ?_
      refine sw_irem (np := 120) dX9_goesHour_119 (by decide) rfl ?_
      refine sw_pI (np := 123) sw_f_RX9_201 sw_fp_9_19 sw_k_105 dX9_goesHour_120 rfl (fun S3 => ?_)
      exact sw_vret dX9_goesHour_123
    · refine sw_ald_2_0 (np := 64) dX9_goesHour_63 rfl ?_
      refine sw_gR (np := 67) sw_f_RX9_31 sw_k_105 sw_r_105_17 dX9_goesHour_64 rfl ?_
      refine sw_ild_2_1 (np := 68) dX9_goesHour_67 rfl ?_
      refine sw_iald (np := 69) sw_k_113 sw_n_113 dX9_goesHour_68 rfl ?_
      refine sw_if_lt (np := 72) (tp := 104) dX9_goesHour_69 rfl rfl ?_ ?_
      · refine sw_inc_2_1 (np := 107) dX9_goesHour_104 sw_ic_1 rfl rfl ?_
        refine sw_goto (tp := 57) dX9_goesHour_107 rfl ?_
        exact hrec2 _ _
      · refine sw_ald_2_0 (np := 73) dX9_goesHour_72 rfl ?_
        refine sw_gR (np := 76) sw_f_RX9_34 sw_k_105 sw_r_105_18 dX9_goesHour_73 rfl ?_
        refine sw_ald_2_0 (np := 77) dX9_goesHour_76 rfl ?_
        refine sw_gR (np := 80) sw_f_RX9_31 sw_k_105 sw_r_105_17 dX9_goesHour_77 rfl ?_
        refine sw_ild_2_1 (np := 81) dX9_goesHour_80 rfl ?_
        refine sw_iald (np := 82) sw_k_113 sw_n_113 dX9_goesHour_81 rfl ?_
        refine sw_ald_2_0 (np := 83) dX9_goesHour_82 rfl ?_
        refine sw_gR (np := 86) sw_f_RX9_34 sw_k_105 sw_r_105_18 dX9_goesHour_83 rfl ?_
        refine sw_ald_2_0 (np := 87) dX9_goesHour_86 rfl ?_
        refine sw_gR (np := 90) sw_f_RX9_31 sw_k_105 sw_r_105_17 dX9_goesHour_87 rfl ?_
        refine sw_ild_2_1 (np := 91) dX9_goesHour_90 rfl ?_
        refine sw_iald (np := 92) sw_k_113 sw_n_113 dX9_goesHour_91 rfl ?_
        refine sw_iald (np := 93) sw_k_114 sw_n_114 dX9_goesHour_92 rfl ?_
        refine sw_ald_2_0 (np := 94) dX9_goesHour_93 rfl ?_
        refine sw_gR (np := 97) sw_f_RX9_37 sw_k_105 sw_r_105_21 dX9_goesHour_94 rfl ?_
        refine sw_ild_2_1 (np := 98) dX9_goesHour_97 rfl ?_
        refine sw_iald (np := 99) sw_k_115 sw_n_115 dX9_goesHour_98 rfl ?_
        refine sw_iadd (np := 100) dX9_goesHour_99 rfl ?_
        refine sw_cS1i (np := 103) (hX9_heldMind (d := d - 1) (by omega) ) sw_ms_X9_heldMind sw_wl_RX9_223 dX9_goesHour_100 (sw_fit_rm (by omega) (by decide)) (Nat.le_of_ble_eq_true rfl) rfl (fun r1 S4 => ?_)
        refine sw_sI (np := 104) sw_k_114 sw_n_114 dX9_goesHour_103 rfl (fun S5 => ?_)
        refine sw_inc_2_1 (np := 107) dX9_goesHour_104 sw_ic_1 rfl rfl ?_
        refine sw_goto (tp := 57) dX9_goesHour_107 rfl ?_
        exact hrec2 _ _
  · refine sw_ald_2_0 (np := 9) dX9_goesHour_8 rfl ?_
    refine sw_gR (np := 12) sw_f_RX9_37 sw_k_105 sw_r_105_21 dX9_goesHour_9 rfl ?_
    refine sw_ild_2_1 (np := 13) dX9_goesHour_12 rfl ?_
    refine sw_ald_2_0 (np := 14) dX9_goesHour_13 rfl ?_
    refine sw_gR (np := 17) sw_f_RX9_31 sw_k_105 sw_r_105_17 dX9_goesHour_14 rfl ?_
    refine sw_ild_2_1 (np := 18) dX9_goesHour_17 rfl ?_
    refine sw_iald (np := 19) sw_k_113 sw_n_113 dX9_goesHour_18 rfl ?_
    refine sw_if_ge (np := 22) (tp := 26) dX9_goesHour_19 rfl rfl ?_ ?_
    · refine sw_ald_2_0 (np := 27) dX9_goesHour_26 rfl ?_
      refine sw_ild_2_1 (np := 28) dX9_goesHour_27 rfl ?_
      refine sw_cV1i (np := 31) (hX9_growsIn (d := d - 1) (by omega) ) sw_mv_X9_growsIn sw_k_105 sw_wl_RX9_220 dX9_goesHour_28 (sw_fit_rm (by omega) (by decide)) (Nat.le_of_ble_eq_true rfl) rfl (fun r2 S6 => ?_)
      refine sw_iconst (np := 32) dX9_goesHour_31 sw_ic_3 rfl ?_
      refine sw_ald_2_0 (np := 33) dX9_goesHour_32 rfl ?_
      refine sw_gR (np := 36) sw_f_RX9_9 sw_k_105 sw_r_105_0 dX9_goesHour_33 rfl ?_
      refine sw_bipush (np := 38) dX9_goesHour_36 sw_bc_40 rfl ?_
      refine sw_ald_2_0 (np := 39) dX9_goesHour_38 rfl ?_
      refine sw_gR (np := 42) sw_f_RX9_31 sw_k_105 sw_r_105_17 dX9_goesHour_39 rfl ?_
      refine sw_ild_2_1 (np := 43) dX9_goesHour_42 rfl ?_
      refine sw_iald (np := 44) sw_k_113 sw_n_113 dX9_goesHour_43 rfl ?_
      refine sw_iadd (np := 45) dX9_goesHour_44 rfl ?_
      refine sw_iald (np := 46) sw_k_106 sw_n_106 dX9_goesHour_45 rfl ?_
      refine sw_imul (np := 47) dX9_goesHour_46 rfl ?_
      refine sw_isub (np := 48) dX9_goesHour_47 rfl ?_
      refine sw_sI (np := 49) sw_k_115 sw_n_115 dX9_goesHour_48 rfl (fun S7 => ?_)
      refine sw_inc_2_1 (np := 52) dX9_goesHour_49 sw_ic_1 rfl rfl ?_
      refine sw_goto (tp := 2) dX9_goesHour_52 rfl ?_
      exact hrec1 _ _
    · refine sw_iconst (np := 23) dX9_goesHour_22 sw_ic_0 rfl ?_
      refine sw_goto (tp := 48) dX9_goesHour_23 rfl ?_
      refine sw_sI (np := 49) sw_k_115 sw_n_115 dX9_goesHour_48 rfl (fun S8 => ?_)
      refine sw_inc_2_1 (np := 52) dX9_goesHour_49 sw_ic_1 rfl rfl ?_
      refine sw_goto (tp := 2) dX9_goesHour_52 rfl ?_
      exact hrec1 _ _
/-- SwordAtticModel.awakeSet()I -/
def fX9_awakeSet (N : Nat)  (S : sw_St) : Option (Int32 × sw_St) :=
  sw_fx2 (fun rec1 x1_1 x2_1 S1 => (if x2_1 ≥ (S1.1 105 6) then (some (x1_1, S1)) else (sw_bd (fX9_isAwake N x2_1 S1) (fun r1 S2 => (if r1 = 0 then (sw_li (x1_1 ||| (0 : Int32)) (fun x1_2 => (rec1 x1_2 (x2_1 + (1 : Int32)) S2))) else (sw_li (x1_1 ||| ((1 : Int32) <<< (x2_1 &&& 31))) (fun x1_3 => (rec1 x1_3 (x2_1 + (1 : Int32)) S2)))))))) N (0 : Int32) (0 : Int32) S
theorem hX9_awakeSet {G : sw_G} {N d : Nat} (hd : 2 ≤ d)   {S : sw_St} : sw_Ev G yX9_awakeSet cX9_awakeSet 3 (some .int) d sw_ei [sw_vr G 105] S (fX9_awakeSet N  S) := by
  refine sw_Ev_of (own := RX9) (lv0 := [some (sw_vr G 105), none, none]) (by decide) rfl (Nat.le_of_ble_eq_true rfl) rfl ?_
  unfold fX9_awakeSet
  refine sw_iconst (np := 1) dX9_awakeSet_0 sw_ic_0 rfl ?_
  refine sw_ist_3_1 (np := 2) dX9_awakeSet_1 rfl rfl ?_
  refine sw_iconst (np := 3) dX9_awakeSet_2 sw_ic_0 rfl ?_
  refine sw_ist_3_2 (np := 4) dX9_awakeSet_3 rfl rfl ?_
  refine sw_lp2 (lv := fun x1_1 x2_1 => [some (sw_vr G 105), some (.int x1_1), some (.int x2_1)]) (fun rec1 hrec1 x1_1 x2_1 S1 => ?_) _ _ _ _
  refine sw_ild_3_2 (np := 5) dX9_awakeSet_4 rfl ?_
  refine sw_ald_3_0 (np := 6) dX9_awakeSet_5 rfl ?_
  refine sw_gI (np := 9) sw_f_RX9_95 sw_k_105 dX9_awakeSet_6 rfl ?_
  refine sw_icmp_ge (np := 12) (tp := 36) dX9_awakeSet_9 rfl rfl ?_ ?_
  · refine sw_ild_3_1 (np := 37) dX9_awakeSet_36 rfl ?_
    exact sw_iret dX9_awakeSet_37
  · refine sw_ild_3_1 (np := 13) dX9_awakeSet_12 rfl ?_
    refine sw_ald_3_0 (np := 14) dX9_awakeSet_13 rfl ?_
    refine sw_ild_3_2 (np := 15) dX9_awakeSet_14 rfl ?_
    refine sw_cV1i (np := 18) (hX9_isAwake (d := d - 1) (by omega) ) sw_mv_X9_isAwake sw_k_105 sw_wl_RX9_214 dX9_awakeSet_15 (sw_fit_rm (by omega) (by decide)) (Nat.le_of_ble_eq_true rfl) rfl (fun r1 S2 => ?_)
    refine sw_if_eq (np := 21) (tp := 27) dX9_awakeSet_18 rfl rfl ?_ ?_
    · refine sw_iconst (np := 28) dX9_awakeSet_27 sw_ic_0 rfl ?_
      refine sw_ior (np := 29) dX9_awakeSet_28 rfl ?_
      refine sw_isl_3_1 (np := 30) dX9_awakeSet_29 rfl rfl (fun x1_2 => ?_)
      refine sw_inc_3_2 (np := 33) dX9_awakeSet_30 sw_ic_1 rfl rfl ?_
      refine sw_goto (tp := 4) dX9_awakeSet_33 rfl ?_
      exact hrec1 _ _ _
    · refine sw_iconst (np := 22) dX9_awakeSet_21 sw_ic_1 rfl ?_
      refine sw_ild_3_2 (np := 23) dX9_awakeSet_22 rfl ?_
      refine sw_ishl (np := 24) dX9_awakeSet_23 rfl ?_
      refine sw_goto (tp := 28) dX9_awakeSet_24 rfl ?_
      refine sw_ior (np := 29) dX9_awakeSet_28 rfl ?_
      refine sw_isl_3_1 (np := 30) dX9_awakeSet_29 rfl rfl (fun x1_3 => ?_)
      refine sw_inc_3_2 (np := 33) dX9_awakeSet_30 sw_ic_1 rfl rfl ?_
      refine sw_goto (tp := 4) dX9_awakeSet_33 rfl ?_
      exact hrec1 _ _ _
/-- SwordAtticModel.awakeMany()I -/
def fX9_awakeMany (N : Nat)  (S : sw_St) : Option (Int32 × sw_St) :=
  sw_bd (fX9_awakeSet N S) (fun r1 S1 => (sw_bd (fX9_bitsOf N r1 S1) (fun r2 S2 => (some (r2, S2)))))
theorem hX9_awakeMany {G : sw_G} {N d : Nat} (hd : 3 ≤ d)   {S : sw_St} : sw_Ev G yX9_awakeMany cX9_awakeMany 1 (some .int) d sw_ei [sw_vr G 105] S (fX9_awakeMany N  S) := by
  refine sw_Ev_of (own := RX9) (lv0 := [some (sw_vr G 105)]) (by decide) rfl (Nat.le_of_ble_eq_true rfl) rfl ?_
  unfold fX9_awakeMany
  refine sw_ald_1_0 (np := 1) dX9_awakeMany_0 rfl ?_
  refine sw_cV0i (np := 4) (hX9_awakeSet (d := d - 1) (by omega) ) sw_mv_X9_awakeSet sw_k_105 sw_wl_RX9_226 dX9_awakeMany_1 (sw_fit_rm (by omega) (by decide)) (Nat.le_of_ble_eq_true rfl) rfl (fun r1 S1 => ?_)
  refine sw_cS1i (np := 7) (hX9_bitsOf (d := d - 1) (by omega) ) sw_ms_X9_bitsOf sw_wl_RX9_229 dX9_awakeMany_4 (sw_fit_rm (by omega) (by decide)) (Nat.le_of_ble_eq_true rfl) rfl (fun r2 S2 => ?_)
  exact sw_iret dX9_awakeMany_7
/-- SwordAtticModel.mindAll()I -/
def fX9_mindAll (N : Nat)  (S : sw_St) : Option (Int32 × sw_St) :=
  sw_fx2 (fun rec1 x1_1 x2_1 S1 => (if x2_1 ≥ (S1.1 105 6) then (some (x1_1, S1)) else (sw_gd (sw_in x2_1 10) (sw_li (x1_1 + (S1.1 114 x2_1.toNatClampNeg)) (fun x1_2 => (rec1 x1_2 (x2_1 + (1 : Int32)) S1)))))) N (0 : Int32) (0 : Int32) S
theorem hX9_mindAll {G : sw_G} {N d : Nat} (hd : 1 ≤ d)   {S : sw_St} : sw_Ev G yX9_mindAll cX9_mindAll 3 (some .int) d sw_ei [sw_vr G 105] S (fX9_mindAll N  S) := by
  refine sw_Ev_of (own := RX9) (lv0 := [some (sw_vr G 105), none, none]) (by decide) rfl (Nat.le_of_ble_eq_true rfl) rfl ?_
  unfold fX9_mindAll
  refine sw_iconst (np := 1) dX9_mindAll_0 sw_ic_0 rfl ?_
  refine sw_ist_3_1 (np := 2) dX9_mindAll_1 rfl rfl ?_
  refine sw_iconst (np := 3) dX9_mindAll_2 sw_ic_0 rfl ?_
  refine sw_ist_3_2 (np := 4) dX9_mindAll_3 rfl rfl ?_
  refine sw_lp2 (lv := fun x1_1 x2_1 => [some (sw_vr G 105), some (.int x1_1), some (.int x2_1)]) (fun rec1 hrec1 x1_1 x2_1 S1 => ?_) _ _ _ _
  refine sw_ild_3_2 (np := 5) dX9_mindAll_4 rfl ?_
  refine sw_ald_3_0 (np := 6) dX9_mindAll_5 rfl ?_
  refine sw_gI (np := 9) sw_f_RX9_95 sw_k_105 dX9_mindAll_6 rfl ?_
  refine sw_icmp_ge (np := 12) (tp := 27) dX9_mindAll_9 rfl rfl ?_ ?_
  · refine sw_ild_3_1 (np := 28) dX9_mindAll_27 rfl ?_
    exact sw_iret dX9_mindAll_28
  · refine sw_ild_3_1 (np := 13) dX9_mindAll_12 rfl ?_
    refine sw_ald_3_0 (np := 14) dX9_mindAll_13 rfl ?_
    refine sw_gR (np := 17) sw_f_RX9_34 sw_k_105 sw_r_105_18 dX9_mindAll_14 rfl ?_
    refine sw_ild_3_2 (np := 18) dX9_mindAll_17 rfl ?_
    refine sw_iald (np := 19) sw_k_114 sw_n_114 dX9_mindAll_18 rfl ?_
    refine sw_iadd (np := 20) dX9_mindAll_19 rfl ?_
    refine sw_isl_3_1 (np := 21) dX9_mindAll_20 rfl rfl (fun x1_2 => ?_)
    refine sw_inc_3_2 (np := 24) dX9_mindAll_21 sw_ic_1 rfl rfl ?_
    refine sw_goto (tp := 4) dX9_mindAll_24 rfl ?_
    exact hrec1 _ _ _
/-- SwordAtticModel.grows(I)I -/
def fX9_grows (N : Nat) (p1 : Int32) (S : sw_St) : Option (Int32 × sw_St) :=
  sw_bd (fX9_isSword N p1.toInt64 S) (fun r1 S1 => (if r1 = 0 then (some ((-2000000000 : Int32), S1)) else (sw_bd (fX9_begins N S1) (fun _ S2 => (sw_gd (sw_in p1 53) (sw_bd (fX9_growsIn N (S2.1 106 p1.toNatClampNeg) S2) (fun r3 S3 => (some (r3, S3)))))))))
theorem hX9_grows {G : sw_G} {N d : Nat} (hd : 106 ≤ d) {p1 : Int32}  {S : sw_St} : sw_Ev G yX9_grows cX9_grows 2 (some .int) d sw_ei [sw_vr G 105, .int p1] S (fX9_grows N p1 S) := by
  refine sw_Ev_of (own := RX9) (lv0 := [some (sw_vr G 105), some (.int p1)]) (by decide) rfl (Nat.le_of_ble_eq_true rfl) rfl ?_
  unfold fX9_grows
  refine sw_ald_2_0 (np := 1) dX9_grows_0 rfl ?_
  refine sw_ild_2_1 (np := 2) dX9_grows_1 rfl ?_
  refine sw_i2l (np := 3) dX9_grows_2 rfl ?_
  refine sw_cV1i (np := 6) (hX9_isSword (d := d - 1) (by omega) ) sw_mv_X9_isSword sw_k_105 sw_wl_RX9_127 dX9_grows_3 (sw_fit_rm (by omega) (by decide)) (Nat.le_of_ble_eq_true rfl) rfl (fun r1 S1 => ?_)
  refine sw_if_ne (np := 9) (tp := 12) dX9_grows_6 rfl rfl ?_ ?_
  · refine sw_ald_2_0 (np := 13) dX9_grows_12 rfl ?_
    refine sw_cV0v (np := 16) (hX9_begins (d := d - 1) (by omega) ) sw_mv_X9_begins sw_k_105 sw_wl_RX9_233 dX9_grows_13 (sw_fit_rm (by omega) (by decide)) (Nat.le_of_ble_eq_true rfl) rfl (fun _ S2 => ?_)
    refine sw_ald_2_0 (np := 17) dX9_grows_16 rfl ?_
    refine sw_ald_2_0 (np := 18) dX9_grows_17 rfl ?_
    refine sw_gR (np := 21) sw_f_RX9_9 sw_k_105 sw_r_105_0 dX9_grows_18 rfl ?_
    refine sw_ild_2_1 (np := 22) dX9_grows_21 rfl ?_
    refine sw_iald (np := 23) sw_k_106 sw_n_106 dX9_grows_22 rfl ?_
    refine sw_cV1i (np := 26) (hX9_growsIn (d := d - 1) (by omega) ) sw_mv_X9_growsIn sw_k_105 sw_wl_RX9_220 dX9_grows_23 (sw_fit_rm (by omega) (by decide)) (Nat.le_of_ble_eq_true rfl) rfl (fun r3 S3 => ?_)
    exact sw_iret dX9_grows_26
  · refine sw_ldc (np := 11) sw_wc_RX9_232 dX9_grows_9 rfl ?_
    exact sw_iret dX9_grows_11
/-- SwordAtticModel.isToldAt(II)V -/
def fX9_isToldAt (N : Nat) (p1 : Int32) (p2 : Int32) (S : sw_St) : Option (Unit × sw_St) :=
  sw_gd (sw_in p1 12) (sw_li (S.1 113 p1.toNatClampNeg) (fun x3_1 => (if x3_1 < 0 then (some ((), S)) else (sw_gd (sw_in x3_1 10) (sw_gd (sw_in ((10 : Int32) + x3_1) 53) (if (S.1 106 ((10 : Int32) + x3_1).toNatClampNeg) > p2 then (sw_bd (fX9_heldMind N ((S.1 114 x3_1.toNatClampNeg) + p2) S) (fun r1 S1 => (sw_gd (sw_in x3_1 10) (sw_ls (sw_si S1 114 x3_1.toNatClampNeg r1) (fun S2 => (some ((), S2))))))) else (sw_bd (fX9_heldMind N ((S.1 114 x3_1.toNatClampNeg) + ((-2 : Int32) * p2)) S) (fun r2 S3 => (sw_gd (sw_in x3_1 10) (sw_ls (sw_si S3 114 x3_1.toNatClampNeg r2) (fun S4 => (some ((), S4)))))))))))))
theorem hX9_isToldAt {G : sw_G} {N d : Nat} (hd : 2 ≤ d) {p1 : Int32} {p2 : Int32}  {S : sw_St} : sw_Ev G yX9_isToldAt cX9_isToldAt 4 none d sw_ev [sw_vr G 105, .int p1, .int p2] S (fX9_isToldAt N p1 p2 S) := by
  refine sw_Ev_of (own := RX9) (lv0 := [some (sw_vr G 105), some (.int p1), some (.int p2), none]) (by decide) rfl (Nat.le_of_ble_eq_true rfl) rfl ?_
  unfold fX9_isToldAt
  refine sw_ald_4_0 (np := 1) dX9_isToldAt_0 rfl ?_
  refine sw_gR (np := 4) sw_f_RX9_31 sw_k_105 sw_r_105_17 dX9_isToldAt_1 rfl ?_
  refine sw_ild_4_1 (np := 5) dX9_isToldAt_4 rfl ?_
  refine sw_iald (np := 6) sw_k_113 sw_n_113 dX9_isToldAt_5 rfl ?_
  refine sw_isl_4_3 (np := 7) dX9_isToldAt_6 rfl rfl (fun x3_1 => ?_)
  refine sw_ild_4_3 (np := 8) dX9_isToldAt_7 rfl ?_
  refine sw_if_lt (np := 11) (tp := 48) dX9_isToldAt_8 rfl rfl ?_ ?_
  · exact sw_vret dX9_isToldAt_48
  · refine sw_ald_4_0 (np := 12) dX9_isToldAt_11 rfl ?_
    refine sw_gR (np := 15) sw_f_RX9_34 sw_k_105 sw_r_105_18 dX9_isToldAt_12 rfl ?_
    refine sw_ild_4_3 (np := 16) dX9_isToldAt_15 rfl ?_
    refine sw_ald_4_0 (np := 17) dX9_isToldAt_16 rfl ?_
    refine sw_gR (np := 20) sw_f_RX9_34 sw_k_105 sw_r_105_18 dX9_isToldAt_17 rfl ?_
    refine sw_ild_4_3 (np := 21) dX9_isToldAt_20 rfl ?_
    refine sw_iald (np := 22) sw_k_114 sw_n_114 dX9_isToldAt_21 rfl ?_
    refine sw_ald_4_0 (np := 23) dX9_isToldAt_22 rfl ?_
    refine sw_gR (np := 26) sw_f_RX9_9 sw_k_105 sw_r_105_0 dX9_isToldAt_23 rfl ?_
    refine sw_bipush (np := 28) dX9_isToldAt_26 sw_bc_10 rfl ?_
    refine sw_ild_4_3 (np := 29) dX9_isToldAt_28 rfl ?_
    refine sw_iadd (np := 30) dX9_isToldAt_29 rfl ?_
    refine sw_iald (np := 31) sw_k_106 sw_n_106 dX9_isToldAt_30 rfl ?_
    refine sw_ild_4_2 (np := 32) dX9_isToldAt_31 rfl ?_
    refine sw_icmp_gt (np := 35) (tp := 42) dX9_isToldAt_32 rfl rfl ?_ ?_
    · refine sw_ild_4_2 (np := 43) dX9_isToldAt_42 rfl ?_
      refine sw_iadd (np := 44) dX9_isToldAt_43 rfl ?_
      refine sw_cS1i (np := 47) (hX9_heldMind (d := d - 1) (by omega) ) sw_ms_X9_heldMind sw_wl_RX9_223 dX9_isToldAt_44 (sw_fit_rm (by omega) (by decide)) (Nat.le_of_ble_eq_true rfl) rfl (fun r1 S1 => ?_)
      refine sw_sI (np := 48) sw_k_114 sw_n_114 dX9_isToldAt_47 rfl (fun S2 => ?_)
      exact sw_vret dX9_isToldAt_48
    · refine sw_bipush (np := 37) dX9_isToldAt_35 sw_bc_m2 rfl ?_
      refine sw_ild_4_2 (np := 38) dX9_isToldAt_37 rfl ?_
      refine sw_imul (np := 39) dX9_isToldAt_38 rfl ?_
      refine sw_goto (tp := 43) dX9_isToldAt_39 rfl ?_
      refine sw_iadd (np := 44) dX9_isToldAt_43 rfl ?_
      refine sw_cS1i (np := 47) (hX9_heldMind (d := d - 1) (by omega) ) sw_ms_X9_heldMind sw_wl_RX9_223 dX9_isToldAt_44 (sw_fit_rm (by omega) (by decide)) (Nat.le_of_ble_eq_true rfl) rfl (fun r2 S3 => ?_)
      refine sw_sI (np := 48) sw_k_114 sw_n_114 dX9_isToldAt_47 rfl (fun S4 => ?_)
      exact sw_vret dX9_isToldAt_48
/-- SwordAtticModel.touchedMany()I -/
def fX9_touchedMany (N : Nat)  (S : sw_St) : Option (Int32 × sw_St) :=
  sw_fx2 (fun rec1 x1_1 x2_1 S1 => (if x2_1 ≥ (12 : Int32) then (some (x1_1, S1)) else (sw_gd (sw_in x2_1 12) (if (S1.1 116 x2_1.toNatClampNeg) = (2 : Int32) then (sw_li (x1_1 + (1 : Int32)) (fun x1_3 => (rec1 x1_3 (x2_1 + (1 : Int32)) S1))) else (sw_li (x1_1 + (0 : Int32)) (fun x1_2 => (rec1 x1_2 (x2_1 + (1 : Int32)) S1))))))) N (0 : Int32) (0 : Int32) S
theorem hX9_touchedMany {G : sw_G} {N d : Nat} (hd : 1 ≤ d)   {S : sw_St} : sw_Ev G yX9_touchedMany cX9_touchedMany 3 (some .int) d sw_ei [sw_vr G 105] S (fX9_touchedMany N  S) := by
  refine sw_Ev_of (own := RX9) (lv0 := [some (sw_vr G 105), none, none]) (by decide) rfl (Nat.le_of_ble_eq_true rfl) rfl ?_
  unfold fX9_touchedMany
  refine sw_iconst (np := 1) dX9_touchedMany_0 sw_ic_0 rfl ?_
  refine sw_ist_3_1 (np := 2) dX9_touchedMany_1 rfl rfl ?_
  refine sw_iconst (np := 3) dX9_touchedMany_2 sw_ic_0 rfl ?_
  refine sw_ist_3_2 (np := 4) dX9_touchedMany_3 rfl rfl ?_
  refine sw_lp2 (lv := fun x1_1 x2_1 => [some (sw_vr G 105), some (.int x1_1), some (.int x2_1)]) (fun rec1 hrec1 x1_1 x2_1 S1 => ?_) _ _ _ _
  refine sw_ild_3_2 (np := 5) dX9_touchedMany_4 rfl ?_
  refine sw_bipush (np := 7) dX9_touchedMany_5 sw_bc_12 rfl ?_
  refine sw_icmp_ge (np := 10) (tp := 34) dX9_touchedMany_7 rfl rfl ?_ ?_
  · refine sw_ild_3_1 (np := 35) dX9_touchedMany_34 rfl ?_
    exact sw_iret dX9_touchedMany_35
  · refine sw_ild_3_1 (np := 11) dX9_touchedMany_10 rfl ?_
    refine sw_ald_3_0 (np := 12) dX9_touchedMany_11 rfl ?_
    refine sw_gR (np := 15) sw_f_RX9_40 sw_k_105 sw_r_105_22 dX9_touchedMany_12 rfl ?_
    refine sw_ild_3_2 (np := 16) dX9_touchedMany_15 rfl ?_
    refine sw_iald (np := 17) sw_k_116 sw_n_116 dX9_touchedMany_16 rfl ?_
    refine sw_iconst (np := 18) dX9_touchedMany_17 sw_ic_2 rfl ?_
    refine sw_icmp_ne (np := 21) (tp := 25) dX9_touchedMany_18 rfl rfl ?_ ?_
    · refine sw_iconst (np := 26) dX9_touchedMany_25 sw_ic_0 rfl ?_
      refine sw_iadd (np := 27) dX9_touchedMany_26 rfl ?_
      refine sw_isl_3_1 (np := 28) dX9_touchedMany_27 rfl rfl (fun x1_2 => ?_)
      refine sw_inc_3_2 (np := 31) dX9_touchedMany_28 sw_ic_1 rfl rfl ?_
      refine sw_goto (tp := 4) dX9_touchedMany_31 rfl ?_
      exact hrec1 _ _ _
    · refine sw_iconst (np := 22) dX9_touchedMany_21 sw_ic_1 rfl ?_
      refine sw_goto (tp := 26) dX9_touchedMany_22 rfl ?_
      refine sw_iadd (np := 27) dX9_touchedMany_26 rfl ?_
      refine sw_isl_3_1 (np := 28) dX9_touchedMany_27 rfl rfl (fun x1_3 => ?_)
      refine sw_inc_3_2 (np := 31) dX9_touchedMany_28 sw_ic_1 rfl rfl ?_
      refine sw_goto (tp := 4) dX9_touchedMany_31 rfl ?_
      exact hrec1 _ _ _
/-- SwordAtticModel.isTouched(I)V -/
def fX9_isTouched (N : Nat) (p1 : Int32) (S : sw_St) : Option (Unit × sw_St) :=
  sw_fx1 (fun rec1 x2_1 S1 => (if x2_1 ≥ (12 : Int32) then (sw_fx1 (fun rec2 x2_2 S2 => (if x2_2 = 0 then (some ((), S2)) else (sw_fx2 (fun rec3 x2_3 x3_1 S3 => (if x3_1 ≥ (12 : Int32) then (rec2 x2_3 S3) else (sw_gd (sw_in x3_1 12) (if (S3.1 116 x3_1.toNatClampNeg) = (1 : Int32) then (sw_gd (sw_in x3_1 12) (if (S3.1 113 x3_1.toNatClampNeg) < 0 then (rec3 x2_3 (x3_1 + (1 : Int32)) S3) else (sw_gd (sw_in x3_1 12) (sw_ls (sw_si S3 116 x3_1.toNatClampNeg (2 : Int32)) (fun S4 => (sw_gd (sw_in x3_1 12) (sw_bd (fX9_isAwake N (S4.1 113 x3_1.toNatClampNeg) S4) (fun r1 S5 => (sw_gd (sw_in x3_1 12) (sw_gd (sw_in x3_1 12) (sw_gd (sw_in (S5.1 113 x3_1.toNatClampNeg) 10) (sw_bd (fX9_heldMind N ((S5.1 114 (S5.1 113 x3_1.toNatClampNeg).toNatClampNeg) + (15 : Int32)) S5) (fun r2 S6 => (sw_gd (sw_in (S5.1 113 x3_1.toNatClampNeg) 10) (sw_ls (sw_si S6 114 (S5.1 113 x3_1.toNatClampNeg).toNatClampNeg r2) (fun S7 => (sw_fx1 (fun rec4 x5_1 S8 => (if x5_1 ≥ (12 : Int32) then (rec3 (1 : Int32) (x3_1 + (1 : Int32)) S8) else (if r1 = 0 then (sw_gd (sw_in x3_1 12) (sw_bd (fX9_isAwake N (S8.1 113 x3_1.toNatClampNeg) S8) (fun r3 S10 => (if r3 = 0 then (sw_gd (sw_in x5_1 12) (sw_gd (sw_in x5_1 12) (sw_ls (sw_si S10 116 x5_1.toNatClampNeg (S10.1 116 x5_1.toNatClampNeg)) (fun S11 => (rec4 (x5_1 + (1 : Int32)) S11))))) else (sw_bd (fX9_areBeside N x3_1 x5_1 S10) (fun r4 S12 => (if r4 = 0 then (sw_gd (sw_in x5_1 12) (sw_gd (sw_in x5_1 12) (sw_ls (sw_si S12 116 x5_1.toNatClampNeg (S12.1 116 x5_1.toNatClampNeg)) (fun S13 => (rec4 (x5_1 + (1 : Int32)) S13))))) else (sw_gd (sw_in x5_1 12) (if (S12.1 116 x5_1.toNatClampNeg) = 0 then (sw_gd (sw_in x5_1 12) (sw_ls (sw_si S12 116 x5_1.toNatClampNeg (1 : Int32)) (fun S15 => (rec4 (x5_1 + (1 : Int32)) S15)))) else (sw_gd (sw_in x5_1 12) (sw_gd (sw_in x5_1 12) (sw_ls (sw_si S12 116 x5_1.toNatClampNeg (S12.1 116 x5_1.toNatClampNeg)) (fun S14 => (rec4 (x5_1 + (1 : Int32)) S14)))))))))))))) else (sw_gd (sw_in x5_1 12) (sw_gd (sw_in x5_1 12) (sw_ls (sw_si S8 116 x5_1.toNatClampNeg (S8.1 116 x5_1.toNatClampNeg)) (fun S9 => (rec4 (x5_1 + (1 : Int32)) S9)))))))) N (0 : Int32) S7))))))))))))))))) else (rec3 x2_3 (x3_1 + (1 : Int32)) S3))))) N (0 : Int32) (0 : Int32) S2))) N (1 : Int32) S1) else (if x2_1 = p1 then (sw_gd (sw_in x2_1 12) (sw_ls (sw_si S1 116 x2_1.toNatClampNeg (1 : Int32)) (fun S17 => (rec1 (x2_1 + (1 : Int32)) S17)))) else (sw_gd (sw_in x2_1 12) (sw_ls (sw_si S1 116 x2_1.toNatClampNeg (0 : Int32)) (fun S16 => (rec1 (x2_1 + (1 : Int32)) S16))))))) N (0 : Int32) S
theorem hX9_isTouched {G : sw_G} {N d : Nat} (hd : 3 ≤ d) {p1 : Int32}  {S : sw_St} : sw_Ev G yX9_isTouched cX9_isTouched 6 none d sw_ev [sw_vr G 105, .int p1] S (fX9_isTouched N p1 S) := by
  refine sw_Ev_of (own := RX9) (lv0 := [some (sw_vr G 105), some (.int p1), none, none, none, none]) (by decide) rfl (Nat.le_of_ble_eq_true rfl) rfl ?_
  unfold fX9_isTouched
  refine sw_iconst (np := 1) dX9_isTouched_0 sw_ic_0 rfl ?_
  refine sw_ist_6_2 (np := 2) dX9_isTouched_1 rfl rfl ?_
  refine sw_lp1 (lv := fun x2_1 => [some (sw_vr G 105), some (.int p1), some (.int x2_1), none, none, none]) (fun rec1 hrec1 x2_1 S1 => ?_) _ _ _
  refine sw_ild_6_2 (np := 3) dX9_isTouched_2 rfl ?_
  refine sw_bipush (np := 5) dX9_isTouched_3 sw_bc_12 rfl ?_
  refine sw_icmp_ge (np := 8) (tp := 30) dX9_isTouched_5 rfl rfl ?_ ?_
  · refine sw_iconst (np := 31) dX9_isTouched_30 sw_ic_1 rfl ?_
    refine sw_ist_6_2 (np := 32) dX9_isTouched_31 rfl rfl ?_
    refine sw_dr_6_1 ?_
    refine sw_lp1 (lv := fun x2_2 => [some (sw_vr G 105), none, some (.int x2_2), none, none, none]) (fun rec2 hrec2 x2_2 S2 => ?_) _ _ _
    refine sw_ild_6_2 (np := 33) dX9_isTouched_32 rfl ?_
    refine sw_if_eq (np := 36) (tp := 194) dX9_isTouched_33 rfl rfl ?_ ?_
    · exact sw_vret dX9_isTouched_194
    · refine sw_iconst (np := 37) dX9_isTouched_36 sw_ic_0 rfl ?_
      refine sw_ist_6_2 (np := 38) dX9_isTouched_37 rfl rfl ?_
      refine sw_iconst (np := 39) dX9_isTouched_38 sw_ic_0 rfl ?_
      refine sw_ist_6_3 (np := 40) dX9_isTouched_39 rfl rfl ?_
      refine sw_lp2 (lv := fun x2_3 x3_1 => [some (sw_vr G 105), none, some (.int x2_3), some (.int x3_1), none, none]) (fun rec3 hrec3 x2_3 x3_1 S3 => ?_) _ _ _ _
      refine sw_ild_6_3 (np := 41) dX9_isTouched_40 rfl ?_
      refine sw_bipush (np := 43) dX9_isTouched_41 sw_bc_12 rfl ?_
      refine sw_icmp_ge (np := 46) (tp := 191) dX9_isTouched_43 rfl rfl ?_ ?_
      · refine sw_goto (tp := 32) dX9_isTouched_191 rfl ?_
        refine sw_dr_6_3 ?_
        exact hrec2 _ _
      · refine sw_ald_6_0 (np := 47) dX9_isTouched_46 rfl ?_
        refine sw_gR (np := 50) sw_f_RX9_40 sw_k_105 sw_r_105_22 dX9_isTouched_47 rfl ?_
        refine sw_ild_6_3 (np := 51) dX9_isTouched_50 rfl ?_
        refine sw_iald (np := 52) sw_k_116 sw_n_116 dX9_isTouched_51 rfl ?_
        refine sw_iconst (np := 53) dX9_isTouched_52 sw_ic_1 rfl ?_
        refine sw_icmp_ne (np := 56) (tp := 185) dX9_isTouched_53 rfl rfl ?_ ?_
        · refine sw_inc_6_3 (np := 188) dX9_isTouched_185 sw_ic_1 rfl rfl ?_
          refine sw_goto (tp := 40) dX9_isTouched_188 rfl ?_
          exact hrec3 _ _ _
        · refine sw_ald_6_0 (np := 57) dX9_isTouched_56 rfl ?_
          refine sw_gR (np := 60) sw_f_RX9_31 sw_k_105 sw_r_105_17 dX9_isTouched_57 rfl ?_
          refine sw_ild_6_3 (np := 61) dX9_isTouched_60 rfl ?_
          refine sw_iald (np := 62) sw_k_113 sw_n_113 dX9_isTouched_61 rfl ?_
          refine sw_if_lt (np := 65) (tp := 185) dX9_isTouched_62 rfl rfl ?_ ?_
          · refine sw_inc_6_3 (np := 188) dX9_isTouched_185 sw_ic_1 rfl rfl ?_
            refine sw_goto (tp := 40) dX9_isTouched_188 rfl ?_
            exact hrec3 _ _ _
          · refine sw_iconst (np := 66) dX9_isTouched_65 sw_ic_1 rfl ?_
            refine sw_ist_6_2 (np := 67) dX9_isTouched_66 rfl rfl ?_
            refine sw_ald_6_0 (np := 68) dX9_isTouched_67 rfl ?_
            refine sw_gR (np := 71) sw_f_RX9_40 sw_k_105 sw_r_105_22 dX9_isTouched_68 rfl ?_
            refine sw_ild_6_3 (np := 72) dX9_isTouched_71 rfl ?_
            refine sw_iconst (np := 73) dX9_isTouched_72 sw_ic_2 rfl ?_
            refine sw_sI (np := 74) sw_k_116 sw_n_116 dX9_isTouched_73 rfl (fun S4 => ?_)
            refine sw_ald_6_0 (np := 75) dX9_isTouched_74 rfl ?_
            refine sw_ald_6_0 (np := 76) dX9_isTouched_75 rfl ?_
            refine sw_gR (np := 79) sw_f_RX9_31 sw_k_105 sw_r_105_17 dX9_isTouched_76 rfl ?_
            refine sw_ild_6_3 (np := 80) dX9_isTouched_79 rfl ?_
            refine sw_iald (np := 81) sw_k_113 sw_n_113 dX9_isTouched_80 rfl ?_
            refine sw_cV1i (np := 84) (hX9_isAwake (d := d - 1) (by omega) ) sw_mv_X9_isAwake sw_k_105 sw_wl_RX9_214 dX9_isTouched_81 (sw_fit_rm (by omega) (by decide)) (Nat.le_of_ble_eq_true rfl) rfl (fun r1 S5 => ?_)
            refine sw_ist_6_4 (np := 86) dX9_isTouched_84 rfl rfl ?_
            refine sw_ald_6_0 (np := 87) dX9_isTouched_86 rfl ?_
            refine sw_gR (np := 90) sw_f_RX9_34 sw_k_105 sw_r_105_18 dX9_isTouched_87 rfl ?_
            refine sw_ald_6_0 (np := 91) dX9_isTouched_90 rfl ?_
            refine sw_gR (np := 94) sw_f_RX9_31 sw_k_105 sw_r_105_17 dX9_isTouched_91 rfl ?_
            refine sw_ild_6_3 (np := 95) dX9_isTouched_94 rfl ?_
            refine sw_iald (np := 96) sw_k_113 sw_n_113 dX9_isTouched_95 rfl ?_
            refine sw_ald_6_0 (np := 97) dX9_isTouched_96 rfl ?_
            refine sw_gR (np := 100) sw_f_RX9_34 sw_k_105 sw_r_105_18 dX9_isTouched_97 rfl ?_
            refine sw_ald_6_0 (np := 101) dX9_isTouched_100 rfl ?_
            refine sw_gR (np := 104) sw_f_RX9_31 sw_k_105 sw_r_105_17 dX9_isTouched_101 rfl ?_
            refine sw_ild_6_3 (np := 105) dX9_isTouched_104 rfl ?_
            refine sw_iald (np := 106) sw_k_113 sw_n_113 dX9_isTouched_105 rfl ?_
            refine sw_iald (np := 107) sw_k_114 sw_n_114 dX9_isTouched_106 rfl ?_
            refine sw_bipush (np := 109) dX9_isTouched_107 sw_bc_15 rfl ?_
            refine sw_iadd (np := 110) dX9_isTouched_109 rfl ?_
            refine sw_cS1i (np := 113) (hX9_heldMind (d := d - 1) (by omega) ) sw_ms_X9_heldMind sw_wl_RX9_223 dX9_isTouched_110 (sw_fit_rm (by omega) (by decide)) (Nat.le_of_ble_eq_true rfl) rfl (fun r2 S6 => ?_)
            refine sw_sI (np := 114) sw_k_114 sw_n_114 dX9_isTouched_113 rfl (fun S7 => ?_)
            refine sw_iconst (np := 115) dX9_isTouched_114 sw_ic_0 rfl ?_
            refine sw_ist_6_5 (np := 117) dX9_isTouched_115 rfl rfl ?_
            refine sw_lp1 (lv := fun x5_1 => [some (sw_vr G 105), none, some (.int (1 : Int32)), some (.int x3_1), some (.int r1), some (.int x5_1)]) (fun rec4 hrec4 x5_1 S8 => ?_) _ _ _
            refine sw_ild_6_5 (np := 119) dX9_isTouched_117 rfl ?_
            refine sw_bipush (np := 121) dX9_isTouched_119 sw_bc_12 rfl ?_
            refine sw_icmp_ge (np := 124) (tp := 185) dX9_isTouched_121 rfl rfl ?_ ?_
            · refine sw_inc_6_3 (np := 188) dX9_isTouched_185 sw_ic_1 rfl rfl ?_
              refine sw_goto (tp := 40) dX9_isTouched_188 rfl ?_
              refine sw_dr_6_4 ?_
              refine sw_dr_6_5 ?_
              exact hrec3 _ _ _
            · refine sw_ald_6_0 (np := 125) dX9_isTouched_124 rfl ?_
              refine sw_gR (np := 128) sw_f_RX9_40 sw_k_105 sw_r_105_22 dX9_isTouched_125 rfl ?_
              refine sw_ild_6_5 (np := 130) dX9_isTouched_128 rfl ?_
              refine sw_ild_6_4 (np := 132) dX9_isTouched_130 rfl ?_
              refine sw_if_ne (np := 135) (tp := 171) dX9_isTouched_132 rfl rfl ?_ ?_
              · refine sw_ald_6_0 (np := 172) dX9_isTouched_171 rfl ?_
                refine sw_gR (np := 175) sw_f_RX9_40 sw_k_105 sw_r_105_22 dX9_isTouched_172 rfl ?_
                refine sw_ild_6_5 (np := 177) dX9_isTouched_175 rfl ?_
                refine sw_iald (np := 178) sw_k_116 sw_n_116 dX9_isTouched_177 rfl ?_
                refine sw_sI (np := 179) sw_k_116 sw_n_116 dX9_isTouched_178 rfl (fun S9 => ?_)
                refine sw_inc_6_5 (np := 182) dX9_isTouched_179 sw_ic_1 rfl rfl ?_
                refine sw_goto (tp := 117) dX9_isTouched_182 rfl ?_
                exact hrec4 _ _
              · refine sw_ald_6_0 (np := 136) dX9_isTouched_135 rfl ?_
                refine sw_ald_6_0 (np := 137) dX9_isTouched_136 rfl ?_
                refine sw_gR (np := 140) sw_f_RX9_31 sw_k_105 sw_r_105_17 dX9_isTouched_137 rfl ?_
                refine sw_ild_6_3 (np := 141) dX9_isTouched_140 rfl ?_
                refine sw_iald (np := 142) sw_k_113 sw_n_113 dX9_isTouched_141 rfl ?_
                refine sw_cV1i (np := 145) (hX9_isAwake (d := d - 1) (by omega) ) sw_mv_X9_isAwake sw_k_105 sw_wl_RX9_214 dX9_isTouched_142 (sw_fit_rm (by omega) (by decide)) (Nat.le_of_ble_eq_true rfl) rfl (fun r3 S10 => ?_)
                refine sw_if_eq (np := 148) (tp := 171) dX9_isTouched_145 rfl rfl ?_ ?_
                · refine sw_ald_6_0 (np := 172) dX9_isTouched_171 rfl ?_
                  refine sw_gR (np := 175) sw_f_RX9_40 sw_k_105 sw_r_105_22 dX9_isTouched_172 rfl ?_
                  refine sw_ild_6_5 (np := 177) dX9_isTouched_175 rfl ?_
                  refine sw_iald (np := 178) sw_k_116 sw_n_116 dX9_isTouched_177 rfl ?_
                  refine sw_sI (np := 179) sw_k_116 sw_n_116 dX9_isTouched_178 rfl (fun S11 => ?_)
                  refine sw_inc_6_5 (np := 182) dX9_isTouched_179 sw_ic_1 rfl rfl ?_
                  refine sw_goto (tp := 117) dX9_isTouched_182 rfl ?_
                  exact hrec4 _ _
                · refine sw_ild_6_3 (np := 149) dX9_isTouched_148 rfl ?_
                  refine sw_ild_6_5 (np := 151) dX9_isTouched_149 rfl ?_
                  refine sw_cS2i (np := 154) (hX9_areBeside (d := d - 1) (by omega) ) sw_ms_X9_areBeside sw_wl_RX9_210 dX9_isTouched_151 (sw_fit_rm (by omega) (by decide)) (Nat.le_of_ble_eq_true rfl) rfl (fun r4 S12 => ?_)
                  refine sw_if_eq (np := 157) (tp := 171) dX9_isTouched_154 rfl rfl ?_ ?_
                  · refine sw_ald_6_0 (np := 172) dX9_isTouched_171 rfl ?_
                    refine sw_gR (np := 175) sw_f_RX9_40 sw_k_105 sw_r_105_22 dX9_isTouched_172 rfl ?_
                    refine sw_ild_6_5 (np := 177) dX9_isTouched_175 rfl ?_
                    refine sw_iald (np := 178) sw_k_116 sw_n_116 dX9_isTouched_177 rfl ?_
                    refine sw_sI (np := 179) sw_k_116 sw_n_116 dX9_isTouched_178 rfl (fun S13 => ?_)
                    refine sw_inc_6_5 (np := 182) dX9_isTouched_179 sw_ic_1 rfl rfl ?_
                    refine sw_goto (tp := 117) dX9_isTouched_182 rfl ?_
                    exact hrec4 _ _
                  · refine sw_ald_6_0 (np := 158) dX9_isTouched_157 rfl ?_
                    refine sw_gR (np := 161) sw_f_RX9_40 sw_k_105 sw_r_105_22 dX9_isTouched_158 rfl ?_
                    refine sw_ild_6_5 (np := 163) dX9_isTouched_161 rfl ?_
                    refine sw_iald (np := 164) sw_k_116 sw_n_116 dX9_isTouched_163 rfl ?_
                    refine sw_if_ne (np := 167) (tp := 171) dX9_isTouched_164 rfl rfl ?_ ?_
                    · refine sw_ald_6_0 (np := 172) dX9_isTouched_171 rfl ?_
                      refine sw_gR (np := 175) sw_f_RX9_40 sw_k_105 sw_r_105_22 dX9_isTouched_172 rfl ?_
                      refine sw_ild_6_5 (np := 177) dX9_isTouched_175 rfl ?_
                      refine sw_iald (np := 178) sw_k_116 sw_n_116 dX9_isTouched_177 rfl ?_
                      refine sw_sI (np := 179) sw_k_116 sw_n_116 dX9_isTouched_178 rfl (fun S14 => ?_)
                      refine sw_inc_6_5 (np := 182) dX9_isTouched_179 sw_ic_1 rfl rfl ?_
                      refine sw_goto (tp := 117) dX9_isTouched_182 rfl ?_
                      exact hrec4 _ _
                    · refine sw_iconst (np := 168) dX9_isTouched_167 sw_ic_1 rfl ?_
                      refine sw_goto (tp := 178) dX9_isTouched_168 rfl ?_
                      refine sw_sI (np := 179) sw_k_116 sw_n_116 dX9_isTouched_178 rfl (fun S15 => ?_)
                      refine sw_inc_6_5 (np := 182) dX9_isTouched_179 sw_ic_1 rfl rfl ?_
                      refine sw_goto (tp := 117) dX9_isTouched_182 rfl ?_
                      exact hrec4 _ _
  · refine sw_ald_6_0 (np := 9) dX9_isTouched_8 rfl ?_
    refine sw_gR (np := 12) sw_f_RX9_40 sw_k_105 sw_r_105_22 dX9_isTouched_9 rfl ?_
    refine sw_ild_6_2 (np := 13) dX9_isTouched_12 rfl ?_
    refine sw_ild_6_2 (np := 14) dX9_isTouched_13 rfl ?_
    refine sw_ild_6_1 (np := 15) dX9_isTouched_14 rfl ?_
    refine sw_icmp_ne (np := 18) (tp := 22) dX9_isTouched_15 rfl rfl ?_ ?_
    · refine sw_iconst (np := 23) dX9_isTouched_22 sw_ic_0 rfl ?_
      refine sw_sI (np := 24) sw_k_116 sw_n_116 dX9_isTouched_23 rfl (fun S16 => ?_)
      refine sw_inc_6_2 (np := 27) dX9_isTouched_24 sw_ic_1 rfl rfl ?_
      refine sw_goto (tp := 2) dX9_isTouched_27 rfl ?_
      exact hrec1 _ _
    · refine sw_iconst (np := 19) dX9_isTouched_18 sw_ic_1 rfl ?_
      refine sw_goto (tp := 23) dX9_isTouched_19 rfl ?_
      refine sw_sI (np := 24) sw_k_116 sw_n_116 dX9_isTouched_23 rfl (fun S17 => ?_)
      refine sw_inc_6_2 (np := 27) dX9_isTouched_24 sw_ic_1 rfl rfl ?_
      refine sw_goto (tp := 2) dX9_isTouched_27 rfl ?_
      exact hrec1 _ _
/-- SwordAtticModel.bytesIs(I)I -/
def fX9_bytesIs (N : Nat) (p1 : Int32) (S : sw_St) : Option (Int32 × sw_St) :=
  sw_bd (fX9_isShelf N p1 S) (fun r1 S1 => (if r1 = 0 then (some ((-1 : Int32), S1)) else (sw_gd (sw_in p1 6) (if (S1.1 124 p1.toNatClampNeg) ≥ 0 then (sw_gd (sw_in p1 6) (if (S1.1 124 p1.toNatClampNeg) = (50 : Int32) then (some ((1 : Int32), S1)) else (some ((-12 : Int32), S1)))) else (some ((-11 : Int32), S1))))))
theorem hX9_bytesIs {G : sw_G} {N d : Nat} (hd : 3 ≤ d) {p1 : Int32}  {S : sw_St} : sw_Ev G yX9_bytesIs cX9_bytesIs 2 (some .int) d sw_ei [sw_vr G 105, .int p1] S (fX9_bytesIs N p1 S) := by
  refine sw_Ev_of (own := RX9) (lv0 := [some (sw_vr G 105), some (.int p1)]) (by decide) rfl (Nat.le_of_ble_eq_true rfl) rfl ?_
  unfold fX9_bytesIs
  refine sw_ild_2_1 (np := 1) dX9_bytesIs_0 rfl ?_
  refine sw_cS1i (np := 4) (hX9_isShelf (d := d - 1) (by omega) ) sw_ms_X9_isShelf sw_wl_RX9_119 dX9_bytesIs_1 (sw_fit_rm (by omega) (by decide)) (Nat.le_of_ble_eq_true rfl) rfl (fun r1 S1 => ?_)
  refine sw_if_ne (np := 7) (tp := 11) dX9_bytesIs_4 rfl rfl ?_ ?_
  · refine sw_ald_2_0 (np := 12) dX9_bytesIs_11 rfl ?_
    refine sw_gR (np := 15) sw_f_RX9_64 sw_k_105 sw_r_105_38 dX9_bytesIs_12 rfl ?_
    refine sw_ild_2_1 (np := 16) dX9_bytesIs_15 rfl ?_
    refine sw_iald (np := 17) sw_k_124 sw_n_124 dX9_bytesIs_16 rfl ?_
    refine sw_if_ge (np := 20) (tp := 25) dX9_bytesIs_17 rfl rfl ?_ ?_
    · refine sw_ald_2_0 (np := 26) dX9_bytesIs_25 rfl ?_
      refine sw_gR (np := 29) sw_f_RX9_64 sw_k_105 sw_r_105_38 dX9_bytesIs_26 rfl ?_
      refine sw_ild_2_1 (np := 30) dX9_bytesIs_29 rfl ?_
      refine sw_iald (np := 31) sw_k_124 sw_n_124 dX9_bytesIs_30 rfl ?_
      refine sw_bipush (np := 33) dX9_bytesIs_31 sw_bc_50 rfl ?_
      refine sw_icmp_ne (np := 36) (tp := 40) dX9_bytesIs_33 rfl rfl ?_ ?_
      · refine sw_bipush (np := 42) dX9_bytesIs_40 sw_bc_m12 rfl ?_
        exact sw_iret dX9_bytesIs_42
      · refine sw_iconst (np := 37) dX9_bytesIs_36 sw_ic_1 rfl ?_
        refine sw_goto (tp := 42) dX9_bytesIs_37 rfl ?_
        exact sw_iret dX9_bytesIs_42
    · refine sw_bipush (np := 22) dX9_bytesIs_20 sw_bc_m11 rfl ?_
      refine sw_goto (tp := 42) dX9_bytesIs_22 rfl ?_
      exact sw_iret dX9_bytesIs_42
  · refine sw_iconst (np := 8) dX9_bytesIs_7 sw_ic_m1 rfl ?_
    refine sw_goto (tp := 42) dX9_bytesIs_8 rfl ?_
    exact sw_iret dX9_bytesIs_42
/-- SwordAtticModel.hourMany(I)I -/
def fX9_hourMany (N : Nat) (p1 : Int32) (S : sw_St) : Option (Int32 × sw_St) :=
  sw_fx1 (fun rec1 x2_1 S1 => (if x2_1 ≥ (24 : Int32) then (some (x2_1, S1)) else (sw_gd (sw_in p1 6) (if x2_1 ≥ (S1.1 125 p1.toNatClampNeg) then (some (x2_1, S1)) else (sw_gd (sw_in (((60 : Int32) * p1) + x2_1) 360) (sw_bd (fX9_isCot N (S1.2 126 (((60 : Int32) * p1) + x2_1).toNatClampNeg) S1) (fun r1 S2 => (if r1 = 0 then (some (x2_1, S2)) else (rec1 (x2_1 + (1 : Int32)) S2))))))))) N (0 : Int32) S
theorem hX9_hourMany {G : sw_G} {N d : Nat} (hd : 3 ≤ d) {p1 : Int32}  {S : sw_St} : sw_Ev G yX9_hourMany cX9_hourMany 3 (some .int) d sw_ei [sw_vr G 105, .int p1] S (fX9_hourMany N p1 S) := by
  refine sw_Ev_of (own := RX9) (lv0 := [some (sw_vr G 105), some (.int p1), none]) (by decide) rfl (Nat.le_of_ble_eq_true rfl) rfl ?_
  unfold fX9_hourMany
  refine sw_iconst (np := 1) dX9_hourMany_0 sw_ic_0 rfl ?_
  refine sw_ist_3_2 (np := 2) dX9_hourMany_1 rfl rfl ?_
  refine sw_lp1 (lv := fun x2_1 => [some (sw_vr G 105), some (.int p1), some (.int x2_1)]) (fun rec1 hrec1 x2_1 S1 => ?_) _ _ _
  refine sw_ild_3_2 (np := 3) dX9_hourMany_2 rfl ?_
  refine sw_bipush (np := 5) dX9_hourMany_3 sw_bc_24 rfl ?_
  refine sw_icmp_ge (np := 8) (tp := 41) dX9_hourMany_5 rfl rfl ?_ ?_
  · refine sw_ild_3_2 (np := 42) dX9_hourMany_41 rfl ?_
    exact sw_iret dX9_hourMany_42
  · refine sw_ild_3_2 (np := 9) dX9_hourMany_8 rfl ?_
    refine sw_ald_3_0 (np := 10) dX9_hourMany_9 rfl ?_
    refine sw_gR (np := 13) sw_f_RX9_67 sw_k_105 sw_r_105_39 dX9_hourMany_10 rfl ?_
    refine sw_ild_3_1 (np := 14) dX9_hourMany_13 rfl ?_
    refine sw_iald (np := 15) sw_k_125 sw_n_125 dX9_hourMany_14 rfl ?_
    refine sw_icmp_ge (np := 18) (tp := 41) dX9_hourMany_15 rfl rfl ?_ ?_
    · refine sw_ild_3_2 (np := 42) dX9_hourMany_41 rfl ?_
      exact sw_iret dX9_hourMany_42
    · refine sw_ald_3_0 (np := 19) dX9_hourMany_18 rfl ?_
      refine sw_gR (np := 22) sw_f_RX9_70 sw_k_105 sw_r_105_40 dX9_hourMany_19 rfl ?_
      refine sw_bipush (np := 24) dX9_hourMany_22 sw_bc_60 rfl ?_
      refine sw_ild_3_1 (np := 25) dX9_hourMany_24 rfl ?_
      refine sw_imul (np := 26) dX9_hourMany_25 rfl ?_
      refine sw_ild_3_2 (np := 27) dX9_hourMany_26 rfl ?_
      refine sw_iadd (np := 28) dX9_hourMany_27 rfl ?_
      refine sw_lald (np := 29) sw_k_126 sw_n_126 dX9_hourMany_28 rfl ?_
      refine sw_cS1i (np := 32) (hX9_isCot (d := d - 1) (by omega) ) sw_ms_X9_isCot sw_wl_RX9_104 dX9_hourMany_29 (sw_fit_rm (by omega) (by decide)) (Nat.le_of_ble_eq_true rfl) rfl (fun r1 S2 => ?_)
      refine sw_if_eq (np := 35) (tp := 41) dX9_hourMany_32 rfl rfl ?_ ?_
      · refine sw_ild_3_2 (np := 42) dX9_hourMany_41 rfl ?_
        exact sw_iret dX9_hourMany_42
      · refine sw_inc_3_2 (np := 38) dX9_hourMany_35 sw_ic_1 rfl rfl ?_
        refine sw_goto (tp := 2) dX9_hourMany_38 rfl ?_
        exact hrec1 _ _
/-- SwordAtticModel.goesNext(II)V -/
def fX9_goesNext (N : Nat) (p1 : Int32) (p2 : Int32) (S : sw_St) : Option (Unit × sw_St) :=
  sw_gd (sw_in (((60 : Int32) * p1) + p2) 360) (sw_ls (sw_si S 105 20 ((S.2 126 (((60 : Int32) * p1) + p2).toNatClampNeg).toInt32)) (fun S1 => (sw_bd (fX9_goesHour N S1) (fun _ S2 => (some ((), S2))))))
theorem hX9_goesNext {G : sw_G} {N d : Nat} (hd : 107 ≤ d) {p1 : Int32} {p2 : Int32}  {S : sw_St} : sw_Ev G yX9_goesNext cX9_goesNext 3 none d sw_ev [sw_vr G 105, .int p1, .int p2] S (fX9_goesNext N p1 p2 S) := by
  refine sw_Ev_of (own := RX9) (lv0 := [some (sw_vr G 105), some (.int p1), some (.int p2)]) (by decide) rfl (Nat.le_of_ble_eq_true rfl) rfl ?_
  unfold fX9_goesNext
  refine sw_ald_3_0 (np := 1) dX9_goesNext_0 rfl ?_
  refine sw_ald_3_0 (np := 2) dX9_goesNext_1 rfl ?_
  refine sw_gR (np := 5) sw_f_RX9_70 sw_k_105 sw_r_105_40 dX9_goesNext_2 rfl ?_
  refine sw_bipush (np := 7) dX9_goesNext_5 sw_bc_60 rfl ?_
  refine sw_ild_3_1 (np := 8) dX9_goesNext_7 rfl ?_
  refine sw_imul (np := 9) dX9_goesNext_8 rfl ?_
  refine sw_ild_3_2 (np := 10) dX9_goesNext_9 rfl ?_
  refine sw_iadd (np := 11) dX9_goesNext_10 rfl ?_
  refine sw_lald (np := 12) sw_k_126 sw_n_126 dX9_goesNext_11 rfl ?_
  refine sw_l2i (np := 13) dX9_goesNext_12 rfl ?_
  refine sw_pI (np := 16) sw_f_RX9_204 sw_fp_9_20 sw_k_105 dX9_goesNext_13 rfl (fun S1 => ?_)
  refine sw_ald_3_0 (np := 17) dX9_goesNext_16 rfl ?_
  refine sw_cV0v (np := 20) (hX9_goesHour (d := d - 1) (by omega) ) sw_mv_X9_goesHour sw_k_105 sw_wl_RX9_236 dX9_goesNext_17 (sw_fit_rm (by omega) (by decide)) (Nat.le_of_ble_eq_true rfl) rfl (fun _ S2 => ?_)
  exact sw_vret dX9_goesNext_20
/-- SwordAtticModel.goesRound(II)V -/
def fX9_goesRound (N : Nat) (p1 : Int32) (p2 : Int32) (S : sw_St) : Option (Unit × sw_St) :=
  sw_bd (fX9_begins N S) (fun _ S1 => (sw_bd (fX9_hourMany N p1 S1) (fun r2 S2 => (sw_fx1 (fun rec1 x4_1 S3 => (if x4_1 ≥ p2 then (some ((), S3)) else (if x4_1 ≥ r2 then (some ((), S3)) else (sw_bd (fX9_goesNext N p1 x4_1 S3) (fun _ S4 => (rec1 (x4_1 + (1 : Int32)) S4)))))) N (0 : Int32) S2))))
theorem hX9_goesRound {G : sw_G} {N d : Nat} (hd : 108 ≤ d) {p1 : Int32} {p2 : Int32}  {S : sw_St} : sw_Ev G yX9_goesRound cX9_goesRound 5 none d sw_ev [sw_vr G 105, .int p1, .int p2] S (fX9_goesRound N p1 p2 S) := by
  refine sw_Ev_of (own := RX9) (lv0 := [some (sw_vr G 105), some (.int p1), some (.int p2), none, none]) (by decide) rfl (Nat.le_of_ble_eq_true rfl) rfl ?_
  unfold fX9_goesRound
  refine sw_ald_5_0 (np := 1) dX9_goesRound_0 rfl ?_
  refine sw_cV0v (np := 4) (hX9_begins (d := d - 1) (by omega) ) sw_mv_X9_begins sw_k_105 sw_wl_RX9_233 dX9_goesRound_1 (sw_fit_rm (by omega) (by decide)) (Nat.le_of_ble_eq_true rfl) rfl (fun _ S1 => ?_)
  refine sw_ald_5_0 (np := 5) dX9_goesRound_4 rfl ?_
  refine sw_ild_5_1 (np := 6) dX9_goesRound_5 rfl ?_
  refine sw_cV1i (np := 9) (hX9_hourMany (d := d - 1) (by omega) ) sw_mv_X9_hourMany sw_k_105 sw_wl_RX9_239 dX9_goesRound_6 (sw_fit_rm (by omega) (by decide)) (Nat.le_of_ble_eq_true rfl) rfl (fun r2 S2 => ?_)
  refine sw_ist_5_3 (np := 10) dX9_goesRound_9 rfl rfl ?_
  refine sw_iconst (np := 11) dX9_goesRound_10 sw_ic_0 rfl ?_
  refine sw_ist_5_4 (np := 13) dX9_goesRound_11 rfl rfl ?_
  refine sw_lp1 (lv := fun x4_1 => [some (sw_vr G 105), some (.int p1), some (.int p2), some (.int r2), some (.int x4_1)]) (fun rec1 hrec1 x4_1 S3 => ?_) _ _ _
  refine sw_ild_5_4 (np := 15) dX9_goesRound_13 rfl ?_
  refine sw_ild_5_2 (np := 16) dX9_goesRound_15 rfl ?_
  refine sw_icmp_ge (np := 19) (tp := 38) dX9_goesRound_16 rfl rfl ?_ ?_
  · exact sw_vret dX9_goesRound_38
  · refine sw_ild_5_4 (np := 21) dX9_goesRound_19 rfl ?_
    refine sw_ild_5_3 (np := 22) dX9_goesRound_21 rfl ?_
    refine sw_icmp_ge (np := 25) (tp := 38) dX9_goesRound_22 rfl rfl ?_ ?_
    · exact sw_vret dX9_goesRound_38
    · refine sw_ald_5_0 (np := 26) dX9_goesRound_25 rfl ?_
      refine sw_ild_5_1 (np := 27) dX9_goesRound_26 rfl ?_
      refine sw_ild_5_4 (np := 29) dX9_goesRound_27 rfl ?_
      refine sw_cV2v (np := 32) (hX9_goesNext (d := d - 1) (by omega) ) sw_mv_X9_goesNext sw_k_105 sw_wl_RX9_242 dX9_goesRound_29 (sw_fit_rm (by omega) (by decide)) (Nat.le_of_ble_eq_true rfl) rfl (fun _ S4 => ?_)
      refine sw_inc_5_4 (np := 35) dX9_goesRound_32 sw_ic_1 rfl rfl ?_
      refine sw_goto (tp := 13) dX9_goesRound_35 rfl ?_
      exact hrec1 _ _
/-- SwordAtticModel.later(III)I -/
def fX9_later (N : Nat) (p1 : Int32) (p2 : Int32) (p3 : Int32) (S : sw_St) : Option (Int32 × sw_St) :=
  sw_bd (fX9_bytesIs N p1 S) (fun r1 S1 => (if r1 = (-1 : Int32) then (some ((-1 : Int32), S1)) else (sw_bd (fX9_within N p2.toInt64 (0 : Int64) (24 : Int64) S1) (fun r2 S2 => (if r2 = 0 then (some ((-1 : Int32), S2)) else (sw_bd (fX9_isSword N p3.toInt64 S2) (fun r3 S3 => (if r3 = 0 then (some ((-1 : Int32), S3)) else (sw_bd (fX9_bytesIs N p1 S3) (fun r4 S4 => (if r4 ≥ 0 then (sw_bd (fX9_goesRound N p1 p2 S4) (fun _ S5 => (sw_gd (sw_in p3 10) (some ((S5.1 114 p3.toNatClampNeg), S5))))) else (sw_bd (fX9_bytesIs N p1 S4) (fun r6 S6 => (some (r6, S6)))))))))))))))
theorem hX9_later {G : sw_G} {N d : Nat} (hd : 109 ≤ d) {p1 : Int32} {p2 : Int32} {p3 : Int32}  {S : sw_St} : sw_Ev G yX9_later cX9_later 4 (some .int) d sw_ei [sw_vr G 105, .int p1, .int p2, .int p3] S (fX9_later N p1 p2 p3 S) := by
  refine sw_Ev_of (own := RX9) (lv0 := [some (sw_vr G 105), some (.int p1), some (.int p2), some (.int p3)]) (by decide) rfl (Nat.le_of_ble_eq_true rfl) rfl ?_
  unfold fX9_later
  refine sw_ald_4_0 (np := 1) dX9_later_0 rfl ?_
  refine sw_ild_4_1 (np := 2) dX9_later_1 rfl ?_
  refine sw_cV1i (np := 5) (hX9_bytesIs (d := d - 1) (by omega) ) sw_mv_X9_bytesIs sw_k_105 sw_wl_RX9_245 dX9_later_2 (sw_fit_rm (by omega) (by decide)) (Nat.le_of_ble_eq_true rfl) rfl (fun r1 S1 => ?_)
  refine sw_iconst (np := 6) dX9_later_5 sw_ic_m1 rfl ?_
  refine sw_icmp_eq (np := 9) (tp := 30) dX9_later_6 rfl rfl ?_ ?_
  · refine sw_iconst (np := 31) dX9_later_30 sw_ic_m1 rfl ?_
    exact sw_iret dX9_later_31
  · refine sw_ild_4_2 (np := 10) dX9_later_9 rfl ?_
    refine sw_i2l (np := 11) dX9_later_10 rfl ?_
    refine sw_lconst (np := 12) dX9_later_11 sw_lc_0 rfl ?_
    refine sw_ldc2 (np := 15) sw_wc_RX9_248 dX9_later_12 rfl ?_
    refine sw_cS3i (np := 18) (hX9_within (d := d - 1) (by omega) ) sw_ms_X9_within sw_wl_RX9_98 dX9_later_15 (sw_fit_rm (by omega) (by decide)) (Nat.le_of_ble_eq_true rfl) rfl (fun r2 S2 => ?_)
    refine sw_if_eq (np := 21) (tp := 30) dX9_later_18 rfl rfl ?_ ?_
    · refine sw_iconst (np := 31) dX9_later_30 sw_ic_m1 rfl ?_
      exact sw_iret dX9_later_31
    · refine sw_ald_4_0 (np := 22) dX9_later_21 rfl ?_
      refine sw_ild_4_3 (np := 23) dX9_later_22 rfl ?_
      refine sw_i2l (np := 24) dX9_later_23 rfl ?_
      refine sw_cV1i (np := 27) (hX9_isSword (d := d - 1) (by omega) ) sw_mv_X9_isSword sw_k_105 sw_wl_RX9_127 dX9_later_24 (sw_fit_rm (by omega) (by decide)) (Nat.le_of_ble_eq_true rfl) rfl (fun r3 S3 => ?_)
      refine sw_if_ne (np := 30) (tp := 32) dX9_later_27 rfl rfl ?_ ?_
      · refine sw_ald_4_0 (np := 33) dX9_later_32 rfl ?_
        refine sw_ild_4_1 (np := 34) dX9_later_33 rfl ?_
        refine sw_cV1i (np := 37) (hX9_bytesIs (d := d - 1) (by omega) ) sw_mv_X9_bytesIs sw_k_105 sw_wl_RX9_245 dX9_later_34 (sw_fit_rm (by omega) (by decide)) (Nat.le_of_ble_eq_true rfl) rfl (fun r4 S4 => ?_)
        refine sw_if_ge (np := 40) (tp := 46) dX9_later_37 rfl rfl ?_ ?_
        · refine sw_ald_4_0 (np := 47) dX9_later_46 rfl ?_
          refine sw_ild_4_1 (np := 48) dX9_later_47 rfl ?_
          refine sw_ild_4_2 (np := 49) dX9_later_48 rfl ?_
          refine sw_cV2v (np := 52) (hX9_goesRound (d := d - 1) (by omega) ) sw_mv_X9_goesRound sw_k_105 sw_wl_RX9_250 dX9_later_49 (sw_fit_rm (by omega) (by decide)) (Nat.le_of_ble_eq_true rfl) rfl (fun _ S5 => ?_)
          refine sw_ald_4_0 (np := 53) dX9_later_52 rfl ?_
          refine sw_gR (np := 56) sw_f_RX9_34 sw_k_105 sw_r_105_18 dX9_later_53 rfl ?_
          refine sw_ild_4_3 (np := 57) dX9_later_56 rfl ?_
          refine sw_iald (np := 58) sw_k_114 sw_n_114 dX9_later_57 rfl ?_
          exact sw_iret dX9_later_58
        · refine sw_ald_4_0 (np := 41) dX9_later_40 rfl ?_
          refine sw_ild_4_1 (np := 42) dX9_later_41 rfl ?_
          refine sw_cV1i (np := 45) (hX9_bytesIs (d := d - 1) (by omega) ) sw_mv_X9_bytesIs sw_k_105 sw_wl_RX9_245 dX9_later_42 (sw_fit_rm (by omega) (by decide)) (Nat.le_of_ble_eq_true rfl) rfl (fun r6 S6 => ?_)
          exact sw_iret dX9_later_45
      · refine sw_iconst (np := 31) dX9_later_30 sw_ic_m1 rfl ?_
        exact sw_iret dX9_later_31
/-- SwordAtticModel.awake(III)I -/
def fX9_awake (N : Nat) (p1 : Int32) (p2 : Int32) (p3 : Int32) (S : sw_St) : Option (Int32 × sw_St) :=
  sw_bd (fX9_bytesIs N p1 S) (fun r1 S1 => (if r1 = (-1 : Int32) then (some ((-1 : Int32), S1)) else (sw_bd (fX9_within N p2.toInt64 (0 : Int64) (24 : Int64) S1) (fun r2 S2 => (if r2 = 0 then (some ((-1 : Int32), S2)) else (sw_bd (fX9_within N p3.toInt64 (0 : Int64) (1 : Int64) S2) (fun r3 S3 => (if r3 = 0 then (some ((-1 : Int32), S3)) else (sw_bd (fX9_bytesIs N p1 S3) (fun r4 S4 => (if r4 ≥ 0 then (sw_bd (fX9_goesRound N p1 p2 S4) (fun _ S5 => (if p3 = 0 then (sw_bd (fX9_awakeSet N S5) (fun r7 S7 => (some (r7, S7)))) else (sw_bd (fX9_mindAll N S5) (fun r6 S6 => (some (r6, S6))))))) else (sw_bd (fX9_bytesIs N p1 S4) (fun r8 S8 => (some (r8, S8)))))))))))))))
theorem hX9_awake {G : sw_G} {N d : Nat} (hd : 109 ≤ d) {p1 : Int32} {p2 : Int32} {p3 : Int32}  {S : sw_St} : sw_Ev G yX9_awake cX9_awake 4 (some .int) d sw_ei [sw_vr G 105, .int p1, .int p2, .int p3] S (fX9_awake N p1 p2 p3 S) := by
  refine sw_Ev_of (own := RX9) (lv0 := [some (sw_vr G 105), some (.int p1), some (.int p2), some (.int p3)]) (by decide) rfl (Nat.le_of_ble_eq_true rfl) rfl ?_
  unfold fX9_awake
  refine sw_ald_4_0 (np := 1) dX9_awake_0 rfl ?_
  refine sw_ild_4_1 (np := 2) dX9_awake_1 rfl ?_
  refine sw_cV1i (np := 5) (hX9_bytesIs (d := d - 1) (by omega) ) sw_mv_X9_bytesIs sw_k_105 sw_wl_RX9_245 dX9_awake_2 (sw_fit_rm (by omega) (by decide)) (Nat.le_of_ble_eq_true rfl) rfl (fun r1 S1 => ?_)
  refine sw_iconst (np := 6) dX9_awake_5 sw_ic_m1 rfl ?_
  refine sw_icmp_eq (np := 9) (tp := 31) dX9_awake_6 rfl rfl ?_ ?_
  · refine sw_iconst (np := 32) dX9_awake_31 sw_ic_m1 rfl ?_
    exact sw_iret dX9_awake_32
  · refine sw_ild_4_2 (np := 10) dX9_awake_9 rfl ?_
    refine sw_i2l (np := 11) dX9_awake_10 rfl ?_
    refine sw_lconst (np := 12) dX9_awake_11 sw_lc_0 rfl ?_
    refine sw_ldc2 (np := 15) sw_wc_RX9_248 dX9_awake_12 rfl ?_
    refine sw_cS3i (np := 18) (hX9_within (d := d - 1) (by omega) ) sw_ms_X9_within sw_wl_RX9_98 dX9_awake_15 (sw_fit_rm (by omega) (by decide)) (Nat.le_of_ble_eq_true rfl) rfl (fun r2 S2 => ?_)
    refine sw_if_eq (np := 21) (tp := 31) dX9_awake_18 rfl rfl ?_ ?_
    · refine sw_iconst (np := 32) dX9_awake_31 sw_ic_m1 rfl ?_
      exact sw_iret dX9_awake_32
    · refine sw_ild_4_3 (np := 22) dX9_awake_21 rfl ?_
      refine sw_i2l (np := 23) dX9_awake_22 rfl ?_
      refine sw_lconst (np := 24) dX9_awake_23 sw_lc_0 rfl ?_
      refine sw_lconst (np := 25) dX9_awake_24 sw_lc_1 rfl ?_
      refine sw_cS3i (np := 28) (hX9_within (d := d - 1) (by omega) ) sw_ms_X9_within sw_wl_RX9_98 dX9_awake_25 (sw_fit_rm (by omega) (by decide)) (Nat.le_of_ble_eq_true rfl) rfl (fun r3 S3 => ?_)
      refine sw_if_ne (np := 31) (tp := 33) dX9_awake_28 rfl rfl ?_ ?_
      · refine sw_ald_4_0 (np := 34) dX9_awake_33 rfl ?_
        refine sw_ild_4_1 (np := 35) dX9_awake_34 rfl ?_
        refine sw_cV1i (np := 38) (hX9_bytesIs (d := d - 1) (by omega) ) sw_mv_X9_bytesIs sw_k_105 sw_wl_RX9_245 dX9_awake_35 (sw_fit_rm (by omega) (by decide)) (Nat.le_of_ble_eq_true rfl) rfl (fun r4 S4 => ?_)
        refine sw_if_ge (np := 41) (tp := 47) dX9_awake_38 rfl rfl ?_ ?_
        · refine sw_ald_4_0 (np := 48) dX9_awake_47 rfl ?_
          refine sw_ild_4_1 (np := 49) dX9_awake_48 rfl ?_
          refine sw_ild_4_2 (np := 50) dX9_awake_49 rfl ?_
          refine sw_cV2v (np := 53) (hX9_goesRound (d := d - 1) (by omega) ) sw_mv_X9_goesRound sw_k_105 sw_wl_RX9_250 dX9_awake_50 (sw_fit_rm (by omega) (by decide)) (Nat.le_of_ble_eq_true rfl) rfl (fun _ S5 => ?_)
          refine sw_ild_4_3 (np := 54) dX9_awake_53 rfl ?_
          refine sw_if_ne (np := 57) (tp := 64) dX9_awake_54 rfl rfl ?_ ?_
          · refine sw_ald_4_0 (np := 65) dX9_awake_64 rfl ?_
            refine sw_cV0i (np := 68) (hX9_mindAll (d := d - 1) (by omega) ) sw_mv_X9_mindAll sw_k_105 sw_wl_RX9_253 dX9_awake_65 (sw_fit_rm (by omega) (by decide)) (Nat.le_of_ble_eq_true rfl) rfl (fun r6 S6 => ?_)
            exact sw_iret dX9_awake_68
          · refine sw_ald_4_0 (np := 58) dX9_awake_57 rfl ?_
            refine sw_cV0i (np := 61) (hX9_awakeSet (d := d - 1) (by omega) ) sw_mv_X9_awakeSet sw_k_105 sw_wl_RX9_226 dX9_awake_58 (sw_fit_rm (by omega) (by decide)) (Nat.le_of_ble_eq_true rfl) rfl (fun r7 S7 => ?_)
            refine sw_goto (tp := 68) dX9_awake_61 rfl ?_
            exact sw_iret dX9_awake_68
        · refine sw_ald_4_0 (np := 42) dX9_awake_41 rfl ?_
          refine sw_ild_4_1 (np := 43) dX9_awake_42 rfl ?_
          refine sw_cV1i (np := 46) (hX9_bytesIs (d := d - 1) (by omega) ) sw_mv_X9_bytesIs sw_k_105 sw_wl_RX9_245 dX9_awake_43 (sw_fit_rm (by omega) (by decide)) (Nat.le_of_ble_eq_true rfl) rfl (fun r8 S8 => ?_)
          exact sw_iret dX9_awake_46
      · refine sw_iconst (np := 32) dX9_awake_31 sw_ic_m1 rfl ?_
        exact sw_iret dX9_awake_32
