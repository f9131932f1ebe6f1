/-- SwordAttic$Tape.readOr, over what calls it again -/
def gX6_readOr (N : Nat) (RR : Nat → Int32 → Int32 → Int32 → Int32 → sw_St → Option (Unit × sw_St)) (p1 : Int32) (S : sw_St) : Option (Unit × sw_St) :=
  sw_bd (RR 1 p1 0 0 0 S) (fun _ S1 => (sw_fx1 (fun rec1 x2_1 S2 => (if x2_1 ≥ (120 : Int32) then (some ((), S2)) else (sw_bd (fX6_next N S2) (fun r2 S3 => (if r2 = (124 : Int32) then (sw_ls (sw_si S3 16 3 ((S3.1 16 3) + (1 : Int32))) (fun S4 => (sw_bd (RR 1 p1 0 0 0 S4) (fun _ S5 => (sw_bd (fX3_add N 17 (124 : Int32) (0 : Int32) S5) (fun _ S6 => (rec1 (x2_1 + (1 : Int32)) S6))))))) else (some ((), S3))))))) N (0 : Int32) S1))
/-- SwordAttic$Tape.readAnd, over what calls it again -/
def gX6_readAnd (N : Nat) (RR : Nat → Int32 → Int32 → Int32 → Int32 → sw_St → Option (Unit × sw_St)) (p1 : Int32) (S : sw_St) : Option (Unit × sw_St) :=
  sw_bd (RR 2 p1 0 0 0 S) (fun _ S1 => (sw_fx1 (fun rec1 x2_1 S2 => (if x2_1 ≥ (120 : Int32) then (some ((), S2)) else (sw_bd (fX6_next N S2) (fun r2 S3 => (if r2 = (38 : Int32) then (sw_ls (sw_si S3 16 3 ((S3.1 16 3) + (1 : Int32))) (fun S4 => (sw_bd (RR 2 p1 0 0 0 S4) (fun _ S5 => (sw_bd (fX3_add N 17 (38 : Int32) (0 : Int32) S5) (fun _ S6 => (rec1 (x2_1 + (1 : Int32)) S6))))))) else (some ((), S3))))))) N (0 : Int32) S1))
/-- SwordAttic$Tape.readComparison, over what calls it again -/
def gX6_readComparison (N : Nat) (RR : Nat → Int32 → Int32 → Int32 → Int32 → sw_St → Option (Unit × sw_St)) (p1 : Int32) (S : sw_St) : Option (Unit × sw_St) :=
  sw_bd (RR 3 p1 0 0 0 S) (fun _ S1 => (sw_bd (fX6_next N S1) (fun r2 S2 => (sw_jn0 (fun S3 => (sw_ls (sw_si S3 16 3 ((S3.1 16 3) + (1 : Int32))) (fun S4 => (sw_bd (RR 3 p1 0 0 0 S4) (fun _ S5 => (sw_bd (fX3_add N 17 r2 (0 : Int32) S5) (fun _ S6 => (some ((), S6))))))))) (fun k1 => (if r2 = (60 : Int32) then (k1 S2) else (if r2 = (61 : Int32) then (k1 S2) else (if r2 = (62 : Int32) then (k1 S2) else (some ((), S2))))))))))
/-- SwordAttic$Tape.readSum, over what calls it again -/
def gX6_readSum (N : Nat) (RR : Nat → Int32 → Int32 → Int32 → Int32 → sw_St → Option (Unit × sw_St)) (p1 : Int32) (S : sw_St) : Option (Unit × sw_St) :=
  sw_bd (RR 4 p1 0 0 0 S) (fun _ S1 => (sw_fx1 (fun rec1 x2_1 S2 => (if x2_1 ≥ (120 : Int32) then (some ((), S2)) else (sw_bd (fX6_next N S2) (fun r2 S3 => (sw_jn0 (fun S4 => (sw_bd (fX6_next N S4) (fun r3 S5 => (sw_ls (sw_si S5 16 3 ((S5.1 16 3) + (1 : Int32))) (fun S6 => (sw_bd (RR 4 p1 0 0 0 S6) (fun _ S7 => (sw_bd (fX3_add N 17 r3 (0 : Int32) S7) (fun _ S8 => (rec1 (x2_1 + (1 : Int32)) S8)))))))))) (fun k1 => (if r2 = (43 : Int32) then (k1 S3) else (sw_bd (fX6_next N S3) (fun r6 S9 => (if r6 = (45 : Int32) then (k1 S9) else (some ((), S9)))))))))))) N (0 : Int32) S1))
/-- SwordAttic$Tape.readProduct, over what calls it again -/
def gX6_readProduct (N : Nat) (RR : Nat → Int32 → Int32 → Int32 → Int32 → sw_St → Option (Unit × sw_St)) (p1 : Int32) (S : sw_St) : Option (Unit × sw_St) :=
  sw_bd (RR 5 p1 0 0 0 S) (fun _ S1 => (sw_fx1 (fun rec1 x2_1 S2 => (if x2_1 ≥ (120 : Int32) then (some ((), S2)) else (sw_bd (fX6_next N S2) (fun r2 S3 => (sw_jn0 (fun S4 => (sw_bd (fX6_next N S4) (fun r3 S5 => (sw_ls (sw_si S5 16 3 ((S5.1 16 3) + (1 : Int32))) (fun S6 => (sw_bd (RR 5 p1 0 0 0 S6) (fun _ S7 => (sw_bd (fX3_add N 17 r3 (0 : Int32) S7) (fun _ S8 => (rec1 (x2_1 + (1 : Int32)) S8)))))))))) (fun k1 => (if r2 = (42 : Int32) then (k1 S3) else (sw_bd (fX6_next N S3) (fun r6 S9 => (if r6 = (47 : Int32) then (k1 S9) else (sw_bd (fX6_next N S9) (fun r7 S10 => (if r7 = (37 : Int32) then (k1 S10) else (some ((), S10))))))))))))))) N (0 : Int32) S1))
/-- SwordAttic$Tape.readOperand, over what calls it again -/
def gX6_readOperand (N : Nat) (RR : Nat → Int32 → Int32 → Int32 → Int32 → sw_St → Option (Unit × sw_St)) (p1 : Int32) (S : sw_St) : Option (Unit × sw_St) :=
  sw_bd (fX6_next N S) (fun r1 S1 => (sw_bd (fX6_nameOf N r1 S1) (fun r2 S2 => (sw_jn1 (fun y1 S3 => (sw_bd (fX8_within N r1 (48 : Int32) (57 : Int32) S3) (fun r3 S4 => (if r3 = 0 then (if r2 < 0 then (if y1 = 0 then (sw_bd (fX6_noteFault N S4) (fun _ S5 => (some ((), S5)))) else (if p1 ≥ (6 : Int32) then (sw_bd (fX6_noteFault N S4) (fun _ S6 => (some ((), S6)))) else (sw_ls (sw_si S4 16 3 ((S4.1 16 3) + (1 : Int32))) (fun S7 => (sw_bd (RR 6 r1 (p1 + (1 : Int32)) 0 0 S7) (fun _ S8 => (some ((), S8)))))))) else (sw_ls (sw_si S4 16 3 ((S4.1 16 3) + (1 : Int32))) (fun S9 => (sw_bd (fX3_add N 17 (110 : Int32) r2 S9) (fun _ S10 => (some ((), S10))))))) else (sw_bd (fX6_readNumber N S4) (fun _ S11 => (some ((), S11)))))))) (fun k1 => (if r1 = (40 : Int32) then (k1 (1 : Int32) S2) else (if r1 = (33 : Int32) then (k1 (1 : Int32) S2) else (if r1 = (45 : Int32) then (k1 (1 : Int32) S2) else (k1 (0 : Int32) S2)))))))))
/-- SwordAttic$Tape.readOpened, over what calls it again -/
def gX6_readOpened (N : Nat) (RR : Nat → Int32 → Int32 → Int32 → Int32 → sw_St → Option (Unit × sw_St)) (p1 : Int32) (p2 : Int32) (S : sw_St) : Option (Unit × sw_St) :=
  if p1 = (40 : Int32) then (sw_bd (RR 0 p2 0 0 0 S) (fun _ S1 => (sw_bd (fX6_next N S1) (fun r2 S2 => (if r2 = (41 : Int32) then (sw_ls (sw_si S2 16 3 ((S2.1 16 3) + (1 : Int32))) (fun S4 => (some ((), S4)))) else (sw_bd (fX6_noteFault N S2) (fun _ S3 => (some ((), S3))))))))) else (sw_bd (RR 5 p2 0 0 0 S) (fun _ S5 => (if p1 = (33 : Int32) then (sw_bd (fX3_add N 17 (33 : Int32) (0 : Int32) S5) (fun _ S7 => (some ((), S7)))) else (sw_bd (fX3_add N 17 (126 : Int32) (0 : Int32) S5) (fun _ S6 => (some ((), S6)))))))
def kG_2 (G : sw_G) (d : Nat) (RR : Nat → Int32 → Int32 → Int32 → Int32 → sw_St → Option (Unit × sw_St)) : Prop :=
  (∀ (a b c e : Int32) (S : sw_St), sw_Ev G yX6_readOr cX6_readOr 3 none d sw_ev [sw_vr G 16, .int a] S (RR 0 a b c e S)) ∧
  (∀ (a b c e : Int32) (S : sw_St), sw_Ev G yX6_readAnd cX6_readAnd 3 none d sw_ev [sw_vr G 16, .int a] S (RR 1 a b c e S)) ∧
  (∀ (a b c e : Int32) (S : sw_St), sw_Ev G yX6_readComparison cX6_readComparison 3 none d sw_ev [sw_vr G 16, .int a] S (RR 2 a b c e S)) ∧
  (∀ (a b c e : Int32) (S : sw_St), sw_Ev G yX6_readSum cX6_readSum 4 none d sw_ev [sw_vr G 16, .int a] S (RR 3 a b c e S)) ∧
  (∀ (a b c e : Int32) (S : sw_St), sw_Ev G yX6_readProduct cX6_readProduct 4 none d sw_ev [sw_vr G 16, .int a] S (RR 4 a b c e S)) ∧
  (∀ (a b c e : Int32) (S : sw_St), sw_Ev G yX6_readOperand cX6_readOperand 5 none d sw_ev [sw_vr G 16, .int a] S (RR 5 a b c e S)) ∧
  (∀ (a b c e : Int32) (S : sw_St), sw_Ev G yX6_readOpened cX6_readOpened 3 none d sw_ev [sw_vr G 16, .int a, .int b] S (RR 6 a b c e S))
def fG_2 (N : Nat) : Nat → Nat → Int32 → Int32 → Int32 → Int32 → sw_St → Option (Unit × sw_St)
  | 0 => fun _ _ _ _ _ _ => none
  | n + 1 => fun t a b c e S => match t with
    | 0 => gX6_readOr N (fG_2 N n) a S
    | 1 => gX6_readAnd N (fG_2 N n) a S
    | 2 => gX6_readComparison N (fG_2 N n) a S
    | 3 => gX6_readSum N (fG_2 N n) a S
    | 4 => gX6_readProduct N (fG_2 N n) a S
    | 5 => gX6_readOperand N (fG_2 N n) a S
    | _ => gX6_readOpened N (fG_2 N n) a b S
theorem ogX6_readOr {G : sw_G} {N d : Nat} (hd : 4 ≤ d) {RR : Nat → Int32 → Int32 → Int32 → Int32 → sw_St → Option (Unit × sw_St)} (hR : kG_2 G (d - 1) RR) {p1 : Int32} {S : sw_St} : sw_Ev G yX6_readOr cX6_readOr 3 none d sw_ev [sw_vr G 16, .int p1] S (gX6_readOr N RR p1 S) := by
  refine sw_Ev_of (own := RX6) (lv0 := [some (sw_vr G 16), some (.int p1), none]) (by decide) rfl (Nat.le_of_ble_eq_true rfl) rfl ?_
  unfold gX6_readOr
  refine sw_ald_3_0 (np := 1) dX6_readOr_0 rfl ?_
  refine sw_ild_3_1 (np := 2) dX6_readOr_1 rfl ?_
  refine sw_cV1v (np := 5) (hR.2.1 _ _ _ _ _) sw_mv_X6_readAnd sw_k_16 sw_wl_RX6_58 dX6_readOr_2 (sw_fit_rm (by omega) (by decide)) (Nat.le_of_ble_eq_true rfl) rfl (fun _ S1 => ?_)
  refine sw_iconst (np := 6) dX6_readOr_5 sw_ic_0 rfl ?_
  refine sw_ist_3_2 (np := 7) dX6_readOr_6 rfl rfl ?_
  refine sw_lp1 (lv := fun x2_1 => [some (sw_vr G 16), some (.int p1), some (.int x2_1)]) (fun rec1 hrec1 x2_1 S2 => ?_) _ _ _
  refine sw_ild_3_2 (np := 8) dX6_readOr_7 rfl ?_
  refine sw_bipush (np := 10) dX6_readOr_8 sw_bc_120 rfl ?_
  refine sw_icmp_ge (np := 13) (tp := 53) dX6_readOr_10 rfl rfl ?_ ?_
  · exact sw_vret dX6_readOr_53
  · refine sw_ald_3_0 (np := 14) dX6_readOr_13 rfl ?_
    refine sw_cV0i (np := 17) (hX6_next (d := d - 1) (by omega) ) sw_mv_X6_next sw_k_16 sw_wl_RX6_34 dX6_readOr_14 (sw_fit_rm (by omega) (by decide)) (Nat.le_of_ble_eq_true rfl) rfl (fun r2 S3 => ?_)
    refine sw_bipush (np := 19) dX6_readOr_17 sw_bc_124 rfl ?_
    refine sw_icmp_ne (np := 22) (tp := 53) dX6_readOr_19 rfl rfl ?_ ?_
    · exact sw_vret dX6_readOr_53
    · refine sw_ald_3_0 (np := 23) dX6_readOr_22 rfl ?_
      refine sw_dup (np := 24) dX6_readOr_23 rfl rfl ?_
      refine sw_gI (np := 27) sw_f_RX6_24 sw_k_16 dX6_readOr_24 rfl ?_
      refine sw_iconst (np := 28) dX6_readOr_27 sw_ic_1 rfl ?_
      refine sw_iadd (np := 29) dX6_readOr_28 rfl ?_
      refine sw_pI (np := 32) sw_f_RX6_24 sw_fp_6_3 sw_k_16 dX6_readOr_29 rfl (fun S4 => ?_)
      refine sw_ald_3_0 (np := 33) dX6_readOr_32 rfl ?_
      refine sw_ild_3_1 (np := 34) dX6_readOr_33 rfl ?_
      refine sw_cV1v (np := 37) (hR.2.1 _ _ _ _ _) sw_mv_X6_readAnd sw_k_16 sw_wl_RX6_58 dX6_readOr_34 (sw_fit_rm (by omega) (by decide)) (Nat.le_of_ble_eq_true rfl) rfl (fun _ S5 => ?_)
      refine sw_ald_3_0 (np := 38) dX6_readOr_37 rfl ?_
      refine sw_gR (np := 41) sw_f_RX6_16 sw_k_16 sw_r_16_1 dX6_readOr_38 rfl ?_
      refine sw_bipush (np := 43) dX6_readOr_41 sw_bc_124 rfl ?_
      refine sw_iconst (np := 44) dX6_readOr_43 sw_ic_0 rfl ?_
      refine sw_cV2v (np := 47) (hX3_add (d := d - 1) (by omega) sw_k_17) sw_mv_X3_add sw_k_17 sw_wl_RX6_51 dX6_readOr_44 (sw_fit_rm (by omega) (by decide)) (Nat.le_of_ble_eq_true rfl) rfl (fun _ S6 => ?_)
      refine sw_inc_3_2 (np := 50) dX6_readOr_47 sw_ic_1 rfl rfl ?_
      refine sw_goto (tp := 7) dX6_readOr_50 rfl ?_
      exact hrec1 _ _
theorem ogX6_readAnd {G : sw_G} {N d : Nat} (hd : 4 ≤ d) {RR : Nat → Int32 → Int32 → Int32 → Int32 → sw_St → Option (Unit × sw_St)} (hR : kG_2 G (d - 1) RR) {p1 : Int32} {S : sw_St} : sw_Ev G yX6_readAnd cX6_readAnd 3 none d sw_ev [sw_vr G 16, .int p1] S (gX6_readAnd N RR p1 S) := by
  refine sw_Ev_of (own := RX6) (lv0 := [some (sw_vr G 16), some (.int p1), none]) (by decide) rfl (Nat.le_of_ble_eq_true rfl) rfl ?_
  unfold gX6_readAnd
  refine sw_ald_3_0 (np := 1) dX6_readAnd_0 rfl ?_
  refine sw_ild_3_1 (np := 2) dX6_readAnd_1 rfl ?_
  refine sw_cV1v (np := 5) (hR.2.2.1 _ _ _ _ _) sw_mv_X6_readComparison sw_k_16 sw_wl_RX6_61 dX6_readAnd_2 (sw_fit_rm (by omega) (by decide)) (Nat.le_of_ble_eq_true rfl) rfl (fun _ S1 => ?_)
  refine sw_iconst (np := 6) dX6_readAnd_5 sw_ic_0 rfl ?_
  refine sw_ist_3_2 (np := 7) dX6_readAnd_6 rfl rfl ?_
  refine sw_lp1 (lv := fun x2_1 => [some (sw_vr G 16), some (.int p1), some (.int x2_1)]) (fun rec1 hrec1 x2_1 S2 => ?_) _ _ _
  refine sw_ild_3_2 (np := 8) dX6_readAnd_7 rfl ?_
  refine sw_bipush (np := 10) dX6_readAnd_8 sw_bc_120 rfl ?_
  refine sw_icmp_ge (np := 13) (tp := 53) dX6_readAnd_10 rfl rfl ?_ ?_
  · exact sw_vret dX6_readAnd_53
  · refine sw_ald_3_0 (np := 14) dX6_readAnd_13 rfl ?_
    refine sw_cV0i (np := 17) (hX6_next (d := d - 1) (by omega) ) sw_mv_X6_next sw_k_16 sw_wl_RX6_34 dX6_readAnd_14 (sw_fit_rm (by omega) (by decide)) (Nat.le_of_ble_eq_true rfl) rfl (fun r2 S3 => ?_)
    refine sw_bipush (np := 19) dX6_readAnd_17 sw_bc_38 rfl ?_
    refine sw_icmp_ne (np := 22) (tp := 53) dX6_readAnd_19 rfl rfl ?_ ?_
    · exact sw_vret dX6_readAnd_53
    · refine sw_ald_3_0 (np := 23) dX6_readAnd_22 rfl ?_
      refine sw_dup (np := 24) dX6_readAnd_23 rfl rfl ?_
      refine sw_gI (np := 27) sw_f_RX6_24 sw_k_16 dX6_readAnd_24 rfl ?_
      refine sw_iconst (np := 28) dX6_readAnd_27 sw_ic_1 rfl ?_
      refine sw_iadd (np := 29) dX6_readAnd_28 rfl ?_
      refine sw_pI (np := 32) sw_f_RX6_24 sw_fp_6_3 sw_k_16 dX6_readAnd_29 rfl (fun S4 => ?_)
      refine sw_ald_3_0 (np := 33) dX6_readAnd_32 rfl ?_
      refine sw_ild_3_1 (np := 34) dX6_readAnd_33 rfl ?_
      refine sw_cV1v (np := 37) (hR.2.2.1 _ _ _ _ _) sw_mv_X6_readComparison sw_k_16 sw_wl_RX6_61 dX6_readAnd_34 (sw_fit_rm (by omega) (by decide)) (Nat.le_of_ble_eq_true rfl) rfl (fun _ S5 => ?_)
      refine sw_ald_3_0 (np := 38) dX6_readAnd_37 rfl ?_
      refine sw_gR (np := 41) sw_f_RX6_16 sw_k_16 sw_r_16_1 dX6_readAnd_38 rfl ?_
      refine sw_bipush (np := 43) dX6_readAnd_41 sw_bc_38 rfl ?_
      refine sw_iconst (np := 44) dX6_readAnd_43 sw_ic_0 rfl ?_
      refine sw_cV2v (np := 47) (hX3_add (d := d - 1) (by omega) sw_k_17) sw_mv_X3_add sw_k_17 sw_wl_RX6_51 dX6_readAnd_44 (sw_fit_rm (by omega) (by decide)) (Nat.le_of_ble_eq_true rfl) rfl (fun _ S6 => ?_)
      refine sw_inc_3_2 (np := 50) dX6_readAnd_47 sw_ic_1 rfl rfl ?_
      refine sw_goto (tp := 7) dX6_readAnd_50 rfl ?_
      exact hrec1 _ _
theorem ogX6_readComparison {G : sw_G} {N d : Nat} (hd : 4 ≤ d) {RR : Nat → Int32 → Int32 → Int32 → Int32 → sw_St → Option (Unit × sw_St)} (hR : kG_2 G (d - 1) RR) {p1 : Int32} {S : sw_St} : sw_Ev G yX6_readComparison cX6_readComparison 3 none d sw_ev [sw_vr G 16, .int p1] S (gX6_readComparison N RR p1 S) := by
  refine sw_Ev_of (own := RX6) (lv0 := [some (sw_vr G 16), some (.int p1), none]) (by decide) rfl (Nat.le_of_ble_eq_true rfl) rfl ?_
  unfold gX6_readComparison
  refine sw_ald_3_0 (np := 1) dX6_readComparison_0 rfl ?_
  refine sw_ild_3_1 (np := 2) dX6_readComparison_1 rfl ?_
  refine sw_cV1v (np := 5) (hR.2.2.2.1 _ _ _ _ _) sw_mv_X6_readSum sw_k_16 sw_wl_RX6_64 dX6_readComparison_2 (sw_fit_rm (by omega) (by decide)) (Nat.le_of_ble_eq_true rfl) rfl (fun _ S1 => ?_)
  refine sw_ald_3_0 (np := 6) dX6_readComparison_5 rfl ?_
  refine sw_cV0i (np := 9) (hX6_next (d := d - 1) (by omega) ) sw_mv_X6_next sw_k_16 sw_wl_RX6_34 dX6_readComparison_6 (sw_fit_rm (by omega) (by decide)) (Nat.le_of_ble_eq_true rfl) rfl (fun r2 S2 => ?_)
  refine sw_ist_3_2 (np := 10) dX6_readComparison_9 rfl rfl ?_
  refine sw_ild_3_2 (np := 11) dX6_readComparison_10 rfl ?_
  refine sw_bipush (np := 13) dX6_readComparison_11 sw_bc_60 rfl ?_
  refine sw_jm0 (pj := 28) ([some (sw_vr G 16), some (.int p1), some (.int r2)]) ([]) (fun S3 => ?_) (fun k1 hk1 => ?_)
  · refine sw_ald_3_0 (np := 29) dX6_readComparison_28 rfl ?_
    refine sw_dup (np := 30) dX6_readComparison_29 rfl rfl ?_
    refine sw_gI (np := 33) sw_f_RX6_24 sw_k_16 dX6_readComparison_30 rfl ?_
    refine sw_iconst (np := 34) dX6_readComparison_33 sw_ic_1 rfl ?_
    refine sw_iadd (np := 35) dX6_readComparison_34 rfl ?_
    refine sw_pI (np := 38) sw_f_RX6_24 sw_fp_6_3 sw_k_16 dX6_readComparison_35 rfl (fun S4 => ?_)
    refine sw_ald_3_0 (np := 39) dX6_readComparison_38 rfl ?_
    refine sw_ild_3_1 (np := 40) dX6_readComparison_39 rfl ?_
    refine sw_cV1v (np := 43) (hR.2.2.2.1 _ _ _ _ _) sw_mv_X6_readSum sw_k_16 sw_wl_RX6_64 dX6_readComparison_40 (sw_fit_rm (by omega) (by decide)) (Nat.le_of_ble_eq_true rfl) rfl (fun _ S5 => ?_)
    refine sw_ald_3_0 (np := 44) dX6_readComparison_43 rfl ?_
    refine sw_gR (np := 47) sw_f_RX6_16 sw_k_16 sw_r_16_1 dX6_readComparison_44 rfl ?_
    refine sw_ild_3_2 (np := 48) dX6_readComparison_47 rfl ?_
    refine sw_iconst (np := 49) dX6_readComparison_48 sw_ic_0 rfl ?_
    refine sw_cV2v (np := 52) (hX3_add (d := d - 1) (by omega) sw_k_17) sw_mv_X3_add sw_k_17 sw_wl_RX6_51 dX6_readComparison_49 (sw_fit_rm (by omega) (by decide)) (Nat.le_of_ble_eq_true rfl) rfl (fun _ S6 => ?_)
    exact sw_vret dX6_readComparison_52
  · refine sw_icmp_eq (np := 16) (tp := 28) dX6_readComparison_13 rfl rfl ?_ ?_
    · exact hk1 _
    · refine sw_ild_3_2 (np := 17) dX6_readComparison_16 rfl ?_
      refine sw_bipush (np := 19) dX6_readComparison_17 sw_bc_61 rfl ?_
      refine sw_icmp_eq (np := 22) (tp := 28) dX6_readComparison_19 rfl rfl ?_ ?_
      · exact hk1 _
      · refine sw_ild_3_2 (np := 23) dX6_readComparison_22 rfl ?_
        refine sw_bipush (np := 25) dX6_readComparison_23 sw_bc_62 rfl ?_
        refine sw_icmp_ne (np := 28) (tp := 52) dX6_readComparison_25 rfl rfl ?_ ?_
        · exact sw_vret dX6_readComparison_52
        · exact hk1 _
theorem ogX6_readSum {G : sw_G} {N d : Nat} (hd : 4 ≤ d) {RR : Nat → Int32 → Int32 → Int32 → Int32 → sw_St → Option (Unit × sw_St)} (hR : kG_2 G (d - 1) RR) {p1 : Int32} {S : sw_St} : sw_Ev G yX6_readSum cX6_readSum 4 none d sw_ev [sw_vr G 16, .int p1] S (gX6_readSum N RR p1 S) := by
  refine sw_Ev_of (own := RX6) (lv0 := [some (sw_vr G 16), some (.int p1), none, none]) (by decide) rfl (Nat.le_of_ble_eq_true rfl) rfl ?_
  unfold gX6_readSum
  refine sw_ald_4_0 (np := 1) dX6_readSum_0 rfl ?_
  refine sw_ild_4_1 (np := 2) dX6_readSum_1 rfl ?_
  refine sw_cV1v (np := 5) (hR.2.2.2.2.1 _ _ _ _ _) sw_mv_X6_readProduct sw_k_16 sw_wl_RX6_67 dX6_readSum_2 (sw_fit_rm (by omega) (by decide)) (Nat.le_of_ble_eq_true rfl) rfl (fun _ S1 => ?_)
  refine sw_iconst (np := 6) dX6_readSum_5 sw_ic_0 rfl ?_
  refine sw_ist_4_2 (np := 7) dX6_readSum_6 rfl rfl ?_
  refine sw_lp1 (lv := fun x2_1 => [some (sw_vr G 16), some (.int p1), some (.int x2_1), none]) (fun rec1 hrec1 x2_1 S2 => ?_) _ _ _
  refine sw_ild_4_2 (np := 8) dX6_readSum_7 rfl ?_
  refine sw_bipush (np := 10) dX6_readSum_8 sw_bc_120 rfl ?_
  refine sw_icmp_ge (np := 13) (tp := 66) dX6_readSum_10 rfl rfl ?_ ?_
  · exact sw_vret dX6_readSum_66
  · refine sw_ald_4_0 (np := 14) dX6_readSum_13 rfl ?_
    refine sw_cV0i (np := 17) (hX6_next (d := d - 1) (by omega) ) sw_mv_X6_next sw_k_16 sw_wl_RX6_34 dX6_readSum_14 (sw_fit_rm (by omega) (by decide)) (Nat.le_of_ble_eq_true rfl) rfl (fun r2 S3 => ?_)
    refine sw_bipush (np := 19) dX6_readSum_17 sw_bc_43 rfl ?_
    refine sw_jm0 (pj := 31) ([some (sw_vr G 16), some (.int p1), some (.int x2_1), none]) ([]) (fun S4 => ?_) (fun k1 hk1 => ?_)
    · refine sw_ald_4_0 (np := 32) dX6_readSum_31 rfl ?_
      refine sw_cV0i (np := 35) (hX6_next (d := d - 1) (by omega) ) sw_mv_X6_next sw_k_16 sw_wl_RX6_34 dX6_readSum_32 (sw_fit_rm (by omega) (by decide)) (Nat.le_of_ble_eq_true rfl) rfl (fun r3 S5 => ?_)
      refine sw_ist_4_3 (np := 36) dX6_readSum_35 rfl rfl ?_
      refine sw_ald_4_0 (np := 37) dX6_readSum_36 rfl ?_
      refine sw_dup (np := 38) dX6_readSum_37 rfl rfl ?_
      refine sw_gI (np := 41) sw_f_RX6_24 sw_k_16 dX6_readSum_38 rfl ?_
      refine sw_iconst (np := 42) dX6_readSum_41 sw_ic_1 rfl ?_
      refine sw_iadd (np := 43) dX6_readSum_42 rfl ?_
      refine sw_pI (np := 46) sw_f_RX6_24 sw_fp_6_3 sw_k_16 dX6_readSum_43 rfl (fun S6 => ?_)
      refine sw_ald_4_0 (np := 47) dX6_readSum_46 rfl ?_
      refine sw_ild_4_1 (np := 48) dX6_readSum_47 rfl ?_
      refine sw_cV1v (np := 51) (hR.2.2.2.2.1 _ _ _ _ _) sw_mv_X6_readProduct sw_k_16 sw_wl_RX6_67 dX6_readSum_48 (sw_fit_rm (by omega) (by decide)) (Nat.le_of_ble_eq_true rfl) rfl (fun _ S7 => ?_)
      refine sw_ald_4_0 (np := 52) dX6_readSum_51 rfl ?_
      refine sw_gR (np := 55) sw_f_RX6_16 sw_k_16 sw_r_16_1 dX6_readSum_52 rfl ?_
      refine sw_ild_4_3 (np := 56) dX6_readSum_55 rfl ?_
      refine sw_iconst (np := 57) dX6_readSum_56 sw_ic_0 rfl ?_
      refine sw_cV2v (np := 60) (hX3_add (d := d - 1) (by omega) sw_k_17) sw_mv_X3_add sw_k_17 sw_wl_RX6_51 dX6_readSum_57 (sw_fit_rm (by omega) (by decide)) (Nat.le_of_ble_eq_true rfl) rfl (fun _ S8 => ?_)
      refine sw_inc_4_2 (np := 63) dX6_readSum_60 sw_ic_1 rfl rfl ?_
      refine sw_goto (tp := 7) dX6_readSum_63 rfl ?_
      refine sw_dr_4_3 ?_
      exact hrec1 _ _
    · refine sw_icmp_eq (np := 22) (tp := 31) dX6_readSum_19 rfl rfl ?_ ?_
      · exact hk1 _
      · refine sw_ald_4_0 (np := 23) dX6_readSum_22 rfl ?_
        refine sw_cV0i (np := 26) (hX6_next (d := d - 1) (by omega) ) sw_mv_X6_next sw_k_16 sw_wl_RX6_34 dX6_readSum_23 (sw_fit_rm (by omega) (by decide)) (Nat.le_of_ble_eq_true rfl) rfl (fun r6 S9 => ?_)
        refine sw_bipush (np := 28) dX6_readSum_26 sw_bc_45 rfl ?_
        refine sw_icmp_ne (np := 31) (tp := 66) dX6_readSum_28 rfl rfl ?_ ?_
        · exact sw_vret dX6_readSum_66
        · exact hk1 _
theorem ogX6_readProduct {G : sw_G} {N d : Nat} (hd : 4 ≤ d) {RR : Nat → Int32 → Int32 → Int32 → Int32 → sw_St → Option (Unit × sw_St)} (hR : kG_2 G (d - 1) RR) {p1 : Int32} {S : sw_St} : sw_Ev G yX6_readProduct cX6_readProduct 4 none d sw_ev [sw_vr G 16, .int p1] S (gX6_readProduct N RR p1 S) := by
  refine sw_Ev_of (own := RX6) (lv0 := [some (sw_vr G 16), some (.int p1), none, none]) (by decide) rfl (Nat.le_of_ble_eq_true rfl) rfl ?_
  unfold gX6_readProduct
  refine sw_ald_4_0 (np := 1) dX6_readProduct_0 rfl ?_
  refine sw_ild_4_1 (np := 2) dX6_readProduct_1 rfl ?_
  refine sw_cV1v (np := 5) (hR.2.2.2.2.2.1 _ _ _ _ _) sw_mv_X6_readOperand sw_k_16 sw_wl_RX6_70 dX6_readProduct_2 (sw_fit_rm (by omega) (by decide)) (Nat.le_of_ble_eq_true rfl) rfl (fun _ S1 => ?_)
  refine sw_iconst (np := 6) dX6_readProduct_5 sw_ic_0 rfl ?_
  refine sw_ist_4_2 (np := 7) dX6_readProduct_6 rfl rfl ?_
  refine sw_lp1 (lv := fun x2_1 => [some (sw_vr G 16), some (.int p1), some (.int x2_1), none]) (fun rec1 hrec1 x2_1 S2 => ?_) _ _ _
  refine sw_ild_4_2 (np := 8) dX6_readProduct_7 rfl ?_
  refine sw_bipush (np := 10) dX6_readProduct_8 sw_bc_120 rfl ?_
  refine sw_icmp_ge (np := 13) (tp := 75) dX6_readProduct_10 rfl rfl ?_ ?_
  · exact sw_vret dX6_readProduct_75
  · refine sw_ald_4_0 (np := 14) dX6_readProduct_13 rfl ?_
    refine sw_cV0i (np := 17) (hX6_next (d := d - 1) (by omega) ) sw_mv_X6_next sw_k_16 sw_wl_RX6_34 dX6_readProduct_14 (sw_fit_rm (by omega) (by decide)) (Nat.le_of_ble_eq_true rfl) rfl (fun r2 S3 => ?_)
    refine sw_bipush (np := 19) dX6_readProduct_17 sw_bc_42 rfl ?_
    refine sw_jm0 (pj := 40) ([some (sw_vr G 16), some (.int p1), some (.int x2_1), none]) ([]) (fun S4 => ?_) (fun k1 hk1 => ?_)
    · refine sw_ald_4_0 (np := 41) dX6_readProduct_40 rfl ?_
      refine sw_cV0i (np := 44) (hX6_next (d := d - 1) (by omega) ) sw_mv_X6_next sw_k_16 sw_wl_RX6_34 dX6_readProduct_41 (sw_fit_rm (by omega) (by decide)) (Nat.le_of_ble_eq_true rfl) rfl (fun r3 S5 => ?_)
      refine sw_ist_4_3 (np := 45) dX6_readProduct_44 rfl rfl ?_
      refine sw_ald_4_0 (np := 46) dX6_readProduct_45 rfl ?_
      refine sw_dup (np := 47) dX6_readProduct_46 rfl rfl ?_
      refine sw_gI (np := 50) sw_f_RX6_24 sw_k_16 dX6_readProduct_47 rfl ?_
      refine sw_iconst (np := 51) dX6_readProduct_50 sw_ic_1 rfl ?_
      refine sw_iadd (np := 52) dX6_readProduct_51 rfl ?_
      refine sw_pI (np := 55) sw_f_RX6_24 sw_fp_6_3 sw_k_16 dX6_readProduct_52 rfl (fun S6 => ?_)
      refine sw_ald_4_0 (np := 56) dX6_readProduct_55 rfl ?_
      refine sw_ild_4_1 (np := 57) dX6_readProduct_56 rfl ?_
      refine sw_cV1v (np := 60) (hR.2.2.2.2.2.1 _ _ _ _ _) sw_mv_X6_readOperand sw_k_16 sw_wl_RX6_70 dX6_readProduct_57 (sw_fit_rm (by omega) (by decide)) (Nat.le_of_ble_eq_true rfl) rfl (fun _ S7 => ?_)
      refine sw_ald_4_0 (np := 61) dX6_readProduct_60 rfl ?_
      refine sw_gR (np := 64) sw_f_RX6_16 sw_k_16 sw_r_16_1 dX6_readProduct_61 rfl ?_
      refine sw_ild_4_3 (np := 65) dX6_readProduct_64 rfl ?_
      refine sw_iconst (np := 66) dX6_readProduct_65 sw_ic_0 rfl ?_
      refine sw_cV2v (np := 69) (hX3_add (d := d - 1) (by omega) sw_k_17) sw_mv_X3_add sw_k_17 sw_wl_RX6_51 dX6_readProduct_66 (sw_fit_rm (by omega) (by decide)) (Nat.le_of_ble_eq_true rfl) rfl (fun _ S8 => ?_)
      refine sw_inc_4_2 (np := 72) dX6_readProduct_69 sw_ic_1 rfl rfl ?_
      refine sw_goto (tp := 7) dX6_readProduct_72 rfl ?_
      refine sw_dr_4_3 ?_
      exact hrec1 _ _
    · refine sw_icmp_eq (np := 22) (tp := 40) dX6_readProduct_19 rfl rfl ?_ ?_
      · exact hk1 _
      · refine sw_ald_4_0 (np := 23) dX6_readProduct_22 rfl ?_
        refine sw_cV0i (np := 26) (hX6_next (d := d - 1) (by omega) ) sw_mv_X6_next sw_k_16 sw_wl_RX6_34 dX6_readProduct_23 (sw_fit_rm (by omega) (by decide)) (Nat.le_of_ble_eq_true rfl) rfl (fun r6 S9 => ?_)
        refine sw_bipush (np := 28) dX6_readProduct_26 sw_bc_47 rfl ?_
        refine sw_icmp_eq (np := 31) (tp := 40) dX6_readProduct_28 rfl rfl ?_ ?_
        · exact hk1 _
        · refine sw_ald_4_0 (np := 32) dX6_readProduct_31 rfl ?_
          refine sw_cV0i (np := 35) (hX6_next (d := d - 1) (by omega) ) sw_mv_X6_next sw_k_16 sw_wl_RX6_34 dX6_readProduct_32 (sw_fit_rm (by omega) (by decide)) (Nat.le_of_ble_eq_true rfl) rfl (fun r7 S10 => ?_)
          refine sw_bipush (np := 37) dX6_readProduct_35 sw_bc_37 rfl ?_
          refine sw_icmp_ne (np := 40) (tp := 75) dX6_readProduct_37 rfl rfl ?_ ?_
          · exact sw_vret dX6_readProduct_75
          · exact hk1 _
theorem ogX6_readOperand {G : sw_G} {N d : Nat} (hd : 4 ≤ d) {RR : Nat → Int32 → Int32 → Int32 → Int32 → sw_St → Option (Unit × sw_St)} (hR : kG_2 G (d - 1) RR) {p1 : Int32} {S : sw_St} : sw_Ev G yX6_readOperand cX6_readOperand 5 none d sw_ev [sw_vr G 16, .int p1] S (gX6_readOperand N RR p1 S) := by
  refine sw_Ev_of (own := RX6) (lv0 := [some (sw_vr G 16), some (.int p1), none, none, none]) (by decide) rfl (Nat.le_of_ble_eq_true rfl) rfl ?_
  unfold gX6_readOperand
  refine sw_ald_5_0 (np := 1) dX6_readOperand_0 rfl ?_
  refine sw_cV0i (np := 4) (hX6_next (d := d - 1) (by omega) ) sw_mv_X6_next sw_k_16 sw_wl_RX6_34 dX6_readOperand_1 (sw_fit_rm (by omega) (by decide)) (Nat.le_of_ble_eq_true rfl) rfl (fun r1 S1 => ?_)
  refine sw_ist_5_2 (np := 5) dX6_readOperand_4 rfl rfl ?_
  refine sw_ild_5_2 (np := 6) dX6_readOperand_5 rfl ?_
  refine sw_cS1i (np := 9) (hX6_nameOf (d := d - 1) (by omega) ) sw_ms_X6_nameOf sw_wl_RX6_73 dX6_readOperand_6 (sw_fit_rm (by omega) (by decide)) (Nat.le_of_ble_eq_true rfl) rfl (fun r2 S2 => ?_)
  refine sw_ist_5_3 (np := 10) dX6_readOperand_9 rfl rfl ?_
  refine sw_ild_5_2 (np := 11) dX6_readOperand_10 rfl ?_
  refine sw_bipush (np := 13) dX6_readOperand_11 sw_bc_40 rfl ?_
  refine sw_jm1 (pj := 33) (fun y1 => [some (sw_vr G 16), some (.int p1), some (.int r1), some (.int r2), none]) (fun y1 => [.int y1]) (fun y1 S3 => ?_) (fun k1 hk1 => ?_)
  · refine sw_ist_5_4 (np := 35) dX6_readOperand_33 rfl rfl ?_
    refine sw_ild_5_2 (np := 36) dX6_readOperand_35 rfl ?_
    refine sw_bipush (np := 38) dX6_readOperand_36 sw_bc_48 rfl ?_
    refine sw_bipush (np := 40) dX6_readOperand_38 sw_bc_57 rfl ?_
    refine sw_cT3i (np := 43) (hX8_within (d := d - 1) (by omega) ) sw_ms_X8_within sw_wn_RX6_41 dX6_readOperand_40 (sw_fit_rm (by omega) (by decide)) (Nat.le_of_ble_eq_true rfl) rfl (fun r3 S4 => ?_)
    refine sw_if_eq (np := 46) (tp := 53) dX6_readOperand_43 rfl rfl ?_ ?_
    · refine sw_ild_5_3 (np := 54) dX6_readOperand_53 rfl ?_
      refine sw_if_lt (np := 57) (tp := 80) dX6_readOperand_54 rfl rfl ?_ ?_
      · refine sw_ild_5_4 (np := 82) dX6_readOperand_80 rfl ?_
        refine sw_if_eq (np := 85) (tp := 112) dX6_readOperand_82 rfl rfl ?_ ?_
        · refine sw_ald_5_0 (np := 113) dX6_readOperand_112 rfl ?_
          refine sw_cV0v (np := 116) (hX6_noteFault (d := d - 1) (by omega) ) sw_mv_X6_noteFault sw_k_16 sw_wl_RX6_38 dX6_readOperand_113 (sw_fit_rm (by omega) (by decide)) (Nat.le_of_ble_eq_true rfl) rfl (fun _ S5 => ?_)
          exact sw_vret dX6_readOperand_116
        · refine sw_ild_5_1 (np := 86) dX6_readOperand_85 rfl ?_
          refine sw_bipush (np := 88) dX6_readOperand_86 sw_bc_6 rfl ?_
          refine sw_icmp_ge (np := 91) (tp := 112) dX6_readOperand_88 rfl rfl ?_ ?_
          · refine sw_ald_5_0 (np := 113) dX6_readOperand_112 rfl ?_
            refine sw_cV0v (np := 116) (hX6_noteFault (d := d - 1) (by omega) ) sw_mv_X6_noteFault sw_k_16 sw_wl_RX6_38 dX6_readOperand_113 (sw_fit_rm (by omega) (by decide)) (Nat.le_of_ble_eq_true rfl) rfl (fun _ S6 => ?_)
            exact sw_vret dX6_readOperand_116
          · refine sw_ald_5_0 (np := 92) dX6_readOperand_91 rfl ?_
            refine sw_dup (np := 93) dX6_readOperand_92 rfl rfl ?_
            refine sw_gI (np := 96) sw_f_RX6_24 sw_k_16 dX6_readOperand_93 rfl ?_
            refine sw_iconst (np := 97) dX6_readOperand_96 sw_ic_1 rfl ?_
            refine sw_iadd (np := 98) dX6_readOperand_97 rfl ?_
            refine sw_pI (np := 101) sw_f_RX6_24 sw_fp_6_3 sw_k_16 dX6_readOperand_98 rfl (fun S7 => ?_)
            refine sw_ald_5_0 (np := 102) dX6_readOperand_101 rfl ?_
            refine sw_ild_5_2 (np := 103) dX6_readOperand_102 rfl ?_
            refine sw_ild_5_1 (np := 104) dX6_readOperand_103 rfl ?_
            refine sw_iconst (np := 105) dX6_readOperand_104 sw_ic_1 rfl ?_
            refine sw_iadd (np := 106) dX6_readOperand_105 rfl ?_
            refine sw_cV2v (np := 109) (hR.2.2.2.2.2.2 _ _ _ _ _) sw_mv_X6_readOpened sw_k_16 sw_wl_RX6_80 dX6_readOperand_106 (sw_fit_rm (by omega) (by decide)) (Nat.le_of_ble_eq_true rfl) rfl (fun _ S8 => ?_)
            refine sw_goto (tp := 116) dX6_readOperand_109 rfl ?_
            exact sw_vret dX6_readOperand_116
      · refine sw_ald_5_0 (np := 58) dX6_readOperand_57 rfl ?_
        refine sw_dup (np := 59) dX6_readOperand_58 rfl rfl ?_
        refine sw_gI (np := 62) sw_f_RX6_24 sw_k_16 dX6_readOperand_59 rfl ?_
        refine sw_iconst (np := 63) dX6_readOperand_62 sw_ic_1 rfl ?_
        refine sw_iadd (np := 64) dX6_readOperand_63 rfl ?_
        refine sw_pI (np := 67) sw_f_RX6_24 sw_fp_6_3 sw_k_16 dX6_readOperand_64 rfl (fun S9 => ?_)
        refine sw_ald_5_0 (np := 68) dX6_readOperand_67 rfl ?_
        refine sw_gR (np := 71) sw_f_RX6_16 sw_k_16 sw_r_16_1 dX6_readOperand_68 rfl ?_
        refine sw_bipush (np := 73) dX6_readOperand_71 sw_bc_110 rfl ?_
        refine sw_ild_5_3 (np := 74) dX6_readOperand_73 rfl ?_
        refine sw_cV2v (np := 77) (hX3_add (d := d - 1) (by omega) sw_k_17) sw_mv_X3_add sw_k_17 sw_wl_RX6_51 dX6_readOperand_74 (sw_fit_rm (by omega) (by decide)) (Nat.le_of_ble_eq_true rfl) rfl (fun _ S10 => ?_)
        refine sw_goto (tp := 116) dX6_readOperand_77 rfl ?_
        exact sw_vret dX6_readOperand_116
    · refine sw_ald_5_0 (np := 47) dX6_readOperand_46 rfl ?_
      refine sw_cV0v (np := 50) (hX6_readNumber (d := d - 1) (by omega) ) sw_mv_X6_readNumber sw_k_16 sw_wl_RX6_77 dX6_readOperand_47 (sw_fit_rm (by omega) (by decide)) (Nat.le_of_ble_eq_true rfl) rfl (fun _ S11 => ?_)
      refine sw_goto (tp := 116) dX6_readOperand_50 rfl ?_
      exact sw_vret dX6_readOperand_116
  · refine sw_icmp_eq (np := 16) (tp := 28) dX6_readOperand_13 rfl rfl ?_ ?_
    · refine sw_iconst (np := 29) dX6_readOperand_28 sw_ic_1 rfl ?_
      refine sw_goto (tp := 33) dX6_readOperand_29 rfl ?_
      exact hk1 _ _
    · refine sw_ild_5_2 (np := 17) dX6_readOperand_16 rfl ?_
      refine sw_bipush (np := 19) dX6_readOperand_17 sw_bc_33 rfl ?_
      refine sw_icmp_eq (np := 22) (tp := 28) dX6_readOperand_19 rfl rfl ?_ ?_
      · refine sw_iconst (np := 29) dX6_readOperand_28 sw_ic_1 rfl ?_
        refine sw_goto (tp := 33) dX6_readOperand_29 rfl ?_
        exact hk1 _ _
      · refine sw_ild_5_2 (np := 23) dX6_readOperand_22 rfl ?_
        refine sw_bipush (np := 25) dX6_readOperand_23 sw_bc_45 rfl ?_
        refine sw_icmp_ne (np := 28) (tp := 32) dX6_readOperand_25 rfl rfl ?_ ?_
        · refine sw_iconst (np := 33) dX6_readOperand_32 sw_ic_0 rfl ?_
          exact hk1 _ _
        · refine sw_iconst (np := 29) dX6_readOperand_28 sw_ic_1 rfl ?_
          refine sw_goto (tp := 33) dX6_readOperand_29 rfl ?_
          exact hk1 _ _
theorem ogX6_readOpened {G : sw_G} {N d : Nat} (hd : 4 ≤ d) {RR : Nat → Int32 → Int32 → Int32 → Int32 → sw_St → Option (Unit × sw_St)} (hR : kG_2 G (d - 1) RR) {p1 : Int32} {p2 : Int32} {S : sw_St} : sw_Ev G yX6_readOpened cX6_readOpened 3 none d sw_ev [sw_vr G 16, .int p1, .int p2] S (gX6_readOpened N RR p1 p2 S) := by
  refine sw_Ev_of (own := RX6) (lv0 := [some (sw_vr G 16), some (.int p1), some (.int p2)]) (by decide) rfl (Nat.le_of_ble_eq_true rfl) rfl ?_
  unfold gX6_readOpened
  refine sw_ild_3_1 (np := 1) dX6_readOpened_0 rfl ?_
  refine sw_bipush (np := 3) dX6_readOpened_1 sw_bc_40 rfl ?_
  refine sw_icmp_eq (np := 6) (tp := 33) dX6_readOpened_3 rfl rfl ?_ ?_
  · refine sw_ald_3_0 (np := 34) dX6_readOpened_33 rfl ?_
    refine sw_ild_3_2 (np := 35) dX6_readOpened_34 rfl ?_
    refine sw_cV1v (np := 38) (hR.1 _ _ _ _ _) sw_mv_X6_readOr sw_k_16 sw_wl_RX6_47 dX6_readOpened_35 (sw_fit_rm (by omega) (by decide)) (Nat.le_of_ble_eq_true rfl) rfl (fun _ S1 => ?_)
    refine sw_ald_3_0 (np := 39) dX6_readOpened_38 rfl ?_
    refine sw_cV0i (np := 42) (hX6_next (d := d - 1) (by omega) ) sw_mv_X6_next sw_k_16 sw_wl_RX6_34 dX6_readOpened_39 (sw_fit_rm (by omega) (by decide)) (Nat.le_of_ble_eq_true rfl) rfl (fun r2 S2 => ?_)
    refine sw_bipush (np := 44) dX6_readOpened_42 sw_bc_41 rfl ?_
    refine sw_icmp_ne (np := 47) (tp := 60) dX6_readOpened_44 rfl rfl ?_ ?_
    · refine sw_ald_3_0 (np := 61) dX6_readOpened_60 rfl ?_
      refine sw_cV0v (np := 64) (hX6_noteFault (d := d - 1) (by omega) ) sw_mv_X6_noteFault sw_k_16 sw_wl_RX6_38 dX6_readOpened_61 (sw_fit_rm (by omega) (by decide)) (Nat.le_of_ble_eq_true rfl) rfl (fun _ S3 => ?_)
      exact sw_vret dX6_readOpened_64
    · refine sw_ald_3_0 (np := 48) dX6_readOpened_47 rfl ?_
      refine sw_dup (np := 49) dX6_readOpened_48 rfl rfl ?_
      refine sw_gI (np := 52) sw_f_RX6_24 sw_k_16 dX6_readOpened_49 rfl ?_
      refine sw_iconst (np := 53) dX6_readOpened_52 sw_ic_1 rfl ?_
      refine sw_iadd (np := 54) dX6_readOpened_53 rfl ?_
      refine sw_pI (np := 57) sw_f_RX6_24 sw_fp_6_3 sw_k_16 dX6_readOpened_54 rfl (fun S4 => ?_)
      refine sw_goto (tp := 64) dX6_readOpened_57 rfl ?_
      exact sw_vret dX6_readOpened_64
  · refine sw_ald_3_0 (np := 7) dX6_readOpened_6 rfl ?_
    refine sw_ild_3_2 (np := 8) dX6_readOpened_7 rfl ?_
    refine sw_cV1v (np := 11) (hR.2.2.2.2.2.1 _ _ _ _ _) sw_mv_X6_readOperand sw_k_16 sw_wl_RX6_70 dX6_readOpened_8 (sw_fit_rm (by omega) (by decide)) (Nat.le_of_ble_eq_true rfl) rfl (fun _ S5 => ?_)
    refine sw_ald_3_0 (np := 12) dX6_readOpened_11 rfl ?_
    refine sw_gR (np := 15) sw_f_RX6_16 sw_k_16 sw_r_16_1 dX6_readOpened_12 rfl ?_
    refine sw_ild_3_1 (np := 16) dX6_readOpened_15 rfl ?_
    refine sw_bipush (np := 18) dX6_readOpened_16 sw_bc_33 rfl ?_
    refine sw_icmp_ne (np := 21) (tp := 26) dX6_readOpened_18 rfl rfl ?_ ?_
    · refine sw_bipush (np := 28) dX6_readOpened_26 sw_bc_126 rfl ?_
      refine sw_iconst (np := 29) dX6_readOpened_28 sw_ic_0 rfl ?_
      refine sw_cV2v (np := 32) (hX3_add (d := d - 1) (by omega) sw_k_17) sw_mv_X3_add sw_k_17 sw_wl_RX6_51 dX6_readOpened_29 (sw_fit_rm (by omega) (by decide)) (Nat.le_of_ble_eq_true rfl) rfl (fun _ S6 => ?_)
      exact sw_vret dX6_readOpened_32
    · refine sw_bipush (np := 23) dX6_readOpened_21 sw_bc_33 rfl ?_
      refine sw_goto (tp := 28) dX6_readOpened_23 rfl ?_
      refine sw_iconst (np := 29) dX6_readOpened_28 sw_ic_0 rfl ?_
      refine sw_cV2v (np := 32) (hX3_add (d := d - 1) (by omega) sw_k_17) sw_mv_X3_add sw_k_17 sw_wl_RX6_51 dX6_readOpened_29 (sw_fit_rm (by omega) (by decide)) (Nat.le_of_ble_eq_true rfl) rfl (fun _ S7 => ?_)
      exact sw_vret dX6_readOpened_32
theorem hG_2 {G : sw_G} {N : Nat} : ∀ n d, 4 + n ≤ d → kG_2 G d (fG_2 N n) := by
  intro n
  induction n with
  | zero => intro d _; exact ⟨(fun _ _ _ _ _ _ h => by cases h), (fun _ _ _ _ _ _ h => by cases h), (fun _ _ _ _ _ _ h => by cases h), (fun _ _ _ _ _ _ h => by cases h), (fun _ _ _ _ _ _ h => by cases h), (fun _ _ _ _ _ _ h => by cases h), (fun _ _ _ _ _ _ h => by cases h)⟩
  | succ n ih => intro d hd; exact ⟨(fun _ _ _ _ _ => ogX6_readOr (N := N) (by omega) (ih (d - 1) (by omega))), (fun _ _ _ _ _ => ogX6_readAnd (N := N) (by omega) (ih (d - 1) (by omega))), (fun _ _ _ _ _ => ogX6_readComparison (N := N) (by omega) (ih (d - 1) (by omega))), (fun _ _ _ _ _ => ogX6_readSum (N := N) (by omega) (ih (d - 1) (by omega))), (fun _ _ _ _ _ => ogX6_readProduct (N := N) (by omega) (ih (d - 1) (by omega))), (fun _ _ _ _ _ => ogX6_readOperand (N := N) (by omega) (ih (d - 1) (by omega))), (fun _ _ _ _ _ => ogX6_readOpened (N := N) (by omega) (ih (d - 1) (by omega)))⟩
def fX6_readOr (N : Nat) (p1 : Int32) (S : sw_St) : Option (Unit × sw_St) := fG_2 N 100 0 p1 0 0 0 S
theorem hX6_readOr {G : sw_G} {N d : Nat} (hd : 104 ≤ d) {p1 : Int32} {S : sw_St} : sw_Ev G yX6_readOr cX6_readOr 3 none d sw_ev [sw_vr G 16, .int p1] S (fX6_readOr N p1 S) := (hG_2 (G := G) (N := N) 100 d hd).1 _ _ _ _ _
def fX6_readAnd (N : Nat) (p1 : Int32) (S : sw_St) : Option (Unit × sw_St) := fG_2 N 100 1 p1 0 0 0 S
theorem hX6_readAnd {G : sw_G} {N d : Nat} (hd : 104 ≤ d) {p1 : Int32} {S : sw_St} : sw_Ev G yX6_readAnd cX6_readAnd 3 none d sw_ev [sw_vr G 16, .int p1] S (fX6_readAnd N p1 S) := (hG_2 (G := G) (N := N) 100 d hd).2.1 _ _ _ _ _
def fX6_readComparison (N : Nat) (p1 : Int32) (S : sw_St) : Option (Unit × sw_St) := fG_2 N 100 2 p1 0 0 0 S
theorem hX6_readComparison {G : sw_G} {N d : Nat} (hd : 104 ≤ d) {p1 : Int32} {S : sw_St} : sw_Ev G yX6_readComparison cX6_readComparison 3 none d sw_ev [sw_vr G 16, .int p1] S (fX6_readComparison N p1 S) := (hG_2 (G := G) (N := N) 100 d hd).2.2.1 _ _ _ _ _
def fX6_readSum (N : Nat) (p1 : Int32) (S : sw_St) : Option (Unit × sw_St) := fG_2 N 100 3 p1 0 0 0 S
theorem hX6_readSum {G : sw_G} {N d : Nat} (hd : 104 ≤ d) {p1 : Int32} {S : sw_St} : sw_Ev G yX6_readSum cX6_readSum 4 none d sw_ev [sw_vr G 16, .int p1] S (fX6_readSum N p1 S) := (hG_2 (G := G) (N := N) 100 d hd).2.2.2.1 _ _ _ _ _
def fX6_readProduct (N : Nat) (p1 : Int32) (S : sw_St) : Option (Unit × sw_St) := fG_2 N 100 4 p1 0 0 0 S
theorem hX6_readProduct {G : sw_G} {N d : Nat} (hd : 104 ≤ d) {p1 : Int32} {S : sw_St} : sw_Ev G yX6_readProduct cX6_readProduct 4 none d sw_ev [sw_vr G 16, .int p1] S (fX6_readProduct N p1 S) := (hG_2 (G := G) (N := N) 100 d hd).2.2.2.2.1 _ _ _ _ _
def fX6_readOperand (N : Nat) (p1 : Int32) (S : sw_St) : Option (Unit × sw_St) := fG_2 N 100 5 p1 0 0 0 S
theorem hX6_readOperand {G : sw_G} {N d : Nat} (hd : 104 ≤ d) {p1 : Int32} {S : sw_St} : sw_Ev G yX6_readOperand cX6_readOperand 5 none d sw_ev [sw_vr G 16, .int p1] S (fX6_readOperand N p1 S) := (hG_2 (G := G) (N := N) 100 d hd).2.2.2.2.2.1 _ _ _ _ _
def fX6_readOpened (N : Nat) (p1 : Int32) (p2 : Int32) (S : sw_St) : Option (Unit × sw_St) := fG_2 N 100 6 p1 p2 0 0 S
theorem hX6_readOpened {G : sw_G} {N d : Nat} (hd : 104 ≤ d) {p1 : Int32} {p2 : Int32} {S : sw_St} : sw_Ev G yX6_readOpened cX6_readOpened 3 none d sw_ev [sw_vr G 16, .int p1, .int p2] S (fX6_readOpened N p1 p2 S) := (hG_2 (G := G) (N := N) 100 d hd).2.2.2.2.2.2 _ _ _ _ _
/-- SwordAttic$Tape.readLine()V -/
def fX6_readLine (N : Nat)  (S : sw_St) : Option (Unit × sw_St) :=
  sw_bd (fX6_readOr N (0 : Int32) S) (fun _ S1 => (sw_bd (fX6_next N S1) (fun r2 S2 => (sw_jn1 (fun x1_1 S3 => (sw_bd (fX8_within N x1_1 (0 : Int32) (127 : Int32) S3) (fun r3 S4 => (if r3 = 0 then (sw_bd (fX3_add N 17 (59 : Int32) (0 : Int32) S4) (fun _ S5 => (some ((), S5)))) else (sw_gd (sw_in x1_1 128) (sw_ls (sw_si S4 (17 + 2) x1_1.toNatClampNeg (S4.1 17 1)) (fun S6 => (sw_bd (fX3_add N 17 (59 : Int32) (0 : Int32) S6) (fun _ S7 => (some ((), S7))))))))))) (fun k1 => (if r2 = (63 : Int32) then (sw_ls (sw_si S2 16 3 ((S2.1 16 3) + (1 : Int32))) (fun S8 => (sw_li (S8.1 17 1) (fun x1_2 => (sw_bd (fX3_add N 17 (63 : Int32) (0 : Int32) S8) (fun _ S9 => (sw_bd (fX6_readOr N (0 : Int32) S9) (fun _ S10 => (k1 x1_2 S10))))))))) else (k1 (-1 : Int32) S2)))))))
theorem hX6_readLine {G : sw_G} {N d : Nat} (hd : 105 ≤ d)   {S : sw_St} : sw_Ev G yX6_readLine cX6_readLine 2 none d sw_ev [sw_vr G 16] S (fX6_readLine N  S) := by
  refine sw_Ev_of (own := RX6) (lv0 := [some (sw_vr G 16), none]) (by decide) rfl (Nat.le_of_ble_eq_true rfl) rfl ?_
  unfold fX6_readLine
  refine sw_ald_2_0 (np := 1) dX6_readLine_0 rfl ?_
  refine sw_iconst (np := 2) dX6_readLine_1 sw_ic_0 rfl ?_
  refine sw_cV1v (np := 5) (hX6_readOr (d := d - 1) (by omega) ) sw_mv_X6_readOr sw_k_16 sw_wl_RX6_47 dX6_readLine_2 (sw_fit_rm (by omega) (by decide)) (Nat.le_of_ble_eq_true rfl) rfl (fun _ S1 => ?_)
  refine sw_iconst (np := 6) dX6_readLine_5 sw_ic_m1 rfl ?_
  refine sw_ist_2_1 (np := 7) dX6_readLine_6 rfl rfl ?_
  refine sw_ald_2_0 (np := 8) dX6_readLine_7 rfl ?_
  refine sw_cV0i (np := 11) (hX6_next (d := d - 1) (by omega) ) sw_mv_X6_next sw_k_16 sw_wl_RX6_34 dX6_readLine_8 (sw_fit_rm (by omega) (by decide)) (Nat.le_of_ble_eq_true rfl) rfl (fun r2 S2 => ?_)
  refine sw_bipush (np := 13) dX6_readLine_11 sw_bc_63 rfl ?_
  refine sw_jm1 (pj := 49) (fun x1_1 => [some (sw_vr G 16), some (.int x1_1)]) (fun x1_1 => []) (fun x1_1 S3 => ?_) (fun k1 hk1 => ?_)
  · refine sw_ild_2_1 (np := 50) dX6_readLine_49 rfl ?_
    refine sw_iconst (np := 51) dX6_readLine_50 sw_ic_0 rfl ?_
    refine sw_bipush (np := 53) dX6_readLine_51 sw_bc_127 rfl ?_
    refine sw_cT3i (np := 56) (hX8_within (d := d - 1) (by omega) ) sw_ms_X8_within sw_wn_RX6_41 dX6_readLine_53 (sw_fit_rm (by omega) (by decide)) (Nat.le_of_ble_eq_true rfl) rfl (fun r3 S4 => ?_)
    refine sw_if_eq (np := 59) (tp := 75) dX6_readLine_56 rfl rfl ?_ ?_
    · refine sw_ald_2_0 (np := 76) dX6_readLine_75 rfl ?_
      refine sw_gR (np := 79) sw_f_RX6_16 sw_k_16 sw_r_16_1 dX6_readLine_76 rfl ?_
      refine sw_bipush (np := 81) dX6_readLine_79 sw_bc_59 rfl ?_
      refine sw_iconst (np := 82) dX6_readLine_81 sw_ic_0 rfl ?_
      refine sw_cV2v (np := 85) (hX3_add (d := d - 1) (by omega) sw_k_17) sw_mv_X3_add sw_k_17 sw_wl_RX6_51 dX6_readLine_82 (sw_fit_rm (by omega) (by decide)) (Nat.le_of_ble_eq_true rfl) rfl (fun _ S5 => ?_)
      exact sw_vret dX6_readLine_85
    · refine sw_ald_2_0 (np := 60) dX6_readLine_59 rfl ?_
      refine sw_gR (np := 63) sw_f_RX6_16 sw_k_16 sw_r_16_1 dX6_readLine_60 rfl ?_
      refine sw_gR (np := 66) sw_f_RX6_55 sw_k_17 (sw_rf_3_3 sw_k_17) dX6_readLine_63 rfl ?_
      refine sw_ild_2_1 (np := 67) dX6_readLine_66 rfl ?_
      refine sw_ald_2_0 (np := 68) dX6_readLine_67 rfl ?_
      refine sw_gR (np := 71) sw_f_RX6_16 sw_k_16 sw_r_16_1 dX6_readLine_68 rfl ?_
      refine sw_gI (np := 74) sw_f_RX6_30 sw_k_17 dX6_readLine_71 rfl ?_
      refine sw_sI (np := 75) (sw_kd_3_3 sw_k_17) (sw_ln_3_3 sw_k_17) dX6_readLine_74 rfl (fun S6 => ?_)
      refine sw_ald_2_0 (np := 76) dX6_readLine_75 rfl ?_
      refine sw_gR (np := 79) sw_f_RX6_16 sw_k_16 sw_r_16_1 dX6_readLine_76 rfl ?_
      refine sw_bipush (np := 81) dX6_readLine_79 sw_bc_59 rfl ?_
      refine sw_iconst (np := 82) dX6_readLine_81 sw_ic_0 rfl ?_
      refine sw_cV2v (np := 85) (hX3_add (d := d - 1) (by omega) sw_k_17) sw_mv_X3_add sw_k_17 sw_wl_RX6_51 dX6_readLine_82 (sw_fit_rm (by omega) (by decide)) (Nat.le_of_ble_eq_true rfl) rfl (fun _ S7 => ?_)
      exact sw_vret dX6_readLine_85
  · refine sw_icmp_ne (np := 16) (tp := 49) dX6_readLine_13 rfl rfl ?_ ?_
    · exact hk1 _ _
    · refine sw_ald_2_0 (np := 17) dX6_readLine_16 rfl ?_
      refine sw_dup (np := 18) dX6_readLine_17 rfl rfl ?_
      refine sw_gI (np := 21) sw_f_RX6_24 sw_k_16 dX6_readLine_18 rfl ?_
      refine sw_iconst (np := 22) dX6_readLine_21 sw_ic_1 rfl ?_
      refine sw_iadd (np := 23) dX6_readLine_22 rfl ?_
      refine sw_pI (np := 26) sw_f_RX6_24 sw_fp_6_3 sw_k_16 dX6_readLine_23 rfl (fun S8 => ?_)
      refine sw_ald_2_0 (np := 27) dX6_readLine_26 rfl ?_
      refine sw_gR (np := 30) sw_f_RX6_16 sw_k_16 sw_r_16_1 dX6_readLine_27 rfl ?_
      refine sw_gI (np := 33) sw_f_RX6_30 sw_k_17 dX6_readLine_30 rfl ?_
      refine sw_isl_2_1 (np := 34) dX6_readLine_33 rfl rfl (fun x1_2 => ?_)
      refine sw_ald_2_0 (np := 35) dX6_readLine_34 rfl ?_
      refine sw_gR (np := 38) sw_f_RX6_16 sw_k_16 sw_r_16_1 dX6_readLine_35 rfl ?_
      refine sw_bipush (np := 40) dX6_readLine_38 sw_bc_63 rfl ?_
      refine sw_iconst (np := 41) dX6_readLine_40 sw_ic_0 rfl ?_
      refine sw_cV2v (np := 44) (hX3_add (d := d - 1) (by omega) sw_k_17) sw_mv_X3_add sw_k_17 sw_wl_RX6_51 dX6_readLine_41 (sw_fit_rm (by omega) (by decide)) (Nat.le_of_ble_eq_true rfl) rfl (fun _ S9 => ?_)
      refine sw_ald_2_0 (np := 45) dX6_readLine_44 rfl ?_
      refine sw_iconst (np := 46) dX6_readLine_45 sw_ic_0 rfl ?_
      refine sw_cV1v (np := 49) (hX6_readOr (d := d - 1) (by omega) ) sw_mv_X6_readOr sw_k_16 sw_wl_RX6_47 dX6_readLine_46 (sw_fit_rm (by omega) (by decide)) (Nat.le_of_ble_eq_true rfl) rfl (fun _ S10 => ?_)
      exact hk1 _ _
/-- SwordAttic$Tape.read()I -/
def fX6_read (N : Nat)  (S : sw_St) : Option (Int32 × sw_St) :=
  sw_ls (sw_si S 16 3 (0 : Int32)) (fun S1 => (sw_ls (sw_si S1 16 4 (-1 : Int32)) (fun S2 => (sw_ls (sw_si S2 17 1 (0 : Int32)) (fun S3 => (sw_bd (fX6_readLine N S3) (fun _ S4 => (sw_fx1 (fun rec1 x1_1 S5 => (if x1_1 ≥ (120 : Int32) then (if (S5.1 16 3) ≥ (S5.1 16 0) then (some ((S5.1 16 4), S5)) else (sw_bd (fX6_noteFault N S5) (fun _ S6 => (some ((S6.1 16 4), S6))))) else (sw_bd (fX6_next N S5) (fun r3 S7 => (if r3 = (59 : Int32) then (sw_ls (sw_si S7 16 3 ((S7.1 16 3) + (1 : Int32))) (fun S9 => (sw_bd (fX6_readLine N S9) (fun _ S10 => (rec1 (x1_1 + (1 : Int32)) S10))))) else (if (S7.1 16 3) ≥ (S7.1 16 0) then (some ((S7.1 16 4), S7)) else (sw_bd (fX6_noteFault N S7) (fun _ S8 => (some ((S8.1 16 4), S8)))))))))) N (0 : Int32) S4))))))))
theorem hX6_read {G : sw_G} {N d : Nat} (hd : 106 ≤ d)   {S : sw_St} : sw_Ev G yX6_read cX6_read 2 (some .int) d sw_ei [sw_vr G 16] S (fX6_read N  S) := by
  refine sw_Ev_of (own := RX6) (lv0 := [some (sw_vr G 16), none]) (by decide) rfl (Nat.le_of_ble_eq_true rfl) rfl ?_
  unfold fX6_read
  refine sw_ald_2_0 (np := 1) dX6_read_0 rfl ?_
  refine sw_iconst (np := 2) dX6_read_1 sw_ic_0 rfl ?_
  refine sw_pI (np := 5) sw_f_RX6_24 sw_fp_6_3 sw_k_16 dX6_read_2 rfl (fun S1 => ?_)
  refine sw_ald_2_0 (np := 6) dX6_read_5 rfl ?_
  refine sw_iconst (np := 7) dX6_read_6 sw_ic_m1 rfl ?_
  refine sw_pI (np := 10) sw_f_RX6_27 sw_fp_6_4 sw_k_16 dX6_read_7 rfl (fun S2 => ?_)
  refine sw_ald_2_0 (np := 11) dX6_read_10 rfl ?_
  refine sw_gR (np := 14) sw_f_RX6_16 sw_k_16 sw_r_16_1 dX6_read_11 rfl ?_
  refine sw_iconst (np := 15) dX6_read_14 sw_ic_0 rfl ?_
  refine sw_pI (np := 18) sw_f_RX6_30 sw_fp_3_1 sw_k_17 dX6_read_15 rfl (fun S3 => ?_)
  refine sw_ald_2_0 (np := 19) dX6_read_18 rfl ?_
  refine sw_cV0v (np := 22) (hX6_readLine (d := d - 1) (by omega) ) sw_mv_X6_readLine sw_k_16 sw_wl_RX6_31 dX6_read_19 (sw_fit_rm (by omega) (by decide)) (Nat.le_of_ble_eq_true rfl) rfl (fun _ S4 => ?_)
  refine sw_iconst (np := 23) dX6_read_22 sw_ic_0 rfl ?_
  refine sw_ist_2_1 (np := 24) dX6_read_23 rfl rfl ?_
  refine sw_lp1 (lv := fun x1_1 => [some (sw_vr G 16), some (.int x1_1)]) (fun rec1 hrec1 x1_1 S5 => ?_) _ _ _
  refine sw_ild_2_1 (np := 25) dX6_read_24 rfl ?_
  refine sw_bipush (np := 27) dX6_read_25 sw_bc_120 rfl ?_
  refine sw_icmp_ge (np := 30) (tp := 59) dX6_read_27 rfl rfl ?_ ?_
  · refine sw_ald_2_0 (np := 60) dX6_read_59 rfl ?_
    refine sw_gI (np := 63) sw_f_RX6_24 sw_k_16 dX6_read_60 rfl ?_
    refine sw_ald_2_0 (np := 64) dX6_read_63 rfl ?_
    refine sw_gI (np := 67) sw_f_RX6_7 sw_k_16 dX6_read_64 rfl ?_
    refine sw_icmp_ge (np := 70) (tp := 74) dX6_read_67 rfl rfl ?_ ?_
    · refine sw_ald_2_0 (np := 75) dX6_read_74 rfl ?_
      refine sw_gI (np := 78) sw_f_RX6_27 sw_k_16 dX6_read_75 rfl ?_
      exact sw_iret dX6_read_78
    · refine sw_ald_2_0 (np := 71) dX6_read_70 rfl ?_
      refine sw_cV0v (np := 74) (hX6_noteFault (d := d - 1) (by omega) ) sw_mv_X6_noteFault sw_k_16 sw_wl_RX6_38 dX6_read_71 (sw_fit_rm (by omega) (by decide)) (Nat.le_of_ble_eq_true rfl) rfl (fun _ S6 => ?_)
      refine sw_ald_2_0 (np := 75) dX6_read_74 rfl ?_
      refine sw_gI (np := 78) sw_f_RX6_27 sw_k_16 dX6_read_75 rfl ?_
      exact sw_iret dX6_read_78
  · refine sw_ald_2_0 (np := 31) dX6_read_30 rfl ?_
    refine sw_cV0i (np := 34) (hX6_next (d := d - 1) (by omega) ) sw_mv_X6_next sw_k_16 sw_wl_RX6_34 dX6_read_31 (sw_fit_rm (by omega) (by decide)) (Nat.le_of_ble_eq_true rfl) rfl (fun r3 S7 => ?_)
    refine sw_bipush (np := 36) dX6_read_34 sw_bc_59 rfl ?_
    refine sw_icmp_ne (np := 39) (tp := 59) dX6_read_36 rfl rfl ?_ ?_
    · refine sw_ald_2_0 (np := 60) dX6_read_59 rfl ?_
      refine sw_gI (np := 63) sw_f_RX6_24 sw_k_16 dX6_read_60 rfl ?_
      refine sw_ald_2_0 (np := 64) dX6_read_63 rfl ?_
      refine sw_gI (np := 67) sw_f_RX6_7 sw_k_16 dX6_read_64 rfl ?_
      refine sw_icmp_ge (np := 70) (tp := 74) dX6_read_67 rfl rfl ?_ ?_
      · refine sw_ald_2_0 (np := 75) dX6_read_74 rfl ?_
        refine sw_gI (np := 78) sw_f_RX6_27 sw_k_16 dX6_read_75 rfl ?_
        exact sw_iret dX6_read_78
      · refine sw_ald_2_0 (np := 71) dX6_read_70 rfl ?_
        refine sw_cV0v (np := 74) (hX6_noteFault (d := d - 1) (by omega) ) sw_mv_X6_noteFault sw_k_16 sw_wl_RX6_38 dX6_read_71 (sw_fit_rm (by omega) (by decide)) (Nat.le_of_ble_eq_true rfl) rfl (fun _ S8 => ?_)
        refine sw_ald_2_0 (np := 75) dX6_read_74 rfl ?_
        refine sw_gI (np := 78) sw_f_RX6_27 sw_k_16 dX6_read_75 rfl ?_
        exact sw_iret dX6_read_78
    · refine sw_ald_2_0 (np := 40) dX6_read_39 rfl ?_
      refine sw_dup (np := 41) dX6_read_40 rfl rfl ?_
      refine sw_gI (np := 44) sw_f_RX6_24 sw_k_16 dX6_read_41 rfl ?_
      refine sw_iconst (np := 45) dX6_read_44 sw_ic_1 rfl ?_
      refine sw_iadd (np := 46) dX6_read_45 rfl ?_
      refine sw_pI (np := 49) sw_f_RX6_24 sw_fp_6_3 sw_k_16 dX6_read_46 rfl (fun S9 => ?_)
      refine sw_ald_2_0 (np := 50) dX6_read_49 rfl ?_
      refine sw_cV0v (np := 53) (hX6_readLine (d := d - 1) (by omega) ) sw_mv_X6_readLine sw_k_16 sw_wl_RX6_31 dX6_read_50 (sw_fit_rm (by omega) (by decide)) (Nat.le_of_ble_eq_true rfl) rfl (fun _ S10 => ?_)
      refine sw_inc_2_1 (np := 56) dX6_read_53 sw_ic_1 rfl rfl ?_
      refine sw_goto (tp := 24) dX6_read_56 rfl ?_
      exact hrec1 _ _
/-- SwordAttic$Thought.fresh()LSwordAttic$Night; -/
def fX7_fresh (N : Nat)  (S : sw_St) : Option (Nat × sw_St) :=
  sw_gd (sw_in (0 : Int32) 5) (sw_bd (fX4_become N (29 + 10 * (0 : Int32).toNatClampNeg) 1 S) (fun _ S1 => (sw_gd (sw_in (0 : Int32) 5) (some ((29 + 10 * (0 : Int32).toNatClampNeg), S1)))))
theorem hX7_fresh {G : sw_G} {N d : Nat} (hd : 3 ≤ d)   {S : sw_St} : sw_Ev G yX7_fresh cX7_fresh 1 (some (.object "SwordAttic$Night")) d (sw_er G) [sw_vr G 23] S (fX7_fresh N  S) := by
  refine sw_Ev_of (own := RX7) (lv0 := [some (sw_vr G 23)]) (by decide) rfl (Nat.le_of_ble_eq_true rfl) rfl ?_
  unfold fX7_fresh
  refine sw_ald_1_0 (np := 1) dX7_fresh_0 rfl ?_
  refine sw_gR (np := 4) sw_f_RX7_36 sw_k_23 sw_r_23_9 dX7_fresh_1 rfl ?_
  refine sw_iconst (np := 5) dX7_fresh_4 sw_ic_0 rfl ?_
  refine sw_aldN (np := 6) dX7_fresh_5 rfl (fun hq1 => ?_)
  refine sw_ald_1_0 (np := 7) dX7_fresh_6 rfl ?_
  refine sw_gR (np := 10) sw_f_RX7_49 sw_k_23 sw_r_23_7 dX7_fresh_7 rfl ?_
  refine sw_cV1v (np := 13) (hX4_become (d := d - 1) (by omega) hq1 sw_k_1) sw_mv_X4_become hq1 sw_wl_RX7_58 dX7_fresh_10 (sw_fit_rm (by omega) (by decide)) (Nat.le_of_ble_eq_true rfl) rfl (fun _ S1 => ?_)
  refine sw_ald_1_0 (np := 14) dX7_fresh_13 rfl ?_
  refine sw_gR (np := 17) sw_f_RX7_36 sw_k_23 sw_r_23_9 dX7_fresh_14 rfl ?_
  refine sw_iconst (np := 18) dX7_fresh_17 sw_ic_0 rfl ?_
  refine sw_aldN (np := 19) dX7_fresh_18 rfl (fun hq2 => ?_)
  exact sw_aret dX7_fresh_19
/-- SwordAttic$Thought.behind(LSwordAttic$Shelf;I)LSwordAttic$Night; -/
def fX7_behind (N : Nat) (o1 : Nat) (p2 : Int32) (S : sw_St) : Option (Nat × sw_St) :=
  sw_bd (fX7_fresh N S) (fun r1 S1 => sw_gd (decide (sw_kd r1 = 4)) (sw_bd (fX5_hours N o1 S1) (fun r2 S2 => (sw_li (sw_mn p2 r2) (fun x4_1 => (sw_fx1 (fun rec1 x5_1 S3 => (if x5_1 ≥ x4_1 then (some (r1, S3)) else (sw_bd (fX5_byteAt N o1 x5_1 S3) (fun r3 S4 => (sw_bd (fX4_passHour N r1 11 r3 S4) (fun _ S5 => (rec1 (x5_1 + (1 : Int32)) S5))))))) N (0 : Int32) S2))))))
theorem hX7_behind {G : sw_G} {N d : Nat} (hd : 6 ≤ d) {o1 : Nat} {p2 : Int32} (ho1 : sw_kd o1 = 5) {S : sw_St} : sw_Ev G yX7_behind cX7_behind 6 (some (.object "SwordAttic$Night")) d (sw_er G) [sw_vr G 23, sw_vr G o1, .int p2] S (fX7_behind N o1 p2 S) := by
  refine sw_Ev_of (own := RX7) (lv0 := [some (sw_vr G 23), some (sw_vr G o1), some (.int p2), none, none, none]) (by decide) rfl (Nat.le_of_ble_eq_true rfl) rfl ?_
  unfold fX7_behind
  refine sw_ald_6_0 (np := 1) dX7_behind_0 rfl ?_
  refine sw_cV0n (np := 4) (hX7_fresh (d := d - 1) (by omega) ) sw_mv_X7_fresh sw_k_23 sw_wl_RX7_62 dX7_behind_1 (sw_fit_rm (by omega) (by decide)) (Nat.le_of_ble_eq_true rfl) rfl (fun r1 S1 hq1 => ?_)
  refine sw_ast_6_3 (np := 5) dX7_behind_4 rfl rfl ?_
  refine sw_ild_6_2 (np := 6) dX7_behind_5 rfl ?_
  refine sw_ald_6_1 (np := 7) dX7_behind_6 rfl ?_
  refine sw_cV0i (np := 10) (hX5_hours (d := d - 1) (by omega) ho1) sw_mv_X5_hours ho1 sw_wl_RX7_66 dX7_behind_7 (sw_fit_rm (by omega) (by decide)) (Nat.le_of_ble_eq_true rfl) rfl (fun r2 S2 => ?_)
  refine sw_mmin (np := 13) sw_mth_min sw_wm_RX7_72 (by show 1 ≤ d; omega) (sw_room (by omega) (Nat.le_of_ble_eq_true rfl)) (Nat.zero_le _) (Nat.zero_le _) dX7_behind_10 rfl ?_
  refine sw_isl_6_4 (np := 15) dX7_behind_13 rfl rfl (fun x4_1 => ?_)
  refine sw_iconst (np := 16) dX7_behind_15 sw_ic_0 rfl ?_
  refine sw_ist_6_5 (np := 18) dX7_behind_16 rfl rfl ?_
  refine sw_dr_6_2 ?_
  refine sw_lp1 (lv := fun x5_1 => [some (sw_vr G 23), some (sw_vr G o1), none, some (sw_vr G r1), some (.int x4_1), some (.int x5_1)]) (fun rec1 hrec1 x5_1 S3 => ?_) _ _ _
  refine sw_ild_6_5 (np := 20) dX7_behind_18 rfl ?_
  refine sw_ild_6_4 (np := 22) dX7_behind_20 rfl ?_
  refine sw_icmp_ge (np := 25) (tp := 45) dX7_behind_22 rfl rfl ?_ ?_
  · refine sw_ald_6_3 (np := 46) dX7_behind_45 rfl ?_
    exact sw_aret dX7_behind_46
  · refine sw_ald_6_3 (np := 26) dX7_behind_25 rfl ?_
    refine sw_ald_6_0 (np := 27) dX7_behind_26 rfl ?_
    refine sw_gR (np := 30) sw_f_RX7_53 sw_k_23 sw_r_23_8 dX7_behind_27 rfl ?_
    refine sw_ald_6_1 (np := 31) dX7_behind_30 rfl ?_
    refine sw_ild_6_5 (np := 33) dX7_behind_31 rfl ?_
    refine sw_cV1i (np := 36) (hX5_byteAt (d := d - 1) (by omega) ho1) sw_mv_X5_byteAt ho1 sw_wl_RX7_78 dX7_behind_33 (sw_fit_rm (by omega) (by decide)) (Nat.le_of_ble_eq_true rfl) rfl (fun r3 S4 => ?_)
    refine sw_cV2v (np := 39) (hX4_passHour (d := d - 1) (by omega) hq1 sw_k_11) sw_mv_X4_passHour hq1 sw_wl_RX7_82 dX7_behind_36 (sw_fit_rm (by omega) (by decide)) (Nat.le_of_ble_eq_true rfl) rfl (fun _ S5 => ?_)
    refine sw_inc_6_5 (np := 42) dX7_behind_39 sw_ic_1 rfl rfl ?_
    refine sw_goto (tp := 18) dX7_behind_42 rfl ?_
    exact hrec1 _ _
/-- SwordAttic$Thought.firstCry(LSwordAttic$Shelf;II)I -/
def fX7_firstCry (N : Nat) (o1 : Nat) (p2 : Int32) (p3 : Int32) (S : sw_St) : Option (Int32 × sw_St) :=
  sw_bd (fX7_fresh N S) (fun r1 S1 => sw_gd (decide (sw_kd r1 = 4)) (sw_bd (fX5_hours N o1 S1) (fun r2 S2 => (sw_fx1 (fun rec1 x6_1 S3 => (if x6_1 ≥ r2 then (sw_gd (sw_in p2 10) (if (S3.1 (r1 + 4) p2.toNatClampNeg) < p3 then (some ((-2 : Int32), S3)) else (some ((0 : Int32), S3)))) else (sw_gd (sw_in p2 10) (if (S3.1 (r1 + 4) p2.toNatClampNeg) ≥ p3 then (sw_gd (sw_in p2 10) (if (S3.1 (r1 + 4) p2.toNatClampNeg) < p3 then (some ((-2 : Int32), S3)) else (some ((0 : Int32), S3)))) else (sw_bd (fX5_byteAt N o1 x6_1 S3) (fun r3 S4 => (sw_bd (fX4_passHour N r1 11 r3 S4) (fun _ S5 => (sw_gd (sw_in p2 10) (if (S5.1 (r1 + 4) p2.toNatClampNeg) < p3 then (rec1 (x6_1 + (1 : Int32)) S5) else (some ((x6_1 + (1 : Int32)), S5)))))))))))) N (0 : Int32) S2))))
theorem hX7_firstCry {G : sw_G} {N d : Nat} (hd : 6 ≤ d) {o1 : Nat} {p2 : Int32} {p3 : Int32} (ho1 : sw_kd o1 = 5) {S : sw_St} : sw_Ev G yX7_firstCry cX7_firstCry 7 (some .int) d sw_ei [sw_vr G 23, sw_vr G o1, .int p2, .int p3] S (fX7_firstCry N o1 p2 p3 S) := by
  refine sw_Ev_of (own := RX7) (lv0 := [some (sw_vr G 23), some (sw_vr G o1), some (.int p2), some (.int p3), none, none, none]) (by decide) rfl (Nat.le_of_ble_eq_true rfl) rfl ?_
  unfold fX7_firstCry
  refine sw_ald_7_0 (np := 1) dX7_firstCry_0 rfl ?_
  refine sw_cV0n (np := 4) (hX7_fresh (d := d - 1) (by omega) ) sw_mv_X7_fresh sw_k_23 sw_wl_RX7_62 dX7_firstCry_1 (sw_fit_rm (by omega) (by decide)) (Nat.le_of_ble_eq_true rfl) rfl (fun r1 S1 hq1 => ?_)
  refine sw_ast_7_4 (np := 6) dX7_firstCry_4 rfl rfl ?_
  refine sw_ald_7_1 (np := 7) dX7_firstCry_6 rfl ?_
  refine sw_cV0i (np := 10) (hX5_hours (d := d - 1) (by omega) ho1) sw_mv_X5_hours ho1 sw_wl_RX7_66 dX7_firstCry_7 (sw_fit_rm (by omega) (by decide)) (Nat.le_of_ble_eq_true rfl) rfl (fun r2 S2 => ?_)
  refine sw_ist_7_5 (np := 12) dX7_firstCry_10 rfl rfl ?_
  refine sw_iconst (np := 13) dX7_firstCry_12 sw_ic_0 rfl ?_
  refine sw_ist_7_6 (np := 15) dX7_firstCry_13 rfl rfl ?_
  refine sw_lp1 (lv := fun x6_1 => [some (sw_vr G 23), some (sw_vr G o1), some (.int p2), some (.int p3), some (sw_vr G r1), some (.int r2), some (.int x6_1)]) (fun rec1 hrec1 x6_1 S3 => ?_) _ _ _
  refine sw_ild_7_6 (np := 17) dX7_firstCry_15 rfl ?_
  refine sw_ild_7_5 (np := 19) dX7_firstCry_17 rfl ?_
  refine sw_icmp_ge (np := 22) (tp := 70) dX7_firstCry_19 rfl rfl ?_ ?_
  · refine sw_ald_7_4 (np := 72) dX7_firstCry_70 rfl ?_
    refine sw_gR (np := 75) sw_f_RX7_86 hq1 (sw_rf_4_8 hq1) dX7_firstCry_72 rfl ?_
    refine sw_ild_7_2 (np := 76) dX7_firstCry_75 rfl ?_
    refine sw_iald (np := 77) (sw_kd_4_8 hq1) (sw_ln_4_8 hq1) dX7_firstCry_76 rfl ?_
    refine sw_ild_7_3 (np := 78) dX7_firstCry_77 rfl ?_
    refine sw_icmp_lt (np := 81) (tp := 85) dX7_firstCry_78 rfl rfl ?_ ?_
    · refine sw_bipush (np := 87) dX7_firstCry_85 sw_bc_m2 rfl ?_
      exact sw_iret dX7_firstCry_87
    · refine sw_iconst (np := 82) dX7_firstCry_81 sw_ic_0 rfl ?_
      refine sw_goto (tp := 87) dX7_firstCry_82 rfl ?_
      exact sw_iret dX7_firstCry_87
  · refine sw_ald_7_4 (np := 24) dX7_firstCry_22 rfl ?_
    refine sw_gR (np := 27) sw_f_RX7_86 hq1 (sw_rf_4_8 hq1) dX7_firstCry_24 rfl ?_
    refine sw_ild_7_2 (np := 28) dX7_firstCry_27 rfl ?_
    refine sw_iald (np := 29) (sw_kd_4_8 hq1) (sw_ln_4_8 hq1) dX7_firstCry_28 rfl ?_
    refine sw_ild_7_3 (np := 30) dX7_firstCry_29 rfl ?_
    refine sw_icmp_ge (np := 33) (tp := 70) dX7_firstCry_30 rfl rfl ?_ ?_
    · refine sw_ald_7_4 (np := 72) dX7_firstCry_70 rfl ?_
      refine sw_gR (np := 75) sw_f_RX7_86 hq1 (sw_rf_4_8 hq1) dX7_firstCry_72 rfl ?_
      refine sw_ild_7_2 (np := 76) dX7_firstCry_75 rfl ?_
      refine sw_iald (np := 77) (sw_kd_4_8 hq1) (sw_ln_4_8 hq1) dX7_firstCry_76 rfl ?_
      refine sw_ild_7_3 (np := 78) dX7_firstCry_77 rfl ?_
      refine sw_icmp_lt (np := 81) (tp := 85) dX7_firstCry_78 rfl rfl ?_ ?_
      · refine sw_bipush (np := 87) dX7_firstCry_85 sw_bc_m2 rfl ?_
        exact sw_iret dX7_firstCry_87
      · refine sw_iconst (np := 82) dX7_firstCry_81 sw_ic_0 rfl ?_
        refine sw_goto (tp := 87) dX7_firstCry_82 rfl ?_
        exact sw_iret dX7_firstCry_87
    · refine sw_ald_7_4 (np := 35) dX7_firstCry_33 rfl ?_
      refine sw_ald_7_0 (np := 36) dX7_firstCry_35 rfl ?_
      refine sw_gR (np := 39) sw_f_RX7_53 sw_k_23 sw_r_23_8 dX7_firstCry_36 rfl ?_
      refine sw_ald_7_1 (np := 40) dX7_firstCry_39 rfl ?_
      refine sw_ild_7_6 (np := 42) dX7_firstCry_40 rfl ?_
      refine sw_cV1i (np := 45) (hX5_byteAt (d := d - 1) (by omega) ho1) sw_mv_X5_byteAt ho1 sw_wl_RX7_78 dX7_firstCry_42 (sw_fit_rm (by omega) (by decide)) (Nat.le_of_ble_eq_true rfl) rfl (fun r3 S4 => ?_)
      refine sw_cV2v (np := 48) (hX4_passHour (d := d - 1) (by omega) hq1 sw_k_11) sw_mv_X4_passHour hq1 sw_wl_RX7_82 dX7_firstCry_45 (sw_fit_rm (by omega) (by decide)) (Nat.le_of_ble_eq_true rfl) rfl (fun _ S5 => ?_)
      refine sw_ald_7_4 (np := 50) dX7_firstCry_48 rfl ?_
      refine sw_gR (np := 53) sw_f_RX7_86 hq1 (sw_rf_4_8 hq1) dX7_firstCry_50 rfl ?_
      refine sw_ild_7_2 (np := 54) dX7_firstCry_53 rfl ?_
      refine sw_iald (np := 55) (sw_kd_4_8 hq1) (sw_ln_4_8 hq1) dX7_firstCry_54 rfl ?_
      refine sw_ild_7_3 (np := 56) dX7_firstCry_55 rfl ?_
      refine sw_icmp_lt (np := 59) (tp := 64) dX7_firstCry_56 rfl rfl ?_ ?_
      · refine sw_inc_7_6 (np := 67) dX7_firstCry_64 sw_ic_1 rfl rfl ?_
        refine sw_goto (tp := 15) dX7_firstCry_67 rfl ?_
        exact hrec1 _ _
      · refine sw_ild_7_6 (np := 61) dX7_firstCry_59 rfl ?_
        refine sw_iconst (np := 62) dX7_firstCry_61 sw_ic_1 rfl ?_
        refine sw_iadd (np := 63) dX7_firstCry_62 rfl ?_
        exact sw_iret dX7_firstCry_63
/-- SwordAttic$Thought.firstSilence(LSwordAttic$Shelf;)I -/
def fX7_firstSilence (N : Nat) (o1 : Nat) (S : sw_St) : Option (Int32 × sw_St) :=
  sw_bd (fX7_fresh N S) (fun r1 S1 => sw_gd (decide (sw_kd r1 = 4)) (sw_bd (fX5_hours N o1 S1) (fun r2 S2 => (sw_fx1 (fun rec1 x4_1 S3 => (if x4_1 ≥ r2 then (sw_bd (fX4_awakeSwords N r1 S3) (fun r3 S4 => (if r3 = 0 then (some ((0 : Int32), S4)) else (some ((-2 : Int32), S4))))) else (sw_bd (fX4_awakeSwords N r1 S3) (fun r4 S5 => (if r4 = 0 then (sw_bd (fX4_awakeSwords N r1 S5) (fun r5 S6 => (if r5 = 0 then (some ((0 : Int32), S6)) else (some ((-2 : Int32), S6))))) else (sw_bd (fX5_byteAt N o1 x4_1 S5) (fun r6 S7 => (sw_bd (fX4_passHour N r1 11 r6 S7) (fun _ S8 => (sw_bd (fX4_awakeSwords N r1 S8) (fun r8 S9 => (if r8 = 0 then (some ((x4_1 + (1 : Int32)), S9)) else (rec1 (x4_1 + (1 : Int32)) S9))))))))))))) N (0 : Int32) S2))))
theorem hX7_firstSilence {G : sw_G} {N d : Nat} (hd : 6 ≤ d) {o1 : Nat} (ho1 : sw_kd o1 = 5) {S : sw_St} : sw_Ev G yX7_firstSilence cX7_firstSilence 5 (some .int) d sw_ei [sw_vr G 23, sw_vr G o1] S (fX7_firstSilence N o1 S) := by
  refine sw_Ev_of (own := RX7) (lv0 := [some (sw_vr G 23), some (sw_vr G o1), none, none, none]) (by decide) rfl (Nat.le_of_ble_eq_true rfl) rfl ?_
  unfold fX7_firstSilence
  refine sw_ald_5_0 (np := 1) dX7_firstSilence_0 rfl ?_
  refine sw_cV0n (np := 4) (hX7_fresh (d := d - 1) (by omega) ) sw_mv_X7_fresh sw_k_23 sw_wl_RX7_62 dX7_firstSilence_1 (sw_fit_rm (by omega) (by decide)) (Nat.le_of_ble_eq_true rfl) rfl (fun r1 S1 hq1 => ?_)
  refine sw_ast_5_2 (np := 5) dX7_firstSilence_4 rfl rfl ?_
  refine sw_ald_5_1 (np := 6) dX7_firstSilence_5 rfl ?_
  refine sw_cV0i (np := 9) (hX5_hours (d := d - 1) (by omega) ho1) sw_mv_X5_hours ho1 sw_wl_RX7_66 dX7_firstSilence_6 (sw_fit_rm (by omega) (by decide)) (Nat.le_of_ble_eq_true rfl) rfl (fun r2 S2 => ?_)
  refine sw_ist_5_3 (np := 10) dX7_firstSilence_9 rfl rfl ?_
  refine sw_iconst (np := 11) dX7_firstSilence_10 sw_ic_0 rfl ?_
  refine sw_ist_5_4 (np := 13) dX7_firstSilence_11 rfl rfl ?_
  refine sw_lp1 (lv := fun x4_1 => [some (sw_vr G 23), some (sw_vr G o1), some (sw_vr G r1), some (.int r2), some (.int x4_1)]) (fun rec1 hrec1 x4_1 S3 => ?_) _ _ _
  refine sw_ild_5_4 (np := 15) dX7_firstSilence_13 rfl ?_
  refine sw_ild_5_3 (np := 16) dX7_firstSilence_15 rfl ?_
  refine sw_icmp_ge (np := 19) (tp := 58) dX7_firstSilence_16 rfl rfl ?_ ?_
  · refine sw_ald_5_2 (np := 59) dX7_firstSilence_58 rfl ?_
    refine sw_cV0i (np := 62) (hX4_awakeSwords (d := d - 1) (by omega) hq1) sw_mv_X4_awakeSwords hq1 sw_wl_RX7_89 dX7_firstSilence_59 (sw_fit_rm (by omega) (by decide)) (Nat.le_of_ble_eq_true rfl) rfl (fun r3 S4 => ?_)
    refine sw_if_ne (np := 65) (tp := 69) dX7_firstSilence_62 rfl rfl ?_ ?_
    · refine sw_bipush (np := 71) dX7_firstSilence_69 sw_bc_m2 rfl ?_
      exact sw_iret dX7_firstSilence_71
    · refine sw_iconst (np := 66) dX7_firstSilence_65 sw_ic_0 rfl ?_
      refine sw_goto (tp := 71) dX7_firstSilence_66 rfl ?_
      exact sw_iret dX7_firstSilence_71
  · refine sw_ald_5_2 (np := 20) dX7_firstSilence_19 rfl ?_
    refine sw_cV0i (np := 23) (hX4_awakeSwords (d := d - 1) (by omega) hq1) sw_mv_X4_awakeSwords hq1 sw_wl_RX7_89 dX7_firstSilence_20 (sw_fit_rm (by omega) (by decide)) (Nat.le_of_ble_eq_true rfl) rfl (fun r4 S5 => ?_)
    refine sw_if_eq (np := 26) (tp := 58) dX7_firstSilence_23 rfl rfl ?_ ?_
    · refine sw_ald_5_2 (np := 59) dX7_firstSilence_58 rfl ?_
      refine sw_cV0i (np := 62) (hX4_awakeSwords (d := d - 1) (by omega) hq1) sw_mv_X4_awakeSwords hq1 sw_wl_RX7_89 dX7_firstSilence_59 (sw_fit_rm (by omega) (by decide)) (Nat.le_of_ble_eq_true rfl) rfl (fun r5 S6 => ?_)
      refine sw_if_ne (np := 65) (tp := 69) dX7_firstSilence_62 rfl rfl ?_ ?_
      · refine sw_bipush (np := 71) dX7_firstSilence_69 sw_bc_m2 rfl ?_
        exact sw_iret dX7_firstSilence_71
      · refine sw_iconst (np := 66) dX7_firstSilence_65 sw_ic_0 rfl ?_
        refine sw_goto (tp := 71) dX7_firstSilence_66 rfl ?_
        exact sw_iret dX7_firstSilence_71
    · refine sw_ald_5_2 (np := 27) dX7_firstSilence_26 rfl ?_
      refine sw_ald_5_0 (np := 28) dX7_firstSilence_27 rfl ?_
      refine sw_gR (np := 31) sw_f_RX7_53 sw_k_23 sw_r_23_8 dX7_firstSilence_28 rfl ?_
      refine sw_ald_5_1 (np := 32) dX7_firstSilence_31 rfl ?_
      refine sw_ild_5_4 (np := 34) dX7_firstSilence_32 rfl ?_
      refine sw_cV1i (np := 37) (hX5_byteAt (d := d - 1) (by omega) ho1) sw_mv_X5_byteAt ho1 sw_wl_RX7_78 dX7_firstSilence_34 (sw_fit_rm (by omega) (by decide)) (Nat.le_of_ble_eq_true rfl) rfl (fun r6 S7 => ?_)
      refine sw_cV2v (np := 40) (hX4_passHour (d := d - 1) (by omega) hq1 sw_k_11) sw_mv_X4_passHour hq1 sw_wl_RX7_82 dX7_firstSilence_37 (sw_fit_rm (by omega) (by decide)) (Nat.le_of_ble_eq_true rfl) rfl (fun _ S8 => ?_)
      refine sw_ald_5_2 (np := 41) dX7_firstSilence_40 rfl ?_
      refine sw_cV0i (np := 44) (hX4_awakeSwords (d := d - 1) (by omega) hq1) sw_mv_X4_awakeSwords hq1 sw_wl_RX7_89 dX7_firstSilence_41 (sw_fit_rm (by omega) (by decide)) (Nat.le_of_ble_eq_true rfl) rfl (fun r8 S9 => ?_)
      refine sw_if_ne (np := 47) (tp := 52) dX7_firstSilence_44 rfl rfl ?_ ?_
      · refine sw_inc_5_4 (np := 55) dX7_firstSilence_52 sw_ic_1 rfl rfl ?_
        refine sw_goto (tp := 13) dX7_firstSilence_55 rfl ?_
        exact hrec1 _ _
      · refine sw_ild_5_4 (np := 49) dX7_firstSilence_47 rfl ?_
        refine sw_iconst (np := 50) dX7_firstSilence_49 sw_ic_1 rfl ?_
        refine sw_iadd (np := 51) dX7_firstSilence_50 rfl ?_
        exact sw_iret dX7_firstSilence_51
/-- SwordAttic$Thought.forgetBest()V -/
def fX7_forgetBest (N : Nat)  (S : sw_St) : Option (Unit × sw_St) :=
  sw_ls (sw_si S 23 0 (1000000 : Int32)) (fun S1 => (sw_ls (sw_si S1 23 1 (1000000 : Int32)) (fun S2 => (some ((), S2)))))
theorem hX7_forgetBest {G : sw_G} {N d : Nat} (hd : 1 ≤ d)   {S : sw_St} : sw_Ev G yX7_forgetBest cX7_forgetBest 1 none d sw_ev [sw_vr G 23] S (fX7_forgetBest N  S) := by
  refine sw_Ev_of (own := RX7) (lv0 := [some (sw_vr G 23)]) (by decide) rfl (Nat.le_of_ble_eq_true rfl) rfl ?_
  unfold fX7_forgetBest
  refine sw_ald_1_0 (np := 1) dX7_forgetBest_0 rfl ?_
  refine sw_ldc (np := 3) sw_wc_RX7_99 dX7_forgetBest_1 rfl ?_
  refine sw_pI (np := 6) sw_f_RX7_9 sw_fp_7_0 sw_k_23 dX7_forgetBest_3 rfl (fun S1 => ?_)
  refine sw_ald_1_0 (np := 7) dX7_forgetBest_6 rfl ?_
  refine sw_ldc (np := 9) sw_wc_RX7_99 dX7_forgetBest_7 rfl ?_
  refine sw_pI (np := 12) sw_f_RX7_15 sw_fp_7_1 sw_k_23 dX7_forgetBest_9 rfl (fun S2 => ?_)
  exact sw_vret dX7_forgetBest_12
/-- SwordAttic$Thought.isBetter(LSwordAttic$Night;)Z -/
def fX7_isBetter (N : Nat) (o1 : Nat) (S : sw_St) : Option (Int32 × sw_St) :=
  sw_bd (fX4_howManyAwake N o1 S) (fun r1 S1 => (sw_bd (fX4_mindOfAll N o1 S1) (fun r2 S2 => (if r1 > (S2.1 23 0) then (some (vp_nar .boolean (0 : Int32), S2)) else (if r1 = (S2.1 23 0) then (if r2 < (S2.1 23 1) then (sw_ls (sw_si S2 23 0 r1) (fun S5 => (sw_ls (sw_si S5 23 1 r2) (fun S6 => (some (vp_nar .boolean (1 : Int32), S6)))))) else (some (vp_nar .boolean (0 : Int32), S2))) else (sw_ls (sw_si S2 23 0 r1) (fun S3 => (sw_ls (sw_si S3 23 1 r2) (fun S4 => (some (vp_nar .boolean (1 : Int32), S4)))))))))))
theorem hX7_isBetter {G : sw_G} {N d : Nat} (hd : 4 ≤ d) {o1 : Nat} (ho1 : sw_kd o1 = 4) {S : sw_St} : sw_Ev G yX7_isBetter cX7_isBetter 4 (some .boolean) d sw_ei [sw_vr G 23, sw_vr G o1] S (fX7_isBetter N o1 S) := by
  refine sw_Ev_of (own := RX7) (lv0 := [some (sw_vr G 23), some (sw_vr G o1), none, none]) (by decide) rfl (Nat.le_of_ble_eq_true rfl) rfl ?_
  unfold fX7_isBetter
  refine sw_ald_4_1 (np := 1) dX7_isBetter_0 rfl ?_
  refine sw_cV0i (np := 4) (hX4_howManyAwake (d := d - 1) (by omega) ho1) sw_mv_X4_howManyAwake ho1 sw_wl_RX7_121 dX7_isBetter_1 (sw_fit_rm (by omega) (by decide)) (Nat.le_of_ble_eq_true rfl) rfl (fun r1 S1 => ?_)
  refine sw_ist_4_2 (np := 5) dX7_isBetter_4 rfl rfl ?_
  refine sw_ald_4_1 (np := 6) dX7_isBetter_5 rfl ?_
  refine sw_cV0i (np := 9) (hX4_mindOfAll (d := d - 1) (by omega) ho1) sw_mv_X4_mindOfAll ho1 sw_wl_RX7_124 dX7_isBetter_6 (sw_fit_rm (by omega) (by decide)) (Nat.le_of_ble_eq_true rfl) rfl (fun r2 S2 => ?_)
  refine sw_ist_4_3 (np := 10) dX7_isBetter_9 rfl rfl ?_
  refine sw_ild_4_2 (np := 11) dX7_isBetter_10 rfl ?_
  refine sw_ald_4_0 (np := 12) dX7_isBetter_11 rfl ?_
  refine sw_gI (np := 15) sw_f_RX7_9 sw_k_23 dX7_isBetter_12 rfl ?_
  refine sw_icmp_gt (np := 18) (tp := 34) dX7_isBetter_15 rfl rfl ?_ ?_
  · refine sw_iconst (np := 35) dX7_isBetter_34 sw_ic_0 rfl ?_
    exact sw_zret dX7_isBetter_35
  · refine sw_ild_4_2 (np := 19) dX7_isBetter_18 rfl ?_
    refine sw_ald_4_0 (np := 20) dX7_isBetter_19 rfl ?_
    refine sw_gI (np := 23) sw_f_RX7_9 sw_k_23 dX7_isBetter_20 rfl ?_
    refine sw_icmp_ne (np := 26) (tp := 36) dX7_isBetter_23 rfl rfl ?_ ?_
    · refine sw_ald_4_0 (np := 37) dX7_isBetter_36 rfl ?_
      refine sw_ild_4_2 (np := 38) dX7_isBetter_37 rfl ?_
      refine sw_pI (np := 41) sw_f_RX7_9 sw_fp_7_0 sw_k_23 dX7_isBetter_38 rfl (fun S3 => ?_)
      refine sw_ald_4_0 (np := 42) dX7_isBetter_41 rfl ?_
      refine sw_ild_4_3 (np := 43) dX7_isBetter_42 rfl ?_
      refine sw_pI (np := 46) sw_f_RX7_15 sw_fp_7_1 sw_k_23 dX7_isBetter_43 rfl (fun S4 => ?_)
      refine sw_iconst (np := 47) dX7_isBetter_46 sw_ic_1 rfl ?_
      exact sw_zret dX7_isBetter_47
    · refine sw_ild_4_3 (np := 27) dX7_isBetter_26 rfl ?_
      refine sw_ald_4_0 (np := 28) dX7_isBetter_27 rfl ?_
      refine sw_gI (np := 31) sw_f_RX7_15 sw_k_23 dX7_isBetter_28 rfl ?_
      refine sw_icmp_lt (np := 34) (tp := 36) dX7_isBetter_31 rfl rfl ?_ ?_
      · refine sw_ald_4_0 (np := 37) dX7_isBetter_36 rfl ?_
        refine sw_ild_4_2 (np := 38) dX7_isBetter_37 rfl ?_
        refine sw_pI (np := 41) sw_f_RX7_9 sw_fp_7_0 sw_k_23 dX7_isBetter_38 rfl (fun S5 => ?_)
        refine sw_ald_4_0 (np := 42) dX7_isBetter_41 rfl ?_
        refine sw_ild_4_3 (np := 43) dX7_isBetter_42 rfl ?_
        refine sw_pI (np := 46) sw_f_RX7_15 sw_fp_7_1 sw_k_23 dX7_isBetter_43 rfl (fun S6 => ?_)
        refine sw_iconst (np := 47) dX7_isBetter_46 sw_ic_1 rfl ?_
        exact sw_zret dX7_isBetter_47
      · refine sw_iconst (np := 35) dX7_isBetter_34 sw_ic_0 rfl ?_
        exact sw_zret dX7_isBetter_35
/-- SwordAttic$Thought.plan, over what calls it again -/
def gX7_plan (N : Nat) (RR : Nat → Int32 → Int32 → Int32 → Int32 → sw_St → Option (Unit × sw_St)) (p1 : Int32) (p2 : Int32) (S : sw_St) : Option (Unit × sw_St) :=
  sw_gd (sw_in p1 5) (if p1 < p2 then (sw_bd (fX4_foresee N (29 + 10 * p1.toNatClampNeg) 11 S) (fun _ S1 => (sw_fx2 (fun rec1 x4_1 x5_1 S2 => (if x5_1 ≥ (12 : Int32) then (some ((), S2)) else (sw_gd (sw_in x5_1 12) (if (S2.1 ((29 + 10 * p1.toNatClampNeg) + 6) x5_1.toNatClampNeg) ≥ 0 then (sw_jn1 (fun y1 S3 => (sw_gd (sw_in p1 3) (sw_ls (sw_si S3 26 p1.toNatClampNeg x5_1) (fun S4 => (sw_gd (sw_in (p1 + (1 : Int32)) 5) (sw_bd (fX4_passHourBehind N (29 + 10 * (p1 + (1 : Int32)).toNatClampNeg) (29 + 10 * p1.toNatClampNeg) x5_1 S4) (fun _ S5 => (sw_bd (RR 0 (p1 + (1 : Int32)) p2 0 0 S5) (fun _ S6 => (rec1 y1 (x5_1 + (1 : Int32)) S6)))))))))) (fun k1 => (if x4_1 = 0 then (sw_gd (sw_in x5_1 12) (if (S2.1 ((29 + 10 * p1.toNatClampNeg) + 6) x5_1.toNatClampNeg) ≥ 0 then (k1 (0 : Int32) S2) else (k1 (1 : Int32) S2))) else (k1 (1 : Int32) S2)))) else (if x4_1 = 0 then (sw_jn1 (fun y2 S7 => (sw_gd (sw_in p1 3) (sw_ls (sw_si S7 26 p1.toNatClampNeg x5_1) (fun S8 => (sw_gd (sw_in (p1 + (1 : Int32)) 5) (sw_bd (fX4_passHourBehind N (29 + 10 * (p1 + (1 : Int32)).toNatClampNeg) (29 + 10 * p1.toNatClampNeg) x5_1 S8) (fun _ S9 => (sw_bd (RR 0 (p1 + (1 : Int32)) p2 0 0 S9) (fun _ S10 => (rec1 y2 (x5_1 + (1 : Int32)) S10)))))))))) (fun k2 => (if x4_1 = 0 then (sw_gd (sw_in x5_1 12) (if (S2.1 ((29 + 10 * p1.toNatClampNeg) + 6) x5_1.toNatClampNeg) ≥ 0 then (k2 (0 : Int32) S2) else (k2 (1 : Int32) S2))) else (k2 (1 : Int32) S2)))) else (rec1 x4_1 (x5_1 + (1 : Int32)) S2)))))) N (0 : Int32) (0 : Int32) S1))) else (sw_bd (fX7_isBetter N (29 + 10 * p1.toNatClampNeg) S) (fun r6 S11 => (if r6 = 0 then (some ((), S11)) else (sw_gd (sw_cg (0 : Int32) (0 : Int32) (3 : Int32) 3 3) (sw_ls (sw_ci S11 26 24 (0 : Int32).toNatClampNeg (0 : Int32).toNatClampNeg (3 : Int32).toNatClampNeg) (fun S12 => (some ((), S12)))))))))
def kG_3 (G : sw_G) (d : Nat) (RR : Nat → Int32 → Int32 → Int32 → Int32 → sw_St → Option (Unit × sw_St)) : Prop :=
  (∀ (a b c e : Int32) (S : sw_St), sw_Ev G yX7_plan cX7_plan 6 none d sw_ev [sw_vr G 23, .int a, .int b] S (RR 0 a b c e S))
def fG_3 (N : Nat) : Nat → Nat → Int32 → Int32 → Int32 → Int32 → sw_St → Option (Unit × sw_St)
  | 0 => fun _ _ _ _ _ _ => none
  | n + 1 => fun t a b c e S => match t with
    | _ => gX7_plan N (fG_3 N n) a b S
theorem ogX7_plan {G : sw_G} {N d : Nat} (hd : 6 ≤ d) {RR : Nat → Int32 → Int32 → Int32 → Int32 → sw_St → Option (Unit × sw_St)} (hR : kG_3 G (d - 1) RR) {p1 : Int32} {p2 : Int32} {S : sw_St} : sw_Ev G yX7_plan cX7_plan 6 none d sw_ev [sw_vr G 23, .int p1, .int p2] S (gX7_plan N RR p1 p2 S) := by
  refine sw_Ev_of (own := RX7) (lv0 := [some (sw_vr G 23), some (.int p1), some (.int p2), none, none, none]) (by decide) rfl (Nat.le_of_ble_eq_true rfl) rfl ?_
  unfold gX7_plan
  refine sw_ald_6_0 (np := 1) dX7_plan_0 rfl ?_
  refine sw_gR (np := 4) sw_f_RX7_36 sw_k_23 sw_r_23_9 dX7_plan_1 rfl ?_
  refine sw_ild_6_1 (np := 5) dX7_plan_4 rfl ?_
  refine sw_aldN (np := 6) dX7_plan_5 rfl (fun hq1 => ?_)
  refine sw_ast_6_3 (np := 7) dX7_plan_6 rfl rfl ?_
  refine sw_ild_6_1 (np := 8) dX7_plan_7 rfl ?_
  refine sw_ild_6_2 (np := 9) dX7_plan_8 rfl ?_
  refine sw_icmp_lt (np := 12) (tp := 35) dX7_plan_9 rfl rfl ?_ ?_
  · refine sw_ald_6_3 (np := 36) dX7_plan_35 rfl ?_
    refine sw_ald_6_0 (np := 37) dX7_plan_36 rfl ?_
    refine sw_gR (np := 40) sw_f_RX7_53 sw_k_23 sw_r_23_8 dX7_plan_37 rfl ?_
    refine sw_cV1v (np := 43) (hX4_foresee (d := d - 1) (by omega) hq1 sw_k_11) sw_mv_X4_foresee hq1 sw_wl_RX7_110 dX7_plan_40 (sw_fit_rm (by omega) (by decide)) (Nat.le_of_ble_eq_true rfl) rfl (fun _ S1 => ?_)
    refine sw_iconst (np := 44) dX7_plan_43 sw_ic_0 rfl ?_
    refine sw_ist_6_4 (np := 46) dX7_plan_44 rfl rfl ?_
    refine sw_iconst (np := 47) dX7_plan_46 sw_ic_0 rfl ?_
    refine sw_ist_6_5 (np := 49) dX7_plan_47 rfl rfl ?_
    refine sw_lp2 (lv := fun x4_1 x5_1 => [some (sw_vr G 23), some (.int p1), some (.int p2), some (sw_vr G (29 + 10 * p1.toNatClampNeg)), some (.int x4_1), some (.int x5_1)]) (fun rec1 hrec1 x4_1 x5_1 S2 => ?_) _ _ _ _
    refine sw_ild_6_5 (np := 51) dX7_plan_49 rfl ?_
    refine sw_bipush (np := 53) dX7_plan_51 sw_bc_12 rfl ?_
    refine sw_icmp_ge (np := 56) (tp := 132) dX7_plan_53 rfl rfl ?_ ?_
    · exact sw_vret dX7_plan_132
    · refine sw_ald_6_3 (np := 57) dX7_plan_56 rfl ?_
      refine sw_gR (np := 60) sw_f_RX7_114 hq1 (sw_rf_4_10 hq1) dX7_plan_57 rfl ?_
      refine sw_ild_6_5 (np := 62) dX7_plan_60 rfl ?_
      refine sw_iald (np := 63) (sw_kd_4_10 hq1) (sw_ln_4_10 hq1) dX7_plan_62 rfl ?_
      refine sw_if_ge (np := 66) (tp := 74) dX7_plan_63 rfl rfl ?_ ?_
      · refine sw_ild_6_4 (np := 76) dX7_plan_74 rfl ?_
        refine sw_jm1 (pj := 94) (fun y1 => [some (sw_vr G 23), some (.int p1), some (.int p2), some (sw_vr G (29 + 10 * p1.toNatClampNeg)), none, some (.int x5_1)]) (fun y1 => [.int y1]) (fun y1 S3 => ?_) (fun k1 hk1 => ?_)
        · refine sw_ist_6_4 (np := 96) dX7_plan_94 rfl rfl ?_
          refine sw_ald_6_0 (np := 97) dX7_plan_96 rfl ?_
          refine sw_gR (np := 100) sw_f_RX7_40 sw_k_23 sw_r_23_10 dX7_plan_97 rfl ?_
          refine sw_ild_6_1 (np := 101) dX7_plan_100 rfl ?_
          refine sw_ild_6_5 (np := 103) dX7_plan_101 rfl ?_
          refine sw_sI (np := 104) sw_k_26 sw_n_26 dX7_plan_103 rfl (fun S4 => ?_)
          refine sw_ald_6_0 (np := 105) dX7_plan_104 rfl ?_
          refine sw_gR (np := 108) sw_f_RX7_36 sw_k_23 sw_r_23_9 dX7_plan_105 rfl ?_
          refine sw_ild_6_1 (np := 109) dX7_plan_108 rfl ?_
          refine sw_iconst (np := 110) dX7_plan_109 sw_ic_1 rfl ?_
          refine sw_iadd (np := 111) dX7_plan_110 rfl ?_
          refine sw_aldN (np := 112) dX7_plan_111 rfl (fun hq2 => ?_)
          refine sw_ald_6_3 (np := 113) dX7_plan_112 rfl ?_
          refine sw_ild_6_5 (np := 115) dX7_plan_113 rfl ?_
          refine sw_cV2v (np := 118) (hX4_passHourBehind (d := d - 1) (by omega) hq2 hq1) sw_mv_X4_passHourBehind hq2 sw_wl_RX7_117 dX7_plan_115 (sw_fit_rm (by omega) (by decide)) (Nat.le_of_ble_eq_true rfl) rfl (fun _ S5 => ?_)
          refine sw_ald_6_0 (np := 119) dX7_plan_118 rfl ?_
          refine sw_ild_6_1 (np := 120) dX7_plan_119 rfl ?_
          refine sw_iconst (np := 121) dX7_plan_120 sw_ic_1 rfl ?_
          refine sw_iadd (np := 122) dX7_plan_121 rfl ?_
          refine sw_ild_6_2 (np := 123) dX7_plan_122 rfl ?_
          refine sw_cV2v (np := 126) (hR _ _ _ _ _) sw_mv_X7_plan sw_k_23 sw_wl_RX7_95 dX7_plan_123 (sw_fit_rm (by omega) (by decide)) (Nat.le_of_ble_eq_true rfl) rfl (fun _ S6 => ?_)
          refine sw_inc_6_5 (np := 129) dX7_plan_126 sw_ic_1 rfl rfl ?_
          refine sw_goto (tp := 49) dX7_plan_129 rfl ?_
          exact hrec1 _ _ _
        · refine sw_if_ne (np := 79) (tp := 89) dX7_plan_76 rfl rfl ?_ ?_
          · refine sw_iconst (np := 90) dX7_plan_89 sw_ic_1 rfl ?_
            refine sw_goto (tp := 94) dX7_plan_90 rfl ?_
            refine sw_dr_6_4 ?_
            exact hk1 _ _
          · refine sw_ald_6_3 (np := 80) dX7_plan_79 rfl ?_
            refine sw_gR (np := 83) sw_f_RX7_114 hq1 (sw_rf_4_10 hq1) dX7_plan_80 rfl ?_
            refine sw_ild_6_5 (np := 85) dX7_plan_83 rfl ?_
            refine sw_iald (np := 86) (sw_kd_4_10 hq1) (sw_ln_4_10 hq1) dX7_plan_85 rfl ?_
            refine sw_if_ge (np := 89) (tp := 93) dX7_plan_86 rfl rfl ?_ ?_
            · refine sw_iconst (np := 94) dX7_plan_93 sw_ic_0 rfl ?_
              refine sw_dr_6_4 ?_
              exact hk1 _ _
            · refine sw_iconst (np := 90) dX7_plan_89 sw_ic_1 rfl ?_
              refine sw_goto (tp := 94) dX7_plan_90 rfl ?_
              refine sw_dr_6_4 ?_
              exact hk1 _ _
      · refine sw_ild_6_4 (np := 68) dX7_plan_66 rfl ?_
        refine sw_if_eq (np := 71) (tp := 74) dX7_plan_68 rfl rfl ?_ ?_
        · refine sw_ild_6_4 (np := 76) dX7_plan_74 rfl ?_
          refine sw_jm1 (pj := 94) (fun y2 => [some (sw_vr G 23), some (.int p1), some (.int p2), some (sw_vr G (29 + 10 * p1.toNatClampNeg)), none, some (.int x5_1)]) (fun y2 => [.int y2]) (fun y2 S7 => ?_) (fun k2 hk2 => ?_)
          · refine sw_ist_6_4 (np := 96) dX7_plan_94 rfl rfl ?_
            refine sw_ald_6_0 (np := 97) dX7_plan_96 rfl ?_
            refine sw_gR (np := 100) sw_f_RX7_40 sw_k_23 sw_r_23_10 dX7_plan_97 rfl ?_
            refine sw_ild_6_1 (np := 101) dX7_plan_100 rfl ?_
            refine sw_ild_6_5 (np := 103) dX7_plan_101 rfl ?_
            refine sw_sI (np := 104) sw_k_26 sw_n_26 dX7_plan_103 rfl (fun S8 => ?_)
            refine sw_ald_6_0 (np := 105) dX7_plan_104 rfl ?_
            refine sw_gR (np := 108) sw_f_RX7_36 sw_k_23 sw_r_23_9 dX7_plan_105 rfl ?_
            refine sw_ild_6_1 (np := 109) dX7_plan_108 rfl ?_
            refine sw_iconst (np := 110) dX7_plan_109 sw_ic_1 rfl ?_
            refine sw_iadd (np := 111) dX7_plan_110 rfl ?_
            refine sw_aldN (np := 112) dX7_plan_111 rfl (fun hq3 => ?_)
            refine sw_ald_6_3 (np := 113) dX7_plan_112 rfl ?_
            refine sw_ild_6_5 (np := 115) dX7_plan_113 rfl ?_
            refine sw_cV2v (np := 118) (hX4_passHourBehind (d := d - 1) (by omega) hq3 hq1) sw_mv_X4_passHourBehind hq3 sw_wl_RX7_117 dX7_plan_115 (sw_fit_rm (by omega) (by decide)) (Nat.le_of_ble_eq_true rfl) rfl (fun _ S9 => ?_)
            refine sw_ald_6_0 (np := 119) dX7_plan_118 rfl ?_
            refine sw_ild_6_1 (np := 120) dX7_plan_119 rfl ?_
            refine sw_iconst (np := 121) dX7_plan_120 sw_ic_1 rfl ?_
            refine sw_iadd (np := 122) dX7_plan_121 rfl ?_
            refine sw_ild_6_2 (np := 123) dX7_plan_122 rfl ?_
            refine sw_cV2v (np := 126) (hR _ _ _ _ _) sw_mv_X7_plan sw_k_23 sw_wl_RX7_95 dX7_plan_123 (sw_fit_rm (by omega) (by decide)) (Nat.le_of_ble_eq_true rfl) rfl (fun _ S10 => ?_)
            refine sw_inc_6_5 (np := 129) dX7_plan_126 sw_ic_1 rfl rfl ?_
            refine sw_goto (tp := 49) dX7_plan_129 rfl ?_
            exact hrec1 _ _ _
          · refine sw_if_ne (np := 79) (tp := 89) dX7_plan_76 rfl rfl ?_ ?_
            · refine sw_iconst (np := 90) dX7_plan_89 sw_ic_1 rfl ?_
              refine sw_goto (tp := 94) dX7_plan_90 rfl ?_
              refine sw_dr_6_4 ?_
              exact hk2 _ _
            · refine sw_ald_6_3 (np := 80) dX7_plan_79 rfl ?_
              refine sw_gR (np := 83) sw_f_RX7_114 hq1 (sw_rf_4_10 hq1) dX7_plan_80 rfl ?_
              refine sw_ild_6_5 (np := 85) dX7_plan_83 rfl ?_
              refine sw_iald (np := 86) (sw_kd_4_10 hq1) (sw_ln_4_10 hq1) dX7_plan_85 rfl ?_
              refine sw_if_ge (np := 89) (tp := 93) dX7_plan_86 rfl rfl ?_ ?_
              · refine sw_iconst (np := 94) dX7_plan_93 sw_ic_0 rfl ?_
                refine sw_dr_6_4 ?_
                exact hk2 _ _
              · refine sw_iconst (np := 90) dX7_plan_89 sw_ic_1 rfl ?_
                refine sw_goto (tp := 94) dX7_plan_90 rfl ?_
                refine sw_dr_6_4 ?_
                exact hk2 _ _
        · refine sw_goto (tp := 126) dX7_plan_71 rfl ?_
          refine sw_inc_6_5 (np := 129) dX7_plan_126 sw_ic_1 rfl rfl ?_
          refine sw_goto (tp := 49) dX7_plan_129 rfl ?_
          exact hrec1 _ _ _
  · refine sw_ald_6_0 (np := 13) dX7_plan_12 rfl ?_
    refine sw_ald_6_3 (np := 14) dX7_plan_13 rfl ?_
    refine sw_cV1i (np := 17) (hX7_isBetter (d := d - 1) (by omega) hq1) sw_mv_X7_isBetter sw_k_23 sw_wl_RX7_100 dX7_plan_14 (sw_fit_rm (by omega) (by decide)) (Nat.le_of_ble_eq_true rfl) rfl (fun r6 S11 => ?_)
    refine sw_if_eq (np := 20) (tp := 34) dX7_plan_17 rfl rfl ?_ ?_
    · exact sw_vret dX7_plan_34
    · refine sw_ald_6_0 (np := 21) dX7_plan_20 rfl ?_
      refine sw_gR (np := 24) sw_f_RX7_40 sw_k_23 sw_r_23_10 dX7_plan_21 rfl ?_
      refine sw_iconst (np := 25) dX7_plan_24 sw_ic_0 rfl ?_
      refine sw_ald_6_0 (np := 26) dX7_plan_25 rfl ?_
      refine sw_gR (np := 29) sw_f_RX7_18 sw_k_23 sw_r_23_2 dX7_plan_26 rfl ?_
      refine sw_iconst (np := 30) dX7_plan_29 sw_ic_0 rfl ?_
      refine sw_iconst (np := 31) dX7_plan_30 sw_ic_3 rfl ?_
      refine sw_yI (np := 34) sw_acw_ok sw_k_26 sw_k_24 sw_n_26 sw_n_24 sw_wl_RX7_104 (by show 1 ≤ d; omega) (sw_room (by omega) (Nat.le_of_ble_eq_true rfl)) dX7_plan_31 rfl (fun S12 => ?_)
      exact sw_vret dX7_plan_34
theorem hG_3 {G : sw_G} {N : Nat} : ∀ n d, 6 + n ≤ d → kG_3 G d (fG_3 N n) := by
  intro n
  induction n with
  | zero => intro d _; exact (fun _ _ _ _ _ _ h => by cases h)
  | succ n ih => intro d hd; exact (fun _ _ _ _ _ => ogX7_plan (N := N) (by omega) (ih (d - 1) (by omega)))
def fX7_plan (N : Nat) (p1 : Int32) (p2 : Int32) (S : sw_St) : Option (Unit × sw_St) := fG_3 N 100 0 p1 p2 0 0 S
theorem hX7_plan {G : sw_G} {N d : Nat} (hd : 106 ≤ d) {p1 : Int32} {p2 : Int32} {S : sw_St} : sw_Ev G yX7_plan cX7_plan 6 none d sw_ev [sw_vr G 23, .int p1, .int p2] S (fX7_plan N p1 p2 S) := (hG_3 (G := G) (N := N) 100 d hd) _ _ _ _ _
/-- SwordAttic$Thought.planRound(I)V -/
def fX7_planRound (N : Nat) (p1 : Int32) (S : sw_St) : Option (Unit × sw_St) :=
  sw_bd (fX7_forgetBest N S) (fun _ S1 => (sw_fx1 (fun rec1 x2_1 S2 => (if x2_1 > p1 then (sw_bd (fX7_plan N (0 : Int32) p1 S2) (fun _ S3 => (some ((), S3)))) else (sw_gd (sw_in x2_1 5) (sw_bd (fX4_become N (29 + 10 * x2_1.toNatClampNeg) 1 S2) (fun _ S4 => (rec1 (x2_1 + (1 : Int32)) S4)))))) N (0 : Int32) S1))
theorem hX7_planRound {G : sw_G} {N d : Nat} (hd : 107 ≤ d) {p1 : Int32}  {S : sw_St} : sw_Ev G yX7_planRound cX7_planRound 3 none d sw_ev [sw_vr G 23, .int p1] S (fX7_planRound N p1 S) := by
  refine sw_Ev_of (own := RX7) (lv0 := [some (sw_vr G 23), some (.int p1), none]) (by decide) rfl (Nat.le_of_ble_eq_true rfl) rfl ?_
  unfold fX7_planRound
  refine sw_ald_3_0 (np := 1) dX7_planRound_0 rfl ?_
  refine sw_cV0v (np := 4) (hX7_forgetBest (d := d - 1) (by omega) ) sw_mv_X7_forgetBest sw_k_23 sw_wl_RX7_92 dX7_planRound_1 (sw_fit_rm (by omega) (by decide)) (Nat.le_of_ble_eq_true rfl) rfl (fun _ S1 => ?_)
  refine sw_iconst (np := 5) dX7_planRound_4 sw_ic_0 rfl ?_
  refine sw_ist_3_2 (np := 6) dX7_planRound_5 rfl rfl ?_
  refine sw_lp1 (lv := fun x2_1 => [some (sw_vr G 23), some (.int p1), some (.int x2_1)]) (fun rec1 hrec1 x2_1 S2 => ?_) _ _ _
  refine sw_ild_3_2 (np := 7) dX7_planRound_6 rfl ?_
  refine sw_ild_3_1 (np := 8) dX7_planRound_7 rfl ?_
  refine sw_icmp_gt (np := 11) (tp := 30) dX7_planRound_8 rfl rfl ?_ ?_
  · refine sw_ald_3_0 (np := 31) dX7_planRound_30 rfl ?_
    refine sw_iconst (np := 32) dX7_planRound_31 sw_ic_0 rfl ?_
    refine sw_ild_3_1 (np := 33) dX7_planRound_32 rfl ?_
    refine sw_cV2v (np := 36) (hX7_plan (d := d - 1) (by omega) ) sw_mv_X7_plan sw_k_23 sw_wl_RX7_95 dX7_planRound_33 (sw_fit_rm (by omega) (by decide)) (Nat.le_of_ble_eq_true rfl) rfl (fun _ S3 => ?_)
    exact sw_vret dX7_planRound_36
  · refine sw_ald_3_0 (np := 12) dX7_planRound_11 rfl ?_
    refine sw_gR (np := 15) sw_f_RX7_36 sw_k_23 sw_r_23_9 dX7_planRound_12 rfl ?_
    refine sw_ild_3_2 (np := 16) dX7_planRound_15 rfl ?_
    refine sw_aldN (np := 17) dX7_planRound_16 rfl (fun hq1 => ?_)
    refine sw_ald_3_0 (np := 18) dX7_planRound_17 rfl ?_
    refine sw_gR (np := 21) sw_f_RX7_49 sw_k_23 sw_r_23_7 dX7_planRound_18 rfl ?_
    refine sw_cV1v (np := 24) (hX4_become (d := d - 1) (by omega) hq1 sw_k_1) sw_mv_X4_become hq1 sw_wl_RX7_58 dX7_planRound_21 (sw_fit_rm (by omega) (by decide)) (Nat.le_of_ble_eq_true rfl) rfl (fun _ S4 => ?_)
    refine sw_inc_3_2 (np := 27) dX7_planRound_24 sw_ic_1 rfl rfl ?_
    refine sw_goto (tp := 6) dX7_planRound_27 rfl ?_
    exact hrec1 _ _
/-- SwordAttic$Thought.leastOf(II)I -/
def fX7_leastOf (N : Nat) (p1 : Int32) (p2 : Int32) (S : sw_St) : Option (Int32 × sw_St) :=
  sw_fx2 (fun rec1 x3_1 x4_1 S1 => (if x4_1 ≥ p2 then (some (x3_1, S1)) else (sw_gd (sw_in ((p1 * (6 : Int32)) + x4_1) 384) (sw_li (sw_mn x3_1 (S1.1 28 ((p1 * (6 : Int32)) + x4_1).toNatClampNeg)) (fun x3_2 => (rec1 x3_2 (x4_1 + (1 : Int32)) S1)))))) N (1000000 : Int32) (0 : Int32) S
theorem hX7_leastOf {G : sw_G} {N d : Nat} (hd : 1 ≤ d) {p1 : Int32} {p2 : Int32}  {S : sw_St} : sw_Ev G yX7_leastOf cX7_leastOf 5 (some .int) d sw_ei [sw_vr G 23, .int p1, .int p2] S (fX7_leastOf N p1 p2 S) := by
  refine sw_Ev_of (own := RX7) (lv0 := [some (sw_vr G 23), some (.int p1), some (.int p2), none, none]) (by decide) rfl (Nat.le_of_ble_eq_true rfl) rfl ?_
  unfold fX7_leastOf
  refine sw_ldc (np := 2) sw_wc_RX7_99 dX7_leastOf_0 rfl ?_
  refine sw_ist_5_3 (np := 3) dX7_leastOf_2 rfl rfl ?_
  refine sw_iconst (np := 4) dX7_leastOf_3 sw_ic_0 rfl ?_
  refine sw_ist_5_4 (np := 6) dX7_leastOf_4 rfl rfl ?_
  refine sw_lp2 (lv := fun x3_1 x4_1 => [some (sw_vr G 23), some (.int p1), some (.int p2), some (.int x3_1), some (.int x4_1)]) (fun rec1 hrec1 x3_1 x4_1 S1 => ?_) _ _ _ _
  refine sw_ild_5_4 (np := 8) dX7_leastOf_6 rfl ?_
  refine sw_ild_5_2 (np := 9) dX7_leastOf_8 rfl ?_
  refine sw_icmp_ge (np := 12) (tp := 35) dX7_leastOf_9 rfl rfl ?_ ?_
  · refine sw_ild_5_3 (np := 36) dX7_leastOf_35 rfl ?_
    exact sw_iret dX7_leastOf_36
  · refine sw_ild_5_3 (np := 13) dX7_leastOf_12 rfl ?_
    refine sw_ald_5_0 (np := 14) dX7_leastOf_13 rfl ?_
    refine sw_gR (np := 17) sw_f_RX7_46 sw_k_23 sw_r_23_12 dX7_leastOf_14 rfl ?_
    refine sw_ild_5_1 (np := 18) dX7_leastOf_17 rfl ?_
    refine sw_bipush (np := 20) dX7_leastOf_18 sw_bc_6 rfl ?_
    refine sw_imul (np := 21) dX7_leastOf_20 rfl ?_
    refine sw_ild_5_4 (np := 23) dX7_leastOf_21 rfl ?_
    refine sw_iadd (np := 24) dX7_leastOf_23 rfl ?_
    refine sw_iald (np := 25) sw_k_28 sw_n_28 dX7_leastOf_24 rfl ?_
    refine sw_mmin (np := 28) sw_mth_min sw_wm_RX7_72 (by show 1 ≤ d; omega) (sw_room (by omega) (Nat.le_of_ble_eq_true rfl)) (Nat.zero_le _) (Nat.zero_le _) dX7_leastOf_25 rfl ?_
    refine sw_isl_5_3 (np := 29) dX7_leastOf_28 rfl rfl (fun x3_2 => ?_)
    refine sw_inc_5_4 (np := 32) dX7_leastOf_29 sw_ic_1 rfl rfl ?_
    refine sw_goto (tp := 6) dX7_leastOf_32 rfl ?_
    exact hrec1 _ _ _
/-- SwordAttic$Thought.leastSteps(III)I -/
def fX7_leastSteps (N : Nat) (p1 : Int32) (p2 : Int32) (p3 : Int32) (S : sw_St) : Option (Int32 × sw_St) :=
  sw_li (p1 &&& (((1 : Int32) <<< (p2 &&& 31)) ^^^ (-1 : Int32))) (fun x4_1 => (if x4_1 = p1 then (some ((1000000 : Int32), S)) else (if x4_1 = 0 then (sw_gd (sw_in p2 6) (sw_bd (fX8_steps N (S.1 1 3) (S.1 27 p2.toNatClampNeg) S) (fun r2 S3 => (some (r2, S3))))) else (sw_fx2 (fun rec1 x5_1 x6_1 S1 => (if x6_1 ≥ p3 then (some (x5_1, S1)) else (sw_gd (sw_in ((x4_1 * (6 : Int32)) + x6_1) 384) (sw_gd (sw_in x6_1 6) (sw_gd (sw_in p2 6) (sw_bd (fX8_steps N (S1.1 27 x6_1.toNatClampNeg) (S1.1 27 p2.toNatClampNeg) S1) (fun r1 S2 => (sw_li (sw_mn x5_1 ((S1.1 28 ((x4_1 * (6 : Int32)) + x6_1).toNatClampNeg) + r1)) (fun x5_2 => (rec1 x5_2 (x6_1 + (1 : Int32)) S2)))))))))) N (1000000 : Int32) (0 : Int32) S))))
theorem hX7_leastSteps {G : sw_G} {N d : Nat} (hd : 2 ≤ d) {p1 : Int32} {p2 : Int32} {p3 : Int32}  {S : sw_St} : sw_Ev G yX7_leastSteps cX7_leastSteps 7 (some .int) d sw_ei [sw_vr G 23, .int p1, .int p2, .int p3] S (fX7_leastSteps N p1 p2 p3 S) := by
  refine sw_Ev_of (own := RX7) (lv0 := [some (sw_vr G 23), some (.int p1), some (.int p2), some (.int p3), none, none, none]) (by decide) rfl (Nat.le_of_ble_eq_true rfl) rfl ?_
  unfold fX7_leastSteps
  refine sw_ild_7_1 (np := 1) dX7_leastSteps_0 rfl ?_
  refine sw_iconst (np := 2) dX7_leastSteps_1 sw_ic_1 rfl ?_
  refine sw_ild_7_2 (np := 3) dX7_leastSteps_2 rfl ?_
  refine sw_ishl (np := 4) dX7_leastSteps_3 rfl ?_
  refine sw_iconst (np := 5) dX7_leastSteps_4 sw_ic_m1 rfl ?_
  refine sw_ixor (np := 6) dX7_leastSteps_5 rfl ?_
  refine sw_iand (np := 7) dX7_leastSteps_6 rfl ?_
  refine sw_isl_7_4 (np := 9) dX7_leastSteps_7 rfl rfl (fun x4_1 => ?_)
  refine sw_ild_7_4 (np := 11) dX7_leastSteps_9 rfl ?_
  refine sw_ild_7_1 (np := 12) dX7_leastSteps_11 rfl ?_
  refine sw_icmp_ne (np := 15) (tp := 18) dX7_leastSteps_12 rfl rfl ?_ ?_
  · refine sw_ild_7_4 (np := 20) dX7_leastSteps_18 rfl ?_
    refine sw_if_ne (np := 23) (tp := 40) dX7_leastSteps_20 rfl rfl ?_ ?_
    · refine sw_ldc (np := 42) sw_wc_RX7_99 dX7_leastSteps_40 rfl ?_
      refine sw_ist_7_5 (np := 44) dX7_leastSteps_42 rfl rfl ?_
      refine sw_iconst (np := 45) dX7_leastSteps_44 sw_ic_0 rfl ?_
      refine sw_ist_7_6 (np := 47) dX7_leastSteps_45 rfl rfl ?_
      refine sw_dr_7_1 ?_
      refine sw_lp2 (lv := fun x5_1 x6_1 => [some (sw_vr G 23), none, some (.int p2), some (.int p3), some (.int x4_1), some (.int x5_1), some (.int x6_1)]) (fun rec1 hrec1 x5_1 x6_1 S1 => ?_) _ _ _ _
      refine sw_ild_7_6 (np := 49) dX7_leastSteps_47 rfl ?_
      refine sw_ild_7_3 (np := 50) dX7_leastSteps_49 rfl ?_
      refine sw_icmp_ge (np := 53) (tp := 96) dX7_leastSteps_50 rfl rfl ?_ ?_
      · refine sw_ild_7_5 (np := 98) dX7_leastSteps_96 rfl ?_
        exact sw_iret dX7_leastSteps_98
      · refine sw_ild_7_5 (np := 55) dX7_leastSteps_53 rfl ?_
        refine sw_ald_7_0 (np := 56) dX7_leastSteps_55 rfl ?_
        refine sw_gR (np := 59) sw_f_RX7_46 sw_k_23 sw_r_23_12 dX7_leastSteps_56 rfl ?_
        refine sw_ild_7_4 (np := 61) dX7_leastSteps_59 rfl ?_
        refine sw_bipush (np := 63) dX7_leastSteps_61 sw_bc_6 rfl ?_
        refine sw_imul (np := 64) dX7_leastSteps_63 rfl ?_
        refine sw_ild_7_6 (np := 66) dX7_leastSteps_64 rfl ?_
        refine sw_iadd (np := 67) dX7_leastSteps_66 rfl ?_
        refine sw_iald (np := 68) sw_k_28 sw_n_28 dX7_leastSteps_67 rfl ?_
        refine sw_ald_7_0 (np := 69) dX7_leastSteps_68 rfl ?_
        refine sw_gR (np := 72) sw_f_RX7_43 sw_k_23 sw_r_23_11 dX7_leastSteps_69 rfl ?_
        refine sw_ild_7_6 (np := 74) dX7_leastSteps_72 rfl ?_
        refine sw_iald (np := 75) sw_k_27 sw_n_27 dX7_leastSteps_74 rfl ?_
        refine sw_ald_7_0 (np := 76) dX7_leastSteps_75 rfl ?_
        refine sw_gR (np := 79) sw_f_RX7_43 sw_k_23 sw_r_23_11 dX7_leastSteps_76 rfl ?_
        refine sw_ild_7_2 (np := 80) dX7_leastSteps_79 rfl ?_
        refine sw_iald (np := 81) sw_k_27 sw_n_27 dX7_leastSteps_80 rfl ?_
        refine sw_cT2i (np := 84) (hX8_steps (d := d - 1) (by omega) ) sw_ms_X8_steps sw_wn_RX7_145 dX7_leastSteps_81 (sw_fit_rm (by omega) (by decide)) (Nat.le_of_ble_eq_true rfl) rfl (fun r1 S2 => ?_)
        refine sw_iadd (np := 85) dX7_leastSteps_84 rfl ?_
        refine sw_mmin (np := 88) sw_mth_min sw_wm_RX7_72 (by show 1 ≤ d; omega) (sw_room (by omega) (Nat.le_of_ble_eq_true rfl)) (Nat.zero_le _) (Nat.zero_le _) dX7_leastSteps_85 rfl ?_
        refine sw_isl_7_5 (np := 90) dX7_leastSteps_88 rfl rfl (fun x5_2 => ?_)
        refine sw_inc_7_6 (np := 93) dX7_leastSteps_90 sw_ic_1 rfl rfl ?_
        refine sw_goto (tp := 47) dX7_leastSteps_93 rfl ?_
        exact hrec1 _ _ _
    · refine sw_ald_7_0 (np := 24) dX7_leastSteps_23 rfl ?_
      refine sw_gR (np := 27) sw_f_RX7_49 sw_k_23 sw_r_23_7 dX7_leastSteps_24 rfl ?_
      refine sw_gI (np := 30) sw_f_RX7_142 sw_k_1 dX7_leastSteps_27 rfl ?_
      refine sw_ald_7_0 (np := 31) dX7_leastSteps_30 rfl ?_
      refine sw_gR (np := 34) sw_f_RX7_43 sw_k_23 sw_r_23_11 dX7_leastSteps_31 rfl ?_
      refine sw_ild_7_2 (np := 35) dX7_leastSteps_34 rfl ?_
      refine sw_iald (np := 36) sw_k_27 sw_n_27 dX7_leastSteps_35 rfl ?_
      refine sw_cT2i (np := 39) (hX8_steps (d := d - 1) (by omega) ) sw_ms_X8_steps sw_wn_RX7_145 dX7_leastSteps_36 (sw_fit_rm (by omega) (by decide)) (Nat.le_of_ble_eq_true rfl) rfl (fun r2 S3 => ?_)
      exact sw_iret dX7_leastSteps_39
  · refine sw_ldc (np := 17) sw_wc_RX7_99 dX7_leastSteps_15 rfl ?_
    exact sw_iret dX7_leastSteps_17
/-- SwordAttic$Thought.stepsByAll()I -/
def fX7_stepsByAll (N : Nat)  (S : sw_St) : Option (Int32 × sw_St) :=
  sw_bd (fX4_awakeCots N 1 S) (fun r1 S1 => (sw_bd (fJ6_bitCount_0f7a4 N r1 S1) (fun r2 S2 => (if r2 ≤ (6 : Int32) then (sw_fx2 (fun rec1 x2_1 x3_1 S3 => (if x3_1 ≥ (12 : Int32) then (if x2_1 = 0 then (some ((0 : Int32), S3)) else (sw_li (((1 : Int32) <<< (x2_1 &&& 31)) - (1 : Int32)) (fun x3_2 => (sw_fx1 (fun rec2 x4_1 S4 => (if x4_1 > x3_2 then (sw_bd (fX7_leastOf N x3_2 x2_1 S4) (fun r3 S5 => (some (r3, S5)))) else (sw_fx1 (fun rec3 x5_1 S6 => (if x5_1 ≥ x2_1 then (rec2 (x4_1 + (1 : Int32)) S6) else (sw_bd (fX7_leastSteps N x4_1 x5_1 x2_1 S6) (fun r4 S7 => (sw_gd (sw_in ((x4_1 * (6 : Int32)) + x5_1) 384) (sw_ls (sw_si S7 28 ((x4_1 * (6 : Int32)) + x5_1).toNatClampNeg r4) (fun S8 => (rec3 (x5_1 + (1 : Int32)) S8)))))))) N (0 : Int32) S4))) N (1 : Int32) S3)))) else (if (r1 &&& ((1 : Int32) <<< (x3_1 &&& 31))) = 0 then (rec1 x2_1 (x3_1 + (1 : Int32)) S3) else (if x2_1 ≥ (6 : Int32) then (rec1 x2_1 (x3_1 + (1 : Int32)) S3) else (sw_gd (sw_in x2_1 6) (sw_ls (sw_si S3 27 x2_1.toNatClampNeg x3_1) (fun S9 => (rec1 (x2_1 + (1 : Int32)) (x3_1 + (1 : Int32)) S9)))))))) N (0 : Int32) (0 : Int32) S2) else (some ((-5 : Int32), S2))))))
theorem hX7_stepsByAll {G : sw_G} {N d : Nat} (hd : 3 ≤ d)   {S : sw_St} : sw_Ev G yX7_stepsByAll cX7_stepsByAll 6 (some .int) d sw_ei [sw_vr G 23] S (fX7_stepsByAll N  S) := by
  refine sw_Ev_of (own := RX7) (lv0 := [some (sw_vr G 23), none, none, none, none, none]) (by decide) rfl (Nat.le_of_ble_eq_true rfl) rfl ?_
  unfold fX7_stepsByAll
  refine sw_ald_6_0 (np := 1) dX7_stepsByAll_0 rfl ?_
  refine sw_gR (np := 4) sw_f_RX7_49 sw_k_23 sw_r_23_7 dX7_stepsByAll_1 rfl ?_
  refine sw_cV0i (np := 7) (hX4_awakeCots (d := d - 1) (by omega) sw_k_1) sw_mv_X4_awakeCots sw_k_1 sw_wl_RX7_127 dX7_stepsByAll_4 (sw_fit_rm (by omega) (by decide)) (Nat.le_of_ble_eq_true rfl) rfl (fun r1 S1 => ?_)
  refine sw_ist_6_1 (np := 8) dX7_stepsByAll_7 rfl rfl ?_
  refine sw_ild_6_1 (np := 9) dX7_stepsByAll_8 rfl ?_
  refine sw_cS1i (np := 12) (hJ6_bitCount_0f7a4 (d := d - 1) (by omega) ) sw_ms_J6_bitCount_0f7a4 sw_wl_RX7_130 dX7_stepsByAll_9 (sw_fit_rm (by omega) (by decide)) (Nat.le_of_ble_eq_true rfl) rfl (fun r2 S2 => ?_)
  refine sw_bipush (np := 14) dX7_stepsByAll_12 sw_bc_6 rfl ?_
  refine sw_icmp_le (np := 17) (tp := 20) dX7_stepsByAll_14 rfl rfl ?_ ?_
  · refine sw_iconst (np := 21) dX7_stepsByAll_20 sw_ic_0 rfl ?_
    refine sw_ist_6_2 (np := 22) dX7_stepsByAll_21 rfl rfl ?_
    refine sw_iconst (np := 23) dX7_stepsByAll_22 sw_ic_0 rfl ?_
    refine sw_ist_6_3 (np := 24) dX7_stepsByAll_23 rfl rfl ?_
    refine sw_lp2 (lv := fun x2_1 x3_1 => [some (sw_vr G 23), some (.int r1), some (.int x2_1), some (.int x3_1), none, none]) (fun rec1 hrec1 x2_1 x3_1 S3 => ?_) _ _ _ _
    refine sw_ild_6_3 (np := 25) dX7_stepsByAll_24 rfl ?_
    refine sw_bipush (np := 27) dX7_stepsByAll_25 sw_bc_12 rfl ?_
    refine sw_icmp_ge (np := 30) (tp := 60) dX7_stepsByAll_27 rfl rfl ?_ ?_
    · refine sw_ild_6_2 (np := 61) dX7_stepsByAll_60 rfl ?_
      refine sw_if_ne (np := 64) (tp := 66) dX7_stepsByAll_61 rfl rfl ?_ ?_
      · refine sw_iconst (np := 67) dX7_stepsByAll_66 sw_ic_1 rfl ?_
        refine sw_ild_6_2 (np := 68) dX7_stepsByAll_67 rfl ?_
        refine sw_ishl (np := 69) dX7_stepsByAll_68 rfl ?_
        refine sw_iconst (np := 70) dX7_stepsByAll_69 sw_ic_1 rfl ?_
        refine sw_isub (np := 71) dX7_stepsByAll_70 rfl ?_
        refine sw_isl_6_3 (np := 72) dX7_stepsByAll_71 rfl rfl (fun x3_2 => ?_)
        refine sw_iconst (np := 73) dX7_stepsByAll_72 sw_ic_1 rfl ?_
        refine sw_ist_6_4 (np := 75) dX7_stepsByAll_73 rfl rfl ?_
        refine sw_dr_6_1 ?_
        refine sw_lp1 (lv := fun x4_1 => [some (sw_vr G 23), none, some (.int x2_1), some (.int x3_2), some (.int x4_1), none]) (fun rec2 hrec2 x4_1 S4 => ?_) _ _ _
        refine sw_ild_6_4 (np := 77) dX7_stepsByAll_75 rfl ?_
        refine sw_ild_6_3 (np := 78) dX7_stepsByAll_77 rfl ?_
        refine sw_icmp_gt (np := 81) (tp := 124) dX7_stepsByAll_78 rfl rfl ?_ ?_
        · refine sw_ald_6_0 (np := 125) dX7_stepsByAll_124 rfl ?_
          refine sw_ild_6_3 (np := 126) dX7_stepsByAll_125 rfl ?_
          refine sw_ild_6_2 (np := 127) dX7_stepsByAll_126 rfl ?_
          refine sw_cV2i (np := 130) (hX7_leastOf (d := d - 1) (by omega) ) sw_mv_X7_leastOf sw_k_23 sw_wl_RX7_139 dX7_stepsByAll_127 (sw_fit_rm (by omega) (by decide)) (Nat.le_of_ble_eq_true rfl) rfl (fun r3 S5 => ?_)
          exact sw_iret dX7_stepsByAll_130
        · refine sw_iconst (np := 82) dX7_stepsByAll_81 sw_ic_0 rfl ?_
          refine sw_ist_6_5 (np := 84) dX7_stepsByAll_82 rfl rfl ?_
          refine sw_lp1 (lv := fun x5_1 => [some (sw_vr G 23), none, some (.int x2_1), some (.int x3_2), some (.int x4_1), some (.int x5_1)]) (fun rec3 hrec3 x5_1 S6 => ?_) _ _ _
          refine sw_ild_6_5 (np := 86) dX7_stepsByAll_84 rfl ?_
          refine sw_ild_6_2 (np := 87) dX7_stepsByAll_86 rfl ?_
          refine sw_icmp_ge (np := 90) (tp := 118) dX7_stepsByAll_87 rfl rfl ?_ ?_
          · refine sw_inc_6_4 (np := 121) dX7_stepsByAll_118 sw_ic_1 rfl rfl ?_
            refine sw_goto (tp := 75) dX7_stepsByAll_121 rfl ?_
            refine sw_dr_6_5 ?_
            exact hrec2 _ _
          · refine sw_ald_6_0 (np := 91) dX7_stepsByAll_90 rfl ?_
            refine sw_gR (np := 94) sw_f_RX7_46 sw_k_23 sw_r_23_12 dX7_stepsByAll_91 rfl ?_
            refine sw_ild_6_4 (np := 96) dX7_stepsByAll_94 rfl ?_
            refine sw_bipush (np := 98) dX7_stepsByAll_96 sw_bc_6 rfl ?_
            refine sw_imul (np := 99) dX7_stepsByAll_98 rfl ?_
            refine sw_ild_6_5 (np := 101) dX7_stepsByAll_99 rfl ?_
            refine sw_iadd (np := 102) dX7_stepsByAll_101 rfl ?_
            refine sw_ald_6_0 (np := 103) dX7_stepsByAll_102 rfl ?_
            refine sw_ild_6_4 (np := 105) dX7_stepsByAll_103 rfl ?_
            refine sw_ild_6_5 (np := 107) dX7_stepsByAll_105 rfl ?_
            refine sw_ild_6_2 (np := 108) dX7_stepsByAll_107 rfl ?_
            refine sw_cV3i (np := 111) (hX7_leastSteps (d := d - 1) (by omega) ) sw_mv_X7_leastSteps sw_k_23 sw_wl_RX7_135 dX7_stepsByAll_108 (sw_fit_rm (by omega) (by decide)) (Nat.le_of_ble_eq_true rfl) rfl (fun r4 S7 => ?_)
            refine sw_sI (np := 112) sw_k_28 sw_n_28 dX7_stepsByAll_111 rfl (fun S8 => ?_)
            refine sw_inc_6_5 (np := 115) dX7_stepsByAll_112 sw_ic_1 rfl rfl ?_
            refine sw_goto (tp := 84) dX7_stepsByAll_115 rfl ?_
            exact hrec3 _ _
      · refine sw_iconst (np := 65) dX7_stepsByAll_64 sw_ic_0 rfl ?_
        exact sw_iret dX7_stepsByAll_65
    · refine sw_ild_6_1 (np := 31) dX7_stepsByAll_30 rfl ?_
      refine sw_iconst (np := 32) dX7_stepsByAll_31 sw_ic_1 rfl ?_
      refine sw_ild_6_3 (np := 33) dX7_stepsByAll_32 rfl ?_
      refine sw_ishl (np := 34) dX7_stepsByAll_33 rfl ?_
      refine sw_iand (np := 35) dX7_stepsByAll_34 rfl ?_
      refine sw_if_eq (np := 38) (tp := 54) dX7_stepsByAll_35 rfl rfl ?_ ?_
      · refine sw_inc_6_3 (np := 57) dX7_stepsByAll_54 sw_ic_1 rfl rfl ?_
        refine sw_goto (tp := 24) dX7_stepsByAll_57 rfl ?_
        exact hrec1 _ _ _
      · refine sw_ild_6_2 (np := 39) dX7_stepsByAll_38 rfl ?_
        refine sw_bipush (np := 41) dX7_stepsByAll_39 sw_bc_6 rfl ?_
        refine sw_icmp_ge (np := 44) (tp := 54) dX7_stepsByAll_41 rfl rfl ?_ ?_
        · refine sw_inc_6_3 (np := 57) dX7_stepsByAll_54 sw_ic_1 rfl rfl ?_
          refine sw_goto (tp := 24) dX7_stepsByAll_57 rfl ?_
          exact hrec1 _ _ _
        · refine sw_ald_6_0 (np := 45) dX7_stepsByAll_44 rfl ?_
          refine sw_gR (np := 48) sw_f_RX7_43 sw_k_23 sw_r_23_11 dX7_stepsByAll_45 rfl ?_
          refine sw_ild_6_2 (np := 49) dX7_stepsByAll_48 rfl ?_
          refine sw_inc_6_2 (np := 52) dX7_stepsByAll_49 sw_ic_1 rfl rfl ?_
          refine sw_ild_6_3 (np := 53) dX7_stepsByAll_52 rfl ?_
          refine sw_sI (np := 54) sw_k_27 sw_n_27 dX7_stepsByAll_53 rfl (fun S9 => ?_)
          refine sw_inc_6_3 (np := 57) dX7_stepsByAll_54 sw_ic_1 rfl rfl ?_
          refine sw_goto (tp := 24) dX7_stepsByAll_57 rfl ?_
          exact hrec1 _ _ _
  · refine sw_bipush (np := 19) dX7_stepsByAll_17 sw_bc_m5 rfl ?_
    exact sw_iret dX7_stepsByAll_19
/-- SwordAttic$Thought.firstWrong(LSwordAttic$Night;LSwordAttic$Shelf;LSwordAttic$Shelf;I)I -/
def fX7_firstWrong (N : Nat) (o1 : Nat) (o2 : Nat) (o3 : Nat) (p4 : Int32) (S : sw_St) : Option (Int32 × sw_St) :=
  sw_bd (fX5_hours N o2 S) (fun r1 S1 => (sw_fx1 (fun rec1 x6_1 S2 => (if x6_1 ≥ (S2.1 o3 2) then (some ((-2 : Int32), S2)) else (if x6_1 ≤ r1 then (if x6_1 ≤ 0 then (sw_bd (fX5_byteAt N o3 x6_1 S2) (fun r2 S3 => (sw_gd (sw_in p4 10) (if r2 = (S3.1 (o1 + 4) p4.toNatClampNeg) then (rec1 (x6_1 + (1 : Int32)) S3) else (some (x6_1, S3)))))) else (sw_bd (fX5_byteAt N o2 (x6_1 - (1 : Int32)) S2) (fun r3 S4 => (sw_bd (fX4_passHour N o1 11 r3 S4) (fun _ S5 => (sw_bd (fX5_byteAt N o3 x6_1 S5) (fun r5 S6 => (sw_gd (sw_in p4 10) (if r5 = (S6.1 (o1 + 4) p4.toNatClampNeg) then (rec1 (x6_1 + (1 : Int32)) S6) else (some (x6_1, S6))))))))))) else (some (x6_1, S2))))) N (0 : Int32) S1))
theorem hX7_firstWrong {G : sw_G} {N d : Nat} (hd : 6 ≤ d) {o1 : Nat} {o2 : Nat} {o3 : Nat} {p4 : Int32} (ho1 : sw_kd o1 = 4) (ho2 : sw_kd o2 = 5) (ho3 : sw_kd o3 = 5) {S : sw_St} : sw_Ev G yX7_firstWrong cX7_firstWrong 7 (some .int) d sw_ei [sw_vr G 23, sw_vr G o1, sw_vr G o2, sw_vr G o3, .int p4] S (fX7_firstWrong N o1 o2 o3 p4 S) := by
  refine sw_Ev_of (own := RX7) (lv0 := [some (sw_vr G 23), some (sw_vr G o1), some (sw_vr G o2), some (sw_vr G o3), some (.int p4), none, none]) (by decide) rfl (Nat.le_of_ble_eq_true rfl) rfl ?_
  unfold fX7_firstWrong
  refine sw_ald_7_2 (np := 1) dX7_firstWrong_0 rfl ?_
  refine sw_cV0i (np := 4) (hX5_hours (d := d - 1) (by omega) ho2) sw_mv_X5_hours ho2 sw_wl_RX7_66 dX7_firstWrong_1 (sw_fit_rm (by omega) (by decide)) (Nat.le_of_ble_eq_true rfl) rfl (fun r1 S1 => ?_)
  refine sw_ist_7_5 (np := 6) dX7_firstWrong_4 rfl rfl ?_
  refine sw_iconst (np := 7) dX7_firstWrong_6 sw_ic_0 rfl ?_
  refine sw_ist_7_6 (np := 9) dX7_firstWrong_7 rfl rfl ?_
  refine sw_lp1 (lv := fun x6_1 => [some (sw_vr G 23), some (sw_vr G o1), some (sw_vr G o2), some (sw_vr G o3), some (.int p4), some (.int r1), some (.int x6_1)]) (fun rec1 hrec1 x6_1 S2 => ?_) _ _ _
  refine sw_ild_7_6 (np := 11) dX7_firstWrong_9 rfl ?_
  refine sw_ald_7_3 (np := 12) dX7_firstWrong_11 rfl ?_
  refine sw_gI (np := 15) sw_f_RX7_152 ho3 dX7_firstWrong_12 rfl ?_
  refine sw_icmp_ge (np := 18) (tp := 74) dX7_firstWrong_15 rfl rfl ?_ ?_
  · refine sw_bipush (np := 76) dX7_firstWrong_74 sw_bc_m2 rfl ?_
    exact sw_iret dX7_firstWrong_76
  · refine sw_ild_7_6 (np := 20) dX7_firstWrong_18 rfl ?_
    refine sw_ild_7_5 (np := 22) dX7_firstWrong_20 rfl ?_
    refine sw_icmp_le (np := 25) (tp := 28) dX7_firstWrong_22 rfl rfl ?_ ?_
    · refine sw_ild_7_6 (np := 30) dX7_firstWrong_28 rfl ?_
      refine sw_if_le (np := 33) (tp := 49) dX7_firstWrong_30 rfl rfl ?_ ?_
      · refine sw_ald_7_3 (np := 50) dX7_firstWrong_49 rfl ?_
        refine sw_ild_7_6 (np := 52) dX7_firstWrong_50 rfl ?_
        refine sw_cV1i (np := 55) (hX5_byteAt (d := d - 1) (by omega) ho3) sw_mv_X5_byteAt ho3 sw_wl_RX7_78 dX7_firstWrong_52 (sw_fit_rm (by omega) (by decide)) (Nat.le_of_ble_eq_true rfl) rfl (fun r2 S3 => ?_)
        refine sw_ald_7_1 (np := 56) dX7_firstWrong_55 rfl ?_
        refine sw_gR (np := 59) sw_f_RX7_86 ho1 (sw_rf_4_8 ho1) dX7_firstWrong_56 rfl ?_
        refine sw_ild_7_4 (np := 61) dX7_firstWrong_59 rfl ?_
        refine sw_iald (np := 62) (sw_kd_4_8 ho1) (sw_ln_4_8 ho1) dX7_firstWrong_61 rfl ?_
        refine sw_icmp_eq (np := 65) (tp := 68) dX7_firstWrong_62 rfl rfl ?_ ?_
        · refine sw_inc_7_6 (np := 71) dX7_firstWrong_68 sw_ic_1 rfl rfl ?_
          refine sw_goto (tp := 9) dX7_firstWrong_71 rfl ?_
          exact hrec1 _ _
        · refine sw_ild_7_6 (np := 67) dX7_firstWrong_65 rfl ?_
          exact sw_iret dX7_firstWrong_67
      · refine sw_ald_7_1 (np := 34) dX7_firstWrong_33 rfl ?_
        refine sw_ald_7_0 (np := 35) dX7_firstWrong_34 rfl ?_
        refine sw_gR (np := 38) sw_f_RX7_53 sw_k_23 sw_r_23_8 dX7_firstWrong_35 rfl ?_
        refine sw_ald_7_2 (np := 39) dX7_firstWrong_38 rfl ?_
        refine sw_ild_7_6 (np := 41) dX7_firstWrong_39 rfl ?_
        refine sw_iconst (np := 42) dX7_firstWrong_41 sw_ic_1 rfl ?_
        refine sw_isub (np := 43) dX7_firstWrong_42 rfl ?_
        refine sw_cV1i (np := 46) (hX5_byteAt (d := d - 1) (by omega) ho2) sw_mv_X5_byteAt ho2 sw_wl_RX7_78 dX7_firstWrong_43 (sw_fit_rm (by omega) (by decide)) (Nat.le_of_ble_eq_true rfl) rfl (fun r3 S4 => ?_)
        refine sw_cV2v (np := 49) (hX4_passHour (d := d - 1) (by omega) ho1 sw_k_11) sw_mv_X4_passHour ho1 sw_wl_RX7_82 dX7_firstWrong_46 (sw_fit_rm (by omega) (by decide)) (Nat.le_of_ble_eq_true rfl) rfl (fun _ S5 => ?_)
        refine sw_ald_7_3 (np := 50) dX7_firstWrong_49 rfl ?_
        refine sw_ild_7_6 (np := 52) dX7_firstWrong_50 rfl ?_
        refine sw_cV1i (np := 55) (hX5_byteAt (d := d - 1) (by omega) ho3) sw_mv_X5_byteAt ho3 sw_wl_RX7_78 dX7_firstWrong_52 (sw_fit_rm (by omega) (by decide)) (Nat.le_of_ble_eq_true rfl) rfl (fun r5 S6 => ?_)
        refine sw_ald_7_1 (np := 56) dX7_firstWrong_55 rfl ?_
        refine sw_gR (np := 59) sw_f_RX7_86 ho1 (sw_rf_4_8 ho1) dX7_firstWrong_56 rfl ?_
        refine sw_ild_7_4 (np := 61) dX7_firstWrong_59 rfl ?_
        refine sw_iald (np := 62) (sw_kd_4_8 ho1) (sw_ln_4_8 ho1) dX7_firstWrong_61 rfl ?_
        refine sw_icmp_eq (np := 65) (tp := 68) dX7_firstWrong_62 rfl rfl ?_ ?_
        · refine sw_inc_7_6 (np := 71) dX7_firstWrong_68 sw_ic_1 rfl rfl ?_
          refine sw_goto (tp := 9) dX7_firstWrong_71 rfl ?_
          exact hrec1 _ _
        · refine sw_ild_7_6 (np := 67) dX7_firstWrong_65 rfl ?_
          exact sw_iret dX7_firstWrong_67
    · refine sw_ild_7_6 (np := 27) dX7_firstWrong_25 rfl ?_
      exact sw_iret dX7_firstWrong_27
/-- SwordAttic$Thought.judged(LSwordAttic$Shelf;LSwordAttic$Shelf;I)I -/
def fX7_judged (N : Nat) (o1 : Nat) (o2 : Nat) (p3 : Int32) (S : sw_St) : Option (Int32 × sw_St) :=
  sw_bd (fX7_fresh N S) (fun r1 S1 => sw_gd (decide (sw_kd r1 = 4)) (sw_bd (fX7_firstWrong N r1 o1 o2 p3 S1) (fun r2 S2 => (some (r2, S2)))))
theorem hX7_judged {G : sw_G} {N d : Nat} (hd : 7 ≤ d) {o1 : Nat} {o2 : Nat} {p3 : Int32} (ho1 : sw_kd o1 = 5) (ho2 : sw_kd o2 = 5) {S : sw_St} : sw_Ev G yX7_judged cX7_judged 4 (some .int) d sw_ei [sw_vr G 23, sw_vr G o1, sw_vr G o2, .int p3] S (fX7_judged N o1 o2 p3 S) := by
  refine sw_Ev_of (own := RX7) (lv0 := [some (sw_vr G 23), some (sw_vr G o1), some (sw_vr G o2), some (.int p3)]) (by decide) rfl (Nat.le_of_ble_eq_true rfl) rfl ?_
  unfold fX7_judged
  refine sw_ald_4_0 (np := 1) dX7_judged_0 rfl ?_
  refine sw_ald_4_0 (np := 2) dX7_judged_1 rfl ?_
  refine sw_cV0n (np := 5) (hX7_fresh (d := d - 1) (by omega) ) sw_mv_X7_fresh sw_k_23 sw_wl_RX7_62 dX7_judged_2 (sw_fit_rm (by omega) (by decide)) (Nat.le_of_ble_eq_true rfl) rfl (fun r1 S1 hq1 => ?_)
  refine sw_ald_4_1 (np := 6) dX7_judged_5 rfl ?_
  refine sw_ald_4_2 (np := 7) dX7_judged_6 rfl ?_
  refine sw_ild_4_3 (np := 8) dX7_judged_7 rfl ?_
  refine sw_cV4i (np := 11) (hX7_firstWrong (d := d - 1) (by omega) hq1 ho1 ho2) sw_mv_X7_firstWrong sw_k_23 sw_wl_RX7_148 dX7_judged_8 (sw_fit_rm (by omega) (by decide)) (Nat.le_of_ble_eq_true rfl) rfl (fun r2 S2 => ?_)
  exact sw_iret dX7_judged_11
/-- SwordAttic$Thought.fit(LSwordAttic$Shelf;LSwordAttic$Shelf;II)V -/
def fX7_fit (N : Nat) (o1 : Nat) (o2 : Nat) (p3 : Int32) (p4 : Int32) (S : sw_St) : Option (Unit × sw_St) :=
  sw_ls (sw_si S 23 3 (0 : Int32)) (fun S1 => (sw_ls (sw_si S1 23 4 (-2 : Int32)) (fun S2 => (sw_fx1 (fun rec1 x5_1 S3 => (sw_gd (sw_in p4 8) (if x5_1 > ((sw_tb 0).getD p4.toNatClampNeg 0) then (some ((), S3)) else (sw_bd (fX7_fresh N S3) (fun r1 S4 => sw_gd (decide (sw_kd r1 = 4)) (sw_bd (fX4_set N r1 (p3 - p3 / (10 : Int32) * (10 : Int32)) p4 x5_1 S4) (fun _ S5 => (sw_bd (fX7_firstWrong N r1 o1 o2 (p3 / (10 : Int32)) S5) (fun r3 S6 => (if r3 = (-2 : Int32) then (if (S6.1 23 3) = 0 then (sw_ls (sw_si S6 23 4 x5_1) (fun S9 => (sw_ls (sw_si S9 23 3 ((S9.1 23 3) + (1 : Int32))) (fun S10 => (rec1 (x5_1 + (1 : Int32)) S10))))) else (sw_ls (sw_si S6 23 4 (S6.1 23 4)) (fun S7 => (sw_ls (sw_si S7 23 3 ((S7.1 23 3) + (1 : Int32))) (fun S8 => (rec1 (x5_1 + (1 : Int32)) S8)))))) else (rec1 (x5_1 + (1 : Int32)) S6))))))))))) N (0 : Int32) S2))))
theorem hX7_fit {G : sw_G} {N d : Nat} (hd : 7 ≤ d) {o1 : Nat} {o2 : Nat} {p3 : Int32} {p4 : Int32} (ho1 : sw_kd o1 = 5) (ho2 : sw_kd o2 = 5) {S : sw_St} : sw_Ev G yX7_fit cX7_fit 7 none d sw_ev [sw_vr G 23, sw_vr G o1, sw_vr G o2, .int p3, .int p4] S (fX7_fit N o1 o2 p3 p4 S) := by
  refine sw_Ev_of (own := RX7) (lv0 := [some (sw_vr G 23), some (sw_vr G o1), some (sw_vr G o2), some (.int p3), some (.int p4), none, none]) (by decide) rfl (Nat.le_of_ble_eq_true rfl) rfl ?_
  unfold fX7_fit
  refine sw_ald_7_0 (np := 1) dX7_fit_0 rfl ?_
  refine sw_iconst (np := 2) dX7_fit_1 sw_ic_0 rfl ?_
  refine sw_pI (np := 5) sw_f_RX7_22 sw_fp_7_3 sw_k_23 dX7_fit_2 rfl (fun S1 => ?_)
  refine sw_ald_7_0 (np := 6) dX7_fit_5 rfl ?_
  refine sw_bipush (np := 8) dX7_fit_6 sw_bc_m2 rfl ?_
  refine sw_pI (np := 11) sw_f_RX7_25 sw_fp_7_4 sw_k_23 dX7_fit_8 rfl (fun S2 => ?_)
  refine sw_iconst (np := 12) dX7_fit_11 sw_ic_0 rfl ?_
  refine sw_ist_7_5 (np := 14) dX7_fit_12 rfl rfl ?_
  refine sw_lp1 (lv := fun x5_1 => [some (sw_vr G 23), some (sw_vr G o1), some (sw_vr G o2), some (.int p3), some (.int p4), some (.int x5_1), none]) (fun rec1 hrec1 x5_1 S3 => ?_) _ _ _
  refine sw_ild_7_5 (np := 16) dX7_fit_14 rfl ?_
  refine sw_getsN (np := 19) (fun _ _ h => sw_hs_0 h) rfl sw_wz_RX7_155 dX7_fit_16 rfl ?_
  refine sw_ild_7_4 (np := 21) dX7_fit_19 rfl ?_
  refine sw_tald (np := 22) (fun _ _ h => sw_hs_0 h) dX7_fit_21 rfl ?_
  refine sw_icmp_gt (np := 25) (tp := 97) dX7_fit_22 rfl rfl ?_ ?_
  · exact sw_vret dX7_fit_97
  · refine sw_ald_7_0 (np := 26) dX7_fit_25 rfl ?_
    refine sw_cV0n (np := 29) (hX7_fresh (d := d - 1) (by omega) ) sw_mv_X7_fresh sw_k_23 sw_wl_RX7_62 dX7_fit_26 (sw_fit_rm (by omega) (by decide)) (Nat.le_of_ble_eq_true rfl) rfl (fun r1 S4 hq1 => ?_)
    refine sw_ast_7_6 (np := 31) dX7_fit_29 rfl rfl ?_
    refine sw_ald_7_6 (np := 33) dX7_fit_31 rfl ?_
    refine sw_ild_7_3 (np := 34) dX7_fit_33 rfl ?_
    refine sw_bipush (np := 36) dX7_fit_34 sw_bc_10 rfl ?_
    refine sw_irem (np := 37) dX7_fit_36 (by decide) rfl ?_
    refine sw_ild_7_4 (np := 39) dX7_fit_37 rfl ?_
    refine sw_ild_7_5 (np := 41) dX7_fit_39 rfl ?_
    refine sw_cV3v (np := 44) (hX4_set (d := d - 1) (by omega) hq1) sw_mv_X4_set hq1 sw_wl_RX7_158 dX7_fit_41 (sw_fit_rm (by omega) (by decide)) (Nat.le_of_ble_eq_true rfl) rfl (fun _ S5 => ?_)
    refine sw_ald_7_0 (np := 45) dX7_fit_44 rfl ?_
    refine sw_ald_7_6 (np := 47) dX7_fit_45 rfl ?_
    refine sw_ald_7_1 (np := 48) dX7_fit_47 rfl ?_
    refine sw_ald_7_2 (np := 49) dX7_fit_48 rfl ?_
    refine sw_ild_7_3 (np := 50) dX7_fit_49 rfl ?_
    refine sw_bipush (np := 52) dX7_fit_50 sw_bc_10 rfl ?_
    refine sw_idiv (np := 53) dX7_fit_52 (by decide) rfl ?_
    refine sw_cV4i (np := 56) (hX7_firstWrong (d := d - 1) (by omega) hq1 ho1 ho2) sw_mv_X7_firstWrong sw_k_23 sw_wl_RX7_148 dX7_fit_53 (sw_fit_rm (by omega) (by decide)) (Nat.le_of_ble_eq_true rfl) rfl (fun r3 S6 => ?_)
    refine sw_bipush (np := 58) dX7_fit_56 sw_bc_m2 rfl ?_
    refine sw_icmp_ne (np := 61) (tp := 91) dX7_fit_58 rfl rfl ?_ ?_
    · refine sw_inc_7_5 (np := 94) dX7_fit_91 sw_ic_1 rfl rfl ?_
      refine sw_goto (tp := 14) dX7_fit_94 rfl ?_
      refine sw_dr_7_6 ?_
      exact hrec1 _ _
    · refine sw_ald_7_0 (np := 62) dX7_fit_61 rfl ?_
      refine sw_ald_7_0 (np := 63) dX7_fit_62 rfl ?_
      refine sw_gI (np := 66) sw_f_RX7_22 sw_k_23 dX7_fit_63 rfl ?_
      refine sw_if_ne (np := 69) (tp := 74) dX7_fit_66 rfl rfl ?_ ?_
      · refine sw_ald_7_0 (np := 75) dX7_fit_74 rfl ?_
        refine sw_gI (np := 78) sw_f_RX7_25 sw_k_23 dX7_fit_75 rfl ?_
        refine sw_pI (np := 81) sw_f_RX7_25 sw_fp_7_4 sw_k_23 dX7_fit_78 rfl (fun S7 => ?_)
        refine sw_ald_7_0 (np := 82) dX7_fit_81 rfl ?_
        refine sw_dup (np := 83) dX7_fit_82 rfl rfl ?_
        refine sw_gI (np := 86) sw_f_RX7_22 sw_k_23 dX7_fit_83 rfl ?_
        refine sw_iconst (np := 87) dX7_fit_86 sw_ic_1 rfl ?_
        refine sw_iadd (np := 88) dX7_fit_87 rfl ?_
        refine sw_pI (np := 91) sw_f_RX7_22 sw_fp_7_3 sw_k_23 dX7_fit_88 rfl (fun S8 => ?_)
        refine sw_inc_7_5 (np := 94) dX7_fit_91 sw_ic_1 rfl rfl ?_
        refine sw_goto (tp := 14) dX7_fit_94 rfl ?_
        refine sw_dr_7_6 ?_
        exact hrec1 _ _
      · refine sw_ild_7_5 (np := 71) dX7_fit_69 rfl ?_
        refine sw_goto (tp := 78) dX7_fit_71 rfl ?_
        refine sw_pI (np := 81) sw_f_RX7_25 sw_fp_7_4 sw_k_23 dX7_fit_78 rfl (fun S9 => ?_)
        refine sw_ald_7_0 (np := 82) dX7_fit_81 rfl ?_
        refine sw_dup (np := 83) dX7_fit_82 rfl rfl ?_
        refine sw_gI (np := 86) sw_f_RX7_22 sw_k_23 dX7_fit_83 rfl ?_
        refine sw_iconst (np := 87) dX7_fit_86 sw_ic_1 rfl ?_
        refine sw_iadd (np := 88) dX7_fit_87 rfl ?_
        refine sw_pI (np := 91) sw_f_RX7_22 sw_fp_7_3 sw_k_23 dX7_fit_88 rfl (fun S10 => ?_)
        refine sw_inc_7_5 (np := 94) dX7_fit_91 sw_ic_1 rfl rfl ?_
        refine sw_goto (tp := 14) dX7_fit_94 rfl ?_
        refine sw_dr_7_6 ?_
        exact hrec1 _ _
/-- SwordAttic$Thought.deal()V -/
def fX7_deal (N : Nat)  (S : sw_St) : Option (Unit × sw_St) :=
  sw_bd (fX7_forgetBest N S) (fun _ S1 => (sw_bd (fX7_fresh N S1) (fun r2 S2 => sw_gd (decide (sw_kd r2 = 4)) (sw_bd (fX4_passHour N r2 11 (-1 : Int32) S2) (fun _ S3 => (sw_bd (fX7_isBetter N r2 S3) (fun r4 S4 => (sw_ls (sw_si S4 23 5 (-9 : Int32)) (fun S5 => (sw_fx1 (fun rec1 x2_1 S6 => (if x2_1 ≥ (12 : Int32) then (some ((), S6)) else (sw_li (x2_1 + (1 : Int32)) (fun x3_1 => (sw_fx1 (fun rec2 x3_2 S7 => (if x3_2 ≥ (12 : Int32) then (rec1 (x2_1 + (1 : Int32)) S7) else (sw_bd (fX4_become N r2 1 S7) (fun _ S8 => (sw_bd (fX4_changeCots N r2 x2_1 x3_2 S8) (fun _ S9 => (sw_bd (fX4_passHour N r2 11 (-1 : Int32) S9) (fun _ S10 => (sw_bd (fX7_isBetter N r2 S10) (fun r8 S11 => (if r8 = 0 then (sw_ls (sw_si S11 23 5 (S11.1 23 5)) (fun S12 => (rec2 (x3_2 + (1 : Int32)) S12))) else (sw_ls (sw_si S11 23 5 (((12 : Int32) * x2_1) + x3_2)) (fun S13 => (rec2 (x3_2 + (1 : Int32)) S13)))))))))))))) N x3_1 S6))))) N (0 : Int32) S5))))))))))
theorem hX7_deal {G : sw_G} {N d : Nat} (hd : 6 ≤ d)   {S : sw_St} : sw_Ev G yX7_deal cX7_deal 4 none d sw_ev [sw_vr G 23] S (fX7_deal N  S) := by
  refine sw_Ev_of (own := RX7) (lv0 := [some (sw_vr G 23), none, none, none]) (by decide) rfl (Nat.le_of_ble_eq_true rfl) rfl ?_
  unfold fX7_deal
  refine sw_ald_4_0 (np := 1) dX7_deal_0 rfl ?_
  refine sw_cV0v (np := 4) (hX7_forgetBest (d := d - 1) (by omega) ) sw_mv_X7_forgetBest sw_k_23 sw_wl_RX7_92 dX7_deal_1 (sw_fit_rm (by omega) (by decide)) (Nat.le_of_ble_eq_true rfl) rfl (fun _ S1 => ?_)
  refine sw_ald_4_0 (np := 5) dX7_deal_4 rfl ?_
  refine sw_cV0n (np := 8) (hX7_fresh (d := d - 1) (by omega) ) sw_mv_X7_fresh sw_k_23 sw_wl_RX7_62 dX7_deal_5 (sw_fit_rm (by omega) (by decide)) (Nat.le_of_ble_eq_true rfl) rfl (fun r2 S2 hq1 => ?_)
  refine sw_ast_4_1 (np := 9) dX7_deal_8 rfl rfl ?_
  refine sw_ald_4_1 (np := 10) dX7_deal_9 rfl ?_
  refine sw_ald_4_0 (np := 11) dX7_deal_10 rfl ?_
  refine sw_gR (np := 14) sw_f_RX7_53 sw_k_23 sw_r_23_8 dX7_deal_11 rfl ?_
  refine sw_iconst (np := 15) dX7_deal_14 sw_ic_m1 rfl ?_
  refine sw_cV2v (np := 18) (hX4_passHour (d := d - 1) (by omega) hq1 sw_k_11) sw_mv_X4_passHour hq1 sw_wl_RX7_82 dX7_deal_15 (sw_fit_rm (by omega) (by decide)) (Nat.le_of_ble_eq_true rfl) rfl (fun _ S3 => ?_)
  refine sw_ald_4_0 (np := 19) dX7_deal_18 rfl ?_
  refine sw_ald_4_1 (np := 20) dX7_deal_19 rfl ?_
  refine sw_cV1i (np := 23) (hX7_isBetter (d := d - 1) (by omega) hq1) sw_mv_X7_isBetter sw_k_23 sw_wl_RX7_100 dX7_deal_20 (sw_fit_rm (by omega) (by decide)) (Nat.le_of_ble_eq_true rfl) rfl (fun r4 S4 => ?_)
  refine sw_pop (np := 24) dX7_deal_23 rfl rfl ?_
  refine sw_ald_4_0 (np := 25) dX7_deal_24 rfl ?_
  refine sw_bipush (np := 27) dX7_deal_25 sw_bc_m9 rfl ?_
  refine sw_pI (np := 30) sw_f_RX7_28 sw_fp_7_5 sw_k_23 dX7_deal_27 rfl (fun S5 => ?_)
  refine sw_iconst (np := 31) dX7_deal_30 sw_ic_0 rfl ?_
  refine sw_ist_4_2 (np := 32) dX7_deal_31 rfl rfl ?_
  refine sw_lp1 (lv := fun x2_1 => [some (sw_vr G 23), some (sw_vr G r2), some (.int x2_1), none]) (fun rec1 hrec1 x2_1 S6 => ?_) _ _ _
  refine sw_ild_4_2 (np := 33) dX7_deal_32 rfl ?_
  refine sw_bipush (np := 35) dX7_deal_33 sw_bc_12 rfl ?_
  refine sw_icmp_ge (np := 38) (tp := 108) dX7_deal_35 rfl rfl ?_ ?_
  · exact sw_vret dX7_deal_108
  · refine sw_ild_4_2 (np := 39) dX7_deal_38 rfl ?_
    refine sw_iconst (np := 40) dX7_deal_39 sw_ic_1 rfl ?_
    refine sw_iadd (np := 41) dX7_deal_40 rfl ?_
    refine sw_isl_4_3 (np := 42) dX7_deal_41 rfl rfl (fun x3_1 => ?_)
    refine sw_lp1 (lv := fun x3_2 => [some (sw_vr G 23), some (sw_vr G r2), some (.int x2_1), some (.int x3_2)]) (fun rec2 hrec2 x3_2 S7 => ?_) _ _ _
    refine sw_ild_4_3 (np := 43) dX7_deal_42 rfl ?_
    refine sw_bipush (np := 45) dX7_deal_43 sw_bc_12 rfl ?_
    refine sw_icmp_ge (np := 48) (tp := 102) dX7_deal_45 rfl rfl ?_ ?_
    · refine sw_inc_4_2 (np := 105) dX7_deal_102 sw_ic_1 rfl rfl ?_
      refine sw_goto (tp := 32) dX7_deal_105 rfl ?_
      refine sw_dr_4_3 ?_
      exact hrec1 _ _
    · refine sw_ald_4_1 (np := 49) dX7_deal_48 rfl ?_
      refine sw_ald_4_0 (np := 50) dX7_deal_49 rfl ?_
      refine sw_gR (np := 53) sw_f_RX7_49 sw_k_23 sw_r_23_7 dX7_deal_50 rfl ?_
      refine sw_cV1v (np := 56) (hX4_become (d := d - 1) (by omega) hq1 sw_k_1) sw_mv_X4_become hq1 sw_wl_RX7_58 dX7_deal_53 (sw_fit_rm (by omega) (by decide)) (Nat.le_of_ble_eq_true rfl) rfl (fun _ S8 => ?_)
      refine sw_ald_4_1 (np := 57) dX7_deal_56 rfl ?_
      refine sw_ild_4_2 (np := 58) dX7_deal_57 rfl ?_
      refine sw_ild_4_3 (np := 59) dX7_deal_58 rfl ?_
      refine sw_cV2v (np := 62) (hX4_changeCots (d := d - 1) (by omega) hq1) sw_mv_X4_changeCots hq1 sw_wl_RX7_162 dX7_deal_59 (sw_fit_rm (by omega) (by decide)) (Nat.le_of_ble_eq_true rfl) rfl (fun _ S9 => ?_)
      refine sw_ald_4_1 (np := 63) dX7_deal_62 rfl ?_
      refine sw_ald_4_0 (np := 64) dX7_deal_63 rfl ?_
      refine sw_gR (np := 67) sw_f_RX7_53 sw_k_23 sw_r_23_8 dX7_deal_64 rfl ?_
      refine sw_iconst (np := 68) dX7_deal_67 sw_ic_m1 rfl ?_
      refine sw_cV2v (np := 71) (hX4_passHour (d := d - 1) (by omega) hq1 sw_k_11) sw_mv_X4_passHour hq1 sw_wl_RX7_82 dX7_deal_68 (sw_fit_rm (by omega) (by decide)) (Nat.le_of_ble_eq_true rfl) rfl (fun _ S10 => ?_)
      refine sw_ald_4_0 (np := 72) dX7_deal_71 rfl ?_
      refine sw_ald_4_0 (np := 73) dX7_deal_72 rfl ?_
      refine sw_ald_4_1 (np := 74) dX7_deal_73 rfl ?_
      refine sw_cV1i (np := 77) (hX7_isBetter (d := d - 1) (by omega) hq1) sw_mv_X7_isBetter sw_k_23 sw_wl_RX7_100 dX7_deal_74 (sw_fit_rm (by omega) (by decide)) (Nat.le_of_ble_eq_true rfl) rfl (fun r8 S11 => ?_)
      refine sw_if_eq (np := 80) (tp := 89) dX7_deal_77 rfl rfl ?_ ?_
      · refine sw_ald_4_0 (np := 90) dX7_deal_89 rfl ?_
        refine sw_gI (np := 93) sw_f_RX7_28 sw_k_23 dX7_deal_90 rfl ?_
        refine sw_pI (np := 96) sw_f_RX7_28 sw_fp_7_5 sw_k_23 dX7_deal_93 rfl (fun S12 => ?_)
        refine sw_inc_4_3 (np := 99) dX7_deal_96 sw_ic_1 rfl rfl ?_
        refine sw_goto (tp := 42) dX7_deal_99 rfl ?_
        exact hrec2 _ _
      · refine sw_bipush (np := 82) dX7_deal_80 sw_bc_12 rfl ?_
        refine sw_ild_4_2 (np := 83) dX7_deal_82 rfl ?_
        refine sw_imul (np := 84) dX7_deal_83 rfl ?_
        refine sw_ild_4_3 (np := 85) dX7_deal_84 rfl ?_
        refine sw_iadd (np := 86) dX7_deal_85 rfl ?_
        refine sw_goto (tp := 93) dX7_deal_86 rfl ?_
        refine sw_pI (np := 96) sw_f_RX7_28 sw_fp_7_5 sw_k_23 dX7_deal_93 rfl (fun S13 => ?_)
        refine sw_inc_4_3 (np := 99) dX7_deal_96 sw_ic_1 rfl rfl ?_
        refine sw_goto (tp := 42) dX7_deal_99 rfl ?_
        exact hrec2 _ _
/-- SwordAttic$Thought.outcome, over what calls it again -/
def gX7_outcome (N : Nat) (RR : Nat → Int32 → Int32 → Int32 → Int32 → sw_St → Option (Int32 × sw_St)) (p1 : Int32) (p2 : Int32) (S : sw_St) : Option (Int32 × sw_St) :=
  sw_gd (sw_in p1 5) (if p1 < p2 then (if (p1 - p1 / (2 : Int32) * (2 : Int32)) = 0 then (sw_jn1 (fun y2 S7 => (sw_gd (sw_in (p1 + (1 : Int32)) 5) (sw_bd (fX4_becomeInMind N (29 + 10 * (p1 + (1 : Int32)).toNatClampNeg) (29 + 10 * p1.toNatClampNeg) S7) (fun _ S8 => (sw_bd (RR 0 (p1 + (1 : Int32)) p2 0 0 S8) (fun r5 S9 => (sw_fx3 (fun rec2 x6_2 x7_2 x8_2 S10 => (if x8_2 ≥ (y2 + (6 : Int32)) then (sw_ls (sw_si S10 23 6 x6_2) (fun S11 => (some (x7_2, S11)))) else (sw_gd (sw_in x8_2 12) (if (S10.1 ((29 + 10 * p1.toNatClampNeg) + 6) x8_2.toNatClampNeg) ≥ 0 then (sw_bd (RR 1 p1 p2 x8_2 0 S10) (fun r6 S12 => (if (1 : Int32) = 0 then (if r6 ≤ x7_2 then (rec2 x6_2 x7_2 (x8_2 + (1 : Int32)) S12) else (rec2 x8_2 r6 (x8_2 + (1 : Int32)) S12)) else (if r6 ≥ x7_2 then (rec2 x6_2 x7_2 (x8_2 + (1 : Int32)) S12) else (rec2 x8_2 r6 (x8_2 + (1 : Int32)) S12))))) else (rec2 x6_2 x7_2 (x8_2 + (1 : Int32)) S10))))) N (12 : Int32) r5 y2 S9))))))) (fun k2 => (if (1 : Int32) = 0 then (k2 (6 : Int32) S) else (k2 (0 : Int32) S)))) else (sw_jn1 (fun y1 S1 => (sw_gd (sw_in (p1 + (1 : Int32)) 5) (sw_bd (fX4_becomeInMind N (29 + 10 * (p1 + (1 : Int32)).toNatClampNeg) (29 + 10 * p1.toNatClampNeg) S1) (fun _ S2 => (sw_bd (RR 0 (p1 + (1 : Int32)) p2 0 0 S2) (fun r2 S3 => (sw_fx3 (fun rec1 x6_1 x7_1 x8_1 S4 => (if x8_1 ≥ (y1 + (6 : Int32)) then (sw_ls (sw_si S4 23 6 x6_1) (fun S5 => (some (x7_1, S5)))) else (sw_gd (sw_in x8_1 12) (if (S4.1 ((29 + 10 * p1.toNatClampNeg) + 6) x8_1.toNatClampNeg) ≥ 0 then (sw_bd (RR 1 p1 p2 x8_1 0 S4) (fun r3 S6 => (if (0 : Int32) = 0 then (if r3 ≤ x7_1 then (rec1 x6_1 x7_1 (x8_1 + (1 : Int32)) S6) else (rec1 x8_1 r3 (x8_1 + (1 : Int32)) S6)) else (if r3 ≥ x7_1 then (rec1 x6_1 x7_1 (x8_1 + (1 : Int32)) S6) else (rec1 x8_1 r3 (x8_1 + (1 : Int32)) S6))))) else (rec1 x6_1 x7_1 (x8_1 + (1 : Int32)) S4))))) N (12 : Int32) r2 y1 S3))))))) (fun k1 => (if (0 : Int32) = 0 then (k1 (6 : Int32) S) else (k1 (0 : Int32) S))))) else (sw_bd (fX4_howManyAwake N (29 + 10 * p1.toNatClampNeg) S) (fun r7 S13 => (some (r7, S13)))))
/-- SwordAttic$Thought.outcomeOf, over what calls it again -/
def gX7_outcomeOf (N : Nat) (RR : Nat → Int32 → Int32 → Int32 → Int32 → sw_St → Option (Int32 × sw_St)) (p1 : Int32) (p2 : Int32) (p3 : Int32) (S : sw_St) : Option (Int32 × sw_St) :=
  sw_gd (sw_in (p1 + (1 : Int32)) 5) (sw_gd (sw_in p1 5) (sw_bd (fX4_becomeInMind N (29 + 10 * (p1 + (1 : Int32)).toNatClampNeg) (29 + 10 * p1.toNatClampNeg) S) (fun _ S1 => (if (p1 - p1 / (2 : Int32) * (2 : Int32)) = 0 then (sw_bd (fX4_tellAt N (29 + 10 * (p1 + (1 : Int32)).toNatClampNeg) p3 (4 : Int32) S1) (fun _ S4 => (sw_bd (RR 0 (p1 + (1 : Int32)) p2 0 0 S4) (fun r5 S5 => (some (r5, S5)))))) else (sw_bd (fX4_touchFrom N (29 + 10 * (p1 + (1 : Int32)).toNatClampNeg) p3 S1) (fun r2 S2 => (sw_bd (RR 0 (p1 + (1 : Int32)) p2 0 0 S2) (fun r3 S3 => (some (r3, S3))))))))))
def kG_4 (G : sw_G) (d : Nat) (RR : Nat → Int32 → Int32 → Int32 → Int32 → sw_St → Option (Int32 × sw_St)) : Prop :=
  (∀ (a b c e : Int32) (S : sw_St), sw_Ev G yX7_outcome cX7_outcome 10 (some .int) d sw_ei [sw_vr G 23, .int a, .int b] S (RR 0 a b c e S)) ∧
  (∀ (a b c e : Int32) (S : sw_St), sw_Ev G yX7_outcomeOf cX7_outcomeOf 5 (some .int) d sw_ei [sw_vr G 23, .int a, .int b, .int c] S (RR 1 a b c e S))
def fG_4 (N : Nat) : Nat → Nat → Int32 → Int32 → Int32 → Int32 → sw_St → Option (Int32 × sw_St)
  | 0 => fun _ _ _ _ _ _ => none
  | n + 1 => fun t a b c e S => match t with
    | 0 => gX7_outcome N (fG_4 N n) a b S
    | _ => gX7_outcomeOf N (fG_4 N n) a b c S
theorem ogX7_outcome {G : sw_G} {N d : Nat} (hd : 4 ≤ d) {RR : Nat → Int32 → Int32 → Int32 → Int32 → sw_St → Option (Int32 × sw_St)} (hR : kG_4 G (d - 1) RR) {p1 : Int32} {p2 : Int32} {S : sw_St} : sw_Ev G yX7_outcome cX7_outcome 10 (some .int) d sw_ei [sw_vr G 23, .int p1, .int p2] S (gX7_outcome N RR p1 p2 S) := by
  refine sw_Ev_of (own := RX7) (lv0 := [some (sw_vr G 23), some (.int p1), some (.int p2), none, none, none, none, none, none, none]) (by decide) rfl (Nat.le_of_ble_eq_true rfl) rfl ?_
  unfold gX7_outcome
  refine sw_ald_10_0 (np := 1) dX7_outcome_0 rfl ?_
  refine sw_gR (np := 4) sw_f_RX7_36 sw_k_23 sw_r_23_9 dX7_outcome_1 rfl ?_
  refine sw_ild_10_1 (np := 5) dX7_outcome_4 rfl ?_
  refine sw_aldN (np := 6) dX7_outcome_5 rfl (fun hq1 => ?_)
  refine sw_ast_10_3 (np := 7) dX7_outcome_6 rfl rfl ?_
  refine sw_ild_10_1 (np := 8) dX7_outcome_7 rfl ?_
  refine sw_ild_10_2 (np := 9) dX7_outcome_8 rfl ?_
  refine sw_icmp_lt (np := 12) (tp := 17) dX7_outcome_9 rfl rfl ?_ ?_
  · refine sw_ild_10_1 (np := 18) dX7_outcome_17 rfl ?_
    refine sw_iconst (np := 19) dX7_outcome_18 sw_ic_2 rfl ?_
    refine sw_irem (np := 20) dX7_outcome_19 (by decide) rfl ?_
    refine sw_if_ne (np := 23) (tp := 27) dX7_outcome_20 rfl rfl ?_ ?_
    · refine sw_iconst (np := 28) dX7_outcome_27 sw_ic_0 rfl ?_
      refine sw_ist_10_4 (np := 30) dX7_outcome_28 rfl rfl ?_
      refine sw_ild_10_4 (np := 32) dX7_outcome_30 rfl ?_
      refine sw_jm1 (pj := 41) (fun y1 => [some (sw_vr G 23), some (.int p1), some (.int p2), some (sw_vr G (29 + 10 * p1.toNatClampNeg)), some (.int (0 : Int32)), none, none, none, none, none]) (fun y1 => [.int y1]) (fun y1 S1 => ?_) (fun k1 hk1 => ?_)
      · refine sw_ist_10_5 (np := 43) dX7_outcome_41 rfl rfl ?_
        refine sw_bipush (np := 45) dX7_outcome_43 sw_bc_12 rfl ?_
        refine sw_ist_10_6 (np := 47) dX7_outcome_45 rfl rfl ?_
        refine sw_ald_10_0 (np := 48) dX7_outcome_47 rfl ?_
        refine sw_gR (np := 51) sw_f_RX7_36 sw_k_23 sw_r_23_9 dX7_outcome_48 rfl ?_
        refine sw_ild_10_1 (np := 52) dX7_outcome_51 rfl ?_
        refine sw_iconst (np := 53) dX7_outcome_52 sw_ic_1 rfl ?_
        refine sw_iadd (np := 54) dX7_outcome_53 rfl ?_
        refine sw_aldN (np := 55) dX7_outcome_54 rfl (fun hq2 => ?_)
        refine sw_ald_10_3 (np := 56) dX7_outcome_55 rfl ?_
        refine sw_cV1v (np := 59) (hX4_becomeInMind (d := d - 1) (by omega) hq2 hq1) sw_mv_X4_becomeInMind hq2 sw_wl_RX7_168 dX7_outcome_56 (sw_fit_rm (by omega) (by decide)) (Nat.le_of_ble_eq_true rfl) rfl (fun _ S2 => ?_)
        refine sw_ald_10_0 (np := 60) dX7_outcome_59 rfl ?_
        refine sw_ild_10_1 (np := 61) dX7_outcome_60 rfl ?_
        refine sw_iconst (np := 62) dX7_outcome_61 sw_ic_1 rfl ?_
        refine sw_iadd (np := 63) dX7_outcome_62 rfl ?_
        refine sw_ild_10_2 (np := 64) dX7_outcome_63 rfl ?_
        refine sw_cV2i (np := 67) (hR.1 _ _ _ _ _) sw_mv_X7_outcome sw_k_23 sw_wl_RX7_165 dX7_outcome_64 (sw_fit_rm (by omega) (by decide)) (Nat.le_of_ble_eq_true rfl) rfl (fun r2 S3 => ?_)
        refine sw_ist_10_7 (np := 69) dX7_outcome_67 rfl rfl ?_
        refine sw_ild_10_5 (np := 71) dX7_outcome_69 rfl ?_
        refine sw_ist_10_8 (np := 73) dX7_outcome_71 rfl rfl ?_
        refine sw_lp3 (lv := fun x6_1 x7_1 x8_1 => [some (sw_vr G 23), some (.int p1), some (.int p2), some (sw_vr G (29 + 10 * p1.toNatClampNeg)), some (.int (0 : Int32)), some (.int y1), some (.int x6_1), some (.int x7_1), some (.int x8_1), none]) (fun rec1 hrec1 x6_1 x7_1 x8_1 S4 => ?_) _ _ _ _ _
        refine sw_ild_10_8 (np := 75) dX7_outcome_73 rfl ?_
        refine sw_ild_10_5 (np := 77) dX7_outcome_75 rfl ?_
        refine sw_bipush (np := 79) dX7_outcome_77 sw_bc_6 rfl ?_
        refine sw_iadd (np := 80) dX7_outcome_79 rfl ?_
        refine sw_icmp_ge (np := 83) (tp := 142) dX7_outcome_80 rfl rfl ?_ ?_
        · refine sw_ald_10_0 (np := 143) dX7_outcome_142 rfl ?_
          refine sw_ild_10_6 (np := 145) dX7_outcome_143 rfl ?_
          refine sw_pI (np := 148) sw_f_RX7_31 sw_fp_7_6 sw_k_23 dX7_outcome_145 rfl (fun S5 => ?_)
          refine sw_ild_10_7 (np := 150) dX7_outcome_148 rfl ?_
          exact sw_iret dX7_outcome_150
        · refine sw_ald_10_3 (np := 84) dX7_outcome_83 rfl ?_
          refine sw_gR (np := 87) sw_f_RX7_114 hq1 (sw_rf_4_10 hq1) dX7_outcome_84 rfl ?_
          refine sw_ild_10_8 (np := 89) dX7_outcome_87 rfl ?_
          refine sw_iald (np := 90) (sw_kd_4_10 hq1) (sw_ln_4_10 hq1) dX7_outcome_89 rfl ?_
          refine sw_if_ge (np := 93) (tp := 96) dX7_outcome_90 rfl rfl ?_ ?_
          · refine sw_ald_10_0 (np := 97) dX7_outcome_96 rfl ?_
            refine sw_ild_10_1 (np := 98) dX7_outcome_97 rfl ?_
            refine sw_ild_10_2 (np := 99) dX7_outcome_98 rfl ?_
            refine sw_ild_10_8 (np := 101) dX7_outcome_99 rfl ?_
            refine sw_cV3i (np := 104) (hR.2 _ _ _ _ _) sw_mv_X7_outcomeOf sw_k_23 sw_wl_RX7_171 dX7_outcome_101 (sw_fit_rm (by omega) (by decide)) (Nat.le_of_ble_eq_true rfl) rfl (fun r3 S6 => ?_)
            refine sw_ist_10_9 (np := 106) dX7_outcome_104 rfl rfl ?_
            refine sw_ild_10_4 (np := 108) dX7_outcome_106 rfl ?_
            refine sw_if_eq (np := 111) (tp := 121) dX7_outcome_108 rfl rfl ?_ ?_
            · refine sw_ild_10_9 (np := 123) dX7_outcome_121 rfl ?_
              refine sw_ild_10_7 (np := 125) dX7_outcome_123 rfl ?_
              refine sw_icmp_le (np := 128) (tp := 136) dX7_outcome_125 rfl rfl ?_ ?_
              · refine sw_inc_10_8 (np := 139) dX7_outcome_136 sw_ic_1 rfl rfl ?_
                refine sw_goto (tp := 73) dX7_outcome_139 rfl ?_
                refine sw_dr_10_9 ?_
                exact hrec1 _ _ _ _
              · refine sw_ild_10_9 (np := 130) dX7_outcome_128 rfl ?_
                refine sw_ist_10_7 (np := 132) dX7_outcome_130 rfl rfl ?_
                refine sw_ild_10_8 (np := 134) dX7_outcome_132 rfl ?_
                refine sw_ist_10_6 (np := 136) dX7_outcome_134 rfl rfl ?_
                refine sw_inc_10_8 (np := 139) dX7_outcome_136 sw_ic_1 rfl rfl ?_
                refine sw_goto (tp := 73) dX7_outcome_139 rfl ?_
                refine sw_dr_10_9 ?_
                exact hrec1 _ _ _ _
            · refine sw_ild_10_9 (np := 113) dX7_outcome_111 rfl ?_
              refine sw_ild_10_7 (np := 115) dX7_outcome_113 rfl ?_
              refine sw_icmp_ge (np := 118) (tp := 136) dX7_outcome_115 rfl rfl ?_ ?_
              · refine sw_inc_10_8 (np := 139) dX7_outcome_136 sw_ic_1 rfl rfl ?_
                refine sw_goto (tp := 73) dX7_outcome_139 rfl ?_
                refine sw_dr_10_9 ?_
                exact hrec1 _ _ _ _
              · refine sw_goto (tp := 128) dX7_outcome_118 rfl ?_
                refine sw_ild_10_9 (np := 130) dX7_outcome_128 rfl ?_
                refine sw_ist_10_7 (np := 132) dX7_outcome_130 rfl rfl ?_
                refine sw_ild_10_8 (np := 134) dX7_outcome_132 rfl ?_
                refine sw_ist_10_6 (np := 136) dX7_outcome_134 rfl rfl ?_
                refine sw_inc_10_8 (np := 139) dX7_outcome_136 sw_ic_1 rfl rfl ?_
                refine sw_goto (tp := 73) dX7_outcome_139 rfl ?_
                refine sw_dr_10_9 ?_
                exact hrec1 _ _ _ _
          · refine sw_goto (tp := 136) dX7_outcome_93 rfl ?_
            refine sw_inc_10_8 (np := 139) dX7_outcome_136 sw_ic_1 rfl rfl ?_
            refine sw_goto (tp := 73) dX7_outcome_139 rfl ?_
            exact hrec1 _ _ _ _
      · refine sw_if_eq (np := 35) (tp := 39) dX7_outcome_32 rfl rfl ?_ ?_
        · refine sw_bipush (np := 41) dX7_outcome_39 sw_bc_6 rfl ?_
          exact hk1 _ _
        · refine sw_iconst (np := 36) dX7_outcome_35 sw_ic_0 rfl ?_
          refine sw_goto (tp := 41) dX7_outcome_36 rfl ?_
          exact hk1 _ _
    · refine sw_iconst (np := 24) dX7_outcome_23 sw_ic_1 rfl ?_
      refine sw_goto (tp := 28) dX7_outcome_24 rfl ?_
      refine sw_ist_10_4 (np := 30) dX7_outcome_28 rfl rfl ?_
      refine sw_ild_10_4 (np := 32) dX7_outcome_30 rfl ?_
      refine sw_jm1 (pj := 41) (fun y2 => [some (sw_vr G 23), some (.int p1), some (.int p2), some (sw_vr G (29 + 10 * p1.toNatClampNeg)), some (.int (1 : Int32)), none, none, none, none, none]) (fun y2 => [.int y2]) (fun y2 S7 => ?_) (fun k2 hk2 => ?_)
      · refine sw_ist_10_5 (np := 43) dX7_outcome_41 rfl rfl ?_
        refine sw_bipush (np := 45) dX7_outcome_43 sw_bc_12 rfl ?_
        refine sw_ist_10_6 (np := 47) dX7_outcome_45 rfl rfl ?_
        refine sw_ald_10_0 (np := 48) dX7_outcome_47 rfl ?_
        refine sw_gR (np := 51) sw_f_RX7_36 sw_k_23 sw_r_23_9 dX7_outcome_48 rfl ?_
        refine sw_ild_10_1 (np := 52) dX7_outcome_51 rfl ?_
        refine sw_iconst (np := 53) dX7_outcome_52 sw_ic_1 rfl ?_
        refine sw_iadd (np := 54) dX7_outcome_53 rfl ?_
        refine sw_aldN (np := 55) dX7_outcome_54 rfl (fun hq3 => ?_)
        refine sw_ald_10_3 (np := 56) dX7_outcome_55 rfl ?_
        refine sw_cV1v (np := 59) (hX4_becomeInMind (d := d - 1) (by omega) hq3 hq1) sw_mv_X4_becomeInMind hq3 sw_wl_RX7_168 dX7_outcome_56 (sw_fit_rm (by omega) (by decide)) (Nat.le_of_ble_eq_true rfl) rfl (fun _ S8 => ?_)
        refine sw_ald_10_0 (np := 60) dX7_outcome_59 rfl ?_
        refine sw_ild_10_1 (np := 61) dX7_outcome_60 rfl ?_
        refine sw_iconst (np := 62) dX7_outcome_61 sw_ic_1 rfl ?_
        refine sw_iadd (np := 63) dX7_outcome_62 rfl ?_
        refine sw_ild_10_2 (np := 64) dX7_outcome_63 rfl ?_
        refine sw_cV2i (np := 67) (hR.1 _ _ _ _ _) sw_mv_X7_outcome sw_k_23 sw_wl_RX7_165 dX7_outcome_64 (sw_fit_rm (by omega) (by decide)) (Nat.le_of_ble_eq_true rfl) rfl (fun r5 S9 => ?_)
        refine sw_ist_10_7 (np := 69) dX7_outcome_67 rfl rfl ?_
        refine sw_ild_10_5 (np := 71) dX7_outcome_69 rfl ?_
        refine sw_ist_10_8 (np := 73) dX7_outcome_71 rfl rfl ?_
        refine sw_lp3 (lv := fun x6_2 x7_2 x8_2 => [some (sw_vr G 23), some (.int p1), some (.int p2), some (sw_vr G (29 + 10 * p1.toNatClampNeg)), some (.int (1 : Int32)), some (.int y2), some (.int x6_2), some (.int x7_2), some (.int x8_2), none]) (fun rec2 hrec2 x6_2 x7_2 x8_2 S10 => ?_) _ _ _ _ _
        refine sw_ild_10_8 (np := 75) dX7_outcome_73 rfl ?_
        refine sw_ild_10_5 (np := 77) dX7_outcome_75 rfl ?_
        refine sw_bipush (np := 79) dX7_outcome_77 sw_bc_6 rfl ?_
        refine sw_iadd (np := 80) dX7_outcome_79 rfl ?_
        refine sw_icmp_ge (np := 83) (tp := 142) dX7_outcome_80 rfl rfl ?_ ?_
        · refine sw_ald_10_0 (np := 143) dX7_outcome_142 rfl ?_
          refine sw_ild_10_6 (np := 145) dX7_outcome_143 rfl ?_
          refine sw_pI (np := 148) sw_f_RX7_31 sw_fp_7_6 sw_k_23 dX7_outcome_145 rfl (fun S11 => ?_)
          refine sw_ild_10_7 (np := 150) dX7_outcome_148 rfl ?_
          exact sw_iret dX7_outcome_150
        · refine sw_ald_10_3 (np := 84) dX7_outcome_83 rfl ?_
          refine sw_gR (np := 87) sw_f_RX7_114 hq1 (sw_rf_4_10 hq1) dX7_outcome_84 rfl ?_
          refine sw_ild_10_8 (np := 89) dX7_outcome_87 rfl ?_
          refine sw_iald (np := 90) (sw_kd_4_10 hq1) (sw_ln_4_10 hq1) dX7_outcome_89 rfl ?_
          refine sw_if_ge (np := 93) (tp := 96) dX7_outcome_90 rfl rfl ?_ ?_
          · refine sw_ald_10_0 (np := 97) dX7_outcome_96 rfl ?_
            refine sw_ild_10_1 (np := 98) dX7_outcome_97 rfl ?_
            refine sw_ild_10_2 (np := 99) dX7_outcome_98 rfl ?_
            refine sw_ild_10_8 (np := 101) dX7_outcome_99 rfl ?_
            refine sw_cV3i (np := 104) (hR.2 _ _ _ _ _) sw_mv_X7_outcomeOf sw_k_23 sw_wl_RX7_171 dX7_outcome_101 (sw_fit_rm (by omega) (by decide)) (Nat.le_of_ble_eq_true rfl) rfl (fun r6 S12 => ?_)
            refine sw_ist_10_9 (np := 106) dX7_outcome_104 rfl rfl ?_
            refine sw_ild_10_4 (np := 108) dX7_outcome_106 rfl ?_
            refine sw_if_eq (np := 111) (tp := 121) dX7_outcome_108 rfl rfl ?_ ?_
            · refine sw_ild_10_9 (np := 123) dX7_outcome_121 rfl ?_
              refine sw_ild_10_7 (np := 125) dX7_outcome_123 rfl ?_
              refine sw_icmp_le (np := 128) (tp := 136) dX7_outcome_125 rfl rfl ?_ ?_
              · refine sw_inc_10_8 (np := 139) dX7_outcome_136 sw_ic_1 rfl rfl ?_
                refine sw_goto (tp := 73) dX7_outcome_139 rfl ?_
                refine sw_dr_10_9 ?_
                exact hrec2 _ _ _ _
              · refine sw_ild_10_9 (np := 130) dX7_outcome_128 rfl ?_
                refine sw_ist_10_7 (np := 132) dX7_outcome_130 rfl rfl ?_
                refine sw_ild_10_8 (np := 134) dX7_outcome_132 rfl ?_
                refine sw_ist_10_6 (np := 136) dX7_outcome_134 rfl rfl ?_
                refine sw_inc_10_8 (np := 139) dX7_outcome_136 sw_ic_1 rfl rfl ?_
                refine sw_goto (tp := 73) dX7_outcome_139 rfl ?_
                refine sw_dr_10_9 ?_
                exact hrec2 _ _ _ _
            · refine sw_ild_10_9 (np := 113) dX7_outcome_111 rfl ?_
              refine sw_ild_10_7 (np := 115) dX7_outcome_113 rfl ?_
              refine sw_icmp_ge (np := 118) (tp := 136) dX7_outcome_115 rfl rfl ?_ ?_
              · refine sw_inc_10_8 (np := 139) dX7_outcome_136 sw_ic_1 rfl rfl ?_
                refine sw_goto (tp := 73) dX7_outcome_139 rfl ?_
                refine sw_dr_10_9 ?_
                exact hrec2 _ _ _ _
              · refine sw_goto (tp := 128) dX7_outcome_118 rfl ?_
                refine sw_ild_10_9 (np := 130) dX7_outcome_128 rfl ?_
                refine sw_ist_10_7 (np := 132) dX7_outcome_130 rfl rfl ?_
                refine sw_ild_10_8 (np := 134) dX7_outcome_132 rfl ?_
                refine sw_ist_10_6 (np := 136) dX7_outcome_134 rfl rfl ?_
                refine sw_inc_10_8 (np := 139) dX7_outcome_136 sw_ic_1 rfl rfl ?_
                refine sw_goto (tp := 73) dX7_outcome_139 rfl ?_
                refine sw_dr_10_9 ?_
                exact hrec2 _ _ _ _
          · refine sw_goto (tp := 136) dX7_outcome_93 rfl ?_
            refine sw_inc_10_8 (np := 139) dX7_outcome_136 sw_ic_1 rfl rfl ?_
            refine sw_goto (tp := 73) dX7_outcome_139 rfl ?_
            exact hrec2 _ _ _ _
      · refine sw_if_eq (np := 35) (tp := 39) dX7_outcome_32 rfl rfl ?_ ?_
        · refine sw_bipush (np := 41) dX7_outcome_39 sw_bc_6 rfl ?_
          exact hk2 _ _
        · refine sw_iconst (np := 36) dX7_outcome_35 sw_ic_0 rfl ?_
          refine sw_goto (tp := 41) dX7_outcome_36 rfl ?_
          exact hk2 _ _
  · refine sw_ald_10_3 (np := 13) dX7_outcome_12 rfl ?_
    refine sw_cV0i (np := 16) (hX4_howManyAwake (d := d - 1) (by omega) hq1) sw_mv_X4_howManyAwake hq1 sw_wl_RX7_121 dX7_outcome_13 (sw_fit_rm (by omega) (by decide)) (Nat.le_of_ble_eq_true rfl) rfl (fun r7 S13 => ?_)
    exact sw_iret dX7_outcome_16
theorem ogX7_outcomeOf {G : sw_G} {N d : Nat} (hd : 4 ≤ d) {RR : Nat → Int32 → Int32 → Int32 → Int32 → sw_St → Option (Int32 × sw_St)} (hR : kG_4 G (d - 1) RR) {p1 : Int32} {p2 : Int32} {p3 : Int32} {S : sw_St} : sw_Ev G yX7_outcomeOf cX7_outcomeOf 5 (some .int) d sw_ei [sw_vr G 23, .int p1, .int p2, .int p3] S (gX7_outcomeOf N RR p1 p2 p3 S) := by
  refine sw_Ev_of (own := RX7) (lv0 := [some (sw_vr G 23), some (.int p1), some (.int p2), some (.int p3), none]) (by decide) rfl (Nat.le_of_ble_eq_true rfl) rfl ?_
  unfold gX7_outcomeOf
  refine sw_ald_5_0 (np := 1) dX7_outcomeOf_0 rfl ?_
  refine sw_gR (np := 4) sw_f_RX7_36 sw_k_23 sw_r_23_9 dX7_outcomeOf_1 rfl ?_
  refine sw_ild_5_1 (np := 5) dX7_outcomeOf_4 rfl ?_
  refine sw_iconst (np := 6) dX7_outcomeOf_5 sw_ic_1 rfl ?_
  refine sw_iadd (np := 7) dX7_outcomeOf_6 rfl ?_
  refine sw_aldN (np := 8) dX7_outcomeOf_7 rfl (fun hq1 => ?_)
  refine sw_ast_5_4 (np := 10) dX7_outcomeOf_8 rfl rfl ?_
  refine sw_ald_5_4 (np := 12) dX7_outcomeOf_10 rfl ?_
  refine sw_ald_5_0 (np := 13) dX7_outcomeOf_12 rfl ?_
  refine sw_gR (np := 16) sw_f_RX7_36 sw_k_23 sw_r_23_9 dX7_outcomeOf_13 rfl ?_
  refine sw_ild_5_1 (np := 17) dX7_outcomeOf_16 rfl ?_
  refine sw_aldN (np := 18) dX7_outcomeOf_17 rfl (fun hq2 => ?_)
  refine sw_cV1v (np := 21) (hX4_becomeInMind (d := d - 1) (by omega) hq1 hq2) sw_mv_X4_becomeInMind hq1 sw_wl_RX7_168 dX7_outcomeOf_18 (sw_fit_rm (by omega) (by decide)) (Nat.le_of_ble_eq_true rfl) rfl (fun _ S1 => ?_)
  refine sw_ild_5_1 (np := 22) dX7_outcomeOf_21 rfl ?_
  refine sw_iconst (np := 23) dX7_outcomeOf_22 sw_ic_2 rfl ?_
  refine sw_irem (np := 24) dX7_outcomeOf_23 (by decide) rfl ?_
  refine sw_if_ne (np := 27) (tp := 37) dX7_outcomeOf_24 rfl rfl ?_ ?_
  · refine sw_ald_5_4 (np := 39) dX7_outcomeOf_37 rfl ?_
    refine sw_ild_5_3 (np := 40) dX7_outcomeOf_39 rfl ?_
    refine sw_cV1i (np := 43) (hX4_touchFrom (d := d - 1) (by omega) hq1) sw_mv_X4_touchFrom hq1 sw_wl_RX7_177 dX7_outcomeOf_40 (sw_fit_rm (by omega) (by decide)) (Nat.le_of_ble_eq_true rfl) rfl (fun r2 S2 => ?_)
    refine sw_pop (np := 44) dX7_outcomeOf_43 rfl rfl ?_
    refine sw_ald_5_0 (np := 45) dX7_outcomeOf_44 rfl ?_
    refine sw_ild_5_1 (np := 46) dX7_outcomeOf_45 rfl ?_
    refine sw_iconst (np := 47) dX7_outcomeOf_46 sw_ic_1 rfl ?_
    refine sw_iadd (np := 48) dX7_outcomeOf_47 rfl ?_
    refine sw_ild_5_2 (np := 49) dX7_outcomeOf_48 rfl ?_
    refine sw_cV2i (np := 52) (hR.1 _ _ _ _ _) sw_mv_X7_outcome sw_k_23 sw_wl_RX7_165 dX7_outcomeOf_49 (sw_fit_rm (by omega) (by decide)) (Nat.le_of_ble_eq_true rfl) rfl (fun r3 S3 => ?_)
    exact sw_iret dX7_outcomeOf_52
  · refine sw_ald_5_4 (np := 29) dX7_outcomeOf_27 rfl ?_
    refine sw_ild_5_3 (np := 30) dX7_outcomeOf_29 rfl ?_
    refine sw_iconst (np := 31) dX7_outcomeOf_30 sw_ic_4 rfl ?_
    refine sw_cV2v (np := 34) (hX4_tellAt (d := d - 1) (by omega) hq1) sw_mv_X4_tellAt hq1 sw_wl_RX7_174 dX7_outcomeOf_31 (sw_fit_rm (by omega) (by decide)) (Nat.le_of_ble_eq_true rfl) rfl (fun _ S4 => ?_)
    refine sw_goto (tp := 44) dX7_outcomeOf_34 rfl ?_
    refine sw_ald_5_0 (np := 45) dX7_outcomeOf_44 rfl ?_
    refine sw_ild_5_1 (np := 46) dX7_outcomeOf_45 rfl ?_
    refine sw_iconst (np := 47) dX7_outcomeOf_46 sw_ic_1 rfl ?_
    refine sw_iadd (np := 48) dX7_outcomeOf_47 rfl ?_
    refine sw_ild_5_2 (np := 49) dX7_outcomeOf_48 rfl ?_
    refine sw_cV2i (np := 52) (hR.1 _ _ _ _ _) sw_mv_X7_outcome sw_k_23 sw_wl_RX7_165 dX7_outcomeOf_49 (sw_fit_rm (by omega) (by decide)) (Nat.le_of_ble_eq_true rfl) rfl (fun r5 S5 => ?_)
    exact sw_iret dX7_outcomeOf_52
theorem hG_4 {G : sw_G} {N : Nat} : ∀ n d, 4 + n ≤ d → kG_4 G d (fG_4 N n) := by
  intro n
  induction n with
  | zero => intro d _; exact ⟨(fun _ _ _ _ _ _ h => by cases h), (fun _ _ _ _ _ _ h => by cases h)⟩
  | succ n ih => intro d hd; exact ⟨(fun _ _ _ _ _ => ogX7_outcome (N := N) (by omega) (ih (d - 1) (by omega))), (fun _ _ _ _ _ => ogX7_outcomeOf (N := N) (by omega) (ih (d - 1) (by omega)))⟩
def fX7_outcome (N : Nat) (p1 : Int32) (p2 : Int32) (S : sw_St) : Option (Int32 × sw_St) := fG_4 N 100 0 p1 p2 0 0 S
theorem hX7_outcome {G : sw_G} {N d : Nat} (hd : 104 ≤ d) {p1 : Int32} {p2 : Int32} {S : sw_St} : sw_Ev G yX7_outcome cX7_outcome 10 (some .int) d sw_ei [sw_vr G 23, .int p1, .int p2] S (fX7_outcome N p1 p2 S) := (hG_4 (G := G) (N := N) 100 d hd).1 _ _ _ _ _
def fX7_outcomeOf (N : Nat) (p1 : Int32) (p2 : Int32) (p3 : Int32) (S : sw_St) : Option (Int32 × sw_St) := fG_4 N 100 1 p1 p2 p3 0 S
theorem hX7_outcomeOf {G : sw_G} {N d : Nat} (hd : 104 ≤ d) {p1 : Int32} {p2 : Int32} {p3 : Int32} {S : sw_St} : sw_Ev G yX7_outcomeOf cX7_outcomeOf 5 (some .int) d sw_ei [sw_vr G 23, .int p1, .int p2, .int p3] S (fX7_outcomeOf N p1 p2 p3 S) := (hG_4 (G := G) (N := N) 100 d hd).2 _ _ _ _ _
/-- SwordAttic$Thought.playTurns(I)I -/
def fX7_playTurns (N : Nat) (p1 : Int32) (S : sw_St) : Option (Int32 × sw_St) :=
  sw_fx1 (fun rec1 x2_1 S1 => (if x2_1 > p1 then (sw_bd (fX7_outcome N (0 : Int32) p1 S1) (fun r1 S2 => (some (r1, S2)))) else (sw_gd (sw_in x2_1 5) (sw_bd (fX4_become N (29 + 10 * x2_1.toNatClampNeg) 1 S1) (fun _ S3 => (rec1 (x2_1 + (1 : Int32)) S3)))))) N (0 : Int32) S
theorem hX7_playTurns {G : sw_G} {N d : Nat} (hd : 105 ≤ d) {p1 : Int32}  {S : sw_St} : sw_Ev G yX7_playTurns cX7_playTurns 3 (some .int) d sw_ei [sw_vr G 23, .int p1] S (fX7_playTurns N p1 S) := by
  refine sw_Ev_of (own := RX7) (lv0 := [some (sw_vr G 23), some (.int p1), none]) (by decide) rfl (Nat.le_of_ble_eq_true rfl) rfl ?_
  unfold fX7_playTurns
  refine sw_iconst (np := 1) dX7_playTurns_0 sw_ic_0 rfl ?_
  refine sw_ist_3_2 (np := 2) dX7_playTurns_1 rfl rfl ?_
  refine sw_lp1 (lv := fun x2_1 => [some (sw_vr G 23), some (.int p1), some (.int x2_1)]) (fun rec1 hrec1 x2_1 S1 => ?_) _ _ _
  refine sw_ild_3_2 (np := 3) dX7_playTurns_2 rfl ?_
  refine sw_ild_3_1 (np := 4) dX7_playTurns_3 rfl ?_
  refine sw_icmp_gt (np := 7) (tp := 26) dX7_playTurns_4 rfl rfl ?_ ?_
  · refine sw_ald_3_0 (np := 27) dX7_playTurns_26 rfl ?_
    refine sw_iconst (np := 28) dX7_playTurns_27 sw_ic_0 rfl ?_
    refine sw_ild_3_1 (np := 29) dX7_playTurns_28 rfl ?_
    refine sw_cV2i (np := 32) (hX7_outcome (d := d - 1) (by omega) ) sw_mv_X7_outcome sw_k_23 sw_wl_RX7_165 dX7_playTurns_29 (sw_fit_rm (by omega) (by decide)) (Nat.le_of_ble_eq_true rfl) rfl (fun r1 S2 => ?_)
    exact sw_iret dX7_playTurns_32
  · refine sw_ald_3_0 (np := 8) dX7_playTurns_7 rfl ?_
    refine sw_gR (np := 11) sw_f_RX7_36 sw_k_23 sw_r_23_9 dX7_playTurns_8 rfl ?_
    refine sw_ild_3_2 (np := 12) dX7_playTurns_11 rfl ?_
    refine sw_aldN (np := 13) dX7_playTurns_12 rfl (fun hq1 => ?_)
    refine sw_ald_3_0 (np := 14) dX7_playTurns_13 rfl ?_
    refine sw_gR (np := 17) sw_f_RX7_49 sw_k_23 sw_r_23_7 dX7_playTurns_14 rfl ?_
    refine sw_cV1v (np := 20) (hX4_become (d := d - 1) (by omega) hq1 sw_k_1) sw_mv_X4_become hq1 sw_wl_RX7_58 dX7_playTurns_17 (sw_fit_rm (by omega) (by decide)) (Nat.le_of_ble_eq_true rfl) rfl (fun _ S3 => ?_)
    refine sw_inc_3_2 (np := 23) dX7_playTurns_20 sw_ic_1 rfl rfl ?_
    refine sw_goto (tp := 2) dX7_playTurns_23 rfl ?_
    exact hrec1 _ _
