/-! constructors -/
set_option maxRecDepth 100000 in
set_option maxHeartbeats 4000000 in
theorem hc_X7 {G : sw_G} {f0 : Nat → va_E} (h0 : f0 23 = .inr (7, [.int 0, .int 0, .null, .int 0, .int 0, .int 0, .int 0, .null, .null, .null, .null, .null, .null])) : sc_Ev G yX7_init cX7_init 4 2 55 941 [sw_vr G 23, sw_vr G 1, sw_vr G 11] 24 f0 79 (sc_t G 23 f0) := by
  refine sc_Ev_of (own := RX7) (lv0 := [some (sw_vr G 23), some (sw_vr G 1), some (sw_vr G 11), none]) (by decide) rfl rfl (Nat.le_of_ble_eq_true rfl) rfl ?_
  refine sc_cg (f' := sc_g G 23 f0 (.inr (7, [.int 0, .int 0, .null, .int 0, .int 0, .int 0, .int 0, .null, .null, .null, .null, .null, .null]))) (sc_ent h0) ?_
  refine sc_aload_n (np := 1) dX7_init_0 rfl rfl rfl ?_
  refine sc_oi (np := 4) sx_m_RX7_3 sx_ow (Nat.le_of_ble_eq_true rfl) (Nat.le_of_ble_eq_true rfl) dX7_init_1 rfl ?_
  refine sc_aload_n (np := 5) dX7_init_4 rfl rfl rfl ?_
  refine sc_iconst (np := 6) (v := (0 : Int32)) dX7_init_5 (by decide) rfl ?_
  refine sc_put (k := 0) (np := 9) (fs' := [.int (0 : Int32), .int 0, .null, .int 0, .int 0, .int 0, .int 0, .null, .null, .null, .null, .null, .null]) (f' := sc_g G 23 f0 (.inr (7, [.int (0 : Int32), .int 0, .null, .int 0, .int 0, .int 0, .int 0, .null, .null, .null, .null, .null, .null]))) sw_kc_7 tyX7_ok nmX7 (by omega) sc_g_at rfl (by decide) rfl sx_f_RX7_9 rfl rfl rfl dX7_init_6 rfl rfl sc_g_up ?_
  refine sc_aload_n (np := 10) dX7_init_9 rfl rfl rfl ?_
  refine sc_iconst (np := 11) (v := (0 : Int32)) dX7_init_10 (by decide) rfl ?_
  refine sc_put (k := 1) (np := 14) (fs' := [.int (0 : Int32), .int (0 : Int32), .null, .int 0, .int 0, .int 0, .int 0, .null, .null, .null, .null, .null, .null]) (f' := sc_g G 23 f0 (.inr (7, [.int (0 : Int32), .int (0 : Int32), .null, .int 0, .int 0, .int 0, .int 0, .null, .null, .null, .null, .null, .null]))) sw_kc_7 tyX7_ok nmX7 (by omega) sc_g_at rfl (by decide) rfl sx_f_RX7_15 rfl rfl rfl dX7_init_11 rfl rfl sc_g_up ?_
  refine sc_aload_n (np := 15) dX7_init_14 rfl rfl rfl ?_
  refine sc_iconst (np := 16) (v := (3 : Int32)) dX7_init_15 (by decide) rfl ?_
  refine sc_newI (N := 3) (np := 18) (n1 := 25) (ce1 := 1) (sl1 := 3) (f' := sc_g G 23 f0 (.inr (7, [.int (0 : Int32), .int (0 : Int32), .null, .int 0, .int 0, .int 0, .int 0, .null, .null, .null, .null, .null, .null]))) sx_aI (by decide) (by decide) (Nat.le_of_ble_eq_true rfl) (Nat.le_of_ble_eq_true rfl) (Nat.le_of_ble_eq_true rfl) dX7_init_16 rfl rfl rfl rfl (sc_g_new (by omega) (sc_ai (by decide +kernel) (by decide +kernel) (by decide +kernel))) ?_
  refine sc_putF (k := 2) (np := 21) (fs' := [.int (0 : Int32), .int (0 : Int32), sw_vr G 24, .int 0, .int 0, .int 0, .int 0, .null, .null, .null, .null, .null, .null]) (f' := sc_g G 23 f0 (.inr (7, [.int (0 : Int32), .int (0 : Int32), sw_vr G 24, .int 0, .int 0, .int 0, .int 0, .null, .null, .null, .null, .null, .null]))) sw_kc_7 tyX7_ok nmX7 (by omega) sc_g_at rfl (by decide) rfl sx_f_RX7_18 rfl (by decide) rfl rfl dX7_init_18 rfl rfl sc_g_up ?_
  refine sc_aload_n (np := 22) dX7_init_21 rfl rfl rfl ?_
  refine sc_iconst (np := 23) (v := (0 : Int32)) dX7_init_22 (by decide) rfl ?_
  refine sc_put (k := 3) (np := 26) (fs' := [.int (0 : Int32), .int (0 : Int32), sw_vr G 24, .int (0 : Int32), .int 0, .int 0, .int 0, .null, .null, .null, .null, .null, .null]) (f' := sc_g G 23 f0 (.inr (7, [.int (0 : Int32), .int (0 : Int32), sw_vr G 24, .int (0 : Int32), .int 0, .int 0, .int 0, .null, .null, .null, .null, .null, .null]))) sw_kc_7 tyX7_ok nmX7 (by omega) sc_g_at rfl (by decide) rfl sx_f_RX7_22 rfl rfl rfl dX7_init_23 rfl rfl sc_g_up ?_
  refine sc_aload_n (np := 27) dX7_init_26 rfl rfl rfl ?_
  refine sc_iconst (np := 28) (v := (0 : Int32)) dX7_init_27 (by decide) rfl ?_
  refine sc_put (k := 4) (np := 31) (fs' := [.int (0 : Int32), .int (0 : Int32), sw_vr G 24, .int (0 : Int32), .int (0 : Int32), .int 0, .int 0, .null, .null, .null, .null, .null, .null]) (f' := sc_g G 23 f0 (.inr (7, [.int (0 : Int32), .int (0 : Int32), sw_vr G 24, .int (0 : Int32), .int (0 : Int32), .int 0, .int 0, .null, .null, .null, .null, .null, .null]))) sw_kc_7 tyX7_ok nmX7 (by omega) sc_g_at rfl (by decide) rfl sx_f_RX7_25 rfl rfl rfl dX7_init_28 rfl rfl sc_g_up ?_
  refine sc_aload_n (np := 32) dX7_init_31 rfl rfl rfl ?_
  refine sc_iconst (np := 33) (v := (0 : Int32)) dX7_init_32 (by decide) rfl ?_
  refine sc_put (k := 5) (np := 36) (fs' := [.int (0 : Int32), .int (0 : Int32), sw_vr G 24, .int (0 : Int32), .int (0 : Int32), .int (0 : Int32), .int 0, .null, .null, .null, .null, .null, .null]) (f' := sc_g G 23 f0 (.inr (7, [.int (0 : Int32), .int (0 : Int32), sw_vr G 24, .int (0 : Int32), .int (0 : Int32), .int (0 : Int32), .int 0, .null, .null, .null, .null, .null, .null]))) sw_kc_7 tyX7_ok nmX7 (by omega) sc_g_at rfl (by decide) rfl sx_f_RX7_28 rfl rfl rfl dX7_init_33 rfl rfl sc_g_up ?_
  refine sc_aload_n (np := 37) dX7_init_36 rfl rfl rfl ?_
  refine sc_iconst (np := 38) (v := (0 : Int32)) dX7_init_37 (by decide) rfl ?_
  refine sc_put (k := 6) (np := 41) (fs' := [.int (0 : Int32), .int (0 : Int32), sw_vr G 24, .int (0 : Int32), .int (0 : Int32), .int (0 : Int32), .int (0 : Int32), .null, .null, .null, .null, .null, .null]) (f' := sc_g G 23 f0 (.inr (7, [.int (0 : Int32), .int (0 : Int32), sw_vr G 24, .int (0 : Int32), .int (0 : Int32), .int (0 : Int32), .int (0 : Int32), .null, .null, .null, .null, .null, .null]))) sw_kc_7 tyX7_ok nmX7 (by omega) sc_g_at rfl (by decide) rfl sx_f_RX7_31 rfl rfl rfl dX7_init_38 rfl rfl sc_g_up ?_
  refine sc_aload_n (np := 42) dX7_init_41 rfl rfl rfl ?_
  refine sc_iconst (np := 43) (v := (5 : Int32)) dX7_init_42 (by decide) rfl ?_
  refine sc_newQ (C := RX4) (N := 5) (t0 := 2) (np := 46) (n1 := 26) (ce1 := 2) (sl1 := 8) (f' := sc_f G 23 f0 (.inr (7, [.int (0 : Int32), .int (0 : Int32), sw_vr G 24, .int (0 : Int32), .int (0 : Int32), .int (0 : Int32), .int (0 : Int32), .null, .null, .null, .null, .null, .null])) 25 (.inl (sw_cN G, 5, .inr (.inr (.inr (.inr (sc_gq G 29 10 0))))))) sx_c_RX7_34 (fun _ z => z.2.1) rfl (by decide) (by decide) (Nat.le_of_ble_eq_true rfl) (Nat.le_of_ble_eq_true rfl) (Nat.le_of_ble_eq_true rfl) dX7_init_43 rfl rfl rfl rfl ((sc_g_newb (by omega)).trans (by rw [sc_gq_0])) ?_
  refine sc_putF (k := 9) (np := 49) (fs' := [.int (0 : Int32), .int (0 : Int32), sw_vr G 24, .int (0 : Int32), .int (0 : Int32), .int (0 : Int32), .int (0 : Int32), .null, .null, sw_vr G 25, .null, .null, .null]) (f' := sc_f G 23 f0 (.inr (7, [.int (0 : Int32), .int (0 : Int32), sw_vr G 24, .int (0 : Int32), .int (0 : Int32), .int (0 : Int32), .int (0 : Int32), .null, .null, sw_vr G 25, .null, .null, .null])) 25 (.inl (sw_cN G, 5, .inr (.inr (.inr (.inr (sc_gq G 29 10 0))))))) sw_kc_7 tyX7_ok nmX7 (by omega) sc_f_at rfl (by decide) rfl sx_f_RX7_36 rfl (by decide) rfl rfl dX7_init_46 rfl rfl sc_f_up ?_
  refine sc_aload_n (np := 50) dX7_init_49 rfl rfl rfl ?_
  refine sc_iconst (np := 51) (v := (3 : Int32)) dX7_init_50 (by decide) rfl ?_
  refine sc_newI (N := 3) (np := 53) (n1 := 27) (ce1 := 3) (sl1 := 11) (f' := sc_f G 23 f0 (.inr (7, [.int (0 : Int32), .int (0 : Int32), sw_vr G 24, .int (0 : Int32), .int (0 : Int32), .int (0 : Int32), .int (0 : Int32), .null, .null, sw_vr G 25, .null, .null, .null])) 25 (.inl (sw_cN G, 5, .inr (.inr (.inr (.inr (sc_gq G 29 10 0))))))) sx_aI (by decide) (by decide) (Nat.le_of_ble_eq_true rfl) (Nat.le_of_ble_eq_true rfl) (Nat.le_of_ble_eq_true rfl) dX7_init_51 rfl rfl rfl rfl (sc_f_new (by omega) (by omega) (sc_ai (by decide +kernel) (by decide +kernel) (by decide +kernel))) ?_
  refine sc_putF (k := 10) (np := 56) (fs' := [.int (0 : Int32), .int (0 : Int32), sw_vr G 24, .int (0 : Int32), .int (0 : Int32), .int (0 : Int32), .int (0 : Int32), .null, .null, sw_vr G 25, sw_vr G 26, .null, .null]) (f' := sc_f G 23 f0 (.inr (7, [.int (0 : Int32), .int (0 : Int32), sw_vr G 24, .int (0 : Int32), .int (0 : Int32), .int (0 : Int32), .int (0 : Int32), .null, .null, sw_vr G 25, sw_vr G 26, .null, .null])) 25 (.inl (sw_cN G, 5, .inr (.inr (.inr (.inr (sc_gq G 29 10 0))))))) sw_kc_7 tyX7_ok nmX7 (by omega) sc_f_at rfl (by decide) rfl sx_f_RX7_40 rfl (by decide) rfl rfl dX7_init_53 rfl rfl sc_f_up ?_
  refine sc_aload_n (np := 57) dX7_init_56 rfl rfl rfl ?_
  refine sc_bipush (np := 59) (v := (6 : Int32)) dX7_init_57 (by decide) rfl ?_
  refine sc_newI (N := 6) (np := 61) (n1 := 28) (ce1 := 4) (sl1 := 17) (f' := sc_f G 23 f0 (.inr (7, [.int (0 : Int32), .int (0 : Int32), sw_vr G 24, .int (0 : Int32), .int (0 : Int32), .int (0 : Int32), .int (0 : Int32), .null, .null, sw_vr G 25, sw_vr G 26, .null, .null])) 25 (.inl (sw_cN G, 5, .inr (.inr (.inr (.inr (sc_gq G 29 10 0))))))) sx_aI (by decide) (by decide) (Nat.le_of_ble_eq_true rfl) (Nat.le_of_ble_eq_true rfl) (Nat.le_of_ble_eq_true rfl) dX7_init_59 rfl rfl rfl rfl (sc_f_new (by omega) (by omega) (sc_ai (by decide +kernel) (by decide +kernel) (by decide +kernel))) ?_
  refine sc_putF (k := 11) (np := 64) (fs' := [.int (0 : Int32), .int (0 : Int32), sw_vr G 24, .int (0 : Int32), .int (0 : Int32), .int (0 : Int32), .int (0 : Int32), .null, .null, sw_vr G 25, sw_vr G 26, sw_vr G 27, .null]) (f' := sc_f G 23 f0 (.inr (7, [.int (0 : Int32), .int (0 : Int32), sw_vr G 24, .int (0 : Int32), .int (0 : Int32), .int (0 : Int32), .int (0 : Int32), .null, .null, sw_vr G 25, sw_vr G 26, sw_vr G 27, .null])) 25 (.inl (sw_cN G, 5, .inr (.inr (.inr (.inr (sc_gq G 29 10 0))))))) sw_kc_7 tyX7_ok nmX7 (by omega) sc_f_at rfl (by decide) rfl sx_f_RX7_43 rfl (by decide) rfl rfl dX7_init_61 rfl rfl sc_f_up ?_
  refine sc_aload_n (np := 65) dX7_init_64 rfl rfl rfl ?_
  refine sc_sipush (np := 68) (v := (384 : Int32)) dX7_init_65 (by decide) rfl ?_
  refine sc_newI (N := 384) (np := 70) (n1 := 29) (ce1 := 5) (sl1 := 401) (f' := sc_f G 23 f0 (.inr (7, [.int (0 : Int32), .int (0 : Int32), sw_vr G 24, .int (0 : Int32), .int (0 : Int32), .int (0 : Int32), .int (0 : Int32), .null, .null, sw_vr G 25, sw_vr G 26, sw_vr G 27, .null])) 25 (.inl (sw_cN G, 5, .inr (.inr (.inr (.inr (sc_gq G 29 10 0))))))) sx_aI (by decide) (by decide) (Nat.le_of_ble_eq_true rfl) (Nat.le_of_ble_eq_true rfl) (Nat.le_of_ble_eq_true rfl) dX7_init_68 rfl rfl rfl rfl (sc_f_new (by omega) (by omega) (sc_ai (by decide +kernel) (by decide +kernel) (by decide +kernel))) ?_
  refine sc_putF (k := 12) (np := 73) (fs' := [.int (0 : Int32), .int (0 : Int32), sw_vr G 24, .int (0 : Int32), .int (0 : Int32), .int (0 : Int32), .int (0 : Int32), .null, .null, sw_vr G 25, sw_vr G 26, sw_vr G 27, sw_vr G 28]) (f' := sc_f G 23 f0 (.inr (7, [.int (0 : Int32), .int (0 : Int32), sw_vr G 24, .int (0 : Int32), .int (0 : Int32), .int (0 : Int32), .int (0 : Int32), .null, .null, sw_vr G 25, sw_vr G 26, sw_vr G 27, sw_vr G 28])) 25 (.inl (sw_cN G, 5, .inr (.inr (.inr (.inr (sc_gq G 29 10 0))))))) sw_kc_7 tyX7_ok nmX7 (by omega) sc_f_at rfl (by decide) rfl sx_f_RX7_46 rfl (by decide) rfl rfl dX7_init_70 rfl rfl sc_f_up ?_
  refine sc_aload_n (np := 74) dX7_init_73 rfl rfl rfl ?_
  refine sc_aload_n (np := 75) dX7_init_74 rfl rfl rfl ?_
  refine sc_putF (k := 7) (np := 78) (fs' := [.int (0 : Int32), .int (0 : Int32), sw_vr G 24, .int (0 : Int32), .int (0 : Int32), .int (0 : Int32), .int (0 : Int32), sw_vr G 1, .null, sw_vr G 25, sw_vr G 26, sw_vr G 27, sw_vr G 28]) (f' := sc_f G 23 f0 (.inr (7, [.int (0 : Int32), .int (0 : Int32), sw_vr G 24, .int (0 : Int32), .int (0 : Int32), .int (0 : Int32), .int (0 : Int32), sw_vr G 1, .null, sw_vr G 25, sw_vr G 26, sw_vr G 27, sw_vr G 28])) 25 (.inl (sw_cN G, 5, .inr (.inr (.inr (.inr (sc_gq G 29 10 0))))))) sw_kc_7 tyX7_ok nmX7 (by omega) sc_f_at rfl (by decide) rfl sx_f_RX7_49 rfl (by decide) rfl rfl dX7_init_75 rfl rfl sc_f_up ?_
  refine sc_aload_n (np := 79) dX7_init_78 rfl rfl rfl ?_
  refine sc_aload_n (np := 80) dX7_init_79 rfl rfl rfl ?_
  refine sc_putF (k := 8) (np := 83) (fs' := [.int (0 : Int32), .int (0 : Int32), sw_vr G 24, .int (0 : Int32), .int (0 : Int32), .int (0 : Int32), .int (0 : Int32), sw_vr G 1, sw_vr G 11, sw_vr G 25, sw_vr G 26, sw_vr G 27, sw_vr G 28]) (f' := sc_f G 23 f0 (.inr (7, [.int (0 : Int32), .int (0 : Int32), sw_vr G 24, .int (0 : Int32), .int (0 : Int32), .int (0 : Int32), .int (0 : Int32), sw_vr G 1, sw_vr G 11, sw_vr G 25, sw_vr G 26, sw_vr G 27, sw_vr G 28])) 25 (.inl (sw_cN G, 5, .inr (.inr (.inr (.inr (sc_gq G 29 10 0))))))) sw_kc_7 tyX7_ok nmX7 (by omega) sc_f_at rfl (by decide) rfl sx_f_RX7_53 rfl (by decide) rfl rfl dX7_init_80 rfl rfl sc_f_up ?_
  refine sc_iconst (np := 84) (v := (0 : Int32)) dX7_init_83 (by decide) rfl ?_
  refine sc_istore_n (np := 85) (lv' := [some (sw_vr G 23), some (sw_vr G 1), some (sw_vr G 11), some (.int (0 : Int32))]) dX7_init_84 rfl (by decide) rfl (fun q hq => by rw [show q = 2 by omega]; rfl) rfl ?_
  refine sc_iload_n (np := 86) dX7_init_85 rfl rfl rfl ?_
  refine sc_iconst (np := 87) (v := (4 : Int32)) dX7_init_86 (by decide) rfl ?_
  refine sc_gt0 (tp := 109) (np := 90) dX7_init_87 rfl (by decide) rfl ?_
  refine sc_aload_n (np := 91) dX7_init_90 rfl rfl rfl ?_
  refine sc_get (k := 9) (np := 94) (v := sw_vr G 25) sw_kc_7 (by omega) sc_f_at (by decide) rfl sx_f_RX7_36 rfl dX7_init_91 rfl ?_
  refine sc_iload_n (np := 95) dX7_init_94 rfl rfl rfl ?_
  refine sc_new (ci := 4) (fs := [.int 0, .int 0, .int 0, .int 0, .int 0, .null, .null, .null, .null, .null, .null, .null, .null, .null]) (np := 98) (n1 := 30) (ce1 := 6) (sl1 := 415) sw_kc_4 tyX4_ok sx_c_RX7_34 sx_i_4 sx_z_4 (by decide) (Nat.le_of_ble_eq_true rfl) (Nat.le_of_ble_eq_true rfl) dX7_init_95 rfl rfl rfl rfl ?_
  refine sc_dup (np := 99) dX7_init_98 rfl rfl ?_
  refine sc_init (As := []) (rest := [sw_vr G 29, .int (0 : Int32), sw_vr G 25]) (np := 102) (n1 := 39) (ce1 := 15) (sl1 := 509) (f' := sc_f G 23 f0 (.inr (7, [.int (0 : Int32), .int (0 : Int32), sw_vr G 24, .int (0 : Int32), .int (0 : Int32), .int (0 : Int32), .int (0 : Int32), sw_vr G 1, sw_vr G 11, sw_vr G 25, sw_vr G 26, sw_vr G 27, sw_vr G 28])) 25 (.inl (sw_cN G, 5, .inr (.inr (.inr (.inr (sc_gq G 29 10 0))))))) (hc_X4 (by decide +kernel) (va_up_self _ _ _)) sx_mw_4 rfl sx_im_4 sx_m_RX7_57 dX7_init_99 (Nat.le_of_ble_eq_true rfl) (Nat.le_of_ble_eq_true rfl) rfl (Nat.le_of_ble_eq_true rfl) rfl (by omega) rfl rfl rfl (Nat.le_of_ble_eq_true rfl) (Nat.le_of_ble_eq_true rfl) (sc_f_back (by omega) (by omega)) ?_
  refine sc_aast (b := 25) (j := 29) (N := 5) (t0 := 2) (g := sc_gq G 29 10 0) (g' := sc_gq G 29 10 1) (np := 103) (f' := sc_f G 23 f0 (.inr (7, [.int (0 : Int32), .int (0 : Int32), sw_vr G 24, .int (0 : Int32), .int (0 : Int32), .int (0 : Int32), .int (0 : Int32), sw_vr G 1, sw_vr G 11, sw_vr G 25, sw_vr G 26, sw_vr G 27, sw_vr G 28])) 25 (.inl (sw_cN G, 5, .inr (.inr (.inr (.inr (sc_gq G 29 10 1))))))) (by omega) (sc_f_atb (by omega)) rfl (by omega) ((sc_f_hi (by omega) (by omega)).trans (sw_wE_obj (by decide +kernel) (by decide))) sw_kc_4 (by decide) dX7_init_102 rfl (by rw [show ((0 : Int32)).toNatClampNeg = 0 by decide]; exact sc_gq_up G 29 10 0) (sc_f_upb (by omega)) ?_
  refine sc_iinc (np := 106) (w := (1 : Int32)) (lv' := [some (sw_vr G 23), some (sw_vr G 1), some (sw_vr G 11), some (.int (1 : Int32))]) dX7_init_103 rfl (by decide) (by decide) rfl (fun q hq => by rw [show q = 2 by omega]; rfl) rfl ?_
  refine sc_goto (tp := 85) dX7_init_106 rfl ?_
  refine sc_iload_n (np := 86) dX7_init_85 rfl rfl rfl ?_
  refine sc_iconst (np := 87) (v := (4 : Int32)) dX7_init_86 (by decide) rfl ?_
  refine sc_gt0 (tp := 109) (np := 90) dX7_init_87 rfl (by decide) rfl ?_
  refine sc_aload_n (np := 91) dX7_init_90 rfl rfl rfl ?_
  refine sc_get (k := 9) (np := 94) (v := sw_vr G 25) sw_kc_7 (by omega) sc_f_at (by decide) rfl sx_f_RX7_36 rfl dX7_init_91 rfl ?_
  refine sc_iload_n (np := 95) dX7_init_94 rfl rfl rfl ?_
  refine sc_new (ci := 4) (fs := [.int 0, .int 0, .int 0, .int 0, .int 0, .null, .null, .null, .null, .null, .null, .null, .null, .null]) (np := 98) (n1 := 40) (ce1 := 16) (sl1 := 523) sw_kc_4 tyX4_ok sx_c_RX7_34 sx_i_4 sx_z_4 (by decide) (Nat.le_of_ble_eq_true rfl) (Nat.le_of_ble_eq_true rfl) dX7_init_95 rfl rfl rfl rfl ?_
  refine sc_dup (np := 99) dX7_init_98 rfl rfl ?_
  refine sc_init (As := []) (rest := [sw_vr G 39, .int (1 : Int32), sw_vr G 25]) (np := 102) (n1 := 49) (ce1 := 25) (sl1 := 617) (f' := sc_f G 23 f0 (.inr (7, [.int (0 : Int32), .int (0 : Int32), sw_vr G 24, .int (0 : Int32), .int (0 : Int32), .int (0 : Int32), .int (0 : Int32), sw_vr G 1, sw_vr G 11, sw_vr G 25, sw_vr G 26, sw_vr G 27, sw_vr G 28])) 25 (.inl (sw_cN G, 5, .inr (.inr (.inr (.inr (sc_gq G 29 10 1))))))) (hc_X4 (by decide +kernel) (va_up_self _ _ _)) sx_mw_4 rfl sx_im_4 sx_m_RX7_57 dX7_init_99 (Nat.le_of_ble_eq_true rfl) (Nat.le_of_ble_eq_true rfl) rfl (Nat.le_of_ble_eq_true rfl) rfl (by omega) rfl rfl rfl (Nat.le_of_ble_eq_true rfl) (Nat.le_of_ble_eq_true rfl) (sc_f_back (by omega) (by omega)) ?_
  refine sc_aast (b := 25) (j := 39) (N := 5) (t0 := 2) (g := sc_gq G 29 10 1) (g' := sc_gq G 29 10 2) (np := 103) (f' := sc_f G 23 f0 (.inr (7, [.int (0 : Int32), .int (0 : Int32), sw_vr G 24, .int (0 : Int32), .int (0 : Int32), .int (0 : Int32), .int (0 : Int32), sw_vr G 1, sw_vr G 11, sw_vr G 25, sw_vr G 26, sw_vr G 27, sw_vr G 28])) 25 (.inl (sw_cN G, 5, .inr (.inr (.inr (.inr (sc_gq G 29 10 2))))))) (by omega) (sc_f_atb (by omega)) rfl (by omega) ((sc_f_hi (by omega) (by omega)).trans (sw_wE_obj (by decide +kernel) (by decide))) sw_kc_4 (by decide) dX7_init_102 rfl (by rw [show ((1 : Int32)).toNatClampNeg = 1 by decide]; exact sc_gq_up G 29 10 1) (sc_f_upb (by omega)) ?_
  refine sc_iinc (np := 106) (w := (2 : Int32)) (lv' := [some (sw_vr G 23), some (sw_vr G 1), some (sw_vr G 11), some (.int (2 : Int32))]) dX7_init_103 rfl (by decide) (by decide) rfl (fun q hq => by rw [show q = 2 by omega]; rfl) rfl ?_
  refine sc_goto (tp := 85) dX7_init_106 rfl ?_
  refine sc_iload_n (np := 86) dX7_init_85 rfl rfl rfl ?_
  refine sc_iconst (np := 87) (v := (4 : Int32)) dX7_init_86 (by decide) rfl ?_
  refine sc_gt0 (tp := 109) (np := 90) dX7_init_87 rfl (by decide) rfl ?_
  refine sc_aload_n (np := 91) dX7_init_90 rfl rfl rfl ?_
  refine sc_get (k := 9) (np := 94) (v := sw_vr G 25) sw_kc_7 (by omega) sc_f_at (by decide) rfl sx_f_RX7_36 rfl dX7_init_91 rfl ?_
  refine sc_iload_n (np := 95) dX7_init_94 rfl rfl rfl ?_
  refine sc_new (ci := 4) (fs := [.int 0, .int 0, .int 0, .int 0, .int 0, .null, .null, .null, .null, .null, .null, .null, .null, .null]) (np := 98) (n1 := 50) (ce1 := 26) (sl1 := 631) sw_kc_4 tyX4_ok sx_c_RX7_34 sx_i_4 sx_z_4 (by decide) (Nat.le_of_ble_eq_true rfl) (Nat.le_of_ble_eq_true rfl) dX7_init_95 rfl rfl rfl rfl ?_
  refine sc_dup (np := 99) dX7_init_98 rfl rfl ?_
  refine sc_init (As := []) (rest := [sw_vr G 49, .int (2 : Int32), sw_vr G 25]) (np := 102) (n1 := 59) (ce1 := 35) (sl1 := 725) (f' := sc_f G 23 f0 (.inr (7, [.int (0 : Int32), .int (0 : Int32), sw_vr G 24, .int (0 : Int32), .int (0 : Int32), .int (0 : Int32), .int (0 : Int32), sw_vr G 1, sw_vr G 11, sw_vr G 25, sw_vr G 26, sw_vr G 27, sw_vr G 28])) 25 (.inl (sw_cN G, 5, .inr (.inr (.inr (.inr (sc_gq G 29 10 2))))))) (hc_X4 (by decide +kernel) (va_up_self _ _ _)) sx_mw_4 rfl sx_im_4 sx_m_RX7_57 dX7_init_99 (Nat.le_of_ble_eq_true rfl) (Nat.le_of_ble_eq_true rfl) rfl (Nat.le_of_ble_eq_true rfl) rfl (by omega) rfl rfl rfl (Nat.le_of_ble_eq_true rfl) (Nat.le_of_ble_eq_true rfl) (sc_f_back (by omega) (by omega)) ?_
  refine sc_aast (b := 25) (j := 49) (N := 5) (t0 := 2) (g := sc_gq G 29 10 2) (g' := sc_gq G 29 10 3) (np := 103) (f' := sc_f G 23 f0 (.inr (7, [.int (0 : Int32), .int (0 : Int32), sw_vr G 24, .int (0 : Int32), .int (0 : Int32), .int (0 : Int32), .int (0 : Int32), sw_vr G 1, sw_vr G 11, sw_vr G 25, sw_vr G 26, sw_vr G 27, sw_vr G 28])) 25 (.inl (sw_cN G, 5, .inr (.inr (.inr (.inr (sc_gq G 29 10 3))))))) (by omega) (sc_f_atb (by omega)) rfl (by omega) ((sc_f_hi (by omega) (by omega)).trans (sw_wE_obj (by decide +kernel) (by decide))) sw_kc_4 (by decide) dX7_init_102 rfl (by rw [show ((2 : Int32)).toNatClampNeg = 2 by decide]; exact sc_gq_up G 29 10 2) (sc_f_upb (by omega)) ?_
  refine sc_iinc (np := 106) (w := (3 : Int32)) (lv' := [some (sw_vr G 23), some (sw_vr G 1), some (sw_vr G 11), some (.int (3 : Int32))]) dX7_init_103 rfl (by decide) (by decide) rfl (fun q hq => by rw [show q = 2 by omega]; rfl) rfl ?_
  refine sc_goto (tp := 85) dX7_init_106 rfl ?_
  refine sc_iload_n (np := 86) dX7_init_85 rfl rfl rfl ?_
  refine sc_iconst (np := 87) (v := (4 : Int32)) dX7_init_86 (by decide) rfl ?_
  refine sc_gt0 (tp := 109) (np := 90) dX7_init_87 rfl (by decide) rfl ?_
  refine sc_aload_n (np := 91) dX7_init_90 rfl rfl rfl ?_
  refine sc_get (k := 9) (np := 94) (v := sw_vr G 25) sw_kc_7 (by omega) sc_f_at (by decide) rfl sx_f_RX7_36 rfl dX7_init_91 rfl ?_
  refine sc_iload_n (np := 95) dX7_init_94 rfl rfl rfl ?_
  refine sc_new (ci := 4) (fs := [.int 0, .int 0, .int 0, .int 0, .int 0, .null, .null, .null, .null, .null, .null, .null, .null, .null]) (np := 98) (n1 := 60) (ce1 := 36) (sl1 := 739) sw_kc_4 tyX4_ok sx_c_RX7_34 sx_i_4 sx_z_4 (by decide) (Nat.le_of_ble_eq_true rfl) (Nat.le_of_ble_eq_true rfl) dX7_init_95 rfl rfl rfl rfl ?_
  refine sc_dup (np := 99) dX7_init_98 rfl rfl ?_
  refine sc_init (As := []) (rest := [sw_vr G 59, .int (3 : Int32), sw_vr G 25]) (np := 102) (n1 := 69) (ce1 := 45) (sl1 := 833) (f' := sc_f G 23 f0 (.inr (7, [.int (0 : Int32), .int (0 : Int32), sw_vr G 24, .int (0 : Int32), .int (0 : Int32), .int (0 : Int32), .int (0 : Int32), sw_vr G 1, sw_vr G 11, sw_vr G 25, sw_vr G 26, sw_vr G 27, sw_vr G 28])) 25 (.inl (sw_cN G, 5, .inr (.inr (.inr (.inr (sc_gq G 29 10 3))))))) (hc_X4 (by decide +kernel) (va_up_self _ _ _)) sx_mw_4 rfl sx_im_4 sx_m_RX7_57 dX7_init_99 (Nat.le_of_ble_eq_true rfl) (Nat.le_of_ble_eq_true rfl) rfl (Nat.le_of_ble_eq_true rfl) rfl (by omega) rfl rfl rfl (Nat.le_of_ble_eq_true rfl) (Nat.le_of_ble_eq_true rfl) (sc_f_back (by omega) (by omega)) ?_
  refine sc_aast (b := 25) (j := 59) (N := 5) (t0 := 2) (g := sc_gq G 29 10 3) (g' := sc_gq G 29 10 4) (np := 103) (f' := sc_f G 23 f0 (.inr (7, [.int (0 : Int32), .int (0 : Int32), sw_vr G 24, .int (0 : Int32), .int (0 : Int32), .int (0 : Int32), .int (0 : Int32), sw_vr G 1, sw_vr G 11, sw_vr G 25, sw_vr G 26, sw_vr G 27, sw_vr G 28])) 25 (.inl (sw_cN G, 5, .inr (.inr (.inr (.inr (sc_gq G 29 10 4))))))) (by omega) (sc_f_atb (by omega)) rfl (by omega) ((sc_f_hi (by omega) (by omega)).trans (sw_wE_obj (by decide +kernel) (by decide))) sw_kc_4 (by decide) dX7_init_102 rfl (by rw [show ((3 : Int32)).toNatClampNeg = 3 by decide]; exact sc_gq_up G 29 10 3) (sc_f_upb (by omega)) ?_
  refine sc_iinc (np := 106) (w := (4 : Int32)) (lv' := [some (sw_vr G 23), some (sw_vr G 1), some (sw_vr G 11), some (.int (4 : Int32))]) dX7_init_103 rfl (by decide) (by decide) rfl (fun q hq => by rw [show q = 2 by omega]; rfl) rfl ?_
  refine sc_goto (tp := 85) dX7_init_106 rfl ?_
  refine sc_iload_n (np := 86) dX7_init_85 rfl rfl rfl ?_
  refine sc_iconst (np := 87) (v := (4 : Int32)) dX7_init_86 (by decide) rfl ?_
  refine sc_gt0 (tp := 109) (np := 90) dX7_init_87 rfl (by decide) rfl ?_
  refine sc_aload_n (np := 91) dX7_init_90 rfl rfl rfl ?_
  refine sc_get (k := 9) (np := 94) (v := sw_vr G 25) sw_kc_7 (by omega) sc_f_at (by decide) rfl sx_f_RX7_36 rfl dX7_init_91 rfl ?_
  refine sc_iload_n (np := 95) dX7_init_94 rfl rfl rfl ?_
  refine sc_new (ci := 4) (fs := [.int 0, .int 0, .int 0, .int 0, .int 0, .null, .null, .null, .null, .null, .null, .null, .null, .null]) (np := 98) (n1 := 70) (ce1 := 46) (sl1 := 847) sw_kc_4 tyX4_ok sx_c_RX7_34 sx_i_4 sx_z_4 (by decide) (Nat.le_of_ble_eq_true rfl) (Nat.le_of_ble_eq_true rfl) dX7_init_95 rfl rfl rfl rfl ?_
  refine sc_dup (np := 99) dX7_init_98 rfl rfl ?_
  refine sc_init (As := []) (rest := [sw_vr G 69, .int (4 : Int32), sw_vr G 25]) (np := 102) (n1 := 79) (ce1 := 55) (sl1 := 941) (f' := sc_f G 23 f0 (.inr (7, [.int (0 : Int32), .int (0 : Int32), sw_vr G 24, .int (0 : Int32), .int (0 : Int32), .int (0 : Int32), .int (0 : Int32), sw_vr G 1, sw_vr G 11, sw_vr G 25, sw_vr G 26, sw_vr G 27, sw_vr G 28])) 25 (.inl (sw_cN G, 5, .inr (.inr (.inr (.inr (sc_gq G 29 10 4))))))) (hc_X4 (by decide +kernel) (va_up_self _ _ _)) sx_mw_4 rfl sx_im_4 sx_m_RX7_57 dX7_init_99 (Nat.le_of_ble_eq_true rfl) (Nat.le_of_ble_eq_true rfl) rfl (Nat.le_of_ble_eq_true rfl) rfl (by omega) rfl rfl rfl (Nat.le_of_ble_eq_true rfl) (Nat.le_of_ble_eq_true rfl) (sc_f_back (by omega) (by omega)) ?_
  refine sc_aast (b := 25) (j := 69) (N := 5) (t0 := 2) (g := sc_gq G 29 10 4) (g' := sc_gq G 29 10 5) (np := 103) (f' := sc_f G 23 f0 (.inr (7, [.int (0 : Int32), .int (0 : Int32), sw_vr G 24, .int (0 : Int32), .int (0 : Int32), .int (0 : Int32), .int (0 : Int32), sw_vr G 1, sw_vr G 11, sw_vr G 25, sw_vr G 26, sw_vr G 27, sw_vr G 28])) 25 (.inl (sw_cN G, 5, .inr (.inr (.inr (.inr (sc_gq G 29 10 5))))))) (by omega) (sc_f_atb (by omega)) rfl (by omega) ((sc_f_hi (by omega) (by omega)).trans (sw_wE_obj (by decide +kernel) (by decide))) sw_kc_4 (by decide) dX7_init_102 rfl (by rw [show ((4 : Int32)).toNatClampNeg = 4 by decide]; exact sc_gq_up G 29 10 4) (sc_f_upb (by omega)) ?_
  refine sc_iinc (np := 106) (w := (5 : Int32)) (lv' := [some (sw_vr G 23), some (sw_vr G 1), some (sw_vr G 11), some (.int (5 : Int32))]) dX7_init_103 rfl (by decide) (by decide) rfl (fun q hq => by rw [show q = 2 by omega]; rfl) rfl ?_
  refine sc_goto (tp := 85) dX7_init_106 rfl ?_
  refine sc_iload_n (np := 86) dX7_init_85 rfl rfl rfl ?_
  refine sc_iconst (np := 87) (v := (4 : Int32)) dX7_init_86 (by decide) rfl ?_
  refine sc_gt1 (tp := 109) dX7_init_87 rfl (by decide) ?_
  refine sc_fixq (b := 25) (g' := fun k => some (sw_B G + sw_rf 25 k)) (f' := sc_f G 23 f0 (.inr (7, [.int (0 : Int32), .int (0 : Int32), sw_vr G 24, .int (0 : Int32), .int (0 : Int32), .int (0 : Int32), .int (0 : Int32), sw_vr G 1, sw_vr G 11, sw_vr G 25, sw_vr G 26, sw_vr G 27, sw_vr G 28])) 25 (.inl (sw_cN G, 5, .inr (.inr (.inr (.inr (fun k => some (sw_B G + sw_rf 25 k)))))))) (by omega) (sc_f_atb (by omega)) (fun k hk => sc_gq_fix hk (sw_rf_25 k hk)) (sc_f_upb (by omega)) ?_
  refine sc_cg (f' := sc_g G 23 f0 (.inr (7, [.int (0 : Int32), .int (0 : Int32), sw_vr G 24, .int (0 : Int32), .int (0 : Int32), .int (0 : Int32), .int (0 : Int32), sw_vr G 1, sw_vr G 11, sw_vr G 25, sw_vr G 26, sw_vr G 27, sw_vr G 28]))) (fun i _ => by rw [sc_f_done sx_7_b]) ?_
  exact sc_ret dX7_init_109 (sc_g_end sx_7_0)
set_option maxRecDepth 100000 in
set_option maxHeartbeats 4000000 in
theorem hc_X1 {G : sw_G} {f0 : Nat → va_E} (h0 : f0 79 = .inr (1, [.int 0, .int 0, .null, .null, .null, .null])) : sc_Ev G yX1_init cX1_init 1 1 4 160 [sw_vr G 79] 80 f0 84 (sc_t G 79 f0) := by
  refine sc_Ev_of (own := RX1) (lv0 := [some (sw_vr G 79)]) (by decide) rfl rfl (Nat.le_of_ble_eq_true rfl) rfl ?_
  refine sc_cg (f' := sc_g G 79 f0 (.inr (1, [.int 0, .int 0, .null, .null, .null, .null]))) (sc_ent h0) ?_
  refine sc_aload_n (np := 1) dX1_init_0 rfl rfl rfl ?_
  refine sc_oi (np := 4) sx_m_RX1_3 sx_ow (Nat.le_of_ble_eq_true rfl) (Nat.le_of_ble_eq_true rfl) dX1_init_1 rfl ?_
  refine sc_aload_n (np := 5) dX1_init_4 rfl rfl rfl ?_
  refine sc_iconst (np := 6) (v := (0 : Int32)) dX1_init_5 (by decide) rfl ?_
  refine sc_put (k := 0) (np := 9) (fs' := [.int (0 : Int32), .int 0, .null, .null, .null, .null]) (f' := sc_g G 79 f0 (.inr (1, [.int (0 : Int32), .int 0, .null, .null, .null, .null]))) sw_kc_1 tyX1_ok nmX1 (by omega) sc_g_at rfl (by decide) rfl sx_f_RX1_9 rfl rfl rfl dX1_init_6 rfl rfl sc_g_up ?_
  refine sc_aload_n (np := 10) dX1_init_9 rfl rfl rfl ?_
  refine sc_iconst (np := 11) (v := (0 : Int32)) dX1_init_10 (by decide) rfl ?_
  refine sc_put (k := 1) (np := 14) (fs' := [.int (0 : Int32), .int (0 : Int32), .null, .null, .null, .null]) (f' := sc_g G 79 f0 (.inr (1, [.int (0 : Int32), .int (0 : Int32), .null, .null, .null, .null]))) sw_kc_1 tyX1_ok nmX1 (by omega) sc_g_at rfl (by decide) rfl sx_f_RX1_15 rfl rfl rfl dX1_init_11 rfl rfl sc_g_up ?_
  refine sc_aload_n (np := 15) dX1_init_14 rfl rfl rfl ?_
  refine sc_bipush (np := 17) (v := (40 : Int32)) dX1_init_15 (by decide) rfl ?_
  refine sc_newI (N := 40) (np := 19) (n1 := 81) (ce1 := 1) (sl1 := 40) (f' := sc_g G 79 f0 (.inr (1, [.int (0 : Int32), .int (0 : Int32), .null, .null, .null, .null]))) sx_aI (by decide) (by decide) (Nat.le_of_ble_eq_true rfl) (Nat.le_of_ble_eq_true rfl) (Nat.le_of_ble_eq_true rfl) dX1_init_17 rfl rfl rfl rfl (sc_g_new (by omega) (sc_ai (by decide +kernel) (by decide +kernel) (by decide +kernel))) ?_
  refine sc_putF (k := 2) (np := 22) (fs' := [.int (0 : Int32), .int (0 : Int32), sw_vr G 80, .null, .null, .null]) (f' := sc_g G 79 f0 (.inr (1, [.int (0 : Int32), .int (0 : Int32), sw_vr G 80, .null, .null, .null]))) sw_kc_1 tyX1_ok nmX1 (by omega) sc_g_at rfl (by decide) rfl sx_f_RX1_18 rfl (by decide) rfl rfl dX1_init_19 rfl rfl sc_g_up ?_
  refine sc_aload_n (np := 23) dX1_init_22 rfl rfl rfl ?_
  refine sc_bipush (np := 25) (v := (40 : Int32)) dX1_init_23 (by decide) rfl ?_
  refine sc_newI (N := 40) (np := 27) (n1 := 82) (ce1 := 2) (sl1 := 80) (f' := sc_g G 79 f0 (.inr (1, [.int (0 : Int32), .int (0 : Int32), sw_vr G 80, .null, .null, .null]))) sx_aI (by decide) (by decide) (Nat.le_of_ble_eq_true rfl) (Nat.le_of_ble_eq_true rfl) (Nat.le_of_ble_eq_true rfl) dX1_init_25 rfl rfl rfl rfl (sc_g_new (by omega) (sc_ai (by decide +kernel) (by decide +kernel) (by decide +kernel))) ?_
  refine sc_putF (k := 3) (np := 30) (fs' := [.int (0 : Int32), .int (0 : Int32), sw_vr G 80, sw_vr G 81, .null, .null]) (f' := sc_g G 79 f0 (.inr (1, [.int (0 : Int32), .int (0 : Int32), sw_vr G 80, sw_vr G 81, .null, .null]))) sw_kc_1 tyX1_ok nmX1 (by omega) sc_g_at rfl (by decide) rfl sx_f_RX1_22 rfl (by decide) rfl rfl dX1_init_27 rfl rfl sc_g_up ?_
  refine sc_aload_n (np := 31) dX1_init_30 rfl rfl rfl ?_
  refine sc_bipush (np := 33) (v := (40 : Int32)) dX1_init_31 (by decide) rfl ?_
  refine sc_newI (N := 40) (np := 35) (n1 := 83) (ce1 := 3) (sl1 := 120) (f' := sc_g G 79 f0 (.inr (1, [.int (0 : Int32), .int (0 : Int32), sw_vr G 80, sw_vr G 81, .null, .null]))) sx_aI (by decide) (by decide) (Nat.le_of_ble_eq_true rfl) (Nat.le_of_ble_eq_true rfl) (Nat.le_of_ble_eq_true rfl) dX1_init_33 rfl rfl rfl rfl (sc_g_new (by omega) (sc_ai (by decide +kernel) (by decide +kernel) (by decide +kernel))) ?_
  refine sc_putF (k := 4) (np := 38) (fs' := [.int (0 : Int32), .int (0 : Int32), sw_vr G 80, sw_vr G 81, sw_vr G 82, .null]) (f' := sc_g G 79 f0 (.inr (1, [.int (0 : Int32), .int (0 : Int32), sw_vr G 80, sw_vr G 81, sw_vr G 82, .null]))) sw_kc_1 tyX1_ok nmX1 (by omega) sc_g_at rfl (by decide) rfl sx_f_RX1_25 rfl (by decide) rfl rfl dX1_init_35 rfl rfl sc_g_up ?_
  refine sc_aload_n (np := 39) dX1_init_38 rfl rfl rfl ?_
  refine sc_bipush (np := 41) (v := (40 : Int32)) dX1_init_39 (by decide) rfl ?_
  refine sc_newI (N := 40) (np := 43) (n1 := 84) (ce1 := 4) (sl1 := 160) (f' := sc_g G 79 f0 (.inr (1, [.int (0 : Int32), .int (0 : Int32), sw_vr G 80, sw_vr G 81, sw_vr G 82, .null]))) sx_aI (by decide) (by decide) (Nat.le_of_ble_eq_true rfl) (Nat.le_of_ble_eq_true rfl) (Nat.le_of_ble_eq_true rfl) dX1_init_41 rfl rfl rfl rfl (sc_g_new (by omega) (sc_ai (by decide +kernel) (by decide +kernel) (by decide +kernel))) ?_
  refine sc_putF (k := 5) (np := 46) (fs' := [.int (0 : Int32), .int (0 : Int32), sw_vr G 80, sw_vr G 81, sw_vr G 82, sw_vr G 83]) (f' := sc_g G 79 f0 (.inr (1, [.int (0 : Int32), .int (0 : Int32), sw_vr G 80, sw_vr G 81, sw_vr G 82, sw_vr G 83]))) sw_kc_1 tyX1_ok nmX1 (by omega) sc_g_at rfl (by decide) rfl sx_f_RX1_28 rfl (by decide) rfl rfl dX1_init_43 rfl rfl sc_g_up ?_
  exact sc_ret dX1_init_46 (sc_g_end sx_1_0)
set_option maxRecDepth 100000 in
set_option maxHeartbeats 4000000 in
theorem hc_X2 {G : sw_G} {f0 : Nat → va_E} (h0 : f0 84 = .inr (2, [.int 0, .null, .null, .null, .null, .int 0, .int 0, .int 0])) : sc_Ev G yX2_init cX2_init 1 1 4 30 [sw_vr G 84] 85 f0 89 (sc_t G 84 f0) := by
  refine sc_Ev_of (own := RX2) (lv0 := [some (sw_vr G 84)]) (by decide) rfl rfl (Nat.le_of_ble_eq_true rfl) rfl ?_
  refine sc_cg (f' := sc_g G 84 f0 (.inr (2, [.int 0, .null, .null, .null, .null, .int 0, .int 0, .int 0]))) (sc_ent h0) ?_
  refine sc_aload_n (np := 1) dX2_init_0 rfl rfl rfl ?_
  refine sc_oi (np := 4) sx_m_RX2_3 sx_ow (Nat.le_of_ble_eq_true rfl) (Nat.le_of_ble_eq_true rfl) dX2_init_1 rfl ?_
  refine sc_aload_n (np := 5) dX2_init_4 rfl rfl rfl ?_
  refine sc_iconst (np := 6) (v := (0 : Int32)) dX2_init_5 (by decide) rfl ?_
  refine sc_put (k := 0) (np := 9) (fs' := [.int (0 : Int32), .null, .null, .null, .null, .int 0, .int 0, .int 0]) (f' := sc_g G 84 f0 (.inr (2, [.int (0 : Int32), .null, .null, .null, .null, .int 0, .int 0, .int 0]))) sw_kc_2 tyX2_ok nmX2 (by omega) sc_g_at rfl (by decide) rfl sx_f_RX2_9 rfl rfl rfl dX2_init_6 rfl rfl sc_g_up ?_
  refine sc_aload_n (np := 10) dX2_init_9 rfl rfl rfl ?_
  refine sc_iconst (np := 11) (v := (5 : Int32)) dX2_init_10 (by decide) rfl ?_
  refine sc_newI (N := 5) (np := 13) (n1 := 86) (ce1 := 1) (sl1 := 5) (f' := sc_g G 84 f0 (.inr (2, [.int (0 : Int32), .null, .null, .null, .null, .int 0, .int 0, .int 0]))) sx_aI (by decide) (by decide) (Nat.le_of_ble_eq_true rfl) (Nat.le_of_ble_eq_true rfl) (Nat.le_of_ble_eq_true rfl) dX2_init_11 rfl rfl rfl rfl (sc_g_new (by omega) (sc_ai (by decide +kernel) (by decide +kernel) (by decide +kernel))) ?_
  refine sc_putF (k := 1) (np := 16) (fs' := [.int (0 : Int32), sw_vr G 85, .null, .null, .null, .int 0, .int 0, .int 0]) (f' := sc_g G 84 f0 (.inr (2, [.int (0 : Int32), sw_vr G 85, .null, .null, .null, .int 0, .int 0, .int 0]))) sw_kc_2 tyX2_ok nmX2 (by omega) sc_g_at rfl (by decide) rfl sx_f_RX2_15 rfl (by decide) rfl rfl dX2_init_13 rfl rfl sc_g_up ?_
  refine sc_aload_n (np := 17) dX2_init_16 rfl rfl rfl ?_
  refine sc_iconst (np := 18) (v := (5 : Int32)) dX2_init_17 (by decide) rfl ?_
  refine sc_newI (N := 5) (np := 20) (n1 := 87) (ce1 := 2) (sl1 := 10) (f' := sc_g G 84 f0 (.inr (2, [.int (0 : Int32), sw_vr G 85, .null, .null, .null, .int 0, .int 0, .int 0]))) sx_aI (by decide) (by decide) (Nat.le_of_ble_eq_true rfl) (Nat.le_of_ble_eq_true rfl) (Nat.le_of_ble_eq_true rfl) dX2_init_18 rfl rfl rfl rfl (sc_g_new (by omega) (sc_ai (by decide +kernel) (by decide +kernel) (by decide +kernel))) ?_
  refine sc_putF (k := 2) (np := 23) (fs' := [.int (0 : Int32), sw_vr G 85, sw_vr G 86, .null, .null, .int 0, .int 0, .int 0]) (f' := sc_g G 84 f0 (.inr (2, [.int (0 : Int32), sw_vr G 85, sw_vr G 86, .null, .null, .int 0, .int 0, .int 0]))) sw_kc_2 tyX2_ok nmX2 (by omega) sc_g_at rfl (by decide) rfl sx_f_RX2_19 rfl (by decide) rfl rfl dX2_init_20 rfl rfl sc_g_up ?_
  refine sc_aload_n (np := 24) dX2_init_23 rfl rfl rfl ?_
  refine sc_bipush (np := 26) (v := (10 : Int32)) dX2_init_24 (by decide) rfl ?_
  refine sc_newI (N := 10) (np := 28) (n1 := 88) (ce1 := 3) (sl1 := 20) (f' := sc_g G 84 f0 (.inr (2, [.int (0 : Int32), sw_vr G 85, sw_vr G 86, .null, .null, .int 0, .int 0, .int 0]))) sx_aI (by decide) (by decide) (Nat.le_of_ble_eq_true rfl) (Nat.le_of_ble_eq_true rfl) (Nat.le_of_ble_eq_true rfl) dX2_init_26 rfl rfl rfl rfl (sc_g_new (by omega) (sc_ai (by decide +kernel) (by decide +kernel) (by decide +kernel))) ?_
  refine sc_putF (k := 3) (np := 31) (fs' := [.int (0 : Int32), sw_vr G 85, sw_vr G 86, sw_vr G 87, .null, .int 0, .int 0, .int 0]) (f' := sc_g G 84 f0 (.inr (2, [.int (0 : Int32), sw_vr G 85, sw_vr G 86, sw_vr G 87, .null, .int 0, .int 0, .int 0]))) sw_kc_2 tyX2_ok nmX2 (by omega) sc_g_at rfl (by decide) rfl sx_f_RX2_22 rfl (by decide) rfl rfl dX2_init_28 rfl rfl sc_g_up ?_
  refine sc_aload_n (np := 32) dX2_init_31 rfl rfl rfl ?_
  refine sc_bipush (np := 34) (v := (10 : Int32)) dX2_init_32 (by decide) rfl ?_
  refine sc_newI (N := 10) (np := 36) (n1 := 89) (ce1 := 4) (sl1 := 30) (f' := sc_g G 84 f0 (.inr (2, [.int (0 : Int32), sw_vr G 85, sw_vr G 86, sw_vr G 87, .null, .int 0, .int 0, .int 0]))) sx_aI (by decide) (by decide) (Nat.le_of_ble_eq_true rfl) (Nat.le_of_ble_eq_true rfl) (Nat.le_of_ble_eq_true rfl) dX2_init_34 rfl rfl rfl rfl (sc_g_new (by omega) (sc_ai (by decide +kernel) (by decide +kernel) (by decide +kernel))) ?_
  refine sc_putF (k := 4) (np := 39) (fs' := [.int (0 : Int32), sw_vr G 85, sw_vr G 86, sw_vr G 87, sw_vr G 88, .int 0, .int 0, .int 0]) (f' := sc_g G 84 f0 (.inr (2, [.int (0 : Int32), sw_vr G 85, sw_vr G 86, sw_vr G 87, sw_vr G 88, .int 0, .int 0, .int 0]))) sw_kc_2 tyX2_ok nmX2 (by omega) sc_g_at rfl (by decide) rfl sx_f_RX2_25 rfl (by decide) rfl rfl dX2_init_36 rfl rfl sc_g_up ?_
  refine sc_aload_n (np := 40) dX2_init_39 rfl rfl rfl ?_
  refine sc_iconst (np := 41) (v := (0 : Int32)) dX2_init_40 (by decide) rfl ?_
  refine sc_put (k := 5) (np := 44) (fs' := [.int (0 : Int32), sw_vr G 85, sw_vr G 86, sw_vr G 87, sw_vr G 88, .int (0 : Int32), .int 0, .int 0]) (f' := sc_g G 84 f0 (.inr (2, [.int (0 : Int32), sw_vr G 85, sw_vr G 86, sw_vr G 87, sw_vr G 88, .int (0 : Int32), .int 0, .int 0]))) sw_kc_2 tyX2_ok nmX2 (by omega) sc_g_at rfl (by decide) rfl sx_f_RX2_28 rfl rfl rfl dX2_init_41 rfl rfl sc_g_up ?_
  refine sc_aload_n (np := 45) dX2_init_44 rfl rfl rfl ?_
  refine sc_iconst (np := 46) (v := (0 : Int32)) dX2_init_45 (by decide) rfl ?_
  refine sc_put (k := 6) (np := 49) (fs' := [.int (0 : Int32), sw_vr G 85, sw_vr G 86, sw_vr G 87, sw_vr G 88, .int (0 : Int32), .int (0 : Int32), .int 0]) (f' := sc_g G 84 f0 (.inr (2, [.int (0 : Int32), sw_vr G 85, sw_vr G 86, sw_vr G 87, sw_vr G 88, .int (0 : Int32), .int (0 : Int32), .int 0]))) sw_kc_2 tyX2_ok nmX2 (by omega) sc_g_at rfl (by decide) rfl sx_f_RX2_32 rfl rfl rfl dX2_init_46 rfl rfl sc_g_up ?_
  refine sc_aload_n (np := 50) dX2_init_49 rfl rfl rfl ?_
  refine sc_iconst (np := 51) (v := (0 : Int32)) dX2_init_50 (by decide) rfl ?_
  refine sc_put (k := 7) (np := 54) (fs' := [.int (0 : Int32), sw_vr G 85, sw_vr G 86, sw_vr G 87, sw_vr G 88, .int (0 : Int32), .int (0 : Int32), .int (0 : Int32)]) (f' := sc_g G 84 f0 (.inr (2, [.int (0 : Int32), sw_vr G 85, sw_vr G 86, sw_vr G 87, sw_vr G 88, .int (0 : Int32), .int (0 : Int32), .int (0 : Int32)]))) sw_kc_2 tyX2_ok nmX2 (by omega) sc_g_at rfl (by decide) rfl sx_f_RX2_35 rfl rfl rfl dX2_init_51 rfl rfl sc_g_up ?_
  exact sc_ret dX2_init_54 (sc_g_end sx_2_0)
set_option maxRecDepth 100000 in
set_option maxHeartbeats 4000000 in
theorem hc_X0 {G : sw_G} {f0 : Nat → va_E} (h0 : f0 89 = .inr (0, [.int 0, .int 0, .null, .null, .int 0])) : sc_Ev G yX0_init cX0_init 1 1 2 74 [sw_vr G 89] 90 f0 92 (sc_t G 89 f0) := by
  refine sc_Ev_of (own := RX0) (lv0 := [some (sw_vr G 89)]) (by decide) rfl rfl (Nat.le_of_ble_eq_true rfl) rfl ?_
  refine sc_cg (f' := sc_g G 89 f0 (.inr (0, [.int 0, .int 0, .null, .null, .int 0]))) (sc_ent h0) ?_
  refine sc_aload_n (np := 1) dX0_init_0 rfl rfl rfl ?_
  refine sc_oi (np := 4) sx_m_RX0_1 sx_ow (Nat.le_of_ble_eq_true rfl) (Nat.le_of_ble_eq_true rfl) dX0_init_1 rfl ?_
  refine sc_aload_n (np := 5) dX0_init_4 rfl rfl rfl ?_
  refine sc_iconst (np := 6) (v := (0 : Int32)) dX0_init_5 (by decide) rfl ?_
  refine sc_put (k := 0) (np := 9) (fs' := [.int (0 : Int32), .int 0, .null, .null, .int 0]) (f' := sc_g G 89 f0 (.inr (0, [.int (0 : Int32), .int 0, .null, .null, .int 0]))) sw_kc_0 tyX0_ok nmX0 (by omega) sc_g_at rfl (by decide) rfl sx_f_RX0_7 rfl rfl rfl dX0_init_6 rfl rfl sc_g_up ?_
  refine sc_aload_n (np := 10) dX0_init_9 rfl rfl rfl ?_
  refine sc_iconst (np := 11) (v := (0 : Int32)) dX0_init_10 (by decide) rfl ?_
  refine sc_put (k := 1) (np := 14) (fs' := [.int (0 : Int32), .int (0 : Int32), .null, .null, .int 0]) (f' := sc_g G 89 f0 (.inr (0, [.int (0 : Int32), .int (0 : Int32), .null, .null, .int 0]))) sw_kc_0 tyX0_ok nmX0 (by omega) sc_g_at rfl (by decide) rfl sx_f_RX0_13 rfl rfl rfl dX0_init_11 rfl rfl sc_g_up ?_
  refine sc_aload_n (np := 15) dX0_init_14 rfl rfl rfl ?_
  refine sc_bipush (np := 17) (v := (50 : Int32)) dX0_init_15 (by decide) rfl ?_
  refine sc_newI (N := 50) (np := 19) (n1 := 91) (ce1 := 1) (sl1 := 50) (f' := sc_g G 89 f0 (.inr (0, [.int (0 : Int32), .int (0 : Int32), .null, .null, .int 0]))) sx_aI (by decide) (by decide) (Nat.le_of_ble_eq_true rfl) (Nat.le_of_ble_eq_true rfl) (Nat.le_of_ble_eq_true rfl) dX0_init_17 rfl rfl rfl rfl (sc_g_new (by omega) (sc_ai (by decide +kernel) (by decide +kernel) (by decide +kernel))) ?_
  refine sc_putF (k := 2) (np := 22) (fs' := [.int (0 : Int32), .int (0 : Int32), sw_vr G 90, .null, .int 0]) (f' := sc_g G 89 f0 (.inr (0, [.int (0 : Int32), .int (0 : Int32), sw_vr G 90, .null, .int 0]))) sw_kc_0 tyX0_ok nmX0 (by omega) sc_g_at rfl (by decide) rfl sx_f_RX0_16 rfl (by decide) rfl rfl dX0_init_19 rfl rfl sc_g_up ?_
  refine sc_aload_n (np := 23) dX0_init_22 rfl rfl rfl ?_
  refine sc_bipush (np := 25) (v := (24 : Int32)) dX0_init_23 (by decide) rfl ?_
  refine sc_newI (N := 24) (np := 27) (n1 := 92) (ce1 := 2) (sl1 := 74) (f' := sc_g G 89 f0 (.inr (0, [.int (0 : Int32), .int (0 : Int32), sw_vr G 90, .null, .int 0]))) sx_aI (by decide) (by decide) (Nat.le_of_ble_eq_true rfl) (Nat.le_of_ble_eq_true rfl) (Nat.le_of_ble_eq_true rfl) dX0_init_25 rfl rfl rfl rfl (sc_g_new (by omega) (sc_ai (by decide +kernel) (by decide +kernel) (by decide +kernel))) ?_
  refine sc_putF (k := 3) (np := 30) (fs' := [.int (0 : Int32), .int (0 : Int32), sw_vr G 90, sw_vr G 91, .int 0]) (f' := sc_g G 89 f0 (.inr (0, [.int (0 : Int32), .int (0 : Int32), sw_vr G 90, sw_vr G 91, .int 0]))) sw_kc_0 tyX0_ok nmX0 (by omega) sc_g_at rfl (by decide) rfl sx_f_RX0_20 rfl (by decide) rfl rfl dX0_init_27 rfl rfl sc_g_up ?_
  refine sc_aload_n (np := 31) dX0_init_30 rfl rfl rfl ?_
  refine sc_iconst (np := 32) (v := (0 : Int32)) dX0_init_31 (by decide) rfl ?_
  refine sc_put (k := 4) (np := 35) (fs' := [.int (0 : Int32), .int (0 : Int32), sw_vr G 90, sw_vr G 91, .int (0 : Int32)]) (f' := sc_g G 89 f0 (.inr (0, [.int (0 : Int32), .int (0 : Int32), sw_vr G 90, sw_vr G 91, .int (0 : Int32)]))) sw_kc_0 tyX0_ok nmX0 (by omega) sc_g_at rfl (by decide) rfl sx_f_RX0_23 rfl rfl rfl dX0_init_32 rfl rfl sc_g_up ?_
  exact sc_ret dX0_init_35 (sc_g_end sx_0_0)
