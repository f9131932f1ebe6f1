/-! constructors -/
set_option maxRecDepth 100000 in
set_option maxHeartbeats 4000000 in
theorem hc_X4 {G : sw_G} {o : Nat} {f0 : Nat → va_E} (h : sw_kd o = 4) (h0 : f0 o = .inr (4, [.int 0, .int 0, .int 0, .int 0, .int 0, .null, .null, .null, .null, .null, .null, .null, .null, .null])) : sc_Ev G yX4_init cX4_init 2 1 9 94 [sw_vr G o] (o + 1) f0 (o + 10) (sc_t G o f0) := by
  refine sc_Ev_of (own := RX4) (lv0 := [some (sw_vr G o), none]) (by decide) rfl rfl (Nat.le_of_ble_eq_true rfl) rfl ?_
  refine sc_cg (f' := sc_g G o f0 (.inr (4, [.int 0, .int 0, .int 0, .int 0, .int 0, .null, .null, .null, .null, .null, .null, .null, .null, .null]))) (sc_ent h0) ?_
  refine sc_aload_n (np := 1) dX4_init_0 rfl rfl rfl ?_
  refine sc_oi (np := 4) sx_m_RX4_3 sx_ow (Nat.le_of_ble_eq_true rfl) (Nat.le_of_ble_eq_true rfl) dX4_init_1 rfl ?_
  refine sc_aload_n (np := 5) dX4_init_4 rfl rfl rfl ?_
  refine sc_iconst (np := 6) (v := (0 : Int32)) dX4_init_5 (by decide) rfl ?_
  refine sc_put (k := 0) (np := 9) (fs' := [.int (0 : Int32), .int 0, .int 0, .int 0, .int 0, .null, .null, .null, .null, .null, .null, .null, .null, .null]) (f' := sc_g G o f0 (.inr (4, [.int (0 : Int32), .int 0, .int 0, .int 0, .int 0, .null, .null, .null, .null, .null, .null, .null, .null, .null]))) sw_kc_4 tyX4_ok nmX4 (by omega) sc_g_at rfl (by decide) rfl sx_f_RX4_9 rfl rfl rfl dX4_init_6 rfl rfl sc_g_up ?_
  refine sc_aload_n (np := 10) dX4_init_9 rfl rfl rfl ?_
  refine sc_iconst (np := 11) (v := (0 : Int32)) dX4_init_10 (by decide) rfl ?_
  refine sc_put (k := 1) (np := 14) (fs' := [.int (0 : Int32), .int (0 : Int32), .int 0, .int 0, .int 0, .null, .null, .null, .null, .null, .null, .null, .null, .null]) (f' := sc_g G o f0 (.inr (4, [.int (0 : Int32), .int (0 : Int32), .int 0, .int 0, .int 0, .null, .null, .null, .null, .null, .null, .null, .null, .null]))) sw_kc_4 tyX4_ok nmX4 (by omega) sc_g_at rfl (by decide) rfl sx_f_RX4_15 rfl rfl rfl dX4_init_11 rfl rfl sc_g_up ?_
  refine sc_aload_n (np := 15) dX4_init_14 rfl rfl rfl ?_
  refine sc_bipush (np := 17) (v := (10 : Int32)) dX4_init_15 (by decide) rfl ?_
  refine sc_put (k := 2) (np := 20) (fs' := [.int (0 : Int32), .int (0 : Int32), .int (10 : Int32), .int 0, .int 0, .null, .null, .null, .null, .null, .null, .null, .null, .null]) (f' := sc_g G o f0 (.inr (4, [.int (0 : Int32), .int (0 : Int32), .int (10 : Int32), .int 0, .int 0, .null, .null, .null, .null, .null, .null, .null, .null, .null]))) sw_kc_4 tyX4_ok nmX4 (by omega) sc_g_at rfl (by decide) rfl sx_f_RX4_18 rfl rfl rfl dX4_init_17 rfl rfl sc_g_up ?_
  refine sc_aload_n (np := 21) dX4_init_20 rfl rfl rfl ?_
  refine sc_iconst (np := 22) (v := (0 : Int32)) dX4_init_21 (by decide) rfl ?_
  refine sc_put (k := 3) (np := 25) (fs' := [.int (0 : Int32), .int (0 : Int32), .int (10 : Int32), .int (0 : Int32), .int 0, .null, .null, .null, .null, .null, .null, .null, .null, .null]) (f' := sc_g G o f0 (.inr (4, [.int (0 : Int32), .int (0 : Int32), .int (10 : Int32), .int (0 : Int32), .int 0, .null, .null, .null, .null, .null, .null, .null, .null, .null]))) sw_kc_4 tyX4_ok nmX4 (by omega) sc_g_at rfl (by decide) rfl sx_f_RX4_21 rfl rfl rfl dX4_init_22 rfl rfl sc_g_up ?_
  refine sc_aload_n (np := 26) dX4_init_25 rfl rfl rfl ?_
  refine sc_iconst (np := 27) (v := (0 : Int32)) dX4_init_26 (by decide) rfl ?_
  refine sc_put (k := 4) (np := 30) (fs' := [.int (0 : Int32), .int (0 : Int32), .int (10 : Int32), .int (0 : Int32), .int (0 : Int32), .null, .null, .null, .null, .null, .null, .null, .null, .null]) (f' := sc_g G o f0 (.inr (4, [.int (0 : Int32), .int (0 : Int32), .int (10 : Int32), .int (0 : Int32), .int (0 : Int32), .null, .null, .null, .null, .null, .null, .null, .null, .null]))) sw_kc_4 tyX4_ok nmX4 (by omega) sc_g_at rfl (by decide) rfl sx_f_RX4_24 rfl rfl rfl dX4_init_27 rfl rfl sc_g_up ?_
  refine sc_aload_n (np := 31) dX4_init_30 rfl rfl rfl ?_
  refine sc_bipush (np := 33) (v := (10 : Int32)) dX4_init_31 (by decide) rfl ?_
  refine sc_newI (N := 10) (np := 35) (n1 := (o + 2)) (ce1 := 1) (sl1 := 10) (f' := sc_g G o f0 (.inr (4, [.int (0 : Int32), .int (0 : Int32), .int (10 : Int32), .int (0 : Int32), .int (0 : Int32), .null, .null, .null, .null, .null, .null, .null, .null, .null]))) sx_aI (by decide) (by decide) (Nat.le_of_ble_eq_true rfl) (Nat.le_of_ble_eq_true rfl) (Nat.le_of_ble_eq_true rfl) dX4_init_33 rfl rfl rfl rfl (sc_g_new (by omega) (sx_4_1 h)) ?_
  refine sc_putF (k := 5) (np := 38) (fs' := [.int (0 : Int32), .int (0 : Int32), .int (10 : Int32), .int (0 : Int32), .int (0 : Int32), sw_vr G (o + 1), .null, .null, .null, .null, .null, .null, .null, .null]) (f' := sc_g G o f0 (.inr (4, [.int (0 : Int32), .int (0 : Int32), .int (10 : Int32), .int (0 : Int32), .int (0 : Int32), sw_vr G (o + 1), .null, .null, .null, .null, .null, .null, .null, .null]))) sw_kc_4 tyX4_ok nmX4 (by omega) sc_g_at rfl (by decide) rfl sx_f_RX4_27 rfl (by decide) rfl rfl dX4_init_35 rfl rfl sc_g_up ?_
  refine sc_aload_n (np := 39) dX4_init_38 rfl rfl rfl ?_
  refine sc_bipush (np := 41) (v := (10 : Int32)) dX4_init_39 (by decide) rfl ?_
  refine sc_newI (N := 10) (np := 43) (n1 := (o + 3)) (ce1 := 2) (sl1 := 20) (f' := sc_g G o f0 (.inr (4, [.int (0 : Int32), .int (0 : Int32), .int (10 : Int32), .int (0 : Int32), .int (0 : Int32), sw_vr G (o + 1), .null, .null, .null, .null, .null, .null, .null, .null]))) sx_aI (by decide) (by decide) (Nat.le_of_ble_eq_true rfl) (Nat.le_of_ble_eq_true rfl) (Nat.le_of_ble_eq_true rfl) dX4_init_41 rfl rfl rfl rfl (sc_g_new (by omega) (sx_4_2 h)) ?_
  refine sc_putF (k := 6) (np := 46) (fs' := [.int (0 : Int32), .int (0 : Int32), .int (10 : Int32), .int (0 : Int32), .int (0 : Int32), sw_vr G (o + 1), sw_vr G (o + 2), .null, .null, .null, .null, .null, .null, .null]) (f' := sc_g G o f0 (.inr (4, [.int (0 : Int32), .int (0 : Int32), .int (10 : Int32), .int (0 : Int32), .int (0 : Int32), sw_vr G (o + 1), sw_vr G (o + 2), .null, .null, .null, .null, .null, .null, .null]))) sw_kc_4 tyX4_ok nmX4 (by omega) sc_g_at rfl (by decide) rfl sx_f_RX4_31 rfl (by decide) rfl rfl dX4_init_43 rfl rfl sc_g_up ?_
  refine sc_aload_n (np := 47) dX4_init_46 rfl rfl rfl ?_
  refine sc_bipush (np := 49) (v := (10 : Int32)) dX4_init_47 (by decide) rfl ?_
  refine sc_newI (N := 10) (np := 51) (n1 := (o + 4)) (ce1 := 3) (sl1 := 30) (f' := sc_g G o f0 (.inr (4, [.int (0 : Int32), .int (0 : Int32), .int (10 : Int32), .int (0 : Int32), .int (0 : Int32), sw_vr G (o + 1), sw_vr G (o + 2), .null, .null, .null, .null, .null, .null, .null]))) sx_aI (by decide) (by decide) (Nat.le_of_ble_eq_true rfl) (Nat.le_of_ble_eq_true rfl) (Nat.le_of_ble_eq_true rfl) dX4_init_49 rfl rfl rfl rfl (sc_g_new (by omega) (sx_4_3 h)) ?_
  refine sc_putF (k := 7) (np := 54) (fs' := [.int (0 : Int32), .int (0 : Int32), .int (10 : Int32), .int (0 : Int32), .int (0 : Int32), sw_vr G (o + 1), sw_vr G (o + 2), sw_vr G (o + 3), .null, .null, .null, .null, .null, .null]) (f' := sc_g G o f0 (.inr (4, [.int (0 : Int32), .int (0 : Int32), .int (10 : Int32), .int (0 : Int32), .int (0 : Int32), sw_vr G (o + 1), sw_vr G (o + 2), sw_vr G (o + 3), .null, .null, .null, .null, .null, .null]))) sw_kc_4 tyX4_ok nmX4 (by omega) sc_g_at rfl (by decide) rfl sx_f_RX4_34 rfl (by decide) rfl rfl dX4_init_51 rfl rfl sc_g_up ?_
  refine sc_aload_n (np := 55) dX4_init_54 rfl rfl rfl ?_
  refine sc_bipush (np := 57) (v := (10 : Int32)) dX4_init_55 (by decide) rfl ?_
  refine sc_newI (N := 10) (np := 59) (n1 := (o + 5)) (ce1 := 4) (sl1 := 40) (f' := sc_g G o f0 (.inr (4, [.int (0 : Int32), .int (0 : Int32), .int (10 : Int32), .int (0 : Int32), .int (0 : Int32), sw_vr G (o + 1), sw_vr G (o + 2), sw_vr G (o + 3), .null, .null, .null, .null, .null, .null]))) sx_aI (by decide) (by decide) (Nat.le_of_ble_eq_true rfl) (Nat.le_of_ble_eq_true rfl) (Nat.le_of_ble_eq_true rfl) dX4_init_57 rfl rfl rfl rfl (sc_g_new (by omega) (sx_4_4 h)) ?_
  refine sc_putF (k := 8) (np := 62) (fs' := [.int (0 : Int32), .int (0 : Int32), .int (10 : Int32), .int (0 : Int32), .int (0 : Int32), sw_vr G (o + 1), sw_vr G (o + 2), sw_vr G (o + 3), sw_vr G (o + 4), .null, .null, .null, .null, .null]) (f' := sc_g G o f0 (.inr (4, [.int (0 : Int32), .int (0 : Int32), .int (10 : Int32), .int (0 : Int32), .int (0 : Int32), sw_vr G (o + 1), sw_vr G (o + 2), sw_vr G (o + 3), sw_vr G (o + 4), .null, .null, .null, .null, .null]))) sw_kc_4 tyX4_ok nmX4 (by omega) sc_g_at rfl (by decide) rfl sx_f_RX4_37 rfl (by decide) rfl rfl dX4_init_59 rfl rfl sc_g_up ?_
  refine sc_aload_n (np := 63) dX4_init_62 rfl rfl rfl ?_
  refine sc_bipush (np := 65) (v := (10 : Int32)) dX4_init_63 (by decide) rfl ?_
  refine sc_newI (N := 10) (np := 67) (n1 := (o + 6)) (ce1 := 5) (sl1 := 50) (f' := sc_g G o f0 (.inr (4, [.int (0 : Int32), .int (0 : Int32), .int (10 : Int32), .int (0 : Int32), .int (0 : Int32), sw_vr G (o + 1), sw_vr G (o + 2), sw_vr G (o + 3), sw_vr G (o + 4), .null, .null, .null, .null, .null]))) sx_aI (by decide) (by decide) (Nat.le_of_ble_eq_true rfl) (Nat.le_of_ble_eq_true rfl) (Nat.le_of_ble_eq_true rfl) dX4_init_65 rfl rfl rfl rfl (sc_g_new (by omega) (sx_4_5 h)) ?_
  refine sc_putF (k := 9) (np := 70) (fs' := [.int (0 : Int32), .int (0 : Int32), .int (10 : Int32), .int (0 : Int32), .int (0 : Int32), sw_vr G (o + 1), sw_vr G (o + 2), sw_vr G (o + 3), sw_vr G (o + 4), sw_vr G (o + 5), .null, .null, .null, .null]) (f' := sc_g G o f0 (.inr (4, [.int (0 : Int32), .int (0 : Int32), .int (10 : Int32), .int (0 : Int32), .int (0 : Int32), sw_vr G (o + 1), sw_vr G (o + 2), sw_vr G (o + 3), sw_vr G (o + 4), sw_vr G (o + 5), .null, .null, .null, .null]))) sw_kc_4 tyX4_ok nmX4 (by omega) sc_g_at rfl (by decide) rfl sx_f_RX4_40 rfl (by decide) rfl rfl dX4_init_67 rfl rfl sc_g_up ?_
  refine sc_aload_n (np := 71) dX4_init_70 rfl rfl rfl ?_
  refine sc_bipush (np := 73) (v := (12 : Int32)) dX4_init_71 (by decide) rfl ?_
  refine sc_newI (N := 12) (np := 75) (n1 := (o + 7)) (ce1 := 6) (sl1 := 62) (f' := sc_f G o f0 (.inr (4, [.int (0 : Int32), .int (0 : Int32), .int (10 : Int32), .int (0 : Int32), .int (0 : Int32), sw_vr G (o + 1), sw_vr G (o + 2), sw_vr G (o + 3), sw_vr G (o + 4), sw_vr G (o + 5), .null, .null, .null, .null])) (o + 6) (.inl (sw_cI G, 12, .inl (sc_gm 0)))) sx_aI (by decide) (by decide) (Nat.le_of_ble_eq_true rfl) (Nat.le_of_ble_eq_true rfl) (Nat.le_of_ble_eq_true rfl) dX4_init_73 rfl rfl rfl rfl ((sc_g_newb (by omega)).trans (by rw [sc_gm_0])) ?_
  refine sc_putF (k := 10) (np := 78) (fs' := [.int (0 : Int32), .int (0 : Int32), .int (10 : Int32), .int (0 : Int32), .int (0 : Int32), sw_vr G (o + 1), sw_vr G (o + 2), sw_vr G (o + 3), sw_vr G (o + 4), sw_vr G (o + 5), sw_vr G (o + 6), .null, .null, .null]) (f' := sc_f G o f0 (.inr (4, [.int (0 : Int32), .int (0 : Int32), .int (10 : Int32), .int (0 : Int32), .int (0 : Int32), sw_vr G (o + 1), sw_vr G (o + 2), sw_vr G (o + 3), sw_vr G (o + 4), sw_vr G (o + 5), sw_vr G (o + 6), .null, .null, .null])) (o + 6) (.inl (sw_cI G, 12, .inl (sc_gm 0)))) sw_kc_4 tyX4_ok nmX4 (by omega) sc_f_at rfl (by decide) rfl sx_f_RX4_43 rfl (by decide) rfl rfl dX4_init_75 rfl rfl sc_f_up ?_
  refine sc_aload_n (np := 79) dX4_init_78 rfl rfl rfl ?_
  refine sc_bipush (np := 81) (v := (10 : Int32)) dX4_init_79 (by decide) rfl ?_
  refine sc_newI (N := 10) (np := 83) (n1 := (o + 8)) (ce1 := 7) (sl1 := 72) (f' := sc_f G o f0 (.inr (4, [.int (0 : Int32), .int (0 : Int32), .int (10 : Int32), .int (0 : Int32), .int (0 : Int32), sw_vr G (o + 1), sw_vr G (o + 2), sw_vr G (o + 3), sw_vr G (o + 4), sw_vr G (o + 5), sw_vr G (o + 6), .null, .null, .null])) (o + 6) (.inl (sw_cI G, 12, .inl (sc_gm 0)))) sx_aI (by decide) (by decide) (Nat.le_of_ble_eq_true rfl) (Nat.le_of_ble_eq_true rfl) (Nat.le_of_ble_eq_true rfl) dX4_init_81 rfl rfl rfl rfl (sc_f_new (by omega) (by omega) (sx_4_7 h)) ?_
  refine sc_putF (k := 11) (np := 86) (fs' := [.int (0 : Int32), .int (0 : Int32), .int (10 : Int32), .int (0 : Int32), .int (0 : Int32), sw_vr G (o + 1), sw_vr G (o + 2), sw_vr G (o + 3), sw_vr G (o + 4), sw_vr G (o + 5), sw_vr G (o + 6), sw_vr G (o + 7), .null, .null]) (f' := sc_f G o f0 (.inr (4, [.int (0 : Int32), .int (0 : Int32), .int (10 : Int32), .int (0 : Int32), .int (0 : Int32), sw_vr G (o + 1), sw_vr G (o + 2), sw_vr G (o + 3), sw_vr G (o + 4), sw_vr G (o + 5), sw_vr G (o + 6), sw_vr G (o + 7), .null, .null])) (o + 6) (.inl (sw_cI G, 12, .inl (sc_gm 0)))) sw_kc_4 tyX4_ok nmX4 (by omega) sc_f_at rfl (by decide) rfl sx_f_RX4_46 rfl (by decide) rfl rfl dX4_init_83 rfl rfl sc_f_up ?_
  refine sc_aload_n (np := 87) dX4_init_86 rfl rfl rfl ?_
  refine sc_bipush (np := 89) (v := (10 : Int32)) dX4_init_87 (by decide) rfl ?_
  refine sc_newI (N := 10) (np := 91) (n1 := (o + 9)) (ce1 := 8) (sl1 := 82) (f' := sc_f G o f0 (.inr (4, [.int (0 : Int32), .int (0 : Int32), .int (10 : Int32), .int (0 : Int32), .int (0 : Int32), sw_vr G (o + 1), sw_vr G (o + 2), sw_vr G (o + 3), sw_vr G (o + 4), sw_vr G (o + 5), sw_vr G (o + 6), sw_vr G (o + 7), .null, .null])) (o + 6) (.inl (sw_cI G, 12, .inl (sc_gm 0)))) sx_aI (by decide) (by decide) (Nat.le_of_ble_eq_true rfl) (Nat.le_of_ble_eq_true rfl) (Nat.le_of_ble_eq_true rfl) dX4_init_89 rfl rfl rfl rfl (sc_f_new (by omega) (by omega) (sx_4_8 h)) ?_
  refine sc_putF (k := 12) (np := 94) (fs' := [.int (0 : Int32), .int (0 : Int32), .int (10 : Int32), .int (0 : Int32), .int (0 : Int32), sw_vr G (o + 1), sw_vr G (o + 2), sw_vr G (o + 3), sw_vr G (o + 4), sw_vr G (o + 5), sw_vr G (o + 6), sw_vr G (o + 7), sw_vr G (o + 8), .null]) (f' := sc_f G o f0 (.inr (4, [.int (0 : Int32), .int (0 : Int32), .int (10 : Int32), .int (0 : Int32), .int (0 : Int32), sw_vr G (o + 1), sw_vr G (o + 2), sw_vr G (o + 3), sw_vr G (o + 4), sw_vr G (o + 5), sw_vr G (o + 6), sw_vr G (o + 7), sw_vr G (o + 8), .null])) (o + 6) (.inl (sw_cI G, 12, .inl (sc_gm 0)))) sw_kc_4 tyX4_ok nmX4 (by omega) sc_f_at rfl (by decide) rfl sx_f_RX4_49 rfl (by decide) rfl rfl dX4_init_91 rfl rfl sc_f_up ?_
  refine sc_aload_n (np := 95) dX4_init_94 rfl rfl rfl ?_
  refine sc_bipush (np := 97) (v := (12 : Int32)) dX4_init_95 (by decide) rfl ?_
  refine sc_newI (N := 12) (np := 99) (n1 := (o + 10)) (ce1 := 9) (sl1 := 94) (f' := sc_f G o f0 (.inr (4, [.int (0 : Int32), .int (0 : Int32), .int (10 : Int32), .int (0 : Int32), .int (0 : Int32), sw_vr G (o + 1), sw_vr G (o + 2), sw_vr G (o + 3), sw_vr G (o + 4), sw_vr G (o + 5), sw_vr G (o + 6), sw_vr G (o + 7), sw_vr G (o + 8), .null])) (o + 6) (.inl (sw_cI G, 12, .inl (sc_gm 0)))) sx_aI (by decide) (by decide) (Nat.le_of_ble_eq_true rfl) (Nat.le_of_ble_eq_true rfl) (Nat.le_of_ble_eq_true rfl) dX4_init_97 rfl rfl rfl rfl (sc_f_new (by omega) (by omega) (sx_4_9 h)) ?_
  refine sc_putF (k := 13) (np := 102) (fs' := [.int (0 : Int32), .int (0 : Int32), .int (10 : Int32), .int (0 : Int32), .int (0 : Int32), sw_vr G (o + 1), sw_vr G (o + 2), sw_vr G (o + 3), sw_vr G (o + 4), sw_vr G (o + 5), sw_vr G (o + 6), sw_vr G (o + 7), sw_vr G (o + 8), sw_vr G (o + 9)]) (f' := sc_f G o f0 (.inr (4, [.int (0 : Int32), .int (0 : Int32), .int (10 : Int32), .int (0 : Int32), .int (0 : Int32), sw_vr G (o + 1), sw_vr G (o + 2), sw_vr G (o + 3), sw_vr G (o + 4), sw_vr G (o + 5), sw_vr G (o + 6), sw_vr G (o + 7), sw_vr G (o + 8), sw_vr G (o + 9)])) (o + 6) (.inl (sw_cI G, 12, .inl (sc_gm 0)))) sw_kc_4 tyX4_ok nmX4 (by omega) sc_f_at rfl (by decide) rfl sx_f_RX4_52 rfl (by decide) rfl rfl dX4_init_99 rfl rfl sc_f_up ?_
  refine sc_iconst (np := 103) (v := (0 : Int32)) dX4_init_102 (by decide) rfl ?_
  refine sc_istore_n (np := 104) (lv' := [some (sw_vr G o), some (.int (0 : Int32))]) dX4_init_103 rfl (by decide) rfl (fun q hq => by rw [show q = 0 by omega]; rfl) rfl ?_
  refine sc_iload_n (np := 105) dX4_init_104 rfl rfl rfl ?_
  refine sc_bipush (np := 107) (v := (12 : Int32)) dX4_init_105 (by decide) rfl ?_
  refine sc_ge0 (tp := 123) (np := 110) dX4_init_107 rfl (by decide) rfl ?_
  refine sc_aload_n (np := 111) dX4_init_110 rfl rfl rfl ?_
  refine sc_get (k := 10) (np := 114) (v := sw_vr G (o + 6)) sw_kc_4 (by omega) sc_f_at (by decide) rfl sx_f_RX4_43 rfl dX4_init_111 rfl ?_
  refine sc_iload_n (np := 115) dX4_init_114 rfl rfl rfl ?_
  refine sc_iconst (np := 116) (v := (-1 : Int32)) dX4_init_115 (by decide) rfl ?_
  refine sc_iast (b := (o + 6)) (N := 12) (g := sc_gm 0) (g' := sc_gm 1) (np := 117) (f' := sc_f G o f0 (.inr (4, [.int (0 : Int32), .int (0 : Int32), .int (10 : Int32), .int (0 : Int32), .int (0 : Int32), sw_vr G (o + 1), sw_vr G (o + 2), sw_vr G (o + 3), sw_vr G (o + 4), sw_vr G (o + 5), sw_vr G (o + 6), sw_vr G (o + 7), sw_vr G (o + 8), sw_vr G (o + 9)])) (o + 6) (.inl (sw_cI G, 12, .inl (sc_gm 1)))) (by omega) (sc_f_atb (by omega)) (by decide) dX4_init_116 rfl (by rw [show ((0 : Int32)).toNatClampNeg = 0 by decide]; exact sc_gm_up 0) (sc_f_upb (by omega)) ?_
  refine sc_iinc (np := 120) (w := (1 : Int32)) (lv' := [some (sw_vr G o), some (.int (1 : Int32))]) dX4_init_117 rfl (by decide) (by decide) rfl (fun q hq => by rw [show q = 0 by omega]; rfl) rfl ?_
  refine sc_goto (tp := 104) dX4_init_120 rfl ?_
  refine sc_iload_n (np := 105) dX4_init_104 rfl rfl rfl ?_
  refine sc_bipush (np := 107) (v := (12 : Int32)) dX4_init_105 (by decide) rfl ?_
  refine sc_ge0 (tp := 123) (np := 110) dX4_init_107 rfl (by decide) rfl ?_
  refine sc_aload_n (np := 111) dX4_init_110 rfl rfl rfl ?_
  refine sc_get (k := 10) (np := 114) (v := sw_vr G (o + 6)) sw_kc_4 (by omega) sc_f_at (by decide) rfl sx_f_RX4_43 rfl dX4_init_111 rfl ?_
  refine sc_iload_n (np := 115) dX4_init_114 rfl rfl rfl ?_
  refine sc_iconst (np := 116) (v := (-1 : Int32)) dX4_init_115 (by decide) rfl ?_
  refine sc_iast (b := (o + 6)) (N := 12) (g := sc_gm 1) (g' := sc_gm 2) (np := 117) (f' := sc_f G o f0 (.inr (4, [.int (0 : Int32), .int (0 : Int32), .int (10 : Int32), .int (0 : Int32), .int (0 : Int32), sw_vr G (o + 1), sw_vr G (o + 2), sw_vr G (o + 3), sw_vr G (o + 4), sw_vr G (o + 5), sw_vr G (o + 6), sw_vr G (o + 7), sw_vr G (o + 8), sw_vr G (o + 9)])) (o + 6) (.inl (sw_cI G, 12, .inl (sc_gm 2)))) (by omega) (sc_f_atb (by omega)) (by decide) dX4_init_116 rfl (by rw [show ((1 : Int32)).toNatClampNeg = 1 by decide]; exact sc_gm_up 1) (sc_f_upb (by omega)) ?_
  refine sc_iinc (np := 120) (w := (2 : Int32)) (lv' := [some (sw_vr G o), some (.int (2 : Int32))]) dX4_init_117 rfl (by decide) (by decide) rfl (fun q hq => by rw [show q = 0 by omega]; rfl) rfl ?_
  refine sc_goto (tp := 104) dX4_init_120 rfl ?_
  refine sc_iload_n (np := 105) dX4_init_104 rfl rfl rfl ?_
  refine sc_bipush (np := 107) (v := (12 : Int32)) dX4_init_105 (by decide) rfl ?_
  refine sc_ge0 (tp := 123) (np := 110) dX4_init_107 rfl (by decide) rfl ?_
  refine sc_aload_n (np := 111) dX4_init_110 rfl rfl rfl ?_
  refine sc_get (k := 10) (np := 114) (v := sw_vr G (o + 6)) sw_kc_4 (by omega) sc_f_at (by decide) rfl sx_f_RX4_43 rfl dX4_init_111 rfl ?_
  refine sc_iload_n (np := 115) dX4_init_114 rfl rfl rfl ?_
  refine sc_iconst (np := 116) (v := (-1 : Int32)) dX4_init_115 (by decide) rfl ?_
  refine sc_iast (b := (o + 6)) (N := 12) (g := sc_gm 2) (g' := sc_gm 3) (np := 117) (f' := sc_f G o f0 (.inr (4, [.int (0 : Int32), .int (0 : Int32), .int (10 : Int32), .int (0 : Int32), .int (0 : Int32), sw_vr G (o + 1), sw_vr G (o + 2), sw_vr G (o + 3), sw_vr G (o + 4), sw_vr G (o + 5), sw_vr G (o + 6), sw_vr G (o + 7), sw_vr G (o + 8), sw_vr G (o + 9)])) (o + 6) (.inl (sw_cI G, 12, .inl (sc_gm 3)))) (by omega) (sc_f_atb (by omega)) (by decide) dX4_init_116 rfl (by rw [show ((2 : Int32)).toNatClampNeg = 2 by decide]; exact sc_gm_up 2) (sc_f_upb (by omega)) ?_
  refine sc_iinc (np := 120) (w := (3 : Int32)) (lv' := [some (sw_vr G o), some (.int (3 : Int32))]) dX4_init_117 rfl (by decide) (by decide) rfl (fun q hq => by rw [show q = 0 by omega]; rfl) rfl ?_
  refine sc_goto (tp := 104) dX4_init_120 rfl ?_
  refine sc_iload_n (np := 105) dX4_init_104 rfl rfl rfl ?_
  refine sc_bipush (np := 107) (v := (12 : Int32)) dX4_init_105 (by decide) rfl ?_
  refine sc_ge0 (tp := 123) (np := 110) dX4_init_107 rfl (by decide) rfl ?_
  refine sc_aload_n (np := 111) dX4_init_110 rfl rfl rfl ?_
  refine sc_get (k := 10) (np := 114) (v := sw_vr G (o + 6)) sw_kc_4 (by omega) sc_f_at (by decide) rfl sx_f_RX4_43 rfl dX4_init_111 rfl ?_
  refine sc_iload_n (np := 115) dX4_init_114 rfl rfl rfl ?_
  refine sc_iconst (np := 116) (v := (-1 : Int32)) dX4_init_115 (by decide) rfl ?_
  refine sc_iast (b := (o + 6)) (N := 12) (g := sc_gm 3) (g' := sc_gm 4) (np := 117) (f' := sc_f G o f0 (.inr (4, [.int (0 : Int32), .int (0 : Int32), .int (10 : Int32), .int (0 : Int32), .int (0 : Int32), sw_vr G (o + 1), sw_vr G (o + 2), sw_vr G (o + 3), sw_vr G (o + 4), sw_vr G (o + 5), sw_vr G (o + 6), sw_vr G (o + 7), sw_vr G (o + 8), sw_vr G (o + 9)])) (o + 6) (.inl (sw_cI G, 12, .inl (sc_gm 4)))) (by omega) (sc_f_atb (by omega)) (by decide) dX4_init_116 rfl (by rw [show ((3 : Int32)).toNatClampNeg = 3 by decide]; exact sc_gm_up 3) (sc_f_upb (by omega)) ?_
  refine sc_iinc (np := 120) (w := (4 : Int32)) (lv' := [some (sw_vr G o), some (.int (4 : Int32))]) dX4_init_117 rfl (by decide) (by decide) rfl (fun q hq => by rw [show q = 0 by omega]; rfl) rfl ?_
  refine sc_goto (tp := 104) dX4_init_120 rfl ?_
  refine sc_iload_n (np := 105) dX4_init_104 rfl rfl rfl ?_
  refine sc_bipush (np := 107) (v := (12 : Int32)) dX4_init_105 (by decide) rfl ?_
  refine sc_ge0 (tp := 123) (np := 110) dX4_init_107 rfl (by decide) rfl ?_
  refine sc_aload_n (np := 111) dX4_init_110 rfl rfl rfl ?_
  refine sc_get (k := 10) (np := 114) (v := sw_vr G (o + 6)) sw_kc_4 (by omega) sc_f_at (by decide) rfl sx_f_RX4_43 rfl dX4_init_111 rfl ?_
  refine sc_iload_n (np := 115) dX4_init_114 rfl rfl rfl ?_
  refine sc_iconst (np := 116) (v := (-1 : Int32)) dX4_init_115 (by decide) rfl ?_
  refine sc_iast (b := (o + 6)) (N := 12) (g := sc_gm 4) (g' := sc_gm 5) (np := 117) (f' := sc_f G o f0 (.inr (4, [.int (0 : Int32), .int (0 : Int32), .int (10 : Int32), .int (0 : Int32), .int (0 : Int32), sw_vr G (o + 1), sw_vr G (o + 2), sw_vr G (o + 3), sw_vr G (o + 4), sw_vr G (o + 5), sw_vr G (o + 6), sw_vr G (o + 7), sw_vr G (o + 8), sw_vr G (o + 9)])) (o + 6) (.inl (sw_cI G, 12, .inl (sc_gm 5)))) (by omega) (sc_f_atb (by omega)) (by decide) dX4_init_116 rfl (by rw [show ((4 : Int32)).toNatClampNeg = 4 by decide]; exact sc_gm_up 4) (sc_f_upb (by omega)) ?_
  refine sc_iinc (np := 120) (w := (5 : Int32)) (lv' := [some (sw_vr G o), some (.int (5 : Int32))]) dX4_init_117 rfl (by decide) (by decide) rfl (fun q hq => by rw [show q = 0 by omega]; rfl) rfl ?_
  refine sc_goto (tp := 104) dX4_init_120 rfl ?_
  refine sc_iload_n (np := 105) dX4_init_104 rfl rfl rfl ?_
  refine sc_bipush (np := 107) (v := (12 : Int32)) dX4_init_105 (by decide) rfl ?_
  refine sc_ge0 (tp := 123) (np := 110) dX4_init_107 rfl (by decide) rfl ?_
  refine sc_aload_n (np := 111) dX4_init_110 rfl rfl rfl ?_
  refine sc_get (k := 10) (np := 114) (v := sw_vr G (o + 6)) sw_kc_4 (by omega) sc_f_at (by decide) rfl sx_f_RX4_43 rfl dX4_init_111 rfl ?_
  refine sc_iload_n (np := 115) dX4_init_114 rfl rfl rfl ?_
  refine sc_iconst (np := 116) (v := (-1 : Int32)) dX4_init_115 (by decide) rfl ?_
  refine sc_iast (b := (o + 6)) (N := 12) (g := sc_gm 5) (g' := sc_gm 6) (np := 117) (f' := sc_f G o f0 (.inr (4, [.int (0 : Int32), .int (0 : Int32), .int (10 : Int32), .int (0 : Int32), .int (0 : Int32), sw_vr G (o + 1), sw_vr G (o + 2), sw_vr G (o + 3), sw_vr G (o + 4), sw_vr G (o + 5), sw_vr G (o + 6), sw_vr G (o + 7), sw_vr G (o + 8), sw_vr G (o + 9)])) (o + 6) (.inl (sw_cI G, 12, .inl (sc_gm 6)))) (by omega) (sc_f_atb (by omega)) (by decide) dX4_init_116 rfl (by rw [show ((5 : Int32)).toNatClampNeg = 5 by decide]; exact sc_gm_up 5) (sc_f_upb (by omega)) ?_
  refine sc_iinc (np := 120) (w := (6 : Int32)) (lv' := [some (sw_vr G o), some (.int (6 : Int32))]) dX4_init_117 rfl (by decide) (by decide) rfl (fun q hq => by rw [show q = 0 by omega]; rfl) rfl ?_
  refine sc_goto (tp := 104) dX4_init_120 rfl ?_
  refine sc_iload_n (np := 105) dX4_init_104 rfl rfl rfl ?_
  refine sc_bipush (np := 107) (v := (12 : Int32)) dX4_init_105 (by decide) rfl ?_
  refine sc_ge0 (tp := 123) (np := 110) dX4_init_107 rfl (by decide) rfl ?_
  refine sc_aload_n (np := 111) dX4_init_110 rfl rfl rfl ?_
  refine sc_get (k := 10) (np := 114) (v := sw_vr G (o + 6)) sw_kc_4 (by omega) sc_f_at (by decide) rfl sx_f_RX4_43 rfl dX4_init_111 rfl ?_
  refine sc_iload_n (np := 115) dX4_init_114 rfl rfl rfl ?_
  refine sc_iconst (np := 116) (v := (-1 : Int32)) dX4_init_115 (by decide) rfl ?_
  refine sc_iast (b := (o + 6)) (N := 12) (g := sc_gm 6) (g' := sc_gm 7) (np := 117) (f' := sc_f G o f0 (.inr (4, [.int (0 : Int32), .int (0 : Int32), .int (10 : Int32), .int (0 : Int32), .int (0 : Int32), sw_vr G (o + 1), sw_vr G (o + 2), sw_vr G (o + 3), sw_vr G (o + 4), sw_vr G (o + 5), sw_vr G (o + 6), sw_vr G (o + 7), sw_vr G (o + 8), sw_vr G (o + 9)])) (o + 6) (.inl (sw_cI G, 12, .inl (sc_gm 7)))) (by omega) (sc_f_atb (by omega)) (by decide) dX4_init_116 rfl (by rw [show ((6 : Int32)).toNatClampNeg = 6 by decide]; exact sc_gm_up 6) (sc_f_upb (by omega)) ?_
  refine sc_iinc (np := 120) (w := (7 : Int32)) (lv' := [some (sw_vr G o), some (.int (7 : Int32))]) dX4_init_117 rfl (by decide) (by decide) rfl (fun q hq => by rw [show q = 0 by omega]; rfl) rfl ?_
  refine sc_goto (tp := 104) dX4_init_120 rfl ?_
  refine sc_iload_n (np := 105) dX4_init_104 rfl rfl rfl ?_
  refine sc_bipush (np := 107) (v := (12 : Int32)) dX4_init_105 (by decide) rfl ?_
  refine sc_ge0 (tp := 123) (np := 110) dX4_init_107 rfl (by decide) rfl ?_
  refine sc_aload_n (np := 111) dX4_init_110 rfl rfl rfl ?_
  refine sc_get (k := 10) (np := 114) (v := sw_vr G (o + 6)) sw_kc_4 (by omega) sc_f_at (by decide) rfl sx_f_RX4_43 rfl dX4_init_111 rfl ?_
  refine sc_iload_n (np := 115) dX4_init_114 rfl rfl rfl ?_
  refine sc_iconst (np := 116) (v := (-1 : Int32)) dX4_init_115 (by decide) rfl ?_
  refine sc_iast (b := (o + 6)) (N := 12) (g := sc_gm 7) (g' := sc_gm 8) (np := 117) (f' := sc_f G o f0 (.inr (4, [.int (0 : Int32), .int (0 : Int32), .int (10 : Int32), .int (0 : Int32), .int (0 : Int32), sw_vr G (o + 1), sw_vr G (o + 2), sw_vr G (o + 3), sw_vr G (o + 4), sw_vr G (o + 5), sw_vr G (o + 6), sw_vr G (o + 7), sw_vr G (o + 8), sw_vr G (o + 9)])) (o + 6) (.inl (sw_cI G, 12, .inl (sc_gm 8)))) (by omega) (sc_f_atb (by omega)) (by decide) dX4_init_116 rfl (by rw [show ((7 : Int32)).toNatClampNeg = 7 by decide]; exact sc_gm_up 7) (sc_f_upb (by omega)) ?_
  refine sc_iinc (np := 120) (w := (8 : Int32)) (lv' := [some (sw_vr G o), some (.int (8 : Int32))]) dX4_init_117 rfl (by decide) (by decide) rfl (fun q hq => by rw [show q = 0 by omega]; rfl) rfl ?_
  refine sc_goto (tp := 104) dX4_init_120 rfl ?_
  refine sc_iload_n (np := 105) dX4_init_104 rfl rfl rfl ?_
  refine sc_bipush (np := 107) (v := (12 : Int32)) dX4_init_105 (by decide) rfl ?_
  refine sc_ge0 (tp := 123) (np := 110) dX4_init_107 rfl (by decide) rfl ?_
  refine sc_aload_n (np := 111) dX4_init_110 rfl rfl rfl ?_
  refine sc_get (k := 10) (np := 114) (v := sw_vr G (o + 6)) sw_kc_4 (by omega) sc_f_at (by decide) rfl sx_f_RX4_43 rfl dX4_init_111 rfl ?_
  refine sc_iload_n (np := 115) dX4_init_114 rfl rfl rfl ?_
  refine sc_iconst (np := 116) (v := (-1 : Int32)) dX4_init_115 (by decide) rfl ?_
  refine sc_iast (b := (o + 6)) (N := 12) (g := sc_gm 8) (g' := sc_gm 9) (np := 117) (f' := sc_f G o f0 (.inr (4, [.int (0 : Int32), .int (0 : Int32), .int (10 : Int32), .int (0 : Int32), .int (0 : Int32), sw_vr G (o + 1), sw_vr G (o + 2), sw_vr G (o + 3), sw_vr G (o + 4), sw_vr G (o + 5), sw_vr G (o + 6), sw_vr G (o + 7), sw_vr G (o + 8), sw_vr G (o + 9)])) (o + 6) (.inl (sw_cI G, 12, .inl (sc_gm 9)))) (by omega) (sc_f_atb (by omega)) (by decide) dX4_init_116 rfl (by rw [show ((8 : Int32)).toNatClampNeg = 8 by decide]; exact sc_gm_up 8) (sc_f_upb (by omega)) ?_
  refine sc_iinc (np := 120) (w := (9 : Int32)) (lv' := [some (sw_vr G o), some (.int (9 : Int32))]) dX4_init_117 rfl (by decide) (by decide) rfl (fun q hq => by rw [show q = 0 by omega]; rfl) rfl ?_
  refine sc_goto (tp := 104) dX4_init_120 rfl ?_
  refine sc_iload_n (np := 105) dX4_init_104 rfl rfl rfl ?_
  refine sc_bipush (np := 107) (v := (12 : Int32)) dX4_init_105 (by decide) rfl ?_
  refine sc_ge0 (tp := 123) (np := 110) dX4_init_107 rfl (by decide) rfl ?_
  refine sc_aload_n (np := 111) dX4_init_110 rfl rfl rfl ?_
  refine sc_get (k := 10) (np := 114) (v := sw_vr G (o + 6)) sw_kc_4 (by omega) sc_f_at (by decide) rfl sx_f_RX4_43 rfl dX4_init_111 rfl ?_
  refine sc_iload_n (np := 115) dX4_init_114 rfl rfl rfl ?_
  refine sc_iconst (np := 116) (v := (-1 : Int32)) dX4_init_115 (by decide) rfl ?_
  refine sc_iast (b := (o + 6)) (N := 12) (g := sc_gm 9) (g' := sc_gm 10) (np := 117) (f' := sc_f G o f0 (.inr (4, [.int (0 : Int32), .int (0 : Int32), .int (10 : Int32), .int (0 : Int32), .int (0 : Int32), sw_vr G (o + 1), sw_vr G (o + 2), sw_vr G (o + 3), sw_vr G (o + 4), sw_vr G (o + 5), sw_vr G (o + 6), sw_vr G (o + 7), sw_vr G (o + 8), sw_vr G (o + 9)])) (o + 6) (.inl (sw_cI G, 12, .inl (sc_gm 10)))) (by omega) (sc_f_atb (by omega)) (by decide) dX4_init_116 rfl (by rw [show ((9 : Int32)).toNatClampNeg = 9 by decide]; exact sc_gm_up 9) (sc_f_upb (by omega)) ?_
  refine sc_iinc (np := 120) (w := (10 : Int32)) (lv' := [some (sw_vr G o), some (.int (10 : Int32))]) dX4_init_117 rfl (by decide) (by decide) rfl (fun q hq => by rw [show q = 0 by omega]; rfl) rfl ?_
  refine sc_goto (tp := 104) dX4_init_120 rfl ?_
  refine sc_iload_n (np := 105) dX4_init_104 rfl rfl rfl ?_
  refine sc_bipush (np := 107) (v := (12 : Int32)) dX4_init_105 (by decide) rfl ?_
  refine sc_ge0 (tp := 123) (np := 110) dX4_init_107 rfl (by decide) rfl ?_
  refine sc_aload_n (np := 111) dX4_init_110 rfl rfl rfl ?_
  refine sc_get (k := 10) (np := 114) (v := sw_vr G (o + 6)) sw_kc_4 (by omega) sc_f_at (by decide) rfl sx_f_RX4_43 rfl dX4_init_111 rfl ?_
  refine sc_iload_n (np := 115) dX4_init_114 rfl rfl rfl ?_
  refine sc_iconst (np := 116) (v := (-1 : Int32)) dX4_init_115 (by decide) rfl ?_
  refine sc_iast (b := (o + 6)) (N := 12) (g := sc_gm 10) (g' := sc_gm 11) (np := 117) (f' := sc_f G o f0 (.inr (4, [.int (0 : Int32), .int (0 : Int32), .int (10 : Int32), .int (0 : Int32), .int (0 : Int32), sw_vr G (o + 1), sw_vr G (o + 2), sw_vr G (o + 3), sw_vr G (o + 4), sw_vr G (o + 5), sw_vr G (o + 6), sw_vr G (o + 7), sw_vr G (o + 8), sw_vr G (o + 9)])) (o + 6) (.inl (sw_cI G, 12, .inl (sc_gm 11)))) (by omega) (sc_f_atb (by omega)) (by decide) dX4_init_116 rfl (by rw [show ((10 : Int32)).toNatClampNeg = 10 by decide]; exact sc_gm_up 10) (sc_f_upb (by omega)) ?_
  refine sc_iinc (np := 120) (w := (11 : Int32)) (lv' := [some (sw_vr G o), some (.int (11 : Int32))]) dX4_init_117 rfl (by decide) (by decide) rfl (fun q hq => by rw [show q = 0 by omega]; rfl) rfl ?_
  refine sc_goto (tp := 104) dX4_init_120 rfl ?_
  refine sc_iload_n (np := 105) dX4_init_104 rfl rfl rfl ?_
  refine sc_bipush (np := 107) (v := (12 : Int32)) dX4_init_105 (by decide) rfl ?_
  refine sc_ge0 (tp := 123) (np := 110) dX4_init_107 rfl (by decide) rfl ?_
  refine sc_aload_n (np := 111) dX4_init_110 rfl rfl rfl ?_
  refine sc_get (k := 10) (np := 114) (v := sw_vr G (o + 6)) sw_kc_4 (by omega) sc_f_at (by decide) rfl sx_f_RX4_43 rfl dX4_init_111 rfl ?_
  refine sc_iload_n (np := 115) dX4_init_114 rfl rfl rfl ?_
  refine sc_iconst (np := 116) (v := (-1 : Int32)) dX4_init_115 (by decide) rfl ?_
  refine sc_iast (b := (o + 6)) (N := 12) (g := sc_gm 11) (g' := sc_gm 12) (np := 117) (f' := sc_f G o f0 (.inr (4, [.int (0 : Int32), .int (0 : Int32), .int (10 : Int32), .int (0 : Int32), .int (0 : Int32), sw_vr G (o + 1), sw_vr G (o + 2), sw_vr G (o + 3), sw_vr G (o + 4), sw_vr G (o + 5), sw_vr G (o + 6), sw_vr G (o + 7), sw_vr G (o + 8), sw_vr G (o + 9)])) (o + 6) (.inl (sw_cI G, 12, .inl (sc_gm 12)))) (by omega) (sc_f_atb (by omega)) (by decide) dX4_init_116 rfl (by rw [show ((11 : Int32)).toNatClampNeg = 11 by decide]; exact sc_gm_up 11) (sc_f_upb (by omega)) ?_
  refine sc_iinc (np := 120) (w := (12 : Int32)) (lv' := [some (sw_vr G o), some (.int (12 : Int32))]) dX4_init_117 rfl (by decide) (by decide) rfl (fun q hq => by rw [show q = 0 by omega]; rfl) rfl ?_
  refine sc_goto (tp := 104) dX4_init_120 rfl ?_
  refine sc_iload_n (np := 105) dX4_init_104 rfl rfl rfl ?_
  refine sc_bipush (np := 107) (v := (12 : Int32)) dX4_init_105 (by decide) rfl ?_
  refine sc_ge1 (tp := 123) dX4_init_107 rfl (by decide) ?_
  refine sc_cg (f' := sc_g G o f0 (.inr (4, [.int (0 : Int32), .int (0 : Int32), .int (10 : Int32), .int (0 : Int32), .int (0 : Int32), sw_vr G (o + 1), sw_vr G (o + 2), sw_vr G (o + 3), sw_vr G (o + 4), sw_vr G (o + 5), sw_vr G (o + 6), sw_vr G (o + 7), sw_vr G (o + 8), sw_vr G (o + 9)]))) (fun i _ => by rw [sc_f_done (sx_4_6 h)]) ?_
  exact sc_ret dX4_init_123 (sc_g_end (sx_4_0 h))
set_option maxRecDepth 100000 in
set_option maxHeartbeats 4000000 in
theorem hc_X3 {G : sw_G} {o : Nat} {f0 : Nat → va_E} (h : sw_kd o = 3) (h0 : f0 o = .inr (3, [.int 0, .int 0, .null, .null, .null, .null])) : sc_Ev G yX3_init cX3_init 1 1 4 390 [sw_vr G o] (o + 1) f0 (o + 5) (sc_t G o f0) := by
  refine sc_Ev_of (own := RX3) (lv0 := [some (sw_vr G o)]) (by decide) rfl rfl (Nat.le_of_ble_eq_true rfl) rfl ?_
  refine sc_cg (f' := sc_g G o f0 (.inr (3, [.int 0, .int 0, .null, .null, .null, .null]))) (sc_ent h0) ?_
  refine sc_aload_n (np := 1) dX3_init_0 rfl rfl rfl ?_
  refine sc_oi (np := 4) sx_m_RX3_1 sx_ow (Nat.le_of_ble_eq_true rfl) (Nat.le_of_ble_eq_true rfl) dX3_init_1 rfl ?_
  refine sc_aload_n (np := 5) dX3_init_4 rfl rfl rfl ?_
  refine sc_iconst (np := 6) (v := (0 : Int32)) dX3_init_5 (by decide) rfl ?_
  refine sc_put (k := 0) (np := 9) (fs' := [.int (0 : Int32), .int 0, .null, .null, .null, .null]) (f' := sc_g G o f0 (.inr (3, [.int (0 : Int32), .int 0, .null, .null, .null, .null]))) sw_kc_3 tyX3_ok nmX3 (by omega) sc_g_at rfl (by decide) rfl sx_f_RX3_7 rfl rfl rfl dX3_init_6 rfl rfl sc_g_up ?_
  refine sc_aload_n (np := 10) dX3_init_9 rfl rfl rfl ?_
  refine sc_iconst (np := 11) (v := (0 : Int32)) dX3_init_10 (by decide) rfl ?_
  refine sc_put (k := 1) (np := 14) (fs' := [.int (0 : Int32), .int (0 : Int32), .null, .null, .null, .null]) (f' := sc_g G o f0 (.inr (3, [.int (0 : Int32), .int (0 : Int32), .null, .null, .null, .null]))) sw_kc_3 tyX3_ok nmX3 (by omega) sc_g_at rfl (by decide) rfl sx_f_RX3_13 rfl rfl rfl dX3_init_11 rfl rfl sc_g_up ?_
  refine sc_aload_n (np := 15) dX3_init_14 rfl rfl rfl ?_
  refine sc_sipush (np := 18) (v := (128 : Int32)) dX3_init_15 (by decide) rfl ?_
  refine sc_newI (N := 128) (np := 20) (n1 := (o + 2)) (ce1 := 1) (sl1 := 128) (f' := sc_g G o f0 (.inr (3, [.int (0 : Int32), .int (0 : Int32), .null, .null, .null, .null]))) sx_aI (by decide) (by decide) (Nat.le_of_ble_eq_true rfl) (Nat.le_of_ble_eq_true rfl) (Nat.le_of_ble_eq_true rfl) dX3_init_18 rfl rfl rfl rfl (sc_g_new (by omega) (sx_3_1 h)) ?_
  refine sc_putF (k := 2) (np := 23) (fs' := [.int (0 : Int32), .int (0 : Int32), sw_vr G (o + 1), .null, .null, .null]) (f' := sc_g G o f0 (.inr (3, [.int (0 : Int32), .int (0 : Int32), sw_vr G (o + 1), .null, .null, .null]))) sw_kc_3 tyX3_ok nmX3 (by omega) sc_g_at rfl (by decide) rfl sx_f_RX3_17 rfl (by decide) rfl rfl dX3_init_20 rfl rfl sc_g_up ?_
  refine sc_aload_n (np := 24) dX3_init_23 rfl rfl rfl ?_
  refine sc_sipush (np := 27) (v := (128 : Int32)) dX3_init_24 (by decide) rfl ?_
  refine sc_newI (N := 128) (np := 29) (n1 := (o + 3)) (ce1 := 2) (sl1 := 256) (f' := sc_g G o f0 (.inr (3, [.int (0 : Int32), .int (0 : Int32), sw_vr G (o + 1), .null, .null, .null]))) sx_aI (by decide) (by decide) (Nat.le_of_ble_eq_true rfl) (Nat.le_of_ble_eq_true rfl) (Nat.le_of_ble_eq_true rfl) dX3_init_27 rfl rfl rfl rfl (sc_g_new (by omega) (sx_3_2 h)) ?_
  refine sc_putF (k := 3) (np := 32) (fs' := [.int (0 : Int32), .int (0 : Int32), sw_vr G (o + 1), sw_vr G (o + 2), .null, .null]) (f' := sc_g G o f0 (.inr (3, [.int (0 : Int32), .int (0 : Int32), sw_vr G (o + 1), sw_vr G (o + 2), .null, .null]))) sw_kc_3 tyX3_ok nmX3 (by omega) sc_g_at rfl (by decide) rfl sx_f_RX3_21 rfl (by decide) rfl rfl dX3_init_29 rfl rfl sc_g_up ?_
  refine sc_aload_n (np := 33) dX3_init_32 rfl rfl rfl ?_
  refine sc_sipush (np := 36) (v := (128 : Int32)) dX3_init_33 (by decide) rfl ?_
  refine sc_newI (N := 128) (np := 38) (n1 := (o + 4)) (ce1 := 3) (sl1 := 384) (f' := sc_g G o f0 (.inr (3, [.int (0 : Int32), .int (0 : Int32), sw_vr G (o + 1), sw_vr G (o + 2), .null, .null]))) sx_aI (by decide) (by decide) (Nat.le_of_ble_eq_true rfl) (Nat.le_of_ble_eq_true rfl) (Nat.le_of_ble_eq_true rfl) dX3_init_36 rfl rfl rfl rfl (sc_g_new (by omega) (sx_3_3 h)) ?_
  refine sc_putF (k := 4) (np := 41) (fs' := [.int (0 : Int32), .int (0 : Int32), sw_vr G (o + 1), sw_vr G (o + 2), sw_vr G (o + 3), .null]) (f' := sc_g G o f0 (.inr (3, [.int (0 : Int32), .int (0 : Int32), sw_vr G (o + 1), sw_vr G (o + 2), sw_vr G (o + 3), .null]))) sw_kc_3 tyX3_ok nmX3 (by omega) sc_g_at rfl (by decide) rfl sx_f_RX3_24 rfl (by decide) rfl rfl dX3_init_38 rfl rfl sc_g_up ?_
  refine sc_aload_n (np := 42) dX3_init_41 rfl rfl rfl ?_
  refine sc_bipush (np := 44) (v := (6 : Int32)) dX3_init_42 (by decide) rfl ?_
  refine sc_newI (N := 6) (np := 46) (n1 := (o + 5)) (ce1 := 4) (sl1 := 390) (f' := sc_g G o f0 (.inr (3, [.int (0 : Int32), .int (0 : Int32), sw_vr G (o + 1), sw_vr G (o + 2), sw_vr G (o + 3), .null]))) sx_aI (by decide) (by decide) (Nat.le_of_ble_eq_true rfl) (Nat.le_of_ble_eq_true rfl) (Nat.le_of_ble_eq_true rfl) dX3_init_44 rfl rfl rfl rfl (sc_g_new (by omega) (sx_3_4 h)) ?_
  refine sc_putF (k := 5) (np := 49) (fs' := [.int (0 : Int32), .int (0 : Int32), sw_vr G (o + 1), sw_vr G (o + 2), sw_vr G (o + 3), sw_vr G (o + 4)]) (f' := sc_g G o f0 (.inr (3, [.int (0 : Int32), .int (0 : Int32), sw_vr G (o + 1), sw_vr G (o + 2), sw_vr G (o + 3), sw_vr G (o + 4)]))) sw_kc_3 tyX3_ok nmX3 (by omega) sc_g_at rfl (by decide) rfl sx_f_RX3_27 rfl (by decide) rfl rfl dX3_init_46 rfl rfl sc_g_up ?_
  exact sc_ret dX3_init_49 (sc_g_end (sx_3_0 h))
set_option maxRecDepth 100000 in
set_option maxHeartbeats 4000000 in
theorem hc_X5 {G : sw_G} {o : Nat} {f0 : Nat → va_E} (h : sw_kd o = 5) (h0 : f0 o = .inr (5, [.int 0, .int 0, .int 0, .null, .int 0])) : sc_Ev G yX5_init cX5_init 1 1 1 60 [sw_vr G o] (o + 1) f0 (o + 2) (sc_t G o f0) := by
  refine sc_Ev_of (own := RX5) (lv0 := [some (sw_vr G o)]) (by decide) rfl rfl (Nat.le_of_ble_eq_true rfl) rfl ?_
  refine sc_cg (f' := sc_g G o f0 (.inr (5, [.int 0, .int 0, .int 0, .null, .int 0]))) (sc_ent h0) ?_
  refine sc_aload_n (np := 1) dX5_init_0 rfl rfl rfl ?_
  refine sc_oi (np := 4) sx_m_RX5_3 sx_ow (Nat.le_of_ble_eq_true rfl) (Nat.le_of_ble_eq_true rfl) dX5_init_1 rfl ?_
  refine sc_aload_n (np := 5) dX5_init_4 rfl rfl rfl ?_
  refine sc_iconst (np := 6) (v := (0 : Int32)) dX5_init_5 (by decide) rfl ?_
  refine sc_put (k := 0) (np := 9) (fs' := [.int (0 : Int32), .int 0, .int 0, .null, .int 0]) (f' := sc_g G o f0 (.inr (5, [.int (0 : Int32), .int 0, .int 0, .null, .int 0]))) sw_kc_5 tyX5_ok nmX5 (by omega) sc_g_at rfl (by decide) rfl sx_f_RX5_9 rfl rfl rfl dX5_init_6 rfl rfl sc_g_up ?_
  refine sc_aload_n (np := 10) dX5_init_9 rfl rfl rfl ?_
  refine sc_iconst (np := 11) (v := (0 : Int32)) dX5_init_10 (by decide) rfl ?_
  refine sc_put (k := 1) (np := 14) (fs' := [.int (0 : Int32), .int (0 : Int32), .int 0, .null, .int 0]) (f' := sc_g G o f0 (.inr (5, [.int (0 : Int32), .int (0 : Int32), .int 0, .null, .int 0]))) sw_kc_5 tyX5_ok nmX5 (by omega) sc_g_at rfl (by decide) rfl sx_f_RX5_15 rfl rfl rfl dX5_init_11 rfl rfl sc_g_up ?_
  refine sc_aload_n (np := 15) dX5_init_14 rfl rfl rfl ?_
  refine sc_iconst (np := 16) (v := (0 : Int32)) dX5_init_15 (by decide) rfl ?_
  refine sc_put (k := 2) (np := 19) (fs' := [.int (0 : Int32), .int (0 : Int32), .int (0 : Int32), .null, .int 0]) (f' := sc_g G o f0 (.inr (5, [.int (0 : Int32), .int (0 : Int32), .int (0 : Int32), .null, .int 0]))) sw_kc_5 tyX5_ok nmX5 (by omega) sc_g_at rfl (by decide) rfl sx_f_RX5_18 rfl rfl rfl dX5_init_16 rfl rfl sc_g_up ?_
  refine sc_aload_n (np := 20) dX5_init_19 rfl rfl rfl ?_
  refine sc_bipush (np := 22) (v := (60 : Int32)) dX5_init_20 (by decide) rfl ?_
  refine sc_newJ (N := 60) (np := 24) (n1 := (o + 2)) (ce1 := 1) (sl1 := 60) (f' := sc_g G o f0 (.inr (5, [.int (0 : Int32), .int (0 : Int32), .int (0 : Int32), .null, .int 0]))) sx_aJ (by decide) (by decide) (Nat.le_of_ble_eq_true rfl) (Nat.le_of_ble_eq_true rfl) (Nat.le_of_ble_eq_true rfl) dX5_init_22 rfl rfl rfl rfl (sc_g_new (by omega) (sx_5_1 h)) ?_
  refine sc_putF (k := 3) (np := 27) (fs' := [.int (0 : Int32), .int (0 : Int32), .int (0 : Int32), sw_vr G (o + 1), .int 0]) (f' := sc_g G o f0 (.inr (5, [.int (0 : Int32), .int (0 : Int32), .int (0 : Int32), sw_vr G (o + 1), .int 0]))) sw_kc_5 tyX5_ok nmX5 (by omega) sc_g_at rfl (by decide) rfl sx_f_RX5_21 rfl (by decide) rfl rfl dX5_init_24 rfl rfl sc_g_up ?_
  refine sc_aload_n (np := 28) dX5_init_27 rfl rfl rfl ?_
  refine sc_iconst (np := 29) (v := (0 : Int32)) dX5_init_28 (by decide) rfl ?_
  refine sc_put (k := 4) (np := 32) (fs' := [.int (0 : Int32), .int (0 : Int32), .int (0 : Int32), sw_vr G (o + 1), .int (0 : Int32)]) (f' := sc_g G o f0 (.inr (5, [.int (0 : Int32), .int (0 : Int32), .int (0 : Int32), sw_vr G (o + 1), .int (0 : Int32)]))) sw_kc_5 tyX5_ok nmX5 (by omega) sc_g_at rfl (by decide) rfl sx_f_RX5_25 rfl rfl rfl dX5_init_29 rfl rfl sc_g_up ?_
  exact sc_ret dX5_init_32 (sc_g_end (sx_5_0 h))
set_option maxRecDepth 100000 in
set_option maxHeartbeats 4000000 in
theorem hc_X6 {G : sw_G} {f0 : Nat → va_E} (h0 : f0 16 = .inr (6, [.int 0, .null, .null, .int 0, .int 0])) : sc_Ev G yX6_init cX6_init 1 2 6 516 [sw_vr G 16] 17 f0 23 (sc_t G 16 f0) := by
  refine sc_Ev_of (own := RX6) (lv0 := [some (sw_vr G 16)]) (by decide) rfl rfl (Nat.le_of_ble_eq_true rfl) rfl ?_
  refine sc_cg (f' := sc_g G 16 f0 (.inr (6, [.int 0, .null, .null, .int 0, .int 0]))) (sc_ent h0) ?_
  refine sc_aload_n (np := 1) dX6_init_0 rfl rfl rfl ?_
  refine sc_oi (np := 4) sx_m_RX6_1 sx_ow (Nat.le_of_ble_eq_true rfl) (Nat.le_of_ble_eq_true rfl) dX6_init_1 rfl ?_
  refine sc_aload_n (np := 5) dX6_init_4 rfl rfl rfl ?_
  refine sc_iconst (np := 6) (v := (0 : Int32)) dX6_init_5 (by decide) rfl ?_
  refine sc_put (k := 0) (np := 9) (fs' := [.int (0 : Int32), .null, .null, .int 0, .int 0]) (f' := sc_g G 16 f0 (.inr (6, [.int (0 : Int32), .null, .null, .int 0, .int 0]))) sw_kc_6 tyX6_ok nmX6 (by omega) sc_g_at rfl (by decide) rfl sx_f_RX6_7 rfl rfl rfl dX6_init_6 rfl rfl sc_g_up ?_
  refine sc_aload_n (np := 10) dX6_init_9 rfl rfl rfl ?_
  refine sc_new (ci := 3) (fs := [.int 0, .int 0, .null, .null, .null, .null]) (np := 13) (n1 := 18) (ce1 := 1) (sl1 := 6) sw_kc_3 tyX3_ok sx_c_RX6_13 sx_i_3 sx_z_3 (by decide) (Nat.le_of_ble_eq_true rfl) (Nat.le_of_ble_eq_true rfl) dX6_init_10 rfl rfl rfl rfl ?_
  refine sc_dup (np := 14) dX6_init_13 rfl rfl ?_
  refine sc_initN (As := []) (rest := [sw_vr G 17, sw_vr G 16]) (np := 17) (n1 := 22) (ce1 := 5) (sl1 := 396) (f' := sc_g G 16 f0 (.inr (6, [.int (0 : Int32), .null, .null, .int 0, .int 0]))) (hc_X3 (by decide +kernel) (va_up_self _ _ _)) sx_mw_3 rfl sx_im_3 (by decide) dX6_init_14 (Nat.le_of_ble_eq_true rfl) (Nat.le_of_ble_eq_true rfl) rfl (Nat.le_of_ble_eq_true rfl) rfl (by omega) rfl rfl rfl (Nat.le_of_ble_eq_true rfl) (Nat.le_of_ble_eq_true rfl) (sc_g_back (by omega)) ?_
  refine sc_putF (k := 1) (np := 20) (fs' := [.int (0 : Int32), sw_vr G 17, .null, .int 0, .int 0]) (f' := sc_g G 16 f0 (.inr (6, [.int (0 : Int32), sw_vr G 17, .null, .int 0, .int 0]))) sw_kc_6 tyX6_ok nmX6 (by omega) sc_g_at rfl (by decide) rfl sx_f_RX6_16 rfl (by decide) rfl rfl dX6_init_17 rfl rfl sc_g_up ?_
  refine sc_aload_n (np := 21) dX6_init_20 rfl rfl rfl ?_
  refine sc_bipush (np := 23) (v := (120 : Int32)) dX6_init_21 (by decide) rfl ?_
  refine sc_newI (N := 120) (np := 25) (n1 := 23) (ce1 := 6) (sl1 := 516) (f' := sc_g G 16 f0 (.inr (6, [.int (0 : Int32), sw_vr G 17, .null, .int 0, .int 0]))) sx_aI (by decide) (by decide) (Nat.le_of_ble_eq_true rfl) (Nat.le_of_ble_eq_true rfl) (Nat.le_of_ble_eq_true rfl) dX6_init_23 rfl rfl rfl rfl (sc_g_new (by omega) (sc_ai (by decide +kernel) (by decide +kernel) (by decide +kernel))) ?_
  refine sc_putF (k := 2) (np := 28) (fs' := [.int (0 : Int32), sw_vr G 17, sw_vr G 22, .int 0, .int 0]) (f' := sc_g G 16 f0 (.inr (6, [.int (0 : Int32), sw_vr G 17, sw_vr G 22, .int 0, .int 0]))) sw_kc_6 tyX6_ok nmX6 (by omega) sc_g_at rfl (by decide) rfl sx_f_RX6_20 rfl (by decide) rfl rfl dX6_init_25 rfl rfl sc_g_up ?_
  refine sc_aload_n (np := 29) dX6_init_28 rfl rfl rfl ?_
  refine sc_iconst (np := 30) (v := (0 : Int32)) dX6_init_29 (by decide) rfl ?_
  refine sc_put (k := 3) (np := 33) (fs' := [.int (0 : Int32), sw_vr G 17, sw_vr G 22, .int (0 : Int32), .int 0]) (f' := sc_g G 16 f0 (.inr (6, [.int (0 : Int32), sw_vr G 17, sw_vr G 22, .int (0 : Int32), .int 0]))) sw_kc_6 tyX6_ok nmX6 (by omega) sc_g_at rfl (by decide) rfl sx_f_RX6_24 rfl rfl rfl dX6_init_30 rfl rfl sc_g_up ?_
  refine sc_aload_n (np := 34) dX6_init_33 rfl rfl rfl ?_
  refine sc_iconst (np := 35) (v := (-1 : Int32)) dX6_init_34 (by decide) rfl ?_
  refine sc_put (k := 4) (np := 38) (fs' := [.int (0 : Int32), sw_vr G 17, sw_vr G 22, .int (0 : Int32), .int (-1 : Int32)]) (f' := sc_g G 16 f0 (.inr (6, [.int (0 : Int32), sw_vr G 17, sw_vr G 22, .int (0 : Int32), .int (-1 : Int32)]))) sw_kc_6 tyX6_ok nmX6 (by omega) sc_g_at rfl (by decide) rfl sx_f_RX6_27 rfl rfl rfl dX6_init_35 rfl rfl sc_g_up ?_
  exact sc_ret dX6_init_38 (sc_g_end sx_6_0)
