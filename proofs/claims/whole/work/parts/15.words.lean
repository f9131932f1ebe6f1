theorem sw_kc_0 : sw_kc 0 RX0 TX0 5 := ⟨rfl, fun w h => sw_wm ((show ∀ w ∈ u_ws RX0 TX0 5, w ∈ lw_tbl by decide +kernel) w h) ((show ∀ w ∈ u_ws RX0 TX0 5, goodWord w = true by decide +kernel) w h), by decide, by decide⟩
theorem sw_kc_1 : sw_kc 1 RX1 TX1 6 := ⟨rfl, fun w h => sw_wm ((show ∀ w ∈ u_ws RX1 TX1 6, w ∈ lw_tbl by decide +kernel) w h) ((show ∀ w ∈ u_ws RX1 TX1 6, goodWord w = true by decide +kernel) w h), by decide, by decide⟩
theorem sw_kc_2 : sw_kc 2 RX2 TX2 8 := ⟨rfl, fun w h => sw_wm ((show ∀ w ∈ u_ws RX2 TX2 8, w ∈ lw_tbl by decide +kernel) w h) ((show ∀ w ∈ u_ws RX2 TX2 8, goodWord w = true by decide +kernel) w h), by decide, by decide⟩
theorem sw_kc_3 : sw_kc 3 RX3 TX3 6 := ⟨rfl, fun w h => sw_wm ((show ∀ w ∈ u_ws RX3 TX3 6, w ∈ lw_tbl by decide +kernel) w h) ((show ∀ w ∈ u_ws RX3 TX3 6, goodWord w = true by decide +kernel) w h), by decide, by decide⟩
theorem sw_kc_4 : sw_kc 4 RX4 TX4 14 := ⟨rfl, fun w h => sw_wm ((show ∀ w ∈ u_ws RX4 TX4 14, w ∈ lw_tbl by decide +kernel) w h) ((show ∀ w ∈ u_ws RX4 TX4 14, goodWord w = true by decide +kernel) w h), by decide, by decide⟩
theorem sw_kc_5 : sw_kc 5 RX5 TX5 5 := ⟨rfl, fun w h => sw_wm ((show ∀ w ∈ u_ws RX5 TX5 5, w ∈ lw_tbl by decide +kernel) w h) ((show ∀ w ∈ u_ws RX5 TX5 5, goodWord w = true by decide +kernel) w h), by decide, by decide⟩
theorem sw_kc_6 : sw_kc 6 RX6 TX6 5 := ⟨rfl, fun w h => sw_wm ((show ∀ w ∈ u_ws RX6 TX6 5, w ∈ lw_tbl by decide +kernel) w h) ((show ∀ w ∈ u_ws RX6 TX6 5, goodWord w = true by decide +kernel) w h), by decide, by decide⟩
theorem sw_kc_7 : sw_kc 7 RX7 TX7 13 := ⟨rfl, fun w h => sw_wm ((show ∀ w ∈ u_ws RX7 TX7 13, w ∈ lw_tbl by decide +kernel) w h) ((show ∀ w ∈ u_ws RX7 TX7 13, goodWord w = true by decide +kernel) w h), by decide, by decide⟩
theorem sw_kc_8 : sw_kc 8 RX8 TX8 8 := ⟨rfl, fun w h => sw_wm ((show ∀ w ∈ u_ws RX8 TX8 8, w ∈ lw_tbl by decide +kernel) w h) ((show ∀ w ∈ u_ws RX8 TX8 8, goodWord w = true by decide +kernel) w h), by decide, by decide⟩
theorem sw_kc_9 : sw_kc 9 RX9 TX9 42 := ⟨rfl, fun w h => sw_wm ((show ∀ w ∈ u_ws RX9 TX9 42, w ∈ lw_tbl by decide +kernel) w h) ((show ∀ w ∈ u_ws RX9 TX9 42, goodWord w = true by decide +kernel) w h), by decide, by decide⟩
theorem sw_hs_0 {G : sw_G} {U : State} {H : Heap} (h : sw_sta G U H) : sw_s1 G U H RX8 "GREATEST" 0 8 := h.1
theorem sw_hs_1 {G : sw_G} {U : State} {H : Heap} (h : sw_sta G U H) : sw_s1 G U H RX8 "BESIDE" 1 12 := h.2.1
theorem sw_hs_2 {G : sw_G} {U : State} {H : Heap} (h : sw_sta G U H) : sw_s1 G U H RX0 "ABOVE" 2 8 := h.2.2.1
theorem sw_hs_3 {G : sw_G} {U : State} {H : Heap} (h : sw_sta G U H) : sw_s1 G U H RX0 "BODY_OF" 3 32 := h.2.2.2.1
theorem sw_wu1 {w : Cond} {i : Nat} (h : tables_1_1[i]? = some w) (hg : goodWord w = true) : w ∈ sw_wd := sw_wm (List.mem_append_right _ (by unfold tables_1; exact List.mem_append_left _ (List.mem_of_getElem? h))) hg
theorem sw_wu2 {w : Cond} {i : Nat} (h : tables_1_2[i]? = some w) (hg : goodWord w = true) : w ∈ sw_wd := sw_wm (List.mem_append_right _ (by unfold tables_1; exact List.mem_append_right _ (List.mem_append_left _ (List.mem_of_getElem? h)))) hg
theorem sw_wu3 {w : Cond} {i : Nat} (h : tables_1_3[i]? = some w) (hg : goodWord w = true) : w ∈ sw_wd := sw_wm (List.mem_append_right _ (by unfold tables_1; exact List.mem_append_right _ (List.mem_append_right _ (List.mem_append_left _ (List.mem_of_getElem? h))))) hg
theorem sw_wu4 {w : Cond} {i : Nat} (h : tables_1_4[i]? = some w) (hg : goodWord w = true) : w ∈ sw_wd := sw_wm (List.mem_append_right _ (by unfold tables_1; exact List.mem_append_right _ (List.mem_append_right _ (List.mem_append_right _ (List.mem_append_left _ (List.mem_of_getElem? h)))))) hg
theorem sw_wu5 {w : Cond} {i : Nat} (h : tables_1_5[i]? = some w) (hg : goodWord w = true) : w ∈ sw_wd := sw_wm (List.mem_append_right _ (by unfold tables_1; exact List.mem_append_right _ (List.mem_append_right _ (List.mem_append_right _ (List.mem_append_right _ (List.mem_append_left _ (List.mem_of_getElem? h))))))) hg
theorem sw_wu6 {w : Cond} {i : Nat} (h : tables_1_6[i]? = some w) (hg : goodWord w = true) : w ∈ sw_wd := sw_wm (List.mem_append_right _ (by unfold tables_1; exact List.mem_append_right _ (List.mem_append_right _ (List.mem_append_right _ (List.mem_append_right _ (List.mem_append_right _ (List.mem_append_left _ (List.mem_of_getElem? h)))))))) hg
theorem sw_wu7 {w : Cond} {i : Nat} (h : tables_1_7[i]? = some w) (hg : goodWord w = true) : w ∈ sw_wd := sw_wm (List.mem_append_right _ (by unfold tables_1; exact List.mem_append_right _ (List.mem_append_right _ (List.mem_append_right _ (List.mem_append_right _ (List.mem_append_right _ (List.mem_append_right _ ((List.mem_of_getElem? h))))))))) hg
theorem sw_acw_ok : sw_acw := ⟨sw_wu2 (i := 183) (by decide +kernel) rfl, sw_wu2 (i := 182) (by decide +kernel) rfl, sw_wu1 (i := 11) (by decide +kernel) rfl⟩
theorem sw_room {d : Nat} {st : List Value} (hd : 1 ≤ d) (h : (st.map fun v => v.category).sum ≤ 8) : (st.map fun v => v.category).sum + 18 ≤ (sw_rm d).locals := by
  show _ ≤ 40 * d
  omega
theorem sw_neI {a w : Int32} {n : Int} (hw : Int32.ofInt n = w) (h1 : -2147483648 ≤ n) (h2 : n ≤ 2147483647) (h : ¬ a = w) : a.toInt ≠ n := by
  intro e
  apply h
  rw [← hw, ← e]
  exact (Int32.ofInt_toInt a).symm
theorem sw_ic_m1 : Int32.ofInt (-1) = (-1 : Int32) := by decide
theorem sw_ic_0 : Int32.ofInt (0) = (0 : Int32) := by decide
theorem sw_ic_1 : Int32.ofInt (1) = (1 : Int32) := by decide
theorem sw_ic_2 : Int32.ofInt (2) = (2 : Int32) := by decide
theorem sw_ic_3 : Int32.ofInt (3) = (3 : Int32) := by decide
theorem sw_ic_4 : Int32.ofInt (4) = (4 : Int32) := by decide
theorem sw_ic_5 : Int32.ofInt (5) = (5 : Int32) := by decide
theorem sw_ic_6 : Int32.ofInt (6) = (6 : Int32) := by decide
theorem sw_ic_7 : Int32.ofInt (7) = (7 : Int32) := by decide
theorem sw_ic_10 : Int32.ofInt (10) = (10 : Int32) := by decide
theorem sw_ic_11 : Int32.ofInt (11) = (11 : Int32) := by decide
theorem sw_ic_20 : Int32.ofInt (20) = (20 : Int32) := by decide
theorem sw_ic_30 : Int32.ofInt (30) = (30 : Int32) := by decide
theorem sw_ic_37 : Int32.ofInt (37) = (37 : Int32) := by decide
theorem sw_ic_38 : Int32.ofInt (38) = (38 : Int32) := by decide
theorem sw_ic_39 : Int32.ofInt (39) = (39 : Int32) := by decide
theorem sw_ic_40 : Int32.ofInt (40) = (40 : Int32) := by decide
theorem sw_ic_41 : Int32.ofInt (41) = (41 : Int32) := by decide
theorem sw_ic_42 : Int32.ofInt (42) = (42 : Int32) := by decide
theorem sw_ic_43 : Int32.ofInt (43) = (43 : Int32) := by decide
theorem sw_ic_44 : Int32.ofInt (44) = (44 : Int32) := by decide
theorem sw_ic_45 : Int32.ofInt (45) = (45 : Int32) := by decide
theorem sw_ic_46 : Int32.ofInt (46) = (46 : Int32) := by decide
theorem sw_ic_47 : Int32.ofInt (47) = (47 : Int32) := by decide
theorem sw_ic_48 : Int32.ofInt (48) = (48 : Int32) := by decide
theorem sw_ic_49 : Int32.ofInt (49) = (49 : Int32) := by decide
theorem sw_ic_50 : Int32.ofInt (50) = (50 : Int32) := by decide
theorem sw_ic_51 : Int32.ofInt (51) = (51 : Int32) := by decide
theorem sw_ic_52 : Int32.ofInt (52) = (52 : Int32) := by decide
theorem sw_ic_53 : Int32.ofInt (53) = (53 : Int32) := by decide
theorem sw_ic_54 : Int32.ofInt (54) = (54 : Int32) := by decide
theorem sw_ic_55 : Int32.ofInt (55) = (55 : Int32) := by decide
theorem sw_ic_56 : Int32.ofInt (56) = (56 : Int32) := by decide
theorem sw_ic_57 : Int32.ofInt (57) = (57 : Int32) := by decide
theorem sw_ic_58 : Int32.ofInt (58) = (58 : Int32) := by decide
theorem sw_ic_59 : Int32.ofInt (59) = (59 : Int32) := by decide
theorem sw_ic_60 : Int32.ofInt (60) = (60 : Int32) := by decide
theorem sw_ic_61 : Int32.ofInt (61) = (61 : Int32) := by decide
theorem sw_ic_62 : Int32.ofInt (62) = (62 : Int32) := by decide
theorem sw_ic_70 : Int32.ofInt (70) = (70 : Int32) := by decide
theorem sw_ic_80 : Int32.ofInt (80) = (80 : Int32) := by decide
theorem sw_ic_81 : Int32.ofInt (81) = (81 : Int32) := by decide
theorem sw_ic_98 : Int32.ofInt (98) = (98 : Int32) := by decide
theorem sw_ic_99 : Int32.ofInt (99) = (99 : Int32) := by decide
theorem sw_ic_100 : Int32.ofInt (100) = (100 : Int32) := by decide
theorem sw_ic_109 : Int32.ofInt (109) = (109 : Int32) := by decide
theorem sw_ic_116 : Int32.ofInt (116) = (116 : Int32) := by decide
theorem sw_ic_121 : Int32.ofInt (121) = (121 : Int32) := by decide
theorem sw_bc_m100 : (Int8.ofInt (-100)).toInt32 = (-100 : Int32) := by decide
theorem sw_bc_m20 : (Int8.ofInt (-20)).toInt32 = (-20 : Int32) := by decide
theorem sw_bc_m14 : (Int8.ofInt (-14)).toInt32 = (-14 : Int32) := by decide
theorem sw_bc_m13 : (Int8.ofInt (-13)).toInt32 = (-13 : Int32) := by decide
theorem sw_bc_m12 : (Int8.ofInt (-12)).toInt32 = (-12 : Int32) := by decide
theorem sw_bc_m11 : (Int8.ofInt (-11)).toInt32 = (-11 : Int32) := by decide
theorem sw_bc_m9 : (Int8.ofInt (-9)).toInt32 = (-9 : Int32) := by decide
theorem sw_bc_m5 : (Int8.ofInt (-5)).toInt32 = (-5 : Int32) := by decide
theorem sw_bc_m3 : (Int8.ofInt (-3)).toInt32 = (-3 : Int32) := by decide
theorem sw_bc_m2 : (Int8.ofInt (-2)).toInt32 = (-2 : Int32) := by decide
theorem sw_bc_6 : (Int8.ofInt (6)).toInt32 = (6 : Int32) := by decide
theorem sw_bc_7 : (Int8.ofInt (7)).toInt32 = (7 : Int32) := by decide
theorem sw_bc_8 : (Int8.ofInt (8)).toInt32 = (8 : Int32) := by decide
theorem sw_bc_9 : (Int8.ofInt (9)).toInt32 = (9 : Int32) := by decide
theorem sw_bc_10 : (Int8.ofInt (10)).toInt32 = (10 : Int32) := by decide
theorem sw_bc_11 : (Int8.ofInt (11)).toInt32 = (11 : Int32) := by decide
theorem sw_bc_12 : (Int8.ofInt (12)).toInt32 = (12 : Int32) := by decide
theorem sw_bc_15 : (Int8.ofInt (15)).toInt32 = (15 : Int32) := by decide
theorem sw_bc_16 : (Int8.ofInt (16)).toInt32 = (16 : Int32) := by decide
theorem sw_bc_18 : (Int8.ofInt (18)).toInt32 = (18 : Int32) := by decide
theorem sw_bc_20 : (Int8.ofInt (20)).toInt32 = (20 : Int32) := by decide
theorem sw_bc_24 : (Int8.ofInt (24)).toInt32 = (24 : Int32) := by decide
theorem sw_bc_30 : (Int8.ofInt (30)).toInt32 = (30 : Int32) := by decide
theorem sw_bc_32 : (Int8.ofInt (32)).toInt32 = (32 : Int32) := by decide
theorem sw_bc_33 : (Int8.ofInt (33)).toInt32 = (33 : Int32) := by decide
theorem sw_bc_37 : (Int8.ofInt (37)).toInt32 = (37 : Int32) := by decide
theorem sw_bc_38 : (Int8.ofInt (38)).toInt32 = (38 : Int32) := by decide
theorem sw_bc_39 : (Int8.ofInt (39)).toInt32 = (39 : Int32) := by decide
theorem sw_bc_40 : (Int8.ofInt (40)).toInt32 = (40 : Int32) := by decide
theorem sw_bc_41 : (Int8.ofInt (41)).toInt32 = (41 : Int32) := by decide
theorem sw_bc_42 : (Int8.ofInt (42)).toInt32 = (42 : Int32) := by decide
theorem sw_bc_43 : (Int8.ofInt (43)).toInt32 = (43 : Int32) := by decide
theorem sw_bc_45 : (Int8.ofInt (45)).toInt32 = (45 : Int32) := by decide
theorem sw_bc_47 : (Int8.ofInt (47)).toInt32 = (47 : Int32) := by decide
theorem sw_bc_48 : (Int8.ofInt (48)).toInt32 = (48 : Int32) := by decide
theorem sw_bc_50 : (Int8.ofInt (50)).toInt32 = (50 : Int32) := by decide
theorem sw_bc_51 : (Int8.ofInt (51)).toInt32 = (51 : Int32) := by decide
theorem sw_bc_52 : (Int8.ofInt (52)).toInt32 = (52 : Int32) := by decide
theorem sw_bc_57 : (Int8.ofInt (57)).toInt32 = (57 : Int32) := by decide
theorem sw_bc_59 : (Int8.ofInt (59)).toInt32 = (59 : Int32) := by decide
theorem sw_bc_60 : (Int8.ofInt (60)).toInt32 = (60 : Int32) := by decide
theorem sw_bc_61 : (Int8.ofInt (61)).toInt32 = (61 : Int32) := by decide
theorem sw_bc_62 : (Int8.ofInt (62)).toInt32 = (62 : Int32) := by decide
theorem sw_bc_63 : (Int8.ofInt (63)).toInt32 = (63 : Int32) := by decide
theorem sw_bc_70 : (Int8.ofInt (70)).toInt32 = (70 : Int32) := by decide
theorem sw_bc_80 : (Int8.ofInt (80)).toInt32 = (80 : Int32) := by decide
theorem sw_bc_81 : (Int8.ofInt (81)).toInt32 = (81 : Int32) := by decide
theorem sw_bc_99 : (Int8.ofInt (99)).toInt32 = (99 : Int32) := by decide
theorem sw_bc_100 : (Int8.ofInt (100)).toInt32 = (100 : Int32) := by decide
theorem sw_bc_110 : (Int8.ofInt (110)).toInt32 = (110 : Int32) := by decide
theorem sw_bc_120 : (Int8.ofInt (120)).toInt32 = (120 : Int32) := by decide
theorem sw_bc_124 : (Int8.ofInt (124)).toInt32 = (124 : Int32) := by decide
theorem sw_bc_126 : (Int8.ofInt (126)).toInt32 = (126 : Int32) := by decide
theorem sw_bc_127 : (Int8.ofInt (127)).toInt32 = (127 : Int32) := by decide
theorem sw_sc_128 : (Int16.ofInt (128)).toInt32 = (128 : Int32) := by decide
theorem sw_sc_255 : (Int16.ofInt (255)).toInt32 = (255 : Int32) := by decide
theorem sw_sc_4096 : (Int16.ofInt (4096)).toInt32 = (4096 : Int32) := by decide
theorem sw_sc_10000 : (Int16.ofInt (10000)).toInt32 = (10000 : Int32) := by decide
theorem sw_sc_12345 : (Int16.ofInt (12345)).toInt32 = (12345 : Int32) := by decide
theorem sw_lc_0 : Int64.ofNat ((0 : Fin 2) : Nat) = (0 : Int64) := by decide
theorem sw_lc_1 : Int64.ofNat ((1 : Fin 2) : Nat) = (1 : Int64) := by decide
theorem sw_k_0 : sw_kd 0 = 8 := by decide +kernel
theorem sw_k_1 : sw_kd 1 = 4 := by decide +kernel
theorem sw_k_11 : sw_kd 11 = 3 := by decide +kernel
theorem sw_k_16 : sw_kd 16 = 6 := by decide +kernel
theorem sw_k_17 : sw_kd 17 = 3 := by decide +kernel
theorem sw_k_22 : sw_kd 22 = 10 := by decide +kernel
theorem sw_n_22 : sw_ln 22 = 120 := by decide +kernel
theorem sw_k_23 : sw_kd 23 = 7 := by decide +kernel
theorem sw_k_24 : sw_kd 24 = 10 := by decide +kernel
theorem sw_n_24 : sw_ln 24 = 3 := by decide +kernel
theorem sw_k_25 : sw_kd 25 = 12 := by decide +kernel
theorem sw_n_25 : sw_ln 25 = 5 := by decide +kernel
theorem sw_k_26 : sw_kd 26 = 10 := by decide +kernel
theorem sw_n_26 : sw_ln 26 = 3 := by decide +kernel
theorem sw_k_27 : sw_kd 27 = 10 := by decide +kernel
theorem sw_n_27 : sw_ln 27 = 6 := by decide +kernel
theorem sw_k_28 : sw_kd 28 = 10 := by decide +kernel
theorem sw_n_28 : sw_ln 28 = 384 := by decide +kernel
theorem sw_k_79 : sw_kd 79 = 1 := by decide +kernel
theorem sw_k_80 : sw_kd 80 = 10 := by decide +kernel
theorem sw_n_80 : sw_ln 80 = 40 := by decide +kernel
theorem sw_k_81 : sw_kd 81 = 10 := by decide +kernel
theorem sw_n_81 : sw_ln 81 = 40 := by decide +kernel
theorem sw_k_82 : sw_kd 82 = 10 := by decide +kernel
theorem sw_n_82 : sw_ln 82 = 40 := by decide +kernel
theorem sw_k_83 : sw_kd 83 = 10 := by decide +kernel
theorem sw_n_83 : sw_ln 83 = 40 := by decide +kernel
theorem sw_k_84 : sw_kd 84 = 2 := by decide +kernel
theorem sw_k_85 : sw_kd 85 = 10 := by decide +kernel
theorem sw_n_85 : sw_ln 85 = 5 := by decide +kernel
theorem sw_k_86 : sw_kd 86 = 10 := by decide +kernel
theorem sw_n_86 : sw_ln 86 = 5 := by decide +kernel
theorem sw_k_87 : sw_kd 87 = 10 := by decide +kernel
theorem sw_n_87 : sw_ln 87 = 10 := by decide +kernel
theorem sw_k_88 : sw_kd 88 = 10 := by decide +kernel
theorem sw_n_88 : sw_ln 88 = 10 := by decide +kernel
theorem sw_k_89 : sw_kd 89 = 0 := by decide +kernel
theorem sw_k_90 : sw_kd 90 = 10 := by decide +kernel
theorem sw_n_90 : sw_ln 90 = 50 := by decide +kernel
theorem sw_k_91 : sw_kd 91 = 10 := by decide +kernel
theorem sw_n_91 : sw_ln 91 = 24 := by decide +kernel
theorem sw_k_92 : sw_kd 92 = 13 := by decide +kernel
theorem sw_n_92 : sw_ln 92 = 6 := by decide +kernel
theorem sw_k_105 : sw_kd 105 = 9 := by decide +kernel
theorem sw_k_106 : sw_kd 106 = 10 := by decide +kernel
theorem sw_n_106 : sw_ln 106 = 53 := by decide +kernel
theorem sw_k_107 : sw_kd 107 = 10 := by decide +kernel
theorem sw_n_107 : sw_ln 107 = 40 := by decide +kernel
theorem sw_k_108 : sw_kd 108 = 10 := by decide +kernel
theorem sw_n_108 : sw_ln 108 = 40 := by decide +kernel
theorem sw_k_109 : sw_kd 109 = 10 := by decide +kernel
theorem sw_n_109 : sw_ln 109 = 40 := by decide +kernel
theorem sw_k_110 : sw_kd 110 = 10 := by decide +kernel
theorem sw_n_110 : sw_ln 110 = 120 := by decide +kernel
theorem sw_k_111 : sw_kd 111 = 10 := by decide +kernel
theorem sw_n_111 : sw_ln 111 = 120 := by decide +kernel
theorem sw_k_112 : sw_kd 112 = 10 := by decide +kernel
theorem sw_n_112 : sw_ln 112 = 6 := by decide +kernel
theorem sw_k_113 : sw_kd 113 = 10 := by decide +kernel
theorem sw_n_113 : sw_ln 113 = 12 := by decide +kernel
theorem sw_k_114 : sw_kd 114 = 10 := by decide +kernel
theorem sw_n_114 : sw_ln 114 = 10 := by decide +kernel
theorem sw_k_115 : sw_kd 115 = 10 := by decide +kernel
theorem sw_n_115 : sw_ln 115 = 12 := by decide +kernel
theorem sw_k_116 : sw_kd 116 = 10 := by decide +kernel
theorem sw_n_116 : sw_ln 116 = 12 := by decide +kernel
theorem sw_k_117 : sw_kd 117 = 10 := by decide +kernel
theorem sw_n_117 : sw_ln 117 = 4 := by decide +kernel
theorem sw_k_118 : sw_kd 118 = 10 := by decide +kernel
theorem sw_n_118 : sw_ln 118 = 3 := by decide +kernel
theorem sw_k_119 : sw_kd 119 = 10 := by decide +kernel
theorem sw_n_119 : sw_ln 119 = 5 := by decide +kernel
theorem sw_k_120 : sw_kd 120 = 10 := by decide +kernel
theorem sw_n_120 : sw_ln 120 = 53 := by decide +kernel
theorem sw_k_121 : sw_kd 121 = 10 := by decide +kernel
theorem sw_n_121 : sw_ln 121 = 5 := by decide +kernel
theorem sw_k_122 : sw_kd 122 = 10 := by decide +kernel
theorem sw_n_122 : sw_ln 122 = 50 := by decide +kernel
theorem sw_k_123 : sw_kd 123 = 10 := by decide +kernel
theorem sw_n_123 : sw_ln 123 = 24 := by decide +kernel
theorem sw_k_124 : sw_kd 124 = 10 := by decide +kernel
theorem sw_n_124 : sw_ln 124 = 6 := by decide +kernel
theorem sw_k_125 : sw_kd 125 = 10 := by decide +kernel
theorem sw_n_125 : sw_ln 125 = 6 := by decide +kernel
theorem sw_k_126 : sw_kd 126 = 11 := by decide +kernel
theorem sw_n_126 : sw_ln 126 = 360 := by decide +kernel
theorem sw_k_127 : sw_kd 127 = 11 := by decide +kernel
theorem sw_n_127 : sw_ln 127 = 60 := by decide +kernel
theorem sw_r_0_0 : sw_rf 0 0 = 1 := by decide +kernel
theorem sw_r_0_1 : sw_rf 0 1 = 11 := by decide +kernel
theorem sw_r_0_2 : sw_rf 0 2 = 16 := by decide +kernel
theorem sw_r_0_3 : sw_rf 0 3 = 23 := by decide +kernel
theorem sw_r_0_4 : sw_rf 0 4 = 79 := by decide +kernel
theorem sw_r_0_5 : sw_rf 0 5 = 84 := by decide +kernel
theorem sw_r_0_6 : sw_rf 0 6 = 89 := by decide +kernel
theorem sw_r_0_7 : sw_rf 0 7 = 92 := by decide +kernel
theorem sw_r_16_1 : sw_rf 16 1 = 17 := by decide +kernel
theorem sw_r_16_2 : sw_rf 16 2 = 22 := by decide +kernel
theorem sw_r_23_2 : sw_rf 23 2 = 24 := by decide +kernel
theorem sw_r_23_7 : sw_rf 23 7 = 1 := by decide +kernel
theorem sw_r_23_8 : sw_rf 23 8 = 11 := by decide +kernel
theorem sw_r_23_9 : sw_rf 23 9 = 25 := by decide +kernel
theorem sw_r_23_10 : sw_rf 23 10 = 26 := by decide +kernel
theorem sw_r_23_11 : sw_rf 23 11 = 27 := by decide +kernel
theorem sw_r_23_12 : sw_rf 23 12 = 28 := by decide +kernel
theorem sw_r_79_2 : sw_rf 79 2 = 80 := by decide +kernel
theorem sw_r_79_3 : sw_rf 79 3 = 81 := by decide +kernel
theorem sw_r_79_4 : sw_rf 79 4 = 82 := by decide +kernel
theorem sw_r_79_5 : sw_rf 79 5 = 83 := by decide +kernel
theorem sw_r_84_1 : sw_rf 84 1 = 85 := by decide +kernel
theorem sw_r_84_2 : sw_rf 84 2 = 86 := by decide +kernel
theorem sw_r_84_3 : sw_rf 84 3 = 87 := by decide +kernel
theorem sw_r_84_4 : sw_rf 84 4 = 88 := by decide +kernel
theorem sw_r_89_2 : sw_rf 89 2 = 90 := by decide +kernel
theorem sw_r_89_3 : sw_rf 89 3 = 91 := by decide +kernel
theorem sw_r_105_0 : sw_rf 105 0 = 106 := by decide +kernel
theorem sw_r_105_1 : sw_rf 105 1 = 107 := by decide +kernel
theorem sw_r_105_2 : sw_rf 105 2 = 108 := by decide +kernel
theorem sw_r_105_3 : sw_rf 105 3 = 109 := by decide +kernel
theorem sw_r_105_7 : sw_rf 105 7 = 110 := by decide +kernel
theorem sw_r_105_9 : sw_rf 105 9 = 111 := by decide +kernel
theorem sw_r_105_16 : sw_rf 105 16 = 112 := by decide +kernel
theorem sw_r_105_17 : sw_rf 105 17 = 113 := by decide +kernel
theorem sw_r_105_18 : sw_rf 105 18 = 114 := by decide +kernel
theorem sw_r_105_21 : sw_rf 105 21 = 115 := by decide +kernel
theorem sw_r_105_22 : sw_rf 105 22 = 116 := by decide +kernel
theorem sw_r_105_23 : sw_rf 105 23 = 117 := by decide +kernel
theorem sw_r_105_24 : sw_rf 105 24 = 118 := by decide +kernel
theorem sw_r_105_27 : sw_rf 105 27 = 119 := by decide +kernel
theorem sw_r_105_30 : sw_rf 105 30 = 120 := by decide +kernel
theorem sw_r_105_31 : sw_rf 105 31 = 121 := by decide +kernel
theorem sw_r_105_33 : sw_rf 105 33 = 122 := by decide +kernel
theorem sw_r_105_34 : sw_rf 105 34 = 123 := by decide +kernel
theorem sw_r_105_38 : sw_rf 105 38 = 124 := by decide +kernel
theorem sw_r_105_39 : sw_rf 105 39 = 125 := by decide +kernel
theorem sw_r_105_40 : sw_rf 105 40 = 126 := by decide +kernel
theorem sw_r_105_41 : sw_rf 105 41 = 127 := by decide +kernel
theorem sw_f_RX0_13 : sw_fa RX0 13 0 1 5 RX0 TX0 false := ⟨sw_kc_0, by decide, sw_wu2 (i := 23) (by decide +kernel) rfl⟩
theorem sw_f_RX0_16 : sw_fa RX0 16 0 2 5 RX0 TX0 true := ⟨sw_kc_0, by decide, sw_wu2 (i := 25) (by decide +kernel) rfl⟩
theorem sw_f_RX0_20 : sw_fa RX0 20 0 3 5 RX0 TX0 true := ⟨sw_kc_0, by decide, sw_wu2 (i := 27) (by decide +kernel) rfl⟩
theorem sw_f_RX0_23 : sw_fa RX0 23 0 4 5 RX0 TX0 false := ⟨sw_kc_0, by decide, sw_wu2 (i := 29) (by decide +kernel) rfl⟩
theorem sw_f_RX0_7 : sw_fa RX0 7 0 0 5 RX0 TX0 false := ⟨sw_kc_0, by decide, sw_wu2 (i := 21) (by decide +kernel) rfl⟩
theorem sw_f_RX1_15 : sw_fa RX1 15 1 1 6 RX1 TX1 false := ⟨sw_kc_1, by decide, sw_wu1 (i := 203) (by decide +kernel) rfl⟩
theorem sw_f_RX1_18 : sw_fa RX1 18 1 2 6 RX1 TX1 true := ⟨sw_kc_1, by decide, sw_wu1 (i := 205) (by decide +kernel) rfl⟩
theorem sw_f_RX1_22 : sw_fa RX1 22 1 3 6 RX1 TX1 true := ⟨sw_kc_1, by decide, sw_wu1 (i := 206) (by decide +kernel) rfl⟩
theorem sw_f_RX1_25 : sw_fa RX1 25 1 4 6 RX1 TX1 true := ⟨sw_kc_1, by decide, sw_wu1 (i := 207) (by decide +kernel) rfl⟩
theorem sw_f_RX1_28 : sw_fa RX1 28 1 5 6 RX1 TX1 true := ⟨sw_kc_1, by decide, sw_wu1 (i := 208) (by decide +kernel) rfl⟩
theorem sw_f_RX1_9 : sw_fa RX1 9 1 0 6 RX1 TX1 false := ⟨sw_kc_1, by decide, sw_wu1 (i := 201) (by decide +kernel) rfl⟩
theorem sw_f_RX2_15 : sw_fa RX2 15 2 1 8 RX2 TX2 true := ⟨sw_kc_2, by decide, sw_wu1 (i := 230) (by decide +kernel) rfl⟩
theorem sw_f_RX2_19 : sw_fa RX2 19 2 2 8 RX2 TX2 true := ⟨sw_kc_2, by decide, sw_wu1 (i := 232) (by decide +kernel) rfl⟩
theorem sw_f_RX2_22 : sw_fa RX2 22 2 3 8 RX2 TX2 true := ⟨sw_kc_2, by decide, sw_wu1 (i := 233) (by decide +kernel) rfl⟩
theorem sw_f_RX2_25 : sw_fa RX2 25 2 4 8 RX2 TX2 true := ⟨sw_kc_2, by decide, sw_wu1 (i := 234) (by decide +kernel) rfl⟩
theorem sw_f_RX2_28 : sw_fa RX2 28 2 5 8 RX2 TX2 false := ⟨sw_kc_2, by decide, sw_wu1 (i := 235) (by decide +kernel) rfl⟩
theorem sw_f_RX2_32 : sw_fa RX2 32 2 6 8 RX2 TX2 false := ⟨sw_kc_2, by decide, sw_wu1 (i := 236) (by decide +kernel) rfl⟩
theorem sw_f_RX2_35 : sw_fa RX2 35 2 7 8 RX2 TX2 false := ⟨sw_kc_2, by decide, sw_wu1 (i := 237) (by decide +kernel) rfl⟩
theorem sw_f_RX2_38 : sw_fa RX2 38 4 0 14 RX4 TX4 false := ⟨sw_kc_4, by decide, sw_wu1 (i := 30) (by decide +kernel) rfl⟩
theorem sw_f_RX2_43 : sw_fa RX2 43 4 1 14 RX4 TX4 false := ⟨sw_kc_4, by decide, sw_wu1 (i := 32) (by decide +kernel) rfl⟩
theorem sw_f_RX2_46 : sw_fa RX2 46 4 3 14 RX4 TX4 false := ⟨sw_kc_4, by decide, sw_wu1 (i := 35) (by decide +kernel) rfl⟩
theorem sw_f_RX2_49 : sw_fa RX2 49 4 8 14 RX4 TX4 true := ⟨sw_kc_4, by decide, sw_wu1 (i := 44) (by decide +kernel) rfl⟩
theorem sw_f_RX2_58 : sw_fa RX2 58 4 9 14 RX4 TX4 true := ⟨sw_kc_4, by decide, sw_wu1 (i := 48) (by decide +kernel) rfl⟩
theorem sw_f_RX2_9 : sw_fa RX2 9 2 0 8 RX2 TX2 false := ⟨sw_kc_2, by decide, sw_wu1 (i := 228) (by decide +kernel) rfl⟩
theorem sw_f_RX3_13 : sw_fa RX3 13 3 1 6 RX3 TX3 false := ⟨sw_kc_3, by decide, sw_wu1 (i := 93) (by decide +kernel) rfl⟩
theorem sw_f_RX3_17 : sw_fa RX3 17 3 2 6 RX3 TX3 true := ⟨sw_kc_3, by decide, sw_wu1 (i := 95) (by decide +kernel) rfl⟩
theorem sw_f_RX3_21 : sw_fa RX3 21 3 3 6 RX3 TX3 true := ⟨sw_kc_3, by decide, sw_wu1 (i := 96) (by decide +kernel) rfl⟩
theorem sw_f_RX3_24 : sw_fa RX3 24 3 4 6 RX3 TX3 true := ⟨sw_kc_3, by decide, sw_wu1 (i := 98) (by decide +kernel) rfl⟩
theorem sw_f_RX3_27 : sw_fa RX3 27 3 5 6 RX3 TX3 true := ⟨sw_kc_3, by decide, sw_wu1 (i := 99) (by decide +kernel) rfl⟩
theorem sw_f_RX3_7 : sw_fa RX3 7 3 0 6 RX3 TX3 false := ⟨sw_kc_3, by decide, sw_wu1 (i := 92) (by decide +kernel) rfl⟩
theorem sw_f_RX4_15 : sw_fa RX4 15 4 1 14 RX4 TX4 false := ⟨sw_kc_4, by decide, sw_wu1 (i := 31) (by decide +kernel) rfl⟩
theorem sw_f_RX4_18 : sw_fa RX4 18 4 2 14 RX4 TX4 false := ⟨sw_kc_4, by decide, sw_wu1 (i := 33) (by decide +kernel) rfl⟩
theorem sw_f_RX4_21 : sw_fa RX4 21 4 3 14 RX4 TX4 false := ⟨sw_kc_4, by decide, sw_wu1 (i := 34) (by decide +kernel) rfl⟩
theorem sw_f_RX4_24 : sw_fa RX4 24 4 4 14 RX4 TX4 false := ⟨sw_kc_4, by decide, sw_wu1 (i := 38) (by decide +kernel) rfl⟩
theorem sw_f_RX4_27 : sw_fa RX4 27 4 5 14 RX4 TX4 true := ⟨sw_kc_4, by decide, sw_wu1 (i := 40) (by decide +kernel) rfl⟩
theorem sw_f_RX4_31 : sw_fa RX4 31 4 6 14 RX4 TX4 true := ⟨sw_kc_4, by decide, sw_wu1 (i := 41) (by decide +kernel) rfl⟩
theorem sw_f_RX4_34 : sw_fa RX4 34 4 7 14 RX4 TX4 true := ⟨sw_kc_4, by decide, sw_wu1 (i := 42) (by decide +kernel) rfl⟩
theorem sw_f_RX4_37 : sw_fa RX4 37 4 8 14 RX4 TX4 true := ⟨sw_kc_4, by decide, sw_wu1 (i := 43) (by decide +kernel) rfl⟩
theorem sw_f_RX4_40 : sw_fa RX4 40 4 9 14 RX4 TX4 true := ⟨sw_kc_4, by decide, sw_wu1 (i := 47) (by decide +kernel) rfl⟩
theorem sw_f_RX4_43 : sw_fa RX4 43 4 10 14 RX4 TX4 true := ⟨sw_kc_4, by decide, sw_wu1 (i := 50) (by decide +kernel) rfl⟩
theorem sw_f_RX4_46 : sw_fa RX4 46 4 11 14 RX4 TX4 true := ⟨sw_kc_4, by decide, sw_wu1 (i := 53) (by decide +kernel) rfl⟩
theorem sw_f_RX4_49 : sw_fa RX4 49 4 12 14 RX4 TX4 true := ⟨sw_kc_4, by decide, sw_wu1 (i := 54) (by decide +kernel) rfl⟩
theorem sw_f_RX4_52 : sw_fa RX4 52 4 13 14 RX4 TX4 true := ⟨sw_kc_4, by decide, sw_wu1 (i := 55) (by decide +kernel) rfl⟩
theorem sw_f_RX4_9 : sw_fa RX4 9 4 0 14 RX4 TX4 false := ⟨sw_kc_4, by decide, sw_wu1 (i := 28) (by decide +kernel) rfl⟩
theorem sw_f_RX5_15 : sw_fa RX5 15 5 1 5 RX5 TX5 false := ⟨sw_kc_5, by decide, sw_wu2 (i := 50) (by decide +kernel) rfl⟩
theorem sw_f_RX5_18 : sw_fa RX5 18 5 2 5 RX5 TX5 false := ⟨sw_kc_5, by decide, sw_wu2 (i := 52) (by decide +kernel) rfl⟩
theorem sw_f_RX5_21 : sw_fa RX5 21 5 3 5 RX5 TX5 true := ⟨sw_kc_5, by decide, sw_wu2 (i := 54) (by decide +kernel) rfl⟩
theorem sw_f_RX5_25 : sw_fa RX5 25 5 4 5 RX5 TX5 false := ⟨sw_kc_5, by decide, sw_wu2 (i := 56) (by decide +kernel) rfl⟩
theorem sw_f_RX5_9 : sw_fa RX5 9 5 0 5 RX5 TX5 false := ⟨sw_kc_5, by decide, sw_wu2 (i := 48) (by decide +kernel) rfl⟩
theorem sw_f_RX6_16 : sw_fa RX6 16 6 1 5 RX6 TX6 true := ⟨sw_kc_6, by decide, sw_wu1 (i := 123) (by decide +kernel) rfl⟩
theorem sw_f_RX6_20 : sw_fa RX6 20 6 2 5 RX6 TX6 true := ⟨sw_kc_6, by decide, sw_wu1 (i := 125) (by decide +kernel) rfl⟩
theorem sw_f_RX6_24 : sw_fa RX6 24 6 3 5 RX6 TX6 false := ⟨sw_kc_6, by decide, sw_wu1 (i := 126) (by decide +kernel) rfl⟩
theorem sw_f_RX6_27 : sw_fa RX6 27 6 4 5 RX6 TX6 false := ⟨sw_kc_6, by decide, sw_wu1 (i := 127) (by decide +kernel) rfl⟩
theorem sw_f_RX6_30 : sw_fa RX6 30 3 1 6 RX3 TX3 false := ⟨sw_kc_3, by decide, sw_wu1 (i := 94) (by decide +kernel) rfl⟩
theorem sw_f_RX6_55 : sw_fa RX6 55 3 3 6 RX3 TX3 true := ⟨sw_kc_3, by decide, sw_wu1 (i := 97) (by decide +kernel) rfl⟩
theorem sw_f_RX6_7 : sw_fa RX6 7 6 0 5 RX6 TX6 false := ⟨sw_kc_6, by decide, sw_wu1 (i := 121) (by decide +kernel) rfl⟩
theorem sw_f_RX7_114 : sw_fa RX7 114 4 10 14 RX4 TX4 true := ⟨sw_kc_4, by decide, sw_wu1 (i := 52) (by decide +kernel) rfl⟩
theorem sw_f_RX7_142 : sw_fa RX7 142 4 3 14 RX4 TX4 false := ⟨sw_kc_4, by decide, sw_wu1 (i := 36) (by decide +kernel) rfl⟩
theorem sw_f_RX7_15 : sw_fa RX7 15 7 1 13 RX7 TX7 false := ⟨sw_kc_7, by decide, sw_wu1 (i := 150) (by decide +kernel) rfl⟩
theorem sw_f_RX7_152 : sw_fa RX7 152 5 2 5 RX5 TX5 false := ⟨sw_kc_5, by decide, sw_wu2 (i := 53) (by decide +kernel) rfl⟩
theorem sw_f_RX7_18 : sw_fa RX7 18 7 2 13 RX7 TX7 true := ⟨sw_kc_7, by decide, sw_wu1 (i := 152) (by decide +kernel) rfl⟩
theorem sw_f_RX7_22 : sw_fa RX7 22 7 3 13 RX7 TX7 false := ⟨sw_kc_7, by decide, sw_wu1 (i := 154) (by decide +kernel) rfl⟩
theorem sw_f_RX7_25 : sw_fa RX7 25 7 4 13 RX7 TX7 false := ⟨sw_kc_7, by decide, sw_wu1 (i := 156) (by decide +kernel) rfl⟩
theorem sw_f_RX7_28 : sw_fa RX7 28 7 5 13 RX7 TX7 false := ⟨sw_kc_7, by decide, sw_wu1 (i := 158) (by decide +kernel) rfl⟩
theorem sw_f_RX7_31 : sw_fa RX7 31 7 6 13 RX7 TX7 false := ⟨sw_kc_7, by decide, sw_wu1 (i := 160) (by decide +kernel) rfl⟩
theorem sw_f_RX7_36 : sw_fa RX7 36 7 9 13 RX7 TX7 true := ⟨sw_kc_7, by decide, sw_wu1 (i := 164) (by decide +kernel) rfl⟩
theorem sw_f_RX7_40 : sw_fa RX7 40 7 10 13 RX7 TX7 true := ⟨sw_kc_7, by decide, sw_wu1 (i := 165) (by decide +kernel) rfl⟩
theorem sw_f_RX7_43 : sw_fa RX7 43 7 11 13 RX7 TX7 true := ⟨sw_kc_7, by decide, sw_wu1 (i := 166) (by decide +kernel) rfl⟩
theorem sw_f_RX7_46 : sw_fa RX7 46 7 12 13 RX7 TX7 true := ⟨sw_kc_7, by decide, sw_wu1 (i := 167) (by decide +kernel) rfl⟩
theorem sw_f_RX7_49 : sw_fa RX7 49 7 7 13 RX7 TX7 true := ⟨sw_kc_7, by decide, sw_wu1 (i := 162) (by decide +kernel) rfl⟩
theorem sw_f_RX7_53 : sw_fa RX7 53 7 8 13 RX7 TX7 true := ⟨sw_kc_7, by decide, sw_wu1 (i := 163) (by decide +kernel) rfl⟩
theorem sw_f_RX7_86 : sw_fa RX7 86 4 8 14 RX4 TX4 true := ⟨sw_kc_4, by decide, sw_wu1 (i := 45) (by decide +kernel) rfl⟩
theorem sw_f_RX7_9 : sw_fa RX7 9 7 0 13 RX7 TX7 false := ⟨sw_kc_7, by decide, sw_wu1 (i := 148) (by decide +kernel) rfl⟩
theorem sw_f_RX8_10 : sw_fa RX8 10 8 0 8 RX8 TX8 true := ⟨sw_kc_8, by decide, sw_wu2 (i := 69) (by decide +kernel) rfl⟩
theorem sw_f_RX8_122 : sw_fa RX8 122 4 10 14 RX4 TX4 true := ⟨sw_kc_4, by decide, sw_wu1 (i := 51) (by decide +kernel) rfl⟩
theorem sw_f_RX8_127 : sw_fa RX8 127 6 0 5 RX6 TX6 false := ⟨sw_kc_6, by decide, sw_wu1 (i := 122) (by decide +kernel) rfl⟩
theorem sw_f_RX8_134 : sw_fa RX8 134 6 1 5 RX6 TX6 true := ⟨sw_kc_6, by decide, sw_wu1 (i := 124) (by decide +kernel) rfl⟩
theorem sw_f_RX8_157 : sw_fa RX8 157 4 8 14 RX4 TX4 true := ⟨sw_kc_4, by decide, sw_wu1 (i := 46) (by decide +kernel) rfl⟩
theorem sw_f_RX8_176 : sw_fa RX8 176 7 0 13 RX7 TX7 false := ⟨sw_kc_7, by decide, sw_wu1 (i := 149) (by decide +kernel) rfl⟩
theorem sw_f_RX8_179 : sw_fa RX8 179 7 1 13 RX7 TX7 false := ⟨sw_kc_7, by decide, sw_wu1 (i := 151) (by decide +kernel) rfl⟩
theorem sw_f_RX8_182 : sw_fa RX8 182 7 2 13 RX7 TX7 true := ⟨sw_kc_7, by decide, sw_wu1 (i := 153) (by decide +kernel) rfl⟩
theorem sw_f_RX8_19 : sw_fa RX8 19 8 1 8 RX8 TX8 true := ⟨sw_kc_8, by decide, sw_wu2 (i := 70) (by decide +kernel) rfl⟩
theorem sw_f_RX8_202 : sw_fa RX8 202 4 4 14 RX4 TX4 false := ⟨sw_kc_4, by decide, sw_wu1 (i := 39) (by decide +kernel) rfl⟩
theorem sw_f_RX8_211 : sw_fa RX8 211 4 3 14 RX4 TX4 false := ⟨sw_kc_4, by decide, sw_wu1 (i := 37) (by decide +kernel) rfl⟩
theorem sw_f_RX8_231 : sw_fa RX8 231 7 3 13 RX7 TX7 false := ⟨sw_kc_7, by decide, sw_wu1 (i := 155) (by decide +kernel) rfl⟩
theorem sw_f_RX8_234 : sw_fa RX8 234 7 4 13 RX7 TX7 false := ⟨sw_kc_7, by decide, sw_wu1 (i := 157) (by decide +kernel) rfl⟩
theorem sw_f_RX8_240 : sw_fa RX8 240 7 5 13 RX7 TX7 false := ⟨sw_kc_7, by decide, sw_wu1 (i := 159) (by decide +kernel) rfl⟩
theorem sw_f_RX8_257 : sw_fa RX8 257 7 6 13 RX7 TX7 false := ⟨sw_kc_7, by decide, sw_wu1 (i := 161) (by decide +kernel) rfl⟩
theorem sw_f_RX8_26 : sw_fa RX8 26 8 2 8 RX8 TX8 true := ⟨sw_kc_8, by decide, sw_wu2 (i := 71) (by decide +kernel) rfl⟩
theorem sw_f_RX8_274 : sw_fa RX8 274 4 9 14 RX4 TX4 true := ⟨sw_kc_4, by decide, sw_wu1 (i := 49) (by decide +kernel) rfl⟩
theorem sw_f_RX8_277 : sw_fa RX8 277 2 1 8 RX2 TX2 true := ⟨sw_kc_2, by decide, sw_wu1 (i := 231) (by decide +kernel) rfl⟩
theorem sw_f_RX8_284 : sw_fa RX8 284 2 0 8 RX2 TX2 false := ⟨sw_kc_2, by decide, sw_wu1 (i := 229) (by decide +kernel) rfl⟩
theorem sw_f_RX8_295 : sw_fa RX8 295 1 1 6 RX1 TX1 false := ⟨sw_kc_1, by decide, sw_wu1 (i := 204) (by decide +kernel) rfl⟩
theorem sw_f_RX8_301 : sw_fa RX8 301 1 0 6 RX1 TX1 false := ⟨sw_kc_1, by decide, sw_wu1 (i := 202) (by decide +kernel) rfl⟩
theorem sw_f_RX8_302 : sw_fa RX8 302 0 0 5 RX0 TX0 false := ⟨sw_kc_0, by decide, sw_wu2 (i := 22) (by decide +kernel) rfl⟩
theorem sw_f_RX8_308 : sw_fa RX8 308 0 1 5 RX0 TX0 false := ⟨sw_kc_0, by decide, sw_wu2 (i := 24) (by decide +kernel) rfl⟩
theorem sw_f_RX8_316 : sw_fa RX8 316 0 3 5 RX0 TX0 true := ⟨sw_kc_0, by decide, sw_wu2 (i := 28) (by decide +kernel) rfl⟩
theorem sw_f_RX8_322 : sw_fa RX8 322 0 2 5 RX0 TX0 true := ⟨sw_kc_0, by decide, sw_wu2 (i := 26) (by decide +kernel) rfl⟩
theorem sw_f_RX8_342 : sw_fa RX8 342 5 3 5 RX5 TX5 true := ⟨sw_kc_5, by decide, sw_wu2 (i := 55) (by decide +kernel) rfl⟩
theorem sw_f_RX8_349 : sw_fa RX8 349 5 1 5 RX5 TX5 false := ⟨sw_kc_5, by decide, sw_wu2 (i := 51) (by decide +kernel) rfl⟩
theorem sw_f_RX8_35 : sw_fa RX8 35 8 3 8 RX8 TX8 true := ⟨sw_kc_8, by decide, sw_wu2 (i := 72) (by decide +kernel) rfl⟩
theorem sw_f_RX8_364 : sw_fa RX8 364 5 0 5 RX5 TX5 false := ⟨sw_kc_5, by decide, sw_wu2 (i := 49) (by decide +kernel) rfl⟩
theorem sw_f_RX8_42 : sw_fa RX8 42 8 4 8 RX8 TX8 true := ⟨sw_kc_8, by decide, sw_wu2 (i := 73) (by decide +kernel) rfl⟩
theorem sw_f_RX8_49 : sw_fa RX8 49 8 5 8 RX8 TX8 true := ⟨sw_kc_8, by decide, sw_wu2 (i := 74) (by decide +kernel) rfl⟩
theorem sw_f_RX8_56 : sw_fa RX8 56 8 6 8 RX8 TX8 true := ⟨sw_kc_8, by decide, sw_wu2 (i := 75) (by decide +kernel) rfl⟩
theorem sw_f_RX8_62 : sw_fa RX8 62 8 7 8 RX8 TX8 true := ⟨sw_kc_8, by decide, sw_wu2 (i := 76) (by decide +kernel) rfl⟩
theorem sw_f_RX8_71 : sw_fa RX8 71 4 0 14 RX4 TX4 false := ⟨sw_kc_4, by decide, sw_wu1 (i := 29) (by decide +kernel) rfl⟩
theorem sw_f_RX9_13 : sw_fa RX9 13 9 1 42 RX9 TX9 true := ⟨sw_kc_9, by decide, sw_wu5 (i := 23) (by decide +kernel) rfl⟩
theorem sw_f_RX9_149 : sw_fa RX9 149 9 8 42 RX9 TX9 false := ⟨sw_kc_9, by decide, sw_wu5 (i := 30) (by decide +kernel) rfl⟩
theorem sw_f_RX9_152 : sw_fa RX9 152 9 12 42 RX9 TX9 false := ⟨sw_kc_9, by decide, sw_wu5 (i := 34) (by decide +kernel) rfl⟩
theorem sw_f_RX9_155 : sw_fa RX9 155 9 13 42 RX9 TX9 false := ⟨sw_kc_9, by decide, sw_wu5 (i := 35) (by decide +kernel) rfl⟩
theorem sw_f_RX9_158 : sw_fa RX9 158 9 11 42 RX9 TX9 false := ⟨sw_kc_9, by decide, sw_wu5 (i := 33) (by decide +kernel) rfl⟩
theorem sw_f_RX9_16 : sw_fa RX9 16 9 2 42 RX9 TX9 true := ⟨sw_kc_9, by decide, sw_wu5 (i := 24) (by decide +kernel) rfl⟩
theorem sw_f_RX9_161 : sw_fa RX9 161 9 14 42 RX9 TX9 false := ⟨sw_kc_9, by decide, sw_wu5 (i := 36) (by decide +kernel) rfl⟩
theorem sw_f_RX9_186 : sw_fa RX9 186 9 15 42 RX9 TX9 false := ⟨sw_kc_9, by decide, sw_wu5 (i := 37) (by decide +kernel) rfl⟩
theorem sw_f_RX9_19 : sw_fa RX9 19 9 3 42 RX9 TX9 true := ⟨sw_kc_9, by decide, sw_wu5 (i := 25) (by decide +kernel) rfl⟩
theorem sw_f_RX9_201 : sw_fa RX9 201 9 19 42 RX9 TX9 false := ⟨sw_kc_9, by decide, sw_wu5 (i := 41) (by decide +kernel) rfl⟩
theorem sw_f_RX9_204 : sw_fa RX9 204 9 20 42 RX9 TX9 false := ⟨sw_kc_9, by decide, sw_wu5 (i := 42) (by decide +kernel) rfl⟩
theorem sw_f_RX9_22 : sw_fa RX9 22 9 7 42 RX9 TX9 true := ⟨sw_kc_9, by decide, sw_wu5 (i := 29) (by decide +kernel) rfl⟩
theorem sw_f_RX9_25 : sw_fa RX9 25 9 9 42 RX9 TX9 true := ⟨sw_kc_9, by decide, sw_wu5 (i := 31) (by decide +kernel) rfl⟩
theorem sw_f_RX9_259 : sw_fa RX9 259 9 25 42 RX9 TX9 false := ⟨sw_kc_9, by decide, sw_wu5 (i := 47) (by decide +kernel) rfl⟩
theorem sw_f_RX9_262 : sw_fa RX9 262 9 26 42 RX9 TX9 false := ⟨sw_kc_9, by decide, sw_wu5 (i := 48) (by decide +kernel) rfl⟩
theorem sw_f_RX9_28 : sw_fa RX9 28 9 16 42 RX9 TX9 true := ⟨sw_kc_9, by decide, sw_wu5 (i := 38) (by decide +kernel) rfl⟩
theorem sw_f_RX9_31 : sw_fa RX9 31 9 17 42 RX9 TX9 true := ⟨sw_kc_9, by decide, sw_wu5 (i := 39) (by decide +kernel) rfl⟩
theorem sw_f_RX9_313 : sw_fa RX9 313 9 28 42 RX9 TX9 false := ⟨sw_kc_9, by decide, sw_wu5 (i := 50) (by decide +kernel) rfl⟩
theorem sw_f_RX9_317 : sw_fa RX9 317 9 29 42 RX9 TX9 false := ⟨sw_kc_9, by decide, sw_wu5 (i := 51) (by decide +kernel) rfl⟩
theorem sw_f_RX9_320 : sw_fa RX9 320 9 32 42 RX9 TX9 false := ⟨sw_kc_9, by decide, sw_wu5 (i := 54) (by decide +kernel) rfl⟩
theorem sw_f_RX9_323 : sw_fa RX9 323 9 35 42 RX9 TX9 false := ⟨sw_kc_9, by decide, sw_wu5 (i := 57) (by decide +kernel) rfl⟩
theorem sw_f_RX9_332 : sw_fa RX9 332 9 37 42 RX9 TX9 false := ⟨sw_kc_9, by decide, sw_wu5 (i := 59) (by decide +kernel) rfl⟩
theorem sw_f_RX9_338 : sw_fa RX9 338 9 36 42 RX9 TX9 false := ⟨sw_kc_9, by decide, sw_wu5 (i := 58) (by decide +kernel) rfl⟩
theorem sw_f_RX9_34 : sw_fa RX9 34 9 18 42 RX9 TX9 true := ⟨sw_kc_9, by decide, sw_wu5 (i := 40) (by decide +kernel) rfl⟩
theorem sw_f_RX9_37 : sw_fa RX9 37 9 21 42 RX9 TX9 true := ⟨sw_kc_9, by decide, sw_wu5 (i := 43) (by decide +kernel) rfl⟩
theorem sw_f_RX9_40 : sw_fa RX9 40 9 22 42 RX9 TX9 true := ⟨sw_kc_9, by decide, sw_wu5 (i := 44) (by decide +kernel) rfl⟩
theorem sw_f_RX9_43 : sw_fa RX9 43 9 23 42 RX9 TX9 true := ⟨sw_kc_9, by decide, sw_wu5 (i := 45) (by decide +kernel) rfl⟩
theorem sw_f_RX9_46 : sw_fa RX9 46 9 24 42 RX9 TX9 true := ⟨sw_kc_9, by decide, sw_wu5 (i := 46) (by decide +kernel) rfl⟩
theorem sw_f_RX9_49 : sw_fa RX9 49 9 27 42 RX9 TX9 true := ⟨sw_kc_9, by decide, sw_wu5 (i := 49) (by decide +kernel) rfl⟩
theorem sw_f_RX9_52 : sw_fa RX9 52 9 30 42 RX9 TX9 true := ⟨sw_kc_9, by decide, sw_wu5 (i := 52) (by decide +kernel) rfl⟩
theorem sw_f_RX9_55 : sw_fa RX9 55 9 31 42 RX9 TX9 true := ⟨sw_kc_9, by decide, sw_wu5 (i := 53) (by decide +kernel) rfl⟩
theorem sw_f_RX9_58 : sw_fa RX9 58 9 33 42 RX9 TX9 true := ⟨sw_kc_9, by decide, sw_wu5 (i := 55) (by decide +kernel) rfl⟩
theorem sw_f_RX9_61 : sw_fa RX9 61 9 34 42 RX9 TX9 true := ⟨sw_kc_9, by decide, sw_wu5 (i := 56) (by decide +kernel) rfl⟩
theorem sw_f_RX9_64 : sw_fa RX9 64 9 38 42 RX9 TX9 true := ⟨sw_kc_9, by decide, sw_wu5 (i := 60) (by decide +kernel) rfl⟩
theorem sw_f_RX9_67 : sw_fa RX9 67 9 39 42 RX9 TX9 true := ⟨sw_kc_9, by decide, sw_wu5 (i := 61) (by decide +kernel) rfl⟩
theorem sw_f_RX9_70 : sw_fa RX9 70 9 40 42 RX9 TX9 true := ⟨sw_kc_9, by decide, sw_wu5 (i := 62) (by decide +kernel) rfl⟩
theorem sw_f_RX9_74 : sw_fa RX9 74 9 41 42 RX9 TX9 true := ⟨sw_kc_9, by decide, sw_wu5 (i := 63) (by decide +kernel) rfl⟩
theorem sw_f_RX9_77 : sw_fa RX9 77 9 10 42 RX9 TX9 false := ⟨sw_kc_9, by decide, sw_wu5 (i := 32) (by decide +kernel) rfl⟩
theorem sw_f_RX9_81 : sw_fa RX9 81 9 5 42 RX9 TX9 false := ⟨sw_kc_9, by decide, sw_wu5 (i := 27) (by decide +kernel) rfl⟩
theorem sw_f_RX9_84 : sw_fa RX9 84 9 4 42 RX9 TX9 false := ⟨sw_kc_9, by decide, sw_wu5 (i := 26) (by decide +kernel) rfl⟩
theorem sw_f_RX9_9 : sw_fa RX9 9 9 0 42 RX9 TX9 true := ⟨sw_kc_9, by decide, sw_wu5 (i := 22) (by decide +kernel) rfl⟩
theorem sw_f_RX9_95 : sw_fa RX9 95 9 6 42 RX9 TX9 false := ⟨sw_kc_9, by decide, sw_wu5 (i := 28) (by decide +kernel) rfl⟩
theorem sw_fp_0_0 : sw_fp 0 5 TX0 .int := ⟨tyX0, tyX0_ok, nmX0, rfl, rfl⟩
theorem sw_fp_0_1 : sw_fp 1 5 TX0 .int := ⟨tyX0, tyX0_ok, nmX0, rfl, rfl⟩
theorem sw_fp_0_4 : sw_fp 4 5 TX0 .int := ⟨tyX0, tyX0_ok, nmX0, rfl, rfl⟩
theorem sw_fp_1_0 : sw_fp 0 6 TX1 .int := ⟨tyX1, tyX1_ok, nmX1, rfl, rfl⟩
theorem sw_fp_1_1 : sw_fp 1 6 TX1 .int := ⟨tyX1, tyX1_ok, nmX1, rfl, rfl⟩
theorem sw_fp_2_0 : sw_fp 0 8 TX2 .boolean := ⟨tyX2, tyX2_ok, nmX2, rfl, rfl⟩
theorem sw_fp_2_5 : sw_fp 5 8 TX2 .int := ⟨tyX2, tyX2_ok, nmX2, rfl, rfl⟩
theorem sw_fp_2_6 : sw_fp 6 8 TX2 .int := ⟨tyX2, tyX2_ok, nmX2, rfl, rfl⟩
theorem sw_fp_2_7 : sw_fp 7 8 TX2 .int := ⟨tyX2, tyX2_ok, nmX2, rfl, rfl⟩
theorem sw_fp_3_0 : sw_fp 0 6 TX3 .boolean := ⟨tyX3, tyX3_ok, nmX3, rfl, rfl⟩
theorem sw_fp_3_1 : sw_fp 1 6 TX3 .int := ⟨tyX3, tyX3_ok, nmX3, rfl, rfl⟩
theorem sw_fp_4_0 : sw_fp 0 14 TX4 .int := ⟨tyX4, tyX4_ok, nmX4, rfl, rfl⟩
theorem sw_fp_4_1 : sw_fp 1 14 TX4 .int := ⟨tyX4, tyX4_ok, nmX4, rfl, rfl⟩
theorem sw_fp_4_2 : sw_fp 2 14 TX4 .int := ⟨tyX4, tyX4_ok, nmX4, rfl, rfl⟩
theorem sw_fp_4_3 : sw_fp 3 14 TX4 .int := ⟨tyX4, tyX4_ok, nmX4, rfl, rfl⟩
theorem sw_fp_4_4 : sw_fp 4 14 TX4 .int := ⟨tyX4, tyX4_ok, nmX4, rfl, rfl⟩
theorem sw_fp_5_0 : sw_fp 0 5 TX5 .int := ⟨tyX5, tyX5_ok, nmX5, rfl, rfl⟩
theorem sw_fp_5_1 : sw_fp 1 5 TX5 .int := ⟨tyX5, tyX5_ok, nmX5, rfl, rfl⟩
theorem sw_fp_5_2 : sw_fp 2 5 TX5 .int := ⟨tyX5, tyX5_ok, nmX5, rfl, rfl⟩
theorem sw_fp_5_4 : sw_fp 4 5 TX5 .int := ⟨tyX5, tyX5_ok, nmX5, rfl, rfl⟩
theorem sw_fp_6_0 : sw_fp 0 5 TX6 .int := ⟨tyX6, tyX6_ok, nmX6, rfl, rfl⟩
theorem sw_fp_6_3 : sw_fp 3 5 TX6 .int := ⟨tyX6, tyX6_ok, nmX6, rfl, rfl⟩
theorem sw_fp_6_4 : sw_fp 4 5 TX6 .int := ⟨tyX6, tyX6_ok, nmX6, rfl, rfl⟩
theorem sw_fp_7_0 : sw_fp 0 13 TX7 .int := ⟨tyX7, tyX7_ok, nmX7, rfl, rfl⟩
theorem sw_fp_7_1 : sw_fp 1 13 TX7 .int := ⟨tyX7, tyX7_ok, nmX7, rfl, rfl⟩
theorem sw_fp_7_3 : sw_fp 3 13 TX7 .int := ⟨tyX7, tyX7_ok, nmX7, rfl, rfl⟩
theorem sw_fp_7_4 : sw_fp 4 13 TX7 .int := ⟨tyX7, tyX7_ok, nmX7, rfl, rfl⟩
theorem sw_fp_7_5 : sw_fp 5 13 TX7 .int := ⟨tyX7, tyX7_ok, nmX7, rfl, rfl⟩
theorem sw_fp_7_6 : sw_fp 6 13 TX7 .int := ⟨tyX7, tyX7_ok, nmX7, rfl, rfl⟩
theorem sw_fp_9_4 : sw_fp 4 42 TX9 .int := ⟨tyX9, tyX9_ok, nmX9, rfl, rfl⟩
theorem sw_fp_9_5 : sw_fp 5 42 TX9 .int := ⟨tyX9, tyX9_ok, nmX9, rfl, rfl⟩
theorem sw_fp_9_6 : sw_fp 6 42 TX9 .int := ⟨tyX9, tyX9_ok, nmX9, rfl, rfl⟩
theorem sw_fp_9_8 : sw_fp 8 42 TX9 .int := ⟨tyX9, tyX9_ok, nmX9, rfl, rfl⟩
theorem sw_fp_9_10 : sw_fp 10 42 TX9 .int := ⟨tyX9, tyX9_ok, nmX9, rfl, rfl⟩
theorem sw_fp_9_11 : sw_fp 11 42 TX9 .int := ⟨tyX9, tyX9_ok, nmX9, rfl, rfl⟩
theorem sw_fp_9_12 : sw_fp 12 42 TX9 .int := ⟨tyX9, tyX9_ok, nmX9, rfl, rfl⟩
theorem sw_fp_9_13 : sw_fp 13 42 TX9 .int := ⟨tyX9, tyX9_ok, nmX9, rfl, rfl⟩
theorem sw_fp_9_14 : sw_fp 14 42 TX9 .int := ⟨tyX9, tyX9_ok, nmX9, rfl, rfl⟩
theorem sw_fp_9_15 : sw_fp 15 42 TX9 .int := ⟨tyX9, tyX9_ok, nmX9, rfl, rfl⟩
theorem sw_fp_9_19 : sw_fp 19 42 TX9 .int := ⟨tyX9, tyX9_ok, nmX9, rfl, rfl⟩
theorem sw_fp_9_20 : sw_fp 20 42 TX9 .int := ⟨tyX9, tyX9_ok, nmX9, rfl, rfl⟩
theorem sw_fp_9_25 : sw_fp 25 42 TX9 .int := ⟨tyX9, tyX9_ok, nmX9, rfl, rfl⟩
theorem sw_fp_9_26 : sw_fp 26 42 TX9 .int := ⟨tyX9, tyX9_ok, nmX9, rfl, rfl⟩
theorem sw_fp_9_28 : sw_fp 28 42 TX9 .boolean := ⟨tyX9, tyX9_ok, nmX9, rfl, rfl⟩
theorem sw_fp_9_29 : sw_fp 29 42 TX9 .int := ⟨tyX9, tyX9_ok, nmX9, rfl, rfl⟩
theorem sw_fp_9_32 : sw_fp 32 42 TX9 .int := ⟨tyX9, tyX9_ok, nmX9, rfl, rfl⟩
theorem sw_fp_9_35 : sw_fp 35 42 TX9 .int := ⟨tyX9, tyX9_ok, nmX9, rfl, rfl⟩
theorem sw_fp_9_36 : sw_fp 36 42 TX9 .int := ⟨tyX9, tyX9_ok, nmX9, rfl, rfl⟩
theorem sw_fp_9_37 : sw_fp 37 42 TX9 .int := ⟨tyX9, tyX9_ok, nmX9, rfl, rfl⟩
theorem sw_wc_RJ6_265 : Cond.constant RJ6 265 (1431655765 : Int32) ∈ sw_wd := sw_wu3 (i := 47) (by decide +kernel) rfl
theorem sw_wc_RJ6_266 : Cond.constant RJ6 266 (858993459 : Int32) ∈ sw_wd := sw_wu3 (i := 48) (by decide +kernel) rfl
theorem sw_wc_RJ6_267 : Cond.constant RJ6 267 (252645135 : Int32) ∈ sw_wd := sw_wu3 (i := 49) (by decide +kernel) rfl
theorem sw_wc_RX7_180 : Cond.constant RX7 180 (1103515245 : Int32) ∈ sw_wd := sw_wu4 (i := 87) (by decide +kernel) rfl
theorem sw_wc_RX7_99 : Cond.constant RX7 99 (1000000 : Int32) ∈ sw_wd := sw_wu3 (i := 154) (by decide +kernel) rfl
theorem sw_wc_RX8_148 : Cond.constant RX8 148 (-2000000000 : Int32) ∈ sw_wd := sw_wu3 (i := 72) (by decide +kernel) rfl
theorem sw_wc_RX8_340 : Cond.constantLong RX8 340 (-9223372036854775808 : Int64) ∈ sw_wd := sw_wu4 (i := 235) (by decide +kernel) rfl
theorem sw_wc_RX9_102 : Cond.constantLong RX9 102 (11 : Int64) ∈ sw_wd := sw_wu5 (i := 176) (by decide +kernel) rfl
theorem sw_wc_RX9_108 : Cond.constantLong RX9 108 (9 : Int64) ∈ sw_wd := sw_wu5 (i := 180) (by decide +kernel) rfl
theorem sw_wc_RX9_110 : Cond.constantLong RX9 110 (99 : Int64) ∈ sw_wd := sw_wu5 (i := 181) (by decide +kernel) rfl
theorem sw_wc_RX9_123 : Cond.constantLong RX9 123 (10 : Int64) ∈ sw_wd := sw_wu5 (i := 194) (by decide +kernel) rfl
theorem sw_wc_RX9_125 : Cond.constantLong RX9 125 (4 : Int64) ∈ sw_wd := sw_wu5 (i := 203) (by decide +kernel) rfl
theorem sw_wc_RX9_130 : Cond.constantLong RX9 130 (5 : Int64) ∈ sw_wd := sw_wu5 (i := 193) (by decide +kernel) rfl
theorem sw_wc_RX9_132 : Cond.constantLong RX9 132 (7 : Int64) ∈ sw_wd := sw_wu5 (i := 208) (by decide +kernel) rfl
theorem sw_wc_RX9_134 : Cond.constantLong RX9 134 (50 : Int64) ∈ sw_wd := sw_wu5 (i := 213) (by decide +kernel) rfl
theorem sw_wc_RX9_147 : Cond.constantLong RX9 147 (255 : Int64) ∈ sw_wd := sw_wu5 (i := 226) (by decide +kernel) rfl
theorem sw_wc_RX9_232 : Cond.constant RX9 232 (-2000000000 : Int32) ∈ sw_wd := sw_wu6 (i := 38) (by decide +kernel) rfl
theorem sw_wc_RX9_248 : Cond.constantLong RX9 248 (24 : Int64) ∈ sw_wd := sw_wu6 (i := 69) (by decide +kernel) rfl
theorem sw_wc_RX9_268 : Cond.constantLong RX9 268 (3 : Int64) ∈ sw_wd := sw_wu6 (i := 113) (by decide +kernel) rfl
theorem sw_wc_RX9_270 : Cond.constantLong RX9 270 (-2 : Int64) ∈ sw_wd := sw_wu6 (i := 114) (by decide +kernel) rfl
theorem sw_wc_RX9_272 : Cond.constant RX9 272 (1000000 : Int32) ∈ sw_wd := sw_wu6 (i := 115) (by decide +kernel) rfl
theorem sw_wc_RX9_292 : Cond.constantLong RX9 292 (2 : Int64) ∈ sw_wd := sw_wu6 (i := 151) (by decide +kernel) rfl
theorem sw_wc_RX9_300 : Cond.constantLong RX9 300 (18 : Int64) ∈ sw_wd := sw_wu6 (i := 186) (by decide +kernel) rfl
theorem sw_wc_RX9_305 : Cond.constantLong RX9 305 (30 : Int64) ∈ sw_wd := sw_wu6 (i := 199) (by decide +kernel) rfl
theorem sw_wc_RX9_307 : Cond.constantLong RX9 307 (12 : Int64) ∈ sw_wd := sw_wu6 (i := 200) (by decide +kernel) rfl
theorem sw_wc_RX9_309 : Cond.constant RX9 309 (1103515245 : Int32) ∈ sw_wd := sw_wu6 (i := 201) (by decide +kernel) rfl
theorem sw_wc_RX9_359 : Cond.constantLong RX9 359 (-9223372036854775808 : Int64) ∈ sw_wd := sw_wu7 (i := 53) (by decide +kernel) rfl
theorem sw_wl_RX0_35 : Cond.methodLink RX0 35 yX0_from ∈ sw_wd := sw_wu4 (i := 170) (by decide +kernel) rfl
theorem sw_wl_RX0_42 : Cond.methodLink RX0 42 yX0_run ∈ sw_wd := sw_wu4 (i := 176) (by decide +kernel) rfl
theorem sw_wl_RX0_46 : Cond.methodLink RX0 46 yX0_own ∈ sw_wd := sw_wu4 (i := 180) (by decide +kernel) rfl
theorem sw_wl_RX0_49 : Cond.methodLink RX0 49 yX0_above ∈ sw_wd := sw_wu4 (i := 184) (by decide +kernel) rfl
theorem sw_wl_RX1_31 : Cond.methodLink RX1 31 yX1_dropFirst ∈ sw_wd := sw_wu2 (i := 177) (by decide +kernel) rfl
theorem sw_wl_RX1_34 : Cond.methodLink RX1 34 arraycopyName ∈ sw_wd := sw_wu2 (i := 181) (by decide +kernel) rfl
theorem sw_wl_RX1_40 : Cond.methodLink RX1 40 yX1_lay ∈ sw_wd := sw_wu4 (i := 139) (by decide +kernel) rfl
theorem sw_wl_RX1_44 : Cond.methodLink RX1 44 yX4_isTakenByOther ∈ sw_wd := sw_wu4 (i := 143) (by decide +kernel) rfl
theorem sw_wl_RX1_50 : Cond.methodLink RX1 50 yX4_set ∈ sw_wd := sw_wu4 (i := 144) (by decide +kernel) rfl
theorem sw_wl_RX2_52 : Cond.methodLink RX2 52 arraycopyName ∈ sw_wd := sw_wu4 (i := 122) (by decide +kernel) rfl
theorem sw_wl_RX3_30 : Cond.methodLink RX3 30 arraycopyName ∈ sw_wd := sw_wu3 (i := 21) (by decide +kernel) rfl
theorem sw_wl_RX3_42 : Cond.methodLink RX3 42 yX3_workedOut ∈ sw_wd := sw_wu3 (i := 63) (by decide +kernel) rfl
theorem sw_wl_RX3_56 : Cond.methodLink RX3 56 yX3_joined ∈ sw_wd := sw_wu3 (i := 69) (by decide +kernel) rfl
theorem sw_wl_RX4_101 : Cond.methodLink RX4 101 yJ6_bitCount_0f7a4 ∈ sw_wd := sw_wu3 (i := 44) (by decide +kernel) rfl
theorem sw_wl_RX4_109 : Cond.methodLink RX4 109 yX3_growth ∈ sw_wd := sw_wu3 (i := 50) (by decide +kernel) rfl
theorem sw_wl_RX4_115 : Cond.methodLink RX4 115 yX4_awakeCots ∈ sw_wd := sw_wu3 (i := 30) (by decide +kernel) rfl
theorem sw_wl_RX4_118 : Cond.methodLink RX4 118 yX4_growth ∈ sw_wd := sw_wu3 (i := 38) (by decide +kernel) rfl
theorem sw_wl_RX4_121 : Cond.methodLink RX4 121 yX4_grow ∈ sw_wd := sw_wu3 (i := 108) (by decide +kernel) rfl
theorem sw_wl_RX4_127 : Cond.methodLink RX4 127 yX4_isWokenByTouch ∈ sw_wd := sw_wu3 (i := 205) (by decide +kernel) rfl
theorem sw_wl_RX4_139 : Cond.methodLink RX4 139 yX4_mindWhenTold ∈ sw_wd := sw_wu3 (i := 186) (by decide +kernel) rfl
theorem sw_wl_RX4_145 : Cond.methodLink RX4 145 yX4_areApart ∈ sw_wd := sw_wu4 (i := 53) (by decide +kernel) rfl
theorem sw_wl_RX4_55 : Cond.methodLink RX4 55 arraycopyName ∈ sw_wd := sw_wu3 (i := 92) (by decide +kernel) rfl
theorem sw_wl_RX4_61 : Cond.methodLink RX4 61 yX4_becomeInMind ∈ sw_wd := sw_wu3 (i := 93) (by decide +kernel) rfl
theorem sw_wl_RX4_73 : Cond.methodLink RX4 73 yX5_hasPlaces ∈ sw_wd := sw_wu2 (i := 132) (by decide +kernel) rfl
theorem sw_wl_RX4_79 : Cond.methodLink RX4 79 yX5_byteAt ∈ sw_wd := sw_wu2 (i := 136) (by decide +kernel) rfl
theorem sw_wl_RX4_83 : Cond.methodLink RX4 83 yX4_mayCome ∈ sw_wd := sw_wu2 (i := 141) (by decide +kernel) rfl
theorem sw_wl_RX4_86 : Cond.methodLink RX4 86 yX4_add ∈ sw_wd := sw_wu2 (i := 142) (by decide +kernel) rfl
theorem sw_wl_RX4_90 : Cond.methodLink RX4 90 yX4_move ∈ sw_wd := sw_wu2 (i := 169) (by decide +kernel) rfl
theorem sw_wl_RX4_94 : Cond.methodLink RX4 94 yX4_isAwake ∈ sw_wd := sw_wu3 (i := 34) (by decide +kernel) rfl
theorem sw_wl_RX4_97 : Cond.methodLink RX4 97 yX4_awakeSwords ∈ sw_wd := sw_wu3 (i := 167) (by decide +kernel) rfl
theorem sw_wl_RX5_28 : Cond.methodLink RX5 28 yX5_hasPlaces ∈ sw_wd := sw_wu2 (i := 140) (by decide +kernel) rfl
theorem sw_wl_RX6_31 : Cond.methodLink RX6 31 yX6_readLine ∈ sw_wd := sw_wu2 (i := 205) (by decide +kernel) rfl
theorem sw_wl_RX6_34 : Cond.methodLink RX6 34 yX6_next ∈ sw_wd := sw_wu2 (i := 233) (by decide +kernel) rfl
theorem sw_wl_RX6_38 : Cond.methodLink RX6 38 yX6_noteFault ∈ sw_wd := sw_wu3 (i := 13) (by decide +kernel) rfl
theorem sw_wl_RX6_47 : Cond.methodLink RX6 47 yX6_readOr ∈ sw_wd := sw_wu2 (i := 209) (by decide +kernel) rfl
theorem sw_wl_RX6_51 : Cond.methodLink RX6 51 yX3_add ∈ sw_wd := sw_wu3 (i := 5) (by decide +kernel) rfl
theorem sw_wl_RX6_58 : Cond.methodLink RX6 58 yX6_readAnd ∈ sw_wd := sw_wu2 (i := 213) (by decide +kernel) rfl
theorem sw_wl_RX6_61 : Cond.methodLink RX6 61 yX6_readComparison ∈ sw_wd := sw_wu2 (i := 217) (by decide +kernel) rfl
theorem sw_wl_RX6_64 : Cond.methodLink RX6 64 yX6_readSum ∈ sw_wd := sw_wu2 (i := 221) (by decide +kernel) rfl
theorem sw_wl_RX6_67 : Cond.methodLink RX6 67 yX6_readProduct ∈ sw_wd := sw_wu2 (i := 225) (by decide +kernel) rfl
theorem sw_wl_RX6_70 : Cond.methodLink RX6 70 yX6_readOperand ∈ sw_wd := sw_wu2 (i := 229) (by decide +kernel) rfl
theorem sw_wl_RX6_73 : Cond.methodLink RX6 73 yX6_nameOf ∈ sw_wd := sw_wu2 (i := 238) (by decide +kernel) rfl
theorem sw_wl_RX6_77 : Cond.methodLink RX6 77 yX6_readNumber ∈ sw_wd := sw_wu3 (i := 1) (by decide +kernel) rfl
theorem sw_wl_RX6_80 : Cond.methodLink RX6 80 yX6_readOpened ∈ sw_wd := sw_wu3 (i := 9) (by decide +kernel) rfl
theorem sw_wl_RX7_100 : Cond.methodLink RX7 100 yX7_isBetter ∈ sw_wd := sw_wu3 (i := 159) (by decide +kernel) rfl
theorem sw_wl_RX7_104 : Cond.methodLink RX7 104 arraycopyName ∈ sw_wd := sw_wu3 (i := 169) (by decide +kernel) rfl
theorem sw_wl_RX7_110 : Cond.methodLink RX7 110 yX4_foresee ∈ sw_wd := sw_wu3 (i := 170) (by decide +kernel) rfl
theorem sw_wl_RX7_117 : Cond.methodLink RX7 117 yX4_passHourBehind ∈ sw_wd := sw_wu3 (i := 174) (by decide +kernel) rfl
theorem sw_wl_RX7_121 : Cond.methodLink RX7 121 yX4_howManyAwake ∈ sw_wd := sw_wu3 (i := 163) (by decide +kernel) rfl
theorem sw_wl_RX7_124 : Cond.methodLink RX7 124 yX4_mindOfAll ∈ sw_wd := sw_wu3 (i := 168) (by decide +kernel) rfl
theorem sw_wl_RX7_127 : Cond.methodLink RX7 127 yX4_awakeCots ∈ sw_wd := sw_wu3 (i := 218) (by decide +kernel) rfl
theorem sw_wl_RX7_130 : Cond.methodLink RX7 130 yJ6_bitCount_0f7a4 ∈ sw_wd := sw_wu3 (i := 219) (by decide +kernel) rfl
theorem sw_wl_RX7_135 : Cond.methodLink RX7 135 yX7_leastSteps ∈ sw_wd := sw_wu3 (i := 220) (by decide +kernel) rfl
theorem sw_wl_RX7_139 : Cond.methodLink RX7 139 yX7_leastOf ∈ sw_wd := sw_wu3 (i := 230) (by decide +kernel) rfl
theorem sw_wl_RX7_148 : Cond.methodLink RX7 148 yX7_firstWrong ∈ sw_wd := sw_wu4 (i := 15) (by decide +kernel) rfl
theorem sw_wl_RX7_158 : Cond.methodLink RX7 158 yX4_set ∈ sw_wd := sw_wu4 (i := 28) (by decide +kernel) rfl
theorem sw_wl_RX7_162 : Cond.methodLink RX7 162 yX4_changeCots ∈ sw_wd := sw_wu4 (i := 37) (by decide +kernel) rfl
theorem sw_wl_RX7_165 : Cond.methodLink RX7 165 yX7_outcome ∈ sw_wd := sw_wu4 (i := 65) (by decide +kernel) rfl
theorem sw_wl_RX7_168 : Cond.methodLink RX7 168 yX4_becomeInMind ∈ sw_wd := sw_wu4 (i := 69) (by decide +kernel) rfl
theorem sw_wl_RX7_171 : Cond.methodLink RX7 171 yX7_outcomeOf ∈ sw_wd := sw_wu4 (i := 70) (by decide +kernel) rfl
theorem sw_wl_RX7_174 : Cond.methodLink RX7 174 yX4_tellAt ∈ sw_wd := sw_wu4 (i := 74) (by decide +kernel) rfl
theorem sw_wl_RX7_177 : Cond.methodLink RX7 177 yX4_touchFrom ∈ sw_wd := sw_wu4 (i := 78) (by decide +kernel) rfl
theorem sw_wl_RX7_58 : Cond.methodLink RX7 58 yX4_become ∈ sw_wd := sw_wu3 (i := 88) (by decide +kernel) rfl
theorem sw_wl_RX7_62 : Cond.methodLink RX7 62 yX7_fresh ∈ sw_wd := sw_wu3 (i := 84) (by decide +kernel) rfl
theorem sw_wl_RX7_66 : Cond.methodLink RX7 66 yX5_hours ∈ sw_wd := sw_wu3 (i := 97) (by decide +kernel) rfl
theorem sw_wl_RX7_78 : Cond.methodLink RX7 78 yX5_byteAt ∈ sw_wd := sw_wu3 (i := 103) (by decide +kernel) rfl
theorem sw_wl_RX7_82 : Cond.methodLink RX7 82 yX4_passHour ∈ sw_wd := sw_wu3 (i := 104) (by decide +kernel) rfl
theorem sw_wl_RX7_89 : Cond.methodLink RX7 89 yX4_awakeSwords ∈ sw_wd := sw_wu3 (i := 141) (by decide +kernel) rfl
theorem sw_wl_RX7_92 : Cond.methodLink RX7 92 yX7_forgetBest ∈ sw_wd := sw_wu3 (i := 150) (by decide +kernel) rfl
theorem sw_wl_RX7_95 : Cond.methodLink RX7 95 yX7_plan ∈ sw_wd := sw_wu3 (i := 155) (by decide +kernel) rfl
theorem sw_wl_RX8_105 : Cond.methodLink RX8 105 yX4_isTakenByOther ∈ sw_wd := sw_wu2 (i := 157) (by decide +kernel) rfl
theorem sw_wl_RX8_108 : Cond.methodLink RX8 108 yX4_get ∈ sw_wd := sw_wu2 (i := 161) (by decide +kernel) rfl
theorem sw_wl_RX8_112 : Cond.methodLink RX8 112 yX4_set ∈ sw_wd := sw_wu2 (i := 165) (by decide +kernel) rfl
theorem sw_wl_RX8_116 : Cond.methodLink RX8 116 yX1_add ∈ sw_wd := sw_wu2 (i := 173) (by decide +kernel) rfl
theorem sw_wl_RX8_119 : Cond.methodLink RX8 119 yX8_isCot ∈ sw_wd := sw_wu2 (i := 188) (by decide +kernel) rfl
theorem sw_wl_RX8_125 : Cond.methodLink RX8 125 yX6_add ∈ sw_wd := sw_wu2 (i := 193) (by decide +kernel) rfl
theorem sw_wl_RX8_130 : Cond.methodLink RX8 130 yX6_read ∈ sw_wd := sw_wu2 (i := 201) (by decide +kernel) rfl
theorem sw_wl_RX8_137 : Cond.methodLink RX8 137 yX3_become ∈ sw_wd := sw_wu3 (i := 17) (by decide +kernel) rfl
theorem sw_wl_RX8_141 : Cond.methodLink RX8 141 yX8_isSword ∈ sw_wd := sw_wu2 (i := 151) (by decide +kernel) rfl
theorem sw_wl_RX8_144 : Cond.methodLink RX8 144 yX4_growthNow ∈ sw_wd := sw_wu3 (i := 26) (by decide +kernel) rfl
theorem sw_wl_RX8_149 : Cond.methodLink RX8 149 yX8_refusalOfBytes ∈ sw_wd := sw_wu3 (i := 77) (by decide +kernel) rfl
theorem sw_wl_RX8_153 : Cond.methodLink RX8 153 yX7_behind ∈ sw_wd := sw_wu3 (i := 80) (by decide +kernel) rfl
theorem sw_wl_RX8_160 : Cond.methodLink RX8 160 yX4_awakeSwords ∈ sw_wd := sw_wu3 (i := 117) (by decide +kernel) rfl
theorem sw_wl_RX8_163 : Cond.methodLink RX8 163 yX4_mindOfAll ∈ sw_wd := sw_wu3 (i := 121) (by decide +kernel) rfl
theorem sw_wl_RX8_166 : Cond.methodLink RX8 166 yX7_firstCry ∈ sw_wd := sw_wu3 (i := 129) (by decide +kernel) rfl
theorem sw_wl_RX8_169 : Cond.methodLink RX8 169 yX7_firstSilence ∈ sw_wd := sw_wu3 (i := 137) (by decide +kernel) rfl
theorem sw_wl_RX8_172 : Cond.methodLink RX8 172 yX7_planRound ∈ sw_wd := sw_wu3 (i := 146) (by decide +kernel) rfl
theorem sw_wl_RX8_185 : Cond.methodLink RX8 185 yX4_canAllBeTold ∈ sw_wd := sw_wu3 (i := 182) (by decide +kernel) rfl
theorem sw_wl_RX8_188 : Cond.methodLink RX8 188 yX4_howManyAwake ∈ sw_wd := sw_wu3 (i := 191) (by decide +kernel) rfl
theorem sw_wl_RX8_191 : Cond.methodLink RX8 191 yX4_mindOfAllTold ∈ sw_wd := sw_wu3 (i := 192) (by decide +kernel) rfl
theorem sw_wl_RX8_194 : Cond.methodLink RX8 194 yX7_fresh ∈ sw_wd := sw_wu3 (i := 200) (by decide +kernel) rfl
theorem sw_wl_RX8_198 : Cond.methodLink RX8 198 yX4_touchFrom ∈ sw_wd := sw_wu3 (i := 201) (by decide +kernel) rfl
theorem sw_wl_RX8_205 : Cond.methodLink RX8 205 yX7_stepsByAll ∈ sw_wd := sw_wu3 (i := 214) (by decide +kernel) rfl
theorem sw_wl_RX8_208 : Cond.methodLink RX8 208 yX4_nearestAwakeCot ∈ sw_wd := sw_wu3 (i := 234) (by decide +kernel) rfl
theorem sw_wl_RX8_214 : Cond.methodLink RX8 214 yX8_steps ∈ sw_wd := sw_wu3 (i := 239) (by decide +kernel) rfl
theorem sw_wl_RX8_217 : Cond.methodLink RX8 217 yX8_areShelves ∈ sw_wd := sw_wu4 (i := 4) (by decide +kernel) rfl
theorem sw_wl_RX8_220 : Cond.methodLink RX8 220 yX8_refusalOfBoth ∈ sw_wd := sw_wu4 (i := 7) (by decide +kernel) rfl
theorem sw_wl_RX8_223 : Cond.methodLink RX8 223 yX7_judged ∈ sw_wd := sw_wu4 (i := 11) (by decide +kernel) rfl
theorem sw_wl_RX8_227 : Cond.methodLink RX8 227 yX7_fit ∈ sw_wd := sw_wu4 (i := 23) (by decide +kernel) rfl
theorem sw_wl_RX8_237 : Cond.methodLink RX8 237 yX7_deal ∈ sw_wd := sw_wu4 (i := 33) (by decide +kernel) rfl
theorem sw_wl_RX8_243 : Cond.methodLink RX8 243 yX4_pairsOf ∈ sw_wd := sw_wu4 (i := 45) (by decide +kernel) rfl
theorem sw_wl_RX8_246 : Cond.methodLink RX8 246 yX4_mostApart ∈ sw_wd := sw_wu4 (i := 49) (by decide +kernel) rfl
theorem sw_wl_RX8_249 : Cond.methodLink RX8 249 yJ6_bitCount_0f7a4 ∈ sw_wd := sw_wu4 (i := 56) (by decide +kernel) rfl
theorem sw_wl_RX8_254 : Cond.methodLink RX8 254 yX7_playTurns ∈ sw_wd := sw_wu4 (i := 61) (by decide +kernel) rfl
theorem sw_wl_RX8_260 : Cond.methodLink RX8 260 yX7_drawNights ∈ sw_wd := sw_wu4 (i := 83) (by decide +kernel) rfl
theorem sw_wl_RX8_264 : Cond.methodLink RX8 264 yX4_passHour ∈ sw_wd := sw_wu4 (i := 92) (by decide +kernel) rfl
theorem sw_wl_RX8_268 : Cond.methodLink RX8 268 yX2_add ∈ sw_wd := sw_wu4 (i := 93) (by decide +kernel) rfl
theorem sw_wl_RX8_271 : Cond.methodLink RX8 271 yX4_tellAt ∈ sw_wd := sw_wu4 (i := 101) (by decide +kernel) rfl
theorem sw_wl_RX8_280 : Cond.methodLink RX8 280 yX2_keepImage ∈ sw_wd := sw_wu4 (i := 118) (by decide +kernel) rfl
theorem sw_wl_RX8_288 : Cond.methodLink RX8 288 yX2_layBack ∈ sw_wd := sw_wu4 (i := 127) (by decide +kernel) rfl
theorem sw_wl_RX8_291 : Cond.methodLink RX8 291 yX1_stepBack ∈ sw_wd := sw_wu4 (i := 135) (by decide +kernel) rfl
theorem sw_wl_RX8_298 : Cond.methodLink RX8 298 yX1_stepOn ∈ sw_wd := sw_wu4 (i := 149) (by decide +kernel) rfl
theorem sw_wl_RX8_303 : Cond.methodLink RX8 303 yX0_add ∈ sw_wd := sw_wu4 (i := 157) (by decide +kernel) rfl
theorem sw_wl_RX8_305 : Cond.methodLink RX8 305 yX0_perform ∈ sw_wd := sw_wu4 (i := 165) (by decide +kernel) rfl
theorem sw_wl_RX8_319 : Cond.methodLink RX8 319 yX5_clear ∈ sw_wd := sw_wu4 (i := 198) (by decide +kernel) rfl
theorem sw_wl_RX8_325 : Cond.methodLink RX8 325 yX5_holdBlade ∈ sw_wd := sw_wu4 (i := 202) (by decide +kernel) rfl
theorem sw_wl_RX8_328 : Cond.methodLink RX8 328 yX5_holdRow ∈ sw_wd := sw_wu4 (i := 210) (by decide +kernel) rfl
theorem sw_wl_RX8_331 : Cond.methodLink RX8 331 yX8_refusalOfElement ∈ sw_wd := sw_wu4 (i := 218) (by decide +kernel) rfl
theorem sw_wl_RX8_334 : Cond.methodLink RX8 334 yX5_store ∈ sw_wd := sw_wu4 (i := 227) (by decide +kernel) rfl
theorem sw_wl_RX8_346 : Cond.methodLink RX8 346 yX5_holdsRow ∈ sw_wd := sw_wu4 (i := 222) (by decide +kernel) rfl
theorem sw_wl_RX8_352 : Cond.methodLink RX8 352 yX5_hasPlaces ∈ sw_wd := sw_wu4 (i := 226) (by decide +kernel) rfl
theorem sw_wl_RX8_355 : Cond.methodLink RX8 355 arraycopyName ∈ sw_wd := sw_wu5 (i := 0) (by decide +kernel) rfl
theorem sw_wl_RX8_361 : Cond.methodLink RX8 361 yX5_holdsBlade ∈ sw_wd := sw_wu5 (i := 5) (by decide +kernel) rfl
theorem sw_wl_RX8_367 : Cond.methodLink RX8 367 yX0_isUnder ∈ sw_wd := sw_wu5 (i := 9) (by decide +kernel) rfl
theorem sw_wl_RX8_67 : Cond.methodLink RX8 67 yX4_mayCome ∈ sw_wd := sw_wu2 (i := 98) (by decide +kernel) rfl
theorem sw_wl_RX8_75 : Cond.methodLink RX8 75 yX4_add ∈ sw_wd := sw_wu2 (i := 109) (by decide +kernel) rfl
theorem sw_wl_RX8_79 : Cond.methodLink RX8 79 yX8_isShelf ∈ sw_wd := sw_wu2 (i := 117) (by decide +kernel) rfl
theorem sw_wl_RX8_83 : Cond.methodLink RX8 83 yX8_within ∈ sw_wd := sw_wu2 (i := 105) (by decide +kernel) rfl
theorem sw_wl_RX8_86 : Cond.methodLink RX8 86 yX5_holdsNothing ∈ sw_wd := sw_wu2 (i := 120) (by decide +kernel) rfl
theorem sw_wl_RX8_90 : Cond.methodLink RX8 90 yX5_holdsBytes ∈ sw_wd := sw_wu2 (i := 124) (by decide +kernel) rfl
theorem sw_wl_RX8_93 : Cond.methodLink RX8 93 yX4_addFrom ∈ sw_wd := sw_wu2 (i := 128) (by decide +kernel) rfl
theorem sw_wl_RX8_97 : Cond.methodLink RX8 97 yX8_isMendable ∈ sw_wd := sw_wu2 (i := 147) (by decide +kernel) rfl
theorem sw_wl_RX9_104 : Cond.methodLink RX9 104 yX9_isCot ∈ sw_wd := sw_wu5 (i := 173) (by decide +kernel) rfl
theorem sw_wl_RX9_112 : Cond.methodLink RX9 112 yX9_mayCome ∈ sw_wd := sw_wu5 (i := 169) (by decide +kernel) rfl
theorem sw_wl_RX9_115 : Cond.methodLink RX9 115 yX9_adds ∈ sw_wd := sw_wu5 (i := 182) (by decide +kernel) rfl
theorem sw_wl_RX9_119 : Cond.methodLink RX9 119 yX9_isShelf ∈ sw_wd := sw_wu5 (i := 190) (by decide +kernel) rfl
theorem sw_wl_RX9_127 : Cond.methodLink RX9 127 yX9_isSword ∈ sw_wd := sw_wu5 (i := 204) (by decide +kernel) rfl
theorem sw_wl_RX9_136 : Cond.methodLink RX9 136 yX9_placeOf ∈ sw_wd := sw_wu5 (i := 199) (by decide +kernel) rfl
theorem sw_wl_RX9_140 : Cond.methodLink RX9 140 yX9_mayBecome ∈ sw_wd := sw_wu5 (i := 209) (by decide +kernel) rfl
theorem sw_wl_RX9_144 : Cond.methodLink RX9 144 yX9_becomes ∈ sw_wd := sw_wu5 (i := 214) (by decide +kernel) rfl
theorem sw_wl_RX9_164 : Cond.methodLink RX9 164 yX9_byteAt ∈ sw_wd := sw_wu6 (i := 19) (by decide +kernel) rfl
theorem sw_wl_RX9_168 : Cond.methodLink RX9 168 yX9_both ∈ sw_wd := sw_wu5 (i := 239) (by decide +kernel) rfl
theorem sw_wl_RX9_171 : Cond.methodLink RX9 171 yX9_takes ∈ sw_wd := sw_wu6 (i := 27) (by decide +kernel) rfl
theorem sw_wl_RX9_174 : Cond.methodLink RX9 174 yX9_compared ∈ sw_wd := sw_wu6 (i := 3) (by decide +kernel) rfl
theorem sw_wl_RX9_177 : Cond.methodLink RX9 177 yX9_sums ∈ sw_wd := sw_wu6 (i := 7) (by decide +kernel) rfl
theorem sw_wl_RX9_180 : Cond.methodLink RX9 180 yX9_product ∈ sw_wd := sw_wu6 (i := 11) (by decide +kernel) rfl
theorem sw_wl_RX9_183 : Cond.methodLink RX9 183 yX9_one ∈ sw_wd := sw_wu6 (i := 15) (by decide +kernel) rfl
theorem sw_wl_RX9_189 : Cond.methodLink RX9 189 yX9_wrong ∈ sw_wd := sw_wu6 (i := 23) (by decide +kernel) rfl
theorem sw_wl_RX9_192 : Cond.methodLink RX9 192 yX9_either ∈ sw_wd := sw_wu5 (i := 235) (by decide +kernel) rfl
theorem sw_wl_RX9_195 : Cond.methodLink RX9 195 yX9_nameOf ∈ sw_wd := sw_wu6 (i := 31) (by decide +kernel) rfl
theorem sw_wl_RX9_198 : Cond.methodLink RX9 198 yX9_workOut ∈ sw_wd := sw_wu5 (i := 231) (by decide +kernel) rfl
theorem sw_wl_RX9_207 : Cond.methodLink RX9 207 yX9_sizeOf ∈ sw_wd := sw_wu6 (i := 54) (by decide +kernel) rfl
theorem sw_wl_RX9_210 : Cond.methodLink RX9 210 yX9_areBeside ∈ sw_wd := sw_wu6 (i := 51) (by decide +kernel) rfl
theorem sw_wl_RX9_214 : Cond.methodLink RX9 214 yX9_isAwake ∈ sw_wd := sw_wu6 (i := 57) (by decide +kernel) rfl
theorem sw_wl_RX9_217 : Cond.methodLink RX9 217 yX9_awakeBeside ∈ sw_wd := sw_wu6 (i := 47) (by decide +kernel) rfl
theorem sw_wl_RX9_220 : Cond.methodLink RX9 220 yX9_growsIn ∈ sw_wd := sw_wu6 (i := 43) (by decide +kernel) rfl
theorem sw_wl_RX9_223 : Cond.methodLink RX9 223 yX9_heldMind ∈ sw_wd := sw_wu6 (i := 86) (by decide +kernel) rfl
theorem sw_wl_RX9_226 : Cond.methodLink RX9 226 yX9_awakeSet ∈ sw_wd := sw_wu6 (i := 93) (by decide +kernel) rfl
theorem sw_wl_RX9_229 : Cond.methodLink RX9 229 yX9_bitsOf ∈ sw_wd := sw_wu6 (i := 124) (by decide +kernel) rfl
theorem sw_wl_RX9_233 : Cond.methodLink RX9 233 yX9_begins ∈ sw_wd := sw_wu6 (i := 39) (by decide +kernel) rfl
theorem sw_wl_RX9_236 : Cond.methodLink RX9 236 yX9_goesHour ∈ sw_wd := sw_wu6 (i := 82) (by decide +kernel) rfl
theorem sw_wl_RX9_239 : Cond.methodLink RX9 239 yX9_hourMany ∈ sw_wd := sw_wu6 (i := 74) (by decide +kernel) rfl
theorem sw_wl_RX9_242 : Cond.methodLink RX9 242 yX9_goesNext ∈ sw_wd := sw_wu6 (i := 78) (by decide +kernel) rfl
theorem sw_wl_RX9_245 : Cond.methodLink RX9 245 yX9_bytesIs ∈ sw_wd := sw_wu6 (i := 65) (by decide +kernel) rfl
theorem sw_wl_RX9_250 : Cond.methodLink RX9 250 yX9_goesRound ∈ sw_wd := sw_wu6 (i := 70) (by decide +kernel) rfl
theorem sw_wl_RX9_253 : Cond.methodLink RX9 253 yX9_mindAll ∈ sw_wd := sw_wu6 (i := 97) (by decide +kernel) rfl
theorem sw_wl_RX9_256 : Cond.methodLink RX9 256 yX9_awakeMany ∈ sw_wd := sw_wu6 (i := 120) (by decide +kernel) rfl
theorem sw_wl_RX9_265 : Cond.methodLink RX9 265 yX9_triesRound ∈ sw_wd := sw_wu6 (i := 116) (by decide +kernel) rfl
theorem sw_wl_RX9_273 : Cond.methodLink RX9 273 yX9_isToldAt ∈ sw_wd := sw_wu6 (i := 131) (by decide +kernel) rfl
theorem sw_wl_RX9_276 : Cond.methodLink RX9 276 yX9_isTouched ∈ sw_wd := sw_wu6 (i := 139) (by decide +kernel) rfl
theorem sw_wl_RX9_280 : Cond.methodLink RX9 280 yX9_touchedMany ∈ sw_wd := sw_wu6 (i := 143) (by decide +kernel) rfl
theorem sw_wl_RX9_283 : Cond.methodLink RX9 283 yX9_isIn ∈ sw_wd := sw_wu6 (i := 159) (by decide +kernel) rfl
theorem sw_wl_RX9_286 : Cond.methodLink RX9 286 yX9_stepsTo ∈ sw_wd := sw_wu6 (i := 152) (by decide +kernel) rfl
theorem sw_wl_RX9_289 : Cond.methodLink RX9 289 yX9_stepsBy ∈ sw_wd := sw_wu6 (i := 155) (by decide +kernel) rfl
theorem sw_wl_RX9_294 : Cond.methodLink RX9 294 yX9_rowsAre ∈ sw_wd := sw_wu6 (i := 166) (by decide +kernel) rfl
theorem sw_wl_RX9_297 : Cond.methodLink RX9 297 yX9_firstFalse ∈ sw_wd := sw_wu6 (i := 170) (by decide +kernel) rfl
theorem sw_wl_RX9_302 : Cond.methodLink RX9 302 yX9_playsFrom ∈ sw_wd := sw_wu6 (i := 191) (by decide +kernel) rfl
theorem sw_wl_RX9_310 : Cond.methodLink RX9 310 yX9_keepsMind ∈ sw_wd := sw_wu6 (i := 206) (by decide +kernel) rfl
theorem sw_wl_RX9_326 : Cond.methodLink RX9 326 yX9_runs ∈ sw_wd := sw_wu7 (i := 10) (by decide +kernel) rfl
theorem sw_wl_RX9_329 : Cond.methodLink RX9 329 yX9_wakesAs ∈ sw_wd := sw_wu7 (i := 6) (by decide +kernel) rfl
theorem sw_wl_RX9_335 : Cond.methodLink RX9 335 yX9_hushesAs ∈ sw_wd := sw_wu7 (i := 14) (by decide +kernel) rfl
theorem sw_wl_RX9_341 : Cond.methodLink RX9 341 yX9_criesAs ∈ sw_wd := sw_wu7 (i := 18) (by decide +kernel) rfl
theorem sw_wl_RX9_344 : Cond.methodLink RX9 344 yX9_tellsAs ∈ sw_wd := sw_wu7 (i := 22) (by decide +kernel) rfl
theorem sw_wl_RX9_347 : Cond.methodLink RX9 347 yX9_isBody ∈ sw_wd := sw_wu7 (i := 2) (by decide +kernel) rfl
theorem sw_wl_RX9_350 : Cond.methodLink RX9 350 yX9_refusal ∈ sw_wd := sw_wu7 (i := 42) (by decide +kernel) rfl
theorem sw_wl_RX9_353 : Cond.methodLink RX9 353 yX9_asSort ∈ sw_wd := sw_wu7 (i := 46) (by decide +kernel) rfl
theorem sw_wl_RX9_361 : Cond.methodLink RX9 361 yX9_kindOf ∈ sw_wd := sw_wu7 (i := 62) (by decide +kernel) rfl
theorem sw_wl_RX9_364 : Cond.methodLink RX9 364 yX9_above ∈ sw_wd := sw_wu7 (i := 66) (by decide +kernel) rfl
theorem sw_wl_RX9_367 : Cond.methodLink RX9 367 yX9_manyAwake ∈ sw_wd := sw_wu7 (i := 73) (by decide +kernel) rfl
theorem sw_wl_RX9_87 : Cond.methodLink RX9 87 yX9_inCot ∈ sw_wd := sw_wu5 (i := 157) (by decide +kernel) rfl
theorem sw_wl_RX9_91 : Cond.methodLink RX9 91 yX9_turns ∈ sw_wd := sw_wu5 (i := 153) (by decide +kernel) rfl
theorem sw_wl_RX9_98 : Cond.methodLink RX9 98 yX9_within ∈ sw_wd := sw_wu5 (i := 177) (by decide +kernel) rfl
theorem sw_ws_RX0_26 : Cond.fieldLink RX0 26 RX0 "ABOVE" "[I" ∈ sw_wd := sw_wu4 (i := 188) (by decide +kernel) rfl
theorem sw_ws_RX0_39 : Cond.fieldLink RX0 39 RX0 "BODY_OF" "[I" ∈ sw_wd := sw_wu4 (i := 174) (by decide +kernel) rfl
theorem sw_ws_RX8_101 : Cond.fieldLink RX8 101 RX8 "GREATEST" "[I" ∈ sw_wd := sw_wu2 (i := 155) (by decide +kernel) rfl
theorem sw_wn_RX0_29 : (RX0, 29, yX8_within) ∈ sw_nm := by decide +kernel
theorem sw_wn_RX3_36 : (RX3, 36, yX8_heldWithin) ∈ sw_nm := by decide +kernel
theorem sw_wn_RX3_46 : (RX3, 46, yX8_within) ∈ sw_nm := by decide +kernel
theorem sw_wn_RX4_124 : (RX4, 124, yX8_heldWithin) ∈ sw_nm := by decide +kernel
theorem sw_wn_RX4_142 : (RX4, 142, yX8_steps) ∈ sw_nm := by decide +kernel
theorem sw_wn_RX4_65 : (RX4, 65, yX8_isCot) ∈ sw_nm := by decide +kernel
theorem sw_wn_RX4_69 : (RX4, 69, yX8_within) ∈ sw_nm := by decide +kernel
theorem sw_wn_RX5_32 : (RX5, 32, yX8_isCot) ∈ sw_nm := by decide +kernel
theorem sw_wn_RX6_41 : (RX6, 41, yX8_within) ∈ sw_nm := by decide +kernel
theorem sw_wn_RX7_145 : (RX7, 145, yX8_steps) ∈ sw_nm := by decide +kernel
theorem sw_wz_RX4_106 : (RX4, 106, RX8, "BESIDE") ∈ sw_nf := by decide +kernel
theorem sw_wz_RX7_155 : (RX7, 155, RX8, "GREATEST") ∈ sw_nf := by decide +kernel
theorem sw_mv_X0_above : sw_mv yX0_above cX0_above 5 (some .int) 4 0 5 TX0 := ⟨sw_kc_0, ⟨sw_wu4 (i := 187) (by decide +kernel) rfl, sw_wu1 (i := 8) (by decide +kernel) rfl, by decide, by decide, by decide +kernel⟩, sw_wu4 (i := 186) (by decide +kernel) rfl, sw_wp (q := (yX0_above, 5)) (i := 33) (by decide +kernel) (by decide +kernel)⟩
theorem sw_mv_X0_add : sw_mv yX0_add cX0_add 2 (some .int) 1 0 5 TX0 := ⟨sw_kc_0, ⟨sw_wu4 (i := 160) (by decide +kernel) rfl, sw_wu1 (i := 8) (by decide +kernel) rfl, by decide, by decide, by decide +kernel⟩, sw_wu4 (i := 158) (by decide +kernel) rfl, sw_wu4 (i := 159) (by decide +kernel) rfl⟩
theorem sw_mv_X0_from : sw_mv yX0_from cX0_from 8 (some .int) 4 0 5 TX0 := ⟨sw_kc_0, ⟨sw_wu4 (i := 173) (by decide +kernel) rfl, sw_wu1 (i := 8) (by decide +kernel) rfl, by decide, by decide, by decide +kernel⟩, sw_wu4 (i := 172) (by decide +kernel) rfl, sw_wp (q := (yX0_from, 5)) (i := 30) (by decide +kernel) (by decide +kernel)⟩
theorem sw_mv_X0_own : sw_mv yX0_own cX0_own 4 (some .int) 3 0 5 TX0 := ⟨sw_kc_0, ⟨sw_wu4 (i := 183) (by decide +kernel) rfl, sw_wu1 (i := 8) (by decide +kernel) rfl, by decide, by decide, by decide +kernel⟩, sw_wu4 (i := 182) (by decide +kernel) rfl, sw_wp (q := (yX0_own, 5)) (i := 32) (by decide +kernel) (by decide +kernel)⟩
theorem sw_mv_X0_perform : sw_mv yX0_perform cX0_perform 4 (some .int) 3 0 5 TX0 := ⟨sw_kc_0, ⟨sw_wu4 (i := 168) (by decide +kernel) rfl, sw_wu1 (i := 8) (by decide +kernel) rfl, by decide, by decide, by decide +kernel⟩, sw_wu4 (i := 166) (by decide +kernel) rfl, sw_wu4 (i := 167) (by decide +kernel) rfl⟩
theorem sw_mv_X0_run : sw_mv yX0_run cX0_run 4 (some .int) 3 0 5 TX0 := ⟨sw_kc_0, ⟨sw_wu4 (i := 179) (by decide +kernel) rfl, sw_wu1 (i := 8) (by decide +kernel) rfl, by decide, by decide, by decide +kernel⟩, sw_wu4 (i := 178) (by decide +kernel) rfl, sw_wp (q := (yX0_run, 5)) (i := 31) (by decide +kernel) (by decide +kernel)⟩
theorem sw_mv_X1_add : sw_mv yX1_add cX1_add 5 none 4 1 6 TX1 := ⟨sw_kc_1, ⟨sw_wu2 (i := 176) (by decide +kernel) rfl, sw_wu1 (i := 6) (by decide +kernel) rfl, by decide, by decide, by decide +kernel⟩, sw_wu2 (i := 174) (by decide +kernel) rfl, sw_wu2 (i := 175) (by decide +kernel) rfl⟩
theorem sw_mv_X1_dropFirst : sw_mv yX1_dropFirst cX1_dropFirst 1 none 0 1 6 TX1 := ⟨sw_kc_1, ⟨sw_wu2 (i := 180) (by decide +kernel) rfl, sw_wu1 (i := 6) (by decide +kernel) rfl, by decide, by decide, by decide +kernel⟩, sw_wu2 (i := 179) (by decide +kernel) rfl, sw_wp (q := (yX1_dropFirst, 6)) (i := 3) (by decide +kernel) (by decide +kernel)⟩
theorem sw_mv_X1_lay : sw_mv yX1_lay cX1_lay 5 none 3 1 6 TX1 := ⟨sw_kc_1, ⟨sw_wu4 (i := 142) (by decide +kernel) rfl, sw_wu1 (i := 6) (by decide +kernel) rfl, by decide, by decide, by decide +kernel⟩, sw_wu4 (i := 141) (by decide +kernel) rfl, sw_wp (q := (yX1_lay, 6)) (i := 29) (by decide +kernel) (by decide +kernel)⟩
theorem sw_mv_X1_stepBack : sw_mv yX1_stepBack cX1_stepBack 2 (some .boolean) 1 1 6 TX1 := ⟨sw_kc_1, ⟨sw_wu4 (i := 138) (by decide +kernel) rfl, sw_wu1 (i := 6) (by decide +kernel) rfl, by decide, by decide, by decide +kernel⟩, sw_wu4 (i := 136) (by decide +kernel) rfl, sw_wu4 (i := 137) (by decide +kernel) rfl⟩
theorem sw_mv_X1_stepOn : sw_mv yX1_stepOn cX1_stepOn 2 (some .boolean) 1 1 6 TX1 := ⟨sw_kc_1, ⟨sw_wu4 (i := 152) (by decide +kernel) rfl, sw_wu1 (i := 6) (by decide +kernel) rfl, by decide, by decide, by decide +kernel⟩, sw_wu4 (i := 150) (by decide +kernel) rfl, sw_wu4 (i := 151) (by decide +kernel) rfl⟩
theorem sw_mv_X2_add : sw_mv yX2_add cX2_add 3 none 2 2 8 TX2 := ⟨sw_kc_2, ⟨sw_wu4 (i := 96) (by decide +kernel) rfl, sw_wu1 (i := 7) (by decide +kernel) rfl, by decide, by decide, by decide +kernel⟩, sw_wu4 (i := 94) (by decide +kernel) rfl, sw_wu4 (i := 95) (by decide +kernel) rfl⟩
theorem sw_mv_X2_keepImage : sw_mv yX2_keepImage cX2_keepImage 2 none 1 2 8 TX2 := ⟨sw_kc_2, ⟨sw_wu4 (i := 121) (by decide +kernel) rfl, sw_wu1 (i := 7) (by decide +kernel) rfl, by decide, by decide, by decide +kernel⟩, sw_wu4 (i := 119) (by decide +kernel) rfl, sw_wu4 (i := 120) (by decide +kernel) rfl⟩
theorem sw_mv_X2_layBack : sw_mv yX2_layBack cX2_layBack 2 none 1 2 8 TX2 := ⟨sw_kc_2, ⟨sw_wu4 (i := 130) (by decide +kernel) rfl, sw_wu1 (i := 7) (by decide +kernel) rfl, by decide, by decide, by decide +kernel⟩, sw_wu4 (i := 128) (by decide +kernel) rfl, sw_wu4 (i := 129) (by decide +kernel) rfl⟩
theorem sw_mv_X3_add : sw_mv yX3_add cX3_add 3 none 2 3 6 TX3 := ⟨sw_kc_3, ⟨sw_wu3 (i := 8) (by decide +kernel) rfl, sw_wu1 (i := 3) (by decide +kernel) rfl, by decide, by decide, by decide +kernel⟩, sw_wu3 (i := 6) (by decide +kernel) rfl, sw_wu3 (i := 7) (by decide +kernel) rfl⟩
theorem sw_mv_X3_become : sw_mv yX3_become cX3_become 2 none 1 3 6 TX3 := ⟨sw_kc_3, ⟨sw_wu3 (i := 20) (by decide +kernel) rfl, sw_wu1 (i := 3) (by decide +kernel) rfl, by decide, by decide, by decide +kernel⟩, sw_wu3 (i := 18) (by decide +kernel) rfl, sw_wu3 (i := 19) (by decide +kernel) rfl⟩
theorem sw_mv_X3_growth : sw_mv yX3_growth cX3_growth 7 (some .int) 6 3 6 TX3 := ⟨sw_kc_3, ⟨sw_wu3 (i := 53) (by decide +kernel) rfl, sw_wu1 (i := 3) (by decide +kernel) rfl, by decide, by decide, by decide +kernel⟩, sw_wu3 (i := 51) (by decide +kernel) rfl, sw_wu3 (i := 52) (by decide +kernel) rfl⟩
theorem sw_mv_X3_workedOut : sw_mv yX3_workedOut cX3_workedOut 4 (some .int) 0 3 6 TX3 := ⟨sw_kc_3, ⟨sw_wu3 (i := 66) (by decide +kernel) rfl, sw_wu1 (i := 3) (by decide +kernel) rfl, by decide, by decide, by decide +kernel⟩, sw_wu3 (i := 65) (by decide +kernel) rfl, sw_wp (q := (yX3_workedOut, 6)) (i := 16) (by decide +kernel) (by decide +kernel)⟩
theorem sw_mv_X4_add : sw_mv yX4_add cX4_add 5 (some .int) 3 4 14 TX4 := ⟨sw_kc_4, ⟨sw_wu2 (i := 112) (by decide +kernel) rfl, sw_wu1 (i := 2) (by decide +kernel) rfl, by decide, by decide, by decide +kernel⟩, sw_wu2 (i := 110) (by decide +kernel) rfl, sw_wu2 (i := 111) (by decide +kernel) rfl⟩
theorem sw_mv_X4_addFrom : sw_mv yX4_addFrom cX4_addFrom 6 (some .int) 3 4 14 TX4 := ⟨sw_kc_4, ⟨sw_wu2 (i := 131) (by decide +kernel) rfl, sw_wu1 (i := 2) (by decide +kernel) rfl, by decide, by decide, by decide +kernel⟩, sw_wu2 (i := 129) (by decide +kernel) rfl, sw_wu2 (i := 130) (by decide +kernel) rfl⟩
theorem sw_mv_X4_awakeCots : sw_mv yX4_awakeCots cX4_awakeCots 3 (some .int) 0 4 14 TX4 := ⟨sw_kc_4, ⟨sw_wu3 (i := 33) (by decide +kernel) rfl, sw_wu1 (i := 2) (by decide +kernel) rfl, by decide, by decide, by decide +kernel⟩, sw_wu3 (i := 31) (by decide +kernel) rfl, sw_wu3 (i := 32) (by decide +kernel) rfl⟩
theorem sw_mv_X4_awakeSwords : sw_mv yX4_awakeSwords cX4_awakeSwords 3 (some .int) 0 4 14 TX4 := ⟨sw_kc_4, ⟨sw_wu3 (i := 120) (by decide +kernel) rfl, sw_wu1 (i := 2) (by decide +kernel) rfl, by decide, by decide, by decide +kernel⟩, sw_wu3 (i := 118) (by decide +kernel) rfl, sw_wu3 (i := 119) (by decide +kernel) rfl⟩
theorem sw_mv_X4_become : sw_mv yX4_become cX4_become 2 none 1 4 14 TX4 := ⟨sw_kc_4, ⟨sw_wu3 (i := 91) (by decide +kernel) rfl, sw_wu1 (i := 2) (by decide +kernel) rfl, by decide, by decide, by decide +kernel⟩, sw_wu3 (i := 89) (by decide +kernel) rfl, sw_wu3 (i := 90) (by decide +kernel) rfl⟩
theorem sw_mv_X4_becomeInMind : sw_mv yX4_becomeInMind cX4_becomeInMind 2 none 1 4 14 TX4 := ⟨sw_kc_4, ⟨sw_wu3 (i := 96) (by decide +kernel) rfl, sw_wu1 (i := 2) (by decide +kernel) rfl, by decide, by decide, by decide +kernel⟩, sw_wu3 (i := 94) (by decide +kernel) rfl, sw_wu3 (i := 95) (by decide +kernel) rfl⟩
theorem sw_mv_X4_canAllBeTold : sw_mv yX4_canAllBeTold cX4_canAllBeTold 2 (some .boolean) 0 4 14 TX4 := ⟨sw_kc_4, ⟨sw_wu3 (i := 185) (by decide +kernel) rfl, sw_wu1 (i := 2) (by decide +kernel) rfl, by decide, by decide, by decide +kernel⟩, sw_wu3 (i := 183) (by decide +kernel) rfl, sw_wu3 (i := 184) (by decide +kernel) rfl⟩
theorem sw_mv_X4_changeCots : sw_mv yX4_changeCots cX4_changeCots 5 none 2 4 14 TX4 := ⟨sw_kc_4, ⟨sw_wu4 (i := 40) (by decide +kernel) rfl, sw_wu1 (i := 2) (by decide +kernel) rfl, by decide, by decide, by decide +kernel⟩, sw_wu4 (i := 38) (by decide +kernel) rfl, sw_wu4 (i := 39) (by decide +kernel) rfl⟩
theorem sw_mv_X4_foresee : sw_mv yX4_foresee cX4_foresee 4 none 1 4 14 TX4 := ⟨sw_kc_4, ⟨sw_wu3 (i := 173) (by decide +kernel) rfl, sw_wu1 (i := 2) (by decide +kernel) rfl, by decide, by decide, by decide +kernel⟩, sw_wu3 (i := 171) (by decide +kernel) rfl, sw_wu3 (i := 172) (by decide +kernel) rfl⟩
theorem sw_mv_X4_get : sw_mv yX4_get cX4_get 3 (some .int) 2 4 14 TX4 := ⟨sw_kc_4, ⟨sw_wu2 (i := 164) (by decide +kernel) rfl, sw_wu1 (i := 2) (by decide +kernel) rfl, by decide, by decide, by decide +kernel⟩, sw_wu2 (i := 162) (by decide +kernel) rfl, sw_wu2 (i := 163) (by decide +kernel) rfl⟩
theorem sw_mv_X4_grow : sw_mv yX4_grow cX4_grow 3 none 2 4 14 TX4 := ⟨sw_kc_4, ⟨sw_wu3 (i := 111) (by decide +kernel) rfl, sw_wu1 (i := 2) (by decide +kernel) rfl, by decide, by decide, by decide +kernel⟩, sw_wu3 (i := 110) (by decide +kernel) rfl, sw_wp (q := (yX4_grow, 14)) (i := 17) (by decide +kernel) (by decide +kernel)⟩
theorem sw_mv_X4_growth : sw_mv yX4_growth cX4_growth 6 (some .int) 4 4 14 TX4 := ⟨sw_kc_4, ⟨sw_wu3 (i := 41) (by decide +kernel) rfl, sw_wu1 (i := 2) (by decide +kernel) rfl, by decide, by decide, by decide +kernel⟩, sw_wu3 (i := 40) (by decide +kernel) rfl, sw_wp (q := (yX4_growth, 14)) (i := 15) (by decide +kernel) (by decide +kernel)⟩
theorem sw_mv_X4_growthNow : sw_mv yX4_growthNow cX4_growthNow 3 (some .int) 2 4 14 TX4 := ⟨sw_kc_4, ⟨sw_wu3 (i := 29) (by decide +kernel) rfl, sw_wu1 (i := 2) (by decide +kernel) rfl, by decide, by decide, by decide +kernel⟩, sw_wu3 (i := 27) (by decide +kernel) rfl, sw_wu3 (i := 28) (by decide +kernel) rfl⟩
theorem sw_mv_X4_howManyAwake : sw_mv yX4_howManyAwake cX4_howManyAwake 1 (some .int) 0 4 14 TX4 := ⟨sw_kc_4, ⟨sw_wu3 (i := 166) (by decide +kernel) rfl, sw_wu1 (i := 2) (by decide +kernel) rfl, by decide, by decide, by decide +kernel⟩, sw_wu3 (i := 164) (by decide +kernel) rfl, sw_wu3 (i := 165) (by decide +kernel) rfl⟩
theorem sw_mv_X4_isAwake : sw_mv yX4_isAwake cX4_isAwake 2 (some .boolean) 1 4 14 TX4 := ⟨sw_kc_4, ⟨sw_wu3 (i := 37) (by decide +kernel) rfl, sw_wu1 (i := 2) (by decide +kernel) rfl, by decide, by decide, by decide +kernel⟩, sw_wu3 (i := 35) (by decide +kernel) rfl, sw_wu3 (i := 36) (by decide +kernel) rfl⟩
theorem sw_mv_X4_isTakenByOther : sw_mv yX4_isTakenByOther cX4_isTakenByOther 3 (some .boolean) 2 4 14 TX4 := ⟨sw_kc_4, ⟨sw_wu2 (i := 160) (by decide +kernel) rfl, sw_wu1 (i := 2) (by decide +kernel) rfl, by decide, by decide, by decide +kernel⟩, sw_wu2 (i := 158) (by decide +kernel) rfl, sw_wu2 (i := 159) (by decide +kernel) rfl⟩
theorem sw_mv_X4_isWokenByTouch : sw_mv yX4_isWokenByTouch cX4_isWokenByTouch 4 (some .boolean) 1 4 14 TX4 := ⟨sw_kc_4, ⟨sw_wu3 (i := 208) (by decide +kernel) rfl, sw_wu1 (i := 2) (by decide +kernel) rfl, by decide, by decide, by decide +kernel⟩, sw_wu3 (i := 207) (by decide +kernel) rfl, sw_wp (q := (yX4_isWokenByTouch, 14)) (i := 22) (by decide +kernel) (by decide +kernel)⟩
theorem sw_mv_X4_mayCome : sw_mv yX4_mayCome cX4_mayCome 4 (some .boolean) 3 4 14 TX4 := ⟨sw_kc_4, ⟨sw_wu2 (i := 101) (by decide +kernel) rfl, sw_wu1 (i := 2) (by decide +kernel) rfl, by decide, by decide, by decide +kernel⟩, sw_wu2 (i := 99) (by decide +kernel) rfl, sw_wu2 (i := 100) (by decide +kernel) rfl⟩
theorem sw_mv_X4_mindOfAll : sw_mv yX4_mindOfAll cX4_mindOfAll 3 (some .int) 0 4 14 TX4 := ⟨sw_kc_4, ⟨sw_wu3 (i := 124) (by decide +kernel) rfl, sw_wu1 (i := 2) (by decide +kernel) rfl, by decide, by decide, by decide +kernel⟩, sw_wu3 (i := 122) (by decide +kernel) rfl, sw_wu3 (i := 123) (by decide +kernel) rfl⟩
theorem sw_mv_X4_mindOfAllTold : sw_mv yX4_mindOfAllTold cX4_mindOfAllTold 3 (some .int) 0 4 14 TX4 := ⟨sw_kc_4, ⟨sw_wu3 (i := 195) (by decide +kernel) rfl, sw_wu1 (i := 2) (by decide +kernel) rfl, by decide, by decide, by decide +kernel⟩, sw_wu3 (i := 193) (by decide +kernel) rfl, sw_wu3 (i := 194) (by decide +kernel) rfl⟩
theorem sw_mv_X4_mindWhenTold : sw_mv yX4_mindWhenTold cX4_mindWhenTold 2 (some .int) 1 4 14 TX4 := ⟨sw_kc_4, ⟨sw_wu3 (i := 189) (by decide +kernel) rfl, sw_wu1 (i := 2) (by decide +kernel) rfl, by decide, by decide, by decide +kernel⟩, sw_wu3 (i := 188) (by decide +kernel) rfl, sw_wp (q := (yX4_mindWhenTold, 14)) (i := 21) (by decide +kernel) (by decide +kernel)⟩
theorem sw_mv_X4_mostApart : sw_mv yX4_mostApart cX4_mostApart 5 (some .int) 0 4 14 TX4 := ⟨sw_kc_4, ⟨sw_wu4 (i := 52) (by decide +kernel) rfl, sw_wu1 (i := 2) (by decide +kernel) rfl, by decide, by decide, by decide +kernel⟩, sw_wu4 (i := 50) (by decide +kernel) rfl, sw_wu4 (i := 51) (by decide +kernel) rfl⟩
theorem sw_mv_X4_move : sw_mv yX4_move cX4_move 3 none 2 4 14 TX4 := ⟨sw_kc_4, ⟨sw_wu2 (i := 172) (by decide +kernel) rfl, sw_wu1 (i := 2) (by decide +kernel) rfl, by decide, by decide, by decide +kernel⟩, sw_wu2 (i := 171) (by decide +kernel) rfl, sw_wp (q := (yX4_move, 14)) (i := 2) (by decide +kernel) (by decide +kernel)⟩
theorem sw_mv_X4_nearestAwakeCot : sw_mv yX4_nearestAwakeCot cX4_nearestAwakeCot 4 (some .int) 0 4 14 TX4 := ⟨sw_kc_4, ⟨sw_wu3 (i := 237) (by decide +kernel) rfl, sw_wu1 (i := 2) (by decide +kernel) rfl, by decide, by decide, by decide +kernel⟩, sw_wu3 (i := 235) (by decide +kernel) rfl, sw_wu3 (i := 236) (by decide +kernel) rfl⟩
theorem sw_mv_X4_pairsOf : sw_mv yX4_pairsOf cX4_pairsOf 6 (some .int) 1 4 14 TX4 := ⟨sw_kc_4, ⟨sw_wu4 (i := 48) (by decide +kernel) rfl, sw_wu1 (i := 2) (by decide +kernel) rfl, by decide, by decide, by decide +kernel⟩, sw_wu4 (i := 46) (by decide +kernel) rfl, sw_wu4 (i := 47) (by decide +kernel) rfl⟩
theorem sw_mv_X4_passHour : sw_mv yX4_passHour cX4_passHour 5 none 2 4 14 TX4 := ⟨sw_kc_4, ⟨sw_wu3 (i := 107) (by decide +kernel) rfl, sw_wu1 (i := 2) (by decide +kernel) rfl, by decide, by decide, by decide +kernel⟩, sw_wu3 (i := 105) (by decide +kernel) rfl, sw_wu3 (i := 106) (by decide +kernel) rfl⟩
theorem sw_mv_X4_passHourBehind : sw_mv yX4_passHourBehind cX4_passHourBehind 4 none 2 4 14 TX4 := ⟨sw_kc_4, ⟨sw_wu3 (i := 177) (by decide +kernel) rfl, sw_wu1 (i := 2) (by decide +kernel) rfl, by decide, by decide, by decide +kernel⟩, sw_wu3 (i := 175) (by decide +kernel) rfl, sw_wu3 (i := 176) (by decide +kernel) rfl⟩
theorem sw_mv_X4_set : sw_mv yX4_set cX4_set 4 none 3 4 14 TX4 := ⟨sw_kc_4, ⟨sw_wu2 (i := 168) (by decide +kernel) rfl, sw_wu1 (i := 2) (by decide +kernel) rfl, by decide, by decide, by decide +kernel⟩, sw_wu2 (i := 166) (by decide +kernel) rfl, sw_wu2 (i := 167) (by decide +kernel) rfl⟩
theorem sw_mv_X4_tellAt : sw_mv yX4_tellAt cX4_tellAt 5 none 2 4 14 TX4 := ⟨sw_kc_4, ⟨sw_wu4 (i := 77) (by decide +kernel) rfl, sw_wu1 (i := 2) (by decide +kernel) rfl, by decide, by decide, by decide +kernel⟩, sw_wu4 (i := 75) (by decide +kernel) rfl, sw_wu4 (i := 76) (by decide +kernel) rfl⟩
theorem sw_mv_X4_touchFrom : sw_mv yX4_touchFrom cX4_touchFrom 8 (some .int) 1 4 14 TX4 := ⟨sw_kc_4, ⟨sw_wu3 (i := 204) (by decide +kernel) rfl, sw_wu1 (i := 2) (by decide +kernel) rfl, by decide, by decide, by decide +kernel⟩, sw_wu3 (i := 202) (by decide +kernel) rfl, sw_wu3 (i := 203) (by decide +kernel) rfl⟩
theorem sw_mv_X5_byteAt : sw_mv yX5_byteAt cX5_byteAt 2 (some .int) 1 5 5 TX5 := ⟨sw_kc_5, ⟨sw_wu2 (i := 139) (by decide +kernel) rfl, sw_wu1 (i := 9) (by decide +kernel) rfl, by decide, by decide, by decide +kernel⟩, sw_wu2 (i := 137) (by decide +kernel) rfl, sw_wu2 (i := 138) (by decide +kernel) rfl⟩
theorem sw_mv_X5_clear : sw_mv yX5_clear cX5_clear 1 none 0 5 5 TX5 := ⟨sw_kc_5, ⟨sw_wu4 (i := 201) (by decide +kernel) rfl, sw_wu1 (i := 9) (by decide +kernel) rfl, by decide, by decide, by decide +kernel⟩, sw_wu4 (i := 199) (by decide +kernel) rfl, sw_wu4 (i := 200) (by decide +kernel) rfl⟩
theorem sw_mv_X5_hasPlaces : sw_mv yX5_hasPlaces cX5_hasPlaces 3 (some .boolean) 2 5 5 TX5 := ⟨sw_kc_5, ⟨sw_wu2 (i := 135) (by decide +kernel) rfl, sw_wu1 (i := 9) (by decide +kernel) rfl, by decide, by decide, by decide +kernel⟩, sw_wu2 (i := 133) (by decide +kernel) rfl, sw_wu2 (i := 134) (by decide +kernel) rfl⟩
theorem sw_mv_X5_holdBlade : sw_mv yX5_holdBlade cX5_holdBlade 2 none 1 5 5 TX5 := ⟨sw_kc_5, ⟨sw_wu4 (i := 205) (by decide +kernel) rfl, sw_wu1 (i := 9) (by decide +kernel) rfl, by decide, by decide, by decide +kernel⟩, sw_wu4 (i := 203) (by decide +kernel) rfl, sw_wu4 (i := 204) (by decide +kernel) rfl⟩
theorem sw_mv_X5_holdRow : sw_mv yX5_holdRow cX5_holdRow 4 none 2 5 5 TX5 := ⟨sw_kc_5, ⟨sw_wu4 (i := 213) (by decide +kernel) rfl, sw_wu1 (i := 9) (by decide +kernel) rfl, by decide, by decide, by decide +kernel⟩, sw_wu4 (i := 211) (by decide +kernel) rfl, sw_wu4 (i := 212) (by decide +kernel) rfl⟩
theorem sw_mv_X5_holdsBlade : sw_mv yX5_holdsBlade cX5_holdsBlade 1 (some .boolean) 0 5 5 TX5 := ⟨sw_kc_5, ⟨sw_wu5 (i := 8) (by decide +kernel) rfl, sw_wu1 (i := 9) (by decide +kernel) rfl, by decide, by decide, by decide +kernel⟩, sw_wu5 (i := 6) (by decide +kernel) rfl, sw_wu5 (i := 7) (by decide +kernel) rfl⟩
theorem sw_mv_X5_holdsBytes : sw_mv yX5_holdsBytes cX5_holdsBytes 1 (some .boolean) 0 5 5 TX5 := ⟨sw_kc_5, ⟨sw_wu2 (i := 127) (by decide +kernel) rfl, sw_wu1 (i := 9) (by decide +kernel) rfl, by decide, by decide, by decide +kernel⟩, sw_wu2 (i := 125) (by decide +kernel) rfl, sw_wu2 (i := 126) (by decide +kernel) rfl⟩
theorem sw_mv_X5_holdsNothing : sw_mv yX5_holdsNothing cX5_holdsNothing 1 (some .boolean) 0 5 5 TX5 := ⟨sw_kc_5, ⟨sw_wu2 (i := 123) (by decide +kernel) rfl, sw_wu1 (i := 9) (by decide +kernel) rfl, by decide, by decide, by decide +kernel⟩, sw_wu2 (i := 121) (by decide +kernel) rfl, sw_wu2 (i := 122) (by decide +kernel) rfl⟩
theorem sw_mv_X5_holdsRow : sw_mv yX5_holdsRow cX5_holdsRow 1 (some .boolean) 0 5 5 TX5 := ⟨sw_kc_5, ⟨sw_wu4 (i := 225) (by decide +kernel) rfl, sw_wu1 (i := 9) (by decide +kernel) rfl, by decide, by decide, by decide +kernel⟩, sw_wu4 (i := 223) (by decide +kernel) rfl, sw_wu4 (i := 224) (by decide +kernel) rfl⟩
theorem sw_mv_X5_hours : sw_mv yX5_hours cX5_hours 2 (some .int) 0 5 5 TX5 := ⟨sw_kc_5, ⟨sw_wu3 (i := 100) (by decide +kernel) rfl, sw_wu1 (i := 9) (by decide +kernel) rfl, by decide, by decide, by decide +kernel⟩, sw_wu3 (i := 98) (by decide +kernel) rfl, sw_wu3 (i := 99) (by decide +kernel) rfl⟩
theorem sw_mv_X5_store : sw_mv yX5_store cX5_store 4 none 2 5 5 TX5 := ⟨sw_kc_5, ⟨sw_wu4 (i := 230) (by decide +kernel) rfl, sw_wu1 (i := 9) (by decide +kernel) rfl, by decide, by decide, by decide +kernel⟩, sw_wu4 (i := 228) (by decide +kernel) rfl, sw_wu4 (i := 229) (by decide +kernel) rfl⟩
theorem sw_mv_X6_add : sw_mv yX6_add cX6_add 2 (some .boolean) 1 6 5 TX6 := ⟨sw_kc_6, ⟨sw_wu2 (i := 196) (by decide +kernel) rfl, sw_wu1 (i := 4) (by decide +kernel) rfl, by decide, by decide, by decide +kernel⟩, sw_wu2 (i := 194) (by decide +kernel) rfl, sw_wu2 (i := 195) (by decide +kernel) rfl⟩
theorem sw_mv_X6_next : sw_mv yX6_next cX6_next 1 (some .int) 0 6 5 TX6 := ⟨sw_kc_6, ⟨sw_wu2 (i := 236) (by decide +kernel) rfl, sw_wu1 (i := 4) (by decide +kernel) rfl, by decide, by decide, by decide +kernel⟩, sw_wu2 (i := 235) (by decide +kernel) rfl, sw_wp (q := (yX6_next, 5)) (i := 11) (by decide +kernel) (by decide +kernel)⟩
theorem sw_mv_X6_noteFault : sw_mv yX6_noteFault cX6_noteFault 1 none 0 6 5 TX6 := ⟨sw_kc_6, ⟨sw_wu3 (i := 16) (by decide +kernel) rfl, sw_wu1 (i := 4) (by decide +kernel) rfl, by decide, by decide, by decide +kernel⟩, sw_wu3 (i := 15) (by decide +kernel) rfl, sw_wp (q := (yX6_noteFault, 5)) (i := 14) (by decide +kernel) (by decide +kernel)⟩
theorem sw_mv_X6_read : sw_mv yX6_read cX6_read 2 (some .int) 0 6 5 TX6 := ⟨sw_kc_6, ⟨sw_wu2 (i := 204) (by decide +kernel) rfl, sw_wu1 (i := 4) (by decide +kernel) rfl, by decide, by decide, by decide +kernel⟩, sw_wu2 (i := 202) (by decide +kernel) rfl, sw_wu2 (i := 203) (by decide +kernel) rfl⟩
theorem sw_mv_X6_readAnd : sw_mv yX6_readAnd cX6_readAnd 3 none 1 6 5 TX6 := ⟨sw_kc_6, ⟨sw_wu2 (i := 216) (by decide +kernel) rfl, sw_wu1 (i := 4) (by decide +kernel) rfl, by decide, by decide, by decide +kernel⟩, sw_wu2 (i := 215) (by decide +kernel) rfl, sw_wp (q := (yX6_readAnd, 5)) (i := 6) (by decide +kernel) (by decide +kernel)⟩
theorem sw_mv_X6_readComparison : sw_mv yX6_readComparison cX6_readComparison 3 none 1 6 5 TX6 := ⟨sw_kc_6, ⟨sw_wu2 (i := 220) (by decide +kernel) rfl, sw_wu1 (i := 4) (by decide +kernel) rfl, by decide, by decide, by decide +kernel⟩, sw_wu2 (i := 219) (by decide +kernel) rfl, sw_wp (q := (yX6_readComparison, 5)) (i := 7) (by decide +kernel) (by decide +kernel)⟩
theorem sw_mv_X6_readLine : sw_mv yX6_readLine cX6_readLine 2 none 0 6 5 TX6 := ⟨sw_kc_6, ⟨sw_wu2 (i := 208) (by decide +kernel) rfl, sw_wu1 (i := 4) (by decide +kernel) rfl, by decide, by decide, by decide +kernel⟩, sw_wu2 (i := 207) (by decide +kernel) rfl, sw_wp (q := (yX6_readLine, 5)) (i := 4) (by decide +kernel) (by decide +kernel)⟩
theorem sw_mv_X6_readNumber : sw_mv yX6_readNumber cX6_readNumber 3 none 0 6 5 TX6 := ⟨sw_kc_6, ⟨sw_wu3 (i := 4) (by decide +kernel) rfl, sw_wu1 (i := 4) (by decide +kernel) rfl, by decide, by decide, by decide +kernel⟩, sw_wu3 (i := 3) (by decide +kernel) rfl, sw_wp (q := (yX6_readNumber, 5)) (i := 12) (by decide +kernel) (by decide +kernel)⟩
theorem sw_mv_X6_readOpened : sw_mv yX6_readOpened cX6_readOpened 3 none 2 6 5 TX6 := ⟨sw_kc_6, ⟨sw_wu3 (i := 12) (by decide +kernel) rfl, sw_wu1 (i := 4) (by decide +kernel) rfl, by decide, by decide, by decide +kernel⟩, sw_wu3 (i := 11) (by decide +kernel) rfl, sw_wp (q := (yX6_readOpened, 5)) (i := 13) (by decide +kernel) (by decide +kernel)⟩
theorem sw_mv_X6_readOperand : sw_mv yX6_readOperand cX6_readOperand 5 none 1 6 5 TX6 := ⟨sw_kc_6, ⟨sw_wu2 (i := 232) (by decide +kernel) rfl, sw_wu1 (i := 4) (by decide +kernel) rfl, by decide, by decide, by decide +kernel⟩, sw_wu2 (i := 231) (by decide +kernel) rfl, sw_wp (q := (yX6_readOperand, 5)) (i := 10) (by decide +kernel) (by decide +kernel)⟩
theorem sw_mv_X6_readOr : sw_mv yX6_readOr cX6_readOr 3 none 1 6 5 TX6 := ⟨sw_kc_6, ⟨sw_wu2 (i := 212) (by decide +kernel) rfl, sw_wu1 (i := 4) (by decide +kernel) rfl, by decide, by decide, by decide +kernel⟩, sw_wu2 (i := 211) (by decide +kernel) rfl, sw_wp (q := (yX6_readOr, 5)) (i := 5) (by decide +kernel) (by decide +kernel)⟩
theorem sw_mv_X6_readProduct : sw_mv yX6_readProduct cX6_readProduct 4 none 1 6 5 TX6 := ⟨sw_kc_6, ⟨sw_wu2 (i := 228) (by decide +kernel) rfl, sw_wu1 (i := 4) (by decide +kernel) rfl, by decide, by decide, by decide +kernel⟩, sw_wu2 (i := 227) (by decide +kernel) rfl, sw_wp (q := (yX6_readProduct, 5)) (i := 9) (by decide +kernel) (by decide +kernel)⟩
theorem sw_mv_X6_readSum : sw_mv yX6_readSum cX6_readSum 4 none 1 6 5 TX6 := ⟨sw_kc_6, ⟨sw_wu2 (i := 224) (by decide +kernel) rfl, sw_wu1 (i := 4) (by decide +kernel) rfl, by decide, by decide, by decide +kernel⟩, sw_wu2 (i := 223) (by decide +kernel) rfl, sw_wp (q := (yX6_readSum, 5)) (i := 8) (by decide +kernel) (by decide +kernel)⟩
theorem sw_mv_X7_behind : sw_mv yX7_behind cX7_behind 6 (some (.object "SwordAttic$Night")) 2 7 13 TX7 := ⟨sw_kc_7, ⟨sw_wu3 (i := 83) (by decide +kernel) rfl, sw_wu1 (i := 5) (by decide +kernel) rfl, by decide, by decide, by decide +kernel⟩, sw_wu3 (i := 81) (by decide +kernel) rfl, sw_wu3 (i := 82) (by decide +kernel) rfl⟩
theorem sw_mv_X7_deal : sw_mv yX7_deal cX7_deal 4 none 0 7 13 TX7 := ⟨sw_kc_7, ⟨sw_wu4 (i := 36) (by decide +kernel) rfl, sw_wu1 (i := 5) (by decide +kernel) rfl, by decide, by decide, by decide +kernel⟩, sw_wu4 (i := 34) (by decide +kernel) rfl, sw_wu4 (i := 35) (by decide +kernel) rfl⟩
theorem sw_mv_X7_drawNights : sw_mv yX7_drawNights cX7_drawNights 11 (some .int) 5 7 13 TX7 := ⟨sw_kc_7, ⟨sw_wu4 (i := 86) (by decide +kernel) rfl, sw_wu1 (i := 5) (by decide +kernel) rfl, by decide, by decide, by decide +kernel⟩, sw_wu4 (i := 84) (by decide +kernel) rfl, sw_wu4 (i := 85) (by decide +kernel) rfl⟩
theorem sw_mv_X7_firstCry : sw_mv yX7_firstCry cX7_firstCry 7 (some .int) 3 7 13 TX7 := ⟨sw_kc_7, ⟨sw_wu3 (i := 132) (by decide +kernel) rfl, sw_wu1 (i := 5) (by decide +kernel) rfl, by decide, by decide, by decide +kernel⟩, sw_wu3 (i := 130) (by decide +kernel) rfl, sw_wu3 (i := 131) (by decide +kernel) rfl⟩
theorem sw_mv_X7_firstSilence : sw_mv yX7_firstSilence cX7_firstSilence 5 (some .int) 1 7 13 TX7 := ⟨sw_kc_7, ⟨sw_wu3 (i := 140) (by decide +kernel) rfl, sw_wu1 (i := 5) (by decide +kernel) rfl, by decide, by decide, by decide +kernel⟩, sw_wu3 (i := 138) (by decide +kernel) rfl, sw_wu3 (i := 139) (by decide +kernel) rfl⟩
theorem sw_mv_X7_firstWrong : sw_mv yX7_firstWrong cX7_firstWrong 7 (some .int) 4 7 13 TX7 := ⟨sw_kc_7, ⟨sw_wu4 (i := 18) (by decide +kernel) rfl, sw_wu1 (i := 5) (by decide +kernel) rfl, by decide, by decide, by decide +kernel⟩, sw_wu4 (i := 17) (by decide +kernel) rfl, sw_wp (q := (yX7_firstWrong, 13)) (i := 26) (by decide +kernel) (by decide +kernel)⟩
theorem sw_mv_X7_fit : sw_mv yX7_fit cX7_fit 7 none 4 7 13 TX7 := ⟨sw_kc_7, ⟨sw_wu4 (i := 26) (by decide +kernel) rfl, sw_wu1 (i := 5) (by decide +kernel) rfl, by decide, by decide, by decide +kernel⟩, sw_wu4 (i := 24) (by decide +kernel) rfl, sw_wu4 (i := 25) (by decide +kernel) rfl⟩
theorem sw_mv_X7_forgetBest : sw_mv yX7_forgetBest cX7_forgetBest 1 none 0 7 13 TX7 := ⟨sw_kc_7, ⟨sw_wu3 (i := 153) (by decide +kernel) rfl, sw_wu1 (i := 5) (by decide +kernel) rfl, by decide, by decide, by decide +kernel⟩, sw_wu3 (i := 152) (by decide +kernel) rfl, sw_wp (q := (yX7_forgetBest, 13)) (i := 18) (by decide +kernel) (by decide +kernel)⟩
theorem sw_mv_X7_fresh : sw_mv yX7_fresh cX7_fresh 1 (some (.object "SwordAttic$Night")) 0 7 13 TX7 := ⟨sw_kc_7, ⟨sw_wu3 (i := 87) (by decide +kernel) rfl, sw_wu1 (i := 5) (by decide +kernel) rfl, by decide, by decide, by decide +kernel⟩, sw_wu3 (i := 85) (by decide +kernel) rfl, sw_wu3 (i := 86) (by decide +kernel) rfl⟩
theorem sw_mv_X7_isBetter : sw_mv yX7_isBetter cX7_isBetter 4 (some .boolean) 1 7 13 TX7 := ⟨sw_kc_7, ⟨sw_wu3 (i := 162) (by decide +kernel) rfl, sw_wu1 (i := 5) (by decide +kernel) rfl, by decide, by decide, by decide +kernel⟩, sw_wu3 (i := 161) (by decide +kernel) rfl, sw_wp (q := (yX7_isBetter, 13)) (i := 20) (by decide +kernel) (by decide +kernel)⟩
theorem sw_mv_X7_judged : sw_mv yX7_judged cX7_judged 4 (some .int) 3 7 13 TX7 := ⟨sw_kc_7, ⟨sw_wu4 (i := 14) (by decide +kernel) rfl, sw_wu1 (i := 5) (by decide +kernel) rfl, by decide, by decide, by decide +kernel⟩, sw_wu4 (i := 12) (by decide +kernel) rfl, sw_wu4 (i := 13) (by decide +kernel) rfl⟩
theorem sw_mv_X7_leastOf : sw_mv yX7_leastOf cX7_leastOf 5 (some .int) 2 7 13 TX7 := ⟨sw_kc_7, ⟨sw_wu3 (i := 233) (by decide +kernel) rfl, sw_wu1 (i := 5) (by decide +kernel) rfl, by decide, by decide, by decide +kernel⟩, sw_wu3 (i := 232) (by decide +kernel) rfl, sw_wp (q := (yX7_leastOf, 13)) (i := 24) (by decide +kernel) (by decide +kernel)⟩
theorem sw_mv_X7_leastSteps : sw_mv yX7_leastSteps cX7_leastSteps 7 (some .int) 3 7 13 TX7 := ⟨sw_kc_7, ⟨sw_wu3 (i := 223) (by decide +kernel) rfl, sw_wu1 (i := 5) (by decide +kernel) rfl, by decide, by decide, by decide +kernel⟩, sw_wu3 (i := 222) (by decide +kernel) rfl, sw_wp (q := (yX7_leastSteps, 13)) (i := 23) (by decide +kernel) (by decide +kernel)⟩
theorem sw_mv_X7_outcome : sw_mv yX7_outcome cX7_outcome 10 (some .int) 2 7 13 TX7 := ⟨sw_kc_7, ⟨sw_wu4 (i := 68) (by decide +kernel) rfl, sw_wu1 (i := 5) (by decide +kernel) rfl, by decide, by decide, by decide +kernel⟩, sw_wu4 (i := 67) (by decide +kernel) rfl, sw_wp (q := (yX7_outcome, 13)) (i := 27) (by decide +kernel) (by decide +kernel)⟩
theorem sw_mv_X7_outcomeOf : sw_mv yX7_outcomeOf cX7_outcomeOf 5 (some .int) 3 7 13 TX7 := ⟨sw_kc_7, ⟨sw_wu4 (i := 73) (by decide +kernel) rfl, sw_wu1 (i := 5) (by decide +kernel) rfl, by decide, by decide, by decide +kernel⟩, sw_wu4 (i := 72) (by decide +kernel) rfl, sw_wp (q := (yX7_outcomeOf, 13)) (i := 28) (by decide +kernel) (by decide +kernel)⟩
theorem sw_mv_X7_plan : sw_mv yX7_plan cX7_plan 6 none 2 7 13 TX7 := ⟨sw_kc_7, ⟨sw_wu3 (i := 158) (by decide +kernel) rfl, sw_wu1 (i := 5) (by decide +kernel) rfl, by decide, by decide, by decide +kernel⟩, sw_wu3 (i := 157) (by decide +kernel) rfl, sw_wp (q := (yX7_plan, 13)) (i := 19) (by decide +kernel) (by decide +kernel)⟩
theorem sw_mv_X7_planRound : sw_mv yX7_planRound cX7_planRound 3 none 1 7 13 TX7 := ⟨sw_kc_7, ⟨sw_wu3 (i := 149) (by decide +kernel) rfl, sw_wu1 (i := 5) (by decide +kernel) rfl, by decide, by decide, by decide +kernel⟩, sw_wu3 (i := 147) (by decide +kernel) rfl, sw_wu3 (i := 148) (by decide +kernel) rfl⟩
theorem sw_mv_X7_playTurns : sw_mv yX7_playTurns cX7_playTurns 3 (some .int) 1 7 13 TX7 := ⟨sw_kc_7, ⟨sw_wu4 (i := 64) (by decide +kernel) rfl, sw_wu1 (i := 5) (by decide +kernel) rfl, by decide, by decide, by decide +kernel⟩, sw_wu4 (i := 62) (by decide +kernel) rfl, sw_wu4 (i := 63) (by decide +kernel) rfl⟩
theorem sw_mv_X7_stepsByAll : sw_mv yX7_stepsByAll cX7_stepsByAll 6 (some .int) 0 7 13 TX7 := ⟨sw_kc_7, ⟨sw_wu3 (i := 217) (by decide +kernel) rfl, sw_wu1 (i := 5) (by decide +kernel) rfl, by decide, by decide, by decide +kernel⟩, sw_wu3 (i := 215) (by decide +kernel) rfl, sw_wu3 (i := 216) (by decide +kernel) rfl⟩
theorem sw_mv_X8_isMendable : sw_mv yX8_isMendable cX8_isMendable 3 (some .boolean) 2 8 8 TX8 := ⟨sw_kc_8, ⟨sw_wu2 (i := 150) (by decide +kernel) rfl, sw_wu1 (i := 1) (by decide +kernel) rfl, by decide, by decide, by decide +kernel⟩, sw_wu2 (i := 149) (by decide +kernel) rfl, sw_wp (q := (yX8_isMendable, 8)) (i := 0) (by decide +kernel) (by decide +kernel)⟩
theorem sw_mv_X8_isSword : sw_mv yX8_isSword cX8_isSword 2 (some .boolean) 1 8 8 TX8 := ⟨sw_kc_8, ⟨sw_wu2 (i := 154) (by decide +kernel) rfl, sw_wu1 (i := 1) (by decide +kernel) rfl, by decide, by decide, by decide +kernel⟩, sw_wu2 (i := 153) (by decide +kernel) rfl, sw_wp (q := (yX8_isSword, 8)) (i := 1) (by decide +kernel) (by decide +kernel)⟩
theorem sw_mv_X8_refusalOfBoth : sw_mv yX8_refusalOfBoth cX8_refusalOfBoth 3 (some .int) 1 8 8 TX8 := ⟨sw_kc_8, ⟨sw_wu4 (i := 10) (by decide +kernel) rfl, sw_wu1 (i := 1) (by decide +kernel) rfl, by decide, by decide, by decide +kernel⟩, sw_wu4 (i := 9) (by decide +kernel) rfl, sw_wp (q := (yX8_refusalOfBoth, 8)) (i := 25) (by decide +kernel) (by decide +kernel)⟩
theorem sw_mv_X8_refusalOfElement : sw_mv yX8_refusalOfElement cX8_refusalOfElement 4 (some .int) 2 8 8 TX8 := ⟨sw_kc_8, ⟨sw_wu4 (i := 221) (by decide +kernel) rfl, sw_wu1 (i := 1) (by decide +kernel) rfl, by decide, by decide, by decide +kernel⟩, sw_wu4 (i := 220) (by decide +kernel) rfl, sw_wp (q := (yX8_refusalOfElement, 8)) (i := 34) (by decide +kernel) (by decide +kernel)⟩
theorem sw_mv_X9_adds : sw_mv yX9_adds cX9_adds 4 none 3 9 42 TX9 := ⟨sw_kc_9, ⟨sw_wu5 (i := 185) (by decide +kernel) rfl, sw_wu1 (i := 10) (by decide +kernel) rfl, by decide, by decide, by decide +kernel⟩, sw_wu5 (i := 184) (by decide +kernel) rfl, sw_wp (q := (yX9_adds, 42)) (i := 38) (by decide +kernel) (by decide +kernel)⟩
theorem sw_mv_X9_awakeBeside : sw_mv yX9_awakeBeside cX9_awakeBeside 4 (some .int) 1 9 42 TX9 := ⟨sw_kc_9, ⟨sw_wu6 (i := 50) (by decide +kernel) rfl, sw_wu1 (i := 10) (by decide +kernel) rfl, by decide, by decide, by decide +kernel⟩, sw_wu6 (i := 49) (by decide +kernel) rfl, sw_wp (q := (yX9_awakeBeside, 42)) (i := 55) (by decide +kernel) (by decide +kernel)⟩
theorem sw_mv_X9_awakeMany : sw_mv yX9_awakeMany cX9_awakeMany 1 (some .int) 0 9 42 TX9 := ⟨sw_kc_9, ⟨sw_wu6 (i := 123) (by decide +kernel) rfl, sw_wu1 (i := 10) (by decide +kernel) rfl, by decide, by decide, by decide +kernel⟩, sw_wu6 (i := 122) (by decide +kernel) rfl, sw_wp (q := (yX9_awakeMany, 42)) (i := 65) (by decide +kernel) (by decide +kernel)⟩
theorem sw_mv_X9_awakeSet : sw_mv yX9_awakeSet cX9_awakeSet 3 (some .int) 0 9 42 TX9 := ⟨sw_kc_9, ⟨sw_wu6 (i := 96) (by decide +kernel) rfl, sw_wu1 (i := 10) (by decide +kernel) rfl, by decide, by decide, by decide +kernel⟩, sw_wu6 (i := 95) (by decide +kernel) rfl, sw_wp (q := (yX9_awakeSet, 42)) (i := 62) (by decide +kernel) (by decide +kernel)⟩
theorem sw_mv_X9_becomes : sw_mv yX9_becomes cX9_becomes 5 (some .int) 2 9 42 TX9 := ⟨sw_kc_9, ⟨sw_wu5 (i := 217) (by decide +kernel) rfl, sw_wu1 (i := 10) (by decide +kernel) rfl, by decide, by decide, by decide +kernel⟩, sw_wu5 (i := 216) (by decide +kernel) rfl, sw_wp (q := (yX9_becomes, 42)) (i := 42) (by decide +kernel) (by decide +kernel)⟩
theorem sw_mv_X9_begins : sw_mv yX9_begins cX9_begins 2 none 0 9 42 TX9 := ⟨sw_kc_9, ⟨sw_wu6 (i := 42) (by decide +kernel) rfl, sw_wu1 (i := 10) (by decide +kernel) rfl, by decide, by decide, by decide +kernel⟩, sw_wu6 (i := 41) (by decide +kernel) rfl, sw_wp (q := (yX9_begins, 42)) (i := 53) (by decide +kernel) (by decide +kernel)⟩
theorem sw_mv_X9_both : sw_mv yX9_both cX9_both 3 (some .int) 0 9 42 TX9 := ⟨sw_kc_9, ⟨sw_wu6 (i := 2) (by decide +kernel) rfl, sw_wu1 (i := 10) (by decide +kernel) rfl, by decide, by decide, by decide +kernel⟩, sw_wu6 (i := 1) (by decide +kernel) rfl, sw_wp (q := (yX9_both, 42)) (i := 45) (by decide +kernel) (by decide +kernel)⟩
theorem sw_mv_X9_byteAt : sw_mv yX9_byteAt cX9_byteAt 1 (some .int) 0 9 42 TX9 := ⟨sw_kc_9, ⟨sw_wu6 (i := 22) (by decide +kernel) rfl, sw_wu1 (i := 10) (by decide +kernel) rfl, by decide, by decide, by decide +kernel⟩, sw_wu6 (i := 21) (by decide +kernel) rfl, sw_wp (q := (yX9_byteAt, 42)) (i := 50) (by decide +kernel) (by decide +kernel)⟩
theorem sw_mv_X9_bytesIs : sw_mv yX9_bytesIs cX9_bytesIs 2 (some .int) 1 9 42 TX9 := ⟨sw_kc_9, ⟨sw_wu6 (i := 68) (by decide +kernel) rfl, sw_wu1 (i := 10) (by decide +kernel) rfl, by decide, by decide, by decide +kernel⟩, sw_wu6 (i := 67) (by decide +kernel) rfl, sw_wp (q := (yX9_bytesIs, 42)) (i := 57) (by decide +kernel) (by decide +kernel)⟩
theorem sw_mv_X9_compared : sw_mv yX9_compared cX9_compared 4 (some .int) 0 9 42 TX9 := ⟨sw_kc_9, ⟨sw_wu6 (i := 6) (by decide +kernel) rfl, sw_wu1 (i := 10) (by decide +kernel) rfl, by decide, by decide, by decide +kernel⟩, sw_wu6 (i := 5) (by decide +kernel) rfl, sw_wp (q := (yX9_compared, 42)) (i := 46) (by decide +kernel) (by decide +kernel)⟩
theorem sw_mv_X9_criesAs : sw_mv yX9_criesAs cX9_criesAs 4 (some .int) 2 9 42 TX9 := ⟨sw_kc_9, ⟨sw_wu7 (i := 21) (by decide +kernel) rfl, sw_wu1 (i := 10) (by decide +kernel) rfl, by decide, by decide, by decide +kernel⟩, sw_wu7 (i := 20) (by decide +kernel) rfl, sw_wp (q := (yX9_criesAs, 42)) (i := 78) (by decide +kernel) (by decide +kernel)⟩
theorem sw_mv_X9_either : sw_mv yX9_either cX9_either 3 (some .int) 0 9 42 TX9 := ⟨sw_kc_9, ⟨sw_wu5 (i := 238) (by decide +kernel) rfl, sw_wu1 (i := 10) (by decide +kernel) rfl, by decide, by decide, by decide +kernel⟩, sw_wu5 (i := 237) (by decide +kernel) rfl, sw_wp (q := (yX9_either, 42)) (i := 44) (by decide +kernel) (by decide +kernel)⟩
theorem sw_mv_X9_firstFalse : sw_mv yX9_firstFalse cX9_firstFalse 5 (some .int) 2 9 42 TX9 := ⟨sw_kc_9, ⟨sw_wu6 (i := 173) (by decide +kernel) rfl, sw_wu1 (i := 10) (by decide +kernel) rfl, by decide, by decide, by decide +kernel⟩, sw_wu6 (i := 172) (by decide +kernel) rfl, sw_wp (q := (yX9_firstFalse, 42)) (i := 71) (by decide +kernel) (by decide +kernel)⟩
theorem sw_mv_X9_goesHour : sw_mv yX9_goesHour cX9_goesHour 2 none 0 9 42 TX9 := ⟨sw_kc_9, ⟨sw_wu6 (i := 85) (by decide +kernel) rfl, sw_wu1 (i := 10) (by decide +kernel) rfl, by decide, by decide, by decide +kernel⟩, sw_wu6 (i := 84) (by decide +kernel) rfl, sw_wp (q := (yX9_goesHour, 42)) (i := 61) (by decide +kernel) (by decide +kernel)⟩
theorem sw_mv_X9_goesNext : sw_mv yX9_goesNext cX9_goesNext 3 none 2 9 42 TX9 := ⟨sw_kc_9, ⟨sw_wu6 (i := 81) (by decide +kernel) rfl, sw_wu1 (i := 10) (by decide +kernel) rfl, by decide, by decide, by decide +kernel⟩, sw_wu6 (i := 80) (by decide +kernel) rfl, sw_wp (q := (yX9_goesNext, 42)) (i := 60) (by decide +kernel) (by decide +kernel)⟩
theorem sw_mv_X9_goesRound : sw_mv yX9_goesRound cX9_goesRound 5 none 2 9 42 TX9 := ⟨sw_kc_9, ⟨sw_wu6 (i := 73) (by decide +kernel) rfl, sw_wu1 (i := 10) (by decide +kernel) rfl, by decide, by decide, by decide +kernel⟩, sw_wu6 (i := 72) (by decide +kernel) rfl, sw_wp (q := (yX9_goesRound, 42)) (i := 58) (by decide +kernel) (by decide +kernel)⟩
theorem sw_mv_X9_growsIn : sw_mv yX9_growsIn cX9_growsIn 6 (some .int) 1 9 42 TX9 := ⟨sw_kc_9, ⟨sw_wu6 (i := 46) (by decide +kernel) rfl, sw_wu1 (i := 10) (by decide +kernel) rfl, by decide, by decide, by decide +kernel⟩, sw_wu6 (i := 45) (by decide +kernel) rfl, sw_wp (q := (yX9_growsIn, 42)) (i := 54) (by decide +kernel) (by decide +kernel)⟩
theorem sw_mv_X9_hourMany : sw_mv yX9_hourMany cX9_hourMany 3 (some .int) 1 9 42 TX9 := ⟨sw_kc_9, ⟨sw_wu6 (i := 77) (by decide +kernel) rfl, sw_wu1 (i := 10) (by decide +kernel) rfl, by decide, by decide, by decide +kernel⟩, sw_wu6 (i := 76) (by decide +kernel) rfl, sw_wp (q := (yX9_hourMany, 42)) (i := 59) (by decide +kernel) (by decide +kernel)⟩
theorem sw_mv_X9_hushesAs : sw_mv yX9_hushesAs cX9_hushesAs 4 (some .int) 2 9 42 TX9 := ⟨sw_kc_9, ⟨sw_wu7 (i := 17) (by decide +kernel) rfl, sw_wu1 (i := 10) (by decide +kernel) rfl, by decide, by decide, by decide +kernel⟩, sw_wu7 (i := 16) (by decide +kernel) rfl, sw_wp (q := (yX9_hushesAs, 42)) (i := 77) (by decide +kernel) (by decide +kernel)⟩
theorem sw_mv_X9_inCot : sw_mv yX9_inCot cX9_inCot 3 (some .int) 1 9 42 TX9 := ⟨sw_kc_9, ⟨sw_wu5 (i := 160) (by decide +kernel) rfl, sw_wu1 (i := 10) (by decide +kernel) rfl, by decide, by decide, by decide +kernel⟩, sw_wu5 (i := 159) (by decide +kernel) rfl, sw_wp (q := (yX9_inCot, 42)) (i := 36) (by decide +kernel) (by decide +kernel)⟩
theorem sw_mv_X9_isAwake : sw_mv yX9_isAwake cX9_isAwake 2 (some .boolean) 1 9 42 TX9 := ⟨sw_kc_9, ⟨sw_wu6 (i := 60) (by decide +kernel) rfl, sw_wu1 (i := 10) (by decide +kernel) rfl, by decide, by decide, by decide +kernel⟩, sw_wu6 (i := 59) (by decide +kernel) rfl, sw_wp (q := (yX9_isAwake, 42)) (i := 56) (by decide +kernel) (by decide +kernel)⟩
theorem sw_mv_X9_isBody : sw_mv yX9_isBody cX9_isBody 2 (some .boolean) 1 9 42 TX9 := ⟨sw_kc_9, ⟨sw_wu7 (i := 5) (by decide +kernel) rfl, sw_wu1 (i := 10) (by decide +kernel) rfl, by decide, by decide, by decide +kernel⟩, sw_wu7 (i := 4) (by decide +kernel) rfl, sw_wp (q := (yX9_isBody, 42)) (i := 74) (by decide +kernel) (by decide +kernel)⟩
theorem sw_mv_X9_isSword : sw_mv yX9_isSword cX9_isSword 3 (some .boolean) 1 9 42 TX9 := ⟨sw_kc_9, ⟨sw_wu5 (i := 207) (by decide +kernel) rfl, sw_wu1 (i := 10) (by decide +kernel) rfl, by decide, by decide, by decide +kernel⟩, sw_wu5 (i := 206) (by decide +kernel) rfl, sw_wp (q := (yX9_isSword, 42)) (i := 40) (by decide +kernel) (by decide +kernel)⟩
theorem sw_mv_X9_isToldAt : sw_mv yX9_isToldAt cX9_isToldAt 4 none 2 9 42 TX9 := ⟨sw_kc_9, ⟨sw_wu6 (i := 134) (by decide +kernel) rfl, sw_wu1 (i := 10) (by decide +kernel) rfl, by decide, by decide, by decide +kernel⟩, sw_wu6 (i := 133) (by decide +kernel) rfl, sw_wp (q := (yX9_isToldAt, 42)) (i := 66) (by decide +kernel) (by decide +kernel)⟩
theorem sw_mv_X9_isTouched : sw_mv yX9_isTouched cX9_isTouched 6 none 1 9 42 TX9 := ⟨sw_kc_9, ⟨sw_wu6 (i := 142) (by decide +kernel) rfl, sw_wu1 (i := 10) (by decide +kernel) rfl, by decide, by decide, by decide +kernel⟩, sw_wu6 (i := 141) (by decide +kernel) rfl, sw_wp (q := (yX9_isTouched, 42)) (i := 67) (by decide +kernel) (by decide +kernel)⟩
theorem sw_mv_X9_keepsMind : sw_mv yX9_keepsMind cX9_keepsMind 2 none 0 9 42 TX9 := ⟨sw_kc_9, ⟨sw_wu6 (i := 209) (by decide +kernel) rfl, sw_wu1 (i := 10) (by decide +kernel) rfl, by decide, by decide, by decide +kernel⟩, sw_wu6 (i := 208) (by decide +kernel) rfl, sw_wp (q := (yX9_keepsMind, 42)) (i := 73) (by decide +kernel) (by decide +kernel)⟩
theorem sw_mv_X9_kindOf : sw_mv yX9_kindOf cX9_kindOf 2 (some .int) 1 9 42 TX9 := ⟨sw_kc_9, ⟨sw_wu7 (i := 65) (by decide +kernel) rfl, sw_wu1 (i := 10) (by decide +kernel) rfl, by decide, by decide, by decide +kernel⟩, sw_wu7 (i := 64) (by decide +kernel) rfl, sw_wp (q := (yX9_kindOf, 42)) (i := 81) (by decide +kernel) (by decide +kernel)⟩
theorem sw_mv_X9_manyAwake : sw_mv yX9_manyAwake cX9_manyAwake 1 (some .int) 0 9 42 TX9 := ⟨sw_kc_9, ⟨sw_wu7 (i := 76) (by decide +kernel) rfl, sw_wu1 (i := 10) (by decide +kernel) rfl, by decide, by decide, by decide +kernel⟩, sw_wu7 (i := 75) (by decide +kernel) rfl, sw_wp (q := (yX9_manyAwake, 42)) (i := 82) (by decide +kernel) (by decide +kernel)⟩
theorem sw_mv_X9_mayBecome : sw_mv yX9_mayBecome cX9_mayBecome 4 (some .boolean) 3 9 42 TX9 := ⟨sw_kc_9, ⟨sw_wu5 (i := 212) (by decide +kernel) rfl, sw_wu1 (i := 10) (by decide +kernel) rfl, by decide, by decide, by decide +kernel⟩, sw_wu5 (i := 211) (by decide +kernel) rfl, sw_wp (q := (yX9_mayBecome, 42)) (i := 41) (by decide +kernel) (by decide +kernel)⟩
theorem sw_mv_X9_mayCome : sw_mv yX9_mayCome cX9_mayCome 7 (some .boolean) 3 9 42 TX9 := ⟨sw_kc_9, ⟨sw_wu5 (i := 172) (by decide +kernel) rfl, sw_wu1 (i := 10) (by decide +kernel) rfl, by decide, by decide, by decide +kernel⟩, sw_wu5 (i := 171) (by decide +kernel) rfl, sw_wp (q := (yX9_mayCome, 42)) (i := 37) (by decide +kernel) (by decide +kernel)⟩
theorem sw_mv_X9_mindAll : sw_mv yX9_mindAll cX9_mindAll 3 (some .int) 0 9 42 TX9 := ⟨sw_kc_9, ⟨sw_wu6 (i := 100) (by decide +kernel) rfl, sw_wu1 (i := 10) (by decide +kernel) rfl, by decide, by decide, by decide +kernel⟩, sw_wu6 (i := 99) (by decide +kernel) rfl, sw_wp (q := (yX9_mindAll, 42)) (i := 63) (by decide +kernel) (by decide +kernel)⟩
theorem sw_mv_X9_one : sw_mv yX9_one cX9_one 5 (some .int) 0 9 42 TX9 := ⟨sw_kc_9, ⟨sw_wu6 (i := 18) (by decide +kernel) rfl, sw_wu1 (i := 10) (by decide +kernel) rfl, by decide, by decide, by decide +kernel⟩, sw_wu6 (i := 17) (by decide +kernel) rfl, sw_wp (q := (yX9_one, 42)) (i := 49) (by decide +kernel) (by decide +kernel)⟩
theorem sw_mv_X9_placeOf : sw_mv yX9_placeOf cX9_placeOf 3 (some .int) 2 9 42 TX9 := ⟨sw_kc_9, ⟨sw_wu5 (i := 202) (by decide +kernel) rfl, sw_wu1 (i := 10) (by decide +kernel) rfl, by decide, by decide, by decide +kernel⟩, sw_wu5 (i := 201) (by decide +kernel) rfl, sw_wp (q := (yX9_placeOf, 42)) (i := 39) (by decide +kernel) (by decide +kernel)⟩
theorem sw_mv_X9_playsFrom : sw_mv yX9_playsFrom cX9_playsFrom 6 (some .int) 2 9 42 TX9 := ⟨sw_kc_9, ⟨sw_wu6 (i := 194) (by decide +kernel) rfl, sw_wu1 (i := 10) (by decide +kernel) rfl, by decide, by decide, by decide +kernel⟩, sw_wu6 (i := 193) (by decide +kernel) rfl, sw_wp (q := (yX9_playsFrom, 42)) (i := 72) (by decide +kernel) (by decide +kernel)⟩
theorem sw_mv_X9_product : sw_mv yX9_product cX9_product 4 (some .int) 0 9 42 TX9 := ⟨sw_kc_9, ⟨sw_wu6 (i := 14) (by decide +kernel) rfl, sw_wu1 (i := 10) (by decide +kernel) rfl, by decide, by decide, by decide +kernel⟩, sw_wu6 (i := 13) (by decide +kernel) rfl, sw_wp (q := (yX9_product, 42)) (i := 48) (by decide +kernel) (by decide +kernel)⟩
theorem sw_mv_X9_refusal : sw_mv yX9_refusal cX9_refusal 3 (some .int) 2 9 42 TX9 := ⟨sw_kc_9, ⟨sw_wu7 (i := 45) (by decide +kernel) rfl, sw_wu1 (i := 10) (by decide +kernel) rfl, by decide, by decide, by decide +kernel⟩, sw_wu7 (i := 44) (by decide +kernel) rfl, sw_wp (q := (yX9_refusal, 42)) (i := 80) (by decide +kernel) (by decide +kernel)⟩
theorem sw_mv_X9_rowsAre : sw_mv yX9_rowsAre cX9_rowsAre 2 (some .int) 1 9 42 TX9 := ⟨sw_kc_9, ⟨sw_wu6 (i := 169) (by decide +kernel) rfl, sw_wu1 (i := 10) (by decide +kernel) rfl, by decide, by decide, by decide +kernel⟩, sw_wu6 (i := 168) (by decide +kernel) rfl, sw_wp (q := (yX9_rowsAre, 42)) (i := 70) (by decide +kernel) (by decide +kernel)⟩
theorem sw_mv_X9_runs : sw_mv yX9_runs cX9_runs 2 none 1 9 42 TX9 := ⟨sw_kc_9, ⟨sw_wu7 (i := 13) (by decide +kernel) rfl, sw_wu1 (i := 10) (by decide +kernel) rfl, by decide, by decide, by decide +kernel⟩, sw_wu7 (i := 12) (by decide +kernel) rfl, sw_wp (q := (yX9_runs, 42)) (i := 76) (by decide +kernel) (by decide +kernel)⟩
theorem sw_mv_X9_stepsBy : sw_mv yX9_stepsBy cX9_stepsBy 6 (some .int) 2 9 42 TX9 := ⟨sw_kc_9, ⟨sw_wu6 (i := 158) (by decide +kernel) rfl, sw_wu1 (i := 10) (by decide +kernel) rfl, by decide, by decide, by decide +kernel⟩, sw_wu6 (i := 157) (by decide +kernel) rfl, sw_wp (q := (yX9_stepsBy, 42)) (i := 69) (by decide +kernel) (by decide +kernel)⟩
theorem sw_mv_X9_sums : sw_mv yX9_sums cX9_sums 4 (some .int) 0 9 42 TX9 := ⟨sw_kc_9, ⟨sw_wu6 (i := 10) (by decide +kernel) rfl, sw_wu1 (i := 10) (by decide +kernel) rfl, by decide, by decide, by decide +kernel⟩, sw_wu6 (i := 9) (by decide +kernel) rfl, sw_wp (q := (yX9_sums, 42)) (i := 47) (by decide +kernel) (by decide +kernel)⟩
theorem sw_mv_X9_takes : sw_mv yX9_takes cX9_takes 2 (some .boolean) 1 9 42 TX9 := ⟨sw_kc_9, ⟨sw_wu6 (i := 30) (by decide +kernel) rfl, sw_wu1 (i := 10) (by decide +kernel) rfl, by decide, by decide, by decide +kernel⟩, sw_wu6 (i := 29) (by decide +kernel) rfl, sw_wp (q := (yX9_takes, 42)) (i := 52) (by decide +kernel) (by decide +kernel)⟩
theorem sw_mv_X9_tellsAs : sw_mv yX9_tellsAs cX9_tellsAs 4 (some .int) 2 9 42 TX9 := ⟨sw_kc_9, ⟨sw_wu7 (i := 25) (by decide +kernel) rfl, sw_wu1 (i := 10) (by decide +kernel) rfl, by decide, by decide, by decide +kernel⟩, sw_wu7 (i := 24) (by decide +kernel) rfl, sw_wp (q := (yX9_tellsAs, 42)) (i := 79) (by decide +kernel) (by decide +kernel)⟩
theorem sw_mv_X9_touchedMany : sw_mv yX9_touchedMany cX9_touchedMany 3 (some .int) 0 9 42 TX9 := ⟨sw_kc_9, ⟨sw_wu6 (i := 146) (by decide +kernel) rfl, sw_wu1 (i := 10) (by decide +kernel) rfl, by decide, by decide, by decide +kernel⟩, sw_wu6 (i := 145) (by decide +kernel) rfl, sw_wp (q := (yX9_touchedMany, 42)) (i := 68) (by decide +kernel) (by decide +kernel)⟩
theorem sw_mv_X9_triesRound : sw_mv yX9_triesRound cX9_triesRound 4 none 2 9 42 TX9 := ⟨sw_kc_9, ⟨sw_wu6 (i := 119) (by decide +kernel) rfl, sw_wu1 (i := 10) (by decide +kernel) rfl, by decide, by decide, by decide +kernel⟩, sw_wu6 (i := 118) (by decide +kernel) rfl, sw_wp (q := (yX9_triesRound, 42)) (i := 64) (by decide +kernel) (by decide +kernel)⟩
theorem sw_mv_X9_turns : sw_mv yX9_turns cX9_turns 3 none 2 9 42 TX9 := ⟨sw_kc_9, ⟨sw_wu5 (i := 156) (by decide +kernel) rfl, sw_wu1 (i := 10) (by decide +kernel) rfl, by decide, by decide, by decide +kernel⟩, sw_wu5 (i := 155) (by decide +kernel) rfl, sw_wp (q := (yX9_turns, 42)) (i := 35) (by decide +kernel) (by decide +kernel)⟩
theorem sw_mv_X9_wakesAs : sw_mv yX9_wakesAs cX9_wakesAs 3 (some .int) 2 9 42 TX9 := ⟨sw_kc_9, ⟨sw_wu7 (i := 9) (by decide +kernel) rfl, sw_wu1 (i := 10) (by decide +kernel) rfl, by decide, by decide, by decide +kernel⟩, sw_wu7 (i := 8) (by decide +kernel) rfl, sw_wp (q := (yX9_wakesAs, 42)) (i := 75) (by decide +kernel) (by decide +kernel)⟩
theorem sw_mv_X9_workOut : sw_mv yX9_workOut cX9_workOut 8 (some .int) 2 9 42 TX9 := ⟨sw_kc_9, ⟨sw_wu5 (i := 234) (by decide +kernel) rfl, sw_wu1 (i := 10) (by decide +kernel) rfl, by decide, by decide, by decide +kernel⟩, sw_wu5 (i := 233) (by decide +kernel) rfl, sw_wp (q := (yX9_workOut, 42)) (i := 43) (by decide +kernel) (by decide +kernel)⟩
theorem sw_mv_X9_wrong : sw_mv yX9_wrong cX9_wrong 1 (some .int) 0 9 42 TX9 := ⟨sw_kc_9, ⟨sw_wu6 (i := 26) (by decide +kernel) rfl, sw_wu1 (i := 10) (by decide +kernel) rfl, by decide, by decide, by decide +kernel⟩, sw_wu6 (i := 25) (by decide +kernel) rfl, sw_wp (q := (yX9_wrong, 42)) (i := 51) (by decide +kernel) (by decide +kernel)⟩
theorem sw_ms_J6_bitCount_0f7a4 : sw_ms yJ6_bitCount_0f7a4 cJ6_bitCount_0f7a4 1 (some .int) 1 := ⟨⟨sw_wu3 (i := 46) (by decide +kernel) rfl, sw_wu1 (i := 12) (by decide +kernel) rfl, by decide, by decide, by decide +kernel⟩, sw_wu3 (i := 45) (by decide +kernel) rfl⟩
theorem sw_ms_X0_isUnder : sw_ms yX0_isUnder cX0_isUnder 4 (some .boolean) 2 := ⟨⟨sw_wu5 (i := 11) (by decide +kernel) rfl, sw_wu1 (i := 8) (by decide +kernel) rfl, by decide, by decide, by decide +kernel⟩, sw_wu5 (i := 10) (by decide +kernel) rfl⟩
theorem sw_ms_X3_joined : sw_ms yX3_joined cX3_joined 3 (some .int) 3 := ⟨⟨sw_wu3 (i := 71) (by decide +kernel) rfl, sw_wu1 (i := 3) (by decide +kernel) rfl, by decide, by decide, by decide +kernel⟩, sw_wu3 (i := 70) (by decide +kernel) rfl⟩
theorem sw_ms_X4_areApart : sw_ms yX4_areApart cX4_areApart 2 (some .boolean) 1 := ⟨⟨sw_wu4 (i := 55) (by decide +kernel) rfl, sw_wu1 (i := 2) (by decide +kernel) rfl, by decide, by decide, by decide +kernel⟩, sw_wu4 (i := 54) (by decide +kernel) rfl⟩
theorem sw_ms_X6_nameOf : sw_ms yX6_nameOf cX6_nameOf 1 (some .int) 1 := ⟨⟨sw_wu3 (i := 0) (by decide +kernel) rfl, sw_wu1 (i := 4) (by decide +kernel) rfl, by decide, by decide, by decide +kernel⟩, sw_wu2 (i := 239) (by decide +kernel) rfl⟩
theorem sw_ms_X8_areShelves : sw_ms yX8_areShelves cX8_areShelves 1 (some .boolean) 1 := ⟨⟨sw_wu4 (i := 6) (by decide +kernel) rfl, sw_wu1 (i := 1) (by decide +kernel) rfl, by decide, by decide, by decide +kernel⟩, sw_wu4 (i := 5) (by decide +kernel) rfl⟩
theorem sw_ms_X8_heldWithin : sw_ms yX8_heldWithin cX8_heldWithin 3 (some .int) 3 := ⟨⟨sw_wu3 (i := 56) (by decide +kernel) rfl, sw_wu1 (i := 1) (by decide +kernel) rfl, by decide, by decide, by decide +kernel⟩, sw_wu3 (i := 55) (by decide +kernel) rfl⟩
theorem sw_ms_X8_isCot : sw_ms yX8_isCot cX8_isCot 1 (some .boolean) 1 := ⟨⟨sw_wu2 (i := 104) (by decide +kernel) rfl, sw_wu1 (i := 1) (by decide +kernel) rfl, by decide, by decide, by decide +kernel⟩, sw_wu2 (i := 103) (by decide +kernel) rfl⟩
theorem sw_ms_X8_isShelf : sw_ms yX8_isShelf cX8_isShelf 1 (some .boolean) 1 := ⟨⟨sw_wu2 (i := 119) (by decide +kernel) rfl, sw_wu1 (i := 1) (by decide +kernel) rfl, by decide, by decide, by decide +kernel⟩, sw_wu2 (i := 118) (by decide +kernel) rfl⟩
theorem sw_ms_X8_refusalOfBytes : sw_ms yX8_refusalOfBytes cX8_refusalOfBytes 1 (some .int) 1 := ⟨⟨sw_wu3 (i := 79) (by decide +kernel) rfl, sw_wu1 (i := 1) (by decide +kernel) rfl, by decide, by decide, by decide +kernel⟩, sw_wu3 (i := 78) (by decide +kernel) rfl⟩
theorem sw_ms_X8_steps : sw_ms yX8_steps cX8_steps 2 (some .int) 2 := ⟨⟨sw_wu3 (i := 226) (by decide +kernel) rfl, sw_wu1 (i := 1) (by decide +kernel) rfl, by decide, by decide, by decide +kernel⟩, sw_wu3 (i := 225) (by decide +kernel) rfl⟩
theorem sw_ms_X8_within : sw_ms yX8_within cX8_within 3 (some .boolean) 3 := ⟨⟨sw_wu2 (i := 107) (by decide +kernel) rfl, sw_wu1 (i := 1) (by decide +kernel) rfl, by decide, by decide, by decide +kernel⟩, sw_wu2 (i := 106) (by decide +kernel) rfl⟩
theorem sw_ms_X9_above : sw_ms yX9_above cX9_above 1 (some .int) 1 := ⟨⟨sw_wu7 (i := 68) (by decide +kernel) rfl, sw_wu1 (i := 10) (by decide +kernel) rfl, by decide, by decide, by decide +kernel⟩, sw_wu7 (i := 67) (by decide +kernel) rfl⟩
theorem sw_ms_X9_areBeside : sw_ms yX9_areBeside cX9_areBeside 2 (some .boolean) 2 := ⟨⟨sw_wu6 (i := 53) (by decide +kernel) rfl, sw_wu1 (i := 10) (by decide +kernel) rfl, by decide, by decide, by decide +kernel⟩, sw_wu6 (i := 52) (by decide +kernel) rfl⟩
theorem sw_ms_X9_asSort : sw_ms yX9_asSort cX9_asSort 3 (some .long) 2 := ⟨⟨sw_wu7 (i := 48) (by decide +kernel) rfl, sw_wu1 (i := 10) (by decide +kernel) rfl, by decide, by decide, by decide +kernel⟩, sw_wu7 (i := 47) (by decide +kernel) rfl⟩
theorem sw_ms_X9_bitsOf : sw_ms yX9_bitsOf cX9_bitsOf 3 (some .int) 1 := ⟨⟨sw_wu6 (i := 126) (by decide +kernel) rfl, sw_wu1 (i := 10) (by decide +kernel) rfl, by decide, by decide, by decide +kernel⟩, sw_wu6 (i := 125) (by decide +kernel) rfl⟩
theorem sw_ms_X9_heldMind : sw_ms yX9_heldMind cX9_heldMind 1 (some .int) 1 := ⟨⟨sw_wu6 (i := 88) (by decide +kernel) rfl, sw_wu1 (i := 10) (by decide +kernel) rfl, by decide, by decide, by decide +kernel⟩, sw_wu6 (i := 87) (by decide +kernel) rfl⟩
theorem sw_ms_X9_isCot : sw_ms yX9_isCot cX9_isCot 2 (some .boolean) 1 := ⟨⟨sw_wu5 (i := 175) (by decide +kernel) rfl, sw_wu1 (i := 10) (by decide +kernel) rfl, by decide, by decide, by decide +kernel⟩, sw_wu5 (i := 174) (by decide +kernel) rfl⟩
theorem sw_ms_X9_isIn : sw_ms yX9_isIn cX9_isIn 2 (some .boolean) 2 := ⟨⟨sw_wu6 (i := 161) (by decide +kernel) rfl, sw_wu1 (i := 10) (by decide +kernel) rfl, by decide, by decide, by decide +kernel⟩, sw_wu6 (i := 160) (by decide +kernel) rfl⟩
theorem sw_ms_X9_isShelf : sw_ms yX9_isShelf cX9_isShelf 1 (some .boolean) 1 := ⟨⟨sw_wu5 (i := 192) (by decide +kernel) rfl, sw_wu1 (i := 10) (by decide +kernel) rfl, by decide, by decide, by decide +kernel⟩, sw_wu5 (i := 191) (by decide +kernel) rfl⟩
theorem sw_ms_X9_nameOf : sw_ms yX9_nameOf cX9_nameOf 1 (some .int) 1 := ⟨⟨sw_wu6 (i := 33) (by decide +kernel) rfl, sw_wu1 (i := 10) (by decide +kernel) rfl, by decide, by decide, by decide +kernel⟩, sw_wu6 (i := 32) (by decide +kernel) rfl⟩
theorem sw_ms_X9_sizeOf : sw_ms yX9_sizeOf cX9_sizeOf 1 (some .int) 1 := ⟨⟨sw_wu6 (i := 56) (by decide +kernel) rfl, sw_wu1 (i := 10) (by decide +kernel) rfl, by decide, by decide, by decide +kernel⟩, sw_wu6 (i := 55) (by decide +kernel) rfl⟩
theorem sw_ms_X9_stepsTo : sw_ms yX9_stepsTo cX9_stepsTo 2 (some .int) 2 := ⟨⟨sw_wu6 (i := 154) (by decide +kernel) rfl, sw_wu1 (i := 10) (by decide +kernel) rfl, by decide, by decide, by decide +kernel⟩, sw_wu6 (i := 153) (by decide +kernel) rfl⟩
theorem sw_ms_X9_within : sw_ms yX9_within cX9_within 6 (some .boolean) 3 := ⟨⟨sw_wu5 (i := 179) (by decide +kernel) rfl, sw_wu1 (i := 10) (by decide +kernel) rfl, by decide, by decide, by decide +kernel⟩, sw_wu5 (i := 178) (by decide +kernel) rfl⟩
