/-! the words of the law's calls -/
theorem sw_ic_8 : Int32.ofInt (8) = (8 : Int32) := by decide
theorem sw_ic_9 : Int32.ofInt (9) = (9 : Int32) := by decide
theorem sw_ic_12 : Int32.ofInt (12) = (12 : Int32) := by decide
theorem sw_ic_13 : Int32.ofInt (13) = (13 : Int32) := by decide
theorem sw_ic_14 : Int32.ofInt (14) = (14 : Int32) := by decide
theorem sw_ic_15 : Int32.ofInt (15) = (15 : Int32) := by decide
theorem sw_ic_16 : Int32.ofInt (16) = (16 : Int32) := by decide
theorem sw_ic_17 : Int32.ofInt (17) = (17 : Int32) := by decide
theorem sw_ic_18 : Int32.ofInt (18) = (18 : Int32) := by decide
theorem sw_ic_19 : Int32.ofInt (19) = (19 : Int32) := by decide
theorem sw_ic_21 : Int32.ofInt (21) = (21 : Int32) := by decide
theorem sw_ic_22 : Int32.ofInt (22) = (22 : Int32) := by decide
theorem sw_ic_23 : Int32.ofInt (23) = (23 : Int32) := by decide
theorem sw_ic_24 : Int32.ofInt (24) = (24 : Int32) := by decide
theorem sw_ic_25 : Int32.ofInt (25) = (25 : Int32) := by decide
theorem sw_ic_26 : Int32.ofInt (26) = (26 : Int32) := by decide
theorem sw_ic_27 : Int32.ofInt (27) = (27 : Int32) := by decide
theorem sw_ic_28 : Int32.ofInt (28) = (28 : Int32) := by decide
theorem sw_ic_29 : Int32.ofInt (29) = (29 : Int32) := by decide
theorem sw_ic_31 : Int32.ofInt (31) = (31 : Int32) := by decide
theorem sw_ic_32 : Int32.ofInt (32) = (32 : Int32) := by decide
theorem sw_ic_33 : Int32.ofInt (33) = (33 : Int32) := by decide
theorem sw_ic_34 : Int32.ofInt (34) = (34 : Int32) := by decide
theorem sw_ic_35 : Int32.ofInt (35) = (35 : Int32) := by decide
theorem sw_ic_36 : Int32.ofInt (36) = (36 : Int32) := by decide
theorem sw_wc_RL_157 : Cond.constantLong RL 157 (4294967295 : Int64) ∈ sw_wd := sw_wu7 (i := 77) (by decide +kernel) rfl
theorem sw_wl_RL_100 : Cond.methodLink RL 100 yX9_drawn ∈ sw_wd := sw_wu6 (i := 195) (by decide +kernel) rfl
theorem sw_wl_RL_101 : Cond.methodLink RL 101 yX8_hour ∈ sw_wd := sw_wu4 (i := 88) (by decide +kernel) rfl
theorem sw_wl_RL_104 : Cond.methodLink RL 104 yX9_hour ∈ sw_wd := sw_wu6 (i := 202) (by decide +kernel) rfl
theorem sw_wl_RL_105 : Cond.methodLink RL 105 yX8_telling ∈ sw_wd := sw_wu4 (i := 97) (by decide +kernel) rfl
theorem sw_wl_RL_108 : Cond.methodLink RL 108 yX9_telling ∈ sw_wd := sw_wu6 (i := 210) (by decide +kernel) rfl
theorem sw_wl_RL_109 : Cond.methodLink RL 109 yX8_touch ∈ sw_wd := sw_wu4 (i := 102) (by decide +kernel) rfl
theorem sw_wl_RL_112 : Cond.methodLink RL 112 yX9_touch ∈ sw_wd := sw_wu6 (i := 214) (by decide +kernel) rfl
theorem sw_wl_RL_113 : Cond.methodLink RL 113 yX8_hold ∈ sw_wd := sw_wu4 (i := 106) (by decide +kernel) rfl
theorem sw_wl_RL_116 : Cond.methodLink RL 116 yX9_hold ∈ sw_wd := sw_wu6 (i := 218) (by decide +kernel) rfl
theorem sw_wl_RL_117 : Cond.methodLink RL 117 yX8_led ∈ sw_wd := sw_wu4 (i := 110) (by decide +kernel) rfl
theorem sw_wl_RL_120 : Cond.methodLink RL 120 yX9_led ∈ sw_wd := sw_wu6 (i := 222) (by decide +kernel) rfl
theorem sw_wl_RL_121 : Cond.methodLink RL 121 yX8_image ∈ sw_wd := sw_wu4 (i := 114) (by decide +kernel) rfl
theorem sw_wl_RL_124 : Cond.methodLink RL 124 yX9_image ∈ sw_wd := sw_wu6 (i := 226) (by decide +kernel) rfl
theorem sw_wl_RL_125 : Cond.methodLink RL 125 yX8_back ∈ sw_wd := sw_wu4 (i := 123) (by decide +kernel) rfl
theorem sw_wl_RL_128 : Cond.methodLink RL 128 yX9_back ∈ sw_wd := sw_wu6 (i := 230) (by decide +kernel) rfl
theorem sw_wl_RL_129 : Cond.methodLink RL 129 yX8_undo ∈ sw_wd := sw_wu4 (i := 131) (by decide +kernel) rfl
theorem sw_wl_RL_13 : Cond.methodLink RL 13 yX8_sword ∈ sw_wd := sw_wu2 (i := 94) (by decide +kernel) rfl
theorem sw_wl_RL_132 : Cond.methodLink RL 132 yX9_undo ∈ sw_wd := sw_wu5 (i := 149) (by decide +kernel) rfl
theorem sw_wl_RL_133 : Cond.methodLink RL 133 yX8_redo ∈ sw_wd := sw_wu4 (i := 145) (by decide +kernel) rfl
theorem sw_wl_RL_136 : Cond.methodLink RL 136 yX9_redo ∈ sw_wd := sw_wu5 (i := 161) (by decide +kernel) rfl
theorem sw_wl_RL_137 : Cond.methodLink RL 137 yX8_body ∈ sw_wd := sw_wu4 (i := 153) (by decide +kernel) rfl
theorem sw_wl_RL_140 : Cond.methodLink RL 140 yX9_body ∈ sw_wd := sw_wu6 (i := 234) (by decide +kernel) rfl
theorem sw_wl_RL_141 : Cond.methodLink RL 141 yX8_act ∈ sw_wd := sw_wu4 (i := 161) (by decide +kernel) rfl
theorem sw_wl_RL_144 : Cond.methodLink RL 144 yX9_act ∈ sw_wd := sw_wu6 (i := 238) (by decide +kernel) rfl
theorem sw_wl_RL_145 : Cond.methodLink RL 145 yX8_trace ∈ sw_wd := sw_wu4 (i := 190) (by decide +kernel) rfl
theorem sw_wl_RL_148 : Cond.methodLink RL 148 yX9_trace ∈ sw_wd := sw_wu7 (i := 26) (by decide +kernel) rfl
theorem sw_wl_RL_149 : Cond.methodLink RL 149 yX8_keep ∈ sw_wd := sw_wu4 (i := 194) (by decide +kernel) rfl
theorem sw_wl_RL_152 : Cond.methodLink RL 152 yX9_keep ∈ sw_wd := sw_wu7 (i := 30) (by decide +kernel) rfl
theorem sw_wl_RL_153 : Cond.methodLink RL 153 yX8_row ∈ sw_wd := sw_wu4 (i := 206) (by decide +kernel) rfl
theorem sw_wl_RL_156 : Cond.methodLink RL 156 yX9_row ∈ sw_wd := sw_wu7 (i := 34) (by decide +kernel) rfl
theorem sw_wl_RL_159 : Cond.methodLink RL 159 yX8_put ∈ sw_wd := sw_wu4 (i := 214) (by decide +kernel) rfl
theorem sw_wl_RL_163 : Cond.methodLink RL 163 yX9_put ∈ sw_wd := sw_wu7 (i := 38) (by decide +kernel) rfl
theorem sw_wl_RL_164 : Cond.methodLink RL 164 yX8_element ∈ sw_wd := sw_wu4 (i := 231) (by decide +kernel) rfl
theorem sw_wl_RL_168 : Cond.methodLink RL 168 yX9_element ∈ sw_wd := sw_wu7 (i := 49) (by decide +kernel) rfl
theorem sw_wl_RL_169 : Cond.methodLink RL 169 yX8_shift ∈ sw_wd := sw_wu4 (i := 236) (by decide +kernel) rfl
theorem sw_wl_RL_17 : Cond.methodLink RL 17 yX9_sword ∈ sw_wd := sw_wu5 (i := 165) (by decide +kernel) rfl
theorem sw_wl_RL_173 : Cond.methodLink RL 173 yX9_shift ∈ sw_wd := sw_wu7 (i := 54) (by decide +kernel) rfl
theorem sw_wl_RL_174 : Cond.methodLink RL 174 yX8_taken ∈ sw_wd := sw_wu5 (i := 1) (by decide +kernel) rfl
theorem sw_wl_RL_177 : Cond.methodLink RL 177 yX9_taken ∈ sw_wd := sw_wu7 (i := 58) (by decide +kernel) rfl
theorem sw_wl_RL_178 : Cond.methodLink RL 178 yX8_count ∈ sw_wd := sw_wu5 (i := 12) (by decide +kernel) rfl
theorem sw_wl_RL_18 : Cond.methodLink RL 18 yX8_swords ∈ sw_wd := sw_wu2 (i := 113) (by decide +kernel) rfl
theorem sw_wl_RL_181 : Cond.methodLink RL 181 yX9_count ∈ sw_wd := sw_wu7 (i := 69) (by decide +kernel) rfl
theorem sw_wl_RL_22 : Cond.methodLink RL 22 yX9_swords ∈ sw_wd := sw_wu5 (i := 186) (by decide +kernel) rfl
theorem sw_wl_RL_23 : Cond.methodLink RL 23 yX8_mend ∈ sw_wd := sw_wu2 (i := 143) (by decide +kernel) rfl
theorem sw_wl_RL_26 : Cond.methodLink RL 26 yX9_mend ∈ sw_wd := sw_wu5 (i := 195) (by decide +kernel) rfl
theorem sw_wl_RL_27 : Cond.methodLink RL 27 yX8_of ∈ sw_wd := sw_wu2 (i := 184) (by decide +kernel) rfl
theorem sw_wl_RL_30 : Cond.methodLink RL 30 yX9_of ∈ sw_wd := sw_wu5 (i := 218) (by decide +kernel) rfl
theorem sw_wl_RL_31 : Cond.methodLink RL 31 yX8_feed ∈ sw_wd := sw_wu2 (i := 189) (by decide +kernel) rfl
theorem sw_wl_RL_35 : Cond.methodLink RL 35 yX9_feed ∈ sw_wd := sw_wu5 (i := 222) (by decide +kernel) rfl
theorem sw_wl_RL_36 : Cond.methodLink RL 36 yX8_law ∈ sw_wd := sw_wu2 (i := 197) (by decide +kernel) rfl
theorem sw_wl_RL_40 : Cond.methodLink RL 40 yX9_law ∈ sw_wd := sw_wu5 (i := 227) (by decide +kernel) rfl
theorem sw_wl_RL_41 : Cond.methodLink RL 41 yX8_grows ∈ sw_wd := sw_wu3 (i := 22) (by decide +kernel) rfl
theorem sw_wl_RL_44 : Cond.methodLink RL 44 yX9_grows ∈ sw_wd := sw_wu6 (i := 34) (by decide +kernel) rfl
theorem sw_wl_RL_45 : Cond.methodLink RL 45 yX8_later ∈ sw_wd := sw_wu3 (i := 73) (by decide +kernel) rfl
theorem sw_wl_RL_48 : Cond.methodLink RL 48 yX9_later ∈ sw_wd := sw_wu6 (i := 61) (by decide +kernel) rfl
theorem sw_wl_RL_49 : Cond.methodLink RL 49 yX8_awake ∈ sw_wd := sw_wu3 (i := 113) (by decide +kernel) rfl
theorem sw_wl_RL_52 : Cond.methodLink RL 52 yX9_awake ∈ sw_wd := sw_wu6 (i := 89) (by decide +kernel) rfl
theorem sw_wl_RL_53 : Cond.methodLink RL 53 yX8_cries ∈ sw_wd := sw_wu3 (i := 125) (by decide +kernel) rfl
theorem sw_wl_RL_56 : Cond.methodLink RL 56 yX9_cries ∈ sw_wd := sw_wu6 (i := 101) (by decide +kernel) rfl
theorem sw_wl_RL_57 : Cond.methodLink RL 57 yX8_asleep ∈ sw_wd := sw_wu3 (i := 133) (by decide +kernel) rfl
theorem sw_wl_RL_60 : Cond.methodLink RL 60 yX9_asleep ∈ sw_wd := sw_wu6 (i := 105) (by decide +kernel) rfl
theorem sw_wl_RL_61 : Cond.methodLink RL 61 yX8_bestRound ∈ sw_wd := sw_wu3 (i := 142) (by decide +kernel) rfl
theorem sw_wl_RL_64 : Cond.methodLink RL 64 yX9_bestRound ∈ sw_wd := sw_wu6 (i := 109) (by decide +kernel) rfl
theorem sw_wl_RL_65 : Cond.methodLink RL 65 yX8_told ∈ sw_wd := sw_wu3 (i := 178) (by decide +kernel) rfl
theorem sw_wl_RL_68 : Cond.methodLink RL 68 yX9_told ∈ sw_wd := sw_wu6 (i := 127) (by decide +kernel) rfl
theorem sw_wl_RL_69 : Cond.methodLink RL 69 yX8_woken ∈ sw_wd := sw_wu3 (i := 196) (by decide +kernel) rfl
theorem sw_wl_RL_72 : Cond.methodLink RL 72 yX9_woken ∈ sw_wd := sw_wu6 (i := 135) (by decide +kernel) rfl
theorem sw_wl_RL_73 : Cond.methodLink RL 73 yX8_walk ∈ sw_wd := sw_wu3 (i := 210) (by decide +kernel) rfl
theorem sw_wl_RL_76 : Cond.methodLink RL 76 yX9_walk ∈ sw_wd := sw_wu6 (i := 147) (by decide +kernel) rfl
theorem sw_wl_RL_77 : Cond.methodLink RL 77 yX8_judge ∈ sw_wd := sw_wu4 (i := 0) (by decide +kernel) rfl
theorem sw_wl_RL_80 : Cond.methodLink RL 80 yX9_judge ∈ sw_wd := sw_wu6 (i := 162) (by decide +kernel) rfl
theorem sw_wl_RL_81 : Cond.methodLink RL 81 yX8_fits ∈ sw_wd := sw_wu4 (i := 19) (by decide +kernel) rfl
theorem sw_wl_RL_84 : Cond.methodLink RL 84 yX9_fits ∈ sw_wd := sw_wu6 (i := 174) (by decide +kernel) rfl
theorem sw_wl_RL_85 : Cond.methodLink RL 85 yX8_dealt ∈ sw_wd := sw_wu4 (i := 29) (by decide +kernel) rfl
theorem sw_wl_RL_88 : Cond.methodLink RL 88 yX9_dealt ∈ sw_wd := sw_wu6 (i := 178) (by decide +kernel) rfl
theorem sw_wl_RL_89 : Cond.methodLink RL 89 yX8_lines ∈ sw_wd := sw_wu4 (i := 41) (by decide +kernel) rfl
theorem sw_wl_RL_92 : Cond.methodLink RL 92 yX9_lines ∈ sw_wd := sw_wu6 (i := 182) (by decide +kernel) rfl
theorem sw_wl_RL_93 : Cond.methodLink RL 93 yX8_byTurns ∈ sw_wd := sw_wu4 (i := 57) (by decide +kernel) rfl
theorem sw_wl_RL_96 : Cond.methodLink RL 96 yX9_byTurns ∈ sw_wd := sw_wu6 (i := 187) (by decide +kernel) rfl
theorem sw_wl_RL_97 : Cond.methodLink RL 97 yX8_drawn ∈ sw_wd := sw_wu4 (i := 79) (by decide +kernel) rfl
theorem sw_mv_X8_act : sw_mv yX8_act cX8_act 4 (some .int) 3 8 8 TX8 := ⟨sw_kc_8, ⟨sw_wu4 (i := 164) (by decide +kernel) rfl, sw_wu1 (i := 1) (by decide +kernel) rfl, by decide, by decide, by decide +kernel⟩, sw_wu4 (i := 162) (by decide +kernel) rfl, sw_wu4 (i := 163) (by decide +kernel) rfl⟩
theorem sw_mv_X8_asleep : sw_mv yX8_asleep cX8_asleep 3 (some .int) 1 8 8 TX8 := ⟨sw_kc_8, ⟨sw_wu3 (i := 136) (by decide +kernel) rfl, sw_wu1 (i := 1) (by decide +kernel) rfl, by decide, by decide, by decide +kernel⟩, sw_wu3 (i := 134) (by decide +kernel) rfl, sw_wu3 (i := 135) (by decide +kernel) rfl⟩
theorem sw_mv_X8_awake : sw_mv yX8_awake cX8_awake 6 (some .int) 3 8 8 TX8 := ⟨sw_kc_8, ⟨sw_wu3 (i := 116) (by decide +kernel) rfl, sw_wu1 (i := 1) (by decide +kernel) rfl, by decide, by decide, by decide +kernel⟩, sw_wu3 (i := 114) (by decide +kernel) rfl, sw_wu3 (i := 115) (by decide +kernel) rfl⟩
theorem sw_mv_X8_back : sw_mv yX8_back cX8_back 1 (some .int) 0 8 8 TX8 := ⟨sw_kc_8, ⟨sw_wu4 (i := 126) (by decide +kernel) rfl, sw_wu1 (i := 1) (by decide +kernel) rfl, by decide, by decide, by decide +kernel⟩, sw_wu4 (i := 124) (by decide +kernel) rfl, sw_wu4 (i := 125) (by decide +kernel) rfl⟩
theorem sw_mv_X8_bestRound : sw_mv yX8_bestRound cX8_bestRound 3 (some .int) 2 8 8 TX8 := ⟨sw_kc_8, ⟨sw_wu3 (i := 145) (by decide +kernel) rfl, sw_wu1 (i := 1) (by decide +kernel) rfl, by decide, by decide, by decide +kernel⟩, sw_wu3 (i := 143) (by decide +kernel) rfl, sw_wu3 (i := 144) (by decide +kernel) rfl⟩
theorem sw_mv_X8_body : sw_mv yX8_body cX8_body 2 (some .int) 1 8 8 TX8 := ⟨sw_kc_8, ⟨sw_wu4 (i := 156) (by decide +kernel) rfl, sw_wu1 (i := 1) (by decide +kernel) rfl, by decide, by decide, by decide +kernel⟩, sw_wu4 (i := 154) (by decide +kernel) rfl, sw_wu4 (i := 155) (by decide +kernel) rfl⟩
theorem sw_mv_X8_byTurns : sw_mv yX8_byTurns cX8_byTurns 4 (some .int) 2 8 8 TX8 := ⟨sw_kc_8, ⟨sw_wu4 (i := 60) (by decide +kernel) rfl, sw_wu1 (i := 1) (by decide +kernel) rfl, by decide, by decide, by decide +kernel⟩, sw_wu4 (i := 58) (by decide +kernel) rfl, sw_wu4 (i := 59) (by decide +kernel) rfl⟩
theorem sw_mv_X8_count : sw_mv yX8_count cX8_count 2 (some .int) 1 8 8 TX8 := ⟨sw_kc_8, ⟨sw_wu5 (i := 15) (by decide +kernel) rfl, sw_wu1 (i := 1) (by decide +kernel) rfl, by decide, by decide, by decide +kernel⟩, sw_wu5 (i := 13) (by decide +kernel) rfl, sw_wu5 (i := 14) (by decide +kernel) rfl⟩
theorem sw_mv_X8_cries : sw_mv yX8_cries cX8_cries 5 (some .int) 3 8 8 TX8 := ⟨sw_kc_8, ⟨sw_wu3 (i := 128) (by decide +kernel) rfl, sw_wu1 (i := 1) (by decide +kernel) rfl, by decide, by decide, by decide +kernel⟩, sw_wu3 (i := 126) (by decide +kernel) rfl, sw_wu3 (i := 127) (by decide +kernel) rfl⟩
theorem sw_mv_X8_dealt : sw_mv yX8_dealt cX8_dealt 2 (some .int) 1 8 8 TX8 := ⟨sw_kc_8, ⟨sw_wu4 (i := 32) (by decide +kernel) rfl, sw_wu1 (i := 1) (by decide +kernel) rfl, by decide, by decide, by decide +kernel⟩, sw_wu4 (i := 30) (by decide +kernel) rfl, sw_wu4 (i := 31) (by decide +kernel) rfl⟩
theorem sw_mv_X8_drawn : sw_mv yX8_drawn cX8_drawn 7 (some .int) 3 8 8 TX8 := ⟨sw_kc_8, ⟨sw_wu4 (i := 82) (by decide +kernel) rfl, sw_wu1 (i := 1) (by decide +kernel) rfl, by decide, by decide, by decide +kernel⟩, sw_wu4 (i := 80) (by decide +kernel) rfl, sw_wu4 (i := 81) (by decide +kernel) rfl⟩
theorem sw_mv_X8_element : sw_mv yX8_element cX8_element 3 (some .long) 2 8 8 TX8 := ⟨sw_kc_8, ⟨sw_wu4 (i := 234) (by decide +kernel) rfl, sw_wu1 (i := 1) (by decide +kernel) rfl, by decide, by decide, by decide +kernel⟩, sw_wu4 (i := 232) (by decide +kernel) rfl, sw_wu4 (i := 233) (by decide +kernel) rfl⟩
theorem sw_mv_X8_feed : sw_mv yX8_feed cX8_feed 2 (some .int) 1 8 8 TX8 := ⟨sw_kc_8, ⟨sw_wu2 (i := 192) (by decide +kernel) rfl, sw_wu1 (i := 1) (by decide +kernel) rfl, by decide, by decide, by decide +kernel⟩, sw_wu2 (i := 190) (by decide +kernel) rfl, sw_wu2 (i := 191) (by decide +kernel) rfl⟩
theorem sw_mv_X8_fits : sw_mv yX8_fits cX8_fits 5 (some .int) 3 8 8 TX8 := ⟨sw_kc_8, ⟨sw_wu4 (i := 22) (by decide +kernel) rfl, sw_wu1 (i := 1) (by decide +kernel) rfl, by decide, by decide, by decide +kernel⟩, sw_wu4 (i := 20) (by decide +kernel) rfl, sw_wu4 (i := 21) (by decide +kernel) rfl⟩
theorem sw_mv_X8_grows : sw_mv yX8_grows cX8_grows 2 (some .int) 1 8 8 TX8 := ⟨sw_kc_8, ⟨sw_wu3 (i := 25) (by decide +kernel) rfl, sw_wu1 (i := 1) (by decide +kernel) rfl, by decide, by decide, by decide +kernel⟩, sw_wu3 (i := 23) (by decide +kernel) rfl, sw_wu3 (i := 24) (by decide +kernel) rfl⟩
theorem sw_mv_X8_hold : sw_mv yX8_hold cX8_hold 4 (some .int) 2 8 8 TX8 := ⟨sw_kc_8, ⟨sw_wu4 (i := 109) (by decide +kernel) rfl, sw_wu1 (i := 1) (by decide +kernel) rfl, by decide, by decide, by decide +kernel⟩, sw_wu4 (i := 107) (by decide +kernel) rfl, sw_wu4 (i := 108) (by decide +kernel) rfl⟩
theorem sw_mv_X8_hour : sw_mv yX8_hour cX8_hour 4 (some .int) 1 8 8 TX8 := ⟨sw_kc_8, ⟨sw_wu4 (i := 91) (by decide +kernel) rfl, sw_wu1 (i := 1) (by decide +kernel) rfl, by decide, by decide, by decide +kernel⟩, sw_wu4 (i := 89) (by decide +kernel) rfl, sw_wu4 (i := 90) (by decide +kernel) rfl⟩
theorem sw_mv_X8_image : sw_mv yX8_image cX8_image 1 (some .int) 0 8 8 TX8 := ⟨sw_kc_8, ⟨sw_wu4 (i := 117) (by decide +kernel) rfl, sw_wu1 (i := 1) (by decide +kernel) rfl, by decide, by decide, by decide +kernel⟩, sw_wu4 (i := 115) (by decide +kernel) rfl, sw_wu4 (i := 116) (by decide +kernel) rfl⟩
theorem sw_mv_X8_judge : sw_mv yX8_judge cX8_judge 4 (some .int) 2 8 8 TX8 := ⟨sw_kc_8, ⟨sw_wu4 (i := 3) (by decide +kernel) rfl, sw_wu1 (i := 1) (by decide +kernel) rfl, by decide, by decide, by decide +kernel⟩, sw_wu4 (i := 1) (by decide +kernel) rfl, sw_wu4 (i := 2) (by decide +kernel) rfl⟩
theorem sw_mv_X8_keep : sw_mv yX8_keep cX8_keep 3 (some .int) 2 8 8 TX8 := ⟨sw_kc_8, ⟨sw_wu4 (i := 197) (by decide +kernel) rfl, sw_wu1 (i := 1) (by decide +kernel) rfl, by decide, by decide, by decide +kernel⟩, sw_wu4 (i := 195) (by decide +kernel) rfl, sw_wu4 (i := 196) (by decide +kernel) rfl⟩
theorem sw_mv_X8_later : sw_mv yX8_later cX8_later 5 (some .int) 3 8 8 TX8 := ⟨sw_kc_8, ⟨sw_wu3 (i := 76) (by decide +kernel) rfl, sw_wu1 (i := 1) (by decide +kernel) rfl, by decide, by decide, by decide +kernel⟩, sw_wu3 (i := 74) (by decide +kernel) rfl, sw_wu3 (i := 75) (by decide +kernel) rfl⟩
theorem sw_mv_X8_law : sw_mv yX8_law cX8_law 2 (some .int) 0 8 8 TX8 := ⟨sw_kc_8, ⟨sw_wu2 (i := 200) (by decide +kernel) rfl, sw_wu1 (i := 1) (by decide +kernel) rfl, by decide, by decide, by decide +kernel⟩, sw_wu2 (i := 198) (by decide +kernel) rfl, sw_wu2 (i := 199) (by decide +kernel) rfl⟩
theorem sw_mv_X8_led : sw_mv yX8_led cX8_led 2 (some .int) 1 8 8 TX8 := ⟨sw_kc_8, ⟨sw_wu4 (i := 113) (by decide +kernel) rfl, sw_wu1 (i := 1) (by decide +kernel) rfl, by decide, by decide, by decide +kernel⟩, sw_wu4 (i := 111) (by decide +kernel) rfl, sw_wu4 (i := 112) (by decide +kernel) rfl⟩
theorem sw_mv_X8_lines : sw_mv yX8_lines cX8_lines 3 (some .int) 1 8 8 TX8 := ⟨sw_kc_8, ⟨sw_wu4 (i := 44) (by decide +kernel) rfl, sw_wu1 (i := 1) (by decide +kernel) rfl, by decide, by decide, by decide +kernel⟩, sw_wu4 (i := 42) (by decide +kernel) rfl, sw_wu4 (i := 43) (by decide +kernel) rfl⟩
theorem sw_mv_X8_mend : sw_mv yX8_mend cX8_mend 5 (some .int) 3 8 8 TX8 := ⟨sw_kc_8, ⟨sw_wu2 (i := 146) (by decide +kernel) rfl, sw_wu1 (i := 1) (by decide +kernel) rfl, by decide, by decide, by decide +kernel⟩, sw_wu2 (i := 144) (by decide +kernel) rfl, sw_wu2 (i := 145) (by decide +kernel) rfl⟩
theorem sw_mv_X8_of : sw_mv yX8_of cX8_of 3 (some .int) 2 8 8 TX8 := ⟨sw_kc_8, ⟨sw_wu2 (i := 187) (by decide +kernel) rfl, sw_wu1 (i := 1) (by decide +kernel) rfl, by decide, by decide, by decide +kernel⟩, sw_wu2 (i := 185) (by decide +kernel) rfl, sw_wu2 (i := 186) (by decide +kernel) rfl⟩
theorem sw_mv_X8_put : sw_mv yX8_put cX8_put 6 (some .int) 3 8 8 TX8 := ⟨sw_kc_8, ⟨sw_wu4 (i := 217) (by decide +kernel) rfl, sw_wu1 (i := 1) (by decide +kernel) rfl, by decide, by decide, by decide +kernel⟩, sw_wu4 (i := 215) (by decide +kernel) rfl, sw_wu4 (i := 216) (by decide +kernel) rfl⟩
theorem sw_mv_X8_redo : sw_mv yX8_redo cX8_redo 1 (some .int) 0 8 8 TX8 := ⟨sw_kc_8, ⟨sw_wu4 (i := 148) (by decide +kernel) rfl, sw_wu1 (i := 1) (by decide +kernel) rfl, by decide, by decide, by decide +kernel⟩, sw_wu4 (i := 146) (by decide +kernel) rfl, sw_wu4 (i := 147) (by decide +kernel) rfl⟩
theorem sw_mv_X8_row : sw_mv yX8_row cX8_row 4 (some .int) 3 8 8 TX8 := ⟨sw_kc_8, ⟨sw_wu4 (i := 209) (by decide +kernel) rfl, sw_wu1 (i := 1) (by decide +kernel) rfl, by decide, by decide, by decide +kernel⟩, sw_wu4 (i := 207) (by decide +kernel) rfl, sw_wu4 (i := 208) (by decide +kernel) rfl⟩
theorem sw_mv_X8_shift : sw_mv yX8_shift cX8_shift 8 (some .int) 5 8 8 TX8 := ⟨sw_kc_8, ⟨sw_wu4 (i := 239) (by decide +kernel) rfl, sw_wu1 (i := 1) (by decide +kernel) rfl, by decide, by decide, by decide +kernel⟩, sw_wu4 (i := 237) (by decide +kernel) rfl, sw_wu4 (i := 238) (by decide +kernel) rfl⟩
theorem sw_mv_X8_sword : sw_mv yX8_sword cX8_sword 3 (some .int) 2 8 8 TX8 := ⟨sw_kc_8, ⟨sw_wu2 (i := 97) (by decide +kernel) rfl, sw_wu1 (i := 1) (by decide +kernel) rfl, by decide, by decide, by decide +kernel⟩, sw_wu2 (i := 95) (by decide +kernel) rfl, sw_wu2 (i := 96) (by decide +kernel) rfl⟩
theorem sw_mv_X8_swords : sw_mv yX8_swords cX8_swords 5 (some .int) 3 8 8 TX8 := ⟨sw_kc_8, ⟨sw_wu2 (i := 116) (by decide +kernel) rfl, sw_wu1 (i := 1) (by decide +kernel) rfl, by decide, by decide, by decide +kernel⟩, sw_wu2 (i := 114) (by decide +kernel) rfl, sw_wu2 (i := 115) (by decide +kernel) rfl⟩
theorem sw_mv_X8_taken : sw_mv yX8_taken cX8_taken 4 (some .int) 2 8 8 TX8 := ⟨sw_kc_8, ⟨sw_wu5 (i := 4) (by decide +kernel) rfl, sw_wu1 (i := 1) (by decide +kernel) rfl, by decide, by decide, by decide +kernel⟩, sw_wu5 (i := 2) (by decide +kernel) rfl, sw_wu5 (i := 3) (by decide +kernel) rfl⟩
theorem sw_mv_X8_telling : sw_mv yX8_telling cX8_telling 4 (some .int) 2 8 8 TX8 := ⟨sw_kc_8, ⟨sw_wu4 (i := 100) (by decide +kernel) rfl, sw_wu1 (i := 1) (by decide +kernel) rfl, by decide, by decide, by decide +kernel⟩, sw_wu4 (i := 98) (by decide +kernel) rfl, sw_wu4 (i := 99) (by decide +kernel) rfl⟩
theorem sw_mv_X8_told : sw_mv yX8_told cX8_told 2 (some .int) 1 8 8 TX8 := ⟨sw_kc_8, ⟨sw_wu3 (i := 181) (by decide +kernel) rfl, sw_wu1 (i := 1) (by decide +kernel) rfl, by decide, by decide, by decide +kernel⟩, sw_wu3 (i := 179) (by decide +kernel) rfl, sw_wu3 (i := 180) (by decide +kernel) rfl⟩
theorem sw_mv_X8_touch : sw_mv yX8_touch cX8_touch 3 (some .int) 1 8 8 TX8 := ⟨sw_kc_8, ⟨sw_wu4 (i := 105) (by decide +kernel) rfl, sw_wu1 (i := 1) (by decide +kernel) rfl, by decide, by decide, by decide +kernel⟩, sw_wu4 (i := 103) (by decide +kernel) rfl, sw_wu4 (i := 104) (by decide +kernel) rfl⟩
theorem sw_mv_X8_trace : sw_mv yX8_trace cX8_trace 2 (some .int) 1 8 8 TX8 := ⟨sw_kc_8, ⟨sw_wu4 (i := 193) (by decide +kernel) rfl, sw_wu1 (i := 1) (by decide +kernel) rfl, by decide, by decide, by decide +kernel⟩, sw_wu4 (i := 191) (by decide +kernel) rfl, sw_wu4 (i := 192) (by decide +kernel) rfl⟩
theorem sw_mv_X8_undo : sw_mv yX8_undo cX8_undo 1 (some .int) 0 8 8 TX8 := ⟨sw_kc_8, ⟨sw_wu4 (i := 134) (by decide +kernel) rfl, sw_wu1 (i := 1) (by decide +kernel) rfl, by decide, by decide, by decide +kernel⟩, sw_wu4 (i := 132) (by decide +kernel) rfl, sw_wu4 (i := 133) (by decide +kernel) rfl⟩
theorem sw_mv_X8_walk : sw_mv yX8_walk cX8_walk 3 (some .int) 1 8 8 TX8 := ⟨sw_kc_8, ⟨sw_wu3 (i := 213) (by decide +kernel) rfl, sw_wu1 (i := 1) (by decide +kernel) rfl, by decide, by decide, by decide +kernel⟩, sw_wu3 (i := 211) (by decide +kernel) rfl, sw_wu3 (i := 212) (by decide +kernel) rfl⟩
theorem sw_mv_X8_woken : sw_mv yX8_woken cX8_woken 5 (some .int) 2 8 8 TX8 := ⟨sw_kc_8, ⟨sw_wu3 (i := 199) (by decide +kernel) rfl, sw_wu1 (i := 1) (by decide +kernel) rfl, by decide, by decide, by decide +kernel⟩, sw_wu3 (i := 197) (by decide +kernel) rfl, sw_wu3 (i := 198) (by decide +kernel) rfl⟩
theorem sw_mv_X9_act : sw_mv yX9_act cX9_act 4 (some .int) 3 9 42 TX9 := ⟨sw_kc_9, ⟨sw_wu7 (i := 1) (by decide +kernel) rfl, sw_wu1 (i := 10) (by decide +kernel) rfl, by decide, by decide, by decide +kernel⟩, sw_wu6 (i := 239) (by decide +kernel) rfl, sw_wu7 (i := 0) (by decide +kernel) rfl⟩
theorem sw_mv_X9_asleep : sw_mv yX9_asleep cX9_asleep 3 (some .int) 1 9 42 TX9 := ⟨sw_kc_9, ⟨sw_wu6 (i := 108) (by decide +kernel) rfl, sw_wu1 (i := 10) (by decide +kernel) rfl, by decide, by decide, by decide +kernel⟩, sw_wu6 (i := 106) (by decide +kernel) rfl, sw_wu6 (i := 107) (by decide +kernel) rfl⟩
theorem sw_mv_X9_awake : sw_mv yX9_awake cX9_awake 4 (some .int) 3 9 42 TX9 := ⟨sw_kc_9, ⟨sw_wu6 (i := 92) (by decide +kernel) rfl, sw_wu1 (i := 10) (by decide +kernel) rfl, by decide, by decide, by decide +kernel⟩, sw_wu6 (i := 90) (by decide +kernel) rfl, sw_wu6 (i := 91) (by decide +kernel) rfl⟩
theorem sw_mv_X9_back : sw_mv yX9_back cX9_back 2 (some .int) 0 9 42 TX9 := ⟨sw_kc_9, ⟨sw_wu6 (i := 233) (by decide +kernel) rfl, sw_wu1 (i := 10) (by decide +kernel) rfl, by decide, by decide, by decide +kernel⟩, sw_wu6 (i := 231) (by decide +kernel) rfl, sw_wu6 (i := 232) (by decide +kernel) rfl⟩
theorem sw_mv_X9_bestRound : sw_mv yX9_bestRound cX9_bestRound 3 (some .int) 2 9 42 TX9 := ⟨sw_kc_9, ⟨sw_wu6 (i := 112) (by decide +kernel) rfl, sw_wu1 (i := 10) (by decide +kernel) rfl, by decide, by decide, by decide +kernel⟩, sw_wu6 (i := 110) (by decide +kernel) rfl, sw_wu6 (i := 111) (by decide +kernel) rfl⟩
theorem sw_mv_X9_body : sw_mv yX9_body cX9_body 2 (some .int) 1 9 42 TX9 := ⟨sw_kc_9, ⟨sw_wu6 (i := 237) (by decide +kernel) rfl, sw_wu1 (i := 10) (by decide +kernel) rfl, by decide, by decide, by decide +kernel⟩, sw_wu6 (i := 235) (by decide +kernel) rfl, sw_wu6 (i := 236) (by decide +kernel) rfl⟩
theorem sw_mv_X9_byTurns : sw_mv yX9_byTurns cX9_byTurns 6 (some .int) 2 9 42 TX9 := ⟨sw_kc_9, ⟨sw_wu6 (i := 190) (by decide +kernel) rfl, sw_wu1 (i := 10) (by decide +kernel) rfl, by decide, by decide, by decide +kernel⟩, sw_wu6 (i := 188) (by decide +kernel) rfl, sw_wu6 (i := 189) (by decide +kernel) rfl⟩
theorem sw_mv_X9_count : sw_mv yX9_count cX9_count 2 (some .int) 1 9 42 TX9 := ⟨sw_kc_9, ⟨sw_wu7 (i := 72) (by decide +kernel) rfl, sw_wu1 (i := 10) (by decide +kernel) rfl, by decide, by decide, by decide +kernel⟩, sw_wu7 (i := 70) (by decide +kernel) rfl, sw_wu7 (i := 71) (by decide +kernel) rfl⟩
theorem sw_mv_X9_cries : sw_mv yX9_cries cX9_cries 5 (some .int) 3 9 42 TX9 := ⟨sw_kc_9, ⟨sw_wu6 (i := 104) (by decide +kernel) rfl, sw_wu1 (i := 10) (by decide +kernel) rfl, by decide, by decide, by decide +kernel⟩, sw_wu6 (i := 102) (by decide +kernel) rfl, sw_wu6 (i := 103) (by decide +kernel) rfl⟩
theorem sw_mv_X9_dealt : sw_mv yX9_dealt cX9_dealt 8 (some .int) 1 9 42 TX9 := ⟨sw_kc_9, ⟨sw_wu6 (i := 181) (by decide +kernel) rfl, sw_wu1 (i := 10) (by decide +kernel) rfl, by decide, by decide, by decide +kernel⟩, sw_wu6 (i := 179) (by decide +kernel) rfl, sw_wu6 (i := 180) (by decide +kernel) rfl⟩
theorem sw_mv_X9_drawn : sw_mv yX9_drawn cX9_drawn 8 (some .int) 3 9 42 TX9 := ⟨sw_kc_9, ⟨sw_wu6 (i := 198) (by decide +kernel) rfl, sw_wu1 (i := 10) (by decide +kernel) rfl, by decide, by decide, by decide +kernel⟩, sw_wu6 (i := 196) (by decide +kernel) rfl, sw_wu6 (i := 197) (by decide +kernel) rfl⟩
theorem sw_mv_X9_element : sw_mv yX9_element cX9_element 3 (some .long) 2 9 42 TX9 := ⟨sw_kc_9, ⟨sw_wu7 (i := 52) (by decide +kernel) rfl, sw_wu1 (i := 10) (by decide +kernel) rfl, by decide, by decide, by decide +kernel⟩, sw_wu7 (i := 50) (by decide +kernel) rfl, sw_wu7 (i := 51) (by decide +kernel) rfl⟩
theorem sw_mv_X9_feed : sw_mv yX9_feed cX9_feed 2 (some .int) 1 9 42 TX9 := ⟨sw_kc_9, ⟨sw_wu5 (i := 225) (by decide +kernel) rfl, sw_wu1 (i := 10) (by decide +kernel) rfl, by decide, by decide, by decide +kernel⟩, sw_wu5 (i := 223) (by decide +kernel) rfl, sw_wu5 (i := 224) (by decide +kernel) rfl⟩
theorem sw_mv_X9_fits : sw_mv yX9_fits cX9_fits 9 (some .int) 3 9 42 TX9 := ⟨sw_kc_9, ⟨sw_wu6 (i := 177) (by decide +kernel) rfl, sw_wu1 (i := 10) (by decide +kernel) rfl, by decide, by decide, by decide +kernel⟩, sw_wu6 (i := 175) (by decide +kernel) rfl, sw_wu6 (i := 176) (by decide +kernel) rfl⟩
theorem sw_mv_X9_grows : sw_mv yX9_grows cX9_grows 2 (some .int) 1 9 42 TX9 := ⟨sw_kc_9, ⟨sw_wu6 (i := 37) (by decide +kernel) rfl, sw_wu1 (i := 10) (by decide +kernel) rfl, by decide, by decide, by decide +kernel⟩, sw_wu6 (i := 35) (by decide +kernel) rfl, sw_wu6 (i := 36) (by decide +kernel) rfl⟩
theorem sw_mv_X9_hold : sw_mv yX9_hold cX9_hold 4 (some .int) 2 9 42 TX9 := ⟨sw_kc_9, ⟨sw_wu6 (i := 221) (by decide +kernel) rfl, sw_wu1 (i := 10) (by decide +kernel) rfl, by decide, by decide, by decide +kernel⟩, sw_wu6 (i := 219) (by decide +kernel) rfl, sw_wu6 (i := 220) (by decide +kernel) rfl⟩
theorem sw_mv_X9_hour : sw_mv yX9_hour cX9_hour 3 (some .int) 1 9 42 TX9 := ⟨sw_kc_9, ⟨sw_wu6 (i := 205) (by decide +kernel) rfl, sw_wu1 (i := 10) (by decide +kernel) rfl, by decide, by decide, by decide +kernel⟩, sw_wu6 (i := 203) (by decide +kernel) rfl, sw_wu6 (i := 204) (by decide +kernel) rfl⟩
theorem sw_mv_X9_image : sw_mv yX9_image cX9_image 2 (some .int) 0 9 42 TX9 := ⟨sw_kc_9, ⟨sw_wu6 (i := 229) (by decide +kernel) rfl, sw_wu1 (i := 10) (by decide +kernel) rfl, by decide, by decide, by decide +kernel⟩, sw_wu6 (i := 227) (by decide +kernel) rfl, sw_wu6 (i := 228) (by decide +kernel) rfl⟩
theorem sw_mv_X9_judge : sw_mv yX9_judge cX9_judge 3 (some .int) 2 9 42 TX9 := ⟨sw_kc_9, ⟨sw_wu6 (i := 165) (by decide +kernel) rfl, sw_wu1 (i := 10) (by decide +kernel) rfl, by decide, by decide, by decide +kernel⟩, sw_wu6 (i := 163) (by decide +kernel) rfl, sw_wu6 (i := 164) (by decide +kernel) rfl⟩
theorem sw_mv_X9_keep : sw_mv yX9_keep cX9_keep 3 (some .int) 2 9 42 TX9 := ⟨sw_kc_9, ⟨sw_wu7 (i := 33) (by decide +kernel) rfl, sw_wu1 (i := 10) (by decide +kernel) rfl, by decide, by decide, by decide +kernel⟩, sw_wu7 (i := 31) (by decide +kernel) rfl, sw_wu7 (i := 32) (by decide +kernel) rfl⟩
theorem sw_mv_X9_later : sw_mv yX9_later cX9_later 4 (some .int) 3 9 42 TX9 := ⟨sw_kc_9, ⟨sw_wu6 (i := 64) (by decide +kernel) rfl, sw_wu1 (i := 10) (by decide +kernel) rfl, by decide, by decide, by decide +kernel⟩, sw_wu6 (i := 62) (by decide +kernel) rfl, sw_wu6 (i := 63) (by decide +kernel) rfl⟩
theorem sw_mv_X9_law : sw_mv yX9_law cX9_law 4 (some .int) 0 9 42 TX9 := ⟨sw_kc_9, ⟨sw_wu5 (i := 230) (by decide +kernel) rfl, sw_wu1 (i := 10) (by decide +kernel) rfl, by decide, by decide, by decide +kernel⟩, sw_wu5 (i := 228) (by decide +kernel) rfl, sw_wu5 (i := 229) (by decide +kernel) rfl⟩
theorem sw_mv_X9_led : sw_mv yX9_led cX9_led 2 (some .int) 1 9 42 TX9 := ⟨sw_kc_9, ⟨sw_wu6 (i := 225) (by decide +kernel) rfl, sw_wu1 (i := 10) (by decide +kernel) rfl, by decide, by decide, by decide +kernel⟩, sw_wu6 (i := 223) (by decide +kernel) rfl, sw_wu6 (i := 224) (by decide +kernel) rfl⟩
theorem sw_mv_X9_lines : sw_mv yX9_lines cX9_lines 7 (some .int) 1 9 42 TX9 := ⟨sw_kc_9, ⟨sw_wu6 (i := 185) (by decide +kernel) rfl, sw_wu1 (i := 10) (by decide +kernel) rfl, by decide, by decide, by decide +kernel⟩, sw_wu6 (i := 183) (by decide +kernel) rfl, sw_wu6 (i := 184) (by decide +kernel) rfl⟩
theorem sw_mv_X9_mend : sw_mv yX9_mend cX9_mend 5 (some .int) 3 9 42 TX9 := ⟨sw_kc_9, ⟨sw_wu5 (i := 198) (by decide +kernel) rfl, sw_wu1 (i := 10) (by decide +kernel) rfl, by decide, by decide, by decide +kernel⟩, sw_wu5 (i := 196) (by decide +kernel) rfl, sw_wu5 (i := 197) (by decide +kernel) rfl⟩
theorem sw_mv_X9_of : sw_mv yX9_of cX9_of 4 (some .int) 2 9 42 TX9 := ⟨sw_kc_9, ⟨sw_wu5 (i := 221) (by decide +kernel) rfl, sw_wu1 (i := 10) (by decide +kernel) rfl, by decide, by decide, by decide +kernel⟩, sw_wu5 (i := 219) (by decide +kernel) rfl, sw_wu5 (i := 220) (by decide +kernel) rfl⟩
theorem sw_mv_X9_put : sw_mv yX9_put cX9_put 6 (some .int) 3 9 42 TX9 := ⟨sw_kc_9, ⟨sw_wu7 (i := 41) (by decide +kernel) rfl, sw_wu1 (i := 10) (by decide +kernel) rfl, by decide, by decide, by decide +kernel⟩, sw_wu7 (i := 39) (by decide +kernel) rfl, sw_wu7 (i := 40) (by decide +kernel) rfl⟩
theorem sw_mv_X9_redo : sw_mv yX9_redo cX9_redo 1 (some .int) 0 9 42 TX9 := ⟨sw_kc_9, ⟨sw_wu5 (i := 164) (by decide +kernel) rfl, sw_wu1 (i := 10) (by decide +kernel) rfl, by decide, by decide, by decide +kernel⟩, sw_wu5 (i := 162) (by decide +kernel) rfl, sw_wu5 (i := 163) (by decide +kernel) rfl⟩
theorem sw_mv_X9_row : sw_mv yX9_row cX9_row 5 (some .int) 3 9 42 TX9 := ⟨sw_kc_9, ⟨sw_wu7 (i := 37) (by decide +kernel) rfl, sw_wu1 (i := 10) (by decide +kernel) rfl, by decide, by decide, by decide +kernel⟩, sw_wu7 (i := 35) (by decide +kernel) rfl, sw_wu7 (i := 36) (by decide +kernel) rfl⟩
theorem sw_mv_X9_shift : sw_mv yX9_shift cX9_shift 7 (some .int) 5 9 42 TX9 := ⟨sw_kc_9, ⟨sw_wu7 (i := 57) (by decide +kernel) rfl, sw_wu1 (i := 10) (by decide +kernel) rfl, by decide, by decide, by decide +kernel⟩, sw_wu7 (i := 55) (by decide +kernel) rfl, sw_wu7 (i := 56) (by decide +kernel) rfl⟩
theorem sw_mv_X9_sword : sw_mv yX9_sword cX9_sword 3 (some .int) 2 9 42 TX9 := ⟨sw_kc_9, ⟨sw_wu5 (i := 168) (by decide +kernel) rfl, sw_wu1 (i := 10) (by decide +kernel) rfl, by decide, by decide, by decide +kernel⟩, sw_wu5 (i := 166) (by decide +kernel) rfl, sw_wu5 (i := 167) (by decide +kernel) rfl⟩
theorem sw_mv_X9_swords : sw_mv yX9_swords cX9_swords 7 (some .int) 3 9 42 TX9 := ⟨sw_kc_9, ⟨sw_wu5 (i := 189) (by decide +kernel) rfl, sw_wu1 (i := 10) (by decide +kernel) rfl, by decide, by decide, by decide +kernel⟩, sw_wu5 (i := 187) (by decide +kernel) rfl, sw_wu5 (i := 188) (by decide +kernel) rfl⟩
theorem sw_mv_X9_taken : sw_mv yX9_taken cX9_taken 4 (some .int) 2 9 42 TX9 := ⟨sw_kc_9, ⟨sw_wu7 (i := 61) (by decide +kernel) rfl, sw_wu1 (i := 10) (by decide +kernel) rfl, by decide, by decide, by decide +kernel⟩, sw_wu7 (i := 59) (by decide +kernel) rfl, sw_wu7 (i := 60) (by decide +kernel) rfl⟩
theorem sw_mv_X9_telling : sw_mv yX9_telling cX9_telling 3 (some .int) 2 9 42 TX9 := ⟨sw_kc_9, ⟨sw_wu6 (i := 213) (by decide +kernel) rfl, sw_wu1 (i := 10) (by decide +kernel) rfl, by decide, by decide, by decide +kernel⟩, sw_wu6 (i := 211) (by decide +kernel) rfl, sw_wu6 (i := 212) (by decide +kernel) rfl⟩
theorem sw_mv_X9_told : sw_mv yX9_told cX9_told 4 (some .int) 1 9 42 TX9 := ⟨sw_kc_9, ⟨sw_wu6 (i := 130) (by decide +kernel) rfl, sw_wu1 (i := 10) (by decide +kernel) rfl, by decide, by decide, by decide +kernel⟩, sw_wu6 (i := 128) (by decide +kernel) rfl, sw_wu6 (i := 129) (by decide +kernel) rfl⟩
theorem sw_mv_X9_touch : sw_mv yX9_touch cX9_touch 4 (some .int) 1 9 42 TX9 := ⟨sw_kc_9, ⟨sw_wu6 (i := 217) (by decide +kernel) rfl, sw_wu1 (i := 10) (by decide +kernel) rfl, by decide, by decide, by decide +kernel⟩, sw_wu6 (i := 215) (by decide +kernel) rfl, sw_wu6 (i := 216) (by decide +kernel) rfl⟩
theorem sw_mv_X9_trace : sw_mv yX9_trace cX9_trace 2 (some .int) 1 9 42 TX9 := ⟨sw_kc_9, ⟨sw_wu7 (i := 29) (by decide +kernel) rfl, sw_wu1 (i := 10) (by decide +kernel) rfl, by decide, by decide, by decide +kernel⟩, sw_wu7 (i := 27) (by decide +kernel) rfl, sw_wu7 (i := 28) (by decide +kernel) rfl⟩
theorem sw_mv_X9_undo : sw_mv yX9_undo cX9_undo 1 (some .int) 0 9 42 TX9 := ⟨sw_kc_9, ⟨sw_wu5 (i := 152) (by decide +kernel) rfl, sw_wu1 (i := 10) (by decide +kernel) rfl, by decide, by decide, by decide +kernel⟩, sw_wu5 (i := 150) (by decide +kernel) rfl, sw_wu5 (i := 151) (by decide +kernel) rfl⟩
theorem sw_mv_X9_walk : sw_mv yX9_walk cX9_walk 5 (some .int) 1 9 42 TX9 := ⟨sw_kc_9, ⟨sw_wu6 (i := 150) (by decide +kernel) rfl, sw_wu1 (i := 10) (by decide +kernel) rfl, by decide, by decide, by decide +kernel⟩, sw_wu6 (i := 148) (by decide +kernel) rfl, sw_wu6 (i := 149) (by decide +kernel) rfl⟩
theorem sw_mv_X9_woken : sw_mv yX9_woken cX9_woken 4 (some .int) 2 9 42 TX9 := ⟨sw_kc_9, ⟨sw_wu6 (i := 138) (by decide +kernel) rfl, sw_wu1 (i := 10) (by decide +kernel) rfl, by decide, by decide, by decide +kernel⟩, sw_wu6 (i := 136) (by decide +kernel) rfl, sw_wu6 (i := 137) (by decide +kernel) rfl⟩
section SWL
variable {α β : Type} {G : sw_G} {own : String} {cc : ByteArray} {nL : Nat} {rt : Option FieldType} {R : Room} {ce sl : Nat} {Zf : α → sw_St → State → Array Value → List Frame → State → Prop} {pc np : Nat} {lv lv' : List (Option Value)} {st : List Value} {S : sw_St} {tg tg2 : Option (α × sw_St)}
theorem sw_cV2l {y : MethodName} {cc2 : ByteArray} {nL2 : Nat} {rt2 : Option FieldType} {d o c N index : Nat} {T : u_T} {rest : List Value} {v0 v1 : Value} {tgc : Option (Int64 × sw_St)} {K : Int64 → sw_St → Option (α × sw_St)} (hE : sw_Ev G y cc2 nL2 rt2 d sw_el [sw_vr G o, v0, v1] S tgc) (hm : sw_mv y cc2 nL2 rt2 2 c N T) (ho : sw_kd o = c) (hl : Cond.methodLink own index y ∈ sw_wd) (hd : decode cc pc = .ok (.invokevirtual index, 3)) (hf : sw_fit R ce sl nL2 d) (hre : (rest.map fun v => v.category).sum ≤ 8) (hn : pc + 3 = np) (k : ∀ (r : Int64) (S' : sw_St), sw_Rn G own cc nL rt R ce sl Zf np lv (.long r :: rest) S' (K r S')) : sw_Rn G own cc nL rt R ce sl Zf pc lv (v1 :: v0 :: sw_vr G o :: rest) S (sw_bd tgc K) := sw_callV (As := [v0, v1]) (rest := rest) hE hm.1 ho hm.2.1 hm.2.2.1 hm.2.2.2 hl hd hf rfl hre hn k
end SWL
