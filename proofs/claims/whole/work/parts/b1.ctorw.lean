/-! the constructors' words and cells -/
theorem sc_u2 {F F' : Nat → va_E} {b x : Nat} {e e2 : va_E} (h : x ≠ b) (hF : va_up F x e = F') : va_up (va_up F b e2) x e = va_up F' b e2 := by
  subst hF
  funext i
  by_cases h1 : i = x
  · subst h1
    rw [va_up_self, va_up_ne _ _ h, va_up_self]
  · rw [va_up_ne _ _ h1]
    by_cases h2 : i = b
    · subst h2
      rw [va_up_self, va_up_self]
    · rw [va_up_ne _ _ h2, va_up_ne _ _ h2, va_up_ne _ _ h1]
theorem sc_u2_at {F : Nat → va_E} {b x : Nat} {e e2 : va_E} (h : x ≠ b) (hF : F x = e) : va_up F b e2 x = e := by rw [va_up_ne _ _ h]; exact hF
theorem sc_u2_done {F : Nat → va_E} {b : Nat} {e e2 : va_E} (hF : F b = e) : va_up (va_up F b e2) b e = F := by
  funext i
  by_cases h2 : i = b
  · subst h2
    rw [va_up_self, hF]
  · rw [va_up_ne _ _ h2, va_up_ne _ _ h2]
def sc_gq (G : sw_G) (a d i : Nat) : Nat → Option Nat := fun k => if k < i then some (sw_B G + (a + d * k)) else none
theorem sc_gq_0 (G : sw_G) (a d : Nat) : sc_gq G a d 0 = fun _ => none := by funext k; simp [sc_gq]
theorem sc_gq_up (G : sw_G) (a d i : Nat) : va_up (sc_gq G a d i) i (some (sw_B G + (a + d * i))) = sc_gq G a d (i + 1) := by
  funext k
  by_cases h : k = i
  · subst h; simp [va_up, sc_gq]
  · by_cases h2 : k < i
    · have : k < i + 1 := by omega
      simp [va_up, sc_gq, h, h2, this]
    · have : ¬ k < i + 1 := by omega
      simp [va_up, sc_gq, h, h2, this]
theorem sc_gq_fix {G : sw_G} {a d i k r : Nat} (h : k < i) (hr : r = a + d * k) : sc_gq G a d i k = some (sw_B G + r) := by simp [sc_gq, h, hr]
theorem sx_4_0 {G : sw_G} {o : Nat} (h : sw_kd o = 4) : sc_E G o = .inr (4, [.int (0 : Int32), .int (0 : Int32), .int (10 : Int32), .int (0 : Int32), .int (0 : Int32), sw_vr G (o + 1), sw_vr G (o + 2), sw_vr G (o + 3), sw_vr G (o + 4), sw_vr G (o + 5), sw_vr G (o + 6), sw_vr G (o + 7), sw_vr G (o + 8), sw_vr G (o + 9)]) := by
  unfold sc_E
  rw [sw_wE_obj h (by decide)]
  have hc : sc_cd o = 1 := (show ∀ o, o < 128 → sw_kd o = 4 → sc_cd o = 1 by decide +kernel) o (sw_kd_lt (by rw [h]; decide)) h
  simp only [sw_fl, sw_fs, sc_S0, hc, Nat.reduceAdd, sw_rf_4_5 h, sw_rf_4_6 h, sw_rf_4_7 h, sw_rf_4_8 h, sw_rf_4_9 h, sw_rf_4_10 h, sw_rf_4_11 h, sw_rf_4_12 h, sw_rf_4_13 h]
  try rfl
theorem sx_4_1 {G : sw_G} {o : Nat} (h : sw_kd o = 4) : sc_E G (o + 1) = .inl (sw_cI G, 10, .inl (fun _ => 0)) := sc_ai (sw_kd_4_5 h) (sw_ln_4_5 h) ((show ∀ o, o < 128 → sw_kd o = 4 → sc_cd (o + 1) = 0 by decide +kernel) o (sw_kd_lt (by rw [h]; decide)) h)
theorem sx_4_2 {G : sw_G} {o : Nat} (h : sw_kd o = 4) : sc_E G (o + 2) = .inl (sw_cI G, 10, .inl (fun _ => 0)) := sc_ai (sw_kd_4_6 h) (sw_ln_4_6 h) ((show ∀ o, o < 128 → sw_kd o = 4 → sc_cd (o + 2) = 0 by decide +kernel) o (sw_kd_lt (by rw [h]; decide)) h)
theorem sx_4_3 {G : sw_G} {o : Nat} (h : sw_kd o = 4) : sc_E G (o + 3) = .inl (sw_cI G, 10, .inl (fun _ => 0)) := sc_ai (sw_kd_4_7 h) (sw_ln_4_7 h) ((show ∀ o, o < 128 → sw_kd o = 4 → sc_cd (o + 3) = 0 by decide +kernel) o (sw_kd_lt (by rw [h]; decide)) h)
theorem sx_4_4 {G : sw_G} {o : Nat} (h : sw_kd o = 4) : sc_E G (o + 4) = .inl (sw_cI G, 10, .inl (fun _ => 0)) := sc_ai (sw_kd_4_8 h) (sw_ln_4_8 h) ((show ∀ o, o < 128 → sw_kd o = 4 → sc_cd (o + 4) = 0 by decide +kernel) o (sw_kd_lt (by rw [h]; decide)) h)
theorem sx_4_5 {G : sw_G} {o : Nat} (h : sw_kd o = 4) : sc_E G (o + 5) = .inl (sw_cI G, 10, .inl (fun _ => 0)) := sc_ai (sw_kd_4_9 h) (sw_ln_4_9 h) ((show ∀ o, o < 128 → sw_kd o = 4 → sc_cd (o + 5) = 0 by decide +kernel) o (sw_kd_lt (by rw [h]; decide)) h)
theorem sx_4_6 {G : sw_G} {o : Nat} (h : sw_kd o = 4) : sc_E G (o + 6) = .inl (sw_cI G, 12, .inl (sc_gm 12)) := by
  unfold sc_E
  rw [sw_wE_int (sw_kd_4_10 h), sw_ln_4_10 h, sc_z2 ((show ∀ o, o < 128 → sw_kd o = 4 → sc_cd (o + 6) = 2 by decide +kernel) o (sw_kd_lt (by rw [h]; decide)) h)]
theorem sx_4_7 {G : sw_G} {o : Nat} (h : sw_kd o = 4) : sc_E G (o + 7) = .inl (sw_cI G, 10, .inl (fun _ => 0)) := sc_ai (sw_kd_4_11 h) (sw_ln_4_11 h) ((show ∀ o, o < 128 → sw_kd o = 4 → sc_cd (o + 7) = 0 by decide +kernel) o (sw_kd_lt (by rw [h]; decide)) h)
theorem sx_4_8 {G : sw_G} {o : Nat} (h : sw_kd o = 4) : sc_E G (o + 8) = .inl (sw_cI G, 10, .inl (fun _ => 0)) := sc_ai (sw_kd_4_12 h) (sw_ln_4_12 h) ((show ∀ o, o < 128 → sw_kd o = 4 → sc_cd (o + 8) = 0 by decide +kernel) o (sw_kd_lt (by rw [h]; decide)) h)
theorem sx_4_9 {G : sw_G} {o : Nat} (h : sw_kd o = 4) : sc_E G (o + 9) = .inl (sw_cI G, 12, .inl (fun _ => 0)) := sc_ai (sw_kd_4_13 h) (sw_ln_4_13 h) ((show ∀ o, o < 128 → sw_kd o = 4 → sc_cd (o + 9) = 0 by decide +kernel) o (sw_kd_lt (by rw [h]; decide)) h)
theorem sx_3_0 {G : sw_G} {o : Nat} (h : sw_kd o = 3) : sc_E G o = .inr (3, [.int (0 : Int32), .int (0 : Int32), sw_vr G (o + 1), sw_vr G (o + 2), sw_vr G (o + 3), sw_vr G (o + 4)]) := by
  unfold sc_E
  rw [sw_wE_obj h (by decide)]
  have hc : sc_cd o = 0 := (show ∀ o, o < 128 → sw_kd o = 3 → sc_cd o = 0 by decide +kernel) o (sw_kd_lt (by rw [h]; decide)) h
  simp only [sw_fl, sw_fs, sc_S0, hc, Nat.reduceAdd, sw_rf_3_2 h, sw_rf_3_3 h, sw_rf_3_4 h, sw_rf_3_5 h]
  try rfl
theorem sx_3_1 {G : sw_G} {o : Nat} (h : sw_kd o = 3) : sc_E G (o + 1) = .inl (sw_cI G, 128, .inl (fun _ => 0)) := sc_ai (sw_kd_3_2 h) (sw_ln_3_2 h) ((show ∀ o, o < 128 → sw_kd o = 3 → sc_cd (o + 1) = 0 by decide +kernel) o (sw_kd_lt (by rw [h]; decide)) h)
theorem sx_3_2 {G : sw_G} {o : Nat} (h : sw_kd o = 3) : sc_E G (o + 2) = .inl (sw_cI G, 128, .inl (fun _ => 0)) := sc_ai (sw_kd_3_3 h) (sw_ln_3_3 h) ((show ∀ o, o < 128 → sw_kd o = 3 → sc_cd (o + 2) = 0 by decide +kernel) o (sw_kd_lt (by rw [h]; decide)) h)
theorem sx_3_3 {G : sw_G} {o : Nat} (h : sw_kd o = 3) : sc_E G (o + 3) = .inl (sw_cI G, 128, .inl (fun _ => 0)) := sc_ai (sw_kd_3_4 h) (sw_ln_3_4 h) ((show ∀ o, o < 128 → sw_kd o = 3 → sc_cd (o + 3) = 0 by decide +kernel) o (sw_kd_lt (by rw [h]; decide)) h)
theorem sx_3_4 {G : sw_G} {o : Nat} (h : sw_kd o = 3) : sc_E G (o + 4) = .inl (sw_cI G, 6, .inl (fun _ => 0)) := sc_ai (sw_kd_3_5 h) (sw_ln_3_5 h) ((show ∀ o, o < 128 → sw_kd o = 3 → sc_cd (o + 4) = 0 by decide +kernel) o (sw_kd_lt (by rw [h]; decide)) h)
theorem sx_5_0 {G : sw_G} {o : Nat} (h : sw_kd o = 5) : sc_E G o = .inr (5, [.int (0 : Int32), .int (0 : Int32), .int (0 : Int32), sw_vr G (o + 1), .int (0 : Int32)]) := by
  unfold sc_E
  rw [sw_wE_obj h (by decide)]
  have hc : sc_cd o = 0 := (show ∀ o, o < 128 → sw_kd o = 5 → sc_cd o = 0 by decide +kernel) o (sw_kd_lt (by rw [h]; decide)) h
  simp only [sw_fl, sw_fs, sc_S0, hc, Nat.reduceAdd, sw_rf_5_3 h]
  try rfl
theorem sx_5_1 {G : sw_G} {o : Nat} (h : sw_kd o = 5) : sc_E G (o + 1) = .inl (sw_cJ G, 60, .inr (.inl (fun _ => 0))) := sc_aj (sw_kd_5_3 h) (sw_ln_5_3 h)
theorem sx_6_0 {G : sw_G} : sc_E G 16 = .inr (6, [.int (0 : Int32), sw_vr G 17, sw_vr G 22, .int (0 : Int32), .int (-1 : Int32)]) := by
  unfold sc_E
  rw [sw_wE_obj (c := 6) (by decide +kernel) (by decide)]
  rfl
theorem sx_7_0 {G : sw_G} : sc_E G 23 = .inr (7, [.int (0 : Int32), .int (0 : Int32), sw_vr G 24, .int (0 : Int32), .int (0 : Int32), .int (0 : Int32), .int (0 : Int32), sw_vr G 1, sw_vr G 11, sw_vr G 25, sw_vr G 26, sw_vr G 27, sw_vr G 28]) := by
  unfold sc_E
  rw [sw_wE_obj (c := 7) (by decide +kernel) (by decide)]
  rfl
theorem sx_1_0 {G : sw_G} : sc_E G 79 = .inr (1, [.int (0 : Int32), .int (0 : Int32), sw_vr G 80, sw_vr G 81, sw_vr G 82, sw_vr G 83]) := by
  unfold sc_E
  rw [sw_wE_obj (c := 1) (by decide +kernel) (by decide)]
  rfl
theorem sx_2_0 {G : sw_G} : sc_E G 84 = .inr (2, [.int (0 : Int32), sw_vr G 85, sw_vr G 86, sw_vr G 87, sw_vr G 88, .int (0 : Int32), .int (0 : Int32), .int (0 : Int32)]) := by
  unfold sc_E
  rw [sw_wE_obj (c := 2) (by decide +kernel) (by decide)]
  rfl
theorem sx_0_0 {G : sw_G} : sc_E G 89 = .inr (0, [.int (0 : Int32), .int (0 : Int32), sw_vr G 90, sw_vr G 91, .int (0 : Int32)]) := by
  unfold sc_E
  rw [sw_wE_obj (c := 0) (by decide +kernel) (by decide)]
  rfl
theorem sx_8_0 {G : sw_G} : sc_E G 0 = .inr (8, [sw_vr G 1, sw_vr G 11, sw_vr G 16, sw_vr G 23, sw_vr G 79, sw_vr G 84, sw_vr G 89, sw_vr G 92]) := by
  unfold sc_E
  rw [sw_wE_obj (c := 8) (by decide +kernel) (by decide)]
  rfl
theorem sx_9_0 {G : sw_G} : sc_E G 105 = .inr (9, [sw_vr G 106, sw_vr G 107, sw_vr G 108, sw_vr G 109, .int (0 : Int32), .int (0 : Int32), .int (0 : Int32), sw_vr G 110, .int (0 : Int32), sw_vr G 111, .int (-1 : Int32), .int (0 : Int32), .int (0 : Int32), .int (0 : Int32), .int (0 : Int32), .int (0 : Int32), sw_vr G 112, sw_vr G 113, sw_vr G 114, .int (0 : Int32), .int (0 : Int32), sw_vr G 115, sw_vr G 116, sw_vr G 117, sw_vr G 118, .int (0 : Int32), .int (0 : Int32), sw_vr G 119, .int (0 : Int32), .int (0 : Int32), sw_vr G 120, sw_vr G 121, .int (0 : Int32), sw_vr G 122, sw_vr G 123, .int (0 : Int32), .int (0 : Int32), .int (0 : Int32), sw_vr G 124, sw_vr G 125, sw_vr G 126, sw_vr G 127]) := by
  unfold sc_E
  rw [sw_wE_obj (c := 9) (by decide +kernel) (by decide)]
  rfl
theorem sx_7_b {G : sw_G} : sc_E G 25 = .inl (sw_cN G, 5, .inr (.inr (.inr (.inr (fun k => some (sw_B G + sw_rf 25 k)))))) := by
  unfold sc_E
  rw [sw_wE_ngt (by decide +kernel), show sw_ln 25 = 5 by decide +kernel]
theorem sx_8_b {G : sw_G} : sc_E G 92 = .inl (sw_cS G, 6, .inr (.inr (.inr (.inr (fun k => some (sw_B G + sw_rf 92 k)))))) := by
  unfold sc_E
  rw [sw_wE_shf (by decide +kernel), show sw_ln 92 = 6 by decide +kernel]
theorem sx_9_19 {G : sw_G} : sc_E G 124 = .inl (sw_cI G, 6, .inl (sc_gm 6)) := by
  unfold sc_E
  rw [sw_wE_int (by decide +kernel), show sw_ln 124 = 6 by decide +kernel, sc_z5 (by decide +kernel)]
theorem sx_9_1 {G : sw_G} : sc_E G 106 = .inl (sw_cI G, 53, .inl (upd (fun _ => 0) 51 10)) := by
  unfold sc_E
  rw [sw_wE_int (by decide +kernel), show sw_ln 106 = 53 by decide +kernel, sc_z6 (by decide +kernel)]
theorem sx_aI : Cond.arrayClass .int ∈ sw_wd := sw_wu1 (i := 85) (by decide +kernel) rfl
theorem sx_aJ : Cond.arrayClass .long ∈ sw_wd := sw_wu2 (i := 68) (by decide +kernel) rfl
theorem sx_c_RX6_13 : Cond.classLink RX6 13 RX3 ∈ sw_wd := sw_wu1 (i := 119) (by decide +kernel) rfl
theorem sx_c_RX7_34 : Cond.classLink RX7 34 RX4 ∈ sw_wd := sw_wu1 (i := 145) (by decide +kernel) rfl
theorem sx_c_RX8_16 : Cond.classLink RX8 16 RX3 ∈ sw_wd := sw_wu1 (i := 86) (by decide +kernel) rfl
theorem sx_c_RX8_23 : Cond.classLink RX8 23 RX6 ∈ sw_wd := sw_wu1 (i := 113) (by decide +kernel) rfl
theorem sx_c_RX8_30 : Cond.classLink RX8 30 RX7 ∈ sw_wd := sw_wu1 (i := 139) (by decide +kernel) rfl
theorem sx_c_RX8_39 : Cond.classLink RX8 39 RX1 ∈ sw_wd := sw_wu1 (i := 195) (by decide +kernel) rfl
theorem sx_c_RX8_46 : Cond.classLink RX8 46 RX2 ∈ sw_wd := sw_wu1 (i := 222) (by decide +kernel) rfl
theorem sx_c_RX8_53 : Cond.classLink RX8 53 RX0 ∈ sw_wd := sw_wu2 (i := 15) (by decide +kernel) rfl
theorem sx_c_RX8_60 : Cond.classLink RX8 60 RX5 ∈ sw_wd := sw_wu2 (i := 41) (by decide +kernel) rfl
theorem sx_c_RX8_7 : Cond.classLink RX8 7 RX4 ∈ sw_wd := sw_wu1 (i := 22) (by decide +kernel) rfl
theorem sx_f_RX0_13 : Cond.fieldLink RX0 13 RX0 "ran" "I" ∈ sw_wd := sw_wu2 (i := 23) (by decide +kernel) rfl
theorem sx_f_RX0_16 : Cond.fieldLink RX0 16 RX0 "kinds" "[I" ∈ sw_wd := sw_wu2 (i := 25) (by decide +kernel) rfl
theorem sx_f_RX0_20 : Cond.fieldLink RX0 20 RX0 "traced" "[I" ∈ sw_wd := sw_wu2 (i := 27) (by decide +kernel) rfl
theorem sx_f_RX0_23 : Cond.fieldLink RX0 23 RX0 "number" "I" ∈ sw_wd := sw_wu2 (i := 29) (by decide +kernel) rfl
theorem sx_f_RX0_7 : Cond.fieldLink RX0 7 RX0 "size" "I" ∈ sw_wd := sw_wu2 (i := 21) (by decide +kernel) rfl
theorem sx_f_RX1_15 : Cond.fieldLink RX1 15 RX1 "done" "I" ∈ sw_wd := sw_wu1 (i := 203) (by decide +kernel) rfl
theorem sx_f_RX1_18 : Cond.fieldLink RX1 18 RX1 "numbers" "[I" ∈ sw_wd := sw_wu1 (i := 205) (by decide +kernel) rfl
theorem sx_f_RX1_22 : Cond.fieldLink RX1 22 RX1 "whats" "[I" ∈ sw_wd := sw_wu1 (i := 206) (by decide +kernel) rfl
theorem sx_f_RX1_25 : Cond.fieldLink RX1 25 RX1 "before" "[I" ∈ sw_wd := sw_wu1 (i := 207) (by decide +kernel) rfl
theorem sx_f_RX1_28 : Cond.fieldLink RX1 28 RX1 "behind" "[I" ∈ sw_wd := sw_wu1 (i := 208) (by decide +kernel) rfl
theorem sx_f_RX1_9 : Cond.fieldLink RX1 9 RX1 "size" "I" ∈ sw_wd := sw_wu1 (i := 201) (by decide +kernel) rfl
theorem sx_f_RX2_15 : Cond.fieldLink RX2 15 RX2 "told" "[I" ∈ sw_wd := sw_wu1 (i := 230) (by decide +kernel) rfl
theorem sx_f_RX2_19 : Cond.fieldLink RX2 19 RX2 "toldThen" "[I" ∈ sw_wd := sw_wu1 (i := 232) (by decide +kernel) rfl
theorem sx_f_RX2_22 : Cond.fieldLink RX2 22 RX2 "mindThen" "[I" ∈ sw_wd := sw_wu1 (i := 233) (by decide +kernel) rfl
theorem sx_f_RX2_25 : Cond.fieldLink RX2 25 RX2 "heldThen" "[I" ∈ sw_wd := sw_wu1 (i := 234) (by decide +kernel) rfl
theorem sx_f_RX2_28 : Cond.fieldLink RX2 28 RX2 "swordsThen" "I" ∈ sw_wd := sw_wu1 (i := 235) (by decide +kernel) rfl
theorem sx_f_RX2_32 : Cond.fieldLink RX2 32 RX2 "hourThen" "I" ∈ sw_wd := sw_wu1 (i := 236) (by decide +kernel) rfl
theorem sx_f_RX2_35 : Cond.fieldLink RX2 35 RX2 "candleThen" "I" ∈ sw_wd := sw_wu1 (i := 237) (by decide +kernel) rfl
theorem sx_f_RX2_9 : Cond.fieldLink RX2 9 RX2 "hasImage" "Z" ∈ sw_wd := sw_wu1 (i := 228) (by decide +kernel) rfl
theorem sx_f_RX3_13 : Cond.fieldLink RX3 13 RX3 "size" "I" ∈ sw_wd := sw_wu1 (i := 93) (by decide +kernel) rfl
theorem sx_f_RX3_17 : Cond.fieldLink RX3 17 RX3 "ops" "[I" ∈ sw_wd := sw_wu1 (i := 95) (by decide +kernel) rfl
theorem sx_f_RX3_21 : Cond.fieldLink RX3 21 RX3 "args" "[I" ∈ sw_wd := sw_wu1 (i := 96) (by decide +kernel) rfl
theorem sx_f_RX3_24 : Cond.fieldLink RX3 24 RX3 "stack" "[I" ∈ sw_wd := sw_wu1 (i := 98) (by decide +kernel) rfl
theorem sx_f_RX3_27 : Cond.fieldLink RX3 27 RX3 "names" "[I" ∈ sw_wd := sw_wu1 (i := 99) (by decide +kernel) rfl
theorem sx_f_RX3_7 : Cond.fieldLink RX3 7 RX3 "isTold" "Z" ∈ sw_wd := sw_wu1 (i := 92) (by decide +kernel) rfl
theorem sx_f_RX4_15 : Cond.fieldLink RX4 15 RX4 "hourNow" "I" ∈ sw_wd := sw_wu1 (i := 31) (by decide +kernel) rfl
theorem sx_f_RX4_18 : Cond.fieldLink RX4 18 RX4 "sleeps" "I" ∈ sw_wd := sw_wu1 (i := 33) (by decide +kernel) rfl
theorem sx_f_RX4_21 : Cond.fieldLink RX4 21 RX4 "candle" "I" ∈ sw_wd := sw_wu1 (i := 34) (by decide +kernel) rfl
theorem sx_f_RX4_24 : Cond.fieldLink RX4 24 RX4 "wokenSwords" "I" ∈ sw_wd := sw_wu1 (i := 38) (by decide +kernel) rfl
theorem sx_f_RX4_27 : Cond.fieldLink RX4 27 RX4 "cot" "[I" ∈ sw_wd := sw_wu1 (i := 40) (by decide +kernel) rfl
theorem sx_f_RX4_31 : Cond.fieldLink RX4 31 RX4 "did" "[I" ∈ sw_wd := sw_wu1 (i := 41) (by decide +kernel) rfl
theorem sx_f_RX4_34 : Cond.fieldLink RX4 34 RX4 "years" "[I" ∈ sw_wd := sw_wu1 (i := 42) (by decide +kernel) rfl
theorem sx_f_RX4_37 : Cond.fieldLink RX4 37 RX4 "mind" "[I" ∈ sw_wd := sw_wu1 (i := 43) (by decide +kernel) rfl
theorem sx_f_RX4_40 : Cond.fieldLink RX4 40 RX4 "held" "[I" ∈ sw_wd := sw_wu1 (i := 47) (by decide +kernel) rfl
theorem sx_f_RX4_43 : Cond.fieldLink RX4 43 RX4 "inCot" "[I" ∈ sw_wd := sw_wu1 (i := 50) (by decide +kernel) rfl
theorem sx_f_RX4_46 : Cond.fieldLink RX4 46 RX4 "growthInDark" "[I" ∈ sw_wd := sw_wu1 (i := 53) (by decide +kernel) rfl
theorem sx_f_RX4_49 : Cond.fieldLink RX4 49 RX4 "growthInLight" "[I" ∈ sw_wd := sw_wu1 (i := 54) (by decide +kernel) rfl
theorem sx_f_RX4_52 : Cond.fieldLink RX4 52 RX4 "queue" "[I" ∈ sw_wd := sw_wu1 (i := 55) (by decide +kernel) rfl
theorem sx_f_RX4_9 : Cond.fieldLink RX4 9 RX4 "swords" "I" ∈ sw_wd := sw_wu1 (i := 28) (by decide +kernel) rfl
theorem sx_f_RX5_15 : Cond.fieldLink RX5 15 RX5 "sort" "I" ∈ sw_wd := sw_wu2 (i := 50) (by decide +kernel) rfl
theorem sx_f_RX5_18 : Cond.fieldLink RX5 18 RX5 "size" "I" ∈ sw_wd := sw_wu2 (i := 52) (by decide +kernel) rfl
theorem sx_f_RX5_21 : Cond.fieldLink RX5 21 RX5 "elements" "[J" ∈ sw_wd := sw_wu2 (i := 54) (by decide +kernel) rfl
theorem sx_f_RX5_25 : Cond.fieldLink RX5 25 RX5 "holds" "I" ∈ sw_wd := sw_wu2 (i := 56) (by decide +kernel) rfl
theorem sx_f_RX5_9 : Cond.fieldLink RX5 9 RX5 "kind" "I" ∈ sw_wd := sw_wu2 (i := 48) (by decide +kernel) rfl
theorem sx_f_RX6_16 : Cond.fieldLink RX6 16 RX6 "draft" "LSwordAttic$Law;" ∈ sw_wd := sw_wu1 (i := 123) (by decide +kernel) rfl
theorem sx_f_RX6_20 : Cond.fieldLink RX6 20 RX6 "bytes" "[I" ∈ sw_wd := sw_wu1 (i := 125) (by decide +kernel) rfl
theorem sx_f_RX6_24 : Cond.fieldLink RX6 24 RX6 "place" "I" ∈ sw_wd := sw_wu1 (i := 126) (by decide +kernel) rfl
theorem sx_f_RX6_27 : Cond.fieldLink RX6 27 RX6 "fault" "I" ∈ sw_wd := sw_wu1 (i := 127) (by decide +kernel) rfl
theorem sx_f_RX6_7 : Cond.fieldLink RX6 7 RX6 "size" "I" ∈ sw_wd := sw_wu1 (i := 121) (by decide +kernel) rfl
theorem sx_f_RX7_15 : Cond.fieldLink RX7 15 RX7 "leastMind" "I" ∈ sw_wd := sw_wu1 (i := 150) (by decide +kernel) rfl
theorem sx_f_RX7_18 : Cond.fieldLink RX7 18 RX7 "bestCots" "[I" ∈ sw_wd := sw_wu1 (i := 152) (by decide +kernel) rfl
theorem sx_f_RX7_22 : Cond.fieldLink RX7 22 RX7 "fitting" "I" ∈ sw_wd := sw_wu1 (i := 154) (by decide +kernel) rfl
theorem sx_f_RX7_25 : Cond.fieldLink RX7 25 RX7 "leastFitting" "I" ∈ sw_wd := sw_wu1 (i := 156) (by decide +kernel) rfl
theorem sx_f_RX7_28 : Cond.fieldLink RX7 28 RX7 "bestPair" "I" ∈ sw_wd := sw_wu1 (i := 158) (by decide +kernel) rfl
theorem sx_f_RX7_31 : Cond.fieldLink RX7 31 RX7 "auntsFirst" "I" ∈ sw_wd := sw_wu1 (i := 160) (by decide +kernel) rfl
theorem sx_f_RX7_36 : Cond.fieldLink RX7 36 RX7 "nights" "[LSwordAttic$Night;" ∈ sw_wd := sw_wu1 (i := 164) (by decide +kernel) rfl
theorem sx_f_RX7_40 : Cond.fieldLink RX7 40 RX7 "cots" "[I" ∈ sw_wd := sw_wu1 (i := 165) (by decide +kernel) rfl
theorem sx_f_RX7_43 : Cond.fieldLink RX7 43 RX7 "stops" "[I" ∈ sw_wd := sw_wu1 (i := 166) (by decide +kernel) rfl
theorem sx_f_RX7_46 : Cond.fieldLink RX7 46 RX7 "stepsTo" "[I" ∈ sw_wd := sw_wu1 (i := 167) (by decide +kernel) rfl
theorem sx_f_RX7_49 : Cond.fieldLink RX7 49 RX7 "now" "LSwordAttic$Night;" ∈ sw_wd := sw_wu1 (i := 162) (by decide +kernel) rfl
theorem sx_f_RX7_53 : Cond.fieldLink RX7 53 RX7 "law" "LSwordAttic$Law;" ∈ sw_wd := sw_wu1 (i := 163) (by decide +kernel) rfl
theorem sx_f_RX7_9 : Cond.fieldLink RX7 9 RX7 "fewestAwake" "I" ∈ sw_wd := sw_wu1 (i := 148) (by decide +kernel) rfl
theorem sx_f_RX8_10 : Cond.fieldLink RX8 10 RX8 "now" "LSwordAttic$Night;" ∈ sw_wd := sw_wu2 (i := 69) (by decide +kernel) rfl
theorem sx_f_RX8_19 : Cond.fieldLink RX8 19 RX8 "law" "LSwordAttic$Law;" ∈ sw_wd := sw_wu2 (i := 70) (by decide +kernel) rfl
theorem sx_f_RX8_26 : Cond.fieldLink RX8 26 RX8 "tape" "LSwordAttic$Tape;" ∈ sw_wd := sw_wu2 (i := 71) (by decide +kernel) rfl
theorem sx_f_RX8_35 : Cond.fieldLink RX8 35 RX8 "thought" "LSwordAttic$Thought;" ∈ sw_wd := sw_wu2 (i := 72) (by decide +kernel) rfl
theorem sx_f_RX8_42 : Cond.fieldLink RX8 42 RX8 "changes" "LSwordAttic$Changes;" ∈ sw_wd := sw_wu2 (i := 73) (by decide +kernel) rfl
theorem sx_f_RX8_49 : Cond.fieldLink RX8 49 RX8 "deeds" "LSwordAttic$Deeds;" ∈ sw_wd := sw_wu2 (i := 74) (by decide +kernel) rfl
theorem sx_f_RX8_56 : Cond.fieldLink RX8 56 RX8 "blades" "LSwordAttic$Blades;" ∈ sw_wd := sw_wu2 (i := 75) (by decide +kernel) rfl
theorem sx_f_RX8_62 : Cond.fieldLink RX8 62 RX8 "shelves" "[LSwordAttic$Shelf;" ∈ sw_wd := sw_wu2 (i := 76) (by decide +kernel) rfl
theorem sx_f_RX9_13 : Cond.fieldLink RX9 13 RX9 "changeAt" "[I" ∈ sw_wd := sw_wu5 (i := 23) (by decide +kernel) rfl
theorem sx_f_RX9_16 : Cond.fieldLink RX9 16 RX9 "changeWas" "[I" ∈ sw_wd := sw_wu5 (i := 24) (by decide +kernel) rfl
theorem sx_f_RX9_19 : Cond.fieldLink RX9 19 RX9 "changeIs" "[I" ∈ sw_wd := sw_wu5 (i := 25) (by decide +kernel) rfl
theorem sx_f_RX9_22 : Cond.fieldLink RX9 22 RX9 "tape" "[I" ∈ sw_wd := sw_wu5 (i := 29) (by decide +kernel) rfl
theorem sx_f_RX9_25 : Cond.fieldLink RX9 25 RX9 "text" "[I" ∈ sw_wd := sw_wu5 (i := 31) (by decide +kernel) rfl
theorem sx_f_RX9_28 : Cond.fieldLink RX9 28 RX9 "names" "[I" ∈ sw_wd := sw_wu5 (i := 38) (by decide +kernel) rfl
theorem sx_f_RX9_31 : Cond.fieldLink RX9 31 RX9 "lies" "[I" ∈ sw_wd := sw_wu5 (i := 39) (by decide +kernel) rfl
theorem sx_f_RX9_34 : Cond.fieldLink RX9 34 RX9 "mind" "[I" ∈ sw_wd := sw_wu5 (i := 40) (by decide +kernel) rfl
theorem sx_f_RX9_37 : Cond.fieldLink RX9 37 RX9 "more" "[I" ∈ sw_wd := sw_wu5 (i := 43) (by decide +kernel) rfl
theorem sx_f_RX9_40 : Cond.fieldLink RX9 40 RX9 "touches" "[I" ∈ sw_wd := sw_wu5 (i := 44) (by decide +kernel) rfl
theorem sx_f_RX9_43 : Cond.fieldLink RX9 43 RX9 "tried" "[I" ∈ sw_wd := sw_wu5 (i := 45) (by decide +kernel) rfl
theorem sx_f_RX9_46 : Cond.fieldLink RX9 46 RX9 "bestCots" "[I" ∈ sw_wd := sw_wu5 (i := 46) (by decide +kernel) rfl
theorem sx_f_RX9_49 : Cond.fieldLink RX9 49 RX9 "ledNow" "[I" ∈ sw_wd := sw_wu5 (i := 49) (by decide +kernel) rfl
theorem sx_f_RX9_52 : Cond.fieldLink RX9 52 RX9 "imageMay" "[I" ∈ sw_wd := sw_wu5 (i := 52) (by decide +kernel) rfl
theorem sx_f_RX9_55 : Cond.fieldLink RX9 55 RX9 "imageLed" "[I" ∈ sw_wd := sw_wu5 (i := 53) (by decide +kernel) rfl
theorem sx_f_RX9_58 : Cond.fieldLink RX9 58 RX9 "bodyKind" "[I" ∈ sw_wd := sw_wu5 (i := 55) (by decide +kernel) rfl
theorem sx_f_RX9_61 : Cond.fieldLink RX9 61 RX9 "trace" "[I" ∈ sw_wd := sw_wu5 (i := 56) (by decide +kernel) rfl
theorem sx_f_RX9_64 : Cond.fieldLink RX9 64 RX9 "shelf" "[I" ∈ sw_wd := sw_wu5 (i := 60) (by decide +kernel) rfl
theorem sx_f_RX9_67 : Cond.fieldLink RX9 67 RX9 "many" "[I" ∈ sw_wd := sw_wu5 (i := 61) (by decide +kernel) rfl
theorem sx_f_RX9_70 : Cond.fieldLink RX9 70 RX9 "items" "[J" ∈ sw_wd := sw_wu5 (i := 62) (by decide +kernel) rfl
theorem sx_f_RX9_74 : Cond.fieldLink RX9 74 RX9 "carried" "[J" ∈ sw_wd := sw_wu5 (i := 63) (by decide +kernel) rfl
theorem sx_f_RX9_77 : Cond.fieldLink RX9 77 RX9 "textMany" "I" ∈ sw_wd := sw_wu5 (i := 32) (by decide +kernel) rfl
theorem sx_f_RX9_9 : Cond.fieldLink RX9 9 RX9 "may" "[I" ∈ sw_wd := sw_wu5 (i := 22) (by decide +kernel) rfl
theorem sx_i_0 : Cond.instantiable RX0 5 ∈ sw_wd := sw_wu2 (i := 16) (by decide +kernel) rfl
theorem sx_i_1 : Cond.instantiable RX1 6 ∈ sw_wd := sw_wu1 (i := 196) (by decide +kernel) rfl
theorem sx_i_2 : Cond.instantiable RX2 8 ∈ sw_wd := sw_wu1 (i := 223) (by decide +kernel) rfl
theorem sx_i_3 : Cond.instantiable RX3 6 ∈ sw_wd := sw_wu1 (i := 87) (by decide +kernel) rfl
theorem sx_i_4 : Cond.instantiable RX4 14 ∈ sw_wd := sw_wu1 (i := 23) (by decide +kernel) rfl
theorem sx_i_5 : Cond.instantiable RX5 5 ∈ sw_wd := sw_wu2 (i := 43) (by decide +kernel) rfl
theorem sx_i_6 : Cond.instantiable RX6 5 ∈ sw_wd := sw_wu1 (i := 114) (by decide +kernel) rfl
theorem sx_i_7 : Cond.instantiable RX7 13 ∈ sw_wd := sw_wu1 (i := 140) (by decide +kernel) rfl
theorem sx_im_0 : Cond.instanceMethod yX0_init ∈ sw_wd := sw_wu2 (i := 18) (by decide +kernel) rfl
theorem sx_im_1 : Cond.instanceMethod yX1_init ∈ sw_wd := sw_wu1 (i := 198) (by decide +kernel) rfl
theorem sx_im_2 : Cond.instanceMethod yX2_init ∈ sw_wd := sw_wu1 (i := 225) (by decide +kernel) rfl
theorem sx_im_3 : Cond.instanceMethod yX3_init ∈ sw_wd := sw_wu1 (i := 89) (by decide +kernel) rfl
theorem sx_im_4 : Cond.instanceMethod yX4_init ∈ sw_wd := sw_wu1 (i := 25) (by decide +kernel) rfl
theorem sx_im_5 : Cond.instanceMethod yX5_init ∈ sw_wd := sw_wu2 (i := 45) (by decide +kernel) rfl
theorem sx_im_6 : Cond.instanceMethod yX6_init ∈ sw_wd := sw_wu1 (i := 116) (by decide +kernel) rfl
theorem sx_im_7 : Cond.instanceMethod yX7_init ∈ sw_wd := sw_wu1 (i := 142) (by decide +kernel) rfl
theorem sx_m_RX0_1 : Cond.methodLink RX0 1 objectInit ∈ sw_wd := sw_wu2 (i := 20) (by decide +kernel) rfl
theorem sx_m_RX1_3 : Cond.methodLink RX1 3 objectInit ∈ sw_wd := sw_wu1 (i := 200) (by decide +kernel) rfl
theorem sx_m_RX2_3 : Cond.methodLink RX2 3 objectInit ∈ sw_wd := sw_wu1 (i := 227) (by decide +kernel) rfl
theorem sx_m_RX3_1 : Cond.methodLink RX3 1 objectInit ∈ sw_wd := sw_wu1 (i := 91) (by decide +kernel) rfl
theorem sx_m_RX4_3 : Cond.methodLink RX4 3 objectInit ∈ sw_wd := sw_wu1 (i := 27) (by decide +kernel) rfl
theorem sx_m_RX5_3 : Cond.methodLink RX5 3 objectInit ∈ sw_wd := sw_wu2 (i := 47) (by decide +kernel) rfl
theorem sx_m_RX6_1 : Cond.methodLink RX6 1 objectInit ∈ sw_wd := sw_wu1 (i := 118) (by decide +kernel) rfl
theorem sx_m_RX7_3 : Cond.methodLink RX7 3 objectInit ∈ sw_wd := sw_wu1 (i := 144) (by decide +kernel) rfl
theorem sx_m_RX7_57 : Cond.methodLink RX7 57 yX4_init ∈ sw_wd := sw_wu1 (i := 147) (by decide +kernel) rfl
theorem sx_m_RX8_1 : Cond.methodLink RX8 1 objectInit ∈ sw_wd := sw_wu1 (i := 19) (by decide +kernel) rfl
theorem sx_m_RX8_32 : Cond.methodLink RX8 32 yX7_init ∈ sw_wd := sw_wu1 (i := 141) (by decide +kernel) rfl
theorem sx_m_RX8_9 : Cond.methodLink RX8 9 yX4_init ∈ sw_wd := sw_wu1 (i := 24) (by decide +kernel) rfl
theorem sx_m_RX9_3 : Cond.methodLink RX9 3 objectInit ∈ sw_wd := sw_wu5 (i := 21) (by decide +kernel) rfl
theorem sx_mw_0 : sw_mw yX0_init cX0_init 1 none 0 := ⟨sw_wu2 (i := 19) (by decide +kernel) rfl, sw_wu1 (i := 8) (by decide +kernel) rfl, by decide, by decide, by decide +kernel⟩
theorem sx_mw_1 : sw_mw yX1_init cX1_init 1 none 0 := ⟨sw_wu1 (i := 199) (by decide +kernel) rfl, sw_wu1 (i := 6) (by decide +kernel) rfl, by decide, by decide, by decide +kernel⟩
theorem sx_mw_2 : sw_mw yX2_init cX2_init 1 none 0 := ⟨sw_wu1 (i := 226) (by decide +kernel) rfl, sw_wu1 (i := 7) (by decide +kernel) rfl, by decide, by decide, by decide +kernel⟩
theorem sx_mw_3 : sw_mw yX3_init cX3_init 1 none 0 := ⟨sw_wu1 (i := 90) (by decide +kernel) rfl, sw_wu1 (i := 3) (by decide +kernel) rfl, by decide, by decide, by decide +kernel⟩
theorem sx_mw_4 : sw_mw yX4_init cX4_init 2 none 0 := ⟨sw_wu1 (i := 26) (by decide +kernel) rfl, sw_wu1 (i := 2) (by decide +kernel) rfl, by decide, by decide, by decide +kernel⟩
theorem sx_mw_5 : sw_mw yX5_init cX5_init 1 none 0 := ⟨sw_wu2 (i := 46) (by decide +kernel) rfl, sw_wu1 (i := 9) (by decide +kernel) rfl, by decide, by decide, by decide +kernel⟩
theorem sx_mw_6 : sw_mw yX6_init cX6_init 1 none 0 := ⟨sw_wu1 (i := 117) (by decide +kernel) rfl, sw_wu1 (i := 4) (by decide +kernel) rfl, by decide, by decide, by decide +kernel⟩
theorem sx_mw_7 : sw_mw yX7_init cX7_init 4 none 2 := ⟨sw_wu1 (i := 143) (by decide +kernel) rfl, sw_wu1 (i := 5) (by decide +kernel) rfl, by decide, by decide, by decide +kernel⟩
theorem sx_z_0 : Cond.initialized RX0 ∈ sw_wd := sw_wu1 (i := 8) (by decide +kernel) rfl
theorem sx_z_1 : Cond.initialized RX1 ∈ sw_wd := sw_wu1 (i := 6) (by decide +kernel) rfl
theorem sx_z_2 : Cond.initialized RX2 ∈ sw_wd := sw_wu1 (i := 7) (by decide +kernel) rfl
theorem sx_z_3 : Cond.initialized RX3 ∈ sw_wd := sw_wu1 (i := 3) (by decide +kernel) rfl
theorem sx_z_4 : Cond.initialized RX4 ∈ sw_wd := sw_wu1 (i := 2) (by decide +kernel) rfl
theorem sx_z_5 : Cond.initialized RX5 ∈ sw_wd := sw_wu1 (i := 9) (by decide +kernel) rfl
theorem sx_z_6 : Cond.initialized RX6 ∈ sw_wd := sw_wu1 (i := 4) (by decide +kernel) rfl
theorem sx_z_7 : Cond.initialized RX7 ∈ sw_wd := sw_wu1 (i := 5) (by decide +kernel) rfl
theorem sx_ow : sc_ow := ⟨sw_wu1 (i := 20) (by decide +kernel) rfl, sw_wu1 (i := 21) (by decide +kernel) rfl⟩
