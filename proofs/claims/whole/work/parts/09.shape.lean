/-! the cells of the two objects, in the order in which their constructors make them -/
def sw_kdL : List Nat := [8, 4, 10, 10, 10, 10, 10, 10, 10, 10, 10, 3, 10, 10, 10, 10, 6, 3, 10, 10, 10, 10, 10, 7, 10, 12, 10, 10, 10, 4, 10, 10, 10, 10, 10, 10, 10, 10, 10, 4, 10, 10, 10, 10, 10, 10, 10, 10, 10, 4, 10, 10, 10, 10, 10, 10, 10, 10, 10, 4, 10, 10, 10, 10, 10, 10, 10, 10, 10, 4, 10, 10, 10, 10, 10, 10, 10, 10, 10, 1, 10, 10, 10, 10, 2, 10, 10, 10, 10, 0, 10, 10, 13, 5, 11, 5, 11, 5, 11, 5, 11, 5, 11, 5, 11, 9, 10, 10, 10, 10, 10, 10, 10, 10, 10, 10, 10, 10, 10, 10, 10, 10, 10, 10, 10, 10, 11, 11]
def sw_lnL : List Nat := [0, 0, 10, 10, 10, 10, 10, 12, 10, 10, 12, 0, 128, 128, 128, 6, 0, 0, 128, 128, 128, 6, 120, 0, 3, 5, 3, 6, 384, 0, 10, 10, 10, 10, 10, 12, 10, 10, 12, 0, 10, 10, 10, 10, 10, 12, 10, 10, 12, 0, 10, 10, 10, 10, 10, 12, 10, 10, 12, 0, 10, 10, 10, 10, 10, 12, 10, 10, 12, 0, 10, 10, 10, 10, 10, 12, 10, 10, 12, 0, 40, 40, 40, 40, 0, 5, 5, 10, 10, 0, 50, 24, 6, 0, 60, 0, 60, 0, 60, 0, 60, 0, 60, 0, 60, 0, 53, 40, 40, 40, 120, 120, 6, 12, 10, 12, 12, 4, 3, 5, 53, 5, 50, 24, 6, 6, 360, 60]
def sw_rfL : List (List Nat) := [[1, 11, 16, 23, 79, 84, 89, 92], [0, 0, 0, 0, 0, 2, 3, 4, 5, 6, 7, 8, 9, 10], [], [], [], [], [], [], [], [], [], [0, 0, 12, 13, 14, 15], [], [], [], [], [0, 17, 22, 0, 0], [0, 0, 18, 19, 20, 21], [], [], [], [], [], [0, 0, 24, 0, 0, 0, 0, 1, 11, 25, 26, 27, 28], [], [29, 39, 49, 59, 69], [], [], [], [0, 0, 0, 0, 0, 30, 31, 32, 33, 34, 35, 36, 37, 38], [], [], [], [], [], [], [], [], [], [0, 0, 0, 0, 0, 40, 41, 42, 43, 44, 45, 46, 47, 48], [], [], [], [], [], [], [], [], [], [0, 0, 0, 0, 0, 50, 51, 52, 53, 54, 55, 56, 57, 58], [], [], [], [], [], [], [], [], [], [0, 0, 0, 0, 0, 60, 61, 62, 63, 64, 65, 66, 67, 68], [], [], [], [], [], [], [], [], [], [0, 0, 0, 0, 0, 70, 71, 72, 73, 74, 75, 76, 77, 78], [], [], [], [], [], [], [], [], [], [0, 0, 80, 81, 82, 83], [], [], [], [], [0, 85, 86, 87, 88, 0, 0, 0], [], [], [], [], [0, 0, 90, 91, 0], [], [], [93, 95, 97, 99, 101, 103], [0, 0, 0, 94, 0], [], [0, 0, 0, 96, 0], [], [0, 0, 0, 98, 0], [], [0, 0, 0, 100, 0], [], [0, 0, 0, 102, 0], [], [0, 0, 0, 104, 0], [], [106, 107, 108, 109, 0, 0, 0, 110, 0, 111, 0, 0, 0, 0, 0, 0, 112, 113, 114, 0, 0, 115, 116, 117, 118, 0, 0, 119, 0, 0, 120, 121, 0, 122, 123, 0, 0, 0, 124, 125, 126, 127], [], [], [], [], [], [], [], [], [], [], [], [], [], [], [], [], [], [], [], [], [], []]
def sw_kd (i : Nat) : Nat := sw_kdL.getD i 99
def sw_ln (i : Nat) : Nat := sw_lnL.getD i 0
def sw_rf (i k : Nat) : Nat := (sw_rfL.getD i []).getD k 0
def sw_fl (c : Nat) : List Bool := match c with
  | 0 => [false, false, true, true, false]
  | 1 => [false, false, true, true, true, true]
  | 2 => [false, true, true, true, true, false, false, false]
  | 3 => [false, false, true, true, true, true]
  | 4 => [false, false, false, false, false, true, true, true, true, true, true, true, true, true]
  | 5 => [false, false, false, true, false]
  | 6 => [false, true, true, false, false]
  | 7 => [false, false, true, false, false, false, false, true, true, true, true, true, true]
  | 8 => [true, true, true, true, true, true, true, true]
  | _ => [true, true, true, true, false, false, false, true, false, true, false, false, false, false, false, false, true, true, true, false, false, true, true, true, true, false, false, true, false, false, true, true, false, true, true, false, false, false, true, true, true, true]
abbrev sw_cl : List vw_C := [(RX0, TX0, 5), (RX1, TX1, 6), (RX2, TX2, 8), (RX3, TX3, 6), (RX4, TX4, 14), (RX5, TX5, 5), (RX6, TX6, 5), (RX7, TX7, 13), (RX8, TX8, 8), (RX9, TX9, 42)]
theorem sw_kd_lt {i : Nat} (h : sw_kd i ≠ 99) : i < 128 := by
  refine Nat.not_le.mp fun q => h ?_
  simp [sw_kd, List.getD_eq_getElem?_getD, List.getElem?_eq_none (show sw_kdL.length ≤ i from q)]
theorem sw_rf_4_5 {o : Nat} (h : sw_kd o = 4) : sw_rf o 5 = o + 1 := by
  have h1 := sw_kd_lt (i := o) (by rw [h]; decide)
  exact (show ∀ o, o < 128 → sw_kd o = 4 → sw_rf o 5 = o + 1 by decide +kernel) o h1 h
theorem sw_kd_4_5 {o : Nat} (h : sw_kd o = 4) : sw_kd (o + 1) = 10 := by
  have h1 := sw_kd_lt (i := o) (by rw [h]; decide)
  exact (show ∀ o, o < 128 → sw_kd o = 4 → sw_kd (o + 1) = 10 by decide +kernel) o h1 h
theorem sw_ln_4_5 {o : Nat} (h : sw_kd o = 4) : sw_ln (o + 1) = 10 := by
  have h1 := sw_kd_lt (i := o) (by rw [h]; decide)
  exact (show ∀ o, o < 128 → sw_kd o = 4 → sw_ln (o + 1) = 10 by decide +kernel) o h1 h
theorem sw_rf_4_6 {o : Nat} (h : sw_kd o = 4) : sw_rf o 6 = o + 2 := by
  have h1 := sw_kd_lt (i := o) (by rw [h]; decide)
  exact (show ∀ o, o < 128 → sw_kd o = 4 → sw_rf o 6 = o + 2 by decide +kernel) o h1 h
theorem sw_kd_4_6 {o : Nat} (h : sw_kd o = 4) : sw_kd (o + 2) = 10 := by
  have h1 := sw_kd_lt (i := o) (by rw [h]; decide)
  exact (show ∀ o, o < 128 → sw_kd o = 4 → sw_kd (o + 2) = 10 by decide +kernel) o h1 h
theorem sw_ln_4_6 {o : Nat} (h : sw_kd o = 4) : sw_ln (o + 2) = 10 := by
  have h1 := sw_kd_lt (i := o) (by rw [h]; decide)
  exact (show ∀ o, o < 128 → sw_kd o = 4 → sw_ln (o + 2) = 10 by decide +kernel) o h1 h
theorem sw_rf_4_7 {o : Nat} (h : sw_kd o = 4) : sw_rf o 7 = o + 3 := by
  have h1 := sw_kd_lt (i := o) (by rw [h]; decide)
  exact (show ∀ o, o < 128 → sw_kd o = 4 → sw_rf o 7 = o + 3 by decide +kernel) o h1 h
theorem sw_kd_4_7 {o : Nat} (h : sw_kd o = 4) : sw_kd (o + 3) = 10 := by
  have h1 := sw_kd_lt (i := o) (by rw [h]; decide)
  exact (show ∀ o, o < 128 → sw_kd o = 4 → sw_kd (o + 3) = 10 by decide +kernel) o h1 h
theorem sw_ln_4_7 {o : Nat} (h : sw_kd o = 4) : sw_ln (o + 3) = 10 := by
  have h1 := sw_kd_lt (i := o) (by rw [h]; decide)
  exact (show ∀ o, o < 128 → sw_kd o = 4 → sw_ln (o + 3) = 10 by decide +kernel) o h1 h
theorem sw_rf_4_8 {o : Nat} (h : sw_kd o = 4) : sw_rf o 8 = o + 4 := by
  have h1 := sw_kd_lt (i := o) (by rw [h]; decide)
  exact (show ∀ o, o < 128 → sw_kd o = 4 → sw_rf o 8 = o + 4 by decide +kernel) o h1 h
theorem sw_kd_4_8 {o : Nat} (h : sw_kd o = 4) : sw_kd (o + 4) = 10 := by
  have h1 := sw_kd_lt (i := o) (by rw [h]; decide)
  exact (show ∀ o, o < 128 → sw_kd o = 4 → sw_kd (o + 4) = 10 by decide +kernel) o h1 h
theorem sw_ln_4_8 {o : Nat} (h : sw_kd o = 4) : sw_ln (o + 4) = 10 := by
  have h1 := sw_kd_lt (i := o) (by rw [h]; decide)
  exact (show ∀ o, o < 128 → sw_kd o = 4 → sw_ln (o + 4) = 10 by decide +kernel) o h1 h
theorem sw_rf_4_9 {o : Nat} (h : sw_kd o = 4) : sw_rf o 9 = o + 5 := by
  have h1 := sw_kd_lt (i := o) (by rw [h]; decide)
  exact (show ∀ o, o < 128 → sw_kd o = 4 → sw_rf o 9 = o + 5 by decide +kernel) o h1 h
theorem sw_kd_4_9 {o : Nat} (h : sw_kd o = 4) : sw_kd (o + 5) = 10 := by
  have h1 := sw_kd_lt (i := o) (by rw [h]; decide)
  exact (show ∀ o, o < 128 → sw_kd o = 4 → sw_kd (o + 5) = 10 by decide +kernel) o h1 h
theorem sw_ln_4_9 {o : Nat} (h : sw_kd o = 4) : sw_ln (o + 5) = 10 := by
  have h1 := sw_kd_lt (i := o) (by rw [h]; decide)
  exact (show ∀ o, o < 128 → sw_kd o = 4 → sw_ln (o + 5) = 10 by decide +kernel) o h1 h
theorem sw_rf_4_10 {o : Nat} (h : sw_kd o = 4) : sw_rf o 10 = o + 6 := by
  have h1 := sw_kd_lt (i := o) (by rw [h]; decide)
  exact (show ∀ o, o < 128 → sw_kd o = 4 → sw_rf o 10 = o + 6 by decide +kernel) o h1 h
theorem sw_kd_4_10 {o : Nat} (h : sw_kd o = 4) : sw_kd (o + 6) = 10 := by
  have h1 := sw_kd_lt (i := o) (by rw [h]; decide)
  exact (show ∀ o, o < 128 → sw_kd o = 4 → sw_kd (o + 6) = 10 by decide +kernel) o h1 h
theorem sw_ln_4_10 {o : Nat} (h : sw_kd o = 4) : sw_ln (o + 6) = 12 := by
  have h1 := sw_kd_lt (i := o) (by rw [h]; decide)
  exact (show ∀ o, o < 128 → sw_kd o = 4 → sw_ln (o + 6) = 12 by decide +kernel) o h1 h
theorem sw_rf_4_11 {o : Nat} (h : sw_kd o = 4) : sw_rf o 11 = o + 7 := by
  have h1 := sw_kd_lt (i := o) (by rw [h]; decide)
  exact (show ∀ o, o < 128 → sw_kd o = 4 → sw_rf o 11 = o + 7 by decide +kernel) o h1 h
theorem sw_kd_4_11 {o : Nat} (h : sw_kd o = 4) : sw_kd (o + 7) = 10 := by
  have h1 := sw_kd_lt (i := o) (by rw [h]; decide)
  exact (show ∀ o, o < 128 → sw_kd o = 4 → sw_kd (o + 7) = 10 by decide +kernel) o h1 h
theorem sw_ln_4_11 {o : Nat} (h : sw_kd o = 4) : sw_ln (o + 7) = 10 := by
  have h1 := sw_kd_lt (i := o) (by rw [h]; decide)
  exact (show ∀ o, o < 128 → sw_kd o = 4 → sw_ln (o + 7) = 10 by decide +kernel) o h1 h
theorem sw_rf_4_12 {o : Nat} (h : sw_kd o = 4) : sw_rf o 12 = o + 8 := by
  have h1 := sw_kd_lt (i := o) (by rw [h]; decide)
  exact (show ∀ o, o < 128 → sw_kd o = 4 → sw_rf o 12 = o + 8 by decide +kernel) o h1 h
theorem sw_kd_4_12 {o : Nat} (h : sw_kd o = 4) : sw_kd (o + 8) = 10 := by
  have h1 := sw_kd_lt (i := o) (by rw [h]; decide)
  exact (show ∀ o, o < 128 → sw_kd o = 4 → sw_kd (o + 8) = 10 by decide +kernel) o h1 h
theorem sw_ln_4_12 {o : Nat} (h : sw_kd o = 4) : sw_ln (o + 8) = 10 := by
  have h1 := sw_kd_lt (i := o) (by rw [h]; decide)
  exact (show ∀ o, o < 128 → sw_kd o = 4 → sw_ln (o + 8) = 10 by decide +kernel) o h1 h
theorem sw_rf_4_13 {o : Nat} (h : sw_kd o = 4) : sw_rf o 13 = o + 9 := by
  have h1 := sw_kd_lt (i := o) (by rw [h]; decide)
  exact (show ∀ o, o < 128 → sw_kd o = 4 → sw_rf o 13 = o + 9 by decide +kernel) o h1 h
theorem sw_kd_4_13 {o : Nat} (h : sw_kd o = 4) : sw_kd (o + 9) = 10 := by
  have h1 := sw_kd_lt (i := o) (by rw [h]; decide)
  exact (show ∀ o, o < 128 → sw_kd o = 4 → sw_kd (o + 9) = 10 by decide +kernel) o h1 h
theorem sw_ln_4_13 {o : Nat} (h : sw_kd o = 4) : sw_ln (o + 9) = 12 := by
  have h1 := sw_kd_lt (i := o) (by rw [h]; decide)
  exact (show ∀ o, o < 128 → sw_kd o = 4 → sw_ln (o + 9) = 12 by decide +kernel) o h1 h
theorem sw_rf_3_2 {o : Nat} (h : sw_kd o = 3) : sw_rf o 2 = o + 1 := by
  have h1 := sw_kd_lt (i := o) (by rw [h]; decide)
  exact (show ∀ o, o < 128 → sw_kd o = 3 → sw_rf o 2 = o + 1 by decide +kernel) o h1 h
theorem sw_kd_3_2 {o : Nat} (h : sw_kd o = 3) : sw_kd (o + 1) = 10 := by
  have h1 := sw_kd_lt (i := o) (by rw [h]; decide)
  exact (show ∀ o, o < 128 → sw_kd o = 3 → sw_kd (o + 1) = 10 by decide +kernel) o h1 h
theorem sw_ln_3_2 {o : Nat} (h : sw_kd o = 3) : sw_ln (o + 1) = 128 := by
  have h1 := sw_kd_lt (i := o) (by rw [h]; decide)
  exact (show ∀ o, o < 128 → sw_kd o = 3 → sw_ln (o + 1) = 128 by decide +kernel) o h1 h
theorem sw_rf_3_3 {o : Nat} (h : sw_kd o = 3) : sw_rf o 3 = o + 2 := by
  have h1 := sw_kd_lt (i := o) (by rw [h]; decide)
  exact (show ∀ o, o < 128 → sw_kd o = 3 → sw_rf o 3 = o + 2 by decide +kernel) o h1 h
theorem sw_kd_3_3 {o : Nat} (h : sw_kd o = 3) : sw_kd (o + 2) = 10 := by
  have h1 := sw_kd_lt (i := o) (by rw [h]; decide)
  exact (show ∀ o, o < 128 → sw_kd o = 3 → sw_kd (o + 2) = 10 by decide +kernel) o h1 h
theorem sw_ln_3_3 {o : Nat} (h : sw_kd o = 3) : sw_ln (o + 2) = 128 := by
  have h1 := sw_kd_lt (i := o) (by rw [h]; decide)
  exact (show ∀ o, o < 128 → sw_kd o = 3 → sw_ln (o + 2) = 128 by decide +kernel) o h1 h
theorem sw_rf_3_4 {o : Nat} (h : sw_kd o = 3) : sw_rf o 4 = o + 3 := by
  have h1 := sw_kd_lt (i := o) (by rw [h]; decide)
  exact (show ∀ o, o < 128 → sw_kd o = 3 → sw_rf o 4 = o + 3 by decide +kernel) o h1 h
theorem sw_kd_3_4 {o : Nat} (h : sw_kd o = 3) : sw_kd (o + 3) = 10 := by
  have h1 := sw_kd_lt (i := o) (by rw [h]; decide)
  exact (show ∀ o, o < 128 → sw_kd o = 3 → sw_kd (o + 3) = 10 by decide +kernel) o h1 h
theorem sw_ln_3_4 {o : Nat} (h : sw_kd o = 3) : sw_ln (o + 3) = 128 := by
  have h1 := sw_kd_lt (i := o) (by rw [h]; decide)
  exact (show ∀ o, o < 128 → sw_kd o = 3 → sw_ln (o + 3) = 128 by decide +kernel) o h1 h
theorem sw_rf_3_5 {o : Nat} (h : sw_kd o = 3) : sw_rf o 5 = o + 4 := by
  have h1 := sw_kd_lt (i := o) (by rw [h]; decide)
  exact (show ∀ o, o < 128 → sw_kd o = 3 → sw_rf o 5 = o + 4 by decide +kernel) o h1 h
theorem sw_kd_3_5 {o : Nat} (h : sw_kd o = 3) : sw_kd (o + 4) = 10 := by
  have h1 := sw_kd_lt (i := o) (by rw [h]; decide)
  exact (show ∀ o, o < 128 → sw_kd o = 3 → sw_kd (o + 4) = 10 by decide +kernel) o h1 h
theorem sw_ln_3_5 {o : Nat} (h : sw_kd o = 3) : sw_ln (o + 4) = 6 := by
  have h1 := sw_kd_lt (i := o) (by rw [h]; decide)
  exact (show ∀ o, o < 128 → sw_kd o = 3 → sw_ln (o + 4) = 6 by decide +kernel) o h1 h
theorem sw_rf_5_3 {o : Nat} (h : sw_kd o = 5) : sw_rf o 3 = o + 1 := by
  have h1 := sw_kd_lt (i := o) (by rw [h]; decide)
  exact (show ∀ o, o < 128 → sw_kd o = 5 → sw_rf o 3 = o + 1 by decide +kernel) o h1 h
theorem sw_kd_5_3 {o : Nat} (h : sw_kd o = 5) : sw_kd (o + 1) = 11 := by
  have h1 := sw_kd_lt (i := o) (by rw [h]; decide)
  exact (show ∀ o, o < 128 → sw_kd o = 5 → sw_kd (o + 1) = 11 by decide +kernel) o h1 h
theorem sw_ln_5_3 {o : Nat} (h : sw_kd o = 5) : sw_ln (o + 1) = 60 := by
  have h1 := sw_kd_lt (i := o) (by rw [h]; decide)
  exact (show ∀ o, o < 128 → sw_kd o = 5 → sw_ln (o + 1) = 60 by decide +kernel) o h1 h
theorem sw_rf_25 : ∀ j, j < 5 → sw_rf 25 j = 29 + 10 * j := by decide +kernel
theorem sw_rf_92 : ∀ j, j < 6 → sw_rf 92 j = 93 + 2 * j := by decide +kernel
theorem sw_kd_25 : ∀ j, j < 5 → sw_kd (29 + 10 * j) = 4 := by decide +kernel
theorem sw_kd_92 : ∀ j, j < 6 → sw_kd (93 + 2 * j) = 5 := by decide +kernel
