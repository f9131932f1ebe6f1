/-! what runs in the class -/
theorem sv_ok1 {k : Nat} : sv_fc [k] = sv_rc k := rfl
theorem fc_1 (N n : Nat) (x p : Int32) {S : sw_St} {K b r : Nat} (h : sv_hc S K b r) (hr : r < 1000) : fG_1 N (n + 1) 3 (nI 1) x p 0 S = some (x + nI b, sv_fc [1] S) := by
  rw [fc_run N n 1 x p h hr]
  show some (x + (sv_rc 1 S).1 89 4, sv_rc 1 S) = _
  rw [(sv_rc_e 1 S).1, h.2.1]
  rfl
theorem fc_11 (N n : Nat) (x p : Int32) {S : sw_St} {K b r : Nat} (h : sv_hc S K b r) (hr : r < 1000) : fG_1 N (n + 1) 3 (nI 11) x p 0 S = some (x ^^^ nI b, sv_fc [11] S) := by
  rw [fc_run N n 11 x p h hr]
  show some (x ^^^ (sv_rc 11 S).1 89 4, sv_rc 11 S) = _
  rw [(sv_rc_e 11 S).1, h.2.1]
  rfl
theorem fc_w0 (m n : Nat) (x : Int32) {dd : Nat} (hd : dd < 40) {S : sw_St} {K b r : Nat} (h : sv_hc S K b r) (hr : r < 1000) : fG_1 (m + 9) (n + 2) 2 (nI 0) (nI 0) x (nI dd) S = some (x + nI b, sv_fc [1] S) := by
  rw [fc_from m (n + 1) (k := 0) (a := 0) (by decide) (by decide) x hd]
  exact fc_1 _ n x _ h hr
theorem fc_w (m n : Nat) (x : Int32) {dd : Nat} (hd : dd < 38) {S : sw_St} {K b r k : Nat} (hk : k < 8) (h : sv_hc S K b r) (hr : r < 900) : fG_1 (m + 9) (n + 6) 2 (nI k) (nI 0) x (nI dd) S = some ((sv_wA k (nI b) x).1, sv_fc (sv_wA k (nI b) x).2 S) := by
  rw [fc_from m (n + 5) (k := k) (a := 0) hk (by decide) x (by omega)]
  have k20 : fG_1 (m + 9) (n + 5) 3 (nI 20) x (nI (dd + 1)) 0 S = some ((x + nI b) + 3, sv_fc [20, 1] S) := by
    rw [fc_run _ (n + 4) 20 x _ h (by omega)]
    show sw_bd (fG_1 (m + 9) (n + 4) 1 (nI 1) 0 x (nI (dd + 1)) (sv_rc 20 S)) (fun r4 S6 => some (r4 + (3 : Int32), S6)) = _
    rw [fc_above _ (n + 3) (by decide)]
    show sw_bd (fG_1 (m + 9) ((n + 1) + 2) 2 (nI 0) (nI 0) x (nI (dd + 1)) (sv_rc 20 S)) (fun r4 S6 => some (r4 + (3 : Int32), S6)) = _
    rw [fc_w0 m (n + 1) x (by omega) (sv_hc_s h 20) (by omega)]
    rfl
  have k70 : fG_1 (m + 9) (n + 5) 3 (nI 70) x (nI (dd + 1)) 0 S = some ((x + nI b) * 2, sv_fc [70, 1] S) := by
    rw [fc_run _ (n + 4) 70 x _ h (by omega)]
    show sw_bd (fG_1 (m + 9) (n + 4) 1 (nI 6) 0 x (nI (dd + 1)) (sv_rc 70 S)) (fun r4 S6 => some (r4 * (2 : Int32), S6)) = _
    rw [fc_above _ (n + 3) (by decide)]
    show sw_bd (fG_1 (m + 9) ((n + 1) + 2) 2 (nI 0) (nI 0) x (nI (dd + 1)) (sv_rc 70 S)) (fun r4 S6 => some (r4 * (2 : Int32), S6)) = _
    rw [fc_w0 m (n + 1) x (by omega) (sv_hc_s h 70) (by omega)]
    rfl
  have k1 := fc_1 (m + 9) (n + 4) x (nI (dd + 1)) h (by omega)
  rcases sv_lt8 hk with rfl | rfl | rfl | rfl | rfl | rfl | rfl | rfl
  · exact k1
  · exact k20
  · exact k1
  · exact k1
  · exact k20
  · exact k1
  · exact k70
  · exact k20
theorem fc_ow (m n : Nat) (x : Int32) {dd : Nat} (hd : dd < 38) {S : sw_St} {K b r : Nat} (hk : K < 8) (h : sv_hc S K b r) (hr : r < 900) (q : Int32) : fG_1 (m + 9) (n + 7) 0 (nI 0) x (nI dd) q S = some ((sv_wA K (nI b) x).1, sv_fc (sv_wA K (nI b) x).2 S) := by
  rw [fc_own _ (n + 6) _ _ _ _ h]
  exact fc_w m n x hd hk h hr
theorem sv_wA_len (k : Nat) (b x : Int32) : (sv_wA k b x).2.length ≤ 2 := by
  unfold sv_wA
  split
  · exact Nat.le_refl 2
  · split
    · exact Nat.le_refl 2
    · exact (by decide : 1 ≤ 2)
theorem fc_c1 (m n : Nat) (x : Int32) {dd k : Nat} (hk : k = 1 ∨ k = 2) (hd : dd < 40) {S : sw_St} {K b r : Nat} (h : sv_hc S K b r) (hr : r < 1000) : fG_1 (m + 9) (n + 2) 2 (nI k) (nI 2) x (nI dd) S = some (x ^^^ nI b, sv_fc [11] S) := by
  rw [fc_from m (n + 1) (k := k) (a := 2) (by omega) (by decide) x hd]
  rcases hk with rfl | rfl
  · exact fc_11 _ n x _ h hr
  · exact fc_11 _ n x _ h hr
theorem fc_c (m n : Nat) (x : Int32) {dd : Nat} (hd : dd < 34) {S : sw_St} {K b r k : Nat} (hK : K < 8) (hk : k < 8) (h : sv_hc S K b r) (hr : r < 800) : fG_1 (m + 9) (n + 9) 2 (nI k) (nI 2) x (nI dd) S = some ((sv_cA K k (nI b) x).1, sv_fc (sv_cA K k (nI b) x).2 S) := by
  rw [fc_from m (n + 8) (k := k) (a := 2) hk (by decide) x (by omega)]
  have k11 := fc_11 (m + 9) (n + 7) x (nI (dd + 1)) h (by omega)
  have k40 : fG_1 (m + 9) (n + 8) 3 (nI 40) x (nI (dd + 1)) 0 S = some ((x ^^^ nI b) * 3, sv_fc [40, 11] S) := by
    rw [fc_run _ (n + 7) 40 x _ h (by omega)]
    show sw_bd (fG_1 (m + 9) (n + 7) 1 (nI 3) 2 x (nI (dd + 1)) (sv_rc 40 S)) (fun r4 S6 => some (r4 * (3 : Int32), S6)) = _
    rw [fc_above _ (n + 6) (by decide)]
    show sw_bd (fG_1 (m + 9) ((n + 4) + 2) 2 (nI 2) (nI 2) x (nI (dd + 1)) (sv_rc 40 S)) (fun r4 S6 => some (r4 * (3 : Int32), S6)) = _
    rw [fc_c1 m (n + 4) x (Or.inr rfl) (by omega) (sv_hc_s h 40) (by omega)]
    rfl
  have k50 : fG_1 (m + 9) (n + 8) 3 (nI 50) x (nI (dd + 1)) 0 S = some ((x ^^^ nI b) - (sv_wA K (nI b) 2).1, sv_fc (50 :: 11 :: (sv_wA K (nI b) 2).2) S) := by
    rw [fc_run _ (n + 7) 50 x _ h (by omega)]
    show sw_bd (fG_1 (m + 9) (n + 7) 1 (nI 4) 2 x (nI (dd + 1)) (sv_rc 50 S)) (fun r8 S10 => sw_bd (fG_1 (m + 9) (n + 7) 0 (nI 0) 2 (nI (dd + 1)) 0 S10) (fun r9 S11 => some (r8 - r9, S11))) = _
    rw [fc_above _ (n + 6) (by decide)]
    show sw_bd (fG_1 (m + 9) ((n + 4) + 2) 2 (nI 1) (nI 2) x (nI (dd + 1)) (sv_rc 50 S)) (fun r8 S10 => sw_bd (fG_1 (m + 9) (n + 7) 0 (nI 0) 2 (nI (dd + 1)) 0 S10) (fun r9 S11 => some (r8 - r9, S11))) = _
    rw [fc_c1 m (n + 4) x (Or.inl rfl) (by omega) (sv_hc_s h 50) (by omega), sv_bd, fc_ow m n 2 (by omega) hK (sv_hc_l [11] (sv_hc_s h 50)) (by show r + 1 + 1 < 900; omega) 0]
    rfl
  rcases sv_lt8 hk with rfl | rfl | rfl | rfl | rfl | rfl | rfl | rfl
  · exact k11
  · exact k11
  · exact k11
  · exact k40
  · exact k50
  · exact k40
  · exact k11
  · exact k50
theorem fc_oc (m n : Nat) (x : Int32) {dd : Nat} (hd : dd < 34) {S : sw_St} {K b r : Nat} (hk : K < 8) (h : sv_hc S K b r) (hr : r < 800) (q : Int32) : fG_1 (m + 9) (n + 10) 0 (nI 2) x (nI dd) q S = some ((sv_cA K K (nI b) x).1, sv_fc (sv_cA K K (nI b) x).2 S) := by
  rw [fc_own _ (n + 9) _ _ _ _ h]
  exact fc_c m n x hd hk hk h hr
theorem fc_10 (m n : Nat) (x : Int32) {dd : Nat} (hd : dd < 38) {S : sw_St} {K b r : Nat} (hk : K < 8) (h : sv_hc S K b r) (hr : r < 800) : fG_1 (m + 9) (n + 8) 3 (nI 10) x (nI dd) 0 S = some ((sv_h0 K (nI b) x).1, sv_fc (sv_h0 K (nI b) x).2 S) := by
  rw [fc_run _ (n + 7) 10 x _ h (by omega)]
  show sw_bd (fG_1 (m + 9) (n + 7) 0 (nI 0) x (nI dd) 0 (sv_rc 10 S)) (fun r3 S5 => some (r3 * (2 : Int32), S5)) = _
  rw [fc_ow m n x hd hk (sv_hc_s h 10) (by omega) 0]
  rfl
theorem fc_30 (m n : Nat) (x : Int32) {dd : Nat} (hd : dd < 34) {S : sw_St} {K b r : Nat} (hk : K < 8) (h : sv_hc S K b r) (hr : r < 700) : fG_1 (m + 9) (n + 11) 3 (nI 30) x (nI dd) 0 S = some (-(sv_h0 K (nI b) x).1, sv_fc (30 :: (sv_h0 K (nI b) x).2) S) := by
  rw [fc_run _ (n + 10) 30 x _ h (by omega)]
  show sw_bd (fG_1 (m + 9) (n + 10) 1 (nI 2) 1 x (nI dd) (sv_rc 30 S)) (fun r5 S7 => some (-r5, S7)) = _
  rw [fc_above _ (n + 9) (by decide)]
  show sw_bd (fG_1 (m + 9) (n + 9) 2 (nI 0) (nI 1) x (nI dd) (sv_rc 30 S)) (fun r5 S7 => some (-r5, S7)) = _
  rw [fc_from m (n + 8) (k := 0) (a := 1) (by decide) (by decide) x (by omega)]
  show sw_bd (fG_1 (m + 9) (n + 8) 3 (nI 10) x (nI (dd + 1)) 0 (sv_rc 30 S)) (fun r5 S7 => some (-r5, S7)) = _
  rw [fc_10 m n x (by omega) hk (sv_hc_s h 30) (by omega)]
  rfl
theorem sv_h0_len (K : Nat) (b x : Int32) : (sv_h0 K b x).2.length ≤ 3 := by
  show ((sv_wA K b x).2).length + 1 ≤ 3
  have := sv_wA_len K b x
  omega
theorem sv_cA_len (K k : Nat) (b x : Int32) : (sv_cA K k b x).2.length ≤ 4 := by
  unfold sv_cA
  have := sv_wA_len K b 2
  split
  · exact (by decide : 2 ≤ 4)
  · split
    · show ((sv_wA K b 2).2).length + 1 + 1 ≤ 4
      omega
    · exact (by decide : 1 ≤ 4)
theorem fc_h (m n : Nat) (x : Int32) {dd : Nat} (hd : dd < 28) {S : sw_St} {K b r k : Nat} (hK : K < 8) (hk : k < 8) (h : sv_hc S K b r) (hr : r < 600) : fG_1 (m + 9) (n + 15) 2 (nI k) (nI 1) x (nI dd) S = some ((sv_hA K k (nI b) x).1, sv_fc (sv_hA K k (nI b) x).2 S) := by
  rw [fc_from m (n + 14) (k := k) (a := 1) hk (by decide) x (by omega)]
  have k10 := fc_10 m (n + 6) x (dd := dd + 1) (by omega) hK h (by omega)
  have k30 := fc_30 m (n + 3) x (dd := dd + 1) (by omega) hK h (by omega)
  have k41 : fG_1 (m + 9) (n + 14) 3 (nI 41) x (nI (dd + 1)) 0 S = some (-(sv_h0 K (nI b) (x + 1)).1, sv_fc (41 :: 30 :: (sv_h0 K (nI b) (x + 1)).2) S) := by
    rw [fc_run _ (n + 13) 41 x _ h (by omega)]
    show sw_bd (fG_1 (m + 9) (n + 13) 1 (nI 3) 1 (x + 1) (nI (dd + 1)) (sv_rc 41 S)) (fun r5 S7 => some (r5, S7)) = _
    rw [sv_bde, fc_above _ (n + 12) (by decide)]
    show fG_1 (m + 9) (n + 12) 2 (nI 2) (nI 1) (x + 1) (nI (dd + 1)) (sv_rc 41 S) = _
    rw [fc_from m (n + 11) (k := 2) (a := 1) (by decide) (by decide) (x + 1) (by omega)]
    exact fc_30 m n (x + 1) (by omega) hK (sv_hc_s h 41) (by omega)
  have k80 : fG_1 (m + 9) (n + 14) 3 (nI 80) x (nI (dd + 1)) 0 S = some ((sv_h0 K (nI b) x).1 + (sv_cA K K (nI b) 2).1, sv_fc (80 :: ((sv_h0 K (nI b) x).2 ++ (sv_cA K K (nI b) 2).2)) S) := by
    rw [fc_run _ (n + 13) 80 x _ h (by omega)]
    show sw_bd (fG_1 (m + 9) (n + 13) 1 (nI 7) 1 x (nI (dd + 1)) (sv_rc 80 S)) (fun r12 S14 => sw_bd (fG_1 (m + 9) (n + 13) 0 (nI 2) 2 (nI (dd + 1)) 0 S14) (fun r13 S15 => some (r12 + r13, S15))) = _
    rw [fc_above _ (n + 12) (by decide)]
    show sw_bd (fG_1 (m + 9) (n + 12) 2 (nI 4) (nI 1) x (nI (dd + 1)) (sv_rc 80 S)) (fun r12 S14 => sw_bd (fG_1 (m + 9) (n + 13) 0 (nI 2) 2 (nI (dd + 1)) 0 S14) (fun r13 S15 => some (r12 + r13, S15))) = _
    rw [fc_from m (n + 11) (k := 4) (a := 1) (by decide) (by decide) x (by omega)]
    have q1 : fG_1 (m + 9) (n + 11) 3 (nI 10) x (nI (dd + 1 + 1)) 0 (sv_rc 80 S) = _ := fc_10 m (n + 3) x (by omega) hK (sv_hc_s h 80) (by omega)
    have l1 := sv_h0_len K (nI b) x
    have q2 : fG_1 (m + 9) (n + 13) 0 (nI 2) 2 (nI (dd + 1)) 0 (sv_fc (sv_h0 K (nI b) x).2 (sv_rc 80 S)) = _ := fc_oc m (n + 3) 2 (by omega) hK (sv_hc_l (sv_h0 K (nI b) x).2 (sv_hc_s h 80)) (by omega) 0
    show sw_bd (fG_1 (m + 9) (n + 11) 3 (nI 10) x (nI (dd + 1 + 1)) 0 (sv_rc 80 S)) _ = _
    rw [q1, sv_bd, q2, sv_bd, show sv_fc (80 :: ((sv_h0 K (nI b) x).2 ++ (sv_cA K K (nI b) 2).2)) S = sv_fc ((sv_h0 K (nI b) x).2 ++ (sv_cA K K (nI b) 2).2) (sv_rc 80 S) from rfl, sv_fc_ap]
  rcases sv_lt8 hk with rfl | rfl | rfl | rfl | rfl | rfl | rfl | rfl
  · exact k10
  · exact k10
  · exact k30
  · exact k41
  · exact k10
  · exact k41
  · exact k10
  · exact k80
theorem sv_hA_len (K k : Nat) (b x : Int32) : (sv_hA K k b x).2.length ≤ 9 := by
  unfold sv_hA
  have h1 := sv_h0_len K b x
  have h2 := sv_h0_len K b (x + 1)
  have h3 := sv_cA_len K K b 2
  split
  · show ((sv_h0 K b (x + 1)).2).length + 1 + 1 ≤ 9; omega
  · split
    · show ((sv_h0 K b x).2).length + 1 ≤ 9; omega
    · split
      · show ((sv_h0 K b x).2 ++ (sv_cA K K b 2).2).length + 1 ≤ 9; rw [List.length_append]; omega
      · omega
theorem fc_2 (m n : Nat) (x : Int32) {dd : Nat} (hd : dd < 24) {S : sw_St} {K b r : Nat} (hK : K < 8) (h : sv_hc S K b r) (hr : r < 500) : fG_1 (m + 9) (n + 17) 3 (nI 2) x (nI dd) 0 S = some ((sv_t0 K (nI b) x).1, sv_fc (sv_t0 K (nI b) x).2 S) := by
  rw [fc_run _ (n + 16) 2 x _ h (by omega)]
  show sw_bd (fG_1 (m + 9) (n + 16) 0 (nI 1) x (nI dd) 0 (sv_rc 2 S)) (fun r1 S3 => sw_bd (fG_1 (m + 9) (n + 16) 0 (nI 2) 1 (nI dd) 0 S3) (fun r2 S4 => some (r1 - r2, S4))) = _
  have l1 := sv_hA_len K K (nI b) x
  have q2 : fG_1 (m + 9) (n + 16) 0 (nI 2) 1 (nI dd) 0 (sv_fc (sv_hA K K (nI b) x).2 (sv_rc 2 S)) = _ := fc_oc m (n + 6) 1 (by omega) hK (sv_hc_l (sv_hA K K (nI b) x).2 (sv_hc_s h 2)) (by omega) 0
  rw [fc_own _ (n + 15) _ _ _ _ (sv_hc_s h 2), fc_h m n x (by omega) hK hK (sv_hc_s h 2) (by omega), sv_bd, q2, sv_bd]
  show _ = some (_, sv_fc ((sv_hA K K (nI b) x).2 ++ (sv_cA K K (nI b) 1).2) (sv_rc 2 S))
  rw [sv_fc_ap]
  rfl
theorem fc_t (m n : Nat) (x : Int32) {dd : Nat} (hd : dd < 20) {S : sw_St} {K b r k : Nat} (hK : K < 8) (hk : k < 8) (h : sv_hc S K b r) (hr : r < 400) : fG_1 (m + 9) (n + 25) 2 (nI k) (nI 3) x (nI dd) S = some ((sv_tA2 K k (nI b) x).1, sv_fc (sv_tA2 K k (nI b) x).2 S) := by
  rw [fc_from m (n + 24) (k := k) (a := 3) hk (by decide) x (by omega)]
  have k2 := fc_2 m (n + 7) x (dd := dd + 1) (by omega) hK h (by omega)
  have k60 : fG_1 (m + 9) (n + 24) 3 (nI 60) x (nI (dd + 1)) 0 S = some ((sv_t0 K (nI b) x).1 ^^^ 5, sv_fc (60 :: (sv_t0 K (nI b) x).2) S) := by
    rw [fc_run _ (n + 23) 60 x _ h (by omega)]
    show sw_bd (fG_1 (m + 9) (n + 23) 1 (nI 5) 3 x (nI (dd + 1)) (sv_rc 60 S)) (fun r5 S7 => some (r5 ^^^ (5 : Int32), S7)) = _
    rw [fc_above _ (n + 22) (by decide)]
    show sw_bd (fG_1 (m + 9) (n + 22) 2 (nI 3) (nI 3) x (nI (dd + 1)) (sv_rc 60 S)) (fun r5 S7 => some (r5 ^^^ (5 : Int32), S7)) = _
    rw [fc_from m (n + 21) (k := 3) (a := 3) (by decide) (by decide) x (by omega)]
    have q := fc_2 m (n + 4) x (dd := dd + 1 + 1) (by omega) hK (sv_hc_s h 60) (by omega)
    show sw_bd (fG_1 (m + 9) (n + 4 + 17) 3 (nI 2) x (nI (dd + 1 + 1)) 0 (sv_rc 60 S)) _ = _
    rw [q]
    rfl
  have k81 : fG_1 (m + 9) (n + 24) 3 (nI 81) x (nI (dd + 1)) 0 S = some ((sv_t0 K (nI b) x).1 - 1, sv_fc (81 :: (sv_t0 K (nI b) x).2) S) := by
    rw [fc_run _ (n + 23) 81 x _ h (by omega)]
    show sw_bd (fG_1 (m + 9) (n + 23) 1 (nI 7) 3 x (nI (dd + 1)) (sv_rc 81 S)) (fun r5 S7 => some (r5 - (1 : Int32), S7)) = _
    rw [fc_above _ (n + 22) (by decide)]
    show sw_bd (fG_1 (m + 9) (n + 22) 2 (nI 4) (nI 3) x (nI (dd + 1)) (sv_rc 81 S)) (fun r5 S7 => some (r5 - (1 : Int32), S7)) = _
    rw [fc_from m (n + 21) (k := 4) (a := 3) (by decide) (by decide) x (by omega)]
    have q := fc_2 m (n + 4) x (dd := dd + 1 + 1) (by omega) hK (sv_hc_s h 81) (by omega)
    show sw_bd (fG_1 (m + 9) (n + 4 + 17) 3 (nI 2) x (nI (dd + 1 + 1)) 0 (sv_rc 81 S)) _ = _
    rw [q]
    rfl
  rcases sv_lt8 hk with rfl | rfl | rfl | rfl | rfl | rfl | rfl | rfl
  · exact k2
  · exact k2
  · exact k2
  · exact k2
  · exact k2
  · exact k60
  · exact k2
  · exact k81
/-- all four -/
def sv_all (K a : Nat) (b x : Int32) : Int32 × List Nat := if a = 0 then sv_wA K b x else if a = 1 then sv_hA K K b x else if a = 2 then sv_cA K K b x else sv_tA2 K K b x
theorem fc_all (m : Nat) (x : Int32) {S : sw_St} {K b r a : Nat} (hK : K < 8) (ha : a < 4) (h : sv_hc S K b r) (hr : r < 400) : fX0_from (m + 9) (nI K) (nI a) x 0 S = some ((sv_all K a (nI b) x).1, sv_fc (sv_all K a (nI b) x).2 S) := by
  show fG_1 (m + 9) 100 2 (nI K) (nI a) x (nI 0) S = _
  rcases sv_lt4 ha with rfl | rfl | rfl | rfl
  · exact fc_w m 94 x (by decide) hK h (by omega)
  · exact fc_h m 85 x (by decide) hK hK h (by omega)
  · exact fc_c m 91 x (by decide) hK hK h (by omega)
  · exact fc_t m 75 x (by decide) hK hK h (by omega)
