/-! taken; act -/
def sv_un (k j : Nat) : Bool := ([[0], [1, 0], [2, 0], [3, 2, 0], [4, 1, 0], [5, 3, 2, 0], [6, 0], [7, 4, 1, 0]] : List (List Nat)).getD k [] |>.contains j
theorem sv_lt8 {k : Nat} (h : k < 8) : k = 0 ∨ k = 1 ∨ k = 2 ∨ k = 3 ∨ k = 4 ∨ k = 5 ∨ k = 6 ∨ k = 7 := by omega
theorem e0_isUnder (m : Nat) {k j : Nat} (hk : k < 8) (hj : j < 8) (S : sw_St) : fX0_isUnder (m + 9) (nI k) (nI j) S = some (sv_B (sv_un k j = true), S) := by
  rcases sv_lt8 hk with rfl | rfl | rfl | rfl | rfl | rfl | rfl | rfl <;> rcases sv_lt8 hj with rfl | rfl | rfl | rfl | rfl | rfl | rfl | rfl <;> rfl
theorem e9_under (N m : Nat) {ρ : Type} {k j : Nat} (hk : k < 8) (hj : j < 8) (A B : sw_St → Option ρ) (S : sw_St) : sw_fx1 (fun rec1 x S4 => if x = nI j then (if x = nI j then A S4 else B S4) else (if x ≤ 0 then (if x = nI j then A S4 else B S4) else sw_bd (fX9_above N x S4) (fun r S7 => rec1 r S7))) (m + 9) (nI k) S = if sv_un k j = true then A S else B S := by
  rcases sv_lt8 hk with rfl | rfl | rfl | rfl | rfl | rfl | rfl | rfl <;> rcases sv_lt8 hj with rfl | rfl | rfl | rfl | rfl | rfl | rfl | rfl <;> rfl
theorem op_taken (N : Nat) (hN : 5000 ≤ N) {S : sw_St} (h : sv_rel S) (x y : Int32) : sv_ok (fX8_taken N x y) (fX9_taken N x y) S := by
  have hs := h
  obtain ⟨A, L, b, h⟩ := h
  obtain ⟨h1, h2, h3, h4, h5, h6, h7, h8, h9, h10⟩ := h
  obtain ⟨m, rfl⟩ : ∃ m, N = m + 9 := ⟨N - 9, by omega⟩
  have hB := h9
  obtain ⟨b1, b2, b3, b4, -⟩ := h9
  unfold sv_ok fX8_taken fX9_taken
  rw [sv_64_0, sv_64_7]
  simp only [e8_isShelf, e9_isShelf, e8_within, e9_within, sv_bd, sv_Bi, e5_holdsNothing, e5_holdsBlade]
  rcases sv_cq 5 (by decide) (M := 5) rfl x with ⟨d, hd, rfl, hx⟩ | hx
  · rcases sv_cq 7 (by decide) (M := 7) rfl y with ⟨j, hj, rfl, hy⟩ | hy
    · simp only [if_pos hx, if_pos hy, sv_gi (show d < 6 by omega) (show 6 < 2 ^ 31 by decide), nI_clamp (show d < 2 ^ 31 by omega)]
      rcases sv_s1_cs b1 (h10 d (by omega)) with ⟨k4, k5⟩ | ⟨k4, w, hw, k5, k6, k7, k8⟩ | ⟨k4, so, sz, hk, k7, k8⟩
      · rw [if_pos k4]
        exact ⟨_, S, S, rfl, by rw [if_neg (Int32.not_le.mpr k5)], hs⟩
      · rw [if_neg (show ¬ S.1 (93 + 2 * d) 4 = 0 by rw [k4]; decide), if_pos k4]
        obtain ⟨q, hq, q1, q2⟩ := b4 w hw
        rw [k6, q2, e0_isUnder m (by omega) (by omega), sv_bd, sv_Bi]
        have hK : ∀ T : sw_St, T.1 122 = S.1 122 → fX9_kindOf (m + 9) (nI w) T = some (nI q, T) := fun T hT => by
          unfold fX9_kindOf
          rw [sv_gi (by omega) (by decide), nI_clamp (by omega), hT, q2]
        have := e9_under (m + 9) m (k := q) (j := j) (by omega) (by omega) (fun T => sw_bd (fX9_kindOf (m + 9) (T.1 124 d) T) (fun r4 S5 => some (r4, S5))) (fun T => some ((-12 : Int32), T)) S
        by_cases hu : sv_un q j = true
        · rw [if_pos hu]
          refine ⟨nI q, S, S, by rw [k6, q2], ?_, hs⟩
          rw [if_pos k7, if_pos k8, k5, hK S rfl, sv_bd]
          refine Eq.trans this ?_
          rw [if_pos hu, k5, hK S rfl, sv_bd]
        · rw [if_neg hu]
          refine ⟨_, S, S, rfl, ?_, hs⟩
          rw [if_pos k7, if_pos k8, k5, hK S rfl, sv_bd]
          refine Eq.trans this ?_
          rw [if_neg hu]
      · rw [if_neg (show ¬ S.1 (93 + 2 * d) 4 = 0 by rw [k4]; decide), if_neg (show ¬ S.1 (93 + 2 * d) 4 = 1 by rw [k4]; decide)]
        exact ⟨_, S, S, rfl, by rw [if_pos k7, if_neg k8], hs⟩
    · rw [if_pos hx, if_neg hy]
      exact ⟨_, S, S, rfl, by rw [if_pos hx, if_neg hy], hs⟩
  · rw [if_neg hx]
    exact ⟨_, S, S, rfl, by rw [if_neg hx], hs⟩
/-! what runs, in which order, and what comes of it -/
def sv_wA (k : Nat) (b x : Int32) : Int32 × List Nat := if k = 1 ∨ k = 4 ∨ k = 7 then ((x + b) + 3, [20, 1]) else if k = 6 then ((x + b) * 2, [70, 1]) else (x + b, [1])
def sv_cA (K k : Nat) (b x : Int32) : Int32 × List Nat := if k = 3 ∨ k = 5 then ((x ^^^ b) * 3, [40, 11]) else if k = 4 ∨ k = 7 then ((x ^^^ b) - (sv_wA K b 2).1, 50 :: 11 :: (sv_wA K b 2).2) else (x ^^^ b, [11])
def sv_h0 (K : Nat) (b x : Int32) : Int32 × List Nat := ((sv_wA K b x).1 * 2, 10 :: (sv_wA K b x).2)
def sv_hA (K k : Nat) (b x : Int32) : Int32 × List Nat := if k = 3 ∨ k = 5 then (-(sv_h0 K b (x + 1)).1, 41 :: 30 :: (sv_h0 K b (x + 1)).2) else if k = 2 then (-(sv_h0 K b x).1, 30 :: (sv_h0 K b x).2) else if k = 7 then ((sv_h0 K b x).1 + (sv_cA K K b 2).1, 80 :: ((sv_h0 K b x).2 ++ (sv_cA K K b 2).2)) else sv_h0 K b x
def sv_t0 (K : Nat) (b x : Int32) : Int32 × List Nat := ((sv_hA K K b x).1 - (sv_cA K K b 1).1, 2 :: ((sv_hA K K b x).2 ++ (sv_cA K K b 1).2))
def sv_tA2 (K k : Nat) (b x : Int32) : Int32 × List Nat := if k = 5 then ((sv_t0 K b x).1 ^^^ 5, 60 :: (sv_t0 K b x).2) else if k = 7 then ((sv_t0 K b x).1 - 1, 81 :: (sv_t0 K b x).2) else sv_t0 K b x
/-- one that runs, in the class -/
def sv_rc (f : Nat) (S : sw_St) : sw_St := sw_si (if S.1 89 1 ≥ 24 then S else sw_si S 91 (S.1 89 1).toNatClampNeg (nI f)) 89 1 (S.1 89 1 + 1)
def sv_fc (l : List Nat) (S : sw_St) : sw_St := l.foldl (fun T f => sv_rc f T) S
theorem sv_fc_ap (l m : List Nat) (S : sw_St) : sv_fc (l ++ m) S = sv_fc m (sv_fc l S) := List.foldl_append ..
def sv_hc (S : sw_St) (K b r : Nat) : Prop := b < 50 ∧ S.1 89 4 = nI b ∧ S.1 90 b = nI K ∧ S.1 89 1 = nI r
theorem sv_rc_e (f : Nat) (S : sw_St) : (sv_rc f S).1 89 4 = S.1 89 4 ∧ (sv_rc f S).1 90 = S.1 90 ∧ (sv_rc f S).1 89 1 = S.1 89 1 + 1 := by
  unfold sv_rc
  by_cases h : S.1 89 1 ≥ 24
  · rw [if_pos h]; exact ⟨rfl, rfl, rfl⟩
  · rw [if_neg h]; exact ⟨rfl, rfl, rfl⟩
theorem sv_hc_s {S : sw_St} {K b r : Nat} (h : sv_hc S K b r) (f : Nat) : sv_hc (sv_rc f S) K b (r + 1) := by
  obtain ⟨h1, h2, h3, h4⟩ := h
  obtain ⟨e1, e2, e3⟩ := sv_rc_e f S
  exact ⟨h1, by rw [e1, h2], by rw [e2, h3], by rw [e3, h4, nI_1]⟩
theorem sv_hc_l {K b : Nat} : ∀ (l : List Nat) {S : sw_St} {r : Nat}, sv_hc S K b r → sv_hc (sv_fc l S) K b (r + l.length)
  | [], _, _, h => h
  | f :: l, S, r, h => by
    have := sv_hc_l l (sv_hc_s h f)
    rw [show r + (f :: l).length = r + 1 + l.length by simp only [List.length_cons]; omega]
    exact this
def sv_rk (N : Nat) (RR : Nat → Int32 → Int32 → Int32 → Int32 → sw_St → Option (Int32 × sw_St)) (p1 p2 p3 : Int32) (S2 : sw_St) : Option (Int32 × sw_St) :=
  (if p1 = (1 : Int32) then (some ((p2 + (S2.1 89 4)), S2)) else (if p1 = (2 : Int32) then (sw_bd (RR 0 (1 : Int32) p2 p3 0 S2) (fun r1 S3 => (sw_bd (RR 0 (2 : Int32) (1 : Int32) p3 0 S3) (fun r2 S4 => (some ((r1 - r2), S4)))))) else (if p1 = (10 : Int32) then (sw_bd (RR 0 (0 : Int32) p2 p3 0 S2) (fun r3 S5 => (some ((r3 * (2 : Int32)), S5)))) else (if p1 = (11 : Int32) then (some ((p2 ^^^ (S2.1 89 4)), S2)) else (if p1 = (20 : Int32) then (sw_bd (RR 1 (1 : Int32) (0 : Int32) p2 p3 S2) (fun r4 S6 => (some ((r4 + (3 : Int32)), S6)))) else (if p1 = (30 : Int32) then (sw_bd (RR 1 (2 : Int32) (1 : Int32) p2 p3 S2) (fun r5 S7 => (some ((-r5), S7)))) else (if p1 = (40 : Int32) then (sw_bd (RR 1 (3 : Int32) (2 : Int32) p2 p3 S2) (fun r6 S8 => (some ((r6 * (3 : Int32)), S8)))) else (if p1 = (41 : Int32) then (sw_bd (RR 1 (3 : Int32) (1 : Int32) (p2 + (1 : Int32)) p3 S2) (fun r7 S9 => (some (r7, S9)))) else (if p1 = (50 : Int32) then (sw_bd (RR 1 (4 : Int32) (2 : Int32) p2 p3 S2) (fun r8 S10 => (sw_bd (RR 0 (0 : Int32) (2 : Int32) p3 0 S10) (fun r9 S11 => (some ((r8 - r9), S11)))))) else (if p1 = (60 : Int32) then (sw_bd (RR 1 (5 : Int32) (3 : Int32) p2 p3 S2) (fun r10 S12 => (some ((r10 ^^^ (5 : Int32)), S12)))) else (if p1 = (70 : Int32) then (sw_bd (RR 1 (6 : Int32) (0 : Int32) p2 p3 S2) (fun r11 S13 => (some ((r11 * (2 : Int32)), S13)))) else (if p1 = (80 : Int32) then (sw_bd (RR 1 (7 : Int32) (1 : Int32) p2 p3 S2) (fun r12 S14 => (sw_bd (RR 0 (2 : Int32) (2 : Int32) p3 0 S14) (fun r13 S15 => (some ((r12 + r13), S15)))))) else (if p1 = (81 : Int32) then (sw_bd (RR 1 (7 : Int32) (3 : Int32) p2 p3 S2) (fun r14 S16 => (some ((r14 - (1 : Int32)), S16)))) else (some ((0 : Int32), S2)))))))))))))))
theorem fc_run (N n f : Nat) (x p : Int32) {S : sw_St} {K b r : Nat} (h : sv_hc S K b r) (hr : r < 1000) : fG_1 N (n + 1) 3 (nI f) x p 0 S = sv_rk N (fG_1 N n) (nI f) x p (sv_rc f S) := by
  show gX0_run N (fG_1 N n) (nI f) x p S = _
  unfold gX0_run sv_rc
  rw [sv_jn0]
  by_cases hq : S.1 89 1 ≥ 24
  · rw [if_pos hq, if_pos hq]; rfl
  · rw [if_neg hq, if_neg hq]
    have hr24 : r < 24 := by
      rcases Nat.lt_or_ge r 24 with z | z
      · exact z
      · exact absurd (by rw [h.2.2.2]; exact nI_le (a := 24) z (by omega)) hq
    rw [h.2.2.2, sv_gi hr24 (by decide), sv_ls]
    have : (sw_si S 91 (nI r).toNatClampNeg (nI f)).1 89 1 = nI r := h.2.2.2
    show sv_rk N (fG_1 N n) (nI f) x p (sw_si (sw_si S 91 (nI r).toNatClampNeg (nI f)) 89 1 ((sw_si S 91 (nI r).toNatClampNeg (nI f)).1 89 1 + 1)) = _
    rw [this]
theorem sv_bde {α : Type} (t : Option (α × sw_St)) : sw_bd t (fun r S => some (r, S)) = t := by
  cases t with
  | none => rfl
  | some v => rfl
def sv_bf (k a : Nat) : Nat := ([[1, 20, 1, 1, 20, 1, 70, 20], [10, 10, 30, 41, 10, 41, 10, 80], [11, 11, 11, 40, 50, 40, 11, 50], [2, 2, 2, 2, 2, 60, 2, 81]] : List (List Nat)).getD a [] |>.getD k 0
theorem sv_lt4 {k : Nat} (h : k < 4) : k = 0 ∨ k = 1 ∨ k = 2 ∨ k = 3 := by omega
theorem fc_from (m n : Nat) {k a : Nat} (hk : k < 8) (ha : a < 4) (x : Int32) {dd : Nat} (hd : dd < 40) (S : sw_St) : fG_1 (m + 9) (n + 1) 2 (nI k) (nI a) x (nI dd) S = fG_1 (m + 9) n 3 (nI (sv_bf k a)) x (nI (dd + 1)) 0 S := by
  show gX0_from (m + 9) (fG_1 (m + 9) n) (nI k) (nI a) x (nI dd) S = _
  have key : ∀ RR p4, gX0_from (m + 9) RR (nI k) (nI a) x p4 S = (if p4 ≥ (40 : Int32) then some ((0 : Int32), S) else sw_bd (RR 3 (nI (sv_bf k a)) x (p4 + 1) 0 S) (fun r T => some (r, T))) := by
    intro RR p4
    rcases sv_lt8 hk with rfl | rfl | rfl | rfl | rfl | rfl | rfl | rfl <;> rcases sv_lt4 ha with rfl | rfl | rfl | rfl <;> rfl
  rw [key, if_neg (show ¬ nI dd ≥ (40 : Int32) from nI_ge (b := 40) hd (by decide)), sv_bde, nI_1]
theorem fc_own (N n : Nat) (a x p q : Int32) {S : sw_St} {K b r : Nat} (h : sv_hc S K b r) : fG_1 N (n + 1) 0 a x p q S = fG_1 N n 2 (nI K) a x p S := by
  show gX0_own N (fG_1 N n) a x p S = _
  unfold gX0_own
  have := h.1
  rw [h.2.1, sv_gi h.1 (by decide), nI_clamp (by omega), h.2.2.1, sv_bde]
theorem fc_above (N n : Nat) {k : Nat} (hk : k < 8) (a x p : Int32) (S : sw_St) : fG_1 N (n + 1) 1 (nI k) a x p S = fG_1 N n 2 ((sw_tb 2).getD k 0) a x p S := by
  show gX0_above N (fG_1 N n) (nI k) a x p S = _
  unfold gX0_above
  rw [sv_gi hk (by decide), nI_clamp (by omega), sv_bde]
