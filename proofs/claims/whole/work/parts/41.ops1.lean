/-! the calls, one by one -/
theorem e9_awakeSet (N : Nat) (hN : 20 ≤ N) {S : sw_St} {A : sv_A} {cd : Int32} (h : sv_rs S A cd) (hA : sv_wf A) : fX9_awakeSet N S = some (nI (sv_awb A), S) := by
  unfold fX9_awakeSet
  have h10 := hA.1
  refine sv_fr2 (Q := fun t => t = some (nI (sv_awb A), S)) (fun k a b T => a = nI (sv_wb (fun s => decide (sv_aw A s)) k) ∧ b = nI k ∧ T = S) A.1 ?_ ?_ N _ _ S (by omega) ⟨rfl, rfl, rfl⟩
  · rintro k a b T rec hk ⟨rfl, rfl, rfl⟩
    left
    rw [if_neg (show ¬ nI k ≥ T.1 105 6 by rw [h.1]; exact nI_ge hk (by omega)), e9_isAwake N h hA hk, sv_bd, sv_Bi]
    by_cases hq : sv_aw A k
    · rw [if_pos hq, sv_li, sv_shl k (by omega), sv_or, sv_wb_add _ _ (decide_eq_true hq)]
      exact ⟨_, _, _, ⟨rfl, nI_1 k, rfl⟩, rfl⟩
    · rw [if_neg hq, sv_li]
      refine ⟨_, _, _, ⟨?_, nI_1 k, rfl⟩, rfl⟩
      rw [show (0 : Int32) = nI 0 from rfl, sv_or, Nat.or_zero]
      simp only [sv_wb]
      rw [if_neg (by simpa using hq), Nat.add_zero]
  · rintro a b T rec ⟨rfl, rfl, rfl⟩
    rw [if_pos (by rw [h.1]; exact Int32.le_refl _)]
theorem sv_awb_lt {A : sv_A} (hA : sv_wf A) : sv_awb A < 4096 := Nat.lt_of_lt_of_le (sv_wb_lt _ _) (show 2 ^ A.1 ≤ 2 ^ 12 from Nat.pow_le_pow_right (by decide) (by have := hA.1; omega))
theorem e9_awakeMany (N : Nat) (hN : 20 ≤ N) {S : sw_St} {A : sv_A} {cd : Int32} (h : sv_rs S A cd) (hA : sv_wf A) : fX9_awakeMany N S = some (nI (sv_na A), S) := by
  unfold fX9_awakeMany
  rw [e9_awakeSet N hN h hA, sv_bd, e9_bitsOf N hN (sv_awb_lt hA), sv_bd, sv_wb_un]
theorem e9_mindAll (N : Nat) (hN : 20 ≤ N) {S : sw_St} {A : sv_A} {cd : Int32} (h : sv_rs S A cd) (hA : sv_wf A) : fX9_mindAll N S = some (nI (sv_sum (A.2.1 3) A.1), S) := by
  unfold fX9_mindAll
  have h10 := hA.1
  refine sv_fr2 (Q := fun t => t = some (nI (sv_sum (A.2.1 3) A.1), S)) (fun k a b T => a = nI (sv_sum (A.2.1 3) k) ∧ b = nI k ∧ T = S) A.1 ?_ ?_ N _ _ S (by omega) ⟨rfl, rfl, rfl⟩
  · rintro k a b T rec hk ⟨rfl, rfl, rfl⟩
    left
    rw [if_neg (show ¬ nI k ≥ T.1 105 6 by rw [h.1]; exact nI_ge hk (by omega)), sv_gi (by omega) (by decide), sv_li, nI_clamp (by omega), h.2.2.2.2.1 k hk, nI_add]
    exact ⟨_, _, _, ⟨rfl, nI_1 k, rfl⟩, rfl⟩
  · rintro a b T rec ⟨rfl, rfl, rfl⟩
    rw [if_pos (by rw [h.1]; exact Int32.le_refl _)]
theorem sv_same_b {S T : sw_St} (h : sv_rr (fun q => q = 113 ∨ q = 114) (fun k => k = 19 ∨ k = 20) S T) : sv_same S T := sv_same_rr h (fun a ha => by unfold sv_P; omega) (fun k hk => by unfold sv_F; omega)
theorem op_count (N : Nat) (hN : 5000 ≤ N) {S : sw_St} (h : sv_rel S) (x : Int32) : sv_ok (fX8_count N x) (fX9_count N x) S := by
  obtain ⟨A, L, b, h⟩ := h
  have hs : sv_rel S := ⟨A, L, b, h⟩
  obtain ⟨h1, h2, h3, h4, h5, h6, h7, h8, h9, h10⟩ := h
  unfold sv_ok fX8_count fX9_count
  by_cases q0 : x = 0
  · simp only [if_pos q0]
    exact ⟨_, _, _, rfl, by rw [h2.1, h3.1], hs⟩
  by_cases q1 : x = 1
  · simp only [if_neg q0, if_pos q1]
    rw [e4_howManyAwake N (by omega) h2 h1, sv_bd]
    obtain ⟨U, hU, hU1, hU2, hU3⟩ := e9_begins N (by omega) h3 h1
    refine ⟨_, _, U, rfl, ?_, ⟨A, L, b, sv_rl_same ⟨h1, h2, h3, h4, h5, h6, h7, h8, h9, h10⟩ (sv_same_b hU3)⟩⟩
    unfold fX9_manyAwake
    rw [hU, sv_bd, e9_awakeMany N (by omega) hU1 h1, sv_bd, sv_bd]
  by_cases q2 : x = 2
  · simp only [if_neg q0, if_neg q1, if_pos q2]
    obtain ⟨m, -, e1, e2, -⟩ := h7
    exact ⟨_, _, _, rfl, by rw [e1, e2], hs⟩
  by_cases q3 : x = 3
  · simp only [if_neg q0, if_neg q1, if_neg q2, if_pos q3]
    obtain ⟨d, z, -, -, e1, e2, -⟩ := h6
    exact ⟨_, _, _, rfl, by rw [e1, e2], hs⟩
  by_cases q4 : x = 4
  · simp only [if_neg q0, if_neg q1, if_neg q2, if_neg q3, if_pos q4]
    obtain ⟨-, e1, e2, -⟩ := h9
    exact ⟨_, _, _, rfl, by rw [e1, e2], hs⟩
  by_cases q5 : x = 5
  · simp only [if_neg q0, if_neg q1, if_neg q2, if_neg q3, if_neg q4, if_pos q5]
    obtain ⟨-, -, -, -, r, -, e1, e2, -⟩ := h9
    exact ⟨_, _, _, rfl, by rw [e1, e2], hs⟩
  · simp only [if_neg q0, if_neg q1, if_neg q2, if_neg q3, if_neg q4, if_neg q5]
    exact ⟨_, _, _, rfl, rfl, hs⟩
theorem sv_cq (m : Nat) (hm : m < 2 ^ 31) {M : Int32} (hM : M = nI m) (x : Int32) : (∃ j : Nat, j ≤ m ∧ x = nI j ∧ (0 ≤ x ∧ x ≤ M)) ∨ ¬ (0 ≤ x ∧ x ≤ M) := by
  subst hM
  by_cases h : 0 ≤ x ∧ x ≤ nI m
  · obtain ⟨j, h1, h2⟩ := sv_rg m hm h.1 h.2
    exact Or.inl ⟨j, h1, h2, h⟩
  · exact Or.inr h
theorem op_led (N : Nat) (hN : 5000 ≤ N) {S : sw_St} (h : sv_rel S) (x : Int32) : sv_ok (fX8_led N x) (fX9_led N x) S := by
  have hs := h
  obtain ⟨A, L, b, h1, h2, h3, h4, h5, h6, h7, h8, h9, h10⟩ := h
  unfold sv_ok fX8_led fX9_led
  simp only [e8_within, sv_64_0, sv_64_4, e9_within, sv_bd, sv_Bi]
  rcases sv_cq 4 (by decide) (M := 4) rfl x with ⟨j, hj, rfl, hx⟩ | hx
  · rw [if_pos hx, sv_gi (by omega) (by decide), nI_clamp (by omega)]
    refine ⟨_, _, S, rfl, ?_, hs⟩
    rw [if_pos hx, sv_gi (by omega) (by decide), h8.1 j (by omega)]
  · rw [if_neg hx]
    exact ⟨_, _, S, rfl, by rw [if_neg hx], hs⟩
theorem op_trace (N : Nat) (hN : 5000 ≤ N) {S : sw_St} (h : sv_rel S) (x : Int32) : sv_ok (fX8_trace N x) (fX9_trace N x) S := by
  have hs := h
  obtain ⟨A, L, b, h1, h2, h3, h4, h5, h6, h7, h8, h9, h10⟩ := h
  obtain ⟨-, -, -, -, r, hr, e1, e2, e3⟩ := h9
  unfold sv_ok fX8_trace fX9_trace
  have em : sw_mn (S.1 89 1) 24 = nI (if r < 24 then r else 24) := by
    rw [e1]
    unfold sw_mn
    by_cases hq : r < 24
    · rw [if_neg (show ¬ (24 : Int32) < nI r from nI_nlt (a := 24) (by omega) (by decide)), if_pos hq]
    · rw [if_neg hq]
      by_cases hq2 : r = 24
      · subst hq2; rw [if_neg (show ¬ (24 : Int32) < nI 24 by decide)]
      · rw [if_pos (show (24 : Int32) < nI r from nI_lt (a := 24) (by omega) (by omega))]; rfl
  simp only [e8_within, sv_bd, sv_Bi, em, e2]
  by_cases hx : 0 ≤ x ∧ x ≤ nI (if r < 24 then r else 24) - 1
  · obtain ⟨j, hj, rfl⟩ := (sv_swI (by split <;> omega) x).mp hx
    have hj24 : j < 24 := by split at hj <;> omega
    have hjr : j < r := by split at hj <;> omega
    rw [if_pos hx, sv_gi hj24 (by decide), nI_clamp (by omega)]
    refine ⟨_, _, S, rfl, ?_, hs⟩
    rw [if_neg (nI_pos (by omega)), e2, if_neg (show ¬ nI j ≥ nI r from nI_ge hjr (by omega)), if_neg (show ¬ nI j ≥ (24 : Int32) from nI_ge hj24 (by decide)), sv_gi hj24 (by decide), e3 j hj24 hjr]
  · rw [if_neg hx]
    refine ⟨_, _, S, rfl, ?_, hs⟩
    by_cases g1 : x < 0
    · rw [if_pos g1]
    · rw [if_neg g1]
      obtain ⟨j, hj, rfl⟩ := nI_of g1
      by_cases g2 : nI j ≥ S.1 105 35
      · rw [if_pos g2]
      · rw [if_neg g2]
        by_cases g3 : nI j ≥ (24 : Int32)
        · rw [if_pos g3]
        · exfalso
          apply hx
          refine (sv_swI (by split <;> omega) _).mpr ⟨j, ?_, rfl⟩
          rw [e2] at g2
          have a1 : j < r := by
            refine Nat.not_le.mp fun z => g2 ?_
            exact nI_le z hj
          have a2 : j < 24 := by
            refine Nat.not_le.mp fun z => g3 ?_
            exact nI_le (a := 24) z hj
          split <;> omega
