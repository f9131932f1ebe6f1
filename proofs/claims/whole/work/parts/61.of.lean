/-! of; what may be mended -/
def sv_vl (A : sv_A) (s w : Nat) : Nat := if w < 5 then A.2.1 w s else A.2.2 (w - 5)
abbrev sv_vw (A : sv_A) (s w : Nat) : Prop := (w < 5 ∧ s < A.1) ∨ (5 ≤ w ∧ w < 8 ∧ s = 0)
theorem sv_rg2 {x : Int32} {a b : Nat} (ha : a ≤ b) (hb : b < 2 ^ 31) : (nI a ≤ x ∧ x ≤ nI b) ↔ ∃ j : Nat, a ≤ j ∧ j ≤ b ∧ x = nI j := by
  constructor
  · rintro ⟨h1, h2⟩
    obtain ⟨j, hj, rfl⟩ := sv_rg b hb (Int32.le_trans (by rw [Int32.le_iff_toInt_le, nI_toInt (by omega)]; show (0 : Int) ≤ _; omega) h1) h2
    exact ⟨j, (nI_leI (by omega) (by omega)).mp h1, hj, rfl⟩
  · rintro ⟨j, h1, h2, rfl⟩
    exact ⟨nI_le h1 (by omega), nI_le h2 hb⟩
theorem sv_mnd {A : sv_A} (hA : A.1 ≤ 10) (x y : Int32) : (∃ s w : Nat, sv_vw A s w ∧ x = nI s ∧ y = nI w ∧ (∀ (N : Nat) (S : sw_St), S.1 1 0 = nI A.1 → fX8_isMendable N x y S = some (1, S)) ∧ ∀ (N : Nat) (S : sw_St), S.1 105 6 = nI A.1 → fX9_placeOf N x y S = some (nI (sv_pl s w), S)) ∨ ((∀ (N : Nat) (S : sw_St), S.1 1 0 = nI A.1 → fX8_isMendable N x y S = some (0, S)) ∧ ∀ (N : Nat) (S : sw_St), S.1 105 6 = nI A.1 → fX9_placeOf N x y S = some (-1, S)) := by
  unfold fX8_isMendable fX9_placeOf
  rw [sv_64_0, sv_64_4, sv_64_5, sv_64_7]
  simp only [e8_within, e9_within, sv_bd, sv_Bi]
  by_cases h1 : 0 ≤ y ∧ y ≤ 4
  · simp only [if_pos h1]
    obtain ⟨w, hw, rfl⟩ := sv_rg 4 (by decide) h1.1 h1.2
    by_cases h2 : 0 ≤ x ∧ x ≤ nI A.1 - 1
    · obtain ⟨s, hs, rfl⟩ := (sv_swI (by omega) x).mp h2
      left
      refine ⟨s, w, Or.inl ⟨by omega, hs⟩, rfl, rfl, fun N S h => ?_, fun N S h => ?_⟩
      · rw [e8_isSword N _ h, sv_bd, sv_Bn, sv_B_t h2]
      · rw [e9_isSword N _ h, sv_bd, sv_Bi, if_pos h2, show (10 : Int32) * nI w = nI (10 * w) from pk_mul 10 w, nI_add]
        unfold sv_pl
        rw [if_pos (by omega)]
    · right
      refine ⟨fun N S h => ?_, fun N S h => ?_⟩
      · rw [e8_isSword N _ h, sv_bd, sv_Bn, sv_B_f h2]
      · rw [e9_isSword N _ h, sv_bd, sv_Bi, if_neg h2]
  · simp only [if_neg h1]
    by_cases h2 : 5 ≤ y ∧ y ≤ 7
    · simp only [if_pos h2]
      obtain ⟨w, hw5, hw, rfl⟩ := (sv_rg2 (a := 5) (b := 7) (by decide) (by decide)).mp h2
      by_cases h3 : x = 0
      · left
        refine ⟨0, w, Or.inr ⟨hw5, by omega, rfl⟩, h3, rfl, fun N S _ => by rw [if_pos h3]; rfl, fun N S _ => ?_⟩
        rw [if_pos h3, show (50 : Int32) + nI w = nI (50 + w) from nI_add 50 w, show nI (50 + w) - (5 : Int32) = nI (50 + w - 5) from pk_sub (b := 5) (by omega)]
        unfold sv_pl
        rw [if_neg (by omega), show 50 + w - 5 = 50 + (w - 5) by omega]
      · right
        exact ⟨fun N S _ => by rw [if_neg h3]; rfl, fun N S _ => by rw [if_neg h3]⟩
    · simp only [if_neg h2]
      right
      refine ⟨fun N S _ => rfl, fun N S _ => ?_⟩
      split <;> rfl
theorem e4_get (N : Nat) {S : sw_St} {A : sv_A} (h : sv_nc S 1 A) (hA : A.1 ≤ 10) {s w : Nat} (hv : sv_vw A s w) : fX4_get N 1 (nI s) (nI w) S = some (nI (sv_vl A s w), S) := by
  unfold fX4_get sv_vl
  have hs : s < 10 := by omega
  have e1 := h.2.1
  have e2 := h.2.2.1
  rw [nI_clamp (show s < 2 ^ 31 by omega)]
  simp only [sv_gi hs (show 10 < 2 ^ 31 by decide)]
  rcases sv_lt8 (show w < 8 by omega) with rfl | rfl | rfl | rfl | rfl | rfl | rfl | rfl
  · exact congrArg (fun v => some (v, S)) (e1 0 s (by decide) hs)
  · exact congrArg (fun v => some (v, S)) (e1 1 s (by decide) hs)
  · exact congrArg (fun v => some (v, S)) (e1 2 s (by decide) hs)
  · exact congrArg (fun v => some (v, S)) (e1 3 s (by decide) hs)
  · exact congrArg (fun v => some (v, S)) (e1 4 s (by decide) hs)
  · exact congrArg (fun v => some (v, S)) (e2 0 (by decide))
  · exact congrArg (fun v => some (v, S)) (e2 1 (by decide))
  · exact congrArg (fun v => some (v, S)) (e2 2 (by decide))
theorem sv_mr_g {S : sw_St} {A : sv_A} (h : sv_mr S A) (hA : A.1 ≤ 10) {s w : Nat} (hv : sv_vw A s w) : S.1 106 (sv_pl s w) = nI (sv_vl A s w) := by
  unfold sv_pl sv_vl
  by_cases hw : w < 5
  · rw [if_pos hw, if_pos hw, h.2.1 w s hw (by omega)]
  · rw [if_neg hw, if_neg hw, h.2.2 (w - 5) (by omega)]
theorem sv_pl_lt {A : sv_A} (hA : A.1 ≤ 10) {s w : Nat} (hv : sv_vw A s w) : sv_pl s w < 53 := by
  unfold sv_pl
  split <;> omega
theorem op_of (N : Nat) (hN : 5000 ≤ N) {S : sw_St} (h : sv_rel S) (x y : Int32) : sv_ok (fX8_of N x y) (fX9_of N x y) S := by
  have hs := h
  obtain ⟨A, L, b, h⟩ := h
  obtain ⟨h1, h2, h3, h4, h5, h6, h7, h8, h9, h10⟩ := h
  unfold sv_ok fX8_of fX9_of
  by_cases h8 : y = 8
  · subst h8
    rw [if_pos rfl]
    have np : fX9_placeOf N x 8 S = some (-1, S) := by
      rcases sv_mnd h1.1 x 8 with ⟨s, w, hv, -, e, -⟩ | ⟨-, g⟩
      · have : 8 = w := (nI_eq (a := 8) (by decide) (by omega)).mp e
        omega
      · exact g N S h3.1
    rw [e8_isCot, sv_bd, sv_Bi]
    by_cases hx : 0 ≤ x ∧ x ≤ 11
    · obtain ⟨c, hc, rfl⟩ := sv_rg 11 (by decide) hx.1 hx.2
      rw [if_pos hx, sv_gi (by omega) (by decide), nI_clamp (by omega), h2.2.2.2 c (by omega), sv_gi (by omega) (by decide)]
      by_cases hl : sv_lie A.1 (A.2.1 0) c ≥ 0
      · rw [if_pos hl]
        refine ⟨_, S, S, rfl, ?_, hs⟩
        rw [np, sv_bd, if_pos (by decide), if_pos rfl, e9_isCot, sv_bd, sv_Bi, if_pos hx, e9_inCot N (by omega) c (by omega) h3 h1, sv_bd, if_pos hl, e9_inCot N (by omega) c (by omega) h3 h1, sv_bd]
      · rw [if_neg hl]
        refine ⟨_, S, S, rfl, ?_, hs⟩
        rw [np, sv_bd, if_pos (by decide), if_pos rfl, e9_isCot, sv_bd, sv_Bi, if_pos hx, e9_inCot N (by omega) c (by omega) h3 h1, sv_bd, if_neg hl]
    · rw [if_neg hx]
      refine ⟨_, S, S, rfl, ?_, hs⟩
      rw [np, sv_bd, if_pos (by decide), if_pos rfl, e9_isCot, sv_bd, sv_Bi, if_neg hx]
  · rw [if_neg h8]
    rcases sv_mnd h1.1 x y with ⟨s, w, hv, rfl, rfl, g1, g2⟩ | ⟨g1, g2⟩
    · rw [g1 N S h2.1, sv_bd, if_neg sv_nz, e4_get N h2 h1.1 hv, sv_bd]
      refine ⟨_, S, S, rfl, ?_, hs⟩
      have hp := sv_pl_lt h1.1 hv
      rw [g2 N S h3.1, sv_bd, if_neg (sv_ng _ (by omega)), sv_gi hp (by decide), nI_clamp (by omega), sv_mr_g h3 h1.1 hv]
    · rw [g1 N S h2.1, sv_bd, if_pos rfl]
      refine ⟨_, S, S, rfl, ?_, hs⟩
      rw [g2 N S h3.1, sv_bd, if_pos (by decide), if_neg h8]
