/-! truth as an int; ranges -/
def sv_B (p : Prop) [Decidable p] : Int32 := if p then 1 else 0
theorem sv_B_t {p : Prop} [Decidable p] (h : p) : sv_B p = 1 := if_pos h
theorem sv_B_f {p : Prop} [Decidable p] (h : ¬ p) : sv_B p = 0 := if_neg h
theorem sv_B0 (p : Prop) [Decidable p] : (sv_B p = 0) = ¬ p := by
  unfold sv_B
  by_cases h : p <;> simp [h]
theorem sv_Bi {β : Type} (p : Prop) [Decidable p] (x y : β) : (if sv_B p = 0 then x else y) = if p then y else x := by
  unfold sv_B
  by_cases h : p <;> simp [h]
theorem sv_Bn (p : Prop) [Decidable p] : vp_nar .boolean (sv_B p) = sv_B p := by
  unfold sv_B
  by_cases h : p <;> simp [h] <;> rfl
theorem sv_Bc {p q : Prop} [Decidable p] [Decidable q] (h : p ↔ q) : sv_B p = sv_B q := by
  unfold sv_B
  by_cases hp : p
  · rw [if_pos hp, if_pos (h.mp hp)]
  · rw [if_neg hp, if_neg (fun z => hp (h.mpr z))]
theorem e8_within (N : Nat) (x a b : Int32) (S : sw_St) : fX8_within N x a b S = some (sv_B (a ≤ x ∧ x ≤ b), S) := by
  unfold fX8_within
  by_cases h1 : x < a
  · rw [if_pos h1, sv_B_f (fun h => Int32.not_le.mpr h1 h.1)]; rfl
  · rw [if_neg h1]
    by_cases h2 : x > b
    · rw [if_pos h2, sv_B_f (fun h => Int32.not_le.mpr h2 h.2)]; rfl
    · rw [if_neg h2, sv_B_t ⟨Int32.not_lt.mp h1, Int32.not_lt.mp h2⟩]; rfl
theorem e9_withinL (N : Nat) (x a b : Int64) (S : sw_St) : fX9_within N x a b S = some (sv_B (a ≤ x ∧ x ≤ b), S) := by
  unfold fX9_within
  by_cases h1 : lg_cmp x a < 0
  · rw [if_pos h1, sv_B_f (fun h => Int64.not_le.mpr ((lg_cmp_lt x a).mp h1) h.1)]; rfl
  · rw [if_neg h1]
    have h1 : ¬ x < a := fun z => h1 ((lg_cmp_lt x a).mpr z)
    by_cases h2 : lg_cmp x b > 0
    · rw [if_pos h2, sv_B_f (fun h => Int64.not_le.mpr ((lg_cmp_gt x b).mp h2) h.2)]; rfl
    · have h3 : ¬ b < x := fun z => h2 ((lg_cmp_gt x b).mpr z)
      rw [if_neg h2, sv_B_t ⟨Int64.not_lt.mp h1, Int64.not_lt.mp h3⟩]; rfl
theorem sv_l64 (x y : Int32) : x.toInt64 ≤ y.toInt64 ↔ x ≤ y := by
  rw [Int64.le_iff_toInt_le, Int32.le_iff_toInt_le, Int32.toInt_toInt64, Int32.toInt_toInt64]
theorem e9_within (N : Nat) (x a b : Int32) (S : sw_St) : fX9_within N x.toInt64 a.toInt64 b.toInt64 S = some (sv_B (a ≤ x ∧ x ≤ b), S) := by
  rw [e9_withinL, sv_Bc (show (a.toInt64 ≤ x.toInt64 ∧ x.toInt64 ≤ b.toInt64) ↔ (a ≤ x ∧ x ≤ b) by rw [sv_l64, sv_l64])]
theorem sv_64_0 : (0 : Int64) = (0 : Int32).toInt64 := by decide
theorem sv_64_1 : (1 : Int64) = (1 : Int32).toInt64 := by decide
theorem sv_64_2 : (2 : Int64) = (2 : Int32).toInt64 := by decide
theorem sv_64_3 : (3 : Int64) = (3 : Int32).toInt64 := by decide
theorem sv_64_4 : (4 : Int64) = (4 : Int32).toInt64 := by decide
theorem sv_64_5 : (5 : Int64) = (5 : Int32).toInt64 := by decide
theorem sv_64_7 : (7 : Int64) = (7 : Int32).toInt64 := by decide
theorem sv_64_9 : (9 : Int64) = (9 : Int32).toInt64 := by decide
theorem sv_64_10 : (10 : Int64) = (10 : Int32).toInt64 := by decide
theorem sv_64_11 : (11 : Int64) = (11 : Int32).toInt64 := by decide
theorem sv_64_12 : (12 : Int64) = (12 : Int32).toInt64 := by decide
theorem sv_64_18 : (18 : Int64) = (18 : Int32).toInt64 := by decide
theorem sv_64_24 : (24 : Int64) = (24 : Int32).toInt64 := by decide
theorem sv_64_30 : (30 : Int64) = (30 : Int32).toInt64 := by decide
theorem sv_64_50 : (50 : Int64) = (50 : Int32).toInt64 := by decide
theorem sv_64_99 : (99 : Int64) = (99 : Int32).toInt64 := by decide
theorem sv_64_255 : (255 : Int64) = (255 : Int32).toInt64 := by decide
theorem sv_64_m2 : (-2 : Int64) = (-2 : Int32).toInt64 := by decide
/-- an int between 0 and a literal is a small number -/
theorem sv_rg {x : Int32} (m : Nat) (hm : m < 2 ^ 31) (h0 : 0 ≤ x) (h1 : x ≤ nI m) : ∃ j : Nat, j ≤ m ∧ x = nI j := nI_of2 (nI_toInt hm) (Int32.not_lt.mpr h0) h1
theorem sv_rgI {j m : Nat} (hj : j < 2 ^ 31) (hm : m < 2 ^ 31) : ((0 : Int32) ≤ nI j ∧ nI j ≤ nI m) ↔ j ≤ m := by
  rw [nI_leI hj hm]
  exact ⟨fun h => h.2, fun h => ⟨nI_pos' hj, h⟩⟩
theorem e8_isCot (N : Nat) (x : Int32) (S : sw_St) : fX8_isCot N x S = some (sv_B (0 ≤ x ∧ x ≤ 11), S) := by
  unfold fX8_isCot; rw [e8_within, sv_bd, sv_Bn]
theorem e9_isCot (N : Nat) (x : Int32) (S : sw_St) : fX9_isCot N x.toInt64 S = some (sv_B (0 ≤ x ∧ x ≤ 11), S) := by
  unfold fX9_isCot; rw [sv_64_0, sv_64_11, e9_within, sv_bd, sv_Bn]
theorem e8_isShelf (N : Nat) (x : Int32) (S : sw_St) : fX8_isShelf N x S = some (sv_B (0 ≤ x ∧ x ≤ 5), S) := by
  unfold fX8_isShelf; rw [e8_within, sv_bd, sv_Bn]
theorem e9_isShelf (N : Nat) (x : Int32) (S : sw_St) : fX9_isShelf N x S = some (sv_B (0 ≤ x ∧ x ≤ 5), S) := by
  unfold fX9_isShelf; rw [sv_64_0, sv_64_5, e9_within, sv_bd, sv_Bn]
/-! the attic as numbers: how many swords, their rows (0 cot, 1 did, 2 years, 3 mind, 4 held), and hour, sleeps, candle -/
abbrev sv_A : Type := Nat × (Nat → Nat → Nat) × (Nat → Nat)
/-- the sword in a cot, or -1 -/
def sv_lie (n : Nat) (ct : Nat → Nat) (c : Nat) : Int32 := match (List.range n).find? (fun s => ct s == c) with
  | some s => nI s
  | none => -1
theorem sv_lie_cs (n : Nat) (ct : Nat → Nat) (c : Nat) : (∃ s, s < n ∧ ct s = c ∧ sv_lie n ct c = nI s ∧ ∀ t, t < s → ct t ≠ c) ∨ ((∀ s, s < n → ct s ≠ c) ∧ sv_lie n ct c = -1) := by
  unfold sv_lie
  cases h : (List.range n).find? (fun s => ct s == c) with
  | none =>
    right
    refine ⟨fun s hs e => ?_, rfl⟩
    have := List.find?_eq_none.mp h s (List.mem_range.mpr hs)
    simp [e] at this
  | some s =>
    left
    have h1 := List.find?_some h
    have h2 := List.mem_of_find?_eq_some h
    refine ⟨s, List.mem_range.mp h2, by simpa using h1, rfl, fun t ht e => ?_⟩
    have h3 := (List.find?_range_eq_some.mp h).2.2 t ht
    simp [e] at h3
def sv_wf (A : sv_A) : Prop := A.1 ≤ 10 ∧ (∀ s, s < A.1 → A.2.1 0 s < 12 ∧ A.2.1 1 s ≤ 9 ∧ A.2.1 2 s ≤ 99 ∧ A.2.1 3 s ≤ 99 ∧ A.2.1 4 s ≤ 1) ∧ (∀ s t, s < A.1 → t < A.1 → A.2.1 0 s = A.2.1 0 t → s = t) ∧ A.2.2 0 < 12 ∧ A.2.2 1 ≤ 50 ∧ A.2.2 2 < 12 ∧ (∀ k s, A.2.1 k s ≤ 99) ∧ ∀ k s, A.1 ≤ s → k ≠ 0 → A.2.1 k s = 0
/-- the class's night at cell o is A -/
def sv_nc (S : sw_St) (o : Nat) (A : sv_A) : Prop := S.1 o 0 = nI A.1 ∧ (∀ k s, k < 5 → s < 10 → S.1 (o + (1 + k)) s = nI (A.2.1 k s)) ∧ (∀ j, j < 3 → S.1 o (1 + j) = nI (A.2.2 j)) ∧ ∀ c, c < 12 → S.1 (o + 6) c = sv_lie A.1 (A.2.1 0) c
/-- the reference's numbers are A -/
def sv_mr (S : sw_St) (A : sv_A) : Prop := S.1 105 6 = nI A.1 ∧ (∀ k s, k < 5 → s < 10 → S.1 106 (10 * k + s) = nI (A.2.1 k s)) ∧ ∀ j, j < 3 → S.1 106 (50 + j) = nI (A.2.2 j)
theorem sv_lie_at {A : sv_A} (h : sv_wf A) {s c : Nat} (hs : s < A.1) (hc : A.2.1 0 s = c) : sv_lie A.1 (A.2.1 0) c = nI s := by
  rcases sv_lie_cs A.1 (A.2.1 0) c with ⟨t, h1, h2, h3, -⟩ | ⟨h1, -⟩
  · rw [h3, h.2.2.1 s t hs h1 (hc.trans h2.symm)]
  · exact absurd hc (h1 s hs)
theorem sv_lie_no {n : Nat} {ct : Nat → Nat} {c : Nat} (h : ∀ s, s < n → ct s ≠ c) : sv_lie n ct c = -1 := by
  rcases sv_lie_cs n ct c with ⟨t, h1, h2, -, -⟩ | ⟨-, h2⟩
  · exact absurd h2 (h t h1)
  · exact h2
theorem e8_isSword (N : Nat) (x : Int32) {S : sw_St} {n : Nat} (h : S.1 1 0 = nI n) : fX8_isSword N x S = some (sv_B (0 ≤ x ∧ x ≤ nI n - 1), S) := by
  unfold fX8_isSword
  rw [e8_within, sv_bd, sv_Bn, h]
theorem e9_isSword (N : Nat) (x : Int32) {S : sw_St} {n : Nat} (h : S.1 105 6 = nI n) : fX9_isSword N x.toInt64 S = some (sv_B (0 ≤ x ∧ x ≤ nI n - 1), S) := by
  unfold fX9_isSword
  rw [sv_64_0, e9_within, sv_bd, sv_Bn, h]
theorem sv_swI {n : Nat} (hn : n < 2 ^ 30) (x : Int32) : (0 ≤ x ∧ x ≤ nI n - 1) ↔ ∃ j : Nat, j < n ∧ x = nI j := by
  have e1 : (nI n - 1).toInt = (n : Int) - 1 := pk_sub_toInt (b := 1) hn (by decide)
  constructor
  · intro h
    obtain ⟨j, hj, rfl⟩ := nI_of (Int32.not_lt.mpr h.1)
    have h2 := Int32.le_iff_toInt_le.mp h.2
    rw [e1, nI_toInt hj] at h2
    exact ⟨j, by omega, rfl⟩
  · rintro ⟨j, hj, rfl⟩
    refine ⟨nI_pos' (by omega), Int32.le_iff_toInt_le.mpr ?_⟩
    rw [e1, nI_toInt (by omega)]
    omega
/-- a test on an int of which nothing is known: it is in the range, or not -/
theorem sv_cs (m : Nat) (hm : m < 2 ^ 31) (x : Int32) : (∃ j : Nat, j ≤ m ∧ x = nI j) ∨ ¬ (0 ≤ x ∧ x ≤ nI m) := by
  by_cases h : 0 ≤ x ∧ x ≤ nI m
  · exact Or.inl (sv_rg m hm h.1 h.2)
  · exact Or.inr h
/-- which sword the reference finds in a cot -/
theorem e9_inCot (N : Nat) (hN : 20 ≤ N) (c : Nat) (hc : c < 100) {S : sw_St} {A : sv_A} (h : sv_mr S A) (hA : sv_wf A) : fX9_inCot N (nI c) S = some (sv_lie A.1 (A.2.1 0) c, S) := by
  unfold fX9_inCot
  have h10 := hA.1
  refine sv_fr1 (Q := fun t => t = some (sv_lie A.1 (A.2.1 0) c, S)) (fun k x T => x = nI k ∧ T = S ∧ ∀ t, t < k → A.2.1 0 t ≠ c) A.1 ?_ ?_ N _ S (by omega) ⟨rfl, rfl, fun t ht => absurd ht (Nat.not_lt_zero t)⟩
  · rintro k x T rec hk ⟨rfl, rfl, hno⟩
    rw [if_neg (by rw [h.1]; exact nI_ge hk (by omega)), sv_gi (by omega) (by decide), nI_clamp (by omega)]
    have e : T.1 106 k = nI (A.2.1 0 k) := by have := h.2.1 0 k (by omega) (by omega); simpa using this
    rw [e]
    by_cases hq : A.2.1 0 k = c
    · right
      rw [if_pos (by rw [hq])]
      rw [sv_lie_at hA hk hq]
    · left
      rw [if_neg (by rw [nI_eq (by have := hA.2.2.2.2.2.2.1 0 k; omega) (by omega)]; exact hq)]
      exact ⟨_, _, ⟨(nI_1 k), rfl, fun t ht => by
        by_cases ht' : t = k
        · rw [ht']; exact hq
        · exact hno t (by omega)⟩, rfl⟩
  · rintro x T rec ⟨rfl, rfl, hno⟩
    rw [if_pos (by rw [h.1]; exact Int32.le_refl _), sv_lie_no hno]
