/-! told -/
theorem sv_aw_dec (A : sv_A) (s : Nat) : sv_aw A s ∨ ¬ sv_aw A s := by
  by_cases h : sv_aw A s
  · exact Or.inl h
  · exact Or.inr h
/-- a sword that is told of 9 -/
def sv_t9 (A : sv_A) (s : Nat) : Nat := A.2.1 3 s - 18
theorem sv_t9_cl {m : Nat} (hm : m ≤ 99) {d : Nat} (hd : d ≤ 9) : sv_tv (nI d) (nI m) 9 = m - 18 := by
  unfold sv_tv
  rw [if_neg (show ¬ nI d > (9 : Int32) from nI_nlt (a := 9) (by omega) (by decide))]
  have : ∀ m, m ≤ 99 → sv_cl (nI m - (2 : Int32) * 9) = m - 18 := by decide +kernel
  exact this m hm
theorem sv_mx18 : ∀ m, m ≤ 99 → sw_mx 0 (nI m - 18) = nI (m - 18) := by decide +kernel
theorem e4_mindWhenTold (N : Nat) {S : sw_St} {o : Nat} {A : sv_A} (h : sv_nc S o A) (hA : sv_wf A) {s : Nat} (hs : s < A.1) : fX4_mindWhenTold N o (nI s) S = some (nI (sv_t9 A s), S) := by
  have h10 := hA.1
  have e3 : S.1 (o + 4) s = nI (A.2.1 3 s) := h.2.1 3 s (by omega) (by omega)
  unfold fX4_mindWhenTold
  rw [sv_gi (by omega) (by decide), nI_clamp (by omega), e3, sv_mx18 _ (hA.2.1 s hs).2.2.2.1]
  rfl
/-- all that are awake are told of 9 -/
def sv_tA (A : sv_A) : sv_A := (A.1, fun k s => if k = 3 ∧ s < A.1 ∧ sv_aw A s then sv_t9 A s else A.2.1 k s, A.2.2)
theorem sv_tA_wf {A : sv_A} (h : sv_wf A) : sv_wf (sv_tA A) := by
  obtain ⟨h1, h2, h3, h4, h5, h6, h7, h8⟩ := h
  have hb : ∀ s, sv_t9 A s ≤ 99 := fun s => by unfold sv_t9; have := h7 3 s; omega
  refine ⟨h1, fun s hs => ?_, fun s t hs ht => h3 s t hs ht, h4, h5, h6, fun k s => ?_, fun k s hs hk => ?_⟩
  · obtain ⟨a, b, c, d, e⟩ := h2 s hs
    refine ⟨a, b, c, ?_, e⟩
    show (if 3 = 3 ∧ s < A.1 ∧ sv_aw A s then sv_t9 A s else A.2.1 3 s) ≤ 99
    split
    · exact hb s
    · exact d
  · show (if k = 3 ∧ s < A.1 ∧ sv_aw A s then sv_t9 A s else A.2.1 k s) ≤ 99
    split
    · exact hb s
    · exact h7 k s
  · have hs : A.1 ≤ s := hs
    show (if k = 3 ∧ s < A.1 ∧ sv_aw A s then sv_t9 A s else A.2.1 k s) = 0
    rw [if_neg (by omega)]
    exact h8 k s hs hk
theorem sv_tA_3 (A : sv_A) {s : Nat} (hs : s < A.1) : (sv_tA A).2.1 3 s = if sv_aw A s then sv_t9 A s else A.2.1 3 s := by
  show (if 3 = 3 ∧ s < A.1 ∧ sv_aw A s then sv_t9 A s else A.2.1 3 s) = _
  by_cases hq : sv_aw A s
  · rw [if_pos ⟨rfl, hs, hq⟩, if_pos hq]
  · rw [if_neg (fun z => hq z.2.2), if_neg hq]
theorem sv_wb_0 (f : Nat → Bool) : ∀ n, sv_wb f n = 0 ↔ ∀ k, k < n → f k = false := by
  intro n
  induction n with
  | zero => exact ⟨fun _ k hk => absurd hk (Nat.not_lt_zero k), fun _ => rfl⟩
  | succ n ih =>
    simp only [sv_wb]
    constructor
    · intro h k hk
      by_cases hkn : k = n
      · subst hkn
        by_cases hq : f k = true
        · rw [if_pos hq] at h
          have := Nat.two_pow_pos k
          omega
        · simpa using hq
      · exact ih.mp (by omega) k (by omega)
    · intro h
      rw [ih.mpr (fun k hk => h k (by omega)), h n (by omega)]
      rfl
theorem e4_canAllBeTold (N : Nat) (hN : 20 ≤ N) {S : sw_St} {o : Nat} {A : sv_A} (h : sv_nc S o A) (hA : sv_wf A) : fX4_canAllBeTold N o S = some (sv_B (sv_awb (sv_tA A) = 0), S) := by
  unfold fX4_canAllBeTold
  have h10 := hA.1
  have e2 : S.1 o 2 = nI (A.2.2 1) := h.2.2.1 1 (by omega)
  have b2 := hA.2.2.2.2.1
  have key : ∀ s, s < A.1 → (sv_aw (sv_tA A) s ↔ (sv_aw A s ∧ A.2.2 1 < sv_t9 A s)) := by
    intro s hs
    show A.2.2 1 < (sv_tA A).2.1 3 s ↔ _
    rw [sv_tA_3 A hs]
    by_cases hq : sv_aw A s
    · rw [if_pos hq]; exact ⟨fun z => ⟨hq, z⟩, fun z => z.2⟩
    · rw [if_neg hq]; exact ⟨fun z => absurd z hq, fun z => absurd z.1 hq⟩
  refine sv_fr1 (Q := fun t => t = some (sv_B (sv_awb (sv_tA A) = 0), S)) (fun k x T => x = nI k ∧ T = S ∧ ∀ s, s < k → ¬ sv_aw (sv_tA A) s) A.1 ?_ ?_ N _ S (by omega) ⟨rfl, rfl, fun s hs => absurd hs (Nat.not_lt_zero s)⟩
  · rintro k x T rec hk ⟨rfl, rfl, hno⟩
    rw [if_neg (show ¬ nI k ≥ T.1 o 0 by rw [h.1]; exact nI_ge hk (by omega)), e4_isAwake N h hA (by omega), sv_bd, sv_Bi]
    have nxt : ¬ sv_aw (sv_tA A) k → ∀ s, s < k + 1 → ¬ sv_aw (sv_tA A) s := by
      intro hk2 s hs
      by_cases hsk : s = k
      · subst hsk; exact hk2
      · exact hno s (by omega)
    by_cases hq : sv_aw A k
    · rw [if_pos hq, e4_mindWhenTold N h hA hk, sv_bd, e2]
      have b9 : sv_t9 A k ≤ 99 := by unfold sv_t9; have := hA.2.2.2.2.2.2.1 3 k; omega
      by_cases hq2 : sv_t9 A k ≤ A.2.2 1
      · left
        rw [if_pos (nI_le hq2 (by omega))]
        exact ⟨_, _, ⟨nI_1 k, rfl, nxt (fun z => by have := ((key k hk).mp z).2; omega)⟩, rfl⟩
      · right
        have hz : ¬ sv_awb (sv_tA A) = 0 := by
          intro z
          have := (sv_wb_0 _ _).mp z k hk
          rw [decide_eq_false_iff_not] at this
          exact this ((key k hk).mpr ⟨hq, by omega⟩)
        rw [if_neg (by rw [nI_leI (by omega) (by omega)]; exact hq2), sv_B_f hz]
        rfl
    · left
      rw [if_neg hq]
      exact ⟨_, _, ⟨nI_1 k, rfl, nxt (fun z => hq ((key k hk).mp z).1)⟩, rfl⟩
  · rintro x T rec ⟨rfl, rfl, hno⟩
    rw [if_pos (by rw [h.1]; exact Int32.le_refl _), sv_B_t ((sv_wb_0 _ _).mpr (fun k hk => by rw [decide_eq_false_iff_not]; exact hno k hk))]
    rfl
theorem e4_mindOfAllTold (N : Nat) (hN : 20 ≤ N) {S : sw_St} {o : Nat} {A : sv_A} (h : sv_nc S o A) (hA : sv_wf A) : fX4_mindOfAllTold N o S = some (nI (sv_sum ((sv_tA A).2.1 3) A.1), S) := by
  unfold fX4_mindOfAllTold
  have h10 := hA.1
  refine sv_fr2 (Q := fun t => t = some (nI (sv_sum ((sv_tA A).2.1 3) A.1), S)) (fun k a b T => a = nI (sv_sum ((sv_tA A).2.1 3) k) ∧ b = nI k ∧ T = S) A.1 ?_ ?_ N _ _ S (by omega) ⟨rfl, rfl, rfl⟩
  · rintro k a b T rec hk ⟨rfl, rfl, rfl⟩
    left
    have e1 : T.1 (o + 4) k = nI (A.2.1 3 k) := h.2.1 3 k (by omega) (by omega)
    rw [if_neg (show ¬ nI k ≥ T.1 o 0 by rw [h.1]; exact nI_ge hk (by omega)), e4_isAwake N h hA (by omega), sv_bd, sv_Bi]
    by_cases hq : sv_aw A k
    · rw [if_pos hq, e4_mindWhenTold N h hA hk, sv_bd, sv_li, nI_add]
      exact ⟨_, _, _, ⟨by simp only [sv_sum]; rw [sv_tA_3 A hk, if_pos hq], nI_1 k, rfl⟩, rfl⟩
    · rw [if_neg hq, sv_gi (by omega) (by decide), sv_li, nI_clamp (by omega), e1, nI_add]
      exact ⟨_, _, _, ⟨by simp only [sv_sum]; rw [sv_tA_3 A hk, if_neg hq], nI_1 k, rfl⟩, rfl⟩
  · rintro a b T rec ⟨rfl, rfl, rfl⟩
    rw [if_pos (by rw [h.1]; exact Int32.le_refl _)]
