/-! the class's nights: who is awake, the growths, an hour -/
abbrev sv_aw (A : sv_A) (s : Nat) : Prop := A.2.2 1 < A.2.1 3 s
/-- is there one awake in the cot -/
def sv_ac (A : sv_A) (n c : Nat) : Bool := (List.range n).any (fun s => A.2.1 0 s == c && decide (sv_aw A s))
abbrev sv_awb (A : sv_A) : Nat := sv_wb (fun s => decide (sv_aw A s)) A.1
abbrev sv_acb (A : sv_A) : Nat := sv_wb (fun c => sv_ac A A.1 c) 12
theorem sv_ac_s (A : sv_A) (n c : Nat) : sv_ac A (n + 1) c = (sv_ac A n c || (A.2.1 0 n == c && decide (sv_aw A n))) := by
  simp [sv_ac, List.range_succ, List.any_append]
theorem e4_isAwake (N : Nat) {S : sw_St} {o : Nat} {A : sv_A} (h : sv_nc S o A) (hA : sv_wf A) {s : Nat} (hs : s < 10) : fX4_isAwake N o (nI s) S = some (sv_B (sv_aw A s), S) := by
  unfold fX4_isAwake
  rw [sv_gi hs (by decide), nI_clamp (by omega)]
  have e1 : S.1 (o + 4) s = nI (A.2.1 3 s) := h.2.1 3 s (by omega) hs
  have e2 : S.1 o 2 = nI (A.2.2 1) := h.2.2.1 1 (by omega)
  have b1 := hA.2.2.2.2.2.2.1 3 s
  have b2 := hA.2.2.2.2.1
  rw [e1, e2]
  by_cases hq : sv_aw A s
  · have hq' : A.2.2 1 < A.2.1 3 s := hq
    rw [if_neg (by rw [nI_leI (by omega) (by omega)]; omega), sv_B_t hq]; rfl
  · have hq' : ¬ A.2.2 1 < A.2.1 3 s := hq
    rw [if_pos (by rw [nI_leI (by omega) (by omega)]; omega), sv_B_f hq]; rfl
theorem e4_awakeSwords (N : Nat) (hN : 20 ≤ N) {S : sw_St} {o : Nat} {A : sv_A} (h : sv_nc S o A) (hA : sv_wf A) : fX4_awakeSwords N o S = some (nI (sv_awb A), S) := by
  unfold fX4_awakeSwords
  have h10 := hA.1
  refine sv_fr2 (Q := fun t => t = some (nI (sv_awb A), S)) (fun k a b T => a = nI (sv_wb (fun s => decide (sv_aw A s)) k) ∧ b = nI k ∧ T = S) A.1 ?_ ?_ N _ _ S (by omega) ⟨rfl, rfl, rfl⟩
  · rintro k a b T rec hk ⟨rfl, rfl, rfl⟩
    left
    rw [if_neg (show ¬ nI k ≥ T.1 o 0 by rw [h.1]; exact nI_ge hk (by omega)), e4_isAwake N h hA (by omega), sv_bd, sv_Bi]
    by_cases hq : sv_aw A k
    · rw [if_pos hq, sv_li, sv_shl k (by omega), sv_or, sv_wb_add _ _ (decide_eq_true hq)]
      exact ⟨_, _, _, ⟨rfl, nI_1 k, rfl⟩, rfl⟩
    · rw [if_neg hq, sv_li]
      refine ⟨_, _, _, ⟨?_, nI_1 k, rfl⟩, rfl⟩
      rw [show (0 : Int32) = nI 0 from rfl, sv_or, Nat.or_zero]
      simp only [sv_wb]
      rw [if_neg (by simpa using hq), Nat.add_zero]
  · rintro a b T rec ⟨rfl, rfl, rfl⟩
    rw [if_pos (by rw [h.1]; exact Int32.le_refl _)]
theorem e4_awakeCots (N : Nat) (hN : 20 ≤ N) {S : sw_St} {o : Nat} {A : sv_A} (h : sv_nc S o A) (hA : sv_wf A) : fX4_awakeCots N o S = some (nI (sv_acb A), S) := by
  unfold fX4_awakeCots
  have h10 := hA.1
  refine sv_fr2 (Q := fun t => t = some (nI (sv_acb A), S)) (fun k a b T => a = nI (sv_wb (fun c => sv_ac A k c) 12) ∧ b = nI k ∧ T = S) A.1 ?_ ?_ N _ _ S (by omega) ⟨?_, rfl, rfl⟩
  · rintro k a b T rec hk ⟨rfl, rfl, rfl⟩
    left
    have hc := (hA.2.1 k hk).1
    have e1 : T.1 (o + 1) k = nI (A.2.1 0 k) := h.2.1 0 k (by omega) (by omega)
    rw [if_neg (show ¬ nI k ≥ T.1 o 0 by rw [h.1]; exact nI_ge hk (by omega)), e4_isAwake N h hA (by omega), sv_bd, sv_Bi]
    by_cases hq : sv_aw A k
    · rw [if_pos hq, sv_gi (by omega) (by decide), sv_li, nI_clamp (by omega), e1, sv_shl _ (by omega), sv_or, sv_wb_or _ _ _ hc]
      refine ⟨_, _, _, ⟨?_, nI_1 k, rfl⟩, rfl⟩
      congr 1
      refine sv_wb_congr 12 (fun c _ => ?_)
      rw [sv_ac_s]
      simp only [decide_eq_true hq, Bool.and_true]
      congr 1
      by_cases hcc : c = A.2.1 0 k
      · subst hcc; simp
      · simp [hcc, show ¬ A.2.1 0 k = c from fun z => hcc z.symm]
    · rw [if_neg hq, sv_li]
      refine ⟨_, _, _, ⟨?_, nI_1 k, rfl⟩, rfl⟩
      rw [show (0 : Int32) = nI 0 from rfl, sv_or, Nat.or_zero]
      congr 1
      refine sv_wb_congr 12 (fun c _ => ?_)
      rw [sv_ac_s]
      simp [hq]
  · rintro a b T rec ⟨rfl, rfl, rfl⟩
    rw [if_pos (by rw [h.1]; exact Int32.le_refl _)]
  · show (0 : Int32) = nI (sv_wb (fun _ => false) 12)
    rfl
/-- how many are awake -/
abbrev sv_na (A : sv_A) : Nat := sv_ct (fun i => decide (i < A.1) && decide (sv_aw A i)) 12
theorem e4_howManyAwake (N : Nat) (hN : 20 ≤ N) {S : sw_St} {o : Nat} {A : sv_A} (h : sv_nc S o A) (hA : sv_wf A) : fX4_howManyAwake N o S = some (nI (sv_na A), S) := by
  unfold fX4_howManyAwake
  have hlt : sv_awb A < 4096 := Nat.lt_of_lt_of_le (sv_wb_lt _ _) (show 2 ^ A.1 ≤ 2 ^ 12 from Nat.pow_le_pow_right (by decide) (by have := hA.1; omega))
  rw [e4_awakeSwords N hN h hA, sv_bd, e6_bc N hlt, sv_bd, sv_wb_un]
def sv_sum (f : Nat → Nat) : Nat → Nat
  | 0 => 0
  | k + 1 => sv_sum f k + f k
theorem e4_mindOfAll (N : Nat) (hN : 20 ≤ N) {S : sw_St} {o : Nat} {A : sv_A} (h : sv_nc S o A) (hA : sv_wf A) : fX4_mindOfAll N o S = some (nI (sv_sum (A.2.1 3) A.1), S) := by
  unfold fX4_mindOfAll
  have h10 := hA.1
  refine sv_fr2 (Q := fun t => t = some (nI (sv_sum (A.2.1 3) A.1), S)) (fun k a b T => a = nI (sv_sum (A.2.1 3) k) ∧ b = nI k ∧ T = S) A.1 ?_ ?_ N _ _ S (by omega) ⟨rfl, rfl, rfl⟩
  · rintro k a b T rec hk ⟨rfl, rfl, rfl⟩
    left
    have e1 : T.1 (o + 4) k = nI (A.2.1 3 k) := h.2.1 3 k (by omega) (by omega)
    rw [if_neg (show ¬ nI k ≥ T.1 o 0 by rw [h.1]; exact nI_ge hk (by omega)), sv_gi (by omega) (by decide), sv_li, nI_clamp (by omega), e1, nI_add]
    exact ⟨_, _, _, ⟨rfl, nI_1 k, rfl⟩, rfl⟩
  · rintro a b T rec ⟨rfl, rfl, rfl⟩
    rw [if_pos (by rw [h.1]; exact Int32.le_refl _)]
