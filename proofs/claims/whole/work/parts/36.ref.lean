/-! the reference's night in thought -/
/-- two states agree but at the cells of P, and at the reference's own fields of F -/
def sv_rr (P F : Nat → Prop) (S T : sw_St) : Prop := (∀ a, a ≠ 105 → ¬ P a → T.1 a = S.1 a ∧ T.2 a = S.2 a) ∧ (∀ k, ¬ F k → T.1 105 k = S.1 105 k) ∧ T.2 105 = S.2 105
theorem sv_rr_rf {P F : Nat → Prop} {S : sw_St} : sv_rr P F S S := ⟨fun _ _ _ => ⟨rfl, rfl⟩, fun _ _ => rfl, rfl⟩
theorem sv_rr_tr {P F : Nat → Prop} {S T U : sw_St} (h : sv_rr P F S T) (g : sv_rr P F T U) : sv_rr P F S U := ⟨fun a h1 h2 => ⟨(g.1 a h1 h2).1.trans (h.1 a h1 h2).1, (g.1 a h1 h2).2.trans (h.1 a h1 h2).2⟩, fun k hk => (g.2.1 k hk).trans (h.2.1 k hk), g.2.2.trans h.2.2⟩
theorem sv_rr_wk {P F P2 F2 : Nat → Prop} {S T : sw_St} (h : sv_rr P F S T) (hP : ∀ a, P a → P2 a) (hF : ∀ a, F a → F2 a) : sv_rr P2 F2 S T := ⟨fun a h1 h2 => h.1 a h1 (fun z => h2 (hP a z)), fun k hk => h.2.1 k (fun z => hk (hF k z)), h.2.2⟩
theorem sv_rr_si {P F : Nat → Prop} (S : sw_St) (o k : Nat) (v : Int32) (ho : o ≠ 105) (h : P o) : sv_rr P F S (sw_si S o k v) := ⟨fun a _ ha => ⟨by unfold sw_si; simp [show ¬ a = o from fun e => ha (e ▸ h)], rfl⟩, fun q _ => by rw [sv_si, if_neg (fun z => ho z.1.symm)], rfl⟩
theorem sv_rr_sf {P F : Nat → Prop} (S : sw_St) (k : Nat) (v : Int32) (h : F k) : sv_rr P F S (sw_si S 105 k v) := ⟨fun a h1 _ => ⟨by unfold sw_si; simp [h1], rfl⟩, fun q hq => by rw [sv_si, if_neg (show ¬ (105 = 105 ∧ q = k) from fun z => hq (z.2 ▸ h))], rfl⟩
/-- the night in thought is A, the candle at cd -/
def sv_rs (S : sw_St) (A : sv_A) (cd : Int32) : Prop := S.1 105 6 = nI A.1 ∧ (∀ s, s < 10 → S.1 106 (10 + s) = nI (A.2.1 1 s) ∧ S.1 106 (20 + s) = nI (A.2.1 2 s) ∧ S.1 106 (40 + s) = nI (A.2.1 4 s)) ∧ S.1 106 51 = nI (A.2.2 1) ∧ (∀ c, c < 12 → S.1 113 c = sv_lie A.1 (A.2.1 0) c) ∧ (∀ s, s < A.1 → S.1 114 s = nI (A.2.1 3 s)) ∧ S.1 105 19 = nI (A.2.2 0) ∧ S.1 105 20 = cd
theorem sv_rs_rr {P F : Nat → Prop} {S T : sw_St} {A : sv_A} {cd : Int32} (h : sv_rs S A cd) (g : sv_rr P F S T) (h1 : ¬ P 106) (h2 : ¬ P 113) (h3 : ¬ P 114) (h4 : ¬ F 6) (h5 : ¬ F 19) (h6 : ¬ F 20) : sv_rs T A cd := by
  obtain ⟨a1, a2, a3, a4, a5, a6, a7⟩ := h
  have e6 := (g.1 106 (by decide) h1).1
  have e13 := (g.1 113 (by decide) h2).1
  have e14 := (g.1 114 (by decide) h3).1
  exact ⟨by rw [g.2.1 6 h4]; exact a1, by rw [e6]; exact a2, by rw [e6]; exact a3, by rw [e13]; exact a4, by rw [e14]; exact a5, by rw [g.2.1 19 h5]; exact a6, by rw [g.2.1 20 h6]; exact a7⟩
theorem sv_ac_at {A : sv_A} (hA : sv_wf A) {s : Nat} (hs : s < A.1) : sv_ac A A.1 (A.2.1 0 s) = decide (sv_aw A s) := by
  apply Bool.eq_iff_iff.mpr
  simp only [sv_ac, List.any_eq_true, List.mem_range, Bool.and_eq_true, beq_iff_eq, decide_eq_true_eq]
  constructor
  · rintro ⟨t, ht, e, hq⟩
    rw [hA.2.2.1 s t hs ht e.symm]
    exact hq
  · exact fun hq => ⟨s, hs, rfl, hq⟩
theorem sv_ac_no {A : sv_A} {c : Nat} (h : ∀ s, s < A.1 → A.2.1 0 s ≠ c) : sv_ac A A.1 c = false := by
  simp only [sv_ac, List.any_eq_false, List.mem_range, Bool.and_eq_true, beq_iff_eq, decide_eq_true_eq, not_and]
  exact fun s hs e => absurd e (h s hs)
theorem e9_isAwake (N : Nat) {S : sw_St} {A : sv_A} {cd : Int32} (h : sv_rs S A cd) (hA : sv_wf A) {s : Nat} (hs : s < A.1) : fX9_isAwake N (nI s) S = some (sv_B (sv_aw A s), S) := by
  unfold fX9_isAwake
  have h10 := hA.1
  have e1 : S.1 114 s = nI (A.2.1 3 s) := h.2.2.2.2.1 s hs
  have e2 : S.1 106 51 = nI (A.2.2 1) := h.2.2.1
  have b1 := hA.2.2.2.2.2.2.1 3 s
  have b2 := hA.2.2.2.2.1
  rw [sv_gi (by omega) (by decide), nI_clamp (by omega), show (51 : Int32) = nI 51 from rfl, sv_gi (by decide) (by decide), nI_clamp (by decide), e1, e2]
  by_cases hq : sv_aw A s
  · have hq' : A.2.2 1 < A.2.1 3 s := hq
    rw [if_neg (by rw [nI_leI (by omega) (by omega)]; omega), sv_B_t hq]; rfl
  · have hq' : ¬ A.2.2 1 < A.2.1 3 s := hq
    rw [if_pos (by rw [nI_leI (by omega) (by omega)]; omega), sv_B_f hq]; rfl
def sv_abv (a b : Int32) : Int32 := if a / 6 = b / 6 then (if (if a - b ≥ 0 then a - b else -(a - b)) = 1 then 1 else 0) else (if a - a / 6 * 6 = b - b / 6 * 6 then 1 else 0)
theorem sv_abv_tb : ∀ c, c < 12 → ∀ o, o < 12 → sv_abv (nI c) (nI o) = sv_B ((sv_bes.getD c 0).testBit o = true) := by decide +kernel
theorem e9_areBeside (N : Nat) {c o : Nat} (hc : c < 12) (ho : o < 12) (S : sw_St) : fX9_areBeside N (nI c) (nI o) S = some (sv_B ((sv_bes.getD c 0).testBit o = true), S) := by
  rw [← sv_abv_tb c hc o ho]
  unfold fX9_areBeside sv_abv fX9_sizeOf
  by_cases h1 : nI c / 6 = nI o / 6
  · rw [if_pos h1, if_pos h1]
    by_cases h2 : nI c - nI o ≥ 0
    · rw [if_pos h2, if_pos h2, sv_bd]
      by_cases h3 : nI c - nI o = 1
      · rw [if_pos h3, if_pos h3]; rfl
      · rw [if_neg h3, if_neg h3]; rfl
    · rw [if_neg h2, if_neg h2, sv_bd]
      by_cases h3 : -(nI c - nI o) = 1
      · rw [if_pos h3, if_pos h3]; rfl
      · rw [if_neg h3, if_neg h3]; rfl
  · rw [if_neg h1, if_neg h1]
    by_cases h3 : nI c - nI c / 6 * 6 = nI o - nI o / 6 * 6
    · rw [if_pos h3, if_pos h3]; rfl
    · rw [if_neg h3, if_neg h3]; rfl
theorem e9_awakeBeside (N : Nat) (hN : 20 ≤ N) {S : sw_St} {A : sv_A} {cd : Int32} (h : sv_rs S A cd) (hA : sv_wf A) {c : Nat} (hc : c < 12) : fX9_awakeBeside N (nI c) S = some (nI (sv_nb A c), S) := by
  unfold fX9_awakeBeside
  have h10 := hA.1
  refine sv_fr2 (Q := fun t => t = some (nI (sv_nb A c), S)) (fun k a b T => a = nI (sv_ct (fun i => sv_ac A A.1 i && (sv_bes.getD c 0).testBit i) k) ∧ b = nI k ∧ T = S) 12 ?_ ?_ N _ _ S (by omega) ⟨rfl, rfl, rfl⟩
  · rintro k a b T rec hk ⟨rfl, rfl, rfl⟩
    left
    have e0 : T.1 113 k = sv_lie A.1 (A.2.1 0) k := h.2.2.2.1 k hk
    have fin : ∀ v : Int32, v = nI (if (sv_ac A A.1 k && (sv_bes.getD c 0).testBit k) = true then 1 else 0) → ∃ b0 b1 T_1, (b0 = nI (sv_ct (fun i => sv_ac A A.1 i && (sv_bes.getD c 0).testBit i) (k + 1)) ∧ b1 = nI (k + 1) ∧ T_1 = T) ∧ (sw_li (nI (sv_ct (fun i => sv_ac A A.1 i && (sv_bes.getD c 0).testBit i) k) + v) fun x2_2 => rec x2_2 (nI k + 1) T) = rec b0 b1 T_1 := by
      intro v hv
      rw [sv_li, hv]
      exact ⟨_, _, _, ⟨by rw [nI_add]; rfl, nI_1 k, rfl⟩, rfl⟩
    rw [if_neg (show ¬ nI k ≥ (12 : Int32) from nI_ge hk (by decide)), e9_areBeside N hc hk, sv_bd, sv_Bi]
    by_cases hb : (sv_bes.getD c 0).testBit k = true
    · rw [if_pos hb, sv_gi hk (by decide), nI_clamp (by omega), e0]
      rcases sv_lie_cs A.1 (A.2.1 0) k with ⟨s, hs, hsk, hlie, -⟩ | ⟨hno, hlie⟩
      · rw [hlie, if_neg (nI_pos (by omega)), sv_gi hk (by decide), e9_isAwake N h hA hs, sv_bd, sv_Bi]
        have hac := sv_ac_at hA hs
        rw [hsk] at hac
        by_cases hq : sv_aw A s
        · rw [if_pos hq]
          exact fin 1 (by rw [hac, hb]; simp [hq]; rfl)
        · rw [if_neg hq]
          exact fin 0 (by rw [hac, hb]; simp [hq]; rfl)
      · rw [hlie, if_pos (by decide)]
        exact fin 0 (by rw [sv_ac_no hno]; rfl)
    · rw [if_neg hb]
      exact fin 0 (by simp only [Bool.not_eq_true] at hb; rw [hb, Bool.and_false]; rfl)
  · rintro a b T rec ⟨rfl, rfl, rfl⟩
    rw [if_pos (show (12 : Int32) ≤ nI 12 from Int32.le_refl _)]
    rfl
theorem sv_k99 (v : Int32) : (if v ≥ 0 then (if v ≤ 99 then v else 99) else 0) = nI (sv_cl v) := by
  rw [← (sv_cl_eq v).1]
  unfold sw_mx sw_mn
  by_cases h1 : v ≥ 0
  · rw [if_pos h1]
    by_cases h2 : v ≤ 99
    · rw [if_pos h2]
      by_cases h3 : v < 99
      · rw [if_pos h3]
        by_cases h4 : (0 : Int32) < v
        · rw [if_pos h4]
        · rw [if_neg h4]; exact Int32.le_antisymm (Int32.not_lt.mp h4) h1
      · have e : v = 99 := Int32.le_antisymm h2 (Int32.not_lt.mp h3)
        subst e
        decide
    · have h3 : ¬ v < 99 := fun z => h2 (Int32.le_of_lt z)
      rw [if_neg h2, if_neg h3]; decide
  · rw [if_neg h1]
    have h2 : v < 0 := Int32.not_le.mp h1
    have h3 : v < 99 := Int32.lt_trans h2 (by decide)
    have h4 : ¬ (0 : Int32) < v := fun z => h1 (Int32.le_of_lt z)
    rw [if_pos h3, if_neg h4]
theorem e9_heldMind (N : Nat) (v : Int32) (S : sw_St) : fX9_heldMind N v S = some (nI (sv_cl v), S) := by
  rw [← sv_k99 v]
  unfold fX9_heldMind
  by_cases h1 : v ≥ 0
  · rw [if_pos h1, if_pos h1]
    by_cases h2 : v ≤ 99
    · rw [if_pos h2, if_pos h2]
    · rw [if_neg h2, if_neg h2]
  · rw [if_neg h1, if_neg h1]
theorem sv_asb (a b c : Int32) : a + (b - c) = (a + b) - c := by rw [Int32.sub_eq_add_neg, Int32.sub_eq_add_neg, Int32.add_assoc]
