/-! lines: the most cots apart, found -/
/-- no two of the set beside one another -/
def sv_apq (x : Nat) : Prop := ∀ c, c < 12 → ∀ o, o < c → ¬ (x.testBit c = true ∧ x.testBit o = true ∧ (sv_bes.getD c 0).testBit o = true)
theorem sv_apf_q {x : Nat} (hx : x < 4096) : sv_apf (nI x) = true ↔ sv_apq x := by
  have h := sv_apf_64 (x / 64) (by omega) (x % 64) (by omega)
  rw [Nat.div_add_mod] at h
  rw [h, List.all_eq_true]
  constructor
  · rintro g c hc o ho ⟨z1, z2, z3⟩
    rw [sv_E_bes c hc o ho, List.any_eq_true] at z3
    obtain ⟨e, he, ee⟩ := z3
    simp at ee
    have := g e he
    rw [ee.1, ee.2, z1, z2] at this
    cases this
  · intro g e he
    obtain ⟨e1, e2, e3⟩ := sv_E_ok e he
    have := g e.1 e1 e.2 e2
    cases q1 : x.testBit e.1
    · simp
    · cases q2 : x.testBit e.2
      · simp
      · exact absurd ⟨q1, q2, e3⟩ this
/-- all of the set have a sword, no two beside -/
def sv_okx (A : sv_A) (x : Nat) : Prop := (∀ c, c < 12 → x.testBit c = true → 0 ≤ sv_lie A.1 (A.2.1 0) c) ∧ sv_apq x
abbrev sv_cb (x : Nat) : Nat := sv_ct (fun i => x.testBit i) 12
noncomputable def sv_ba (A : sv_A) : Nat → Nat
  | 0 => 0
  | k + 1 => @ite _ (sv_okx A k ∧ sv_cb (sv_ba A k) < sv_cb k) (Classical.propDecidable _) k (sv_ba A k)
theorem sv_ba_y {A : sv_A} {k : Nat} (h : sv_okx A k ∧ sv_cb (sv_ba A k) < sv_cb k) : sv_ba A (k + 1) = k := @if_pos _ (Classical.propDecidable _) h _ _ _
theorem sv_ba_n {A : sv_A} {k : Nat} (h : ¬ (sv_okx A k ∧ sv_cb (sv_ba A k) < sv_cb k)) : sv_ba A (k + 1) = sv_ba A k := @if_neg _ (Classical.propDecidable _) h _ _ _
theorem sv_ba_le (A : sv_A) : ∀ k, sv_ba A k ≤ k := by
  intro k
  induction k with
  | zero => exact Nat.le_refl _
  | succ k ih =>
    by_cases h : sv_okx A k ∧ sv_cb (sv_ba A k) < sv_cb k
    · rw [sv_ba_y h]; omega
    · rw [sv_ba_n h]; omega
theorem sv_ba_1 (A : sv_A) : sv_ba A (0 + 1) = 0 := by
  have e0 : sv_ba A 0 = 0 := rfl
  rw [sv_ba_n (fun z => ?_), e0]
  have z2 := z.2
  rw [e0] at z2
  exact absurd z2 (Nat.lt_irrefl _)
theorem e4_areApart (N : Nat) {x : Nat} (S : sw_St) : (sv_apf (nI x) = true → fX4_areApart N (nI x) S = some (1, S)) ∧ (¬ sv_apf (nI x) = true → fX4_areApart N (nI x) S = some (0, S)) := by
  unfold fX4_areApart sv_apf
  by_cases h1 : (nI x &&& (nI x >>> ((6 : Int32) &&& 31))) = 0
  · rw [if_pos h1]
    by_cases h2 : ((nI x &&& (nI x >>> ((1 : Int32) &&& 31))) &&& ((32 : Int32) ^^^ (-1 : Int32))) = 0
    · rw [if_pos h2]
      exact ⟨fun _ => rfl, fun z => absurd (by rw [decide_eq_true h1, decide_eq_true h2]; rfl) z⟩
    · rw [if_neg h2]
      exact ⟨fun z => by (rw [decide_eq_false h2, Bool.and_false] at z; cases z), fun _ => rfl⟩
  · rw [if_neg h1]
    exact ⟨fun z => by (rw [decide_eq_false h1, Bool.false_and] at z; cases z), fun _ => rfl⟩
theorem sv_any_lie {A : sv_A} (hA : sv_wf A) (c : Nat) : ((List.range A.1).any (fun s => A.2.1 0 s == c)) = true ↔ 0 ≤ sv_lie A.1 (A.2.1 0) c := by
  rw [List.any_eq_true]
  rcases sv_lie_r hA c with ⟨s, hs, q1, q2⟩ | ⟨q1, q2⟩
  · rw [q2]
    exact ⟨fun _ => nI_pos' (by have := hA.1; omega), fun _ => ⟨s, List.mem_range.mpr hs, by simp [q1]⟩⟩
  · rw [q2]
    refine ⟨?_, fun z => absurd z (by decide)⟩
    rintro ⟨s, hs, e⟩
    exact absurd (by simpa using e) (q1 s (List.mem_range.mp hs))
theorem e4_mostApart (N : Nat) (hN : 5000 ≤ N) {S : sw_St} {A : sv_A} (h : sv_nc S 1 A) (hA : sv_wf A) : fX4_mostApart N 1 S = some (nI (sv_ba A 4096), S) := by
  have h10 := hA.1
  unfold fX4_mostApart
  refine sv_fr2 (Q := fun r => r = some (nI (sv_ba A 4096), S)) (fun k a b T => a = nI (sv_wb (fun c => (List.range k).any (fun s => A.2.1 0 s == c)) 12) ∧ b = nI k ∧ T = S) A.1 ?_ ?_ N _ _ S (by omega) ⟨rfl, rfl, rfl⟩
  · rintro k a b T rec hk ⟨rfl, rfl, rfl⟩
    left
    have hc := (hA.2.1 k hk).1
    have e1 : T.1 (1 + 1) k = nI (A.2.1 0 k) := h.2.1 0 k (by omega) (by omega)
    rw [if_neg (show ¬ nI k ≥ T.1 1 0 by rw [h.1]; exact nI_ge hk (by omega)), sv_gi (by omega) (by decide), sv_li, nI_clamp (by omega), e1, sv_shl _ (by omega), sv_or, sv_wb_or _ _ _ hc]
    refine ⟨_, _, _, ⟨?_, nI_1 k, rfl⟩, rfl⟩
    congr 1
    refine sv_wb_congr 12 (fun c _ => ?_)
    rw [List.range_succ, List.any_append]
    congr 1
    by_cases hcc : c = A.2.1 0 k
    · subst hcc; simp
    · simp [hcc, show ¬ A.2.1 0 k = c from fun z => hcc z.symm]
  · rintro a b T rec ⟨rfl, rfl, rfl⟩
    rw [if_pos (show nI A.1 ≥ T.1 1 0 by rw [h.1]; exact Int32.le_refl _)]
    refine sv_fr2 (Q := fun r => r = some (nI (sv_ba A 4096), T)) (fun k a b W => a = nI (sv_ba A (k + 1)) ∧ b = nI (k + 1) ∧ W = T) 4095 ?_ ?_ N _ _ T (by omega) ⟨?_, rfl, rfl⟩
    · rintro k a b W rec2 hk ⟨rfl, rfl, rfl⟩
      left
      have hx : k + 1 < 4096 := by omega
      have hbl := sv_ba_le A (k + 1)
      have hsub : (nI (k + 1) &&& (nI (sv_wb (fun c => (List.range A.1).any (fun s => A.2.1 0 s == c)) 12) ^^^ (-1 : Int32))) = 0 ↔ ∀ c, c < 12 → (k + 1).testBit c = true → 0 ≤ sv_lie A.1 (A.2.1 0) c := by
        have e := sv_new (fun i => (k + 1).testBit i) (fun c => (List.range A.1).any (fun s => A.2.1 0 s == c)) (n := 12) (m := 12) (Nat.le_refl _) (Nat.le_refl _)
        rw [sv_wb_x hx] at e
        rw [e]
        have lt := sv_wb_lt (fun i => (decide (i < 12) && (k + 1).testBit i) && !(decide (i < 12) && (List.range A.1).any (fun s => A.2.1 0 s == i))) 12
        constructor
        · intro z c hc hb
          have z2 := (sv_wb_0 _ 12).mp ((nI_eq (b := 0) (by omega) (by decide)).mp z) c hc
          rw [← sv_any_lie hA]
          cases q : (List.range A.1).any (fun s => A.2.1 0 s == c)
          · simp [hc, hb] at z2
            rw [List.any_eq_false] at q
            obtain ⟨s, hs1, hs2⟩ := z2
            exact absurd (by simpa using hs2) (q s (List.mem_range.mpr hs1))
          · rfl
        · intro z
          have : sv_wb (fun i => (decide (i < 12) && (k + 1).testBit i) && !(decide (i < 12) && (List.range A.1).any (fun s => A.2.1 0 s == i))) 12 = 0 := by
            rw [sv_wb_0]
            intro c hc
            cases hb : (k + 1).testBit c
            · simp
            · have := (sv_any_lie hA c).mpr (z c hc hb)
              rw [this]
              simp
          rw [this]
          rfl
      rw [if_neg (show ¬ nI (k + 1) ≥ (4096 : Int32) from nI_ge (b := 4096) hx (by decide)), sv_jn1, nI_1]
      obtain ⟨a1, a2⟩ := e4_areApart N (x := k + 1) W
      have skip : ¬ (sv_okx A (k + 1) ∧ sv_cb (sv_ba A (k + 1)) < sv_cb (k + 1)) → ∃ b0 b1 T', (b0 = nI (sv_ba A (k + 1 + 1)) ∧ b1 = nI (k + 1 + 1) ∧ T' = W) ∧ rec2 (nI (sv_ba A (k + 1))) (nI (k + 1 + 1)) W = rec2 b0 b1 T' := fun z => ⟨_, _, W, ⟨by rw [sv_ba_n z], rfl, rfl⟩, rfl⟩
      by_cases g1 : ∀ c, c < 12 → (k + 1).testBit c = true → 0 ≤ sv_lie A.1 (A.2.1 0) c
      · rw [if_pos (hsub.mpr g1)]
        dsimp only
        rw [if_neg sv_nz]
        by_cases g2 : sv_apf (nI (k + 1)) = true
        · have g3 : sv_okx A (k + 1) := ⟨g1, (sv_apf_q hx).mp g2⟩
          rw [a1 g2, sv_bd, if_neg sv_nz, e6_bc N hx, sv_bd, e6_bc N (by omega), sv_bd]
          have l1 : sv_cb (k + 1) ≤ 12 := sv_ct_le (fun i => (k + 1).testBit i) 12
          have l2 : sv_cb (sv_ba A (k + 1)) ≤ 12 := sv_ct_le (fun i => (sv_ba A (k + 1)).testBit i) 12
          by_cases g4 : sv_cb (sv_ba A (k + 1)) < sv_cb (k + 1)
          · rw [if_neg (show ¬ nI (sv_cb (k + 1)) ≤ nI (sv_cb (sv_ba A (k + 1))) from fun z => by have := (nI_leI (by omega) (by omega)).mp z; omega)]
            exact ⟨_, _, W, ⟨by rw [sv_ba_y ⟨g3, g4⟩], rfl, rfl⟩, rfl⟩
          · rw [if_pos (show nI (sv_cb (k + 1)) ≤ nI (sv_cb (sv_ba A (k + 1))) from (nI_leI (by omega) (by omega)).mpr (by omega))]
            exact skip (fun z => g4 z.2)
        · rw [a2 g2, sv_bd, if_pos rfl]
          exact skip (fun z => g2 ((sv_apf_q hx).mpr z.1.2))
      · rw [if_neg (fun z => g1 (hsub.mp z))]
        dsimp only
        rw [if_pos rfl]
        exact skip (fun z => g1 z.1.1)
    · rintro a b W rec2 ⟨rfl, rfl, rfl⟩
      rw [if_pos (show nI (4095 + 1) ≥ (4096 : Int32) by decide)]
    · rw [sv_ba_1]
      rfl
/-- is one cot of the set as it must be -/
def sv_gd1 (A : sv_A) (x c : Nat) : Prop := x.testBit c = true → (0 ≤ sv_lie A.1 (A.2.1 0) c ∧ ∀ o, o < c → ¬ (x.testBit o = true ∧ (sv_bes.getD c 0).testBit o = true))
theorem sv_gd1_ok {A : sv_A} {x : Nat} : (∀ c, c < 12 → sv_gd1 A x c) ↔ sv_okx A x := by
  constructor
  · intro h
    exact ⟨fun c hc hb => (h c hc hb).1, fun c hc o ho z => (h c hc z.1).2 o ho z.2⟩
  · intro h c hc hb
    exact ⟨h.1 c hc hb, fun o ho z => h.2 c hc o ho ⟨hb, z⟩⟩
