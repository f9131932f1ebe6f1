/-! byTurns: moves, what comes of them -/
/-- behind a touch of the cot -/
noncomputable def sv_tm (A : sv_A) (f : Nat) : sv_A := sv_to A (fun c => @decide (sv_R A f c) (Classical.propDecidable _))
theorem sv_tm_eq {A : sv_A} (hA : sv_wf A) {f : Nat} {m : Nat → Bool} (h : ∀ c, c < 12 → (m c = true ↔ sv_R A f c)) : sv_to A m = sv_tm A f := by
  refine sv_to_congr hA (fun c hc => ?_)
  rw [Bool.eq_iff_iff, h c hc]
  exact (@decide_eq_true_iff _ (Classical.propDecidable _)).symm
theorem sv_tm_wf {A : sv_A} (hA : sv_wf A) (f : Nat) : sv_wf (sv_tm A f) := sv_to_wf hA _
theorem sv_tm_no {A : sv_A} (hA : sv_wf A) {f : Nat} (h : ∀ s, s < A.1 → A.2.1 0 s ≠ f) : sv_tm A f = A := by
  have e : sv_to A (fun _ => false) = sv_tm A f := by
    refine sv_tm_eq hA (fun c _ => ⟨fun z => by simp at z, fun z => ?_⟩)
    exact (z (fun _ => False) (fun ⟨t, ht, e⟩ => h t ht e) (fun _ _ _ z _ _ _ _ _ _ => z)).elim
  rw [← e]
  unfold sv_to
  refine Prod.ext rfl (Prod.ext ?_ rfl)
  funext k s
  exact if_neg (fun z => by simp at z)
/-- behind a telling of four at the cot -/
def sv_tl (A : sv_A) (v : Nat) : sv_A := (A.1, fun k s => if k = 3 ∧ s < A.1 ∧ A.2.1 0 s = v then sv_tv (nI (A.2.1 1 s)) (nI (A.2.1 3 s)) 4 else A.2.1 k s, A.2.2)
theorem sv_tl_at {A : sv_A} (hA : sv_wf A) {s v : Nat} (hs : s < A.1) (hv : A.2.1 0 s = v) : sv_tl A v = sv_st A 3 s (sv_tv (nI (A.2.1 1 s)) (nI (A.2.1 3 s)) 4) := by
  unfold sv_tl sv_st
  refine Prod.ext rfl (Prod.ext ?_ rfl)
  funext k t
  show (if k = 3 ∧ t < A.1 ∧ A.2.1 0 t = v then sv_tv (nI (A.2.1 1 t)) (nI (A.2.1 3 t)) 4 else A.2.1 k t) = (if k = 3 ∧ t = s then sv_tv (nI (A.2.1 1 s)) (nI (A.2.1 3 s)) 4 else A.2.1 k t)
  by_cases h : k = 3 ∧ t = s
  · obtain ⟨h1, h2⟩ := h
    subst h2
    rw [if_pos ⟨h1, hs, hv⟩, if_pos ⟨h1, rfl⟩]
  · rw [if_neg h, if_neg (fun z => h ⟨z.1, hA.2.2.1 t s z.2.1 hs (z.2.2.trans hv.symm)⟩)]
theorem sv_tl_no {A : sv_A} {v : Nat} (h : ∀ s, s < A.1 → A.2.1 0 s ≠ v) : sv_tl A v = A := by
  unfold sv_tl
  refine Prod.ext rfl (Prod.ext ?_ rfl)
  funext k t
  exact if_neg (fun z => h t z.2.1 z.2.2)
theorem sv_tl_wf {A : sv_A} (hA : sv_wf A) (v : Nat) : sv_wf (sv_tl A v) := by
  rcases sv_lie_r hA v with ⟨s, hs, q1, -⟩ | ⟨q1, -⟩
  · rw [sv_tl_at hA hs q1]
    exact sv_wf_st hA hs (by decide) (show _ ≤ sv_gr 3 from (sv_cl_eq _).2) (by decide)
  · rw [sv_tl_no q1]; exact hA
/-- the move of turn i: a cot, or none -/
noncomputable def sv_mo (A : sv_A) (i v : Nat) : sv_A := if v < 12 then (if i % 2 = 0 then sv_tl A v else sv_tm A v) else A
theorem sv_mo_wf {A : sv_A} (hA : sv_wf A) (i v : Nat) : sv_wf (sv_mo A i v) := by
  unfold sv_mo
  split
  · split
    · exact sv_tl_wf hA v
    · exact sv_tm_wf hA v
  · exact hA
theorem sv_mo_no {A : sv_A} (hA : sv_wf A) {i v : Nat} (h : ∀ s, s < A.1 → A.2.1 0 s ≠ v) : sv_mo A i v = A := by
  unfold sv_mo
  split
  · split
    · exact sv_tl_no h
    · exact sv_tm_no hA h
  · rfl
theorem sv_mo_st (A : sv_A) (i v : Nat) : (sv_mo A i v).1 = A.1 ∧ (∀ k, k ≠ 3 → (sv_mo A i v).2.1 k = A.2.1 k) ∧ (sv_mo A i v).2.2 = A.2.2 := by
  unfold sv_mo
  split
  · split
    · exact ⟨rfl, fun k hk => funext (fun s => if_neg (fun z => hk z.1)), rfl⟩
    · exact ⟨rfl, fun k hk => funext (fun s => if_neg (fun z => hk z.1)), rfl⟩
  · exact ⟨rfl, fun _ _ => rfl, rfl⟩
theorem sv_ns_mo {S : sw_St} {o : Nat} {A : sv_A} (i v : Nat) (h : sv_ns S o A) : sv_ns S o (sv_mo A i v) := sv_ns_ch h (sv_mo_st A i v).1 (sv_mo_st A i v).2.1 (fun j _ => by rw [(sv_mo_st A i v).2.2])
theorem sv_mo_ns {S : sw_St} {o : Nat} {A : sv_A} (i v : Nat) (h : sv_ns S o (sv_mo A i v)) : sv_ns S o A := sv_ns_ch h (sv_mo_st A i v).1.symm (fun k hk => ((sv_mo_st A i v).2.1 k hk).symm) (fun j _ => by rw [(sv_mo_st A i v).2.2])
/-- better for whose turn it is -/
def sv_tb2 (l a b : Nat) : Bool := if l % 2 = 0 then decide (a < b) else decide (b < a)
/-- the best of six cots from y on, nothing first, and which -/
def sv_mm (l y : Nat) (f : Nat → Nat) (b0 : Nat) : Nat → Nat × Nat
  | 0 => (b0, 12)
  | k + 1 => if sv_tb2 l (f k) (sv_mm l y f b0 k).1 = true then (f k, y + k) else sv_mm l y f b0 k
noncomputable def sv_val : Nat → Nat → sv_A → Nat
  | 0, _, A => sv_na A
  | j + 1, l, A => (sv_mm l (if l % 2 = 0 then 0 else 6) (fun k => sv_val j (l + 1) (sv_mo A l ((if l % 2 = 0 then 0 else 6) + k))) (sv_val j (l + 1) A) 6).1
theorem sv_mm_le {l y : Nat} {f : Nat → Nat} {b0 b : Nat} (h0 : b0 ≤ b) : ∀ k, (∀ i, i < k → f i ≤ b) → (sv_mm l y f b0 k).1 ≤ b := by
  intro k
  induction k with
  | zero => intro _; exact h0
  | succ k ih =>
    intro h
    unfold sv_mm
    split
    · exact h k (by omega)
    · exact ih (fun i hi => h i (by omega))
theorem sv_val_le : ∀ (j l : Nat) (A : sv_A), sv_val j l A ≤ 12
  | 0, _, A => sv_na_le A
  | j + 1, l, A => sv_mm_le (sv_val_le j (l + 1) A) 6 (fun i _ => sv_val_le j (l + 1) _)
theorem sv_tb2_tr {l a b c : Nat} (h : ¬ sv_tb2 l a b = true) (g : sv_tb2 l c b = true) : ¬ sv_tb2 l a c = true := by
  unfold sv_tb2 at *
  by_cases e : l % 2 = 0
  · simp only [e, if_true, decide_eq_true_iff] at *; omega
  · simp only [e, if_false, decide_eq_true_iff] at *; omega
theorem sv_tb2_ir (l a : Nat) : ¬ sv_tb2 l a a = true := by
  unfold sv_tb2
  split <;> simp
theorem sv_mm_b0 {l y : Nat} {f : Nat → Nat} {b0 : Nat} : ∀ k, ¬ sv_tb2 l b0 (sv_mm l y f b0 k).1 = true := by
  intro k
  induction k with
  | zero => exact sv_tb2_ir l b0
  | succ k ih =>
    unfold sv_mm
    by_cases h : sv_tb2 l (f k) (sv_mm l y f b0 k).1 = true
    · rw [if_pos h]
      exact sv_tb2_tr ih h
    · rw [if_neg h]
      exact ih
/-- which: the first that is as good as the best -/
theorem sv_mm_ch {y : Nat} {f : Nat → Nat} {b0 : Nat} : ∀ k, ((sv_mm 0 y f b0 k).2 = 12 ∧ (sv_mm 0 y f b0 k).1 = b0 ∧ ∀ i, i < k → b0 ≤ f i) ∨ ∃ t, t < k ∧ (sv_mm 0 y f b0 k).2 = y + t ∧ f t = (sv_mm 0 y f b0 k).1 ∧ (sv_mm 0 y f b0 k).1 < b0 ∧ ∀ i, i < t → (sv_mm 0 y f b0 k).1 < f i := by
  intro k
  induction k with
  | zero => exact Or.inl ⟨rfl, rfl, fun i hi => absurd hi (Nat.not_lt_zero i)⟩
  | succ k ih =>
    have e : sv_mm 0 y f b0 (k + 1) = if sv_tb2 0 (f k) (sv_mm 0 y f b0 k).1 = true then (f k, y + k) else sv_mm 0 y f b0 k := rfl
    have e2 : sv_tb2 0 (f k) (sv_mm 0 y f b0 k).1 = true ↔ f k < (sv_mm 0 y f b0 k).1 := by unfold sv_tb2; simp
    rw [e]
    by_cases h : f k < (sv_mm 0 y f b0 k).1
    · rw [if_pos (e2.mpr h)]
      right
      refine ⟨k, by omega, rfl, rfl, ?_, fun i hi => ?_⟩
      · show f k < b0
        rcases ih with ⟨-, h2, -⟩ | ⟨t, -, -, -, h2, -⟩ <;> omega
      · show f k < f i
        rcases ih with ⟨-, h2, h3⟩ | ⟨t, ht, -, h1, h2, h3⟩
        · have := h3 i hi; omega
        · by_cases q : i < t
          · have := h3 i q; omega
          · -- behind t nothing was better
            have := sv_mm_min (y := y) (f := f) (b0 := b0) k i hi
            omega
    · rw [if_neg (fun z => h (e2.mp z))]
      rcases ih with ⟨h1, h2, h3⟩ | ⟨t, ht, h0, h1, h2, h3⟩
      · refine Or.inl ⟨h1, h2, fun i hi => ?_⟩
        by_cases q : i = k
        · subst q; omega
        · exact h3 i (by omega)
      · exact Or.inr ⟨t, by omega, h0, h1, h2, h3⟩
where
  sv_mm_min {y : Nat} {f : Nat → Nat} {b0 : Nat} : ∀ k i, i < k → (sv_mm 0 y f b0 k).1 ≤ f i := by
    intro k
    induction k with
    | zero => intro i hi; omega
    | succ k ih =>
      intro i hi
      have e : sv_mm 0 y f b0 (k + 1) = if sv_tb2 0 (f k) (sv_mm 0 y f b0 k).1 = true then (f k, y + k) else sv_mm 0 y f b0 k := rfl
      have e2 : sv_tb2 0 (f k) (sv_mm 0 y f b0 k).1 = true ↔ f k < (sv_mm 0 y f b0 k).1 := by unfold sv_tb2; simp
      rw [e]
      by_cases h : f k < (sv_mm 0 y f b0 k).1
      · rw [if_pos (e2.mpr h)]
        show f k ≤ f i
        by_cases q : i = k
        · subst q; omega
        · have := ih i (by omega); omega
      · rw [if_neg (fun z => h (e2.mp z))]
        by_cases q : i = k
        · subst q; omega
        · exact ih i (by omega)
theorem sv_par : ∀ l, l < 5 → (nI l - nI l / (2 : Int32) * (2 : Int32)) = nI (l % 2) := by decide +kernel
/-- the class's loop over six cots -/
theorem e7_six (N : Nat) (hN : 20 ≤ N) {A : sv_A} (hA : sv_wf A) {l y o : Nat} (hy : y ≤ 6) {f : Nat → Nat} {b0 : Nat} (hf : ∀ k, k < 6 → f k ≤ 12) (hb : b0 ≤ 12) (he : ∀ k, k < 6 → (∀ s, s < A.1 → A.2.1 0 s ≠ y + k) → f k = b0) {Inv : sw_St → Prop} (hI : ∀ W, Inv W → ∀ c, c < 12 → W.1 (o + 6) c = sv_lie A.1 (A.2.1 0) c) (hI2 : ∀ W v, Inv W → Inv (sw_si W 23 6 v)) {RR : Int32 → sw_St → Option (Int32 × sw_St)} (hR : ∀ W k, k < 6 → Inv W → ∃ V, RR (nI (y + k)) W = some (nI (f k), V) ∧ Inv V) {K : Int32 → Int32 → Option (Int32 × sw_St) → Option (Int32 × sw_St) → Option (Int32 × sw_St)} (hK : ∀ a b p q, a ≤ 12 → b ≤ 12 → K (nI a) (nI b) p q = if sv_tb2 l a b = true then q else p) {S : sw_St} (hS : Inv S) : ∃ V, (sw_fx3 (fun rec2 x6_2 x7_2 x8_2 S10 => (if x8_2 ≥ (nI y + (6 : Int32)) then (sw_ls (sw_si S10 23 6 x6_2) (fun S11 => (some (x7_2, S11)))) else (sw_gd (sw_in x8_2 12) (if (S10.1 (o + 6) x8_2.toNatClampNeg) ≥ 0 then (sw_bd (RR x8_2 S10) (fun r6 S12 => K r6 x7_2 (rec2 x6_2 x7_2 (x8_2 + (1 : Int32)) S12) (rec2 x8_2 r6 (x8_2 + (1 : Int32)) S12))) else (rec2 x6_2 x7_2 (x8_2 + (1 : Int32)) S10))))) N (12 : Int32) (nI b0) (nI y) S) = some (nI (sv_mm l y f b0 6).1, V) ∧ V.1 23 6 = nI (sv_mm l y f b0 6).2 ∧ Inv V := by
  have h6 : nI y + (6 : Int32) = nI (y + 6) := nI_add y 6
  rw [h6]
  refine sv_fr3 (Q := fun r => ∃ V, r = some (nI (sv_mm l y f b0 6).1, V) ∧ V.1 23 6 = nI (sv_mm l y f b0 6).2 ∧ Inv V) (fun k a b c T => a = nI (sv_mm l y f b0 k).2 ∧ b = nI (sv_mm l y f b0 k).1 ∧ c = nI (y + k) ∧ Inv T) 6 ?_ ?_ N _ _ _ S (by omega) ⟨rfl, rfl, rfl, hS⟩
  · rintro k a b c T rec hk ⟨rfl, rfl, rfl, hT⟩
    left
    have es : sv_mm l y f b0 (k + 1) = if sv_tb2 l (f k) (sv_mm l y f b0 k).1 = true then (f k, y + k) else sv_mm l y f b0 k := rfl
    have hm : (sv_mm l y f b0 k).1 ≤ 12 := sv_mm_le hb k (fun i hi => hf i (by omega))
    rw [if_neg (show ¬ nI (y + k) ≥ nI (y + 6) from nI_ge (by omega) (by omega)), sv_gi (by omega) (by decide), nI_clamp (by omega), hI T hT (y + k) (by omega)]
    rcases sv_lie_r hA (y + k) with ⟨s, hs, q1, q2⟩ | ⟨q1, q2⟩
    · obtain ⟨V, hV, iV⟩ := hR T k hk hT
      rw [q2, if_pos (show nI s ≥ (0 : Int32) from nI_pos' (by have := hA.1; omega)), hV, sv_bd, hK _ _ _ _ (hf k hk) hm, nI_1]
      by_cases hb : sv_tb2 l (f k) (sv_mm l y f b0 k).1 = true
      · rw [if_pos hb]
        exact ⟨_, _, _, V, ⟨by rw [es, if_pos hb], by rw [es, if_pos hb], rfl, iV⟩, rfl⟩
      · rw [if_neg hb]
        exact ⟨_, _, _, V, ⟨by rw [es, if_neg hb], by rw [es, if_neg hb], rfl, iV⟩, rfl⟩
    · rw [q2, if_neg (by decide), nI_1]
      have hb : ¬ sv_tb2 l (f k) (sv_mm l y f b0 k).1 = true := by rw [he k hk q1]; exact sv_mm_b0 k
      exact ⟨_, _, _, T, ⟨by rw [es, if_neg hb], by rw [es, if_neg hb], rfl, hT⟩, rfl⟩
  · rintro a b c T rec ⟨rfl, rfl, rfl, hT⟩
    rw [if_pos (show nI (y + 6) ≥ nI (y + 6) from Int32.le_refl _), sv_ls]
    exact ⟨_, rfl, by rw [sv_si, if_pos ⟨rfl, rfl⟩], hI2 T _ hT⟩
