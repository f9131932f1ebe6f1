/-! a touch, and whom it comes to -/
def sv_t5 (m : Nat) : Nat := min 99 (m + 15)
abbrev sv_bs (c o : Nat) : Prop := (sv_bes.getD c 0).testBit o = true
abbrev sv_oc (A : sv_A) (c : Nat) : Prop := ∃ s, s < A.1 ∧ A.2.1 0 s = c
abbrev sv_wk (A : sv_A) (s : Nat) : Prop := ¬ sv_aw A s ∧ A.2.2 1 < sv_t5 (A.2.1 3 s)
/-- the cots that a touch at f comes to -/
def sv_R (A : sv_A) (f c : Nat) : Prop := ∀ P : Nat → Prop, (sv_oc A f → P f) → (∀ c s o, P c → s < A.1 → A.2.1 0 s = c → sv_wk A s → o < 12 → sv_bs c o → sv_oc A o → P o) → P c
theorem sv_R_b {A : sv_A} {f : Nat} (h : sv_oc A f) : sv_R A f f := fun _ hb _ => hb h
theorem sv_R_s {A : sv_A} {f c s o : Nat} (h : sv_R A f c) (hs : s < A.1) (hc : A.2.1 0 s = c) (hw : sv_wk A s) (ho : o < 12) (hb : sv_bs c o) (hq : sv_oc A o) : sv_R A f o := fun P hb' hs' => hs' c s o (h P hb' hs') hs hc hw ho hb hq
/-- the attic when the cots m have been touched -/
def sv_to (A : sv_A) (m : Nat → Bool) : sv_A := (A.1, fun k s => if k = 3 ∧ s < A.1 ∧ m (A.2.1 0 s) = true then sv_t5 (A.2.1 3 s) else A.2.1 k s, A.2.2)
def sv_ww (A : sv_A) (m : Nat → Bool) (s : Nat) : Bool := decide (s < A.1) && m (A.2.1 0 s) && decide (sv_wk A s)
theorem sv_t5_le (m : Nat) : sv_t5 m ≤ 99 := Nat.min_le_left _ _
theorem sv_to_r (A : sv_A) (m : Nat → Bool) {k : Nat} (hk : k ≠ 3) (s : Nat) : (sv_to A m).2.1 k s = A.2.1 k s := if_neg (fun z => hk z.1)
theorem sv_to_3 (A : sv_A) (m : Nat → Bool) {s : Nat} (hs : s < A.1) : (sv_to A m).2.1 3 s = if m (A.2.1 0 s) = true then sv_t5 (A.2.1 3 s) else A.2.1 3 s := by
  show (if 3 = 3 ∧ s < A.1 ∧ m (A.2.1 0 s) = true then _ else _) = _
  by_cases h : m (A.2.1 0 s) = true
  · rw [if_pos ⟨rfl, hs, h⟩, if_pos h]
  · rw [if_neg (fun z => h z.2.2), if_neg h]
theorem sv_to_wf {A : sv_A} (h : sv_wf A) (m : Nat → Bool) : sv_wf (sv_to A m) := by
  obtain ⟨h1, h2, h3, h4, h5, h6, h7, h8⟩ := h
  refine ⟨h1, fun s hs => ?_, fun s t hs ht e => ?_, h4, h5, h6, fun k s => ?_, fun k s hs hk => ?_⟩
  · have hs : s < A.1 := hs
    rw [sv_to_r A m (k := 0) (by decide), sv_to_r A m (k := 1) (by decide), sv_to_r A m (k := 2) (by decide), sv_to_r A m (k := 4) (by decide), sv_to_3 A m hs]
    obtain ⟨a, b, c, d, e⟩ := h2 s hs
    refine ⟨a, b, c, ?_, e⟩
    split
    · exact sv_t5_le _
    · exact d
  · rw [sv_to_r A m (by decide), sv_to_r A m (by decide)] at e
    exact h3 s t hs ht e
  · show (if k = 3 ∧ s < A.1 ∧ m (A.2.1 0 s) = true then _ else _) ≤ 99
    split
    · exact sv_t5_le _
    · exact h7 k s
  · have hs : A.1 ≤ s := hs
    show (if k = 3 ∧ s < A.1 ∧ m (A.2.1 0 s) = true then _ else _) = 0
    rw [if_neg (by omega)]
    exact h8 k s hs hk
theorem sv_to_congr {A : sv_A} (hA : sv_wf A) {m m' : Nat → Bool} (h : ∀ c, c < 12 → m c = m' c) : sv_to A m = sv_to A m' := by
  unfold sv_to
  congr 2
  funext k s
  by_cases hs : s < A.1
  · rw [h _ (hA.2.1 s hs).1]
  · rw [if_neg (fun z => hs z.2.1), if_neg (fun z => hs z.2.1)]
theorem sv_ww_congr {A : sv_A} (hA : sv_wf A) {m m' : Nat → Bool} (h : ∀ c, c < 12 → m c = m' c) (s : Nat) : sv_ww A m s = sv_ww A m' s := by
  unfold sv_ww
  by_cases hs : s < A.1
  · rw [h _ (hA.2.1 s hs).1]
  · simp [hs]
theorem sv_to_aw {A : sv_A} {m : Nat → Bool} {s : Nat} (hs : s < A.1) : (m (A.2.1 0 s) = false → (sv_aw (sv_to A m) s ↔ sv_aw A s)) ∧ (m (A.2.1 0 s) = true → (sv_aw (sv_to A m) s ↔ A.2.2 1 < sv_t5 (A.2.1 3 s))) := by
  constructor
  · intro h
    show A.2.2 1 < (sv_to A m).2.1 3 s ↔ _
    rw [sv_to_3 A m hs, if_neg (by rw [h]; decide)]
  · intro h
    show A.2.2 1 < (sv_to A m).2.1 3 s ↔ _
    rw [sv_to_3 A m hs, if_pos h]
theorem sv_to_ad {A : sv_A} (hA : sv_wf A) {m : Nat → Bool} {s c : Nat} (hs : s < A.1) (hc : A.2.1 0 s = c) : sv_st (sv_to A m) 3 s (sv_t5 (A.2.1 3 s)) = sv_to A (fun x => m x || decide (x = c)) := by
  unfold sv_st
  show (A.1, _, A.2.2) = (A.1, _, A.2.2)
  congr 2
  funext k t
  show (if k = 3 ∧ t = s then _ else (if k = 3 ∧ t < A.1 ∧ m (A.2.1 0 t) = true then _ else _)) = (if k = 3 ∧ t < A.1 ∧ (m (A.2.1 0 t) || decide (A.2.1 0 t = c)) = true then _ else _)
  by_cases hk : k = 3
  · subst hk
    by_cases hts : t = s
    · subst hts
      rw [if_pos ⟨rfl, rfl⟩, if_pos ⟨rfl, hs, by simp [hc]⟩]
    · rw [if_neg (fun z => hts z.2)]
      by_cases ht : t < A.1
      · have hne : ¬ A.2.1 0 t = c := fun e => hts (hA.2.2.1 t s ht hs (e.trans hc.symm))
        simp [hne]
      · rw [if_neg (fun z => ht z.2.1), if_neg (fun z => ht z.2.1)]
  · rw [if_neg (fun z => hk z.1), if_neg (fun z => hk z.1), if_neg (fun z => hk z.1)]
theorem sv_mn99 : ∀ m, m ≤ 99 → sw_mn (99 : Int32) (nI m + (15 : Int32)) = nI (sv_t5 m) := by decide +kernel
theorem sv_cl15 : ∀ m, m ≤ 99 → sv_cl (nI m + (15 : Int32)) = sv_t5 m := by decide +kernel
theorem sv_ww_ad {A : sv_A} (hA : sv_wf A) {m : Nat → Bool} {s c : Nat} (hs : s < A.1) (hc : A.2.1 0 s = c) (t : Nat) : sv_ww A (fun x => m x || decide (x = c)) t = (sv_ww A m t || (decide (t = s) && decide (sv_wk A s))) := by
  unfold sv_ww
  by_cases ht : t < A.1
  · by_cases hts : t = s
    · subst hts
      simp [ht, hc]
    · have hne : ¬ A.2.1 0 t = c := fun e => hts (hA.2.2.1 t s ht hs (e.trans hc.symm))
      simp [ht, hts, hne]
  · have hts : ¬ t = s := fun e => ht (e ▸ hs)
    simp [ht, hts]
theorem e4_isWokenByTouch (N : Nat) {S : sw_St} {o : Nat} {A : sv_A} {m : Nat → Bool} (hA : sv_wf A) (h : sv_nc S o (sv_to A m)) (h4 : S.1 o 4 = nI (sv_wb (sv_ww A m) 12)) {s c : Nat} (hs : s < A.1) (hc : A.2.1 0 s = c) (hm : m c = false) : ∃ V, fX4_isWokenByTouch N o (nI s) S = some (sv_B (sv_wk A s), V) ∧ sv_nc V o (sv_to A (fun x => m x || decide (x = c))) ∧ V.1 o 4 = nI (sv_wb (sv_ww A (fun x => m x || decide (x = c))) 12) ∧ sv_ag (fun a => a = o ∨ a = o + 4) S V := by
  have hn := hA.1
  have hw := sv_to_wf hA m
  unfold fX4_isWokenByTouch
  have em : S.1 (o + 4) s = nI (A.2.1 3 s) := by
    have := h.2.1 3 s (by decide) (by omega)
    rw [sv_to_3 A m hs, if_neg (by rw [hc, hm]; decide)] at this
    exact this
  rw [e4_isAwake N h hw (by omega), sv_bd, sv_gi (by omega) (by decide), sv_gi (by omega) (by decide), nI_clamp (by omega), em, sv_mn99 _ (hA.2.1 s hs).2.2.2.1, sv_ls]
  have n1 : sv_nc (sw_si S (o + 4) s (nI (sv_t5 (A.2.1 3 s)))) o (sv_to A (fun x => m x || decide (x = c))) := by
    rw [← sv_to_ad hA hs hc]
    exact sv_nc_st h 3 s _ (by decide) (by decide)
  have aw0 := (sv_to_aw (A := A) (m := m) hs).1 (by rw [hc]; exact hm)
  have aw1 := (sv_to_aw (A := A) (m := fun x => m x || decide (x = c)) hs).2 (by simp [hc])
  have hw1 := sv_to_wf hA (fun x => m x || decide (x = c))
  generalize hT : sw_si S (o + 4) s (nI (sv_t5 (A.2.1 3 s))) = T at *
  have gT : sv_ag (fun a => a = o ∨ a = o + 4) S T := by rw [← hT]; exact sv_ag_si S (o + 4) _ _ (Or.inr rfl)
  have t4 : T.1 o 4 = nI (sv_wb (sv_ww A m) 12) := by rw [← hT, sv_si, if_neg (by omega)]; exact h4
  -- what is kept when o's fourth field is written
  have keep : ∀ v : Int32, sv_nc (sw_si T o 4 v) o (sv_to A (fun x => m x || decide (x = c))) := by
    intro v
    refine ⟨?_, fun k t hk ht => ?_, fun j hj => ?_, fun q hq => ?_⟩
    · rw [sv_si, if_neg (by omega)]; exact n1.1
    · rw [sv_si, if_neg (by omega)]; exact n1.2.1 k t hk ht
    · rw [sv_si, if_neg (by omega)]; exact n1.2.2.1 j hj
    · rw [sv_si, if_neg (by omega)]; exact n1.2.2.2 q hq
  have gv : ∀ v : Int32, sv_ag (fun a => a = o ∨ a = o + 4) S (sw_si T o 4 v) := fun v => sv_ag_tr gT (sv_ag_si T o 4 _ (Or.inl rfl))
  have key : sw_jn1 (fun y1 S3 => if y1 = 0 then sw_ls (sw_si S3 o 4 (S3.1 o 4 ||| 0)) fun S4 => some (vp_nar FieldType.boolean y1, S4) else sw_ls (sw_si S3 o 4 (S3.1 o 4 ||| (1 : Int32) <<< (nI s &&& 31))) fun S5 => some (vp_nar FieldType.boolean y1, S5)) (fun k1 => if sv_B (sv_aw (sv_to A m) s) = 0 then sw_bd (fX4_isAwake N o (nI s) T) fun r2 S6 => if r2 = 0 then k1 0 S6 else k1 1 S6 else k1 0 T) = (if sv_wk A s then some ((1 : Int32), sw_si T o 4 (T.1 o 4 ||| (1 : Int32) <<< (nI s &&& 31))) else some ((0 : Int32), sw_si T o 4 (T.1 o 4 ||| 0))) := by
    rw [sv_jn1, sv_Bi, e4_isAwake N n1 hw1 (by omega), sv_bd, sv_Bi]
    by_cases a0 : sv_aw A s
    · rw [if_pos (aw0.mpr a0), if_neg (fun z => z.1 a0)]
      rfl
    · rw [if_neg (fun z => a0 (aw0.mp z))]
      by_cases a1 : A.2.2 1 < sv_t5 (A.2.1 3 s)
      · rw [if_pos (aw1.mpr a1), if_pos ⟨a0, a1⟩]
        rfl
      · rw [if_neg (fun z => a1 (aw1.mp z)), if_neg (fun z => a1 z.2)]
        rfl
  rw [key]
  by_cases hk : sv_wk A s
  · refine ⟨_, by rw [if_pos hk, sv_B_t hk], keep _, ?_, gv _⟩
    rw [sv_si, if_pos ⟨rfl, rfl⟩, t4, sv_shl s (by omega), sv_or, sv_wb_or _ _ _ (by omega)]
    congr 1
    refine sv_wb_congr 12 (fun t ht => ?_)
    rw [sv_ww_ad hA hs hc]
    simp [hk]
  · refine ⟨_, by rw [if_neg hk, sv_B_f hk], keep _, ?_, gv _⟩
    rw [sv_si, if_pos ⟨rfl, rfl⟩, t4, show (0 : Int32) = nI 0 from rfl, sv_or, Nat.or_zero]
    congr 1
    refine sv_wb_congr 12 (fun t ht => ?_)
    rw [sv_ww_ad hA hs hc]
    simp [hk]
