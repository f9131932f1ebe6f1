/-! the state of all cells, and the pieces of which the methods' pictures are made -/
abbrev sw_St : Type := (Nat → Nat → Int32) × (Nat → Nat → Int64)
abbrev sw_G : Type := Launch × Nat × va_G × ClassId × ClassId × ClassId × ClassId × (Nat → Nat)
abbrev sw_l (G : sw_G) : Launch := G.1
abbrev sw_B (G : sw_G) : Nat := G.2.1
abbrev sw_D (G : sw_G) : va_G := G.2.2.1
abbrev sw_cI (G : sw_G) : ClassId := G.2.2.2.1
abbrev sw_cJ (G : sw_G) : ClassId := G.2.2.2.2.1
abbrev sw_cN (G : sw_G) : ClassId := G.2.2.2.2.2.1
abbrev sw_cS (G : sw_G) : ClassId := G.2.2.2.2.2.2.1
abbrev sw_ta (G : sw_G) : Nat → Nat := G.2.2.2.2.2.2.2
abbrev sw_vr (G : sw_G) (i : Nat) : Value := .ref (sw_B G + i)
def sw_bd {α β : Type} (t : Option (α × sw_St)) (k : α → sw_St → Option β) : Option β := match t with
  | some q => k q.1 q.2
  | none => none
def sw_gd {β : Type} (b : Bool) (t : Option β) : Option β := match b with
  | true => t
  | false => none
def sw_in (i : Int32) (n : Nat) : Bool := !(decide (i < 0)) && decide (i.toNatClampNeg < n)
def sw_si (S : sw_St) (o k : Nat) (v : Int32) : sw_St := (fun a => if a = o then upd (S.1 o) k v else S.1 a, S.2)
def sw_sj (S : sw_St) (o k : Nat) (v : Int64) : sw_St := (S.1, fun a => if a = o then vp_updL (S.2 o) k v else S.2 a)
def sw_ci (S : sw_St) (o q sp dp n : Nat) : sw_St := (fun a => if a = q then va_cpy (S.1 o) (S.1 q) sp dp n else S.1 a, S.2)
def sw_cj (S : sw_St) (o q sp dp n : Nat) : sw_St := (S.1, fun a => if a = q then va_cpy (S.2 o) (S.2 q) sp dp n else S.2 a)
/-- may a stretch be copied -/
def sw_cg (sp dp n : Int32) (n0 n1 : Nat) : Bool := !(decide (sp < 0)) && (!(decide (dp < 0)) && (!(decide (n < 0)) && (decide (sp.toNatClampNeg + n.toNatClampNeg ≤ n0) && decide (dp.toNatClampNeg + n.toNatClampNeg ≤ n1))))
theorem sw_in_vp {i : Int32} {n : Nat} (h : sw_in i n = true) : vp_in i n := by
  unfold sw_in at h
  simp only [Bool.and_eq_true, Bool.not_eq_true', decide_eq_false_iff_not, decide_eq_true_eq] at h
  exact fun q => q.elim h.1 (fun z => Nat.not_le.mpr h.2 z)
theorem sw_gd_some {β : Type} {b : Bool} {t : Option β} {x : β} (h : sw_gd b t = some x) : b = true ∧ t = some x := by
  cases b
  · cases h
  · exact ⟨rfl, h⟩
theorem sw_bd_some {α β : Type} {t : Option (α × sw_St)} {k : α → sw_St → Option β} {x : β} (h : sw_bd t k = some x) : ∃ q, t = some q ∧ k q.1 q.2 = some x := by
  cases t with
  | none => cases h
  | some q => exact ⟨q, rfl, h⟩
/-! the world's list of cells -/
def sw_fs (G : sw_G) (S : sw_St) (i : Nat) : List Bool → Nat → List Value
  | [], _ => []
  | b :: bs, k => (match b with
    | true => sw_vr G (sw_rf i k)
    | false => .int (S.1 i k)) :: sw_fs G S i bs (k + 1)
def sw_wE (G : sw_G) (S : sw_St) (i : Nat) : va_E := match sw_kd i with
  | 10 => .inl (sw_cI G, sw_ln i, .inl (S.1 i))
  | 11 => .inl (sw_cJ G, sw_ln i, .inr (.inl (S.2 i)))
  | 12 => .inl (sw_cN G, sw_ln i, .inr (.inr (.inr (.inr (fun k => some (sw_B G + sw_rf i k))))))
  | 13 => .inl (sw_cS G, sw_ln i, .inr (.inr (.inr (.inr (fun k => some (sw_B G + sw_rf i k))))))
  | c => .inr (c, sw_fs G S i (sw_fl c) 0)
def sw_wL (G : sw_G) (S : sw_St) : va_W := (List.range 128).map (fun i => (sw_B G + i, sw_wE G S i))
abbrev sw_ty (G : sw_G) : List (ClassId × FieldType) := [(sw_cI G, .int), (sw_cJ G, .long), (sw_cN G, .object "SwordAttic$Night"), (sw_cS G, .object "SwordAttic$Shelf")]
def sw_fr (G : sw_G) : Nat → Prop := fun q => sw_B G ≤ q ∧ q < sw_B G + 128
theorem sw_wL_get (G : sw_G) (S : sw_St) {i : Nat} (h : i < 128) : (sw_wL G S)[i]? = some (sw_B G + i, sw_wE G S i) := by
  simp [sw_wL, List.getElem?_range, h]
theorem sw_fs_congr {G : sw_G} {S T : sw_St} {i : Nat} (h : S.1 i = T.1 i) : ∀ (bs : List Bool) (k : Nat), sw_fs G S i bs k = sw_fs G T i bs k := by
  intro bs
  induction bs with
  | nil => intro k; rfl
  | cons b bs ih => intro k; simp only [sw_fs, h, ih]
theorem sw_wE_congr {G : sw_G} {S T : sw_St} {i : Nat} (h : S.1 i = T.1 i) (h2 : S.2 i = T.2 i) : sw_wE G S i = sw_wE G T i := by
  unfold sw_wE
  split <;> simp only [h, h2, sw_fs_congr h]
theorem sw_wL_set {G : sw_G} {S T : sw_St} {i : Nat} {e : va_E} (hi : i < 128) (he : sw_wE G T i = e) (h1 : ∀ a, a ≠ i → S.1 a = T.1 a) (h2 : ∀ a, a ≠ i → S.2 a = T.2 a) : (sw_wL G S).set i (sw_B G + i, e) = sw_wL G T := by
  apply List.ext_getElem?
  intro k
  by_cases hk : k < 128
  · rw [sw_wL_get G T hk]
    by_cases hki : k = i
    · subst hki
      rw [List.getElem?_set_self (by simp [sw_wL, hi]), he]
    · rw [List.getElem?_set_ne (fun q => hki q.symm), sw_wL_get G S hk, sw_wE_congr (h1 k hki) (h2 k hki)]
  · rw [List.getElem?_eq_none (by simp [sw_wL]; omega), List.getElem?_eq_none (by simp [sw_wL]; omega)]
theorem sw_wD (G : sw_G) (S : sw_St) : va_D (sw_fr G) (sw_wL G S) := by
  have hlt : ∀ (k : Nat) (q : Nat × va_E), (sw_wL G S)[k]? = some q → k < 128 ∧ q.1 = sw_B G + k := by
    intro k q h
    by_cases hk : k < 128
    · rw [sw_wL_get G S hk] at h
      exact ⟨hk, by rw [← Option.some.inj h]⟩
    · rw [List.getElem?_eq_none (by simp [sw_wL]; omega)] at h
      cases h
  constructor
  · intro i j p q hi hj e
    have a := hlt i p hi
    have b := hlt j q hj
    omega
  · intro k q h
    have a := hlt k q h
    unfold sw_fr
    omega
theorem sw_fs_get (G : sw_G) (S : sw_St) (i : Nat) : ∀ (bs : List Bool) (k j : Nat) (b : Bool), bs[j]? = some b → (sw_fs G S i bs k)[j]? = some (match b with
    | true => sw_vr G (sw_rf i (k + j))
    | false => .int (S.1 i (k + j))) := by
  intro bs
  induction bs with
  | nil => intro k j b h; simp at h
  | cons b0 bs ih =>
    intro k j b h
    cases j with
    | zero =>
      simp only [List.getElem?_cons_zero, Option.some.injEq] at h
      subst h
      rfl
    | succ j =>
      simp only [List.getElem?_cons_succ] at h
      have := ih (k + 1) j b h
      simp only [sw_fs, List.getElem?_cons_succ]
      rw [this, show k + 1 + j = k + (j + 1) by omega]
theorem sw_fs_len (G : sw_G) (S : sw_St) (i : Nat) : ∀ (bs : List Bool) (k : Nat), (sw_fs G S i bs k).length = bs.length := by
  intro bs
  induction bs with
  | nil => intro k; rfl
  | cons b bs ih => intro k; simp only [sw_fs, List.length_cons, ih]
theorem sw_si_ne (S : sw_St) (o k : Nat) (v : Int32) (a : Nat) (h : a ≠ o) : S.1 a = (sw_si S o k v).1 a := by simp [sw_si, h]
theorem sw_si_at (S : sw_St) (o k : Nat) (v : Int32) : (sw_si S o k v).1 o = upd (S.1 o) k v := by simp [sw_si]
theorem sw_fs_set (G : sw_G) (S : sw_St) (i : Nat) (v : Int32) : ∀ (bs : List Bool) (k j : Nat), bs[j]? = some false → (sw_fs G S i bs k).set j (.int v) = sw_fs G (sw_si S i (k + j) v) i bs k := by
  intro bs
  induction bs with
  | nil => intro k j h; simp at h
  | cons b0 bs ih =>
    intro k j h
    cases j with
    | zero =>
      simp only [List.getElem?_cons_zero, Option.some.injEq] at h
      subst h
      simp only [sw_fs, List.set_cons_zero]
      congr 1
      · simp [sw_si, upd]
      · have hgen : ∀ (bs : List Bool) (n : Nat), k < n → sw_fs G S i bs n = sw_fs G (sw_si S i (k + 0) v) i bs n := by
          intro bs
          induction bs with
          | nil => intro n _; rfl
          | cons b bs ih2 =>
            intro n hn
            simp only [sw_fs]
            rw [ih2 (n + 1) (by omega)]
            congr 1
            have : ¬ n = k := by omega
            simp [sw_si, upd, this]
        exact hgen bs (k + 1) (by omega)
    | succ j =>
      simp only [List.getElem?_cons_succ] at h
      have := ih (k + 1) j h
      simp only [sw_fs, List.set_cons_succ]
      rw [this, show k + 1 + j = k + (j + 1) by omega]
      congr 1
      have : ¬ k = k + (j + 1) := by omega
      simp [sw_si, upd, this]
