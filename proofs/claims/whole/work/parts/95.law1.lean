/-! the law: tape, reader, stack -/
def sv_jn (op a b : Int32) : Int32 := if op = 37 then (if b = 0 then 0 else a - a / b * b) else if op = 38 then (if a = 0 then 0 else if b = 0 then 0 else 1) else if op = 42 then a * b else if op = 43 then a + b else if op = 45 then a - b else if op = 47 then (if b = 0 then 0 else a / b) else if op = 60 then (if a ≥ b then 0 else 1) else if op = 61 then (if a = b then 1 else 0) else if op = 62 then (if a ≤ b then 0 else 1) else (if a = 0 then (if b = 0 then 0 else 1) else 1)
theorem sv_ifs {β : Type} {c : Prop} [Decidable c] (x y : Int32) (f : Int32 → β) : (if c then f x else f y) = f (if c then x else y) := by
  by_cases h : c
  · rw [if_pos h, if_pos h]
  · rw [if_neg h, if_neg h]
theorem e3_joined (N : Nat) (op a b : Int32) (S : sw_St) : fX3_joined N op a b S = some (sv_jn op a b, S) := by
  have g : ∀ t : Option (Int32 × sw_St), ¬ b = 0 → sw_gd (!decide (b = 0)) t = t := fun t h => by rw [decide_eq_false h]; rfl
  have d : (if a = 0 then (if b = 0 then (some ((0 : Int32), S)) else (some ((1 : Int32), S))) else (some ((1 : Int32), S))) = some ((if a = 0 then (if b = 0 then 0 else 1) else 1), S) := by
    by_cases h1 : a = 0
    · by_cases h2 : b = 0
      · rw [if_pos h1, if_pos h2, if_pos h1, if_pos h2]
      · rw [if_pos h1, if_neg h2, if_pos h1, if_neg h2]
    · rw [if_neg h1, if_neg h1]
  unfold fX3_joined sv_jn
  rw [d]
  by_cases h37 : op = 37
  · rw [if_pos h37, if_pos h37]
    by_cases h : b = 0
    · rw [if_pos h, if_pos h]
    · rw [if_neg h, if_neg h, g _ h]
  rw [if_neg h37, if_neg h37]
  by_cases h38 : op = 38
  · rw [if_pos h38, if_pos h38]
    by_cases h1 : a = 0
    · rw [if_pos h1, if_pos h1]
    · rw [if_neg h1, if_neg h1]
      by_cases h2 : b = 0
      · rw [if_pos h2, if_pos h2]
      · rw [if_neg h2, if_neg h2]
  rw [if_neg h38, if_neg h38]
  by_cases h42 : op = 42
  · subst h42; rfl
  by_cases h43 : op = 43
  · subst h43; rfl
  by_cases h45 : op = 45
  · subst h45; rfl
  by_cases h47 : op = 47
  · subst h47
    by_cases h : b = 0
    · subst h; rfl
    · show (if b = 0 then (some ((0 : Int32), S)) else (sw_gd (!decide (b = 0)) (some ((a / b), S)))) = some ((if b = 0 then 0 else a / b), S)
      rw [if_neg h, if_neg h, g _ h]
  by_cases h60 : op = 60
  · subst h60
    show (if a ≥ b then (some ((0 : Int32), S)) else (some ((1 : Int32), S))) = some ((if a ≥ b then 0 else 1), S)
    by_cases h : a ≥ b
    · rw [if_pos h, if_pos h]
    · rw [if_neg h, if_neg h]
  by_cases h61 : op = 61
  · subst h61
    show (if a = b then (some ((1 : Int32), S)) else (some ((0 : Int32), S))) = some ((if a = b then 1 else 0), S)
    by_cases h : a = b
    · rw [if_pos h, if_pos h]
    · rw [if_neg h, if_neg h]
  by_cases h62 : op = 62
  · subst h62
    show (if a ≤ b then (some ((0 : Int32), S)) else (some ((1 : Int32), S))) = some ((if a ≤ b then 0 else 1), S)
    by_cases h : a ≤ b
    · rw [if_pos h, if_pos h]
    · rw [if_neg h, if_neg h]
  rw [if_neg h42, if_neg h43, if_neg h45, if_neg h47, if_neg h60, if_neg h61, if_neg h62]
  simp only [h42, h43, h45, h47, h60, h61, h62, if_false, ite_self]
theorem sv_gdl : ∀ (Γ D : List (Int32 × Int32)) (i : Nat), i < Γ.length → (Γ ++ D).getD i (0, 0) = Γ.getD i (0, 0)
  | [], _, i, h => absurd h (Nat.not_lt_zero i)
  | _ :: _, _, 0, _ => rfl
  | _ :: Γ, D, i + 1, h => sv_gdl Γ D i (Nat.lt_of_succ_lt_succ h)
theorem sv_gdr : ∀ (Γ D : List (Int32 × Int32)) (i : Nat), (Γ ++ D).getD (Γ.length + i) (0, 0) = D.getD i (0, 0)
  | [], D, i => by rw [List.nil_append]; show D.getD (0 + i) _ = _; rw [Nat.zero_add]
  | x :: Γ, D, i => by
    have e : (x :: Γ).length + i = (Γ.length + i) + 1 := by show Γ.length + 1 + i = _; omega
    rw [e]
    exact sv_gdr Γ D i
/-- one step of a stack, and steps -/
def sv_st1 (ν : Nat → Int32) (x : Int32 × Int32) (st : List Int32) : Option (List Int32) :=
  if x.1 = 48 then some (x.2 :: st)
  else if x.1 = 110 then some ((if 0 ≤ x.2 ∧ x.2 ≤ 5 then ν x.2.toNatClampNeg else 0) :: st)
  else if x.1 = 59 ∨ x.1 = 63 then none
  else match st with
    | [] => none
    | a :: r => if x.1 = 126 then some ((-a) :: r) else if x.1 = 33 then some ((if a = 0 then 1 else 0) :: r) else match r with
      | [] => none
      | b :: r2 => some (sv_jn x.1 b a :: r2)
def sv_ex2 (ν : Nat → Int32) : List (Int32 × Int32) → List Int32 → Option (List Int32)
  | [], st => some st
  | x :: C, st => (sv_st1 ν x st).bind (sv_ex2 ν C)
theorem sv_ex2_ap (ν : Nat → Int32) : ∀ (C D : List (Int32 × Int32)) (st : List Int32), sv_ex2 ν (C ++ D) st = (sv_ex2 ν C st).bind (sv_ex2 ν D)
  | [], D, st => rfl
  | x :: C, D, st => by
    show (sv_st1 ν x st).bind (sv_ex2 ν (C ++ D)) = ((sv_st1 ν x st).bind (sv_ex2 ν C)).bind (sv_ex2 ν D)
    cases h : sv_st1 ν x st with
    | none => rfl
    | some st' => exact sv_ex2_ap ν C D st'
theorem sv_ex2_1 (ν : Nat → Int32) (x : Int32 × Int32) (st : List Int32) : sv_ex2 ν [x] st = sv_st1 ν x st := by
  show (sv_st1 ν x st).bind (fun s => some s) = _
  cases sv_st1 ν x st <;> rfl
/-- an op that joins two -/
def sv_bo (op : Int32) : Prop := op = 37 ∨ op = 38 ∨ op = 42 ∨ op = 43 ∨ op = 45 ∨ op = 47 ∨ op = 60 ∨ op = 61 ∨ op = 62 ∨ op = 124
theorem sv_st1_bo (ν : Nat → Int32) {op : Int32} (h : sv_bo op) (w a b : Int32) (r : List Int32) : sv_st1 ν (op, w) (a :: b :: r) = some (sv_jn op b a :: r) := by
  unfold sv_bo at h
  rcases h with rfl | rfl | rfl | rfl | rfl | rfl | rfl | rfl | rfl | rfl <;> rfl
/-- the class's reader at a place of the tape -/
def sv_kc (β : Nat → Int32) (n : Nat) (S : sw_St) (p : Nat) (f : Int32) (Γ : List (Int32 × Int32)) : Prop := S.1 16 0 = nI n ∧ S.1 16 3 = nI p ∧ S.1 16 4 = f ∧ p ≤ n ∧ n ≤ 120 ∧ (f = -1 ∨ ∃ k : Nat, k ≤ 120 ∧ f = nI k) ∧ (∀ i, i < n → S.1 22 i = β i) ∧ S.1 17 1 = nI Γ.length ∧ Γ.length ≤ p + 1 ∧ ∀ i, i < Γ.length → S.1 18 i = (Γ.getD i (0, 0)).1 ∧ S.1 19 i = (Γ.getD i (0, 0)).2
/-- the reference's reader at a place -/
def sv_kr (β : Nat → Int32) (n : Nat) (T : sw_St) (p : Nat) (f : Int32) (u : Nat) : Prop := T.1 105 12 = nI p ∧ T.1 105 13 = nI n ∧ T.1 105 14 = f ∧ (f = -1 → T.1 105 15 = nI u) ∧ ((T.1 105 11 = -1 ∧ ∀ i, i < n → T.1 110 i = β i) ∨ (T.1 105 11 = 0 ∧ ∀ i, i < n → T.1 111 i = β i))
/-- the byte there -/
def sv_nx2 (β : Nat → Int32) (n p : Nat) (f : Int32) : Int32 := if f ≥ 0 then -1 else if p < n then β p else -1
theorem sv_nx2_is {β : Nat → Int32} {n p : Nat} {f c : Int32} (hf : f = -1 ∨ ∃ k : Nat, k ≤ 120 ∧ f = nI k) (hc : c ≠ -1) : sv_nx2 β n p f = c ↔ f = -1 ∧ p < n ∧ β p = c := by
  unfold sv_nx2
  rcases hf with rfl | ⟨k, hk, rfl⟩
  · rw [if_neg (by decide)]
    by_cases h : p < n
    · rw [if_pos h]
      exact ⟨fun z => ⟨rfl, h, z⟩, fun z => z.2.2⟩
    · rw [if_neg h]
      exact ⟨fun z => absurd z.symm hc, fun z => absurd z.2.1 h⟩
  · rw [if_pos (show nI k ≥ (0 : Int32) from nI_pos' (by omega))]
    exact ⟨fun z => absurd z.symm hc, fun z => absurd z.1 (fun y => absurd (show nI k ≥ (0 : Int32) from nI_pos' (by omega)) (by rw [y]; decide))⟩
theorem e6_next (N : Nat) {β : Nat → Int32} {n : Nat} {S : sw_St} {p : Nat} {f : Int32} {Γ : List (Int32 × Int32)} (h : sv_kc β n S p f Γ) : fX6_next N S = some (sv_nx2 β n p f, S) := by
  obtain ⟨h1, h2, h3, h4, h5, h6, h7, -⟩ := h
  unfold fX6_next sv_nx2
  rw [h3]
  by_cases hf : f ≥ 0
  · rw [if_pos hf, if_pos hf]
  · rw [if_neg hf, if_neg hf, e8_within, sv_bd, sv_Bi, h1, h2]
    by_cases hp : p < n
    · rw [if_pos ((sv_swI (by omega) _).mpr ⟨p, hp, rfl⟩), if_pos hp, sv_gi (by omega) (by decide), nI_clamp (by omega), h7 p hp]
    · rw [if_neg (fun z => by
        obtain ⟨j, hj, e⟩ := (sv_swI (by omega) _).mp z
        have := (nI_eq (by omega) (by omega)).mp e
        omega), if_neg hp]
def sv_by (β : Nat → Int32) (n p : Nat) : Int32 := if p < n then β p else 0
theorem e9_byteAt (N : Nat) {β : Nat → Int32} {n : Nat} {T : sw_St} {p : Nat} {f : Int32} {u : Nat} (h : sv_kr β n T p f u) (hp : p ≤ n) (hn : n ≤ 120) : fX9_byteAt N T = some (sv_by β n p, T) := by
  obtain ⟨h1, h2, h3, h4, h5⟩ := h
  unfold fX9_byteAt sv_by
  rw [h1, h2]
  by_cases hq : p < n
  · rw [if_neg (show ¬ nI p ≥ nI n from nI_ge hq (by omega)), if_pos hq]
    rcases h5 with ⟨b1, b2⟩ | ⟨b1, b2⟩
    · rw [b1, if_neg (by decide), sv_gi (by omega) (by decide), nI_clamp (by omega), b2 p hq]
    · rw [b1, if_pos (by decide), show (0 : Int32) + nI p = nI p from Int32.zero_add _, sv_gi (by omega) (by decide), nI_clamp (by omega), b2 p hq]
  · rw [if_pos (show nI p ≥ nI n from (nI_leI (by omega) (by omega)).mpr (by omega)), if_neg hq]
theorem sv_by_nx {β : Nat → Int32} {n p : Nat} {c : Int32} (hc : c ≠ -1) (hc0 : c ≠ 0) : sv_by β n p = c ↔ sv_nx2 β n p (-1) = c := by
  unfold sv_by sv_nx2
  rw [if_neg (show ¬ ((-1 : Int32) ≥ 0) by decide)]
  by_cases h : p < n
  · rw [if_pos h, if_pos h]
  · rw [if_neg h, if_neg h]
    exact ⟨fun z => absurd z.symm hc0, fun z => absurd z.symm hc⟩
/-- frames of the two readers -/
abbrev sv_kP (a : Nat) : Prop := 16 ≤ a ∧ a ≤ 19
abbrev sv_kF (k : Nat) : Prop := 11 ≤ k ∧ k ≤ 15
theorem sv_rr_5 (T : sw_St) {k : Nat} (hk : sv_kF k) (v : Int32) : sv_rr (fun _ => False) sv_kF T (sw_si T 105 k v) := by
  refine ⟨fun a ha _ => ?_, fun q hq => ?_, rfl⟩
  · exact ⟨by funext q; rw [sv_si, if_neg (fun z => ha z.1)], rfl⟩
  · rw [sv_si, if_neg (fun z => hq (by rw [z.2]; exact hk))]
/-- on by one byte -/
theorem sv_kc_on {β : Nat → Int32} {n : Nat} {S : sw_St} {p : Nat} {f : Int32} {Γ : List (Int32 × Int32)} (h : sv_kc β n S p f Γ) (hp : p < n) : sv_kc β n (sw_si S 16 3 (S.1 16 3 + 1)) (p + 1) f Γ := by
  obtain ⟨h1, h2, h3, h4, h5, h6, h7, h8, h9, h10⟩ := h
  refine ⟨?_, ?_, ?_, hp, h5, h6, fun i hi => ?_, ?_, by omega, fun i hi => ?_⟩
  · rw [sv_si, if_neg (by omega)]; exact h1
  · rw [sv_si, if_pos ⟨rfl, rfl⟩, h2, nI_1]
  · rw [sv_si, if_neg (by omega)]; exact h3
  · rw [sv_si, if_neg (by omega)]; exact h7 i hi
  · rw [sv_si, if_neg (by omega)]; exact h8
  · rw [sv_si, if_neg (by omega), sv_si, if_neg (by omega)]; exact h10 i hi
theorem sv_kr_on {β : Nat → Int32} {n : Nat} {T : sw_St} {p : Nat} {f : Int32} {u : Nat} (h : sv_kr β n T p f u) : sv_kr β n (sw_si T 105 12 (T.1 105 12 + 1)) (p + 1) f u := by
  obtain ⟨h1, h2, h3, h4, h5⟩ := h
  refine ⟨?_, ?_, ?_, fun z => ?_, ?_⟩
  · rw [sv_si, if_pos ⟨rfl, rfl⟩, h1, nI_1]
  · rw [sv_si, if_neg (by omega)]; exact h2
  · rw [sv_si, if_neg (by omega)]; exact h3
  · rw [sv_si, if_neg (by omega)]; exact h4 z
  · rcases h5 with ⟨b1, b2⟩ | ⟨b1, b2⟩
    · exact Or.inl ⟨by rw [sv_si, if_neg (by omega)]; exact b1, fun i hi => by rw [sv_si, if_neg (by omega)]; exact b2 i hi⟩
    · exact Or.inr ⟨by rw [sv_si, if_neg (by omega)]; exact b1, fun i hi => by rw [sv_si, if_neg (by omega)]; exact b2 i hi⟩
theorem e3_add (N : Nat) {β : Nat → Int32} {n : Nat} {S : sw_St} {p : Nat} {f : Int32} {Γ : List (Int32 × Int32)} (h : sv_kc β n S p f Γ) (hl : Γ.length ≤ p) (op w : Int32) : ∃ S', fX3_add N 17 op w S = some ((), S') ∧ sv_kc β n S' p f (Γ ++ [(op, w)]) ∧ sv_ag sv_kP S S' := by
  obtain ⟨h1, h2, h3, h4, h5, h6, h7, h8, h9, h10⟩ := h
  unfold fX3_add
  rw [h8, if_neg (show ¬ nI Γ.length ≥ (128 : Int32) from nI_ge (b := 128) (by omega) (by decide)), sv_gi (by omega) (by decide), nI_clamp (by omega), sv_ls]
  rw [show (sw_si S (17 + 1) Γ.length op).1 17 1 = nI Γ.length by rw [sv_si, if_neg (by omega)]; exact h8, sv_gi (by omega) (by decide), nI_clamp (by omega), sv_ls, sv_ls]
  rw [show (sw_si (sw_si S (17 + 1) Γ.length op) (17 + 2) Γ.length w).1 17 1 = nI Γ.length by rw [sv_si, if_neg (by omega), sv_si, if_neg (by omega)]; exact h8, nI_1]
  refine ⟨_, rfl, ⟨?_, ?_, ?_, h4, h5, h6, fun i hi => ?_, ?_, ?_, fun i hi => ?_⟩, sv_ag_tr (sv_ag_si _ (17 + 1) _ _ (by unfold sv_kP; omega)) (sv_ag_tr (sv_ag_si _ (17 + 2) _ _ (by unfold sv_kP; omega)) (sv_ag_si _ 17 _ _ (by unfold sv_kP; omega)))⟩
  · rw [sv_si, if_neg (by omega), sv_si, if_neg (by omega), sv_si, if_neg (by omega)]; exact h1
  · rw [sv_si, if_neg (by omega), sv_si, if_neg (by omega), sv_si, if_neg (by omega)]; exact h2
  · rw [sv_si, if_neg (by omega), sv_si, if_neg (by omega), sv_si, if_neg (by omega)]; exact h3
  · rw [sv_si, if_neg (by omega), sv_si, if_neg (by omega), sv_si, if_neg (by omega)]; exact h7 i hi
  · rw [sv_si, if_pos ⟨rfl, rfl⟩, List.length_append]; rfl
  · rw [List.length_append]; show Γ.length + 1 ≤ p + 1; omega
  · rw [List.length_append] at hi
    have hi : i < Γ.length + 1 := hi
    rw [sv_si, if_neg (by omega), sv_si, if_neg (by omega), sv_si, sv_si, if_neg (show ¬ (19 = 17 ∧ i = 1) by omega), sv_si, sv_si, if_neg (show ¬ (19 = 17 + 1 ∧ i = Γ.length) by omega)]
    by_cases e : i = Γ.length
    · subst e
      rw [if_pos ⟨rfl, rfl⟩, if_pos ⟨rfl, rfl⟩, show (Γ ++ [(op, w)]).getD Γ.length (0, 0) = (op, w) from sv_gdr Γ [(op, w)] 0]
      exact ⟨rfl, rfl⟩
    · rw [if_neg (fun z => e z.2), if_neg (fun z => e z.2), sv_gdl _ _ _ (by omega)]
      exact h10 i (by omega)
theorem e6_noteFault (N : Nat) {β : Nat → Int32} {n : Nat} {S : sw_St} {p : Nat} {f : Int32} {Γ : List (Int32 × Int32)} (h : sv_kc β n S p f Γ) : ∃ S', fX6_noteFault N S = some ((), S') ∧ sv_kc β n S' p (if f = -1 then nI p else f) Γ ∧ sv_ag sv_kP S S' := by
  have h' := h
  obtain ⟨h1, h2, h3, h4, h5, h6, h7, h8, h9, h10⟩ := h
  unfold fX6_noteFault
  rw [h3]
  rcases h6 with rfl | ⟨k, hk, rfl⟩
  · rw [if_neg (by decide), sv_ls, if_pos rfl, h2]
    refine ⟨_, rfl, ⟨?_, ?_, ?_, h4, h5, Or.inr ⟨p, by omega, rfl⟩, fun i hi => ?_, ?_, h9, fun i hi => ?_⟩, sv_ag_si S 16 4 _ (by unfold sv_kP; omega)⟩
    · rw [sv_si, if_neg (by omega)]; exact h1
    · rw [sv_si, if_neg (by omega)]; exact h2
    · rw [sv_si, if_pos ⟨rfl, rfl⟩]
    · rw [sv_si, if_neg (by omega)]; exact h7 i hi
    · rw [sv_si, if_neg (by omega)]; exact h8
    · rw [sv_si, if_neg (by omega), sv_si, if_neg (by omega)]; exact h10 i hi
  · have p0 : nI k ≥ (0 : Int32) := nI_pos' (by omega)
    rw [if_pos p0, if_neg (fun z => absurd p0 (by rw [z]; decide))]
    exact ⟨S, rfl, h', sv_ag_rf⟩
theorem e9_wrong (N : Nat) {β : Nat → Int32} {n : Nat} {T : sw_St} {p : Nat} {f : Int32} {u : Nat} (h : sv_kr β n T p f u) (hf : f = -1 ∨ ∃ k : Nat, k ≤ 120 ∧ f = nI k) (hp : p ≤ 120) (u' : Nat) : ∃ T', fX9_wrong N T = some (0, T') ∧ sv_kr β n T' p (if f = -1 then nI p else f) u' ∧ sv_rr (fun _ => False) sv_kF T T' := by
  obtain ⟨h1, h2, h3, h4, h5⟩ := h
  have go : ∀ k : Nat, k ≤ 120 → sv_kr β n (sw_si T 105 14 (nI k)) p (nI k) u' := by
    intro k hk
    have p0 : nI k ≥ (0 : Int32) := nI_pos' (by omega)
    refine ⟨?_, ?_, ?_, fun z => absurd p0 (by rw [z]; decide), ?_⟩
    · rw [sv_si, if_neg (by omega)]; exact h1
    · rw [sv_si, if_neg (by omega)]; exact h2
    · rw [sv_si, if_pos ⟨rfl, rfl⟩]
    · rcases h5 with ⟨b1, b2⟩ | ⟨b1, b2⟩
      · exact Or.inl ⟨by rw [sv_si, if_neg (by omega)]; exact b1, fun i hi => by rw [sv_si, if_neg (by omega)]; exact b2 i hi⟩
      · exact Or.inr ⟨by rw [sv_si, if_neg (by omega)]; exact b1, fun i hi => by rw [sv_si, if_neg (by omega)]; exact b2 i hi⟩
  unfold fX9_wrong
  rw [h3]
  rcases hf with rfl | ⟨k, hk, rfl⟩
  · rw [if_neg (by decide), sv_ls, if_pos rfl, h1]
    exact ⟨_, rfl, go p hp, sv_rr_5 T (by unfold sv_kF; omega) _⟩
  · have p0 : nI k ≥ (0 : Int32) := nI_pos' (by omega)
    rw [if_pos p0, sv_ls, if_neg (fun z => absurd p0 (by rw [z]; decide))]
    exact ⟨_, rfl, go k hk, sv_rr_5 T (by unfold sv_kF; omega) _⟩
/-- taken or not -/
theorem e9_takes (N : Nat) {β : Nat → Int32} {n : Nat} {T : sw_St} {p : Nat} {f : Int32} {u : Nat} (h : sv_kr β n T p f u) (hf : f = -1 ∨ ∃ k : Nat, k ≤ 120 ∧ f = nI k) (hp : p ≤ n) (hn : n ≤ 120) {c : Int32} (hc : c ≠ -1) (hc0 : c ≠ 0) : (sv_nx2 β n p f = c → fX9_takes N c T = some (1, sw_si T 105 12 (T.1 105 12 + 1))) ∧ (¬ sv_nx2 β n p f = c → fX9_takes N c T = some (0, T)) := by
  have h' := h
  obtain ⟨h1, h2, h3, h4, h5⟩ := h
  unfold fX9_takes
  rw [h3]
  rcases hf with rfl | ⟨k, hk, rfl⟩
  · rw [if_neg (by decide), e9_byteAt N h' hp hn, sv_bd]
    refine ⟨fun z => ?_, fun z => ?_⟩
    · rw [if_pos ((sv_by_nx hc hc0).mpr z), sv_ls]
      rfl
    · rw [if_neg (fun y => z ((sv_by_nx hc hc0).mp y))]
      rfl
  · have p0 : nI k ≥ (0 : Int32) := nI_pos' (by omega)
    rw [if_pos p0]
    refine ⟨fun z => ?_, fun _ => rfl⟩
    have := ((sv_nx2_is (Or.inr ⟨k, hk, rfl⟩) hc).mp z).1
    exact absurd p0 (by rw [this]; decide)
