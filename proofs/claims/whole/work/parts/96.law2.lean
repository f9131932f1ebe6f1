/-! the law: what reads a piece and what works it out, side by side -/
abbrev sv_fl (f : Int32) : Prop := f = -1 ∨ ∃ k : Nat, k ≤ 120 ∧ f = nI k
def sv_PS (β : Nat → Int32) (n u : Nat) (F : sw_St → Option (Unit × sw_St)) (G : Nat → sw_St → Option (Int32 × sw_St)) : Prop :=
  ∀ S p f Γ, sv_kc β n S p f Γ → Γ.length ≤ p → ∃ S' p' f' C, F S = some ((), S') ∧ sv_kc β n S' p' f' (Γ ++ C) ∧ sv_ag sv_kP S S' ∧ p + C.length ≤ p' ∧ (f ≠ -1 → f' = f) ∧ ∀ K T, 200 ≤ K → sv_kr β n T p f u → ∃ v T', G K T = some (v, T') ∧ sv_kr β n T' p' f' u ∧ sv_rr (fun _ => False) sv_kF T T' ∧ (f' = -1 → ∀ st, sv_ex2 (T.1 112) C st = some (v :: st))
theorem sv_loop (N : Nat) {β : Nat → Int32} {n u : Nat} {F : sw_St → Option (Unit × sw_St)} {G : Nat → sw_St → Option (Int32 × sw_St)} (hFG : sv_PS β n u F G) {isop : Int32 → Prop} (hop : ∀ c, isop c → sv_bo c) {FL : Nat → Nat → sw_St → Option (Unit × sw_St)} {GL : Nat → Nat → Int32 → sw_St → Option (Int32 × sw_St)}
  (hFs : ∀ m i S p f Γ, sv_kc β n S p f Γ → i ≤ 120 → ¬ isop (sv_nx2 β n p f) → FL (m + 1) i S = some ((), S))
  (hFg : ∀ m i S p f Γ, sv_kc β n S p f Γ → i < 120 → isop (sv_nx2 β n p f) → FL (m + 1) i S = sw_bd (F (sw_si S 16 3 (S.1 16 3 + 1))) (fun _ S5 => sw_bd (fX3_add N 17 (sv_nx2 β n p f) 0 S5) (fun _ S6 => FL m (i + 1) S6)))
  (hGs : ∀ K m v T p f, 200 ≤ K → sv_kr β n T p f u → p ≤ n → n ≤ 120 → sv_fl f → ¬ isop (sv_nx2 β n p f) → GL K (m + 1) v T = some (v, T))
  (hGg : ∀ K m v T p w T4 p4 f4, 200 ≤ K → sv_kr β n T p (-1) u → p < n → n ≤ 120 → isop (β p) → G K (sw_si T 105 12 (T.1 105 12 + 1)) = some (w, T4) → sv_kr β n T4 p4 f4 u → p4 ≤ n → GL K (m + 1) v T = GL K m (sv_jn (β p) v w) T4) :
  ∀ d p i S f Γ m, n - p ≤ d → d < m → i ≤ p → sv_kc β n S p f Γ → Γ.length ≤ p → ∃ S' p' f' C, FL m i S = some ((), S') ∧ sv_kc β n S' p' f' (Γ ++ C) ∧ sv_ag sv_kP S S' ∧ p + C.length ≤ p' ∧ (f ≠ -1 → f' = f) ∧ ∀ K T v k, 200 ≤ K → d < k → sv_kr β n T p f u → ∃ v' T', GL K k v T = some (v', T') ∧ sv_kr β n T' p' f' u ∧ sv_rr (fun _ => False) sv_kF T T' ∧ (f' = -1 → ∀ st, sv_ex2 (T.1 112) C (v :: st) = some (v' :: st)) := by
  intro d
  induction d with
  | zero =>
    intro p i S f Γ m hd hm hi h hl
    obtain ⟨h1, h2, h3, h4, h5, h6, h7, -⟩ := id h
    have hno : ¬ isop (sv_nx2 β n p f) := by
      intro z
      have e : sv_nx2 β n p f = -1 := by
        unfold sv_nx2
        by_cases q : f ≥ 0
        · rw [if_pos q]
        · rw [if_neg q, if_neg (by omega)]
      rw [e] at z
      exact absurd (hop _ z) (by unfold sv_bo; decide)
    obtain ⟨m, rfl⟩ : ∃ m', m = m' + 1 := ⟨m - 1, by omega⟩
    refine ⟨S, p, f, [], hFs m i S p f Γ h (by omega) hno, by rw [List.append_nil]; exact h, sv_ag_rf, by show p + 0 ≤ p; omega, fun _ => rfl, fun K T v k hK hk hT => ?_⟩
    obtain ⟨k, rfl⟩ : ∃ k', k = k' + 1 := ⟨k - 1, by omega⟩
    exact ⟨v, T, hGs K k v T p f hK hT h4 h5 h6 hno, hT, sv_rr_rf, fun _ st => rfl⟩
  | succ d ih =>
    intro p i S f Γ m hd hm hi h hl
    obtain ⟨h1, h2, h3, h4, h5, h6, h7, -⟩ := id h
    obtain ⟨m, rfl⟩ : ∃ m', m = m' + 1 := ⟨m - 1, by omega⟩
    by_cases hno : ¬ isop (sv_nx2 β n p f)
    · refine ⟨S, p, f, [], hFs m i S p f Γ h (by omega) hno, by rw [List.append_nil]; exact h, sv_ag_rf, by show p + 0 ≤ p; omega, fun _ => rfl, fun K T v k hK hk hT => ?_⟩
      obtain ⟨k, rfl⟩ : ∃ k', k = k' + 1 := ⟨k - 1, by omega⟩
      exact ⟨v, T, hGs K k v T p f hK hT h4 h5 h6 hno, hT, sv_rr_rf, fun _ st => rfl⟩
    · have hy : isop (sv_nx2 β n p f) := Classical.byContradiction (fun z => hno z)
      have hb := hop _ hy
      have hne : sv_nx2 β n p f ≠ -1 := fun z => by rw [z] at hb; exact absurd hb (by unfold sv_bo; decide)
      obtain ⟨hf1, hp, hbp⟩ := (sv_nx2_is h6 hne).mp rfl
      subst hf1
      obtain ⟨S5, p5, f5, C1, a1, a2, a3, a4, a5, a6⟩ := hFG _ (p + 1) (-1) Γ (sv_kc_on h hp) (by omega)
      have l1 : (Γ ++ C1).length ≤ p5 := by rw [List.length_append]; omega
      obtain ⟨S6, b1, b2, b3⟩ := e3_add N a2 l1 (sv_nx2 β n p (-1)) 0
      have p5n : p5 ≤ n := a2.2.2.2.1
      have l2 : (Γ ++ C1 ++ [(sv_nx2 β n p (-1), (0 : Int32))]).length ≤ p5 := by rw [List.length_append, List.length_append]; show Γ.length + C1.length + 1 ≤ p5; omega
      obtain ⟨S', p', f', C2, c1, c2, c3, c4, c5, c6⟩ := ih p5 (i + 1) S6 f5 _ m (by omega) (by omega) (by omega) b2 l2
      refine ⟨S', p', f', C1 ++ [(sv_nx2 β n p (-1), (0 : Int32))] ++ C2, ?_, ?_, ?_, ?_, fun z => absurd rfl z, fun K T v k hK hk hT => ?_⟩
      · rw [hFg m i S p (-1) Γ h (by omega) hy, a1, sv_bd, b1, sv_bd, c1]
      · rw [← List.append_assoc, ← List.append_assoc]; exact c2
      · exact sv_ag_tr (sv_ag_si S 16 3 _ (by unfold sv_kP; omega)) (sv_ag_tr a3 (sv_ag_tr b3 c3))
      · rw [List.length_append, List.length_append]; show p + (C1.length + 1 + C2.length) ≤ p'; omega
      · obtain ⟨k, rfl⟩ : ∃ k', k = k' + 1 := ⟨k - 1, by omega⟩
        obtain ⟨w, T4, e1, e2, e3, e4⟩ := a6 K _ hK (sv_kr_on hT)
        obtain ⟨v', T', g1, g2, g3, g4⟩ := c6 K T4 (sv_jn (β p) v w) k hK (by omega) e2
        have g5 : sv_rr (fun _ => False) sv_kF T (sw_si T 105 12 (T.1 105 12 + 1)) := sv_rr_5 T (by unfold sv_kF; omega) _
        refine ⟨v', T', by rw [hGg K k v T p w T4 p5 f5 hK hT hp h5 (by rw [hbp]; exact hy) e1 e2 p5n, g1], g2, sv_rr_tr g5 (sv_rr_tr e3 g3), fun hf st => ?_⟩
        have hf5 : f5 = -1 := by
          refine Decidable.byContradiction (fun z => ?_)
          rw [c5 z] at hf
          exact z hf
        have n1 : (sw_si T 105 12 (T.1 105 12 + 1)).1 112 = T.1 112 := (g5.1 112 (by decide) (fun z => z)).1
        have n2 : T4.1 112 = T.1 112 := by rw [(e3.1 112 (by decide) (fun z => z)).1, n1]
        have e4 := e4 hf5
        rw [n1] at e4
        have g4 := g4 hf
        rw [n2] at g4
        rw [sv_ex2_ap, sv_ex2_ap, e4 (v :: st)]
        show ((sv_ex2 (T.1 112) [(sv_nx2 β n p (-1), (0 : Int32))] (w :: v :: st)).bind (sv_ex2 (T.1 112) C2)) = _
        rw [sv_ex2_1, sv_st1_bo _ hb, ← hbp]
        exact g4 st
theorem sv_PS_lp (N : Nat) (hN : 150 ≤ N) {β : Nat → Int32} {n u : Nat} {F F' : sw_St → Option (Unit × sw_St)} {G G' : Nat → sw_St → Option (Int32 × sw_St)} (hFG : sv_PS β n u F G) {isop : Int32 → Prop} (hop : ∀ c, isop c → sv_bo c) {FL : Nat → Nat → sw_St → Option (Unit × sw_St)} {GL : Nat → Nat → Int32 → sw_St → Option (Int32 × sw_St)}
  (hF : ∀ S, F' S = sw_bd (F S) (fun _ S1 => FL N 0 S1)) (hG : ∀ K T, G' K T = sw_bd (G K T) (fun r T1 => GL K K r T1))
  (hFs : ∀ m i S p f Γ, sv_kc β n S p f Γ → i ≤ 120 → ¬ isop (sv_nx2 β n p f) → FL (m + 1) i S = some ((), S))
  (hFg : ∀ m i S p f Γ, sv_kc β n S p f Γ → i < 120 → isop (sv_nx2 β n p f) → FL (m + 1) i S = sw_bd (F (sw_si S 16 3 (S.1 16 3 + 1))) (fun _ S5 => sw_bd (fX3_add N 17 (sv_nx2 β n p f) 0 S5) (fun _ S6 => FL m (i + 1) S6)))
  (hGs : ∀ K m v T p f, 200 ≤ K → sv_kr β n T p f u → p ≤ n → n ≤ 120 → sv_fl f → ¬ isop (sv_nx2 β n p f) → GL K (m + 1) v T = some (v, T))
  (hGg : ∀ K m v T p w T4 p4 f4, 200 ≤ K → sv_kr β n T p (-1) u → p < n → n ≤ 120 → isop (β p) → G K (sw_si T 105 12 (T.1 105 12 + 1)) = some (w, T4) → sv_kr β n T4 p4 f4 u → p4 ≤ n → GL K (m + 1) v T = GL K m (sv_jn (β p) v w) T4) : sv_PS β n u F' G' := by
  intro S p f Γ h hl
  obtain ⟨S1, p1, f1, C1, a1, a2, a3, a4, a5, a6⟩ := hFG S p f Γ h hl
  have hn : n ≤ 120 := h.2.2.2.2.1
  obtain ⟨S', p', f', C2, c1, c2, c3, c4, c5, c6⟩ := sv_loop N hFG hop hFs hFg hGs hGg (n - p1) p1 0 S1 f1 (Γ ++ C1) N (Nat.le_refl _) (by omega) (by omega) a2 (by rw [List.length_append]; omega)
  refine ⟨S', p', f', C1 ++ C2, by rw [hF, a1, sv_bd, c1], by rw [← List.append_assoc]; exact c2, sv_ag_tr a3 c3, by rw [List.length_append]; omega, fun z => ?_, fun K T hK hT => ?_⟩
  · have e := a5 z
    rw [c5 (by rw [e]; exact z), e]
  · obtain ⟨w, T1, e1, e2, e3, e4⟩ := a6 K T hK hT
    obtain ⟨v', T', g1, g2, g3, g4⟩ := c6 K T1 w K hK (by omega) e2
    refine ⟨v', T', by rw [hG, e1, sv_bd, g1], g2, sv_rr_tr e3 g3, fun hf st => ?_⟩
    have hf1 : f1 = -1 := by
      refine Decidable.byContradiction (fun z => ?_)
      rw [c5 z] at hf
      exact z hf
    have n2 : T1.1 112 = T.1 112 := (e3.1 112 (by decide) (fun z => z)).1
    have g4 := g4 hf
    rw [n2] at g4
    rw [sv_ex2_ap, e4 hf1 st]
    exact g4 st
/-! the levels: or, and, sums, products -/
theorem sv_fx1s {ρ : Type} (body : (Int32 → sw_St → Option ρ) → Int32 → sw_St → Option ρ) (m : Nat) (a : Int32) (S : sw_St) : sw_fx1 body (m + 1) a S = body (sw_fx1 body m) a S := rfl
theorem sv_fx2s {ρ : Type} (body : (Int32 → Int32 → sw_St → Option ρ) → Int32 → Int32 → sw_St → Option ρ) (m : Nat) (a b : Int32) (S : sw_St) : sw_fx2 body (m + 1) a b S = body (sw_fx2 body m) a b S := rfl
theorem sv_jn_or (a b : Int32) : sv_jn 124 a b = if a = 0 then (if b = 0 then 0 else 1) else 1 := rfl
theorem sv_jn_and (a b : Int32) : sv_jn 38 a b = if a = 0 then 0 else if b = 0 then 0 else 1 := rfl
theorem sv_PS_or (N : Nat) (hN : 200 ≤ N) {β : Nat → Int32} {n u : Nat} {RF : Nat → Int32 → Int32 → Int32 → Int32 → sw_St → Option (Unit × sw_St)} {RG : Nat → Nat → Int32 → Int32 → Int32 → Int32 → sw_St → Option (Int32 × sw_St)} (h : sv_PS β n u (fun S => RF 1 (nI u) 0 0 0 S) (fun K T => RG K 1 0 0 0 0 T)) : sv_PS β n u (fun S => gX6_readOr N RF (nI u) S) (fun K T => gX9_either K (RG K) T) := by
  refine sv_PS_lp N (by omega) h (isop := fun c => c = 124) (fun c hc => by rw [hc]; unfold sv_bo; decide) (FL := fun m i S => sw_fx1 (fun rec1 x2_1 S2 => (if x2_1 ≥ (120 : Int32) then (some ((), S2)) else (sw_bd (fX6_next N S2) (fun r2 S3 => (if r2 = (124 : Int32) then (sw_ls (sw_si S3 16 3 ((S3.1 16 3) + (1 : Int32))) (fun S4 => (sw_bd (RF 1 (nI u) 0 0 0 S4) (fun _ S5 => (sw_bd (fX3_add N 17 (124 : Int32) (0 : Int32) S5) (fun _ S6 => (rec1 (x2_1 + (1 : Int32)) S6))))))) else (some ((), S3))))))) m (nI i) S) (GL := fun K m v T => sw_fx1 (fun rec1 x1_1 S2 => (sw_bd (fX9_takes K (124 : Int32) S2) (fun r2 S3 => (if r2 = 0 then (some (x1_1, S3)) else (sw_bd (RG K 1 0 0 0 0 S3) (fun r3 S4 => (if x1_1 = 0 then (if r3 = 0 then (rec1 (0 : Int32) S4) else (rec1 (1 : Int32) S4)) else (rec1 (1 : Int32) S4)))))))) m v T) (fun S => rfl) (fun K T => rfl) ?_ ?_ ?_ ?_
  · intro m i S p f Γ hS hi hno
    show (if nI i ≥ (120 : Int32) then _ else _) = _
    by_cases e : i = 120
    · rw [if_pos (by rw [e]; exact Int32.le_refl _)]
    · rw [if_neg (show ¬ nI i ≥ (120 : Int32) from nI_ge (b := 120) (by omega) (by decide)), e6_next N hS, sv_bd, if_neg hno]
  · intro m i S p f Γ hS hi hy
    show (if nI i ≥ (120 : Int32) then _ else _) = _
    rw [if_neg (show ¬ nI i ≥ (120 : Int32) from nI_ge (b := 120) hi (by decide)), e6_next N hS, sv_bd, if_pos hy, sv_ls, hy, nI_1]
  · intro K m v T p f hK hT hp hn hf hno
    rw [sv_fx1s]
    rw [(e9_takes K hT hf hp hn (by decide) (by decide)).2 hno, sv_bd, if_pos rfl]
  · intro K m v T p w T4 p4 f4 hK hT hp hn hy hG h4 hp4
    rw [sv_fx1s]
    rw [(e9_takes K hT (Or.inl rfl) (by omega) hn (by decide) (by decide)).1 ((sv_nx2_is (Or.inl rfl) (by decide)).mpr ⟨rfl, hp, hy⟩), sv_bd, if_neg sv_nz, hG, sv_bd, hy, sv_jn_or]
    by_cases h1 : v = 0
    · by_cases h2 : w = 0
      · simp only [h1, h2, if_true]
      · simp only [h1, h2, if_true, if_false]
    · by_cases h2 : w = 0
      · simp only [h1, h2, if_true, if_false]
      · simp only [h1, h2, if_false]
theorem sv_PS_and (N : Nat) (hN : 200 ≤ N) {β : Nat → Int32} {n u : Nat} {RF : Nat → Int32 → Int32 → Int32 → Int32 → sw_St → Option (Unit × sw_St)} {RG : Nat → Nat → Int32 → Int32 → Int32 → Int32 → sw_St → Option (Int32 × sw_St)} (h : sv_PS β n u (fun S => RF 2 (nI u) 0 0 0 S) (fun K T => RG K 2 0 0 0 0 T)) : sv_PS β n u (fun S => gX6_readAnd N RF (nI u) S) (fun K T => gX9_both K (RG K) T) := by
  refine sv_PS_lp N (by omega) h (isop := fun c => c = 38) (fun c hc => by rw [hc]; unfold sv_bo; decide) (FL := fun m i S => sw_fx1 (fun rec1 x2_1 S2 => (if x2_1 ≥ (120 : Int32) then (some ((), S2)) else (sw_bd (fX6_next N S2) (fun r2 S3 => (if r2 = (38 : Int32) then (sw_ls (sw_si S3 16 3 ((S3.1 16 3) + (1 : Int32))) (fun S4 => (sw_bd (RF 2 (nI u) 0 0 0 S4) (fun _ S5 => (sw_bd (fX3_add N 17 (38 : Int32) (0 : Int32) S5) (fun _ S6 => (rec1 (x2_1 + (1 : Int32)) S6))))))) else (some ((), S3))))))) m (nI i) S) (GL := fun K m v T => sw_fx1 (fun rec1 x1_1 S2 => (sw_bd (fX9_takes K (38 : Int32) S2) (fun r2 S3 => (if r2 = 0 then (some (x1_1, S3)) else (sw_bd (RG K 2 0 0 0 0 S3) (fun r3 S4 => (if x1_1 = 0 then (rec1 (0 : Int32) S4) else (if r3 = 0 then (rec1 (0 : Int32) S4) else (rec1 (1 : Int32) S4))))))))) m v T) (fun S => rfl) (fun K T => rfl) ?_ ?_ ?_ ?_
  · intro m i S p f Γ hS hi hno
    show (if nI i ≥ (120 : Int32) then _ else _) = _
    by_cases e : i = 120
    · rw [if_pos (by rw [e]; exact Int32.le_refl _)]
    · rw [if_neg (show ¬ nI i ≥ (120 : Int32) from nI_ge (b := 120) (by omega) (by decide)), e6_next N hS, sv_bd, if_neg hno]
  · intro m i S p f Γ hS hi hy
    show (if nI i ≥ (120 : Int32) then _ else _) = _
    rw [if_neg (show ¬ nI i ≥ (120 : Int32) from nI_ge (b := 120) hi (by decide)), e6_next N hS, sv_bd, if_pos hy, sv_ls, hy, nI_1]
  · intro K m v T p f hK hT hp hn hf hno
    rw [sv_fx1s]
    rw [(e9_takes K hT hf hp hn (by decide) (by decide)).2 hno, sv_bd, if_pos rfl]
  · intro K m v T p w T4 p4 f4 hK hT hp hn hy hG h4 hp4
    rw [sv_fx1s]
    rw [(e9_takes K hT (Or.inl rfl) (by omega) hn (by decide) (by decide)).1 ((sv_nx2_is (Or.inl rfl) (by decide)).mpr ⟨rfl, hp, hy⟩), sv_bd, if_neg sv_nz, hG, sv_bd, hy, sv_jn_and]
    by_cases h1 : v = 0
    · by_cases h2 : w = 0
      · simp only [h1, h2, if_true]
      · simp only [h1, h2, if_true, if_false]
    · by_cases h2 : w = 0
      · simp only [h1, h2, if_true, if_false]
      · simp only [h1, h2, if_false]
