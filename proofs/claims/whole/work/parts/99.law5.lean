/-! the law: one operand -/
theorem sv_kr_op {β : Nat → Int32} {n : Nat} {T : sw_St} {p u : Nat} (h : sv_kr β n T p (-1) u) : sv_kr β n (sw_si (sw_si T 105 15 (T.1 105 15 + 1)) 105 12 ((sw_si T 105 15 (T.1 105 15 + 1)).1 105 12 + 1)) (p + 1) (-1) (u + 1) := by
  obtain ⟨h1, h2, h3, h4, h5⟩ := h
  refine ⟨?_, ?_, ?_, fun _ => ?_, ?_⟩
  · rw [sv_si, if_pos ⟨rfl, rfl⟩, sv_si, if_neg (by omega), h1, nI_1]
  · rw [sv_si, if_neg (by omega), sv_si, if_neg (by omega)]; exact h2
  · rw [sv_si, if_neg (by omega), sv_si, if_neg (by omega)]; exact h3
  · rw [sv_si, if_neg (by omega), sv_si, if_pos ⟨rfl, rfl⟩, h4 rfl, nI_1]
  · rcases h5 with ⟨b1, b2⟩ | ⟨b1, b2⟩
    · exact Or.inl ⟨by rw [sv_si, if_neg (by omega), sv_si, if_neg (by omega)]; exact b1, fun i hi => by rw [sv_si, if_neg (by omega), sv_si, if_neg (by omega)]; exact b2 i hi⟩
    · exact Or.inr ⟨by rw [sv_si, if_neg (by omega), sv_si, if_neg (by omega)]; exact b1, fun i hi => by rw [sv_si, if_neg (by omega), sv_si, if_neg (by omega)]; exact b2 i hi⟩
theorem sv_kr_cl {β : Nat → Int32} {n : Nat} {T : sw_St} {p u : Nat} {f : Int32} (h : sv_kr β n T p f (u + 1)) : sv_kr β n (sw_si T 105 15 (T.1 105 15 - 1)) p f u := by
  obtain ⟨h1, h2, h3, h4, h5⟩ := h
  refine ⟨?_, ?_, ?_, fun z => ?_, ?_⟩
  · rw [sv_si, if_neg (by omega)]; exact h1
  · rw [sv_si, if_neg (by omega)]; exact h2
  · rw [sv_si, if_neg (by omega)]; exact h3
  · rw [sv_si, if_pos ⟨rfl, rfl⟩, h4 z]; exact pk_sub (b := 1) (by omega)
  · rcases h5 with ⟨b1, b2⟩ | ⟨b1, b2⟩
    · exact Or.inl ⟨by rw [sv_si, if_neg (by omega)]; exact b1, fun i hi => by rw [sv_si, if_neg (by omega)]; exact b2 i hi⟩
    · exact Or.inr ⟨by rw [sv_si, if_neg (by omega)]; exact b1, fun i hi => by rw [sv_si, if_neg (by omega)]; exact b2 i hi⟩
theorem sv_kr_u {β : Nat → Int32} {n : Nat} {T : sw_St} {p u v : Nat} {f : Int32} (h : sv_kr β n T p f u) (hf : f ≠ -1) : sv_kr β n T p f v := ⟨h.1, h.2.1, h.2.2.1, fun z => absurd z hf, h.2.2.2.2⟩
theorem sv_rr_op (T : sw_St) : sv_rr (fun _ => False) sv_kF T (sw_si (sw_si T 105 15 (T.1 105 15 + 1)) 105 12 ((sw_si T 105 15 (T.1 105 15 + 1)).1 105 12 + 1)) := sv_rr_tr (sv_rr_5 T (by unfold sv_kF; omega) _) (sv_rr_5 _ (by unfold sv_kF; omega) _)
theorem sv_if3 {ρ : Type} {c d e : Prop} [Decidable c] [Decidable d] [Decidable e] {x y : ρ} (h : c ∨ d ∨ e) : (if c then x else if d then x else if e then x else y) = x := by
  by_cases h1 : c
  · rw [if_pos h1]
  · rw [if_neg h1]
    by_cases h2 : d
    · rw [if_pos h2]
    · rw [if_neg h2, if_pos ((h.resolve_left h1).resolve_left h2)]
theorem sv_PS_opd (N : Nat) (hN : 200 ≤ N) {β : Nat → Int32} {n u : Nat} (hu : u ≤ 6) {RF RF' : Nat → Int32 → Int32 → Int32 → Int32 → sw_St → Option (Unit × sw_St)} {RG : Nat → Nat → Int32 → Int32 → Int32 → Int32 → sw_St → Option (Int32 × sw_St)} (h6 : ∀ a b S, RF 6 a b 0 0 S = gX6_readOpened N RF' a b S) (hor : u < 6 → sv_PS β n (u + 1) (fun S => RF' 0 (nI (u + 1)) 0 0 0 S) (fun K T => RG K 0 0 0 0 0 T)) (hone : u < 6 → sv_PS β n (u + 1) (fun S => RF' 5 (nI (u + 1)) 0 0 0 S) (fun K T => RG K 5 0 0 0 0 T)) : sv_PS β n u (fun S => gX6_readOperand N RF (nI u) S) (fun K T => gX9_one K (RG K) T) := by
  intro S p f Γ hS hl
  obtain ⟨k1, k2, k3, k4, k5, k6, k7, -⟩ := id hS
  dsimp only
  unfold gX6_readOperand gX9_one
  rw [e6_next N hS, sv_bd, e6_nameOf, sv_bd, sv_jn1]
  -- a fault: nothing more
  rcases k6 with rfl | ⟨k, hk, rfl⟩
  rotate_left
  · have p0 : nI k ≥ (0 : Int32) := nI_pos' (by omega)
    have e : sv_nx2 β n p (nI k) = -1 := by unfold sv_nx2; rw [if_pos p0]
    have nf : ¬ nI k = -1 := fun z => absurd p0 (by rw [z]; decide)
    obtain ⟨S', b1, b2, b3⟩ := e6_noteFault N hS
    rw [if_neg nf] at b2
    refine ⟨S', p, nI k, [], ?_, by rw [List.append_nil]; exact b2, b3, Nat.le_refl _, fun _ => rfl, fun K T hK hT => ⟨0, T, ?_, hT, sv_rr_rf, fun z => absurd z nf⟩⟩
    · rw [e, if_neg (by decide), if_neg (by decide), if_neg (by decide)]
      dsimp only
      rw [e8_within, sv_bd, sv_Bi, if_neg (by decide), if_pos (show sv_nm2 (-1) < 0 by decide), if_pos rfl, b1, sv_bd]
    · rw [sv_f0 hT, if_neg (Int32.not_lt.mpr p0)]
  -- what both say is wrong
  have wrong : (∃ S', fX6_noteFault N S = some ((), S') ∧ sv_kc β n S' p (nI p) Γ ∧ sv_ag sv_kP S S') ∧ ∀ K T, sv_kr β n T p (-1) u → ∃ T', fX9_wrong K T = some (0, T') ∧ sv_kr β n T' p (nI p) u ∧ sv_rr (fun _ => False) sv_kF T T' := by
    constructor
    · obtain ⟨S', b1, b2, b3⟩ := e6_noteFault N hS
      rw [if_pos rfl] at b2
      exact ⟨S', b1, b2, b3⟩
    · intro K T hT
      obtain ⟨T', b1, b2, b3⟩ := e9_wrong K hT (Or.inl rfl) (by omega) u
      rw [if_pos rfl] at b2
      exact ⟨T', b1, b2, b3⟩
  have npf : nI p ≠ (-1 : Int32) := fun z => absurd (show nI p ≥ (0 : Int32) from nI_pos' (by omega)) (by rw [z]; decide)
  obtain ⟨⟨Sw, w1, w2, w3⟩, w4⟩ := wrong
  by_cases hpn : p < n
  rotate_left
  · have e : sv_nx2 β n p (-1) = -1 := by unfold sv_nx2; rw [if_neg (by decide), if_neg hpn]
    have eb : sv_by β n p = 0 := if_neg hpn
    refine ⟨Sw, p, nI p, [], ?_, by rw [List.append_nil]; exact w2, w3, Nat.le_refl _, fun z => absurd rfl z, fun K T hK hT => ?_⟩
    · rw [e, if_neg (by decide), if_neg (by decide), if_neg (by decide)]
      dsimp only
      rw [e8_within, sv_bd, sv_Bi, if_neg (by decide), if_pos (show sv_nm2 (-1) < 0 by decide), if_pos rfl, w1, sv_bd]
    · obtain ⟨T', t1, t2, t3⟩ := w4 K T hT
      refine ⟨0, T', ?_, t2, t3, fun z => absurd z npf⟩
      obtain ⟨M, rfl⟩ : ∃ M, K = M + 1 := ⟨K - 1, by omega⟩
      rw [sv_f0 hT, if_pos (by decide), e9_byteAt _ hT k4 k5, sv_bd, sv_jn0, eb, if_neg (by decide), if_neg (by decide), if_neg (by decide), e9_nameOf, sv_bd, if_pos (show sv_nm2 0 < 0 by decide), sv_fx2s, if_neg (by decide), e9_byteAt _ hT k4 k5, sv_bd, eb, if_pos (by decide), if_pos rfl, t1, sv_bd]
  have e : sv_nx2 β n p (-1) = β p := by unfold sv_nx2; rw [if_neg (by decide), if_pos hpn]
  have eb : sv_by β n p = β p := if_pos hpn
  rw [e]
  by_cases hopn : β p = 40 ∨ β p = 33 ∨ β p = 45
  · -- what opens
    have hnd : ¬ ((48 : Int32) ≤ β p ∧ β p ≤ 57) := by
      rcases hopn with z | z | z <;> (rw [z]; decide)
    have hnn : sv_nm2 (β p) < 0 := by
      rcases hopn with z | z | z <;> (rw [z]; decide)
    have hop2 : β p = 33 ∨ β p = 45 ∨ β p = 40 := by
      rcases hopn with z | z | z
      · exact Or.inr (Or.inr z)
      · exact Or.inl z
      · exact Or.inr (Or.inl z)
    rw [sv_if3 hopn]
    dsimp only
    rw [e8_within, sv_bd, sv_Bi, if_neg hnd, if_pos hnn, if_neg sv_nz]
    by_cases hu6 : u = 6
    · refine ⟨Sw, p, nI p, [], ?_, by rw [List.append_nil]; exact w2, w3, Nat.le_refl _, fun z => absurd rfl z, fun K T hK hT => ?_⟩
      · rw [if_pos (show nI u ≥ (6 : Int32) by rw [hu6]; exact Int32.le_refl _), w1, sv_bd]
      · obtain ⟨T', t1, t2, t3⟩ := w4 K T hT
        refine ⟨0, T', ?_, t2, t3, fun z => absurd z npf⟩
        rw [sv_f0 hT, if_pos (by decide), e9_byteAt _ hT k4 k5, sv_bd, sv_jn0, eb, sv_if3 hop2]
        dsimp only
        rw [if_pos (show T.1 105 15 = 6 by rw [hT.2.2.2.1 rfl, hu6]; rfl), t1, sv_bd]
    · have hu5 : u < 6 := by omega
      have n6 : ¬ nI u ≥ (6 : Int32) := nI_ge (b := 6) hu5 (by decide)
      have opn : ∀ T, sv_kr β n T p (-1) u → ¬ T.1 105 15 = 6 := fun T hT z => by
        rw [hT.2.2.2.1 rfl] at z
        have := (nI_eq (b := 6) (by omega) (by decide)).mp z
        omega
      rw [if_neg n6, sv_ls, h6, nI_1]
      unfold gX6_readOpened
      by_cases h40 : β p = 40
      · -- a bracket
        obtain ⟨S1, p1, f1, C1, a1, a2, a3, a4, a5, a6⟩ := hor hu5 _ (p + 1) (-1) Γ (sv_kc_on hS hpn) (by omega)
        have a1 : RF' 0 (nI (u + 1)) 0 0 0 (sw_si S 16 3 (S.1 16 3 + 1)) = some ((), S1) := a1
        obtain ⟨q1, q2, q3, q4, q5, q6, q7, -⟩ := id a2
        rw [if_pos h40, a1, sv_bd, e6_next N a2, sv_bd]
        by_cases h41 : sv_nx2 β n p1 f1 = 41
        · obtain ⟨hf1, hp1, hb1⟩ := (sv_nx2_is q6 (by decide)).mp h41
          subst hf1
          refine ⟨_, p1 + 1, -1, C1, by rw [if_pos h41, sv_ls, sv_bd], sv_kc_on a2 hp1, sv_ag_tr (sv_ag_si S 16 3 _ (by unfold sv_kP; omega)) (sv_ag_tr a3 (sv_ag_si S1 16 3 _ (by unfold sv_kP; omega))), by omega, fun z => absurd rfl z, fun K T hK hT => ?_⟩
          obtain ⟨v, T1, e1, e2, e3, e4⟩ := a6 K _ hK (sv_kr_op hT)
          have e1 : RG K 0 0 0 0 0 (sw_si (sw_si T 105 15 (T.1 105 15 + 1)) 105 12 ((sw_si T 105 15 (T.1 105 15 + 1)).1 105 12 + 1)) = some (v, T1) := e1
          have r1 := sv_rr_op T
          have g1 : sv_rr (fun _ => False) sv_kF T1 (sw_si T1 105 12 (T1.1 105 12 + 1)) := sv_rr_5 T1 (by unfold sv_kF; omega) _
          refine ⟨v, _, ?_, sv_kr_cl (sv_kr_on e2), sv_rr_tr r1 (sv_rr_tr e3 (sv_rr_tr g1 (sv_rr_5 _ (by unfold sv_kF; omega) _))), fun _ st => ?_⟩
          · rw [sv_f0 hT, if_pos (by decide), e9_byteAt _ hT k4 k5, sv_bd, sv_jn0, eb, sv_if3 hop2]
            dsimp only
            rw [if_neg (opn T hT), sv_ls, sv_ls, if_pos h40, e1, sv_bd, sv_jn0, if_pos h40, (e9_takes K e2 (Or.inl rfl) q4 q5 (by decide) (by decide)).1 h41, sv_bd, if_neg sv_nz]
            dsimp only
            rw [sv_ls, if_pos h40]
          · have n1 : (sw_si (sw_si T 105 15 (T.1 105 15 + 1)) 105 12 ((sw_si T 105 15 (T.1 105 15 + 1)).1 105 12 + 1)).1 112 = T.1 112 := (r1.1 112 (by decide) (fun z => z)).1
            have e4 := e4 rfl
            rw [n1] at e4
            exact e4 st
        · obtain ⟨S2, b1, b2, b3⟩ := e6_noteFault N a2
          have nf : (if f1 = -1 then nI p1 else f1) ≠ -1 := by
            by_cases z : f1 = -1
            · rw [if_pos z]; exact fun y => absurd (show nI p1 ≥ (0 : Int32) from nI_pos' (by omega)) (by rw [y]; decide)
            · rw [if_neg z]; exact z
          refine ⟨S2, p1, (if f1 = -1 then nI p1 else f1), C1, by rw [if_neg h41, b1, sv_bd, sv_bd], b2, sv_ag_tr (sv_ag_si S 16 3 _ (by unfold sv_kP; omega)) (sv_ag_tr a3 b3), by omega, fun z => absurd rfl z, fun K T hK hT => ?_⟩
          obtain ⟨v, T1, e1, e2, e3, e4⟩ := a6 K _ hK (sv_kr_op hT)
          have e1 : RG K 0 0 0 0 0 (sw_si (sw_si T 105 15 (T.1 105 15 + 1)) 105 12 ((sw_si T 105 15 (T.1 105 15 + 1)).1 105 12 + 1)) = some (v, T1) := e1
          obtain ⟨T2, t1, t2, t3⟩ := e9_wrong K e2 q6 (by omega) u
          refine ⟨0, T2, ?_, t2, sv_rr_tr (sv_rr_op T) (sv_rr_tr e3 t3), fun z => absurd z nf⟩
          rw [sv_f0 hT, if_pos (by decide), e9_byteAt _ hT k4 k5, sv_bd, sv_jn0, eb, sv_if3 hop2]
          dsimp only
          rw [if_neg (opn T hT), sv_ls, sv_ls, if_pos h40, e1, sv_bd, sv_jn0, if_pos h40, (e9_takes K e2 q6 q4 q5 (by decide) (by decide)).2 h41, sv_bd, if_pos rfl, t1, sv_bd]
      · -- a sign
        obtain ⟨S1, p1, f1, C1, a1, a2, a3, a4, a5, a6⟩ := hone hu5 _ (p + 1) (-1) Γ (sv_kc_on hS hpn) (by omega)
        have a1 : RF' 5 (nI (u + 1)) 0 0 0 (sw_si S 16 3 (S.1 16 3 + 1)) = some ((), S1) := a1
        have l1 : (Γ ++ C1).length ≤ p1 := by rw [List.length_append]; omega
        rw [if_neg h40, a1, sv_bd]
        have sg : ∀ (op : Int32) (g : Int32 → Int32), (∀ (ν : Nat → Int32) (a : Int32) (r : List Int32), sv_st1 ν (op, 0) (a :: r) = some (g a :: r)) → (∀ (T12 : sw_St) (v : Int32), (if β p = (40 : Int32) then (some (v, T12)) else (if β p = (45 : Int32) then (some ((-v), T12)) else (if v = 0 then (some ((1 : Int32), T12)) else (some ((0 : Int32), T12))))) = some (g v, T12)) → ∃ S' p' f' C, (sw_bd (fX3_add N 17 op (0 : Int32) S1) (fun _ S7 => (some ((), S7)))) = some ((), S') ∧ sv_kc β n S' p' f' (Γ ++ C) ∧ sv_ag sv_kP S S' ∧ p + C.length ≤ p' ∧ ((-1 : Int32) ≠ -1 → f' = -1) ∧ ∀ K T, 200 ≤ K → sv_kr β n T p (-1) u → ∃ v T', gX9_one K (RG K) T = some (v, T') ∧ sv_kr β n T' p' f' u ∧ sv_rr (fun _ => False) sv_kF T T' ∧ (f' = -1 → ∀ st, sv_ex2 (T.1 112) C st = some (v :: st)) := by
          intro op g hg hg2
          obtain ⟨S2, b1, b2, b3⟩ := e3_add N a2 l1 op 0
          refine ⟨S2, p1, f1, C1 ++ [(op, 0)], by rw [b1, sv_bd], by rw [← List.append_assoc]; exact b2, sv_ag_tr (sv_ag_si S 16 3 _ (by unfold sv_kP; omega)) (sv_ag_tr a3 b3), by rw [List.length_append]; show p + (C1.length + 1) ≤ p1; omega, fun z => absurd rfl z, fun K T hK hT => ?_⟩
          obtain ⟨v, T1, e1, e2, e3, e4⟩ := a6 K _ hK (sv_kr_op hT)
          have e1 : RG K 5 0 0 0 0 (sw_si (sw_si T 105 15 (T.1 105 15 + 1)) 105 12 ((sw_si T 105 15 (T.1 105 15 + 1)).1 105 12 + 1)) = some (v, T1) := e1
          have r1 := sv_rr_op T
          refine ⟨g v, _, ?_, sv_kr_cl e2, sv_rr_tr r1 (sv_rr_tr e3 (sv_rr_5 T1 (by unfold sv_kF; omega) _)), fun hf st => ?_⟩
          · unfold gX9_one
            rw [sv_f0 hT, if_pos (by decide), e9_byteAt _ hT k4 k5, sv_bd, sv_jn0, eb, sv_if3 hop2]
            dsimp only
            rw [if_neg (opn T hT), sv_ls, sv_ls, if_neg h40, e1, sv_bd, sv_jn0, if_neg h40]
            dsimp only
            rw [sv_ls, hg2]
          · have n1 : (sw_si (sw_si T 105 15 (T.1 105 15 + 1)) 105 12 ((sw_si T 105 15 (T.1 105 15 + 1)).1 105 12 + 1)).1 112 = T.1 112 := (r1.1 112 (by decide) (fun z => z)).1
            have e4 := e4 hf
            rw [n1] at e4
            rw [sv_ex2_ap, e4 st]
            show sv_ex2 (T.1 112) [(op, 0)] (v :: st) = _
            rw [sv_ex2_1, hg]
        by_cases h33 : β p = 33
        · rw [if_pos h33]
          obtain ⟨S', p', f', C, r1, r2⟩ := sg 33 (fun a => if a = 0 then 1 else 0) (fun ν a r => rfl) (fun T12 v => by
            rw [if_neg h40, if_neg (by rw [h33]; decide)]
            by_cases z : v = 0
            · rw [if_pos z, if_pos z]
            · rw [if_neg z, if_neg z])
          exact ⟨S', p', f', C, by rw [r1, sv_bd], r2⟩
        · have h45 : β p = 45 := by
            rcases hopn with z | z | z
            · exact absurd z h40
            · exact absurd z h33
            · exact z
          rw [if_neg h33]
          obtain ⟨S', p', f', C, r1, r2⟩ := sg 126 (fun a => -a) (fun ν a r => rfl) (fun T12 v => by rw [if_neg h40, if_pos h45])
          exact ⟨S', p', f', C, by rw [r1, sv_bd], r2⟩
  · -- nothing opens
    have n40 : ¬ β p = 40 := fun z => hopn (Or.inl z)
    have n33 : ¬ β p = 33 := fun z => hopn (Or.inr (Or.inl z))
    have n45 : ¬ β p = 45 := fun z => hopn (Or.inr (Or.inr z))
    rw [if_neg n40, if_neg n33, if_neg n45]
    dsimp only
    rw [e8_within, sv_bd, sv_Bi]
    by_cases hdg : (48 : Int32) ≤ β p ∧ β p ≤ 57
    · -- a number
      have hnn : sv_nm2 (β p) < 0 := by
        rcases sv_nm2_cs (β p) with z | ⟨k, hk, z, y⟩
        · rw [z]; decide
        · exfalso
          rcases y with y | y | y | y | y | y <;> (rw [y] at hdg; exact absurd hdg.2 (by decide))
      obtain ⟨S', q, w, c1, c2, c3, c4, c5⟩ := sv_numl N (u := u) 4 0 (by omega) p 0 S Γ N (by omega) hS hl (Or.inr (by rw [e]; exact hdg))
      refine ⟨S', q, -1, [((48 : Int32), w)], ?_, c2, c3, c4.2 rfl, fun _ => rfl, fun K T hK hT => ?_⟩
      · rw [if_pos hdg]
        unfold fX6_readNumber
        rw [show (0 : Int32) = nI 0 from rfl] at c1 ⊢
        rw [c1, sv_bd]
      · obtain ⟨T', g1, g2, g3⟩ := c5 K T K (by omega) hT
        refine ⟨w, T', ?_, g2, g3, fun _ st => rfl⟩
        rw [sv_f0 hT, if_pos (by decide), e9_byteAt _ hT k4 k5, sv_bd, sv_jn0, eb, if_neg n33, if_neg n45, if_neg n40, e9_nameOf, sv_bd, if_pos hnn]
        exact g1
    · rw [if_neg hdg]
      rcases sv_nm2_cs (β p) with z | ⟨k, hk, z, y⟩
      · -- nothing that can stand here
        have hnn : sv_nm2 (β p) < 0 := by rw [z]; decide
        refine ⟨Sw, p, nI p, [], ?_, by rw [List.append_nil]; exact w2, w3, Nat.le_refl _, fun z => absurd rfl z, fun K T hK hT => ?_⟩
        · rw [if_pos hnn, if_pos rfl, w1, sv_bd]
        · obtain ⟨T', t1, t2, t3⟩ := w4 K T hT
          refine ⟨0, T', ?_, t2, t3, fun z => absurd z npf⟩
          obtain ⟨M, rfl⟩ : ∃ M, K = M + 1 := ⟨K - 1, by omega⟩
          rw [sv_f0 hT, if_pos (by decide), e9_byteAt _ hT k4 k5, sv_bd, sv_jn0, eb, if_neg n33, if_neg n45, if_neg n40, e9_nameOf, sv_bd, if_pos hnn, sv_fx2s, if_neg (by decide), e9_byteAt _ hT k4 k5, sv_bd, eb]
          by_cases q : β p < 48
          · rw [if_pos q, if_pos rfl, t1, sv_bd]
          · have q2 : β p > 57 := Int32.not_le.mp (fun z => hdg ⟨Int32.not_lt.mp q, z⟩)
            rw [if_neg q, e9_byteAt _ hT k4 k5, sv_bd, eb, if_pos q2, if_pos rfl, t1, sv_bd]
      · -- a name
        have hnn : ¬ sv_nm2 (β p) < 0 := by rw [z]; exact sv_ng k (by omega)
        obtain ⟨S2, b1, b2, b3⟩ := e3_add N (sv_kc_on hS hpn) (show Γ.length ≤ p + 1 by omega) 110 (nI k)
        refine ⟨S2, p + 1, -1, [((110 : Int32), nI k)], ?_, b2, sv_ag_tr (sv_ag_si S 16 3 _ (by unfold sv_kP; omega)) b3, Nat.le_refl _, fun _ => rfl, fun K T hK hT => ?_⟩
        · rw [if_neg hnn, sv_ls, z, b1, sv_bd]
        · refine ⟨T.1 112 k, _, ?_, sv_kr_on hT, sv_rr_5 T (by unfold sv_kF; omega) _, fun _ st => ?_⟩
          · rw [sv_f0 hT, if_pos (by decide), e9_byteAt _ hT k4 k5, sv_bd, sv_jn0, eb, if_neg n33, if_neg n45, if_neg n40, e9_nameOf, sv_bd, if_neg hnn, sv_ls, z, sv_gi (by omega) (by decide), nI_clamp (by omega), sv_si, if_neg (by omega)]
          · rw [sv_ex2_1]
            show some ((if 0 ≤ nI k ∧ nI k ≤ 5 then T.1 112 (nI k).toNatClampNeg else 0) :: st) = _
            rw [if_pos ⟨nI_pos' (by omega), (nI_leI (b := 5) (by omega) (by decide)).mpr hk⟩, nI_clamp (by omega)]
