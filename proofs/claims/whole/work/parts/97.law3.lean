/-! the levels: sums, products, comparison -/
theorem sv_f0 {β : Nat → Int32} {n u p : Nat} {f : Int32} {T : sw_St} (h : sv_kr β n T p f u) : T.1 105 14 = f := h.2.2.1
theorem sv_PS_sum (N : Nat) (hN : 200 ≤ N) {β : Nat → Int32} {n u : Nat} {RF : Nat → Int32 → Int32 → Int32 → Int32 → sw_St → Option (Unit × sw_St)} {RG : Nat → Nat → Int32 → Int32 → Int32 → Int32 → sw_St → Option (Int32 × sw_St)} (h : sv_PS β n u (fun S => RF 4 (nI u) 0 0 0 S) (fun K T => RG K 4 0 0 0 0 T)) : sv_PS β n u (fun S => gX6_readSum N RF (nI u) S) (fun K T => gX9_sums K (RG K) T) := by
  refine sv_PS_lp N (by omega) h (isop := fun c => c = 43 ∨ c = 45) (fun c hc => by rcases hc with rfl | rfl <;> (unfold sv_bo; decide)) (FL := fun m i S => sw_fx1 (fun rec1 x2_1 S2 => (if x2_1 ≥ (120 : Int32) then (some ((), S2)) else (sw_bd (fX6_next N S2) (fun r2 S3 => (sw_jn0 (fun S4 => (sw_bd (fX6_next N S4) (fun r3 S5 => (sw_ls (sw_si S5 16 3 ((S5.1 16 3) + (1 : Int32))) (fun S6 => (sw_bd (RF 4 (nI u) 0 0 0 S6) (fun _ S7 => (sw_bd (fX3_add N 17 r3 (0 : Int32) S7) (fun _ S8 => (rec1 (x2_1 + (1 : Int32)) S8)))))))))) (fun k1 => (if r2 = (43 : Int32) then (k1 S3) else (sw_bd (fX6_next N S3) (fun r6 S9 => (if r6 = (45 : Int32) then (k1 S9) else (some ((), S9)))))))))))) m (nI i) S) (GL := fun K m v T => sw_fx1 (fun rec1 x1_1 S2 => (if (S2.1 105 14) ≥ 0 then (some (x1_1, S2)) else (sw_bd (fX9_byteAt K S2) (fun r2 S3 => (if r2 = (43 : Int32) then (sw_bd (fX9_byteAt K S3) (fun r3 S4 => (sw_jn1 (fun y1 S5 => (sw_ls (sw_si S5 105 12 ((S5.1 105 12) + (1 : Int32))) (fun S6 => (sw_bd (RG K 4 0 0 0 0 S6) (fun r4 S7 => (if y1 = 0 then (sw_li (x1_1 - r4) (fun x1_2 => (rec1 x1_2 S7))) else (sw_li (x1_1 + r4) (fun x1_3 => (rec1 x1_3 S7))))))))) (fun k1 => (if r3 = (43 : Int32) then (k1 (1 : Int32) S4) else (k1 (0 : Int32) S4)))))) else (sw_bd (fX9_byteAt K S3) (fun r5 S8 => (if r5 = (45 : Int32) then (sw_bd (fX9_byteAt K S8) (fun r6 S9 => (sw_jn1 (fun y2 S10 => (sw_ls (sw_si S10 105 12 ((S10.1 105 12) + (1 : Int32))) (fun S11 => (sw_bd (RG K 4 0 0 0 0 S11) (fun r7 S12 => (if y2 = 0 then (sw_li (x1_1 - r7) (fun x1_4 => (rec1 x1_4 S12))) else (sw_li (x1_1 + r7) (fun x1_5 => (rec1 x1_5 S12))))))))) (fun k2 => (if r6 = (43 : Int32) then (k2 (1 : Int32) S9) else (k2 (0 : Int32) S9)))))) else (some (x1_1, S8)))))))))) m v T) (fun S => rfl) (fun K T => rfl) ?_ ?_ ?_ ?_
  · intro m i S p f Γ hS hi hno
    show (if nI i ≥ (120 : Int32) then _ else _) = _
    by_cases e : i = 120
    · rw [if_pos (by rw [e]; exact Int32.le_refl _)]
    · rw [if_neg (show ¬ nI i ≥ (120 : Int32) from nI_ge (b := 120) (by omega) (by decide)), e6_next N hS, sv_bd, sv_jn0, if_neg (fun z => hno (Or.inl z)), e6_next N hS, sv_bd, if_neg (fun z => hno (Or.inr z))]
  · intro m i S p f Γ hS hi hy
    show (if nI i ≥ (120 : Int32) then _ else _) = _
    rw [if_neg (show ¬ nI i ≥ (120 : Int32) from nI_ge (b := 120) hi (by decide)), e6_next N hS, sv_bd, sv_jn0, nI_1]
    rcases hy with hy | hy
    · rw [if_pos hy]
      dsimp only
      rw [e6_next N hS, sv_bd, sv_ls]
    · rw [if_neg (by rw [hy]; decide), e6_next N hS, sv_bd, if_pos hy]
      dsimp only
      rw [e6_next N hS, sv_bd, sv_ls]
  · intro K m v T p f hK hT hp hn hf hno
    rw [sv_fx1s, sv_f0 hT]
    rcases hf with rfl | ⟨k, hk, rfl⟩
    · have q1 : ¬ sv_by β n p = 43 := fun z => hno (Or.inl ((sv_by_nx (by decide) (by decide)).mp z))
      have q2 : ¬ sv_by β n p = 45 := fun z => hno (Or.inr ((sv_by_nx (by decide) (by decide)).mp z))
      rw [if_neg (by decide), e9_byteAt K hT hp hn, sv_bd, if_neg q1, e9_byteAt K hT hp hn, sv_bd, if_neg q2]
    · rw [if_pos (show nI k ≥ (0 : Int32) from nI_pos' (by omega))]
  · intro K m v T p w T4 p4 f4 hK hT hp hn hy hG h4 hp4
    have eb : sv_by β n p = β p := if_pos hp
    rw [sv_fx1s, sv_f0 hT, if_neg (by decide), e9_byteAt K hT (by omega) hn, sv_bd, eb]
    rcases hy with hy | hy
    · rw [if_pos hy, e9_byteAt K hT (by omega) hn, sv_bd, eb, sv_jn1, if_pos hy]
      dsimp only
      rw [sv_ls, hG, sv_bd, if_neg sv_nz, sv_li, hy]
      rfl
    · rw [if_neg (by rw [hy]; decide), e9_byteAt K hT (by omega) hn, sv_bd, eb, if_pos hy, e9_byteAt K hT (by omega) hn, sv_bd, eb, sv_jn1, if_neg (by rw [hy]; decide)]
      dsimp only
      rw [sv_ls, hG, sv_bd, if_pos rfl, sv_li, hy]
      rfl
theorem sv_PS_prod (N : Nat) (hN : 200 ≤ N) {β : Nat → Int32} {n u : Nat} {RF : Nat → Int32 → Int32 → Int32 → Int32 → sw_St → Option (Unit × sw_St)} {RG : Nat → Nat → Int32 → Int32 → Int32 → Int32 → sw_St → Option (Int32 × sw_St)} (h : sv_PS β n u (fun S => RF 5 (nI u) 0 0 0 S) (fun K T => RG K 5 0 0 0 0 T)) : sv_PS β n u (fun S => gX6_readProduct N RF (nI u) S) (fun K T => gX9_product K (RG K) T) := by
  refine sv_PS_lp N (by omega) h (isop := fun c => c = 42 ∨ c = 47 ∨ c = 37) (fun c hc => by rcases hc with rfl | rfl | rfl <;> (unfold sv_bo; decide)) (FL := fun m i S => sw_fx1 (fun rec1 x2_1 S2 => (if x2_1 ≥ (120 : Int32) then (some ((), S2)) else (sw_bd (fX6_next N S2) (fun r2 S3 => (sw_jn0 (fun S4 => (sw_bd (fX6_next N S4) (fun r3 S5 => (sw_ls (sw_si S5 16 3 ((S5.1 16 3) + (1 : Int32))) (fun S6 => (sw_bd (RF 5 (nI u) 0 0 0 S6) (fun _ S7 => (sw_bd (fX3_add N 17 r3 (0 : Int32) S7) (fun _ S8 => (rec1 (x2_1 + (1 : Int32)) S8)))))))))) (fun k1 => (if r2 = (42 : Int32) then (k1 S3) else (sw_bd (fX6_next N S3) (fun r6 S9 => (if r6 = (47 : Int32) then (k1 S9) else (sw_bd (fX6_next N S9) (fun r7 S10 => (if r7 = (37 : Int32) then (k1 S10) else (some ((), S10))))))))))))))) m (nI i) S) (GL := fun K m v T => sw_bd (fX9_byteAt K T) (fun c T1 => sw_fx2 (fun rec1 x1_1 x2_1 S3 => (if (S3.1 105 14) ≥ 0 then (some (x1_1, S3)) else (sw_jn0 (fun S4 => (sw_ls (sw_si S4 105 12 ((S4.1 105 12) + (1 : Int32))) (fun S5 => (sw_bd (RG K 5 0 0 0 0 S5) (fun r3 S6 => (if x2_1 = (42 : Int32) then (sw_li (x1_1 * r3) (fun x1_4 => (sw_bd (fX9_byteAt K S6) (fun r7 S10 => (rec1 x1_4 r7 S10))))) else (if r3 = 0 then (sw_bd (fX9_byteAt K S6) (fun r6 S9 => (rec1 (0 : Int32) r6 S9))) else (if x2_1 = (47 : Int32) then (sw_gd (!decide (r3 = 0)) (sw_li (x1_1 / r3) (fun x1_3 => (sw_bd (fX9_byteAt K S6) (fun r5 S8 => (rec1 x1_3 r5 S8)))))) else (sw_gd (!decide (r3 = 0)) (sw_li (x1_1 - x1_1 / r3 * r3) (fun x1_2 => (sw_bd (fX9_byteAt K S6) (fun r4 S7 => (rec1 x1_2 r4 S7)))))))))))))) (fun k1 => (if x2_1 = (42 : Int32) then (k1 S3) else (if x2_1 = (47 : Int32) then (k1 S3) else (if x2_1 = (37 : Int32) then (k1 S3) else (some (x1_1, S3))))))))) m v c T1)) (fun S => rfl) (fun K T => rfl) ?_ ?_ ?_ ?_
  · intro m i S p f Γ hS hi hno
    show (if nI i ≥ (120 : Int32) then _ else _) = _
    by_cases e : i = 120
    · rw [if_pos (by rw [e]; exact Int32.le_refl _)]
    · rw [if_neg (show ¬ nI i ≥ (120 : Int32) from nI_ge (b := 120) (by omega) (by decide)), e6_next N hS, sv_bd, sv_jn0, if_neg (fun z => hno (Or.inl z)), e6_next N hS, sv_bd, if_neg (fun z => hno (Or.inr (Or.inl z))), e6_next N hS, sv_bd, if_neg (fun z => hno (Or.inr (Or.inr z)))]
  · intro m i S p f Γ hS hi hy
    show (if nI i ≥ (120 : Int32) then _ else _) = _
    rw [if_neg (show ¬ nI i ≥ (120 : Int32) from nI_ge (b := 120) hi (by decide)), e6_next N hS, sv_bd, sv_jn0, nI_1]
    rcases hy with hy | hy | hy
    · rw [if_pos hy]
      dsimp only
      rw [e6_next N hS, sv_bd, sv_ls]
    · rw [if_neg (by rw [hy]; decide), e6_next N hS, sv_bd, if_pos hy]
      dsimp only
      rw [e6_next N hS, sv_bd, sv_ls]
    · rw [if_neg (by rw [hy]; decide), e6_next N hS, sv_bd, if_neg (by rw [hy]; decide), e6_next N hS, sv_bd, if_pos hy]
      dsimp only
      rw [e6_next N hS, sv_bd, sv_ls]
  · intro K m v T p f hK hT hp hn hf hno
    rw [e9_byteAt K hT hp hn, sv_bd, sv_fx2s, sv_f0 hT]
    rcases hf with rfl | ⟨k, hk, rfl⟩
    · have q1 : ¬ sv_by β n p = 42 := fun z => hno (Or.inl ((sv_by_nx (by decide) (by decide)).mp z))
      have q2 : ¬ sv_by β n p = 47 := fun z => hno (Or.inr (Or.inl ((sv_by_nx (by decide) (by decide)).mp z)))
      have q3 : ¬ sv_by β n p = 37 := fun z => hno (Or.inr (Or.inr ((sv_by_nx (by decide) (by decide)).mp z)))
      rw [if_neg (by decide), sv_jn0, if_neg q1, if_neg q2, if_neg q3]
    · rw [if_pos (show nI k ≥ (0 : Int32) from nI_pos' (by omega))]
  · intro K m v T p w T4 p4 f4 hK hT hp hn hy hG h4 hp4
    have eb : sv_by β n p = β p := if_pos hp
    have g : ∀ t : Option (Int32 × sw_St), ¬ w = 0 → sw_gd (!decide (w = 0)) t = t := fun t h => by rw [decide_eq_false h]; rfl
    rw [e9_byteAt K hT (by omega) hn, sv_bd, sv_fx2s, sv_f0 hT, if_neg (by decide), sv_jn0, eb]
    rcases hy with hy | hy | hy
    · rw [hy, if_pos rfl]
      dsimp only
      rw [sv_ls, hG, sv_bd, if_pos rfl, sv_li]
      rfl
    · rw [hy, if_neg (by decide), if_pos rfl]
      dsimp only
      rw [sv_ls, hG, sv_bd, if_neg (by decide)]
      by_cases w0 : w = 0
      · rw [if_pos w0, show sv_jn 47 v w = 0 by show (if w = 0 then (0 : Int32) else v / w) = 0; rw [if_pos w0]]
      · rw [if_neg w0, if_pos rfl, g _ w0, sv_li, show sv_jn 47 v w = v / w by show (if w = 0 then (0 : Int32) else v / w) = v / w; rw [if_neg w0]]
    · rw [hy, if_neg (by decide), if_neg (by decide), if_pos rfl]
      dsimp only
      rw [sv_ls, hG, sv_bd, if_neg (by decide)]
      by_cases w0 : w = 0
      · rw [if_pos w0, show sv_jn 37 v w = 0 by show (if w = 0 then (0 : Int32) else v - v / w * w) = 0; rw [if_pos w0]]
      · rw [if_neg w0, if_neg (by decide), g _ w0, sv_li, show sv_jn 37 v w = v - v / w * w by show (if w = 0 then (0 : Int32) else v - v / w * w) = v - v / w * w; rw [if_neg w0]]
theorem sv_PS_cmp (N : Nat) (hN : 200 ≤ N) {β : Nat → Int32} {n u : Nat} {RF : Nat → Int32 → Int32 → Int32 → Int32 → sw_St → Option (Unit × sw_St)} {RG : Nat → Nat → Int32 → Int32 → Int32 → Int32 → sw_St → Option (Int32 × sw_St)} (h : sv_PS β n u (fun S => RF 3 (nI u) 0 0 0 S) (fun K T => RG K 3 0 0 0 0 T)) : sv_PS β n u (fun S => gX6_readComparison N RF (nI u) S) (fun K T => gX9_compared K (RG K) T) := by
  intro S p f Γ hS hl
  obtain ⟨S1, p1, f1, C1, a1, a2, a3, a4, a5, a6⟩ := h S p f Γ hS hl
  have a1 : RF 3 (nI u) 0 0 0 S = some ((), S1) := a1
  obtain ⟨k1, k2, k3, k4, k5, k6, k7, -⟩ := id a2
  have l1 : (Γ ++ C1).length ≤ p1 := by rw [List.length_append]; omega
  unfold gX6_readComparison gX9_compared
  by_cases hy : sv_nx2 β n p1 f1 = 60 ∨ sv_nx2 β n p1 f1 = 61 ∨ sv_nx2 β n p1 f1 = 62
  · have hne : sv_nx2 β n p1 f1 ≠ -1 := fun z => by rw [z] at hy; exact absurd hy (by decide)
    have hbo : sv_bo (sv_nx2 β n p1 f1) := by
      rcases hy with hy | hy | hy <;> (rw [hy]; unfold sv_bo; decide)
    obtain ⟨hf1, hp, hbp⟩ := (sv_nx2_is k6 hne).mp rfl
    subst hf1
    obtain ⟨S5, p5, f5, C2, b1, b2, b3, b4, b5, b6⟩ := h _ (p1 + 1) (-1) (Γ ++ C1) (sv_kc_on a2 hp) (by omega)
    have b1 : RF 3 (nI u) 0 0 0 (sw_si S1 16 3 (S1.1 16 3 + 1)) = some ((), S5) := b1
    obtain ⟨S6, c1, c2, c3⟩ := e3_add N b2 (by rw [List.length_append]; omega) (sv_nx2 β n p1 (-1)) 0
    have hf : f = -1 := by
      refine Decidable.byContradiction (fun z => ?_)
      exact z (a5 z).symm
    refine ⟨S6, p5, f5, C1 ++ (C2 ++ [(sv_nx2 β n p1 (-1), (0 : Int32))]), ?_, ?_, ?_, ?_, fun z => absurd hf z, fun K T hK hT => ?_⟩
    · show sw_bd (RF 3 (nI u) 0 0 0 S) _ = _
      rw [a1, sv_bd, e6_next N a2, sv_bd, sv_jn0]
      rcases hy with hy | hy | hy
      · rw [if_pos hy]
        dsimp only
        rw [sv_ls, b1, sv_bd, c1, sv_bd]
      · rw [if_neg (by rw [hy]; decide), if_pos hy]
        dsimp only
        rw [sv_ls, b1, sv_bd, c1, sv_bd]
      · rw [if_neg (by rw [hy]; decide), if_neg (by rw [hy]; decide), if_pos hy]
        dsimp only
        rw [sv_ls, b1, sv_bd, c1, sv_bd]
    · rw [← List.append_assoc, ← List.append_assoc]; exact c2
    · exact sv_ag_tr a3 (sv_ag_tr (sv_ag_si S1 16 3 _ (by unfold sv_kP; omega)) (sv_ag_tr b3 c3))
    · rw [List.length_append, List.length_append]; show p + (C1.length + (C2.length + 1)) ≤ p5; omega
    · obtain ⟨v, T1, e1, e2, e3, e4⟩ := a6 K T hK hT
      have e1 : RG K 3 0 0 0 0 T = some (v, T1) := e1
      obtain ⟨w, T5, g1, g2, g3, g4⟩ := b6 K _ hK (sv_kr_on e2)
      have g1 : RG K 3 0 0 0 0 (sw_si T1 105 12 (T1.1 105 12 + 1)) = some (w, T5) := g1
      have g5 : sv_rr (fun _ => False) sv_kF T1 (sw_si T1 105 12 (T1.1 105 12 + 1)) := sv_rr_5 T1 (by unfold sv_kF; omega) _
      have eb : sv_by β n p1 = β p1 := if_pos hp
      refine ⟨sv_jn (β p1) v w, T5, ?_, g2, sv_rr_tr e3 (sv_rr_tr g5 g3), fun hf5 st => ?_⟩
      · show sw_bd (RG K 3 0 0 0 0 T) _ = _
        rw [e1, sv_bd, e9_byteAt K e2 k4 k5, sv_bd, sv_f0 e2, if_neg (by decide), sv_jn0, eb]
        rw [← hbp] at hy
        rcases hy with hy | hy | hy
        · rw [hy, if_pos rfl]
          dsimp only
          rw [sv_ls, g1, sv_bd, if_pos rfl, show sv_jn 60 v w = if v ≥ w then 0 else 1 from rfl]
          by_cases q : v ≥ w
          · rw [if_pos q, if_pos q]
          · rw [if_neg q, if_neg q]
        · rw [hy, if_neg (by decide), if_pos rfl]
          dsimp only
          rw [sv_ls, g1, sv_bd, if_neg (by decide), if_pos rfl, show sv_jn 61 v w = if v = w then 1 else 0 from rfl]
          by_cases q : v = w
          · rw [if_pos q, if_pos q]
          · rw [if_neg q, if_neg q]
        · rw [hy, if_neg (by decide), if_neg (by decide), if_pos rfl]
          dsimp only
          rw [sv_ls, g1, sv_bd, if_neg (by decide), if_neg (by decide), show sv_jn 62 v w = if v ≤ w then 0 else 1 from rfl]
          by_cases q : v ≤ w
          · rw [if_pos q, if_pos q]
          · rw [if_neg q, if_neg q]
      · have n1 : (sw_si T1 105 12 (T1.1 105 12 + 1)).1 112 = T.1 112 := by rw [(g5.1 112 (by decide) (fun z => z)).1, (e3.1 112 (by decide) (fun z => z)).1]
        have g4 := g4 hf5
        rw [n1] at g4
        rw [sv_ex2_ap, e4 rfl st]
        show sv_ex2 (T.1 112) (C2 ++ [(sv_nx2 β n p1 (-1), (0 : Int32))]) (v :: st) = _
        rw [sv_ex2_ap, g4 (v :: st)]
        show sv_ex2 (T.1 112) [(sv_nx2 β n p1 (-1), (0 : Int32))] (w :: v :: st) = _
        rw [sv_ex2_1, sv_st1_bo _ hbo, ← hbp]
  · refine ⟨S1, p1, f1, C1, ?_, a2, a3, a4, a5, fun K T hK hT => ?_⟩
    · show sw_bd (RF 3 (nI u) 0 0 0 S) _ = _
      rw [a1, sv_bd, e6_next N a2, sv_bd, sv_jn0, if_neg (fun z => hy (Or.inl z)), if_neg (fun z => hy (Or.inr (Or.inl z))), if_neg (fun z => hy (Or.inr (Or.inr z)))]
    · obtain ⟨v, T1, e1, e2, e3, e4⟩ := a6 K T hK hT
      have e1 : RG K 3 0 0 0 0 T = some (v, T1) := e1
      refine ⟨v, T1, ?_, e2, e3, e4⟩
      show sw_bd (RG K 3 0 0 0 0 T) _ = _
      rw [e1, sv_bd, e9_byteAt K e2 k4 k5, sv_bd, sv_f0 e2]
      rcases k6 with rfl | ⟨k, hk, rfl⟩
      · have q1 : ¬ sv_by β n p1 = 60 := fun z => hy (Or.inl ((sv_by_nx (by decide) (by decide)).mp z))
        have q2 : ¬ sv_by β n p1 = 61 := fun z => hy (Or.inr (Or.inl ((sv_by_nx (by decide) (by decide)).mp z)))
        have q3 : ¬ sv_by β n p1 = 62 := fun z => hy (Or.inr (Or.inr ((sv_by_nx (by decide) (by decide)).mp z)))
        rw [if_neg (by decide), sv_jn0, if_neg q1, if_neg q2, if_neg q3]
      · rw [if_pos (show nI k ≥ (0 : Int32) from nI_pos' (by omega))]
