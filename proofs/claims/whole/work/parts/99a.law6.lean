/-! the law: all levels; a line -/
theorem sv_PS_up (N : Nat) (hN : 200 ≤ N) {β : Nat → Int32} {n u M M' : Nat} (h : sv_PS β n u (fun S => fG_2 N M 5 (nI u) 0 0 0 S) (fun K T => fG_5 K M' 5 0 0 0 0 T)) : sv_PS β n u (fun S => fG_2 N (M + 5) 0 (nI u) 0 0 0 S) (fun K T => fG_5 K (M' + 5) 0 0 0 0 0 T) := by
  have h4 : sv_PS β n u (fun S => fG_2 N (M + 1) 4 (nI u) 0 0 0 S) (fun K T => fG_5 K (M' + 1) 4 0 0 0 0 T) := sv_PS_prod N hN (RG := fun K => fG_5 K M') h
  have h3 : sv_PS β n u (fun S => fG_2 N (M + 2) 3 (nI u) 0 0 0 S) (fun K T => fG_5 K (M' + 2) 3 0 0 0 0 T) := sv_PS_sum N hN (RG := fun K => fG_5 K (M' + 1)) h4
  have h2 : sv_PS β n u (fun S => fG_2 N (M + 3) 2 (nI u) 0 0 0 S) (fun K T => fG_5 K (M' + 3) 2 0 0 0 0 T) := sv_PS_cmp N hN (RG := fun K => fG_5 K (M' + 2)) h3
  have h1 : sv_PS β n u (fun S => fG_2 N (M + 4) 1 (nI u) 0 0 0 S) (fun K T => fG_5 K (M' + 4) 1 0 0 0 0 T) := sv_PS_and N hN (RG := fun K => fG_5 K (M' + 3)) h2
  exact sv_PS_or N hN (RG := fun K => fG_5 K (M' + 4)) h1
theorem sv_PS_one (N : Nat) (hN : 200 ≤ N) {β : Nat → Int32} {n : Nat} : ∀ j, j ≤ 6 → ∀ M M', 7 * j + 2 ≤ M → 6 * j + 1 ≤ M' → sv_PS β n (6 - j) (fun S => fG_2 N M 5 (nI (6 - j)) 0 0 0 S) (fun K T => fG_5 K M' 5 0 0 0 0 T) := by
  intro j
  induction j with
  | zero =>
    intro hj M M' hM hM'
    obtain ⟨m, rfl⟩ : ∃ m, M = m + 1 + 1 := ⟨M - 2, by omega⟩
    obtain ⟨m', rfl⟩ : ∃ m, M' = m + 1 := ⟨M' - 1, by omega⟩
    exact sv_PS_opd N hN (u := 6) (by omega) (RF := fG_2 N (m + 1)) (RF' := fG_2 N m) (RG := fun K => fG_5 K m') (fun a b S => rfl) (fun z => absurd z (by omega)) (fun z => absurd z (by omega))
  | succ j ih =>
    intro hj M M' hM hM'
    obtain ⟨m, rfl⟩ : ∃ m, M = m + 5 + 1 + 1 := ⟨M - 7, by omega⟩
    obtain ⟨m', rfl⟩ : ∃ m, M' = m + 5 + 1 := ⟨M' - 6, by omega⟩
    have e : 6 - (j + 1) + 1 = 6 - j := by omega
    have i1 := ih (by omega) m m' (by omega) (by omega)
    have i2 := ih (by omega) (m + 5) (m' + 5) (by omega) (by omega)
    have i3 := sv_PS_up N hN i1
    rw [← e] at i2 i3
    exact sv_PS_opd N hN (u := 6 - (j + 1)) (by omega) (RF := fG_2 N (m + 5 + 1)) (RF' := fG_2 N (m + 5)) (RG := fun K => fG_5 K (m' + 5)) (fun a b S => rfl) (fun _ => i3) (fun _ => i2)
theorem sv_PS_E (N : Nat) (hN : 200 ≤ N) (β : Nat → Int32) (n : Nat) : sv_PS β n 0 (fun S => fX6_readOr N (0 : Int32) S) (fun K T => fX9_either K T) :=
  sv_PS_up N hN (M := 95) (M' := 95) (u := 0) (sv_PS_one N hN 6 (by omega) 95 95 (by omega) (by omega))
/-- a line: what is asked ahead, is it, what is given -/
abbrev sv_Ln : Type := List (Int32 × Int32) × Bool × List (Int32 × Int32)
def sv_cl1 (b : Nat) (l : sv_Ln) : List (Int32 × Int32) := if l.2.1 = true then l.1 ++ [((63 : Int32), nI (b + l.1.length + 1 + l.2.2.length))] ++ l.2.2 ++ [((59 : Int32), (0 : Int32))] else l.1 ++ [((59 : Int32), (0 : Int32))]
def sv_v1 (ν : Nat → Int32) (C : List (Int32 × Int32)) : Int32 := match sv_ex2 ν C [] with
  | some (v :: _) => v
  | _ => 0
theorem sv_v1_of {ν : Nat → Int32} {C : List (Int32 × Int32)} {v : Int32} (h : ∀ st, sv_ex2 ν C st = some (v :: st)) : sv_v1 ν C = v := by
  unfold sv_v1
  rw [h []]
/-- it can be worked out -/
def sv_wl (ν : Nat → Int32) (l : sv_Ln) : Prop := (∀ st, sv_ex2 ν l.1 st = some (sv_v1 ν l.1 :: st)) ∧ (l.2.1 = true → ∀ st, sv_ex2 ν l.2.2 st = some (sv_v1 ν l.2.2 :: st))
/-- what the line gives, and does it give -/
def sv_lv (ν : Nat → Int32) (l : sv_Ln) : Int32 := if l.2.1 = true then sv_v1 ν l.2.2 else sv_v1 ν l.1
def sv_lh (ν : Nat → Int32) (l : sv_Ln) : Int32 := if l.2.1 = true then (if sv_v1 ν l.1 = 0 then 0 else 1) else 1
theorem sv_kc_arg {β : Nat → Int32} {n : Nat} {S : sw_St} {p : Nat} {f : Int32} {Γ Δ : List (Int32 × Int32)} {op a : Int32} (h : sv_kc β n S p f (Γ ++ [(op, a)] ++ Δ)) (v : Int32) : sv_kc β n (sw_si S 19 Γ.length v) p f (Γ ++ [(op, v)] ++ Δ) := by
  obtain ⟨h1, h2, h3, h4, h5, h6, h7, h8, h9, h10⟩ := h
  have el : (Γ ++ [(op, v)] ++ Δ).length = (Γ ++ [(op, a)] ++ Δ).length := by rw [List.length_append, List.length_append, List.length_append, List.length_append]; rfl
  refine ⟨?_, ?_, ?_, h4, h5, h6, fun i hi => ?_, ?_, by rw [el]; exact h9, fun i hi => ?_⟩
  · rw [sv_si, if_neg (by omega)]; exact h1
  · rw [sv_si, if_neg (by omega)]; exact h2
  · rw [sv_si, if_neg (by omega)]; exact h3
  · rw [sv_si, if_neg (by omega)]; exact h7 i hi
  · rw [sv_si, if_neg (by omega), el]; exact h8
  · rw [el] at hi
    have q := h10 i hi
    rw [sv_si, if_neg (by omega), sv_si]
    rw [List.append_assoc] at q ⊢
    rcases Nat.lt_trichotomy i Γ.length with z | z | z
    · rw [if_neg (by omega), sv_gdl _ _ _ z]
      rw [sv_gdl _ _ _ z] at q
      exact q
    · subst z
      rw [if_pos ⟨rfl, rfl⟩]
      have e1 : (Γ ++ ([(op, v)] ++ Δ)).getD Γ.length (0, 0) = (op, v) := sv_gdr Γ ([(op, v)] ++ Δ) 0
      have e2 : (Γ ++ ([(op, a)] ++ Δ)).getD Γ.length (0, 0) = (op, a) := sv_gdr Γ ([(op, a)] ++ Δ) 0
      rw [e1]
      rw [e2] at q
      exact ⟨q.1, rfl⟩
    · obtain ⟨j, rfl⟩ : ∃ j, i = Γ.length + (j + 1) := ⟨i - Γ.length - 1, by omega⟩
      rw [if_neg (by omega)]
      have e1 : (Γ ++ ([(op, v)] ++ Δ)).getD (Γ.length + (j + 1)) (0, 0) = Δ.getD j (0, 0) := sv_gdr Γ ([(op, v)] ++ Δ) (j + 1)
      have e2 : (Γ ++ ([(op, a)] ++ Δ)).getD (Γ.length + (j + 1)) (0, 0) = Δ.getD j (0, 0) := sv_gdr Γ ([(op, a)] ++ Δ) (j + 1)
      rw [e1]
      rw [e2] at q
      exact q
theorem sv_line (N : Nat) (hN : 200 ≤ N) {β : Nat → Int32} {n : Nat} {S : sw_St} {p : Nat} {f : Int32} {Γ : List (Int32 × Int32)} (h : sv_kc β n S p f Γ) (hl : Γ.length ≤ p) : ∃ S' p' f' l, fX6_readLine N S = some ((), S') ∧ sv_kc β n S' p' f' (Γ ++ sv_cl1 Γ.length l) ∧ sv_ag sv_kP S S' ∧ p ≤ p' ∧ (f ≠ -1 → f' = f) ∧ ∀ K T, 200 ≤ K → sv_kr β n T p f 0 → ∃ v w T', (∀ {ρ : Type} (Q : Int32 → Int32 → sw_St → Option ρ), (sw_bd (fX9_either K T) (fun r2 S8 => (sw_bd (fX9_takes K (63 : Int32) S8) (fun r3 S9 => (sw_jn2 Q (fun k1 => (if r3 = 0 then (k1 r2 (1 : Int32) S9) else (if r2 = 0 then (sw_bd (fX9_either K S9) (fun r8 S15 => (k1 r8 (0 : Int32) S15))) else (sw_bd (fX9_either K S9) (fun r9 S16 => (k1 r9 (1 : Int32) S16))))))))))) = Q v w T') ∧ sv_kr β n T' p' f' 0 ∧ sv_rr (fun _ => False) sv_kF T T' ∧ (f' = -1 → sv_wl (T.1 112) l ∧ v = sv_lv (T.1 112) l ∧ w = sv_lh (T.1 112) l) := by
  have hE := sv_PS_E N hN β n
  obtain ⟨S1, p1, f1, C1, a1, a2, a3, a4, a5, a6⟩ := hE S p f Γ h hl
  have a1 : fX6_readOr N (0 : Int32) S = some ((), S1) := a1
  obtain ⟨k1, k2, k3, k4, k5, k6, k7, k8, k9, -⟩ := id a2
  have l1 : (Γ ++ C1).length ≤ p1 := by rw [List.length_append]; omega
  unfold fX6_readLine
  rw [a1, sv_bd, e6_next N a2, sv_bd, sv_jn1]
  by_cases hq : sv_nx2 β n p1 f1 = 63
  · obtain ⟨hf1, hp1, hb1⟩ := (sv_nx2_is k6 (by decide)).mp hq
    subst hf1
    have hf : f = -1 := by
      refine Decidable.byContradiction (fun z => ?_)
      exact z (a5 z).symm
    have s1 := sv_kc_on a2 hp1
    obtain ⟨S2, b1, b2, b3⟩ := e3_add N s1 (show (Γ ++ C1).length ≤ p1 + 1 by omega) 63 0
    have l2 : (Γ ++ C1 ++ [((63 : Int32), (0 : Int32))]).length ≤ p1 + 1 := by rw [List.length_append]; show (Γ ++ C1).length + 1 ≤ p1 + 1; omega
    obtain ⟨S3, p3, f3, C3, c1, c2, c3, c4, c5, c6⟩ := hE S2 (p1 + 1) (-1) _ b2 l2
    have c1 : fX6_readOr N (0 : Int32) S2 = some ((), S3) := c1
    obtain ⟨q1, q2, q3, q4, q5, q6, q7, q8, q9, -⟩ := id c2
    have e17 : (sw_si S1 16 3 (S1.1 16 3 + 1)).1 17 1 = nI (Γ ++ C1).length := s1.2.2.2.2.2.2.2.1
    have lq : (Γ ++ C1).length ≤ 121 := by omega
    have s3 := sv_kc_arg c2 (nI (Γ ++ C1 ++ [((63 : Int32), (0 : Int32))] ++ C3).length)
    have l3 : (Γ ++ C1 ++ [((63 : Int32), nI (Γ ++ C1 ++ [((63 : Int32), (0 : Int32))] ++ C3).length)] ++ C3).length ≤ p3 := by
      rw [List.length_append, List.length_append, List.length_append]
      rw [List.length_append] at l1
      show Γ.length + C1.length + 1 + C3.length ≤ p3
      omega
    obtain ⟨S4, d1, d2, d3⟩ := e3_add N s3 l3 59 0
    refine ⟨S4, p3, f3, (C1, true, C3), ?_, ?_, ?_, by omega, fun z => absurd hf z, fun K T hK hT => ?_⟩
    · rw [if_pos hq, sv_ls, sv_li, b1, sv_bd, c1, sv_bd, e17]
      dsimp only
      rw [e8_within, sv_bd, sv_Bi, if_pos ⟨nI_pos' (by omega), (nI_leI (b := 127) (by omega) (by decide)).mpr (by omega)⟩, sv_gi (by omega) (by decide), nI_clamp (by omega), sv_ls, q8, d1, sv_bd]
    · have ec : Γ ++ sv_cl1 Γ.length (C1, true, C3) = Γ ++ C1 ++ [((63 : Int32), nI (Γ ++ C1 ++ [((63 : Int32), (0 : Int32))] ++ C3).length)] ++ C3 ++ [((59 : Int32), (0 : Int32))] := by
        unfold sv_cl1
        rw [if_pos rfl]
        have el : (Γ ++ C1 ++ [((63 : Int32), (0 : Int32))] ++ C3).length = Γ.length + C1.length + 1 + C3.length := by rw [List.length_append, List.length_append, List.length_append]; rfl
        rw [el]
        simp only [List.append_assoc]
      rw [ec]
      exact d2
    · exact sv_ag_tr a3 (sv_ag_tr (sv_ag_si S1 16 3 _ (by unfold sv_kP; omega)) (sv_ag_tr b3 (sv_ag_tr c3 (sv_ag_tr (sv_ag_si S3 19 _ _ (by unfold sv_kP; omega)) d3))))
    · obtain ⟨v1, T1, e1, e2, e3, e4⟩ := a6 K T hK hT
      have e1 : fX9_either K T = some (v1, T1) := e1
      obtain ⟨v3, T3, g1, g2, g3, g4⟩ := c6 K _ hK (sv_kr_on e2)
      have g1 : fX9_either K (sw_si T1 105 12 (T1.1 105 12 + 1)) = some (v3, T3) := g1
      have g5 : sv_rr (fun _ => False) sv_kF T1 (sw_si T1 105 12 (T1.1 105 12 + 1)) := sv_rr_5 T1 (by unfold sv_kF; omega) _
      refine ⟨v3, (if v1 = 0 then 0 else 1), T3, fun Q => ?_, g2, sv_rr_tr e3 (sv_rr_tr g5 g3), fun hf3 => ?_⟩
      · rw [e1, sv_bd, (e9_takes K e2 (Or.inl rfl) k4 k5 (by decide) (by decide)).1 hq, sv_bd, sv_jn2, if_neg sv_nz]
        by_cases z : v1 = 0
        · rw [if_pos z, if_pos z, g1, sv_bd]
        · rw [if_neg z, if_neg z, g1, sv_bd]
      · have n1 : (sw_si T1 105 12 (T1.1 105 12 + 1)).1 112 = T.1 112 := by rw [(g5.1 112 (by decide) (fun z => z)).1, (e3.1 112 (by decide) (fun z => z)).1]
        have e4 := e4 rfl
        have g4 := g4 hf3
        rw [n1] at g4
        have x1 := sv_v1_of e4
        have x2 := sv_v1_of g4
        refine ⟨⟨fun st => by show sv_ex2 (T.1 112) C1 st = _; rw [x1]; exact e4 st, fun _ st => by show sv_ex2 (T.1 112) C3 st = some (sv_v1 (T.1 112) C3 :: st); rw [x2]; exact g4 st⟩, ?_, ?_⟩
        · show v3 = sv_v1 (T.1 112) C3
          exact x2.symm
        · show _ = (if sv_v1 (T.1 112) C1 = 0 then 0 else 1)
          rw [x1]
  · obtain ⟨S4, d1, d2, d3⟩ := e3_add N a2 l1 59 0
    refine ⟨S4, p1, f1, (C1, false, []), ?_, ?_, sv_ag_tr a3 d3, by omega, a5, fun K T hK hT => ?_⟩
    · rw [if_neg hq]
      dsimp only
      rw [e8_within, sv_bd, sv_Bi, if_neg (by decide), d1, sv_bd]
    · have ec : Γ ++ sv_cl1 Γ.length (C1, false, []) = Γ ++ C1 ++ [((59 : Int32), (0 : Int32))] := by
        unfold sv_cl1
        rw [if_neg (show ¬ (false = true) by decide), List.append_assoc]
      rw [ec]
      exact d2
    · obtain ⟨v1, T1, e1, e2, e3, e4⟩ := a6 K T hK hT
      have e1 : fX9_either K T = some (v1, T1) := e1
      refine ⟨v1, 1, T1, fun Q => ?_, e2, e3, fun hf1 => ?_⟩
      · rw [e1, sv_bd, (e9_takes K e2 k6 k4 k5 (by decide) (by decide)).2 hq, sv_bd, sv_jn2, if_pos rfl]
      · have e4 := e4 hf1
        have x1 := sv_v1_of e4
        exact ⟨⟨fun st => by show sv_ex2 (T.1 112) C1 st = _; rw [x1]; exact e4 st, fun z => absurd (show false = true from z) (by decide)⟩, x1.symm, rfl⟩
