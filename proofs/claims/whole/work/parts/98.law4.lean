/-! the law: numbers, names, what opens -/
def sv_nm2 (c : Int32) : Int32 := if c = 98 then 3 else if c = 99 then 4 else if c = 100 then 0 else if c = 109 then 2 else if c = 116 then 5 else if c = 121 then 1 else -1
theorem e6_nameOf (N : Nat) (c : Int32) (S : sw_St) : fX6_nameOf N c S = some (sv_nm2 c, S) := by
  unfold fX6_nameOf sv_nm2
  by_cases h1 : c = 98
  · rw [if_pos h1, if_pos h1]
  rw [if_neg h1, if_neg h1]
  by_cases h2 : c = 99
  · rw [if_pos h2, if_pos h2]
  rw [if_neg h2, if_neg h2]
  by_cases h3 : c = 100
  · rw [if_pos h3, if_pos h3]
  rw [if_neg h3, if_neg h3]
  by_cases h4 : c = 109
  · rw [if_pos h4, if_pos h4]
  rw [if_neg h4, if_neg h4]
  by_cases h5 : c = 116
  · rw [if_pos h5, if_pos h5]
  rw [if_neg h5, if_neg h5]
  by_cases h6 : c = 121
  · rw [if_pos h6, if_pos h6]
  rw [if_neg h6, if_neg h6]
theorem e9_nameOf (N : Nat) (c : Int32) (S : sw_St) : fX9_nameOf N c S = some (sv_nm2 c, S) := e6_nameOf N c S
theorem sv_nm2_cs (c : Int32) : sv_nm2 c = -1 ∨ ∃ k : Nat, k ≤ 5 ∧ sv_nm2 c = nI k ∧ (c = 98 ∨ c = 99 ∨ c = 100 ∨ c = 109 ∨ c = 116 ∨ c = 121) := by
  unfold sv_nm2
  by_cases h1 : c = 98
  · exact Or.inr ⟨3, by decide, by rw [if_pos h1]; rfl, Or.inl h1⟩
  rw [if_neg h1]
  by_cases h2 : c = 99
  · exact Or.inr ⟨4, by decide, by rw [if_pos h2]; rfl, Or.inr (Or.inl h2)⟩
  rw [if_neg h2]
  by_cases h3 : c = 100
  · exact Or.inr ⟨0, by decide, by rw [if_pos h3]; rfl, Or.inr (Or.inr (Or.inl h3))⟩
  rw [if_neg h3]
  by_cases h4 : c = 109
  · exact Or.inr ⟨2, by decide, by rw [if_pos h4]; rfl, Or.inr (Or.inr (Or.inr (Or.inl h4)))⟩
  rw [if_neg h4]
  by_cases h5 : c = 116
  · exact Or.inr ⟨5, by decide, by rw [if_pos h5]; rfl, Or.inr (Or.inr (Or.inr (Or.inr (Or.inl h5))))⟩
  rw [if_neg h5]
  by_cases h6 : c = 121
  · exact Or.inr ⟨1, by decide, by rw [if_pos h6]; rfl, Or.inr (Or.inr (Or.inr (Or.inr (Or.inr h6))))⟩
  rw [if_neg h6]
  exact Or.inl rfl
/-- the digits, side by side -/
theorem sv_numl (N : Nat) {β : Nat → Int32} {n u : Nat} : ∀ d k, k + d = 4 → ∀ p (val : Int32) S Γ m, d < m → sv_kc β n S p (-1) Γ → Γ.length ≤ p → (1 ≤ k ∨ (48 ≤ sv_nx2 β n p (-1) ∧ sv_nx2 β n p (-1) ≤ 57)) → ∃ S' q w, (sw_fx2 (fun rec1 x1_1 x2_1 S1 => (if x2_1 ≥ (4 : Int32) then (sw_bd (fX3_add N 17 (48 : Int32) x1_1 S1) (fun _ S2 => (some ((), S2)))) else (sw_bd (fX6_next N S1) (fun r2 S3 => (sw_bd (fX8_within N r2 (48 : Int32) (57 : Int32) S3) (fun r3 S4 => (if r3 = 0 then (sw_bd (fX3_add N 17 (48 : Int32) x1_1 S4) (fun _ S5 => (some ((), S5)))) else (sw_bd (fX6_next N S4) (fun r5 S6 => (sw_li (((x1_1 * (10 : Int32)) + r5) - (48 : Int32)) (fun x1_2 => (sw_ls (sw_si S6 16 3 ((S6.1 16 3) + (1 : Int32))) (fun S7 => (rec1 x1_2 (x2_1 + (1 : Int32)) S7)))))))))))))) m val (nI k) S) = some ((), S') ∧ sv_kc β n S' q (-1) (Γ ++ [((48 : Int32), w)]) ∧ sv_ag sv_kP S S' ∧ (p ≤ q ∧ (k = 0 → p + 1 ≤ q)) ∧ ∀ K T m', d < m' → sv_kr β n T p (-1) u → ∃ T', (sw_fx2 (fun rec1 x3_1 x4_1 S17 => (if x4_1 ≥ (4 : Int32) then (if x4_1 = 0 then (sw_bd (fX9_wrong K S17) (fun r10 S18 => (some (r10, S18)))) else (some (x3_1, S17))) else (sw_bd (fX9_byteAt K S17) (fun r11 S19 => (if r11 < (48 : Int32) then (if x4_1 = 0 then (sw_bd (fX9_wrong K S19) (fun r12 S20 => (some (r12, S20)))) else (some (x3_1, S19))) else (sw_bd (fX9_byteAt K S19) (fun r13 S21 => (if r13 > (57 : Int32) then (if x4_1 = 0 then (sw_bd (fX9_wrong K S21) (fun r14 S22 => (some (r14, S22)))) else (some (x3_1, S21))) else (sw_bd (fX9_byteAt K S21) (fun r15 S23 => (sw_li ((((10 : Int32) * x3_1) + r15) - (48 : Int32)) (fun x3_2 => (sw_ls (sw_si S23 105 12 ((S23.1 105 12) + (1 : Int32))) (fun S24 => (rec1 x3_2 (x4_1 + (1 : Int32)) S24))))))))))))))) m' val (nI k) T) = some (w, T') ∧ sv_kr β n T' q (-1) u ∧ sv_rr (fun _ => False) sv_kF T T' := by
  intro d
  induction d with
  | zero =>
    intro k hk p val S Γ m hm h hl hd
    have hk4 : k = 4 := by omega
    subst hk4
    obtain ⟨m, rfl⟩ : ∃ m', m = m' + 1 := ⟨m - 1, by omega⟩
    obtain ⟨S', b1, b2, b3⟩ := e3_add N h hl 48 val
    refine ⟨S', p, val, ?_, b2, b3, ⟨Nat.le_refl _, fun z => by omega⟩, fun K T m' hm' hT => ?_⟩
    · rw [sv_fx2s, if_pos (show nI 4 ≥ (4 : Int32) from Int32.le_refl _), b1, sv_bd]
    · obtain ⟨m', rfl⟩ : ∃ m2, m' = m2 + 1 := ⟨m' - 1, by omega⟩
      refine ⟨T, ?_, hT, sv_rr_rf⟩
      rw [sv_fx2s, if_pos (show nI 4 ≥ (4 : Int32) from Int32.le_refl _), if_neg (by decide)]
  | succ d ih =>
    intro k hk p val S Γ m hm h hl hd
    obtain ⟨m, rfl⟩ : ∃ m', m = m' + 1 := ⟨m - 1, by omega⟩
    obtain ⟨h1, h2, h3, h4, h5, h6, h7, -⟩ := id h
    have k4 : ¬ nI k ≥ (4 : Int32) := nI_ge (b := 4) (by omega) (by decide)
    by_cases hdg : 48 ≤ sv_nx2 β n p (-1) ∧ sv_nx2 β n p (-1) ≤ 57
    · have hpn : p < n := by
        rcases Nat.lt_or_ge p n with z | z
        · exact z
        · exfalso
          have e : sv_nx2 β n p (-1) = -1 := by unfold sv_nx2; rw [if_neg (by decide), if_neg (by omega)]
          rw [e] at hdg
          exact absurd hdg.1 (by decide)
      have en : sv_nx2 β n p (-1) = β p := by unfold sv_nx2; rw [if_neg (by decide), if_pos hpn]
      have eb : sv_by β n p = β p := if_pos hpn
      rw [en] at hdg
      obtain ⟨S', q, w, c1, c2, c3, c4, c5⟩ := ih (k + 1) (by omega) (p + 1) (val * 10 + β p - 48) _ Γ m (by omega) (sv_kc_on h hpn) (by omega) (Or.inl (by omega))
      refine ⟨S', q, w, ?_, c2, sv_ag_tr (sv_ag_si S 16 3 _ (by unfold sv_kP; omega)) c3, ⟨by omega, fun _ => by omega⟩, fun K T m' hm' hT => ?_⟩
      · rw [sv_fx2s, if_neg k4, e6_next N h, sv_bd, en, e8_within, sv_bd, sv_Bi, if_pos hdg, e6_next N h, sv_bd, en, sv_li, sv_ls, nI_1]
        exact c1
      · obtain ⟨m', rfl⟩ : ∃ m2, m' = m2 + 1 := ⟨m' - 1, by omega⟩
        obtain ⟨T', g1, g2, g3⟩ := c5 K _ m' (by omega) (sv_kr_on hT)
        refine ⟨T', ?_, g2, sv_rr_tr (sv_rr_5 T (by unfold sv_kF; omega) _) g3⟩
        rw [sv_fx2s, if_neg k4, e9_byteAt K hT h4 h5, sv_bd, eb, if_neg (Int32.not_lt.mpr hdg.1), e9_byteAt K hT h4 h5, sv_bd, eb, if_neg (Int32.not_lt.mpr hdg.2), e9_byteAt K hT h4 h5, sv_bd, eb, sv_li, sv_ls, nI_1, Int32.mul_comm 10 val]
        exact g1
    · have hk1 : 1 ≤ k := hd.resolve_right hdg
      have k0 : ¬ nI k = 0 := fun z => by have := (nI_eq (b := 0) (by omega) (by decide)).mp z; omega
      obtain ⟨S', b1, b2, b3⟩ := e3_add N h hl 48 val
      refine ⟨S', p, val, ?_, b2, b3, ⟨Nat.le_refl _, fun z => by omega⟩, fun K T m' hm' hT => ?_⟩
      · rw [sv_fx2s, if_neg k4, e6_next N h, sv_bd, e8_within, sv_bd, sv_Bi, if_neg hdg, b1, sv_bd]
      · obtain ⟨m', rfl⟩ : ∃ m2, m' = m2 + 1 := ⟨m' - 1, by omega⟩
        refine ⟨T, ?_, hT, sv_rr_rf⟩
        rw [sv_fx2s, if_neg k4, e9_byteAt K hT h4 h5, sv_bd, e9_byteAt K hT h4 h5, sv_bd]
        by_cases hpn : p < n
        · have en : sv_nx2 β n p (-1) = β p := by unfold sv_nx2; rw [if_neg (by decide), if_pos hpn]
          have eb : sv_by β n p = β p := if_pos hpn
          rw [en] at hdg
          rw [eb]
          by_cases q : β p < 48
          · rw [if_pos q, if_neg k0]
          · rw [if_neg q]
            have q2 : β p > 57 := Int32.not_le.mp (fun z => hdg ⟨Int32.not_lt.mp q, z⟩)
            rw [if_pos q2, if_neg k0]
        · have eb : sv_by β n p = 0 := if_neg hpn
          rw [eb, if_pos (by decide), if_neg k0]
