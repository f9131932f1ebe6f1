/-! byTurns -/
def sv_op (l : Nat) (a : Nat) : Prop := a = 23 ∨ (39 + 10 * l ≤ a ∧ a ≤ 78)
/-- the class's move at a night -/
theorem e7_mo (N : Nat) (hN : 100 ≤ N) {S : sw_St} {o : Nat} {A : sv_A} (h : sv_nc S o A) (hA : sv_wf A) {c : Nat} (hc : c < 12) : (∀ l, l % 2 = 0 → ∃ V, fX4_tellAt N o (nI c) (4 : Int32) S = some ((), V) ∧ sv_nc V o (sv_mo A l c) ∧ sv_ag (fun a => a = o ∨ a = o + 4 ∨ a = o + 9) S V) ∧ (∀ l, ¬ l % 2 = 0 → ∃ r V, fX4_touchFrom N o (nI c) S = some (r, V) ∧ sv_nc V o (sv_mo A l c) ∧ sv_ag (fun a => a = o ∨ a = o + 4 ∨ a = o + 9) S V) := by
  refine ⟨fun l hl => ?_, fun l hl => ?_⟩
  · have e : sv_mo A l c = sv_tl A c := by unfold sv_mo; rw [if_pos hc, if_pos hl]
    rw [e]
    obtain ⟨t1, t2⟩ := e4_tellAt N h hA hc 4
    rcases sv_lie_r hA c with ⟨s, hs, q1, -⟩ | ⟨q1, -⟩
    · refine ⟨_, t1 s hs q1, ?_, sv_ag_si S (o + 4) s _ (by omega)⟩
      rw [sv_tl_at hA hs q1]
      exact sv_nc_st h 3 s _ (by decide) (by decide)
    · exact ⟨S, t2 q1, by rw [sv_tl_no q1]; exact h, sv_ag_rf⟩
  · have e : sv_mo A l c = sv_tm A c := by unfold sv_mo; rw [if_pos hc, if_neg hl]
    rw [e]
    obtain ⟨W, m, hW, w1, w2, w3, w4⟩ := e4_touchFrom N hN h hA hc
    exact ⟨_, W, hW, by rw [← sv_tm_eq hA w1]; exact w2, w4⟩
theorem e7_outcome (N : Nat) (hN : 100 ≤ N) (n : Nat) (hn : n ≤ 4) : ∀ (j l : Nat), l + j = n → ∀ (m : Nat), 2 * j ≤ m → ∀ (S : sw_St) (A : sv_A), sv_wf A → sv_nc S (29 + 10 * l) A → (∀ q, l < q → q ≤ n → sv_ns S (29 + 10 * q) A) → ∃ V, fG_4 N (m + 1) 0 (nI l) (nI n) 0 0 S = some (nI (sv_val j l A), V) ∧ (∀ i, j = i + 1 → V.1 23 6 = nI (sv_mm l (if l % 2 = 0 then 0 else 6) (fun k => sv_val i (l + 1) (sv_mo A l ((if l % 2 = 0 then 0 else 6) + k))) (sv_val i (l + 1) A) 6).2) ∧ (∀ q, l < q → q ≤ n → sv_ns V (29 + 10 * q) A) ∧ sv_ag (sv_op l) S V := by
  intro j
  induction j with
  | zero =>
    intro l hl m hm S A hA h hq
    show ∃ V, gX7_outcome N (fG_4 N m) (nI l) (nI n) S = _ ∧ _
    unfold gX7_outcome
    rw [sv_gi (by omega) (by decide), if_neg (show ¬ nI l < nI n from Int32.not_lt.mpr ((nI_leI (by omega) (by omega)).mpr (by omega))), nI_clamp (by omega), e4_howManyAwake N (by omega) h hA, sv_bd]
    exact ⟨S, rfl, fun i hi => by omega, hq, sv_ag_rf⟩
  | succ j ih =>
    intro l hl m hm S A hA h hq
    obtain ⟨m, rfl⟩ : ∃ m', m = m' + 1 + 1 := ⟨m - 2, by omega⟩
    show ∃ V, gX7_outcome N (fG_4 N (m + 1 + 1)) (nI l) (nI n) S = _ ∧ _
    unfold gX7_outcome
    let y : Nat := if l % 2 = 0 then 0 else 6
    let f : Nat → Nat := fun k => sv_val j (l + 1) (sv_mo A l (y + k))
    let Inv : sw_St → Prop := fun W => sv_nc W (29 + 10 * l) A ∧ (∀ q, l < q → q ≤ n → sv_ns W (29 + 10 * q) A) ∧ sv_ag (sv_op l) S W
    have hy6 : y ≤ 6 := by show (if l % 2 = 0 then 0 else 6) ≤ 6; split <;> omega
    -- in mind behind this level
    have mind : ∀ W, Inv W → ∃ V, fX4_becomeInMind N (29 + 10 * (l + 1)) (29 + 10 * l) W = some ((), V) ∧ sv_nc V (29 + 10 * (l + 1)) A ∧ sv_ag (fun a => a = 29 + 10 * (l + 1) ∨ a = 29 + 10 * (l + 1) + 4) W V := fun W hW => e4_inMind N (by omega) hW.1 (hW.2.1 (l + 1) (by omega) (by omega))
    -- on from the next level, at any attic of the same swords
    have next : ∀ W V B m', 2 * j ≤ m' → Inv W → sv_wf B → sv_nc V (29 + 10 * (l + 1)) B → (∀ o, sv_ns W o A → sv_ns W o B) → (∀ U o, sv_ns U o B → sv_ns U o A) → sv_ag (fun a => a = 29 + 10 * (l + 1) ∨ a = 29 + 10 * (l + 1) + 4 ∨ a = 29 + 10 * (l + 1) + 9) W V → ∃ U, fG_4 N (m' + 1) 0 (nI (l + 1)) (nI n) 0 0 V = some (nI (sv_val j (l + 1) B), U) ∧ Inv U := by
      intro W V B m' hm' hW hB hV hb hb2 g
      obtain ⟨U, hU, -, u2, gU⟩ := ih (l + 1) (by omega) m' hm' V B hB hV (fun q h1 h2 => sv_ns_ag (hb _ (hW.2.1 q (by omega) h2)) g (fun k hk => by omega))
      refine ⟨U, hU, sv_nc_ag (sv_nc_ag hW.1 g (fun k hk => by omega)) gU (fun k hk => by unfold sv_op; omega), fun q h1 h2 => ?_, sv_ag_tr hW.2.2 (sv_ag_tr (sv_ag_wk g (fun a ha => by unfold sv_op; omega)) (sv_ag_wk gU (fun a ha => by unfold sv_op at *; omega)))⟩
      by_cases e : q = l + 1
      · subst e
        exact sv_ns_ag (hb2 _ _ (sv_ns_nc hV)) gU (fun k hk => by unfold sv_op; omega)
      · exact hb2 _ _ (u2 q (by omega) h2)
    have hR : ∀ W k, k < 6 → Inv W → ∃ V, fG_4 N (m + 1 + 1) 1 (nI l) (nI n) (nI (y + k)) 0 W = some (nI (f k), V) ∧ Inv V := by
      intro W k hk hW
      show ∃ V, gX7_outcomeOf N (fG_4 N (m + 1)) (nI l) (nI n) (nI (y + k)) W = _ ∧ _
      unfold gX7_outcomeOf
      obtain ⟨X, hX, x1, gX⟩ := mind W hW
      rw [nI_1 l, sv_gi (by omega) (by decide), sv_gi (by omega) (by decide), nI_clamp (by omega), nI_clamp (by omega), hX, sv_bd, sv_par l (by omega)]
      obtain ⟨m1, m2⟩ := e7_mo N hN x1 hA (show y + k < 12 by omega)
      have gX' : sv_ag (fun a => a = 29 + 10 * (l + 1) ∨ a = 29 + 10 * (l + 1) + 4 ∨ a = 29 + 10 * (l + 1) + 9) W X := sv_ag_wk gX (fun a ha => by omega)
      by_cases e : l % 2 = 0
      · obtain ⟨V, hV, v1, v2⟩ := m1 l e
        obtain ⟨U, hU, iU⟩ := next W V (sv_mo A l (y + k)) m (by omega) hW (sv_mo_wf hA _ _) v1 (fun o => sv_ns_mo l _) (fun U o => sv_mo_ns l _) (sv_ag_tr gX' v2)
        rw [if_pos (by rw [e]; rfl), hV, sv_bd, hU, sv_bd]
        exact ⟨U, rfl, iU⟩
      · obtain ⟨r, V, hV, v1, v2⟩ := m2 l e
        obtain ⟨U, hU, iU⟩ := next W V (sv_mo A l (y + k)) m (by omega) hW (sv_mo_wf hA _ _) v1 (fun o => sv_ns_mo l _) (fun U o => sv_mo_ns l _) (sv_ag_tr gX' v2)
        rw [if_neg (show ¬ nI (l % 2) = 0 from fun z => e ((nI_eq (b := 0) (by omega) (by decide)).mp z)), hV, sv_bd, hU, sv_bd]
        exact ⟨U, rfl, iU⟩
    have hS : Inv S := ⟨h, hq, sv_ag_rf⟩
    obtain ⟨X, hX, x1, gX⟩ := mind S hS
    obtain ⟨Y, hY, iY⟩ := next S X A (m + 1) (by omega) hS hA x1 (fun o z => z) (fun U o z => z) (sv_ag_wk gX (fun a ha => by omega))
    have hI : ∀ W, Inv W → ∀ c, c < 12 → W.1 (29 + 10 * l + 6) c = sv_lie A.1 (A.2.1 0) c := fun W hW c hc => hW.1.2.2.2 c hc
    have hI2 : ∀ W v, Inv W → Inv (sw_si W 23 6 v) := fun W v hW => ⟨sv_nc_ag hW.1 (sv_ag_si (P := fun a => a = 23) W 23 6 v rfl) (fun k hk => by omega), fun q h1 h2 => sv_ns_ag (hW.2.1 q h1 h2) (sv_ag_si (P := fun a => a = 23) W 23 6 v rfl) (fun k hk => by omega), sv_ag_tr hW.2.2 (sv_ag_si W 23 6 v (by unfold sv_op; omega))⟩
    have he : ∀ k, k < 6 → (∀ s, s < A.1 → A.2.1 0 s ≠ y + k) → f k = sv_val j (l + 1) A := fun k hk hno => by show sv_val j (l + 1) (sv_mo A l (y + k)) = _; rw [sv_mo_no hA hno]
    have hf : ∀ k, k < 6 → f k ≤ 12 := fun k _ => sv_val_le j (l + 1) _
    have hfin : ∀ V, V.1 23 6 = nI (sv_mm l y f (sv_val j (l + 1) A) 6).2 → Inv V → ∃ U, some (nI (sv_mm l y f (sv_val j (l + 1) A) 6).1, V) = some (nI (sv_val (j + 1) l A), U) ∧ (∀ i, j + 1 = i + 1 → U.1 23 6 = nI (sv_mm l (if l % 2 = 0 then 0 else 6) (fun k => sv_val i (l + 1) (sv_mo A l ((if l % 2 = 0 then 0 else 6) + k))) (sv_val i (l + 1) A) 6).2) ∧ (∀ q, l < q → q ≤ n → sv_ns U (29 + 10 * q) A) ∧ sv_ag (sv_op l) S U := by
      intro V v1 iV
      refine ⟨V, rfl, fun i hi => ?_, iV.2.1, iV.2.2⟩
      have : i = j := by omega
      subst this
      exact v1
    rw [sv_gi (by omega) (by decide), if_pos (show nI l < nI n from Int32.not_le.mp (fun z => by have := (nI_leI (by omega) (by omega)).mp z; omega)), sv_par l (by omega), nI_1 l, nI_clamp (show l < 2 ^ 31 by omega), nI_clamp (show l + 1 < 2 ^ 31 by omega)]
    by_cases e : l % 2 = 0
    · have ey : y = 0 := if_pos e
      rw [if_pos (by rw [e]; rfl), sv_jn1, if_neg sv_nz]
      dsimp only
      rw [sv_gi (by omega) (by decide), hX, sv_bd, hY, sv_bd]
      obtain ⟨V, hV, v1, iV⟩ := e7_six N (by omega) hA (l := l) (y := y) (o := 29 + 10 * l) hy6 hf (sv_val_le j (l + 1) A) he hI hI2 (RR := fun c W => fG_4 N (m + 1 + 1) 1 (nI l) (nI n) c 0 W) hR (K := fun r x p q => if (1 : Int32) = 0 then (if r ≤ x then p else q) else (if r ≥ x then p else q)) (fun a b p q ha hb => by
        rw [if_neg sv_nz]
        unfold sv_tb2
        rw [if_pos e]
        by_cases z : a < b
        · rw [if_neg (show ¬ nI a ≥ nI b from nI_ge z (by omega)), if_pos (decide_eq_true z)]
        · rw [if_pos (show nI a ≥ nI b from (nI_leI (by omega) (by omega)).mpr (by omega)), if_neg (by simpa using z)]) iY
      rw [show nI y = (0 : Int32) by rw [ey]; rfl] at hV
      obtain ⟨U, hU1, hU2⟩ := hfin V v1 iV
      exact ⟨U, hV.trans hU1, hU2⟩
    · have ey : y = 6 := if_neg e
      rw [if_neg (show ¬ nI (l % 2) = 0 from fun z => e ((nI_eq (b := 0) (by omega) (by decide)).mp z)), sv_jn1, if_pos rfl]
      dsimp only
      rw [sv_gi (by omega) (by decide), hX, sv_bd, hY, sv_bd]
      obtain ⟨V, hV, v1, iV⟩ := e7_six N (by omega) hA (l := l) (y := y) (o := 29 + 10 * l) hy6 hf (sv_val_le j (l + 1) A) he hI hI2 (RR := fun c W => fG_4 N (m + 1 + 1) 1 (nI l) (nI n) c 0 W) hR (K := fun r x p q => if (0 : Int32) = 0 then (if r ≤ x then p else q) else (if r ≥ x then p else q)) (fun a b p q ha hb => by
        rw [if_pos rfl]
        unfold sv_tb2
        rw [if_neg e]
        by_cases z : b < a
        · rw [if_neg (show ¬ nI a ≤ nI b from fun q => by have := (nI_leI (by omega) (by omega)).mp q; omega), if_pos (decide_eq_true z)]
        · rw [if_pos (show nI a ≤ nI b from (nI_leI (by omega) (by omega)).mpr (by omega)), if_neg (by simpa using z)]) iY
      rw [show nI y = (6 : Int32) by rw [ey]; rfl] at hV
      obtain ⟨U, hU1, hU2⟩ := hfin V v1 iV
      exact ⟨U, hV.trans hU1, hU2⟩
theorem e7_playTurns (N : Nat) (hN : 200 ≤ N) {S : sw_St} {A : sv_A} (h : sv_nc S 1 A) (hA : sv_wf A) {n : Nat} (hn : n ≤ 4) : ∃ V, fX7_playTurns N (nI n) S = some (nI (sv_val n 0 A), V) ∧ (∀ i, n = i + 1 → V.1 23 6 = nI (sv_mm 0 0 (fun k => sv_val i 1 (sv_mo A 0 k)) (sv_val i 1 A) 6).2) ∧ sv_ag sv_tw S V := by
  unfold fX7_playTurns
  refine sv_fr1 (Q := fun r => ∃ V, r = some (nI (sv_val n 0 A), V) ∧ (∀ i, n = i + 1 → V.1 23 6 = nI (sv_mm 0 0 (fun k => sv_val i 1 (sv_mo A 0 k)) (sv_val i 1 A) 6).2) ∧ sv_ag sv_tw S V) (fun k x W => x = nI k ∧ (∀ q, q < k → sv_nc W (29 + 10 * q) A) ∧ sv_ag (fun a => 29 ≤ a ∧ a ≤ 78) S W) (n + 1) ?_ ?_ N _ S (by omega) ⟨rfl, fun q hq => absurd hq (Nat.not_lt_zero q), sv_ag_rf⟩
  · rintro k x W rec hk ⟨rfl, w1, gW⟩
    left
    have nW : sv_nc W 1 A := sv_nc_ag h gW (fun k hk => by omega)
    obtain ⟨V, hV, v1, gV⟩ := e4_become N (o := 29 + 10 * k) (by omega) nW
    rw [if_neg (show ¬ nI k > nI n from Int32.not_lt.mpr ((nI_leI (by omega) (by omega)).mpr (by omega))), sv_gi (by omega) (by decide), nI_clamp (by omega), hV, sv_bd]
    refine ⟨_, V, ⟨nI_1 k, fun q hq => ?_, sv_ag_tr gW (sv_ag_wk gV (fun a ha => by omega))⟩, rfl⟩
    by_cases e : q = k
    · rw [e]; exact v1
    · exact sv_nc_ag (w1 q (by omega)) gV (fun k hk => by omega)
  · rintro x W rec ⟨rfl, w1, gW⟩
    rw [if_pos (show nI (n + 1) > nI n from Int32.not_le.mp (fun z => by have := (nI_leI (by omega) (by omega)).mp z; omega))]
    obtain ⟨V, hV, v1, -, gV⟩ := e7_outcome N (by omega) n hn n 0 (by omega) 99 (by omega) W A hA (w1 0 (by omega)) (fun q h1 h2 => sv_ns_nc (w1 q (by omega)))
    unfold fX7_outcome
    rw [show fG_4 N 100 0 (0 : Int32) (nI n) 0 0 W = some (nI (sv_val n 0 A), V) from hV, sv_bd]
    refine ⟨V, rfl, fun i hi => ?_, sv_ag_tr (sv_ag_wk gW (fun a ha => by unfold sv_tw; omega)) (sv_ag_wk gV (fun a ha => by unfold sv_op at ha; unfold sv_tw; omega))⟩
    have := v1 i hi
    simpa using this
