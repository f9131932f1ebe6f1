/-! undo, redo -/
theorem e1_lay (N : Nat) {S : sw_St} {A : sv_A} (h : sv_nc S 1 A) (hA : sv_wf A) {i s w a : Nat} (hi : i < 40) (hv : sv_vw A s w) (ha : a ≤ sv_gr w) (e1 : S.1 80 i = nI s) (e2 : S.1 81 i = nI w) : (sv_fs A s w a → ∃ V, fX1_lay N 1 (nI i) (nI a) S = some ((), V) ∧ sv_nc V 1 (sv_sv A s w a) ∧ sv_ag (fun q => 1 ≤ q ∧ q ≤ 7) S V) ∧ (¬ sv_fs A s w a → fX1_lay N 1 (nI i) (nI a) S = some ((), S)) := by
  have hn := hA.1
  unfold fX1_lay
  rw [sv_gi hi (by decide), nI_clamp (by omega), e1, e2]
  by_cases h0 : w = 0
  · subst h0
    have g0 : sv_gr 0 = 11 := rfl
    obtain ⟨t1, t2⟩ := e4_isTaken N h hA (show s < A.1 by omega) (show a < 12 by omega)
    constructor
    · intro hf
      obtain ⟨V, hV, v1, v2⟩ := e4_set N h hA hv hf
      refine ⟨V, ?_, v1, sv_ag_wk v2 (fun q hq => by omega)⟩
      rw [sv_jn1, if_pos (show nI 0 = 0 from rfl), sv_gi hi (by decide), t1 (hf.2 rfl), sv_bd, if_pos rfl]
      dsimp only
      rw [if_pos rfl, sv_gi hi (by decide), sv_gi hi (by decide), e1, e2, hV, sv_bd]
    · intro hf
      rw [sv_jn1, if_pos (show nI 0 = 0 from rfl), sv_gi hi (by decide), t2 (fun q => hf ⟨ha, fun _ => q⟩), sv_bd, if_neg sv_nz]
      dsimp only
      rw [if_neg sv_nz]
  · constructor
    · intro hf
      obtain ⟨V, hV, v1, v2⟩ := e4_set N h hA hv hf
      refine ⟨V, ?_, v1, sv_ag_wk v2 (fun q hq => by omega)⟩
      rw [sv_jn1, if_neg (show ¬ nI w = 0 from nI_ne0 (by omega) (by omega))]
      dsimp only
      rw [if_pos rfl, sv_gi hi (by decide), sv_gi hi (by decide), e1, e2, hV, sv_bd]
    · intro hf
      exact absurd ⟨ha, fun e => absurd e h0⟩ hf
theorem e9_turns (N : Nat) (hN : 20 ≤ N) {S : sw_St} {A : sv_A} (h : sv_mr S A) (hA : sv_wf A) {s w a : Nat} (hv : sv_vw A s w) (ha : a ≤ sv_gr w) : (sv_fs A s w a → fX9_turns N (nI (sv_pl s w)) (nI a) S = some ((), sw_si S 106 (sv_pl s w) (nI a))) ∧ (¬ sv_fs A s w a → fX9_turns N (nI (sv_pl s w)) (nI a) S = some ((), S)) := by
  have hn := hA.1
  have hp := sv_pl_lt hn hv
  unfold fX9_turns
  by_cases h0 : w = 0
  · subst h0
    have g0 : sv_gr 0 = 11 := rfl
    have hs : s < A.1 := by omega
    have epl : sv_pl s 0 = s := by unfold sv_pl; rw [if_pos (by decide)]; omega
    rw [epl, if_neg (show ¬ nI s ≥ (10 : Int32) from nI_ge (b := 10) (by omega) (by decide)), e9_inCot N hN a (by omega) h hA, sv_bd, e9_inCot N hN a (by omega) h hA, sv_bd, sv_gi (by omega) (by decide), nI_clamp (by omega), sv_ls]
    constructor
    · intro hf
      rcases (e9_mine hA a hs).mp (hf.2 rfl) with q | q
      · rw [if_pos q]
      · rw [if_pos q]
        split <;> rfl
    · intro hf
      have hm : ¬ (sv_lie A.1 (A.2.1 0) a < 0 ∨ sv_lie A.1 (A.2.1 0) a = nI s) := fun q => hf ⟨ha, fun _ => (e9_mine hA a hs).mpr q⟩
      rw [if_neg (fun q => hm (Or.inl q)), if_neg (fun q => hm (Or.inr q))]
  · have h10 : 10 ≤ sv_pl s w := by unfold sv_pl; split <;> omega
    rw [if_pos (show nI (sv_pl s w) ≥ (10 : Int32) from nI_le (a := 10) h10 (by omega)), sv_gi hp (by decide), nI_clamp (by omega), sv_ls]
    exact ⟨fun _ => rfl, fun hf => absurd ⟨ha, fun e => absurd e h0⟩ hf⟩
/-- a step among the changes: both lay the same -/
theorem sv_step (N : Nat) (hN : 5000 ≤ N) {S : sw_St} {A : sv_A} {L : sv_L} {b : Nat} (hr : sv_rl S A L b) {i s w a : Nat} (hi : i < 40) (hv : sv_vw A s w) (ha : a ≤ sv_gr w) (e1 : S.1 80 i = nI s) (e2 : S.1 81 i = nI w) (T : sw_St) (hT : sv_ag (fun q => q = 79) S T) : ∃ V B, fX1_lay N 1 (nI i) (nI a) T = some ((), V) ∧ sv_ag (fun q => 1 ≤ q ∧ q ≤ 7) T V ∧ sv_wf B ∧ B.1 = A.1 ∧ sv_nc V 1 B ∧ ∀ V2 : sw_St, V2.1 106 = V.1 106 → V2.1 105 6 = V.1 105 6 → ∃ U, fX9_turns N (nI (sv_pl s w)) (nI a) V2 = some ((), U) ∧ sv_mr U B ∧ sv_rr (fun q => q = 106) (fun _ => False) V2 U := by
  obtain ⟨h1, h2, h3, -⟩ := hr
  have hn := h1.1
  have t2 : sv_nc T 1 A := sv_nc_eq h2 (fun k hk => (hT _ (by omega)).1)
  have t3 : sv_mr T A := sv_mr_eq h3 (hT 106 (by omega)).1 (by rw [(hT 105 (by omega)).1])
  obtain ⟨l1, l2⟩ := e1_lay N t2 h1 hi hv ha (by rw [(hT 80 (by omega)).1]; exact e1) (by rw [(hT 81 (by omega)).1]; exact e2)
  by_cases hf : sv_fs A s w a
  · obtain ⟨V, hV, v1, v2⟩ := l1 hf
    refine ⟨V, sv_sv A s w a, hV, v2, sv_sv_wf h1 hv hf, sv_sv_n A s w a, v1, fun V2 g1 g2 => ?_⟩
    have m : sv_mr V2 A := sv_mr_eq t3 (g1.trans (v2 106 (by omega)).1) (g2.trans (by rw [(v2 105 (by omega)).1]))
    exact ⟨_, (e9_turns N (by omega) m h1 hv ha).1 hf, sv_mr_sv m hn hv, sv_rr_si V2 106 _ _ (by decide) rfl⟩
  · refine ⟨T, A, l2 hf, sv_ag_rf, h1, rfl, t2, fun V2 g1 g2 => ?_⟩
    have m : sv_mr V2 A := sv_mr_eq t3 g1 g2
    exact ⟨_, (e9_turns N (by omega) m h1 hv ha).2 hf, m, sv_rr_rf⟩
theorem op_undo (N : Nat) (hN : 5000 ≤ N) {S : sw_St} (h : sv_rel S) : sv_ok (fX8_undo N) (fX9_undo N) S := by
  have hs := h
  obtain ⟨A, L, b, h⟩ := h
  have hr := h
  obtain ⟨h1, h2, h3, h4, h5, h6, h7, h8, h9, h10⟩ := h
  obtain ⟨d, z, c1, c2, c3, c4, c5, c6, c7⟩ := h6
  unfold sv_ok fX8_undo fX1_stepBack fX9_undo
  rw [c3]
  by_cases h0 : d = 0
  · subst h0
    rw [if_neg (show ¬ nI 0 > 0 by decide), sv_b0, sv_bd, if_pos rfl]
    exact ⟨_, S, S, rfl, by rw [c4, if_pos (show nI 0 = 0 from rfl)], hs⟩
  · obtain ⟨i, rfl⟩ : ∃ i, d = i + 1 := ⟨d - 1, by omega⟩
    obtain ⟨s, w, a, a', i1, i2, i3, i4, i5, i6, i7, i8, i9, i10⟩ := c7 i (by omega)
    rw [if_pos (show nI (i + 1) > 0 from nI_lt (a := 0) (by omega) (by omega)), nI_pred, sv_ls]
    generalize hT : sw_si S 79 1 (nI i) = T
    have gT : sv_ag (fun q => q = 79) S T := by rw [← hT]; exact sv_ag_si S 79 1 _ rfl
    have t1 : T.1 79 1 = nI i := by rw [← hT]; rfl
    have t0 : T.1 79 0 = nI z := by rw [← hT]; exact c5
    obtain ⟨V, B, hV, gV, hB, hBn, v2, hU⟩ := sv_step N hN hr (i := i) (by omega) i1 i2 i4 i5 T gT
    rw [t1, sv_gi (by omega) (by decide), nI_clamp (by omega), show T.1 82 i = nI a by rw [(gT 82 (by omega)).1]; exact i6, hV, sv_bd, sv_b1, sv_bd, if_neg sv_nz]
    generalize hV2 : sw_si V 105 5 (nI i) = V2
    have gV2 : sv_rr (fun q => q = 106) (fun k => k = 5) V V2 := by rw [← hV2]; exact sv_rr_sf V 5 _ rfl
    obtain ⟨U, hU1, u3, gU⟩ := hU V2 (by rw [← hV2]; rfl) (by rw [← hV2]; rfl)
    have v5 : V.1 105 = S.1 105 := ((gV 105 (by omega)).1).trans (gT 105 (by omega)).1
    have u5 : U.1 105 5 = nI i := by rw [gU.2.1 5 (fun z => z), ← hV2]; rfl
    have wV : ∀ q, ¬ ((1 ≤ q ∧ q ≤ 7) ∨ q = 79) → V.1 q = S.1 q ∧ V.2 q = S.2 q := fun q hq => ⟨((gV q (by omega)).1).trans (gT q (by omega)).1, ((gV q (by omega)).2).trans (gT q (by omega)).2⟩
    have gVU : sv_rr (fun q => q = 106) (fun k => k = 5) V U := sv_rr_tr gV2 (sv_rr_wk gU (fun _ h => h) (fun _ h => h.elim))
    have gW : sv_rr (fun a => ¬ sv_P a ∨ (1 ≤ a ∧ a ≤ 7) ∨ a = 106 ∨ (79 ≤ a ∧ a ≤ 83) ∨ (107 ≤ a ∧ a ≤ 109)) (fun k => sv_F k ∨ k = 6 ∨ k = 4 ∨ k = 5) S U := sv_rr_tr (T := V) ⟨fun a _ ha => wV a (by omega), fun k _ => by rw [v5], (wV 105 (by omega)).2⟩ (sv_rr_wk gVU (fun a ha => by omega) (fun k hk => by omega))
    have v79 : V.1 79 = T.1 79 := (gV 79 (by omega)).1
    have u79 : U.1 79 = T.1 79 := ((gVU.1 79 (by decide) (by omega)).1).trans v79
    have uA : ∀ q, (80 ≤ q ∧ q ≤ 83) ∨ (107 ≤ q ∧ q ≤ 109) → U.1 q = S.1 q := fun q hq => ((gVU.1 q (by omega) (by omega)).1).trans (wV q (by omega)).1
    refine ⟨nI i, V, U, by rw [v79, t1], ?_, ⟨B, L, b, sv_rl_kc hr gW hB (sv_nc_eq v2 (fun k hk => (gVU.1 _ (by omega) (by omega)).1)) u3 hBn ⟨i, z, by omega, c2, by rw [u79, t1], u5, by rw [u79, t0], by rw [gVU.2.1 4 (by omega), v5, c6], fun k hk => ?_⟩⟩⟩
    · rw [v5, c4, if_neg (nI_ne0 (by omega) (by omega)), nI_pred, sv_ls, hV2, show V2.1 105 5 = nI i by rw [← hV2]; rfl, sv_gi (by omega) (by decide), sv_gi (by omega) (by decide), nI_clamp (by omega), show V2.1 107 i = nI (sv_pl s w) by rw [(gV2.1 107 (by decide) (by decide)).1, (wV 107 (by omega)).1]; exact i8, show V2.1 108 i = nI a by rw [(gV2.1 108 (by decide) (by decide)).1, (wV 108 (by omega)).1]; exact i9, hU1, sv_bd, u5]
    · rw [uA 80 (by omega), uA 81 (by omega), uA 82 (by omega), uA 83 (by omega), uA 107 (by omega), uA 108 (by omega), uA 109 (by omega)]
      exact c7 k hk
theorem op_redo (N : Nat) (hN : 5000 ≤ N) {S : sw_St} (h : sv_rel S) : sv_ok (fX8_redo N) (fX9_redo N) S := by
  have hs := h
  obtain ⟨A, L, b, h⟩ := h
  have hr := h
  obtain ⟨h1, h2, h3, h4, h5, h6, h7, h8, h9, h10⟩ := h
  obtain ⟨i, z, c1, c2, c3, c4, c5, c6, c7⟩ := h6
  unfold sv_ok fX8_redo fX1_stepOn fX9_redo
  rw [c3, c5]
  by_cases h0 : i = z
  · subst h0
    rw [if_neg (show ¬ nI i < nI i from fun q => Int32.lt_irrefl q), sv_b0, sv_bd, if_pos rfl]
    exact ⟨_, S, S, rfl, by rw [c4, c6, if_pos rfl], hs⟩
  · obtain ⟨s, w, a', a, i1, i3, i2, i4, i5, i6, i7, i8, i9, i10⟩ := c7 i (by omega)
    rw [if_pos (nI_lt (by omega) (by omega)), sv_gi (by omega) (by decide), nI_clamp (by omega), i7]
    obtain ⟨V0, B, hV, gV, hB, hBn, v2, hU⟩ := sv_step N hN hr (i := i) (by omega) i1 i2 i4 i5 S sv_ag_rf
    rw [hV, sv_bd, sv_ls, sv_b1]
    have v79 : V0.1 79 1 = nI i := by rw [(gV 79 (by omega)).1]; exact c3
    rw [v79, nI_1, sv_bd, if_neg sv_nz]
    generalize hV1 : sw_si V0 79 1 (nI (i + 1)) = V
    have gV1 : sv_ag (fun q => q = 79) V0 V := by rw [← hV1]; exact sv_ag_si V0 79 1 _ rfl
    have w1 : V.1 79 1 = nI (i + 1) := by rw [← hV1]; rfl
    have w0 : V.1 79 0 = nI z := by
      rw [← hV1]
      show V0.1 79 0 = _
      rw [(gV 79 (by omega)).1]
      exact c5
    obtain ⟨U0, hU1, u3, gU⟩ := hU V ((gV1 106 (by omega)).1) (by rw [(gV1 105 (by omega)).1])
    have v5 : V.1 105 = S.1 105 := ((gV1 105 (by omega)).1).trans (gV 105 (by omega)).1
    have wV : ∀ q, ¬ ((1 ≤ q ∧ q ≤ 7) ∨ q = 79) → V.1 q = S.1 q ∧ V.2 q = S.2 q := fun q hq => ⟨((gV1 q (by omega)).1).trans (gV q (by omega)).1, ((gV1 q (by omega)).2).trans (gV q (by omega)).2⟩
    have u05 : U0.1 105 5 = nI i := by rw [gU.2.1 5 (fun z => z), v5]; exact c4
    generalize hU2 : sw_si U0 105 5 (nI (i + 1)) = U
    have gVU : sv_rr (fun q => q = 106) (fun k => k = 5) V U := by
      rw [← hU2]
      exact sv_rr_tr (sv_rr_wk gU (fun _ h => h) (fun _ h => h.elim)) (sv_rr_sf U0 5 _ rfl)
    have u5 : U.1 105 5 = nI (i + 1) := by rw [← hU2]; rfl
    have u4 : U.1 105 4 = nI z := by rw [gVU.2.1 4 (by omega), v5, c6]
    have gW : sv_rr (fun a => ¬ sv_P a ∨ (1 ≤ a ∧ a ≤ 7) ∨ a = 106 ∨ (79 ≤ a ∧ a ≤ 83) ∨ (107 ≤ a ∧ a ≤ 109)) (fun k => sv_F k ∨ k = 6 ∨ k = 4 ∨ k = 5) S U := sv_rr_tr (T := V) ⟨fun a _ ha => wV a (by omega), fun k _ => by rw [v5], (wV 105 (by omega)).2⟩ (sv_rr_wk gVU (fun a ha => by omega) (fun k hk => by omega))
    have u79 : U.1 79 = V.1 79 := (gVU.1 79 (by decide) (by omega)).1
    have uA : ∀ q, (80 ≤ q ∧ q ≤ 83) ∨ (107 ≤ q ∧ q ≤ 109) → U.1 q = S.1 q := fun q hq => ((gVU.1 q (by omega) (by omega)).1).trans (wV q (by omega)).1
    refine ⟨nI z - nI (i + 1), V, U, by rw [w0, w1], ?_, ⟨B, L, b, sv_rl_kc hr gW hB (sv_nc_eq v2 (fun k hk => ((gVU.1 _ (by omega) (by omega)).1).trans (gV1 _ (by omega)).1) ) (sv_mr_eq u3 (by rw [← hU2]; rfl) (by rw [← hU2]; rfl)) hBn ⟨i + 1, z, by omega, c2, by rw [u79, w1], u5, by rw [u79, w0], u4, fun k hk => ?_⟩⟩⟩
    · rw [v5, c4, c6, if_neg (show ¬ nI i = nI z by rw [nI_eq (by omega) (by omega)]; exact h0), sv_gi (by omega) (by decide), sv_gi (by omega) (by decide), nI_clamp (by omega), show V.1 107 i = nI (sv_pl s w) by rw [(wV 107 (by omega)).1]; exact i8, show V.1 109 i = nI a by rw [(wV 109 (by omega)).1]; exact i10, hU1, sv_bd, u05, nI_1, hU2, sv_ls, u4, u5]
    · rw [uA 80 (by omega), uA 81 (by omega), uA 82 (by omega), uA 83 (by omega), uA 107 (by omega), uA 108 (by omega), uA 109 (by omega)]
      exact c7 k hk
