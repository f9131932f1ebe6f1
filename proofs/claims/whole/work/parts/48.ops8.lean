/-! image, back -/
theorem e2_keepImage (N : Nat) {S : sw_St} {A : sv_A} (h2 : sv_nc S 1 A) (hn : A.1 ≤ 10) : ∃ V, fX2_keepImage N 1 S = some ((), V) ∧ V.1 84 0 = 1 ∧ V.1 84 5 = nI A.1 ∧ V.1 84 6 = nI (A.2.2 0) ∧ V.1 84 7 = nI (A.2.2 2) ∧ (∀ s, s < A.1 → V.1 87 s = nI (A.2.1 3 s) ∧ V.1 88 s = nI (A.2.1 4 s)) ∧ (∀ k, k < 5 → V.1 86 k = S.1 85 k) ∧ sv_ag (fun a => a = 84 ∨ a = 86 ∨ a = 87 ∨ a = 88) S V := by
  unfold fX2_keepImage
  have e0 : S.1 1 0 = nI A.1 := h2.1
  have e1 : S.1 1 1 = nI (A.2.2 0) := h2.2.2.1 0 (by omega)
  have e3 : S.1 1 3 = nI (A.2.2 2) := h2.2.2.1 2 (by omega)
  have p0 : ∀ v, (sw_si S 84 0 v).1 1 0 = nI A.1 := fun v => by rw [sv_si, if_neg (by omega)]; exact e0
  have p1 : ∀ v w, (sw_si (sw_si S 84 0 v) 84 5 w).1 1 1 = nI (A.2.2 0) := fun v w => by rw [sv_si, if_neg (by omega), sv_si, if_neg (by omega)]; exact e1
  have p3 : ∀ v w u, (sw_si (sw_si (sw_si S 84 0 v) 84 5 w) 84 6 u).1 1 3 = nI (A.2.2 2) := fun v w u => by rw [sv_si, if_neg (by omega), sv_si, if_neg (by omega), sv_si, if_neg (by omega)]; exact e3
  rw [sv_ls, sv_ls, p0, sv_ls, p1, sv_ls, p3]
  generalize hT : sw_si (sw_si (sw_si (sw_si S 84 0 1) 84 5 (nI A.1)) 84 6 (nI (A.2.2 0))) 84 7 (nI (A.2.2 2)) = T
  have t5 : T.1 84 5 = nI A.1 := by rw [← hT]; simp [sv_si]
  have t0 : T.1 84 0 = 1 := by rw [← hT]; simp [sv_si]
  have t6 : T.1 84 6 = nI (A.2.2 0) := by rw [← hT]; simp [sv_si]
  have t7 : T.1 84 7 = nI (A.2.2 2) := by rw [← hT]; simp [sv_si]
  have gT : sv_ag (fun a => a = 84 ∨ a = 86 ∨ a = 87 ∨ a = 88) S T := by
    rw [← hT]
    exact sv_ag_tr (sv_ag_si S 84 0 _ (Or.inl rfl)) (sv_ag_tr (sv_ag_si _ 84 5 _ (Or.inl rfl)) (sv_ag_tr (sv_ag_si _ 84 6 _ (Or.inl rfl)) (sv_ag_si _ 84 7 _ (Or.inl rfl))))
  rw [t5, show (0 : Int32) = nI 0 from rfl, sv_cg (by omega) (by omega) (by decide) (by decide), sv_gt, sv_ls, nI_clamp (n := 0) (by decide), nI_clamp (n := A.1) (by omega)]
  have q5 : (sw_ci T (1 + 4) 87 0 0 A.1).1 84 5 = nI A.1 := by rw [sv_ci, if_neg (by omega)]; exact t5
  rw [q5, sv_cg (by omega) (by omega) (by decide) (by decide), sv_gt, sv_ls, nI_clamp (n := A.1) (by omega), show (5 : Int32) = nI 5 from rfl, sv_cg (by omega) (by omega) (by decide) (by decide), sv_gt, sv_ls, nI_clamp (n := 5) (by decide)]
  refine ⟨_, rfl, ?_, ?_, ?_, ?_, fun s hs => ⟨?_, ?_⟩, fun k hk => ?_, ?_⟩
  · rw [sv_ci, if_neg (by omega), sv_ci, if_neg (by omega), sv_ci, if_neg (by omega)]; exact t0
  · rw [sv_ci, if_neg (by omega), sv_ci, if_neg (by omega), sv_ci, if_neg (by omega)]; exact t5
  · rw [sv_ci, if_neg (by omega), sv_ci, if_neg (by omega), sv_ci, if_neg (by omega)]; exact t6
  · rw [sv_ci, if_neg (by omega), sv_ci, if_neg (by omega), sv_ci, if_neg (by omega)]; exact t7
  · rw [sv_ci, if_neg (by omega), sv_ci, if_neg (by omega), sv_ci, if_pos (by omega), (gT (1 + 4) (by omega)).1, show 0 + (s - 0) = s by omega]
    exact h2.2.1 3 s (by omega) (by omega)
  · rw [sv_ci, if_neg (by omega), sv_ci, if_pos (by omega), sv_ci, if_neg (by omega), (gT (1 + 5) (by omega)).1, show 0 + (s - 0) = s by omega]
    exact h2.2.1 4 s (by omega) (by omega)
  · rw [sv_ci, if_pos (by omega), sv_ci, if_neg (by omega), sv_ci, if_neg (by omega), (gT 85 (by omega)).1, show 0 + (k - 0) = k by omega]
  · exact sv_ag_tr gT (sv_ag_tr (sv_ag_ci T _ 87 _ _ _ (by omega)) (sv_ag_tr (sv_ag_ci _ _ 88 _ _ _ (by omega)) (sv_ag_ci _ _ 86 _ _ _ (by omega))))
theorem op_image (N : Nat) (hN : 5000 ≤ N) {S : sw_St} (h : sv_rel S) : sv_ok (fX8_image N) (fX9_image N) S := by
  obtain ⟨A, L, b, h⟩ := h
  have hr := h
  obtain ⟨h1, h2, h3, h4, h5, h6, h7, h8, h9, h10⟩ := h
  have hn := h1.1
  obtain ⟨V, hV, v0, v5, v6, v7, v8, v9, gV⟩ := e2_keepImage N h2 hn
  unfold sv_ok fX8_image
  rw [hV, sv_bd, show (0 : Int32) = nI 0 from rfl, sv_gi (by decide) (by decide), nI_clamp (by decide)]
  have hm : V.1 106 = S.1 106 := (gV 106 (by omega)).1
  have h15 : V.1 105 = S.1 105 := (gV 105 (by omega)).1
  -- the reference
  have key : ∃ U, fX9_image N V = some (V.1 119 0, U) ∧ U.1 105 28 = 1 ∧ U.1 105 29 = nI A.1 ∧ (∀ k, k < 53 → U.1 120 k = S.1 106 k) ∧ (∀ k, k < 5 → U.1 121 k = V.1 119 k) ∧ sv_rr (fun a => a = 120 ∨ a = 121) (fun k => k = 28 ∨ k = 29) V U := by
    unfold fX9_image
    rw [sv_ls, sv_ls]
    generalize hT : sw_si (sw_si V 105 28 1) 105 29 ((sw_si V 105 28 1).1 105 6) = T
    have t28 : T.1 105 28 = 1 := by rw [← hT]; simp [sv_si]
    have t29 : T.1 105 29 = nI A.1 := by rw [← hT]; simp [sv_si, h15]; exact h3.1
    have gT : sv_rr (fun a => a = 120 ∨ a = 121) (fun k => k = 28 ∨ k = 29) V T := by
      rw [← hT]
      exact sv_rr_tr (sv_rr_sf V 28 _ (Or.inl rfl)) (sv_rr_sf _ 29 _ (Or.inr rfl))
    refine sv_fr1 (Q := fun t => ∃ U, t = some (V.1 119 0, U) ∧ U.1 105 28 = 1 ∧ U.1 105 29 = nI A.1 ∧ (∀ k, k < 53 → U.1 120 k = S.1 106 k) ∧ (∀ k, k < 5 → U.1 121 k = V.1 119 k) ∧ sv_rr (fun a => a = 120 ∨ a = 121) (fun k => k = 28 ∨ k = 29) V U) (fun k x T2 => x = nI k ∧ (∀ i, i < k → T2.1 120 i = S.1 106 i) ∧ sv_rr (fun a => a = 120) (fun _ => False) T T2) 53 ?_ ?_ N _ T (by omega) ⟨rfl, fun i hi => absurd hi (Nat.not_lt_zero i), sv_rr_rf⟩
    · rintro k x T2 rec hk ⟨rfl, hg, g2⟩
      left
      rw [if_neg (show ¬ nI k > (52 : Int32) from nI_nlt (a := 52) (by omega) (by decide)), sv_gi hk (by decide), sv_gi hk (by decide), nI_clamp (by omega), sv_ls]
      refine ⟨_, _, ⟨nI_1 k, fun i hi => ?_, sv_rr_tr g2 (sv_rr_si T2 120 k _ (by decide) rfl)⟩, rfl⟩
      rw [sv_si]
      by_cases hik : i = k
      · subst hik
        rw [if_pos ⟨rfl, rfl⟩, (g2.1 106 (by decide) (by omega)).1, (gT.1 106 (by decide) (by omega)).1, hm]
      · rw [if_neg (by omega)]; exact hg i (by omega)
    · rintro x T2 rec ⟨rfl, hg, g2⟩
      rw [if_pos (show nI 53 > (52 : Int32) by decide)]
      refine sv_fr1 (Q := fun t => ∃ U, t = some (V.1 119 0, U) ∧ U.1 105 28 = 1 ∧ U.1 105 29 = nI A.1 ∧ (∀ k, k < 53 → U.1 120 k = S.1 106 k) ∧ (∀ k, k < 5 → U.1 121 k = V.1 119 k) ∧ sv_rr (fun a => a = 120 ∨ a = 121) (fun k => k = 28 ∨ k = 29) V U) (fun k x T3 => x = nI k ∧ (∀ i, i < k → T3.1 121 i = V.1 119 i) ∧ sv_rr (fun a => a = 121) (fun _ => False) T2 T3) 5 ?_ ?_ N _ T2 (by omega) ⟨rfl, fun i hi => absurd hi (Nat.not_lt_zero i), sv_rr_rf⟩
      · rintro k x T3 rec3 hk ⟨rfl, hg3, g3⟩
        left
        rw [if_neg (show ¬ nI k ≥ (5 : Int32) from nI_ge hk (by decide)), sv_gi hk (by decide), sv_gi hk (by decide), nI_clamp (by omega), sv_ls]
        refine ⟨_, _, ⟨nI_1 k, fun i hi => ?_, sv_rr_tr g3 (sv_rr_si T3 121 k _ (by decide) rfl)⟩, rfl⟩
        rw [sv_si]
        by_cases hik : i = k
        · subst hik
          rw [if_pos ⟨rfl, rfl⟩, (g3.1 119 (by decide) (by omega)).1, (g2.1 119 (by decide) (by omega)).1, (gT.1 119 (by decide) (by omega)).1]
        · rw [if_neg (by omega)]; exact hg3 i (by omega)
      · rintro x T3 rec3 ⟨rfl, hg3, g3⟩
        have f19 : T3.1 119 = V.1 119 := by rw [(g3.1 119 (by decide) (by omega)).1, (g2.1 119 (by decide) (by omega)).1, (gT.1 119 (by decide) (by omega)).1]
        rw [if_pos (show nI 5 ≥ (5 : Int32) from Int32.le_refl _), show (0 : Int32) = nI 0 from rfl, sv_gi (by decide) (by decide), nI_clamp (by decide), f19]
        refine ⟨T3, rfl, ?_, ?_, fun k hk => ?_, hg3, ?_⟩
        · rw [g3.2.1 28 (fun z => z), g2.2.1 28 (fun z => z)]; exact t28
        · rw [g3.2.1 29 (fun z => z), g2.2.1 29 (fun z => z)]; exact t29
        · rw [(g3.1 120 (by decide) (by omega)).1]; exact hg k hk
        · exact sv_rr_tr gT (sv_rr_tr (sv_rr_wk g2 (fun a ha => Or.inl ha) (fun k hk => hk.elim)) (sv_rr_wk g3 (fun a ha => Or.inr ha) (fun k hk => hk.elim)))
  obtain ⟨U, hU, u28, u29, u120, u121, gU⟩ := key
  have q119 : V.1 119 0 = V.1 85 0 := by rw [(gV 119 (by omega)).1, (gV 85 (by omega)).1]; exact h8.1 0 (by omega)
  refine ⟨_, V, U, rfl, by rw [hU, q119], ⟨A, L, b, ?_⟩⟩
  refine sv_rl_kq hr (sv_kq_tr (sv_kq_ag gV (fun a ha => by unfold sv_P; omega) (by omega)) (sv_kq_rr gU (fun a ha => by unfold sv_P; omega) (fun k hk => by omega))) h1 ?_ ?_ (Nat.le_refl _) ?_
  · exact sv_nc_eq h2 (fun k hk => ((gU.1 (1 + k) (by omega) (by omega)).1).trans (gV (1 + k) (by omega)).1)
  · exact sv_mr_eq h3 (((gU.1 106 (by omega) (by omega)).1).trans hm) (by rw [gU.2.1 6 (by omega), h15])
  · have w : ∀ a, a = 84 ∨ a = 85 ∨ a = 86 ∨ a = 87 ∨ a = 88 ∨ a = 119 → U.1 a = V.1 a := fun a ha => (gU.1 a (by omega) (by omega)).1
    refine ⟨fun k hk => ?_, Or.inr ⟨by rw [w 84 (by omega)]; exact v0, u28, A.1, A.2.2 0, A.2.2 2, Nat.le_refl _, h1.2.2.2.1, h1.2.2.2.2.2.1, by rw [w 84 (by omega)]; exact v5, u29, by rw [w 84 (by omega)]; exact v6, ?_, by rw [w 84 (by omega)]; exact v7, ?_, fun s hs => ?_, fun k hk => ?_⟩⟩
    · rw [w 119 (by omega), w 85 (by omega), (gV 119 (by omega)).1, (gV 85 (by omega)).1]; exact h8.1 k hk
    · rw [u120 50 (by omega)]; exact h3.2.2 0 (by omega)
    · rw [u120 52 (by omega)]; exact h3.2.2 2 (by omega)
    · obtain ⟨-, -, -, d, e⟩ := h1.2.1 s hs
      refine ⟨A.2.1 3 s, A.2.1 4 s, d, e, by rw [w 87 (by omega)]; exact (v8 s hs).1, ?_, by rw [w 88 (by omega)]; exact (v8 s hs).2, ?_⟩
      · rw [u120 _ (by omega)]; exact h3.2.1 3 s (by omega) (by omega)
      · rw [u120 _ (by omega)]; exact h3.2.1 4 s (by omega) (by omega)
    · rw [u121 k hk, w 86 (by omega), v9 k hk, (gV 119 (by omega)).1]; exact h8.1 k hk
