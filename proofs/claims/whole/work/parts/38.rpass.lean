/-! begins, goesHour; who is awake then -/
theorem sv_lie_r {A : sv_A} (hA : sv_wf A) (c : Nat) : (∃ s, s < A.1 ∧ A.2.1 0 s = c ∧ sv_lie A.1 (A.2.1 0) c = nI s) ∨ ((∀ s, s < A.1 → A.2.1 0 s ≠ c) ∧ sv_lie A.1 (A.2.1 0) c = -1) := by
  rcases sv_lie_cs A.1 (A.2.1 0) c with ⟨s, h1, h2, h3, -⟩ | h
  · exact Or.inl ⟨s, h1, h2, h3⟩
  · exact Or.inr h
theorem e9_goesHour (N : Nat) (hN : 200 ≤ N) {S : sw_St} {A : sv_A} {cd : Int32} {L : sv_L} (h : sv_rs S A cd) (hA : sv_wf A) (hL : sv_lr L S) : ∃ U, fX9_goesHour N S = some ((), U) ∧ sv_rs U (sv_hr L A cd) cd ∧ sv_rr (fun q => q = 112 ∨ q = 114 ∨ q = 115) (fun k => (11 ≤ k ∧ k ≤ 15) ∨ k = 19) S U := by
  have h10 := hA.1
  unfold fX9_goesHour
  refine sv_fr1 (Q := fun t => ∃ U, t = some ((), U) ∧ sv_rs U (sv_hr L A cd) cd ∧ sv_rr (fun q => q = 112 ∨ q = 114 ∨ q = 115) (fun k => (11 ≤ k ∧ k ≤ 15) ∨ k = 19) S U) (fun k x T => x = nI k ∧ sv_rr (fun q => q = 112 ∨ q = 115) (fun k => 11 ≤ k ∧ k ≤ 15) S T ∧ ∀ s, s < A.1 → A.2.1 0 s < k → T.1 115 (A.2.1 0 s) = sv_g L A s (sv_B (nI (A.2.1 0 s) = cd)) - (3 : Int32) * nI (A.2.1 4 s)) 12 ?_ ?_ N _ S (by omega) ⟨rfl, sv_rr_rf, fun s _ hs => absurd hs (Nat.not_lt_zero _)⟩
  · rintro k x T rec hk ⟨rfl, hag, hg⟩
    left
    have hT : sv_rs T A cd := sv_rs_rr h hag (by omega) (by omega) (by omega) (by omega) (by omega) (by omega)
    have hLT : sv_lr L T := sv_lr_rr hL hag (by omega) (by omega)
    have e0 : T.1 113 k = sv_lie A.1 (A.2.1 0) k := hT.2.2.2.1 k hk
    rw [if_neg (show ¬ nI k ≥ (12 : Int32) from nI_ge hk (by decide)), sv_gi hk (by decide), nI_clamp (by omega), e0]
    rcases sv_lie_r hA k with ⟨s, hs, hsk, hlie⟩ | ⟨hno, hlie⟩
    · obtain ⟨U, hU, hU2⟩ := e9_growsIn N hN hT hA hLT hs hsk
      have u0 : U.1 113 k = nI s := by rw [(hU2.1 113 (by decide) (by omega)).1, e0, hlie]
      have u1 : U.1 106 (40 + s) = nI (A.2.1 4 s) := by rw [(hU2.1 106 (by decide) (by omega)).1]; exact (hT.2.1 s (by omega)).2.2
      rw [hlie, if_pos (show nI s ≥ (0 : Int32) from nI_pos' (by omega)), hU, sv_bd, sv_gi hk (by decide), u0, show (40 : Int32) + nI s = nI (40 + s) from nI_add 40 s, sv_gi (by omega) (by decide), sv_gi hk (by decide), nI_clamp (by omega), u1, sv_ls]
      refine ⟨_, _, ⟨nI_1 k, sv_rr_tr hag (sv_rr_tr (sv_rr_wk hU2 (fun a ha => Or.inl ha) (fun a ha => ha)) (sv_rr_si U 115 k _ (by decide) (Or.inr rfl))), fun t ht htk => ?_⟩, rfl⟩
      rw [sv_si]
      by_cases hq : A.2.1 0 t = k
      · have hts : t = s := hA.2.2.1 t s ht hs (hq.trans hsk.symm)
        subst hts
        rw [if_pos ⟨rfl, hq⟩, sv_Bc (show (cd = nI k) ↔ (nI (A.2.1 0 t) = cd) by rw [hq]; exact eq_comm)]
      · rw [if_neg (by omega), (hU2.1 115 (by decide) (by omega)).1]
        exact hg t ht (by omega)
    · rw [hlie, if_neg (by decide), sv_gi hk (by decide), sv_ls]
      refine ⟨_, _, ⟨nI_1 k, sv_rr_tr hag (sv_rr_si T 115 k _ (by decide) (Or.inr rfl)), fun t ht htk => ?_⟩, rfl⟩
      have hq := hno t ht
      rw [sv_si, if_neg (by omega)]
      exact hg t ht (by omega)
  · rintro x T rec ⟨rfl, hag, hg⟩
    have hT : sv_rs T A cd := sv_rs_rr h hag (by omega) (by omega) (by omega) (by omega) (by omega) (by omega)
    rw [if_pos (show nI 12 ≥ (12 : Int32) from Int32.le_refl _)]
    refine sv_fr1 (Q := fun t => ∃ U, t = some ((), U) ∧ sv_rs U (sv_hr L A cd) cd ∧ sv_rr (fun q => q = 112 ∨ q = 114 ∨ q = 115) (fun k => (11 ≤ k ∧ k ≤ 15) ∨ k = 19) S U) (fun k x T2 => x = nI k ∧ sv_rr (fun q => q = 114) (fun _ => False) T T2 ∧ ∀ s, s < A.1 → T2.1 114 s = if A.2.1 0 s < k then nI (sv_nm L A cd s) else nI (A.2.1 3 s)) 12 ?_ ?_ N _ T (by omega) ⟨rfl, sv_rr_rf, fun s hs => by rw [if_neg (Nat.not_lt_zero _)]; exact hT.2.2.2.2.1 s hs⟩
    · rintro k x T2 rec2 hk ⟨rfl, hag2, hm⟩
      left
      have e0 : T2.1 113 k = sv_lie A.1 (A.2.1 0) k := by rw [(hag2.1 113 (by decide) (by omega)).1]; exact hT.2.2.2.1 k hk
      rw [if_neg (show ¬ nI k ≥ (12 : Int32) from nI_ge hk (by decide)), sv_gi hk (by decide), nI_clamp (by omega), e0]
      rcases sv_lie_r hA k with ⟨s, hs, hsk, hlie⟩ | ⟨hno, hlie⟩
      · have e1 : T2.1 115 k = sv_g L A s (sv_B (nI (A.2.1 0 s) = cd)) - (3 : Int32) * nI (A.2.1 4 s) := by rw [(hag2.1 115 (by decide) (by omega)).1, ← hsk]; exact hg s hs (by omega)
        have e2 : T2.1 114 s = nI (A.2.1 3 s) := by rw [hm s hs, if_neg (by omega)]
        rw [hlie, if_neg (nI_pos (by omega)), sv_gi hk (by decide), sv_gi hk (by decide), sv_gi (k := s) (by omega) (by decide), sv_gi hk (by decide), nI_clamp (n := s) (by omega), e1, e2, e9_heldMind, sv_bd, sv_gi (k := s) (by omega) (by decide), sv_ls]
        refine ⟨_, _, ⟨nI_1 k, sv_rr_tr hag2 (sv_rr_si T2 114 s _ (by decide) rfl), fun t ht => ?_⟩, rfl⟩
        rw [sv_si]
        by_cases hts : t = s
        · subst hts
          rw [if_pos ⟨rfl, rfl⟩, if_pos (by omega), sv_asb]
          rfl
        · have hne : A.2.1 0 t ≠ k := fun z => hts (hA.2.2.1 t s ht hs (z.trans hsk.symm))
          rw [if_neg (by omega), hm t ht]
          simp only [show (A.2.1 0 t < k + 1) ↔ (A.2.1 0 t < k) by omega]
      · rw [hlie, if_pos (by decide)]
        refine ⟨_, _, ⟨nI_1 k, hag2, fun t ht => ?_⟩, rfl⟩
        have hne := hno t ht
        rw [hm t ht]
        simp only [show (A.2.1 0 t < k + 1) ↔ (A.2.1 0 t < k) by omega]
    · rintro x T2 rec2 ⟨rfl, hag2, hm⟩
      have e1 : T2.1 105 19 = nI (A.2.2 0) := by rw [hag2.2.1 19 (fun z => z)]; exact hT.2.2.2.2.2.1
      rw [if_pos (show nI 12 ≥ (12 : Int32) from Int32.le_refl _), sv_ls, e1, sv_h12 hA.2.2.2.1]
      obtain ⟨a1, a2, a3, a4, a5, a6, a7⟩ := hT
      have f6 : T2.1 106 = T.1 106 := (hag2.1 106 (by decide) (by omega)).1
      have f13 : T2.1 113 = T.1 113 := (hag2.1 113 (by decide) (by omega)).1
      refine ⟨_, rfl, ⟨?_, fun s hs => ?_, ?_, fun c hc => ?_, fun s hs => ?_, ?_, ?_⟩, ?_⟩
      · rw [sv_si, if_neg (by omega), hag2.2.1 6 (fun z => z)]; exact a1
      · simp only [sv_si]
        rw [if_neg (by omega), if_neg (by omega), if_neg (by omega), f6]
        exact a2 s hs
      · rw [sv_si, if_neg (by omega), f6]; exact a3
      · rw [sv_si, if_neg (by omega), f13]; exact a4 c hc
      · have hs : s < A.1 := hs
        rw [sv_si, if_neg (by omega), hm s hs, if_pos (hA.2.1 s hs).1]
        show _ = nI (if 3 = 3 ∧ s < A.1 then sv_nm L A cd s else A.2.1 3 s)
        rw [if_pos ⟨rfl, hs⟩]
      · rw [sv_si, if_pos ⟨rfl, rfl⟩]; rfl
      · rw [sv_si, if_neg (by omega), hag2.2.1 20 (fun z => z)]; exact a7
      · exact sv_rr_tr (sv_rr_wk hag (fun a ha => by omega) (fun a ha => Or.inl ha)) (sv_rr_tr (sv_rr_wk hag2 (fun a ha => by omega) (fun a ha => ha.elim)) (sv_rr_sf T2 19 _ (Or.inr rfl)))
theorem e9_begins (N : Nat) (hN : 20 ≤ N) {S : sw_St} {A : sv_A} (h : sv_mr S A) (hA : sv_wf A) : ∃ U, fX9_begins N S = some ((), U) ∧ sv_rs U A (nI (A.2.2 2)) ∧ sv_mr U A ∧ sv_rr (fun q => q = 113 ∨ q = 114) (fun k => k = 19 ∨ k = 20) S U := by
  have h10 := hA.1
  unfold fX9_begins
  refine sv_fr1 (Q := fun t => ∃ U, t = some ((), U) ∧ sv_rs U A (nI (A.2.2 2)) ∧ sv_mr U A ∧ sv_rr (fun q => q = 113 ∨ q = 114) (fun k => k = 19 ∨ k = 20) S U) (fun k x T => x = nI k ∧ sv_rr (fun q => q = 113) (fun _ => False) S T ∧ ∀ c, c < k → T.1 113 c = sv_lie A.1 (A.2.1 0) c) 12 ?_ ?_ N _ S (by omega) ⟨rfl, sv_rr_rf, fun s hs => absurd hs (Nat.not_lt_zero _)⟩
  · rintro k x T rec hk ⟨rfl, hag, hg⟩
    left
    have hT : sv_mr T A := by
      have f6 : T.1 106 = S.1 106 := (hag.1 106 (by decide) (by omega)).1
      exact ⟨by rw [hag.2.1 6 (fun z => z)]; exact h.1, by rw [f6]; exact h.2.1, by rw [f6]; exact h.2.2⟩
    rw [if_neg (show ¬ nI k ≥ (12 : Int32) from nI_ge hk (by decide)), e9_inCot N hN k (by omega) hT hA, sv_bd, sv_gi hk (by decide), nI_clamp (by omega), sv_ls]
    refine ⟨_, _, ⟨nI_1 k, sv_rr_tr hag (sv_rr_si T 113 k _ (by decide) rfl), fun c hc => ?_⟩, rfl⟩
    rw [sv_si]
    by_cases hck : c = k
    · subst hck; rw [if_pos ⟨rfl, rfl⟩]
    · rw [if_neg (by omega)]; exact hg c (by omega)
  · rintro x T rec ⟨rfl, hag, hg⟩
    have f6 : T.1 106 = S.1 106 := (hag.1 106 (by decide) (by omega)).1
    have t6 : T.1 105 6 = nI A.1 := by rw [hag.2.1 6 (fun z => z)]; exact h.1
    rw [if_pos (show nI 12 ≥ (12 : Int32) from Int32.le_refl _)]
    refine sv_fr1 (Q := fun t => ∃ U, t = some ((), U) ∧ sv_rs U A (nI (A.2.2 2)) ∧ sv_mr U A ∧ sv_rr (fun q => q = 113 ∨ q = 114) (fun k => k = 19 ∨ k = 20) S U) (fun k x T2 => x = nI k ∧ sv_rr (fun q => q = 114) (fun _ => False) T T2 ∧ ∀ s, s < k → T2.1 114 s = nI (A.2.1 3 s)) A.1 ?_ ?_ N _ T (by omega) ⟨rfl, sv_rr_rf, fun s hs => absurd hs (Nat.not_lt_zero _)⟩
    · rintro k x T2 rec2 hk ⟨rfl, hag2, hm⟩
      left
      have e0 : T2.1 105 6 = nI A.1 := by rw [hag2.2.1 6 (fun z => z)]; exact t6
      have e1 : T2.1 106 (30 + k) = nI (A.2.1 3 k) := by rw [(hag2.1 106 (by decide) (by omega)).1, f6]; exact h.2.1 3 k (by omega) (by omega)
      rw [if_neg (show ¬ nI k ≥ T2.1 105 6 by rw [e0]; exact nI_ge hk (by omega)), show (30 : Int32) + nI k = nI (30 + k) from nI_add 30 k, sv_gi (by omega) (by decide), sv_gi (by omega) (by decide), nI_clamp (by omega), nI_clamp (by omega), e1, sv_ls]
      refine ⟨_, _, ⟨nI_1 k, sv_rr_tr hag2 (sv_rr_si T2 114 k _ (by decide) rfl), fun s hs => ?_⟩, rfl⟩
      rw [sv_si]
      by_cases hsk : s = k
      · subst hsk; rw [if_pos ⟨rfl, rfl⟩]
      · rw [if_neg (by omega)]; exact hm s (by omega)
    · rintro x T2 rec2 ⟨rfl, hag2, hm⟩
      have g6 : T2.1 106 = S.1 106 := (hag2.1 106 (by decide) (by omega)).1.trans f6
      have g13 : T2.1 113 = T.1 113 := (hag2.1 113 (by decide) (by omega)).1
      have e0 : T2.1 105 6 = nI A.1 := by rw [hag2.2.1 6 (fun z => z)]; exact t6
      have q0 : T2.1 106 50 = nI (A.2.2 0) := by rw [g6]; exact h.2.2 0 (by omega)
      have q2 : T2.1 106 52 = nI (A.2.2 2) := by rw [g6]; exact h.2.2 2 (by omega)
      rw [if_pos (show nI A.1 ≥ T2.1 105 6 by rw [e0]; exact Int32.le_refl _), show (50 : Int32) = nI 50 from rfl, sv_gi (by decide) (by decide), nI_clamp (by decide), sv_ls, show (52 : Int32) = nI 52 from rfl, sv_gi (by decide) (by decide), nI_clamp (by decide), sv_ls]
      refine ⟨_, rfl, ⟨?_, fun s hs => ?_, ?_, fun c hc => ?_, fun s hs => ?_, ?_, ?_⟩, ⟨?_, fun k s hk hs => ?_, fun j hj => ?_⟩, ?_⟩
      · simp only [sv_si]; simpa using e0
      · simp only [sv_si]
        have b1 := h.2.1 1 s (by omega) hs
        have b2 := h.2.1 2 s (by omega) hs
        have b4 := h.2.1 4 s (by omega) hs
        simpa [g6] using ⟨b1, b2, b4⟩
      · simp only [sv_si]
        have b := h.2.2 1 (by omega)
        simpa [g6] using b
      · simp only [sv_si]
        have b := hg c (by omega)
        simpa [g13] using b
      · simp only [sv_si]
        have b := hm s hs
        simpa using b
      · simp only [sv_si]; simpa using q0
      · simp only [sv_si]; simpa using q2
      · simp only [sv_si]; simpa using e0
      · simp only [sv_si]
        have b := h.2.1 k s hk hs
        simpa [g6] using b
      · simp only [sv_si]
        have b := h.2.2 j hj
        simpa [g6] using b
      · exact sv_rr_tr (sv_rr_wk hag (fun a ha => Or.inl ha) (fun a ha => ha.elim)) (sv_rr_tr (sv_rr_wk hag2 (fun a ha => Or.inr ha) (fun a ha => ha.elim)) (sv_rr_tr (sv_rr_sf T2 19 _ (Or.inl rfl)) (sv_rr_sf _ 20 _ (Or.inr rfl))))
