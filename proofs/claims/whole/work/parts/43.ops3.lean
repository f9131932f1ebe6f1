/-! feed, grows, hour, telling -/
theorem op_feed (N : Nat) (hN : 5000 ≤ N) {S : sw_St} (h : sv_rel S) (x : Int32) : sv_ok (fX8_feed N x) (fX9_feed N x) S := by
  have hs := h
  obtain ⟨A, L, b, h1, h2, h3, h4, h5, h6, h7, h8, h9, h10⟩ := h
  obtain ⟨m, hm, t1, t2, t3⟩ := h7
  unfold sv_ok fX8_feed fX9_feed fX6_add
  simp only [e8_within, sv_bd, sv_Bi]
  rcases sv_cq 255 (by decide) (M := 255) rfl x with ⟨v, hv, rfl, hx⟩ | hx
  · rw [if_pos hx]
    by_cases hq : m < 120
    · rw [if_pos (show S.1 16 0 < (120 : Int32) by rw [t1]; exact nI_lt hq (by decide)), sv_ls, t1, sv_gi hq (by decide), sv_ls, nI_clamp (by omega), sv_bd, if_neg (by decide), nI_1]
      let S1 := sw_si (sw_si S 16 0 (nI (m + 1))) 22 m (nI v)
      have e8 : S1.1 105 8 = nI m := by show (sw_si (sw_si S 16 0 (nI (m + 1))) 22 m (nI v)).1 105 8 = _; rw [sv_si, if_neg (by omega), sv_si, if_neg (by omega)]; exact t2
      refine ⟨_, _, sw_si (sw_si S1 110 m (nI v)) 105 8 (nI (m + 1)), rfl, ?_, A, L, b, ?_⟩
      · rw [sv_64_0, sv_64_255, e9_within, sv_bd, sv_Bi, if_pos hx]
        show (if S1.1 105 8 = 120 then _ else _) = _
        rw [if_neg (show ¬ S1.1 105 8 = (120 : Int32) by rw [e8, show (120 : Int32) = nI 120 from rfl, nI_eq (by omega) (by decide)]; omega), e8, sv_gi hq (by decide), sv_ls, nI_clamp (by omega), sv_ls]
        rw [show (sw_si S1 110 m (nI v)).1 105 8 = nI m by rw [sv_si, if_neg (by omega)]; exact e8, nI_1]
        rw [sv_si, if_pos ⟨rfl, rfl⟩, sv_si, if_neg (by omega), sv_si, if_pos ⟨rfl, rfl⟩]
      · have g : sv_rr (fun a => a = 16 ∨ a = 22 ∨ a = 110) (fun k => k = 8) S (sw_si (sw_si S1 110 m (nI v)) 105 8 (nI (m + 1))) := sv_rr_tr (sv_rr_si S 16 0 _ (by decide) (by omega)) (sv_rr_tr (sv_rr_si _ 22 m _ (by decide) (by omega)) (sv_rr_tr (sv_rr_si _ 110 m _ (by decide) (by omega)) (sv_rr_sf _ 8 _ rfl)))
        generalize hT : sw_si (sw_si S1 110 m (nI v)) 105 8 (nI (m + 1)) = T at g ⊢
        have e : ∀ a, a ≠ 105 → ¬ (a = 16 ∨ a = 22 ∨ a = 110) → T.1 a = S.1 a := fun a ha hb => (g.1 a ha hb).1
        have e2 : ∀ a, a ≠ 105 → ¬ (a = 16 ∨ a = 22 ∨ a = 110) → T.2 a = S.2 a := fun a ha hb => (g.1 a ha hb).2
        have f : ∀ k, k ≠ 8 → T.1 105 k = S.1 105 k := g.2.1
        refine ⟨h1, sv_nc_eq h2 (fun k hk => e _ (by omega) (by omega)), sv_mr_eq h3 (e _ (by omega) (by omega)) (f _ (by omega)), sv_lc_of h4 (e _ (by omega) (by omega)) (e _ (by omega) (by omega)) (e _ (by omega) (by omega)), sv_lr_of h5 (f _ (by omega)) (e _ (by omega) (by omega)), sv_rC_eq h6 (fun a ha => e a (by omega) (by omega)) (f _ (by omega)) (f _ (by omega)), ?_, sv_rD_eq h8 (fun a ha => e a (by omega) (by omega)) (f _ (by omega)) (f _ (by omega)), sv_rB_eq h9 (fun a ha => e a (by omega) (by omega)) (f _ (by omega)) (f _ (by omega)), fun d hd => sv_s1_eq (h10 d hd) (e _ (by omega) (by omega)) (e2 _ (by omega) (by omega)) (e _ (by omega) (by omega)) (e _ (by omega) (by omega)) (e _ (by omega) (by omega)) (e2 _ (by omega) (by omega))⟩
        rw [← hT]
        refine ⟨m + 1, by omega, ?_, ?_, fun k hk => ?_⟩
        · show (sw_si (sw_si (sw_si (sw_si S 16 0 (nI (m + 1))) 22 m (nI v)) 110 m (nI v)) 105 8 (nI (m + 1))).1 16 0 = _
          simp [sv_si]
        · simp [sv_si]
        · show (sw_si (sw_si (sw_si (sw_si S 16 0 (nI (m + 1))) 22 m (nI v)) 110 m (nI v)) 105 8 (nI (m + 1))).1 110 k = (sw_si (sw_si (sw_si (sw_si S 16 0 (nI (m + 1))) 22 m (nI v)) 110 m (nI v)) 105 8 (nI (m + 1))).1 22 k ∧ ∃ b : Nat, b ≤ 255 ∧ (sw_si (sw_si (sw_si (sw_si S 16 0 (nI (m + 1))) 22 m (nI v)) 110 m (nI v)) 105 8 (nI (m + 1))).1 22 k = nI b
          by_cases hkm : k = m
          · subst hkm
            simp [sv_si]
            exact ⟨v, hv, rfl⟩
          · simp [sv_si, hkm]
            exact t3 k hk
    · have hm120 : m = 120 := by omega
      subst hm120
      rw [if_neg (show ¬ S.1 16 0 < (120 : Int32) by rw [t1]; decide), sv_bd, if_pos (by decide)]
      refine ⟨_, _, S, rfl, ?_, hs⟩
      rw [sv_64_0, sv_64_255, e9_within, sv_bd, sv_Bi, if_pos hx, if_pos (show S.1 105 8 = (120 : Int32) by rw [t2]; rfl)]
  · rw [if_neg hx]
    exact ⟨_, _, S, rfl, by rw [sv_64_0, sv_64_255, e9_within, sv_bd, sv_Bi, if_neg hx], hs⟩
theorem sv_ag_same {S T : sw_St} (h : sv_ag (fun q => q = 14 ∨ q = 15) S T) : sv_same S T := sv_same_ag h (fun a ha => by unfold sv_P; omega) (by omega)
theorem op_grows (N : Nat) (hN : 5000 ≤ N) {S : sw_St} (h : sv_rel S) (x : Int32) : sv_ok (fX8_grows N x) (fX9_grows N x) S := by
  have hs := h
  obtain ⟨A, L, b, h⟩ := h
  have hr := h
  obtain ⟨h1, h2, h3, h4, h5, h6, h7, h8, h9, h10⟩ := h
  have hn := h1.1
  unfold sv_ok fX8_grows fX9_grows
  simp only [e8_isSword N x h2.1, sv_bd, sv_Bi]
  by_cases hx : 0 ≤ x ∧ x ≤ nI A.1 - 1
  · obtain ⟨s, hsn, rfl⟩ := (sv_swI (by omega) x).mp hx
    have hc := (h1.2.1 s hsn).1
    have e0 : S.1 (1 + 1) s = nI (A.2.1 0 s) := h2.2.1 0 s (by omega) (by omega)
    have ec : S.1 1 3 = nI (A.2.2 2) := h2.2.2.1 2 (by omega)
    obtain ⟨U, hU, hU2⟩ := e4_growth N (by omega) h2 h1 h4 hsn (sv_B (nI (A.2.1 0 s) = nI (A.2.2 2)))
    have hg : fX4_growthNow N 1 11 (nI s) S = some (sv_g L A s (sv_B (nI (A.2.1 0 s) = nI (A.2.2 2))), U) := by
      unfold fX4_growthNow
      rw [e4_awakeCots N (by omega) h2 h1, sv_bd, sv_gi (by omega) (by decide), nI_clamp (by omega), e0, ec]
      by_cases hq : nI (A.2.1 0 s) = nI (A.2.2 2)
      · rw [sv_B_t hq] at hU ⊢
        rw [if_pos hq, hU, sv_bd]
      · rw [sv_B_f hq] at hU ⊢
        rw [if_neg hq, hU, sv_bd]
    have hrU := sv_rl_same hr (sv_ag_same hU2)
    obtain ⟨V, hV, hV1, hV2, hV3⟩ := e9_begins N (by omega) hrU.2.2.1 h1
    have hrV := sv_rl_same hrU (sv_same_b hV3)
    obtain ⟨X, hX, hX2⟩ := e9_growsIn N (by omega) hV1 h1 hrV.2.2.2.2.1 hsn rfl
    rw [if_pos hx, hg, sv_bd]
    refine ⟨_, _, X, rfl, ?_, ⟨A, L, b, sv_rl_same hrV (sv_same_rr hX2 (fun a ha => by unfold sv_P; omega) (fun k hk => by unfold sv_F; omega))⟩⟩
    rw [e9_isSword N _ hrU.2.2.1.1, sv_bd, sv_Bi, if_pos hx, hV, sv_bd, sv_gi (by omega) (by decide), nI_clamp (by omega)]
    rw [show V.1 106 s = nI (A.2.1 0 s) by have := hV2.2.1 0 s (by omega) (by omega); simpa using this, hX, sv_bd, sv_Bc (show (nI (A.2.2 2) = nI (A.2.1 0 s)) ↔ (nI (A.2.1 0 s) = nI (A.2.2 2)) from eq_comm)]
  · rw [if_neg hx]
    exact ⟨_, _, S, rfl, by rw [e9_isSword N _ h3.1, sv_bd, sv_Bi, if_neg hx], hs⟩
/-- the reference keeps the minds of the night in thought -/
theorem e9_keepsMind (N : Nat) (hN : 20 ≤ N) {S : sw_St} {A : sv_A} (hA : A.1 ≤ 10) (h0 : S.1 105 6 = nI A.1) (h : ∀ s, s < A.1 → S.1 114 s = nI (A.2.1 3 s)) : ∃ U, fX9_keepsMind N S = some ((), U) ∧ (∀ k, U.1 106 k = if 30 ≤ k ∧ k < 30 + A.1 then nI (A.2.1 3 (k - 30)) else S.1 106 k) ∧ sv_rr (fun a => a = 106) (fun _ => False) S U := by
  unfold fX9_keepsMind
  refine sv_fr1 (Q := fun t => ∃ U, t = some ((), U) ∧ (∀ k, U.1 106 k = if 30 ≤ k ∧ k < 30 + A.1 then nI (A.2.1 3 (k - 30)) else S.1 106 k) ∧ sv_rr (fun a => a = 106) (fun _ => False) S U) (fun k x T => x = nI k ∧ sv_rr (fun a => a = 106) (fun _ => False) S T ∧ ∀ i, T.1 106 i = if 30 ≤ i ∧ i < 30 + k then nI (A.2.1 3 (i - 30)) else S.1 106 i) A.1 ?_ ?_ N _ S (by omega) ⟨rfl, sv_rr_rf, fun i => by rw [if_neg (by omega)]⟩
  · rintro k x T rec hk ⟨rfl, hag, hg⟩
    left
    have e0 : T.1 105 6 = nI A.1 := by rw [hag.2.1 6 (fun z => z)]; exact h0
    have e1 : T.1 114 k = nI (A.2.1 3 k) := by rw [(hag.1 114 (by decide) (by omega)).1]; exact h k hk
    rw [if_neg (show ¬ nI k ≥ T.1 105 6 by rw [e0]; exact nI_ge hk (by omega)), sv_gi (by omega) (by decide), show (30 : Int32) + nI k = nI (30 + k) from nI_add 30 k, sv_gi (by omega) (by decide), nI_clamp (by omega), nI_clamp (by omega), e1, sv_ls]
    refine ⟨_, _, ⟨nI_1 k, sv_rr_tr hag (sv_rr_si T 106 (30 + k) _ (by decide) rfl), fun i => ?_⟩, rfl⟩
    rw [sv_si]
    by_cases hi : i = 30 + k
    · subst hi
      rw [if_pos ⟨rfl, rfl⟩, if_pos (by omega), show 30 + k - 30 = k by omega]
    · rw [if_neg (by omega), hg i]
      simp only [show (30 ≤ i ∧ i < 30 + (k + 1)) ↔ (30 ≤ i ∧ i < 30 + k) by omega]
  · rintro x T rec ⟨rfl, hag, hg⟩
    have e0 : T.1 105 6 = nI A.1 := by rw [hag.2.1 6 (fun z => z)]; exact h0
    rw [if_pos (show nI A.1 ≥ T.1 105 6 by rw [e0]; exact Int32.le_refl _)]
    exact ⟨T, rfl, hg, hag⟩
/-- bits of the new ones among the awake -/
theorem sv_new (f g : Nat → Bool) {n m : Nat} (hn : n ≤ 12) (hm : m ≤ 12) : nI (sv_wb f n) &&& (nI (sv_wb g m) ^^^ (-1 : Int32)) = nI (sv_wb (fun i => (decide (i < n) && f i) && !(decide (i < m) && g i)) 12) := by
  apply Int32.toBitVec_inj.mp
  show BitVec.ofNat 32 _ &&& (BitVec.ofNat 32 _ ^^^ (-1 : Int32).toBitVec) = BitVec.ofNat 32 _
  rw [show (-1 : Int32).toBitVec = BitVec.allOnes 32 by decide, BitVec.xor_allOnes]
  apply BitVec.eq_of_getLsbD_eq
  intro i hi
  simp only [BitVec.getLsbD_and, BitVec.getLsbD_ofNat, BitVec.getLsbD_not, sv_wb_bit, hi, decide_true, Bool.true_and]
  by_cases h12 : i < 12
  · simp [h12]
  · simp [h12, show ¬ i < n by omega]
