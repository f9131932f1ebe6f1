/-! bodies and shelves -/
theorem sv_rl_ks {S T : sw_St} {A : sv_A} {L : sv_L} {b c : Nat} (h : sv_rl S A L b) (g : sv_rr (fun a => ¬ sv_P a ∨ (89 ≤ a ∧ a ≤ 104) ∨ (122 ≤ a ∧ a ≤ 126)) (fun k => sv_F k ∨ k = 32 ∨ k = 35) S T) (hB : sv_rB T c) (hH : sv_rH T c) : sv_rl T A L c := by
  obtain ⟨h1, h2, h3, h4, h5, h6, h7, h8, h9, h10⟩ := h
  have e : ∀ a, sv_P a → ¬ ((89 ≤ a ∧ a ≤ 104) ∨ (122 ≤ a ∧ a ≤ 126)) → T.1 a = S.1 a := fun a ha hb => (g.1 a (by unfold sv_P at ha; omega) (by intro z; rcases z with z | z; exact z ha; exact hb z)).1
  have f : ∀ k, ¬ (sv_F k ∨ k = 32 ∨ k = 35) → T.1 105 k = S.1 105 k := g.2.1
  unfold sv_P at e
  unfold sv_F at f
  exact ⟨h1, sv_nc_eq h2 (fun k hk => e _ (by omega) (by omega)), sv_mr_eq h3 (e _ (by omega) (by omega)) (f _ (by omega)), sv_lc_of h4 (e _ (by omega) (by omega)) (e _ (by omega) (by omega)) (e _ (by omega) (by omega)), sv_lr_of h5 (f _ (by omega)) (e _ (by omega) (by omega)), sv_rC_eq h6 (fun a ha => e a (by omega) (by omega)) (f _ (by omega)) (f _ (by omega)), sv_rT_eq h7 (by rw [e 16 (by omega) (by omega)]) (e _ (by omega) (by omega)) (e _ (by omega) (by omega)) (f _ (by omega)), sv_rD_eq h8 (fun a ha => e a (by omega) (by omega)) (f _ (by omega)) (f _ (by omega)), hB, hH⟩
theorem sv_s1_up {S T : sw_St} {b c d : Nat} (h : sv_s1 S b d) (hbc : b ≤ c) (e1 : T.1 (93 + 2 * d) = S.1 (93 + 2 * d)) (e2 : T.2 (93 + 2 * d + 1) = S.2 (93 + 2 * d + 1)) (e3 : T.1 124 d = S.1 124 d) (e4 : T.1 125 d = S.1 125 d) (e5 : ∀ w, w < b → T.1 122 w = S.1 122 w) (e6 : ∀ i, i < 60 → T.2 126 (60 * d + i) = S.2 126 (60 * d + i)) : sv_s1 T c d := by
  unfold sv_s1
  rw [e1, e2, e3, e4]
  rcases h with h | ⟨h, w, hw, r1, r2⟩ | ⟨h, so, sz, q1, q2, q3, q4, q5, q6, q7, q8⟩
  · exact Or.inl h
  · exact Or.inr (Or.inl ⟨h, w, by omega, r1, by rw [e5 w hw]; exact r2⟩)
  · exact Or.inr (Or.inr ⟨h, so, sz, q1, q2, q3, q4, q5, q6, fun i hi => by rw [e6 i hi]; exact q7 i hi, q8⟩)
theorem op_body (N : Nat) (hN : 5000 ≤ N) {S : sw_St} (h : sv_rel S) (x : Int32) : sv_ok (fX8_body N x) (fX9_body N x) S := by
  have hs := h
  obtain ⟨A, L, b, h⟩ := h
  have hr := h
  obtain ⟨h1, h2, h3, h4, h5, h6, h7, h8, h9, h10⟩ := h
  obtain ⟨b1, b2, b3, b4, r, hr100, b5, b6, b7⟩ := h9
  unfold sv_ok fX8_body fX9_body fX0_add
  simp only [e8_within, sv_bd, sv_Bi]
  rcases sv_cq 7 (by decide) (M := 7) rfl x with ⟨v, hv, rfl, hx⟩ | hx
  · rw [if_pos hx]
    by_cases hq : b < 50
    · rw [if_neg (show ¬ S.1 89 0 ≥ (50 : Int32) by rw [b2]; exact nI_ge hq (by decide)), b2, sv_gi hq (by decide), sv_ls, nI_clamp (by omega), sv_ls, sv_bd]
      have p0 : (sw_si S 90 b (nI v)).1 89 0 = nI b := by rw [sv_si, if_neg (by omega)]; exact b2
      rw [p0, nI_1]
      let V := sw_si (sw_si S 90 b (nI v)) 89 0 (nI (b + 1))
      have gV : sv_ag (fun a => a = 89 ∨ a = 90) S V := sv_ag_tr (sv_ag_si S 90 b _ (Or.inr rfl)) (sv_ag_si _ 89 0 _ (Or.inl rfl))
      have v3 : V.1 105 32 = nI b := by rw [(gV 105 (by omega)).1]; exact b3
      let U := sw_si (sw_si V 122 b (nI v)) 105 32 (nI (b + 1))
      have gU : sv_rr (fun a => a = 122) (fun k => k = 32) V U := sv_rr_tr (sv_rr_si V 122 b _ (by decide) rfl) (sv_rr_sf _ 32 _ rfl)
      have gW : sv_rr (fun a => ¬ sv_P a ∨ (89 ≤ a ∧ a ≤ 104) ∨ (122 ≤ a ∧ a ≤ 126)) (fun k => sv_F k ∨ k = 32 ∨ k = 35) S U := sv_rr_tr (T := V) ⟨fun a _ ha => gV a (by omega), fun k _ => by rw [(gV 105 (by omega)).1], (gV 105 (by omega)).2⟩ (sv_rr_wk gU (fun a ha => by omega) (fun k hk => by omega))
      refine ⟨_, V, U, rfl, ?_, ⟨A, L, b + 1, ?_⟩⟩
      · rw [sv_64_0, sv_64_7, e9_within, sv_bd, sv_Bi, if_pos hx, if_neg (show ¬ V.1 105 32 = (50 : Int32) by rw [v3, show (50 : Int32) = nI 50 from rfl, nI_eq (by omega) (by decide)]; omega), v3, sv_gi hq (by decide), sv_ls, nI_clamp (by omega), sv_ls]
        rw [show (sw_si V 122 b (nI v)).1 105 32 = nI b by rw [sv_si, if_neg (by omega)]; exact v3, nI_1]
        rw [show (sw_si (sw_si V 122 b (nI v)) 105 32 (nI (b + 1))).1 105 32 = nI (b + 1) by rw [sv_si, if_pos ⟨rfl, rfl⟩], nI_pred]
      · refine sv_rl_ks hr gW ⟨by omega, ?_, ?_, fun k hk => ?_, r, hr100, ?_, ?_, fun k hk hkr => ?_⟩ (fun d hd => ?_)
        · rw [(gU.1 89 (by decide) (by omega)).1]; show (sw_si (sw_si S 90 b (nI v)) 89 0 _).1 89 0 = _; rw [sv_si, if_pos ⟨rfl, rfl⟩]
        · show (sw_si (sw_si V 122 b (nI v)) 105 32 _).1 105 32 = _; rw [sv_si, if_pos ⟨rfl, rfl⟩]
        · have u90 : U.1 90 k = if k = b then nI v else S.1 90 k := by
            rw [(gU.1 90 (by decide) (by omega)).1]
            show (sw_si (sw_si S 90 b (nI v)) 89 0 _).1 90 k = _
            rw [sv_si, if_neg (by omega), sv_si]
            by_cases hkb : k = b
            · rw [if_pos ⟨rfl, hkb⟩, if_pos hkb]
            · rw [if_neg (by omega), if_neg hkb]
          have u122 : U.1 122 k = if k = b then nI v else S.1 122 k := by
            show (sw_si (sw_si V 122 b (nI v)) 105 32 _).1 122 k = _
            rw [sv_si, if_neg (by omega), sv_si]
            by_cases hkb : k = b
            · rw [if_pos ⟨rfl, hkb⟩, if_pos hkb]
            · rw [if_neg (by omega), if_neg hkb, (gV 122 (by omega)).1]
          rw [u90, u122]
          by_cases hkb : k = b
          · exact ⟨v, hv, if_pos hkb, if_pos hkb⟩
          · rw [if_neg hkb, if_neg hkb]; exact b4 k (by omega)
        · rw [(gU.1 89 (by decide) (by omega)).1]; show (sw_si (sw_si S 90 b (nI v)) 89 0 _).1 89 1 = _; rw [sv_si, if_neg (by omega), sv_si, if_neg (by omega)]; exact b5
        · rw [gU.2.1 35 (by omega), (gV 105 (by omega)).1]; exact b6
        · rw [(gU.1 123 (by decide) (by omega)).1, (gV 123 (by omega)).1, (gU.1 91 (by decide) (by omega)).1, (gV 91 (by omega)).1]; exact b7 k hk hkr
        · have w : ∀ a, ¬ (a = 89 ∨ a = 90 ∨ a = 122 ∨ a = 105) → U.1 a = S.1 a ∧ U.2 a = S.2 a := fun a ha => ⟨((gU.1 a (by omega) (by omega)).1).trans (gV a (by omega)).1, ((gU.1 a (by omega) (by omega)).2).trans (gV a (by omega)).2⟩
          refine sv_s1_up (h10 d hd) (Nat.le_succ b) (w _ (by omega)).1 (w _ (by omega)).2 (by rw [(w 124 (by omega)).1]) (by rw [(w 125 (by omega)).1]) (fun q hq2 => ?_) (fun i hi => by rw [(w 126 (by omega)).2])
          show (sw_si (sw_si V 122 b (nI v)) 105 32 _).1 122 q = _
          rw [sv_si, if_neg (by omega), sv_si, if_neg (by omega), (gV 122 (by omega)).1]
    · have hb : b = 50 := by omega
      rw [if_pos (show S.1 89 0 ≥ (50 : Int32) by rw [b2, hb]; exact Int32.le_refl _)]
      exact ⟨_, S, S, rfl, by rw [sv_64_0, sv_64_7, e9_within, sv_bd, sv_Bi, if_pos hx, if_pos (show S.1 105 32 = (50 : Int32) by rw [b3, hb]; rfl)], hs⟩
  · rw [if_neg hx]
    exact ⟨_, S, S, rfl, by rw [sv_64_0, sv_64_7, e9_within, sv_bd, sv_Bi, if_neg hx], hs⟩
/-- a shelf becomes another: the others stay -/
theorem sv_rH_of {S T : sw_St} {b d : Nat} (hd : d < 6) (h : sv_rH S b) (hn : sv_s1 T b d) (e1 : ∀ a, 93 ≤ a ∧ a ≤ 104 → a ≠ 93 + 2 * d → a ≠ 93 + 2 * d + 1 → T.1 a = S.1 a ∧ T.2 a = S.2 a) (e3 : ∀ i, i ≠ d → T.1 124 i = S.1 124 i) (e4 : ∀ i, i ≠ d → T.1 125 i = S.1 125 i) (e5 : T.1 122 = S.1 122) (e6 : ∀ i, ¬ (60 * d ≤ i ∧ i < 60 * d + 60) → T.2 126 i = S.2 126 i) : sv_rH T b := by
  intro e he
  by_cases hq : e = d
  · subst hq; exact hn
  · exact sv_s1_up (h e he) (Nat.le_refl b) (e1 _ (by omega) (by omega) (by omega)).1 (e1 _ (by omega) (by omega) (by omega)).2 (e3 e hq) (e4 e hq) (fun w _ => by rw [e5]) (fun i hi => e6 _ (by omega))
theorem sv_rB_ks {S T : sw_St} {b : Nat} (h : sv_rB S b) (e : ∀ a, (89 ≤ a ∧ a ≤ 91) ∨ (122 ≤ a ∧ a ≤ 123) → T.1 a = S.1 a) (e5 : T.1 105 = S.1 105) : sv_rB T b := sv_rB_eq h e (by rw [e5]) (by rw [e5])
theorem op_keep (N : Nat) (hN : 5000 ≤ N) {S : sw_St} (h : sv_rel S) (x y : Int32) : sv_ok (fX8_keep N x y) (fX9_keep N x y) S := by
  have hs := h
  obtain ⟨A, L, b, h⟩ := h
  have hr := h
  obtain ⟨h1, h2, h3, h4, h5, h6, h7, h8, h9, h10⟩ := h
  have hB := h9
  obtain ⟨b1, b2, b3, b4, -⟩ := h9
  unfold sv_ok fX8_keep fX9_keep fX5_holdBlade fX5_clear
  simp only [e8_isShelf, e8_within, sv_bd, sv_Bi]
  rcases sv_cq 5 (by decide) (M := 5) rfl x with ⟨d, hd, rfl, hx⟩ | hx
  · rw [if_pos hx]
    by_cases hm : y = -1
    · subst hm
      rw [if_pos (show (-1 : Int32) ≤ -1 ∧ (-1 : Int32) ≤ S.1 89 0 - 1 from ⟨Int32.le_refl _, by rw [b2]; rw [Int32.le_iff_toInt_le, show (nI b - 1).toInt = (b : Int) - 1 from pk_sub_toInt (b := 1) (by omega) (by decide)]; show (-1 : Int) ≤ _; omega⟩), if_neg (by decide), sv_gi (by omega) (by decide), nI_clamp (by omega), sv_ls, sv_bd]
      let V := sw_si S (93 + 2 * d) 4 0
      let U := sw_si (sw_si V 124 d (-1)) 125 d 0
      have gV : sv_ag (fun a => a = 93 + 2 * d) S V := sv_ag_si S (93 + 2 * d) 4 _ rfl
      have gU : sv_rr (fun a => a = 124 ∨ a = 125) (fun _ => False) V U := sv_rr_tr (sv_rr_si V 124 d _ (by decide) (Or.inl rfl)) (sv_rr_si _ 125 d _ (by decide) (Or.inr rfl))
      have w : ∀ a, ¬ (a = 93 + 2 * d ∨ a = 124 ∨ a = 125 ∨ a = 105) → U.1 a = S.1 a ∧ U.2 a = S.2 a := fun a ha => ⟨((gU.1 a (by omega) (by omega)).1).trans (gV a (by omega)).1, ((gU.1 a (by omega) (by omega)).2).trans (gV a (by omega)).2⟩
      have gW : sv_rr (fun a => ¬ sv_P a ∨ (89 ≤ a ∧ a ≤ 104) ∨ (122 ≤ a ∧ a ≤ 126)) (fun k => sv_F k ∨ k = 32 ∨ k = 35) S U := sv_rr_tr (T := V) ⟨fun a _ ha => gV a (by omega), fun k _ => by rw [(gV 105 (by omega)).1], (gV 105 (by omega)).2⟩ (sv_rr_wk gU (fun a ha => by omega) (fun k hk => hk.elim))
      have u5 : U.1 105 = S.1 105 := by funext k; rw [gU.2.1 k (fun z => z), (gV 105 (by omega)).1]
      refine ⟨_, V, U, rfl, ?_, ⟨A, L, b, sv_rl_ks hr gW (sv_rB_ks hB (fun a ha => (w a (by omega)).1) u5) (sv_rH_of (d := d) (by omega) h10 ?_ (fun a h1 h2 h3 => w a (by omega)) (fun i hi => ?_) (fun i hi => ?_) (w 122 (by omega)).1 (fun i _ => by rw [(w 126 (by omega)).2]))⟩⟩
      · rw [e9_isShelf, sv_bd, sv_Bi, if_pos hx, if_pos rfl, sv_gi (by omega) (by decide), sv_ls, sv_gi (by omega) (by decide), sv_ls]
      · left
        constructor
        · rw [(gU.1 _ (by omega) (by omega)).1]; show (sw_si S (93 + 2 * d) 4 0).1 _ 4 = _; rw [sv_si, if_pos ⟨rfl, rfl⟩]
        · show (sw_si (sw_si V 124 d (-1)) 125 d 0).1 124 d = _; rw [sv_si, if_neg (by omega), sv_si, if_pos ⟨rfl, rfl⟩]
      · show (sw_si (sw_si V 124 d (-1)) 125 d 0).1 124 i = _; rw [sv_si, if_neg (by omega), sv_si, if_neg (by omega), (gV 124 (by omega)).1]
      · show (sw_si (sw_si V 124 d (-1)) 125 d 0).1 125 i = _; rw [sv_si, if_neg (by omega), sv_si, if_neg (by omega), (gV 125 (by omega)).1]
    · by_cases hy : 0 ≤ y ∧ y ≤ nI b - 1
      · obtain ⟨k, hk, rfl⟩ := (sv_swI (by omega) y).mp hy
        obtain ⟨q, hq, k1, k2⟩ := b4 k hk
        rw [if_pos (show (-1 : Int32) ≤ nI k ∧ nI k ≤ S.1 89 0 - 1 from ⟨Int32.le_trans (by decide) hy.1, by rw [b2]; exact hy.2⟩), if_pos (show nI k ≥ (0 : Int32) from hy.1), sv_gi (by omega) (by decide), sv_gi (by omega) (by decide), nI_clamp (by omega), nI_clamp (by omega), k1, sv_ls, sv_ls, sv_bd]
        let V := sw_si (sw_si S (93 + 2 * d) 4 1) (93 + 2 * d) 0 (nI q)
        let U := sw_si (sw_si V 124 d (nI k)) 125 d 0
        have gV : sv_ag (fun a => a = 93 + 2 * d) S V := sv_ag_tr (sv_ag_si S (93 + 2 * d) 4 _ rfl) (sv_ag_si _ (93 + 2 * d) 0 _ rfl)
        have gU : sv_rr (fun a => a = 124 ∨ a = 125) (fun _ => False) V U := sv_rr_tr (sv_rr_si V 124 d _ (by decide) (Or.inl rfl)) (sv_rr_si _ 125 d _ (by decide) (Or.inr rfl))
        have w : ∀ a, ¬ (a = 93 + 2 * d ∨ a = 124 ∨ a = 125 ∨ a = 105) → U.1 a = S.1 a ∧ U.2 a = S.2 a := fun a ha => ⟨((gU.1 a (by omega) (by omega)).1).trans (gV a (by omega)).1, ((gU.1 a (by omega) (by omega)).2).trans (gV a (by omega)).2⟩
        have gW : sv_rr (fun a => ¬ sv_P a ∨ (89 ≤ a ∧ a ≤ 104) ∨ (122 ≤ a ∧ a ≤ 126)) (fun k => sv_F k ∨ k = 32 ∨ k = 35) S U := sv_rr_tr (T := V) ⟨fun a _ ha => gV a (by omega), fun k _ => by rw [(gV 105 (by omega)).1], (gV 105 (by omega)).2⟩ (sv_rr_wk gU (fun a ha => by omega) (fun k hk => hk.elim))
        have u5 : U.1 105 = S.1 105 := by funext k; rw [gU.2.1 k (fun z => z), (gV 105 (by omega)).1]
        have v3 : V.1 105 32 = nI b := by rw [(gV 105 (by omega)).1]; exact b3
        refine ⟨_, V, U, rfl, ?_, ⟨A, L, b, sv_rl_ks hr gW (sv_rB_ks hB (fun a ha => (w a (by omega)).1) u5) (sv_rH_of (d := d) (by omega) h10 ?_ (fun a h1 h2 h3 => w a (by omega)) (fun i hi => ?_) (fun i hi => ?_) (w 122 (by omega)).1 (fun i _ => by rw [(w 126 (by omega)).2]))⟩⟩
        · unfold fX9_isBody
          rw [e9_isShelf, sv_bd, sv_Bi, if_pos hx, if_neg hm, v3, sv_64_0, e9_within, sv_bd, sv_Bn, sv_bd, sv_Bi, if_pos hy, sv_gi (by omega) (by decide), sv_ls, sv_gi (by omega) (by decide), sv_ls]
        · right; left
          refine ⟨?_, k, hk, ?_, ?_⟩
          · rw [(gU.1 _ (by omega) (by omega)).1]; show (sw_si (sw_si S (93 + 2 * d) 4 1) (93 + 2 * d) 0 (nI q)).1 _ 4 = _; rw [sv_si, if_neg (by omega), sv_si, if_pos ⟨rfl, rfl⟩]
          · show (sw_si (sw_si V 124 d (nI k)) 125 d 0).1 124 d = _; rw [sv_si, if_neg (by omega), sv_si, if_pos ⟨rfl, rfl⟩]
          · rw [(gU.1 _ (by omega) (by omega)).1, (w 122 (by omega)).1, k2]; show (sw_si (sw_si S (93 + 2 * d) 4 1) (93 + 2 * d) 0 (nI q)).1 _ 0 = _; rw [sv_si, if_pos ⟨rfl, rfl⟩]
        · show (sw_si (sw_si V 124 d (nI k)) 125 d 0).1 124 i = _; rw [sv_si, if_neg (by omega), sv_si, if_neg (by omega), (gV 124 (by omega)).1]
        · show (sw_si (sw_si V 124 d (nI k)) 125 d 0).1 125 i = _; rw [sv_si, if_neg (by omega), sv_si, if_neg (by omega), (gV 125 (by omega)).1]
      · have hno : ¬ ((-1 : Int32) ≤ y ∧ y ≤ S.1 89 0 - 1) := by
          rw [b2]
          intro z
          apply hy
          refine ⟨?_, z.2⟩
          have z1 := Int32.le_iff_toInt_le.mp z.1
          rw [Int32.le_iff_toInt_le]
          have : y.toInt ≠ -1 := fun e => hm (Int32.toInt_inj.mp e)
          show (0 : Int) ≤ _
          have z1 : (-1 : Int) ≤ y.toInt := z1
          omega
        rw [if_neg hno]
        refine ⟨_, S, S, rfl, ?_, hs⟩
        unfold fX9_isBody
        rw [e9_isShelf, sv_bd, sv_Bi, if_pos hx, if_neg hm, b3, sv_64_0, e9_within, sv_bd, sv_Bn, sv_bd, sv_Bi, if_neg hy]
  · rw [if_neg hx]
    exact ⟨_, S, S, rfl, by rw [e9_isShelf, sv_bd, sv_Bi, if_neg hx], hs⟩
