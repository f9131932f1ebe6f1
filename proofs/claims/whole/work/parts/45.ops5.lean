/-! telling -/
def sv_tv (d m n : Int32) : Nat := sv_cl (if d > n then m + n else m - (2 : Int32) * n)
theorem sv_m2 (a b : Int32) : a + (-2 : Int32) * b = a - (2 : Int32) * b := by
  rw [show (-2 : Int32) = -(2 : Int32) from rfl, Int32.neg_mul, Int32.sub_eq_add_neg]
theorem e4_tellAt (N : Nat) {S : sw_St} {o : Nat} {A : sv_A} (h : sv_nc S o A) (hA : sv_wf A) {c : Nat} (hc : c < 12) (n : Int32) : (∀ s, s < A.1 → A.2.1 0 s = c → fX4_tellAt N o (nI c) n S = some ((), sw_si S (o + 4) s (nI (sv_tv (nI (A.2.1 1 s)) (nI (A.2.1 3 s)) n)))) ∧ ((∀ s, s < A.1 → A.2.1 0 s ≠ c) → fX4_tellAt N o (nI c) n S = some ((), S)) := by
  have h10 := hA.1
  have e0 : S.1 (o + 6) c = sv_lie A.1 (A.2.1 0) c := h.2.2.2 c hc
  constructor
  · intro s hs hsc
    have e1 : S.1 (o + 2) s = nI (A.2.1 1 s) := h.2.1 1 s (by omega) (by omega)
    have e3 : S.1 (o + 4) s = nI (A.2.1 3 s) := h.2.1 3 s (by omega) (by omega)
    unfold fX4_tellAt fX8_heldWithin sv_tv
    rw [sv_gi hc (by decide), nI_clamp (by omega), e0, sv_lie_at hA hs hsc, sv_li, if_pos (show nI s ≥ (0 : Int32) from nI_pos' (by omega)), sv_gi (by omega) (by decide), nI_clamp (by omega), e1, e3]
    by_cases hq : nI (A.2.1 1 s) > n
    · rw [if_pos hq, if_pos hq, sv_gi (by omega) (by decide), sv_li, sv_bd, sv_gi (by omega) (by decide), sv_ls, (sv_cl_eq _).1]
    · rw [if_neg hq, if_neg hq, sv_gi (by omega) (by decide), sv_li, sv_bd, sv_gi (by omega) (by decide), sv_ls, (sv_cl_eq _).1]
  · intro hno
    unfold fX4_tellAt
    rw [sv_gi hc (by decide), nI_clamp (by omega), e0, sv_lie_no hno, sv_li, if_neg (by decide)]
theorem e9_isToldAt (N : Nat) {S : sw_St} {A : sv_A} {cd : Int32} (h : sv_rs S A cd) (hA : sv_wf A) {c : Nat} (hc : c < 12) (n : Int32) : (∀ s, s < A.1 → A.2.1 0 s = c → fX9_isToldAt N (nI c) n S = some ((), sw_si S 114 s (nI (sv_tv (nI (A.2.1 1 s)) (nI (A.2.1 3 s)) n)))) ∧ ((∀ s, s < A.1 → A.2.1 0 s ≠ c) → fX9_isToldAt N (nI c) n S = some ((), S)) := by
  have h10 := hA.1
  obtain ⟨a1, a2, a3, a4, a5, a6, a7⟩ := h
  have e0 := a4 c hc
  constructor
  · intro s hs hsc
    have e1 := (a2 s (by omega)).1
    have e3 := a5 s hs
    unfold fX9_isToldAt sv_tv
    rw [sv_gi hc (by decide), nI_clamp (by omega), e0, sv_lie_at hA hs hsc, sv_li, if_neg (nI_pos (by omega)), sv_gi (by omega) (by decide), show (10 : Int32) + nI s = nI (10 + s) from nI_add 10 s, sv_gi (by omega) (by decide), nI_clamp (by omega), nI_clamp (by omega), e1, e3]
    by_cases hq : nI (A.2.1 1 s) > n
    · rw [if_pos hq, if_pos hq, e9_heldMind, sv_bd, sv_gi (by omega) (by decide), sv_ls]
    · rw [if_neg hq, if_neg hq, e9_heldMind, sv_bd, sv_gi (by omega) (by decide), sv_ls, sv_m2]
  · intro hno
    unfold fX9_isToldAt
    rw [sv_gi hc (by decide), nI_clamp (by omega), e0, sv_lie_no hno, sv_li, if_pos (by decide)]
theorem sv_rs_st {S : sw_St} {A : sv_A} {cd : Int32} (h : sv_rs S A cd) {s : Nat} (v : Nat) : sv_rs (sw_si S 114 s (nI v)) (sv_st A 3 s v) cd := by
  obtain ⟨a1, a2, a3, a4, a5, a6, a7⟩ := h
  refine ⟨?_, fun t ht => ?_, ?_, fun c hc => ?_, fun t ht => ?_, ?_, ?_⟩
  · rw [sv_si, if_neg (by omega)]; exact a1
  · simp only [sv_si]
    rw [if_neg (by omega), if_neg (by omega), if_neg (by omega)]
    have := a2 t ht
    exact this
  · rw [sv_si, if_neg (by omega)]; exact a3
  · rw [sv_si, if_neg (by omega)]; exact a4 c hc
  · rw [sv_si]
    show _ = nI (if 3 = 3 ∧ t = s then v else A.2.1 3 t)
    by_cases hq : t = s
    · rw [if_pos ⟨rfl, hq⟩, if_pos ⟨rfl, hq⟩]
    · rw [if_neg (by omega), if_neg (by omega)]; exact a5 t ht
  · rw [sv_si, if_neg (by omega)]; exact a6
  · rw [sv_si, if_neg (by omega)]; exact a7
theorem sv_lie_m1 {A : sv_A} : ¬ ((0 : Int32) ≤ -1 ∧ (-1 : Int32) ≤ nI A.1 - 1) := fun h => absurd h.1 (by decide)
theorem op_telling (N : Nat) (hN : 5000 ≤ N) {S : sw_St} (h : sv_rel S) (x y : Int32) : sv_ok (fX8_telling N x y) (fX9_telling N x y) S := by
  have hs := h
  obtain ⟨A, L, b, h⟩ := h
  have hr := h
  obtain ⟨h1, h2, h3, h4, h5, h6, h7, h8, h9, h10⟩ := h
  have hn := h1.1
  unfold sv_ok fX8_telling fX9_telling
  simp only [e8_isCot, e8_within, sv_bd, sv_Bi]
  rcases sv_cq 11 (by decide) (M := 11) rfl x with ⟨c, hc, rfl, hx⟩ | hx
  · rw [if_pos hx]
    rcases sv_cq 9 (by decide) (M := 9) rfl y with ⟨v, hv, rfl, hy⟩ | hy
    · have e0 : S.1 (1 + 6) c = sv_lie A.1 (A.2.1 0) c := h2.2.2.2 c (by omega)
      rw [if_pos hy, sv_gi (by omega) (by decide), nI_clamp (by omega), e0, sv_li]
      rcases sv_lie_r h1 c with ⟨s, hsn, hsc, hlie⟩ | ⟨hno, hlie⟩
      · let w := sv_tv (nI (A.2.1 1 s)) (nI (A.2.1 3 s)) (nI v)
        have hw : w ≤ 99 := (sv_cl_eq _).2
        rw [hlie, e8_isSword N _ h2.1, sv_bd, sv_Bi, if_pos ((sv_swI (by omega) _).mpr ⟨s, hsn, rfl⟩), (e4_tellAt N h2 h1 (by omega) (nI v)).1 s hsn hsc, sv_bd, show (1 : Int32) = nI 1 from rfl, e2_add N (by decide), sv_bd, sv_gi (by omega) (by decide), nI_clamp (by omega)]
        let V := sw_si (sw_si S (1 + 4) s (nI w)) 85 1 ((sw_si S (1 + 4) s (nI w)).1 85 1 + 1)
        have gV : sv_ag (fun q => q = 5 ∨ q = 85) S V := sv_ag_tr (sv_ag_si S 5 s _ (Or.inl rfl)) (sv_ag_si _ 85 1 _ (Or.inr rfl))
        have nV : sv_nc V 1 (sv_st A 3 s w) := sv_nc_eq (sv_nc_st h2 3 s w (by decide) (by decide)) (fun k hk => (sv_ag_si (P := fun q => q = 85) (sw_si S (1 + 4) s (nI w)) 85 1 _ rfl (1 + k) (by omega)).1)
        have mV : sv_mr V A := sv_mr_eq h3 (gV 106 (by omega)).1 (by rw [(gV 105 (by omega)).1])
        obtain ⟨W1, hW, rW, mW, gW⟩ := e9_begins N (by omega) mV h1
        have r2 : sv_rs (sw_si W1 114 s (nI w)) (sv_st A 3 s w) (nI (A.2.2 2)) := sv_rs_st rW w
        obtain ⟨Y, hY, mY, gY⟩ := e9_keepsMind N (by omega) (A := sv_st A 3 s w) h1.1 r2.1 r2.2.2.2.2.1
        let Z := sw_si Y 119 1 (Y.1 119 1 + 1)
        have gZ : sv_rr (fun q => q = 113 ∨ q = 114 ∨ q = 106 ∨ q = 119) (fun k => k = 19 ∨ k = 20) V Z := sv_rr_tr (sv_rr_wk gW (fun a ha => by omega) (fun k hk => hk)) (sv_rr_tr (sv_rr_si W1 114 s _ (by decide) (by omega)) (sv_rr_tr (sv_rr_wk gY (fun a ha => by omega) (fun k hk => hk.elim)) (sv_rr_si Y 119 1 _ (by decide) (by omega))))
        have y13 : Y.1 113 c = nI s := by rw [(gY.1 113 (by decide) (by omega)).1, sv_si, if_neg (by omega), rW.2.2.2.1 c (by omega), hlie]
        have y14 : Y.1 114 s = nI w := by rw [(gY.1 114 (by decide) (by omega)).1, sv_si, if_pos ⟨rfl, rfl⟩]
        refine ⟨_, V, Z, rfl, ?_, ⟨sv_st A 3 s w, L, b, ?_⟩⟩
        · rw [e9_isCot, sv_bd, sv_Bi, if_pos hx, sv_64_0, sv_64_9, e9_within, sv_bd, sv_Bi, if_pos hy, hW, sv_bd, sv_gi (by omega) (by decide), nI_clamp (by omega), rW.2.2.2.1 c (by omega), hlie, if_pos (show nI s ≥ (0 : Int32) from nI_pos' (by omega)), (e9_isToldAt N rW h1 (by omega) (nI v)).1 s hsn hsc, sv_bd, hY, sv_bd, sv_gi (k := 1) (by decide) (by decide), sv_gi (k := 1) (by decide) (by decide), sv_ls]
          show sw_gd (sw_in (nI c) 12) (sw_gd (sw_in (Z.1 113 c) 10) (some (Z.1 114 (Z.1 113 c).toNatClampNeg, Z))) = _
          rw [show Z.1 113 c = nI s by show (sw_si Y 119 1 _).1 113 c = _; rw [sv_si, if_neg (by omega)]; exact y13, sv_gi (by omega) (by decide), sv_gi (by omega) (by decide), nI_clamp (by omega)]
          rw [show Z.1 114 s = nI w by show (sw_si Y 119 1 _).1 114 s = _; rw [sv_si, if_neg (by omega)]; exact y14]
          show some (nI w, Z) = some (V.1 (1 + 4) s, Z)
          rw [show V.1 (1 + 4) s = nI w by show (sw_si (sw_si S (1 + 4) s (nI w)) 85 1 _).1 (1 + 4) s = _; rw [sv_si, if_neg (by omega), sv_si, if_pos ⟨rfl, rfl⟩]]
        · refine sv_rl_kq hr (sv_kq_tr (sv_kq_ag gV (fun a ha => by unfold sv_P; omega) (by omega)) (sv_kq_rr gZ (fun a ha => by unfold sv_P; omega) (fun k hk => by unfold sv_F; omega))) (sv_wf_st h1 hsn (by decide) (show w ≤ sv_gr 3 from hw) (by decide)) ?_ ?_ (Nat.le_refl _) ?_
          · exact sv_nc_eq nV (fun k hk => (gZ.1 (1 + k) (by omega) (by omega)).1)
          · refine ⟨?_, fun k t hk ht => ?_, fun j hj => ?_⟩
            · rw [gZ.2.1 6 (by omega)]; exact mV.1
            · show (sw_si Y 119 1 _).1 106 (10 * k + t) = nI (if k = 3 ∧ t = s then w else A.2.1 k t)
              rw [sv_si, if_neg (by omega), mY]
              by_cases hq : 30 ≤ 10 * k + t ∧ 10 * k + t < 30 + (sv_st A 3 s w).1
              · have hk3 : k = 3 := by have : (sv_st A 3 s w).1 = A.1 := rfl; omega
                subst hk3
                rw [if_pos hq, show 10 * 3 + t - 30 = t by omega]
                rfl
              · have hq2 : ¬ (k = 3 ∧ t = s) := by
                  intro z
                  apply hq
                  have : (sv_st A 3 s w).1 = A.1 := rfl
                  omega
                rw [if_neg hq, if_neg hq2, sv_si, if_neg (by omega)]
                exact mW.2.1 k t hk ht
            · show (sw_si Y 119 1 _).1 106 (50 + j) = nI (A.2.2 j)
              rw [sv_si, if_neg (by omega), mY, if_neg (by have : (sv_st A 3 s w).1 = A.1 := rfl; omega), sv_si, if_neg (by omega)]
              exact mW.2.2 j hj
          · have y9 : Y.1 119 = S.1 119 := by
              rw [(gY.1 119 (by decide) (by omega)).1]
              have : (sw_si W1 114 s (nI w)).1 119 = W1.1 119 := by unfold sw_si; simp
              rw [this, (gW.1 119 (by decide) (by omega)).1, (gV 119 (by omega)).1]
            refine sv_rD_add (S := S) h8 (fun k => if k = 1 then 1 else 0) (fun k hk => ?_) (fun k hk => ?_) (fun a ha => ?_) ?_ ?_
            · rw [(gZ.1 85 (by decide) (by omega)).1]
              show (sw_si (sw_si S (1 + 4) s (nI w)) 85 1 _).1 85 k = _
              have : k = 0 ∨ k = 1 ∨ k = 2 ∨ k = 3 ∨ k = 4 := by omega
              rcases this with rfl | rfl | rfl | rfl | rfl <;> simp [sv_si]
            · show (sw_si Y 119 1 _).1 119 k = _
              have : k = 0 ∨ k = 1 ∨ k = 2 ∨ k = 3 ∨ k = 4 := by omega
              rcases this with rfl | rfl | rfl | rfl | rfl <;> simp [sv_si, y9]
            · rw [(gZ.1 a (by omega) (by omega)).1, (gV a (by omega)).1]
            · rw [gZ.2.1 28 (by omega), (gV 105 (by omega)).1]
            · rw [gZ.2.1 29 (by omega), (gV 105 (by omega)).1]
      · rw [hlie, e8_isSword N _ h2.1, sv_bd, sv_Bi, if_neg sv_lie_m1]
        obtain ⟨W1, hW, rW, mW, gW⟩ := e9_begins N (by omega) h3 h1
        refine ⟨_, S, W1, rfl, ?_, ⟨A, L, b, sv_rl_same hr (sv_same_b gW)⟩⟩
        rw [e9_isCot, sv_bd, sv_Bi, if_pos hx, sv_64_0, sv_64_9, e9_within, sv_bd, sv_Bi, if_pos hy, hW, sv_bd, sv_gi (by omega) (by decide), rW.2.2.2.1 c (by omega), hlie, if_neg (by decide)]
    · rw [if_neg hy]
      exact ⟨_, _, S, rfl, by rw [e9_isCot, sv_bd, sv_Bi, if_pos hx, sv_64_0, sv_64_9, e9_within, sv_bd, sv_Bi, if_neg hy], hs⟩
  · rw [if_neg hx]
    exact ⟨_, _, S, rfl, by rw [e9_isCot, sv_bd, sv_Bi, if_neg hx], hs⟩
