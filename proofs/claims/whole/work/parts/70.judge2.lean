/-! judge, in the reference; judge -/
theorem e9_firstFalse (N : Nat) (hN : 200 ≤ N) {S : sw_St} {A : sv_A} {L : sv_L} (h : sv_mr S A) (hA : sv_wf A) (hL : sv_lr L S) {x : Int32} {a c s sz sz3 i : Nat} {E E3 : Nat → Int32} (e1 : x / 10 = nI a) (e2 : x - x / 10 * 10 = nI c) (hb : sv_rb S a sz E) (hb3 : sv_rb S c sz3 E3) (hi : sv_hh E sz i) (hs : s < A.1) : ∃ r U, fX9_firstFalse N x (nI s) S = some (r, U) ∧ sv_f2 (fun k => i < k ∨ ¬ E3 k = nI ((sv_rd L A E k).2.1 3 s)) sz3 r ∧ sv_rr sv_rq sv_F S U := by
  unfold fX9_firstFalse
  simp only [e2]
  simp only [e1]
  have hn := hA.1
  obtain ⟨V, hV, v1, v2⟩ := e9_beginsq N (by omega) h hA
  have vb := sv_rb_q hb v2
  obtain ⟨i', hi', q⟩ := e9_hourMany N (by omega) vb.1 vb.2.1 vb.2.2.1 vb.2.2.2
  have := sv_hh_u hi q
  subst this
  obtain ⟨q1, q2, -⟩ := hi
  have hsz := hb.2.1
  have hsz3 := hb3.2.1
  have hc := hb3.1
  have ha := hb.1
  rw [hV, sv_bd, hi', sv_bd]
  refine sv_fr1 (Q := fun t => ∃ r U, t = some (r, U) ∧ sv_f2 (fun k => i < k ∨ ¬ E3 k = nI ((sv_rd L A E k).2.1 3 s)) sz3 r ∧ sv_rr sv_rq sv_F S U) (fun k x W => x = nI k ∧ k ≤ sz3 ∧ k ≤ i + 1 ∧ (∃ cd, sv_rs W (sv_rd L A E (k - 1)) cd) ∧ (∀ j, j < k → ¬ (i < j ∨ ¬ E3 j = nI ((sv_rd L A E j).2.1 3 s))) ∧ sv_rr sv_rq sv_F S W) sz3 ?_ ?_ N _ V (by omega) ⟨rfl, by omega, by omega, ⟨_, v1⟩, fun j hj => absurd hj (Nat.not_lt_zero j), v2⟩
  · rintro k x W rec hk ⟨rfl, hks, hki, ⟨cd, w2⟩, w3, gW⟩
    have wb3 := sv_rb_q hb3 gW
    have wb := sv_rb_q hb gW
    rw [sv_gi hc (by decide), nI_clamp (by omega), wb3.2.2.1, if_neg (nI_ge hk (by omega))]
    by_cases hik : k ≤ i
    · rw [if_pos (nI_le hik (by omega)), sv_jn0, show (60 : Int32) * nI c = nI (60 * c) from pk_mul 60 c, nI_add, nI_clamp (show 60 * c + k < 2 ^ 31 by omega)]
      simp only [sv_gi (show 60 * c + k < 360 by omega) (show 360 < 2 ^ 31 by decide), sv_gi (show s < 10 by omega) (show 10 < 2 ^ 31 by decide), nI_clamp (show s < 2 ^ 31 by omega)]
      have fin : ∀ (X : sw_St) cd, sv_rs X (sv_rd L A E k) cd → sv_rr sv_rq sv_F S X → ∀ t, t = (if lg_cmp (X.2 126 (60 * c + k)) ((X.1 114 s).toInt64) = 0 then rec (nI k + 1) X else some (nI k, X)) → (∃ b0 T, (b0 = nI (k + 1) ∧ k + 1 ≤ sz3 ∧ k + 1 ≤ i + 1 ∧ (∃ cd, sv_rs T (sv_rd L A E (k + 1 - 1)) cd) ∧ (∀ j, j < k + 1 → ¬ (i < j ∨ ¬ E3 j = nI ((sv_rd L A E j).2.1 3 s))) ∧ sv_rr sv_rq sv_F S T) ∧ t = rec b0 T) ∨ (∃ r U, t = some (r, U) ∧ sv_f2 (fun k => i < k ∨ ¬ E3 k = nI ((sv_rd L A E k).2.1 3 s)) sz3 r ∧ sv_rr sv_rq sv_F S U) := by
        rintro X cd hX gX t rfl
        have xb3 := sv_rb_q hb3 gX
        rw [xb3.2.2.2 k (by omega), hX.2.2.2.2.1 s (by rw [sv_rd_n]; exact hs)]
        by_cases hm : E3 k = nI ((sv_rd L A E k).2.1 3 s)
        · rw [if_pos ((sv_lg0 _ _).mpr hm)]
          left
          refine ⟨_, X, ⟨nI_1 k, by omega, by omega, ⟨cd, hX⟩, fun j hj => ?_, gX⟩, rfl⟩
          rcases Nat.lt_or_ge j k with e | e
          · exact w3 j e
          · have : j = k := by omega
            subst this
            intro z
            rcases z with z | z
            · omega
            · exact z hm
        · rw [if_neg (fun z => hm ((sv_lg0 _ _).mp z))]
          right
          exact ⟨_, X, rfl, Or.inl ⟨k, hk, Or.inr hm, w3, rfl⟩, gX⟩
      rcases Nat.eq_zero_or_pos k with e | e
      · subst e
        rw [if_pos (show nI 0 ≤ 0 by decide)]
        exact fin W cd w2 gW _ rfl
      · rw [if_neg (nI_nle e (by omega))]
        obtain ⟨k', rfl⟩ : ∃ k', k = k' + 1 := ⟨k - 1, by omega⟩
        rw [nI_pred]
        unfold fX9_goesNext
        rw [show (60 : Int32) * nI a = nI (60 * a) from pk_mul 60 a, nI_add, sv_gi (by omega) (by decide), nI_clamp (by omega), wb.2.2.2 k' (by omega), sv_6432, sv_ls]
        obtain ⟨U, hU, u1, u2⟩ := e9_hourAt N hN w2 (sv_rd_wf hA E k') (sv_lr_q hL gW) (E k')
        rw [hU, sv_bd, sv_bd]
        exact fin U _ u1 (sv_rr_tr gW u2) _ rfl
    · rw [if_neg (fun z => hik ((nI_leI (by omega) (by omega)).mp z))]
      right
      exact ⟨_, W, rfl, Or.inl ⟨k, hk, Or.inl (by omega), w3, rfl⟩, gW⟩
  · rintro x W rec ⟨rfl, hks, hki, -, w3, gW⟩
    have wb3 := sv_rb_q hb3 gW
    rw [sv_gi hc (by decide), nI_clamp (by omega), wb3.2.2.1, if_pos (Int32.le_refl _)]
    exact ⟨_, W, rfl, Or.inr ⟨w3, rfl⟩, gW⟩
theorem op_judge (N : Nat) (hN : 5000 ≤ N) {S : sw_St} (h : sv_rel S) (x y : Int32) : sv_ok (fX8_judge N x y) (fX9_judge N x y) S := by
  have hs := h
  obtain ⟨A, L, b, h⟩ := h
  have hr := h
  obtain ⟨h1, h2, h3, h4, h5, h6, h7, h8, h9, h10⟩ := h
  have hn10 := h1.1
  unfold sv_ok fX8_judge fX9_judge
  rcases e_both N h9.1 h10 x with ⟨c1, c2⟩ | ⟨r, r0, r1, r2, c1, c2, c3⟩ | ⟨a, c, sz, sz3, ha, hc, e1, e2, q1, q2, c1, c2, c3⟩
  · rw [c1, sv_bd, if_pos rfl]
    exact ⟨_, S, S, rfl, by rw [c2 S, sv_bd, if_pos rfl], hs⟩
  · rw [c1, sv_bd, if_neg sv_nz, e8_isSword N y h2.1, sv_bd, sv_Bi]
    by_cases hy : 0 ≤ y ∧ y ≤ nI A.1 - 1
    · rw [if_pos hy, c2, sv_bd, if_neg r0]
      exact ⟨_, S, S, rfl, by rw [c3 S rfl, sv_bd, if_neg r2, e9_isSword N y h3.1, sv_bd, sv_Bi, if_pos hy, c3 S rfl, sv_bd, if_neg r1, c3 S rfl, sv_bd], hs⟩
    · rw [if_neg hy]
      exact ⟨_, S, S, rfl, by rw [c3 S rfl, sv_bd, if_neg r2, e9_isSword N y h3.1, sv_bd, sv_Bi, if_neg hy], hs⟩
  · rw [c1, sv_bd, if_neg sv_nz, e8_isSword N y h2.1, sv_bd, sv_Bi]
    by_cases hy : 0 ≤ y ∧ y ≤ nI A.1 - 1
    · obtain ⟨s, hsn, rfl⟩ := (sv_swI (by omega) y).mp hy
      rw [if_pos hy, c2, sv_bd, if_pos rfl, e2, e1, sv_gi ha (by decide), sv_gi hc (by decide), nI_clamp (by omega), nI_clamp (by omega)]
      unfold fX7_judged
      obtain ⟨V, hV, v1, v2⟩ := e7_fresh N h2
      have gV : sv_ag sv_tq S V := sv_ag_wk v2 (fun a ha => by unfold sv_tq; omega)
      obtain ⟨i, r, W, hW, w1, w2, gW⟩ := e7_firstWrong N (by omega) gV v1 h1 h4 (o2 := 93 + 2 * a) (o3 := 93 + 2 * c) (s := s) (by omega) (by omega) q1.2.1 q1.2.2.2.2.1 q2.2.1 q2.2.2.2.2.1 hsn
      obtain ⟨r', U, hU, u1, u2⟩ := e9_firstFalse N (by omega) (sv_mr_tq h3 gW) h1 (sv_lr_tq h5 gW) e1 e2 (sv_rb_tq (sv_rb_of ha q1) gW) (sv_rb_tq (sv_rb_of hc q2) gW) w1 hsn
      have := sv_f2_u w2 u1
      subst this
      rw [hV, sv_bd, show (decide (sw_kd 29 = 4)) = true from rfl, sv_gt, hW, sv_bd, sv_bd]
      refine ⟨_, W, U, rfl, ?_, sv_rel_tq hr gW u2⟩
      have t4 : W.1 124 = S.1 124 := (gW 124 (by unfold sv_tq; omega)).1
      rw [c3 W t4, sv_bd, if_neg (by decide), e9_isSword N (nI s) (sv_mr_tq h3 gW).1, sv_bd, sv_Bi, if_pos hy, c3 W t4, sv_bd, if_pos (by decide), hU, sv_bd]
    · rw [if_neg hy]
      exact ⟨_, S, S, rfl, by rw [c3 S rfl, sv_bd, if_neg (by decide), e9_isSword N y h3.1, sv_bd, sv_Bi, if_neg hy], hs⟩
