/-! cries, asleep: the first hour at which something holds -/
/-- the first of 0 .. h at which p holds, or none -/
def sv_f1 (p : Nat → Prop) (h : Nat) (r : Int32) : Prop := (∃ k, k ≤ h ∧ p k ∧ (∀ j, j < k → ¬ p j) ∧ r = nI k) ∨ ((∀ j, j ≤ h → ¬ p j) ∧ r = -2)
theorem sv_f1_u {p : Nat → Prop} {h : Nat} {r q : Int32} (a : sv_f1 p h r) (b : sv_f1 p h q) : r = q := by
  rcases a with ⟨k, k1, k2, k3, rfl⟩ | ⟨k1, rfl⟩
  · rcases b with ⟨m, m1, m2, m3, rfl⟩ | ⟨m1, rfl⟩
    · rcases Nat.lt_trichotomy k m with z | z | z
      · exact absurd k2 (m3 k z)
      · rw [z]
      · exact absurd m2 (k3 m z)
    · exact absurd k2 (m1 k k1)
  · rcases b with ⟨m, m1, m2, m3, rfl⟩ | ⟨m1, rfl⟩
    · exact absurd m2 (k1 m m1)
    · rfl
theorem e7_firstCry (N : Nat) (hN : 200 ≤ N) {S : sw_St} {A : sv_A} {L : sv_L} (h : sv_nc S 1 A) (hA : sv_wf A) (hL : sv_lc L S) {o s sz : Nat} (ho : 93 ≤ o) (hsz : sz ≤ 60) (hz : S.1 o 2 = nI sz) (hs : s < A.1) (z : Int32) : ∃ i r V, fX7_firstCry N o (nI s) z S = some (r, V) ∧ sv_hh (fun j => (S.2 (o + 1) j).toInt32) sz i ∧ sv_f1 (fun k => ¬ nI ((sv_rd L A (fun j => (S.2 (o + 1) j).toInt32) k).2.1 3 s) < z) i r ∧ sv_ag sv_tq S V := by
  unfold fX7_firstCry
  have hn := hA.1
  generalize hE : (fun j => (S.2 (o + 1) j).toInt32) = E
  obtain ⟨V, hV, v1, v2⟩ := e7_fresh N h
  have gV : sv_ag sv_tq S V := sv_ag_wk v2 (fun a ha => by unfold sv_tq; omega)
  obtain ⟨i, hi, q⟩ := e5_hours N (by omega) (S := V) (o := o) (sz := sz) hsz (by rw [(gV o (by unfold sv_tq; omega)).1]; exact hz)
  rw [(gV (o + 1) (by unfold sv_tq; omega)).2, hE] at q
  have q' := q
  obtain ⟨q1, q2, -⟩ := q'
  rw [hV, sv_bd, show (decide (sw_kd 29 = 4)) = true from rfl, sv_gt, hi, sv_bd]
  have md : ∀ (W : sw_St) (B : sv_A), sv_nc W 29 B → W.1 (29 + 4) s = nI (B.2.1 3 s) := fun W B hW => hW.2.1 3 s (by decide) (by omega)
  refine sv_fr1 (Q := fun t => ∃ i r V, t = some (r, V) ∧ sv_hh E sz i ∧ sv_f1 (fun k => ¬ nI ((sv_rd L A E k).2.1 3 s) < z) i r ∧ sv_ag sv_tq S V) (fun k x W => x = nI k ∧ k ≤ i ∧ sv_nc W 29 (sv_rd L A E k) ∧ (∀ j, 1 ≤ j → j ≤ k → nI ((sv_rd L A E j).2.1 3 s) < z) ∧ (1 ≤ k → nI ((sv_rd L A E 0).2.1 3 s) < z) ∧ sv_ag sv_tq S W) i ?_ ?_ N _ V (by omega) ⟨rfl, by omega, v1, fun j h1 h2 => by omega, fun h1 => by omega, gV⟩
  · rintro k x W rec hk ⟨rfl, hki, w2, w3, w4, gW⟩
    rw [if_neg (nI_ge hk (by omega)), sv_gi (by omega) (by decide), nI_clamp (by omega), md W _ w2, sv_gi (by omega) (by decide)]
    by_cases hm : nI ((sv_rd L A E k).2.1 3 s) < z
    · rw [if_neg (Int32.not_le.mpr hm)]
      rw [← hE] at w2
      obtain ⟨U, b0, hU, u1, u2⟩ := e7_next N hN hL hA ho hsz hz (show k < sz by omega) w2 gW
      rw [hE] at u1
      rw [b0, sv_bd, hU, sv_bd, sv_gi (by omega) (by decide), md U _ u1]
      have all : ∀ j, j < k + 1 → nI ((sv_rd L A E j).2.1 3 s) < z := by
        intro j hj
        rcases Nat.eq_zero_or_pos j with e | e
        · subst e
          rcases Nat.eq_zero_or_pos k with e | e
          · subst e; exact hm
          · exact w4 e
        · exact w3 j e (by omega)
      by_cases hm2 : nI ((sv_rd L A E (k + 1)).2.1 3 s) < z
      · rw [if_pos hm2]
        left
        refine ⟨_, U, ⟨nI_1 k, by omega, u1, fun j h1 h2 => ?_, fun _ => all 0 (by omega), u2⟩, rfl⟩
        rcases Nat.lt_or_ge j (k + 1) with e | e
        · exact all j e
        · have : j = k + 1 := by omega
          rw [this]; exact hm2
      · rw [if_neg hm2]
        right
        exact ⟨i, _, U, rfl, q, Or.inl ⟨k + 1, by omega, hm2, fun j hj hq => hq (all j hj), nI_1 k⟩, u2⟩
    · rw [if_pos (Int32.not_lt.mp hm), if_neg hm]
      right
      have hk0 : k = 0 := by
        rcases Nat.eq_zero_or_pos k with e | e
        · exact e
        · exact absurd (w3 k e (Nat.le_refl k)) hm
      subst hk0
      exact ⟨i, _, W, rfl, q, Or.inl ⟨0, by omega, hm, fun j hj => absurd hj (Nat.not_lt_zero j), rfl⟩, gW⟩
  · rintro x W rec ⟨rfl, hki, w2, w3, w4, gW⟩
    rw [if_pos (Int32.le_refl _), sv_gi (by omega) (by decide), nI_clamp (by omega), md W _ w2]
    by_cases hm : nI ((sv_rd L A E i).2.1 3 s) < z
    · rw [if_pos hm]
      refine ⟨i, _, W, rfl, q, Or.inr ⟨fun j hj hq => hq ?_, rfl⟩, gW⟩
      rcases Nat.eq_zero_or_pos j with e | e
      · subst e
        rcases Nat.eq_zero_or_pos i with e | e
        · subst e; exact hm
        · exact w4 e
      · exact w3 j e hj
    · rw [if_neg hm]
      have hk0 : i = 0 := by
        rcases Nat.eq_zero_or_pos i with e | e
        · exact e
        · exact absurd (w3 i e (Nat.le_refl i)) hm
      refine ⟨i, _, W, rfl, q, Or.inl ⟨0, by omega, ?_, fun j hj => absurd hj (Nat.not_lt_zero j), rfl⟩, gW⟩
      rw [hk0] at hm
      exact hm
theorem e7_firstSilence (N : Nat) (hN : 200 ≤ N) {S : sw_St} {A : sv_A} {L : sv_L} (h : sv_nc S 1 A) (hA : sv_wf A) (hL : sv_lc L S) {o sz : Nat} (ho : 93 ≤ o) (hsz : sz ≤ 60) (hz : S.1 o 2 = nI sz) : ∃ i r V, fX7_firstSilence N o S = some (r, V) ∧ sv_hh (fun j => (S.2 (o + 1) j).toInt32) sz i ∧ sv_f1 (fun k => nI (sv_awb (sv_rd L A (fun j => (S.2 (o + 1) j).toInt32) k)) = 0) i r ∧ sv_ag sv_tq S V := by
  unfold fX7_firstSilence
  have hn := hA.1
  generalize hE : (fun j => (S.2 (o + 1) j).toInt32) = E
  obtain ⟨V, hV, v1, v2⟩ := e7_fresh N h
  have gV : sv_ag sv_tq S V := sv_ag_wk v2 (fun a ha => by unfold sv_tq; omega)
  obtain ⟨i, hi, q⟩ := e5_hours N (by omega) (S := V) (o := o) (sz := sz) hsz (by rw [(gV o (by unfold sv_tq; omega)).1]; exact hz)
  rw [(gV (o + 1) (by unfold sv_tq; omega)).2, hE] at q
  have q' := q
  obtain ⟨q1, q2, -⟩ := q'
  rw [hV, sv_bd, show (decide (sw_kd 29 = 4)) = true from rfl, sv_gt, hi, sv_bd]
  refine sv_fr1 (Q := fun t => ∃ i r V, t = some (r, V) ∧ sv_hh E sz i ∧ sv_f1 (fun k => nI (sv_awb (sv_rd L A E k)) = 0) i r ∧ sv_ag sv_tq S V) (fun k x W => x = nI k ∧ k ≤ i ∧ sv_nc W 29 (sv_rd L A E k) ∧ (∀ j, 1 ≤ j → j ≤ k → ¬ nI (sv_awb (sv_rd L A E j)) = 0) ∧ (1 ≤ k → ¬ nI (sv_awb (sv_rd L A E 0)) = 0) ∧ sv_ag sv_tq S W) i ?_ ?_ N _ V (by omega) ⟨rfl, by omega, v1, fun j h1 h2 => by omega, fun h1 => by omega, gV⟩
  · rintro k x W rec hk ⟨rfl, hki, w2, w3, w4, gW⟩
    rw [if_neg (nI_ge hk (by omega)), e4_awakeSwords N (by omega) w2 (sv_rd_wf hA E k), sv_bd]
    by_cases hm : nI (sv_awb (sv_rd L A E k)) = 0
    · rw [if_pos hm, e4_awakeSwords N (by omega) w2 (sv_rd_wf hA E k), sv_bd, if_pos hm]
      right
      have hk0 : k = 0 := by
        rcases Nat.eq_zero_or_pos k with e | e
        · exact e
        · exact absurd hm (w3 k e (Nat.le_refl k))
      subst hk0
      exact ⟨i, _, W, rfl, q, Or.inl ⟨0, by omega, hm, fun j hj => absurd hj (Nat.not_lt_zero j), rfl⟩, gW⟩
    · rw [if_neg hm]
      rw [← hE] at w2
      obtain ⟨U, b0, hU, u1, u2⟩ := e7_next N hN hL hA ho hsz hz (show k < sz by omega) w2 gW
      rw [hE] at u1
      rw [b0, sv_bd, hU, sv_bd, e4_awakeSwords N (by omega) u1 (sv_rd_wf hA E (k + 1)), sv_bd]
      have all : ∀ j, j < k + 1 → ¬ nI (sv_awb (sv_rd L A E j)) = 0 := by
        intro j hj
        rcases Nat.eq_zero_or_pos j with e | e
        · subst e
          rcases Nat.eq_zero_or_pos k with e | e
          · subst e; exact hm
          · exact w4 e
        · exact w3 j e (by omega)
      by_cases hm2 : nI (sv_awb (sv_rd L A E (k + 1))) = 0
      · rw [if_pos hm2]
        right
        exact ⟨i, _, U, rfl, q, Or.inl ⟨k + 1, by omega, hm2, fun j hj hq => all j hj hq, nI_1 k⟩, u2⟩
      · rw [if_neg hm2]
        left
        refine ⟨_, U, ⟨nI_1 k, by omega, u1, fun j h1 h2 => ?_, fun _ => all 0 (by omega), u2⟩, rfl⟩
        rcases Nat.lt_or_ge j (k + 1) with e | e
        · exact all j e
        · have : j = k + 1 := by omega
          rw [this]; exact hm2
  · rintro x W rec ⟨rfl, hki, w2, w3, w4, gW⟩
    rw [if_pos (Int32.le_refl _), e4_awakeSwords N (by omega) w2 (sv_rd_wf hA E i), sv_bd]
    by_cases hm : nI (sv_awb (sv_rd L A E i)) = 0
    · rw [if_pos hm]
      have hk0 : i = 0 := by
        rcases Nat.eq_zero_or_pos i with e | e
        · exact e
        · exact absurd hm (w3 i e (Nat.le_refl i))
      refine ⟨i, _, W, rfl, q, Or.inl ⟨0, by omega, ?_, fun j hj => absurd hj (Nat.not_lt_zero j), rfl⟩, gW⟩
      rw [hk0] at hm
      exact hm
    · rw [if_neg hm]
      refine ⟨i, _, W, rfl, q, Or.inr ⟨fun j hj hq => ?_, rfl⟩, gW⟩
      rcases Nat.eq_zero_or_pos j with e | e
      · subst e
        rcases Nat.eq_zero_or_pos i with e | e
        · subst e; exact hm hq
        · exact w4 e hq
      · exact w3 j e hj hq
theorem op_cries (N : Nat) (hN : 5000 ≤ N) {S : sw_St} (h : sv_rel S) (x y z : Int32) : sv_ok (fX8_cries N x y z) (fX9_cries N x y z) S := by
  have hs := h
  obtain ⟨A, L, b, h⟩ := h
  have hr := h
  obtain ⟨h1, h2, h3, h4, h5, h6, h7, h8, h9, h10⟩ := h
  unfold sv_ok fX8_cries fX9_cries
  rw [sv_64_0, sv_64_99]
  simp only [e8_isShelf, e8_within, e9_within, e8_isSword N y h2.1, sv_bd, sv_Bi]
  by_cases hx : 0 ≤ x ∧ x ≤ 5
  · obtain ⟨d, hd, rfl⟩ := sv_rg 5 (by decide) hx.1 hx.2
    rw [if_pos hx]
    rcases e_by N h9.1 (show d < 6 by omega) (h10 d (by omega)) with ⟨r, r0, r1, r2, c1, c2⟩ | ⟨sz, hz, c1, c2⟩
    · by_cases hy : 0 ≤ y ∧ y ≤ nI A.1 - 1
      · rw [if_pos hy]
        by_cases hz : 0 ≤ z ∧ z ≤ 99
        · rw [if_pos hz, sv_gi (by omega) (by decide), nI_clamp (by omega), c1, sv_bd, if_neg r0]
          exact ⟨_, S, S, rfl, by rw [c2 S rfl, sv_bd, if_neg r2, e9_isSword N y h3.1, sv_bd, sv_Bi, if_pos hy, if_pos hz, c2 S rfl, sv_bd, if_neg r1, c2 S rfl, sv_bd], hs⟩
        · rw [if_neg hz]
          exact ⟨_, S, S, rfl, by rw [c2 S rfl, sv_bd, if_neg r2, e9_isSword N y h3.1, sv_bd, sv_Bi, if_pos hy, if_neg hz], hs⟩
      · rw [if_neg hy]
        exact ⟨_, S, S, rfl, by rw [c2 S rfl, sv_bd, if_neg r2, e9_isSword N y h3.1, sv_bd, sv_Bi, if_neg hy], hs⟩
    · have n1 : ¬ (1 : Int32) = -1 := by decide
      have p1 : (1 : Int32) ≥ 0 := by decide
      by_cases hy : 0 ≤ y ∧ y ≤ nI A.1 - 1
      · rw [if_pos hy]
        by_cases hzz : 0 ≤ z ∧ z ≤ 99
        · obtain ⟨s, hsn, rfl⟩ := (sv_swI (by have := h1.1; omega) y).mp hy
          have hn10 := h1.1
          rw [if_pos hzz, sv_gi (by omega) (by decide), nI_clamp (by omega), c1, sv_bd, if_pos rfl, sv_gi (by omega) (by decide)]
          obtain ⟨i, r, V, hV, v1, v2, v3⟩ := e7_firstCry N (by omega) h2 h1 h4 (o := 93 + 2 * d) (sz := sz) (by omega) hz.2.1 hz.2.2.2.2.1 hsn z
          generalize hE : (fun j => (S.2 (93 + 2 * d + 1) j).toInt32) = E at *
          have vb : sv_rb V d sz E := by rw [← hE]; exact sv_rb_tq (sv_rb_of (by omega) hz) v3
          have t4 : V.1 124 = S.1 124 := (v3 124 (by unfold sv_tq; omega)).1
          rw [hV, sv_bd]
          have key : ∃ r' U, (sw_fx1 (fun rec1 x4_1 S5 => (sw_bd (fX9_hourMany N (nI d) S5) (fun r5 S6 => (if x4_1 > r5 then (some ((-2 : Int32), S6)) else (sw_bd (fX9_goesRound N (nI d) x4_1 S6) (fun _ S7 => (sw_gd (sw_in (nI s) 10) (if (S7.1 114 (nI s).toNatClampNeg) < z then (rec1 (x4_1 + (1 : Int32)) S7) else (some (x4_1, S7)))))))))) N (0 : Int32) V) = some (r', U) ∧ sv_f1 (fun k => ¬ nI ((sv_rd L A E k).2.1 3 s) < z) i r' ∧ sv_rr sv_rq sv_F V U := by
            have hi24 := v1.1
            refine sv_fr1 (Q := fun t => ∃ r' U, t = some (r', U) ∧ sv_f1 (fun k => ¬ nI ((sv_rd L A E k).2.1 3 s) < z) i r' ∧ sv_rr sv_rq sv_F V U) (fun k x W => x = nI k ∧ k ≤ i + 1 ∧ (∀ j, j < k → nI ((sv_rd L A E j).2.1 3 s) < z) ∧ sv_rr sv_rq sv_F V W) (i + 1) ?_ ?_ N _ V (by omega) ⟨rfl, by omega, fun j hj => absurd hj (Nat.not_lt_zero j), sv_rr_rf⟩
            · rintro k x W rec hk ⟨rfl, hki, w1, gW⟩
              have wb := sv_rb_q vb gW
              obtain ⟨i', hi', q⟩ := e9_hourMany N (by omega) wb.1 wb.2.1 wb.2.2.1 wb.2.2.2
              have := sv_hh_u v1 q
              subst this
              obtain ⟨U, cd, hU, u1, u2⟩ := e9_goesRound N (by omega) (sv_mr_q (sv_mr_tq h3 v3) gW) h1 (sv_lr_q (sv_lr_tq h5 v3) gW) wb v1 (show k ≤ 100 by omega)
              rw [hi', sv_bd, if_neg (show ¬ nI k > nI i from nI_nlt (by omega) (by omega)), hU, sv_bd, sv_gi (by omega) (by decide), nI_clamp (by omega), u1.2.2.2.2.1 s (by rw [sv_rd_n]; exact hsn), Nat.min_eq_left (by omega)]
              by_cases hm : nI ((sv_rd L A E k).2.1 3 s) < z
              · rw [if_pos hm]
                left
                refine ⟨_, U, ⟨nI_1 k, by omega, fun j hj => ?_, sv_rr_tr gW u2⟩, rfl⟩
                rcases Nat.lt_or_ge j k with e | e
                · exact w1 j e
                · have : j = k := by omega
                  rw [this]; exact hm
              · rw [if_neg hm]
                right
                exact ⟨_, U, rfl, Or.inl ⟨k, by omega, hm, fun j hj hq => hq (w1 j hj), rfl⟩, sv_rr_tr gW u2⟩
            · rintro x W rec ⟨rfl, hki, w1, gW⟩
              have wb := sv_rb_q vb gW
              obtain ⟨i', hi', q⟩ := e9_hourMany N (by omega) wb.1 wb.2.1 wb.2.2.1 wb.2.2.2
              have := sv_hh_u v1 q
              subst this
              rw [hi', sv_bd, if_pos (show nI (i + 1) > nI i from nI_lt (by omega) (by omega))]
              exact ⟨_, W, rfl, Or.inr ⟨fun j hj hq => hq (w1 j (by omega)), rfl⟩, gW⟩
          obtain ⟨r', U, hU, u1, u2⟩ := key
          have := sv_f1_u v2 u1
          subst this
          refine ⟨_, V, U, rfl, ?_, sv_rel_tq hr v3 u2⟩
          rw [c2 V t4, sv_bd, if_neg n1, e9_isSword N (nI s) (sv_mr_tq h3 v3).1, sv_bd, sv_Bi, if_pos hy, if_pos hzz, c2 V t4, sv_bd, if_pos p1]
          exact hU
        · rw [if_neg hzz]
          exact ⟨_, S, S, rfl, by rw [c2 S rfl, sv_bd, if_neg n1, e9_isSword N y h3.1, sv_bd, sv_Bi, if_pos hy, if_neg hzz], hs⟩
      · rw [if_neg hy]
        exact ⟨_, S, S, rfl, by rw [c2 S rfl, sv_bd, if_neg n1, e9_isSword N y h3.1, sv_bd, sv_Bi, if_neg hy], hs⟩
  · rw [if_neg hx]
    exact ⟨_, S, S, rfl, by rw [e9_bytesNo N hx, sv_bd, if_pos rfl], hs⟩
theorem op_asleep (N : Nat) (hN : 5000 ≤ N) {S : sw_St} (h : sv_rel S) (x : Int32) : sv_ok (fX8_asleep N x) (fX9_asleep N x) S := by
  have hs := h
  obtain ⟨A, L, b, h⟩ := h
  have hr := h
  obtain ⟨h1, h2, h3, h4, h5, h6, h7, h8, h9, h10⟩ := h
  unfold sv_ok fX8_asleep fX9_asleep
  simp only [e8_isShelf, sv_bd, sv_Bi]
  by_cases hx : 0 ≤ x ∧ x ≤ 5
  · obtain ⟨d, hd, rfl⟩ := sv_rg 5 (by decide) hx.1 hx.2
    rw [if_pos hx, sv_gi (by omega) (by decide), nI_clamp (by omega)]
    rcases e_by N h9.1 (show d < 6 by omega) (h10 d (by omega)) with ⟨r, r0, r1, r2, c1, c2⟩ | ⟨sz, hz, c1, c2⟩
    · rw [c1, sv_bd, if_neg r0]
      exact ⟨_, S, S, rfl, by rw [c2 S rfl, sv_bd, if_neg r1, c2 S rfl, sv_bd], hs⟩
    · have p1 : (1 : Int32) ≥ 0 := by decide
      have hn10 := h1.1
      rw [c1, sv_bd, if_pos rfl, sv_gi (by omega) (by decide)]
      obtain ⟨i, r, V, hV, v1, v2, v3⟩ := e7_firstSilence N (by omega) h2 h1 h4 (o := 93 + 2 * d) (sz := sz) (by omega) hz.2.1 hz.2.2.2.2.1
      generalize hE : (fun j => (S.2 (93 + 2 * d + 1) j).toInt32) = E at *
      have vb : sv_rb V d sz E := by rw [← hE]; exact sv_rb_tq (sv_rb_of (by omega) hz) v3
      have t4 : V.1 124 = S.1 124 := (v3 124 (by unfold sv_tq; omega)).1
      rw [hV, sv_bd]
      have key : ∃ r' U, (sw_fx1 (fun rec1 x2_1 S2 => (sw_bd (fX9_hourMany N (nI d) S2) (fun r2 S3 => (if x2_1 > r2 then (some ((-2 : Int32), S3)) else (sw_bd (fX9_goesRound N (nI d) x2_1 S3) (fun _ S4 => (sw_bd (fX9_awakeSet N S4) (fun r4 S5 => (if r4 = 0 then (some (x2_1, S5)) else (rec1 (x2_1 + (1 : Int32)) S5)))))))))) N (0 : Int32) V) = some (r', U) ∧ sv_f1 (fun k => nI (sv_awb (sv_rd L A E k)) = 0) i r' ∧ sv_rr sv_rq sv_F V U := by
        have hi24 := v1.1
        refine sv_fr1 (Q := fun t => ∃ r' U, t = some (r', U) ∧ sv_f1 (fun k => nI (sv_awb (sv_rd L A E k)) = 0) i r' ∧ sv_rr sv_rq sv_F V U) (fun k x W => x = nI k ∧ k ≤ i + 1 ∧ (∀ j, j < k → ¬ nI (sv_awb (sv_rd L A E j)) = 0) ∧ sv_rr sv_rq sv_F V W) (i + 1) ?_ ?_ N _ V (by omega) ⟨rfl, by omega, fun j hj => absurd hj (Nat.not_lt_zero j), sv_rr_rf⟩
        · rintro k x W rec hk ⟨rfl, hki, w1, gW⟩
          have wb := sv_rb_q vb gW
          obtain ⟨i', hi', q⟩ := e9_hourMany N (by omega) wb.1 wb.2.1 wb.2.2.1 wb.2.2.2
          have := sv_hh_u v1 q
          subst this
          obtain ⟨U, cd, hU, u1, u2⟩ := e9_goesRound N (by omega) (sv_mr_q (sv_mr_tq h3 v3) gW) h1 (sv_lr_q (sv_lr_tq h5 v3) gW) wb v1 (show k ≤ 100 by omega)
          rw [hi', sv_bd, if_neg (show ¬ nI k > nI i from nI_nlt (by omega) (by omega)), hU, sv_bd, e9_awakeSet N (by omega) u1 (sv_rd_wf h1 E _), sv_bd, Nat.min_eq_left (by omega)]
          by_cases hm : nI (sv_awb (sv_rd L A E k)) = 0
          · rw [if_pos hm]
            right
            exact ⟨_, U, rfl, Or.inl ⟨k, by omega, hm, fun j hj hq => w1 j hj hq, rfl⟩, sv_rr_tr gW u2⟩
          · rw [if_neg hm]
            left
            refine ⟨_, U, ⟨nI_1 k, by omega, fun j hj => ?_, sv_rr_tr gW u2⟩, rfl⟩
            rcases Nat.lt_or_ge j k with e | e
            · exact w1 j e
            · have : j = k := by omega
              rw [this]; exact hm
        · rintro x W rec ⟨rfl, hki, w1, gW⟩
          have wb := sv_rb_q vb gW
          obtain ⟨i', hi', q⟩ := e9_hourMany N (by omega) wb.1 wb.2.1 wb.2.2.1 wb.2.2.2
          have := sv_hh_u v1 q
          subst this
          rw [hi', sv_bd, if_pos (show nI (i + 1) > nI i from nI_lt (by omega) (by omega))]
          exact ⟨_, W, rfl, Or.inr ⟨fun j hj hq => w1 j (by omega) hq, rfl⟩, gW⟩
      obtain ⟨r', U, hU, u1, u2⟩ := key
      have := sv_f1_u v2 u1
      subst this
      refine ⟨_, V, U, rfl, ?_, sv_rel_tq hr v3 u2⟩
      rw [c2 V t4, sv_bd, if_pos p1]
      exact hU
  · rw [if_neg hx]
    exact ⟨_, S, S, rfl, by rw [e9_bytesNo N hx, sv_bd, if_neg (by decide), e9_bytesNo N hx, sv_bd], hs⟩
