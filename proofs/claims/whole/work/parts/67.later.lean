/-! later, awake, cries, asleep -/
theorem e_by (N : Nat) {S : sw_St} {b d : Nat} (hb : b ≤ 50) (hd : d < 6) (h : sv_s1 S b d) : (∃ r : Int32, ¬ r = 0 ∧ ¬ r ≥ 0 ∧ ¬ r = -1 ∧ fX8_refusalOfBytes N (93 + 2 * d) S = some (r, S) ∧ ∀ T : sw_St, T.1 124 = S.1 124 → fX9_bytesIs N (nI d) T = some (r, T)) ∨ (∃ sz : Nat, sv_s2 S d 0 sz ∧ fX8_refusalOfBytes N (93 + 2 * d) S = some (0, S) ∧ ∀ T : sw_St, T.1 124 = S.1 124 → fX9_bytesIs N (nI d) T = some (1, T)) := by
  have hx : (0 : Int32) ≤ nI d ∧ nI d ≤ 5 := (sv_rgI (m := 5) (by omega) (by decide)).mpr (by omega)
  unfold fX8_refusalOfBytes fX9_bytesIs fX5_holdsBytes
  simp only [e9_isShelf, sv_bd, sv_Bi, e5_holdsNothing]
  simp only [if_pos hx, sv_gi hd (show 6 < 2 ^ 31 by decide), nI_clamp (show d < 2 ^ 31 by omega)]
  rcases sv_s1_cs hb h with ⟨k4, k5⟩ | ⟨k4, w, hw, k5, k6, k7, k8⟩ | ⟨k4, so, sz, hk, k7, k8⟩
  · left
    exact ⟨-11, by decide, by decide, by decide, by rw [if_pos k4], fun T t => by rw [t, if_neg (Int32.not_le.mpr k5)]⟩
  · left
    refine ⟨-12, by decide, by decide, by decide, by rw [if_neg (by rw [k4]; decide), if_neg (by rw [k4]; decide)]; rfl, fun T t => ?_⟩
    rw [t, if_pos k7, if_neg (show ¬ S.1 124 d = (50 : Int32) from fun e => absurd k8 (by rw [e]; decide))]
  · have hk' := hk
    obtain ⟨q1, q2, q3, q4, -⟩ := hk'
    by_cases h0 : so = 0
    · subst h0
      right
      refine ⟨sz, hk, ?_, fun T t => ?_⟩
      · rw [if_neg (by rw [k4]; decide), if_pos k4, q4, if_pos (show nI 0 = 0 from rfl)]; rfl
      · rw [t, if_pos k7, q3, if_pos (show nI (50 + 0) = (50 : Int32) from rfl)]
    · left
      refine ⟨-12, by decide, by decide, by decide, ?_, fun T t => ?_⟩
      · rw [if_neg (by rw [k4]; decide), if_pos k4, q4, if_neg (nI_ne0 (by omega) (by omega))]; rfl
      · rw [t, if_pos k7, q3, if_neg (show ¬ nI (50 + so) = (50 : Int32) by rw [show (50 : Int32) = nI 50 from rfl, nI_eq (by omega) (by decide)]; omega)]
theorem e9_bytesNo (N : Nat) {x : Int32} (hx : ¬ (0 ≤ x ∧ x ≤ 5)) (S : sw_St) : fX9_bytesIs N x S = some (-1, S) := by
  unfold fX9_bytesIs
  rw [e9_isShelf, sv_bd, sv_Bi, if_neg hx]
/-- what the reference may write when it thinks -/
def sv_rq (a : Nat) : Prop := 112 ≤ a ∧ a ≤ 118
theorem sv_rq_same {S T : sw_St} (h : sv_rr sv_rq sv_F S T) : sv_same S T := sv_same_rr h (fun a ha => by unfold sv_rq at ha; unfold sv_P; omega) (fun k hk => hk)
theorem sv_F_w {k : Nat} (h : (11 ≤ k ∧ k ≤ 15) ∨ k = 19 ∨ k = 20 ∨ k = 25 ∨ k = 26 ∨ k = 36 ∨ k = 37) : sv_F k := h
theorem sv_mr_q {S T : sw_St} {A : sv_A} (h : sv_mr S A) (g : sv_rr sv_rq sv_F S T) : sv_mr T A := sv_mr_eq h (g.1 106 (by decide) (by unfold sv_rq; omega)).1 (g.2.1 6 (by unfold sv_F; omega))
theorem sv_lr_q {S T : sw_St} {L : sv_L} (h : sv_lr L S) (g : sv_rr sv_rq sv_F S T) : sv_lr L T := sv_lr_of h (g.2.1 10 (by unfold sv_F; omega)) (g.1 111 (by decide) (by unfold sv_rq; omega)).1
/-- begins, as a thought -/
theorem e9_beginsq (N : Nat) (hN : 20 ≤ N) {S : sw_St} {A : sv_A} (h : sv_mr S A) (hA : sv_wf A) : ∃ U, fX9_begins N S = some ((), U) ∧ sv_rs U A (nI (A.2.2 2)) ∧ sv_rr sv_rq sv_F S U := by
  obtain ⟨U, hU, u1, u2, u3⟩ := e9_begins N hN h hA
  exact ⟨U, hU, u1, sv_rr_wk u3 (fun a ha => by unfold sv_rq; omega) (fun k hk => by unfold sv_F; omega)⟩
/-- the candle at cd, then an hour -/
theorem e9_hourAt (N : Nat) (hN : 200 ≤ N) {S : sw_St} {A : sv_A} {c0 : Int32} {L : sv_L} (h : sv_rs S A c0) (hA : sv_wf A) (hL : sv_lr L S) (cd : Int32) : ∃ U, fX9_goesHour N (sw_si S 105 20 cd) = some ((), U) ∧ sv_rs U (sv_hr L A cd) cd ∧ sv_rr sv_rq sv_F S U := by
  have h' : sv_rs (sw_si S 105 20 cd) A cd := by
    obtain ⟨q1, q2, q3, q4, q5, q6, q7⟩ := h
    exact ⟨q1, q2, q3, q4, q5, q6, rfl⟩
  obtain ⟨U, hU, u1, u2⟩ := e9_goesHour N hN h' hA (sv_lr_of hL rfl rfl)
  exact ⟨U, hU, u1, sv_rr_tr (sv_rr_sf S 20 _ (by unfold sv_F; omega)) (sv_rr_wk u2 (fun a ha => by unfold sv_rq; omega) (fun k hk => by unfold sv_F; omega))⟩
/-- a row of bytes, as the reference holds it -/
def sv_rb (S : sw_St) (d sz : Nat) (E : Nat → Int32) : Prop := d < 6 ∧ sz ≤ 60 ∧ S.1 125 d = nI sz ∧ ∀ j, j < 60 → S.2 126 (60 * d + j) = (E j).toInt64
theorem sv_rb_q {S T : sw_St} {d sz : Nat} {E : Nat → Int32} (h : sv_rb S d sz E) (g : sv_rr sv_rq sv_F S T) : sv_rb T d sz E := by
  obtain ⟨a, b, c, e⟩ := h
  refine ⟨a, b, ?_, ?_⟩
  · rw [(g.1 125 (by decide) (by unfold sv_rq; omega)).1]; exact c
  · rw [(g.1 126 (by decide) (by unfold sv_rq; omega)).2]; exact e
theorem e9_goesRound (N : Nat) (hN : 200 ≤ N) {S : sw_St} {A : sv_A} {L : sv_L} (h : sv_mr S A) (hA : sv_wf A) (hL : sv_lr L S) {d n sz i : Nat} {E : Nat → Int32} (hb : sv_rb S d sz E) (hi : sv_hh E sz i) (hn : n ≤ 100) : ∃ U cd, fX9_goesRound N (nI d) (nI n) S = some ((), U) ∧ sv_rs U (sv_rd L A E (min n i)) cd ∧ sv_rr sv_rq sv_F S U := by
  unfold fX9_goesRound
  obtain ⟨V, hV, v1, v2⟩ := e9_beginsq N (by omega) h hA
  have vb := sv_rb_q hb v2
  obtain ⟨i', hi', q⟩ := e9_hourMany N (by omega) vb.1 vb.2.1 vb.2.2.1 vb.2.2.2
  have := sv_hh_u hi q
  subst this
  obtain ⟨q1, q2, -⟩ := hi
  have hsz := hb.2.1
  rw [hV, sv_bd, hi', sv_bd]
  refine sv_fr1 (Q := fun t => ∃ U cd, t = some ((), U) ∧ sv_rs U (sv_rd L A E (min n i)) cd ∧ sv_rr sv_rq sv_F S U) (fun k x W => x = nI k ∧ (∃ cd, sv_rs W (sv_rd L A E k) cd) ∧ sv_rr sv_rq sv_F S W) (min n i) ?_ ?_ N _ V (by omega) ⟨rfl, ⟨_, v1⟩, v2⟩
  · rintro k x W rec hk ⟨rfl, ⟨cd, w2⟩, gW⟩
    left
    have wb := sv_rb_q hb gW
    have hd := hb.1
    rw [if_neg (nI_ge (show k < n by omega) (by omega)), if_neg (nI_ge (show k < i by omega) (by omega))]
    unfold fX9_goesNext
    rw [show (60 : Int32) * nI d = nI (60 * d) from pk_mul 60 d, nI_add, sv_gi (by omega) (by decide), nI_clamp (by omega), wb.2.2.2 k (by omega), sv_6432, sv_ls]
    obtain ⟨U, hU, u1, u2⟩ := e9_hourAt N hN w2 (sv_rd_wf hA E k) (sv_lr_q hL gW) (E k)
    rw [hU, sv_bd, sv_bd]
    exact ⟨_, U, ⟨nI_1 k, ⟨_, u1⟩, sv_rr_tr gW u2⟩, rfl⟩
  · rintro x W rec ⟨rfl, ⟨cd, w2⟩, gW⟩
    refine ⟨W, cd, ?_, w2, gW⟩
    by_cases hq : n ≤ i
    · rw [Nat.min_eq_left hq, if_pos (Int32.le_refl _)]
    · rw [Nat.min_eq_right (by omega), if_neg (nI_ge (by omega) (by omega)), if_pos (Int32.le_refl _)]
theorem sv_rb_of {S : sw_St} {d sz : Nat} (hd : d < 6) (h : sv_s2 S d 0 sz) : sv_rb S d sz (fun j => (S.2 (93 + 2 * d + 1) j).toInt32) := by
  obtain ⟨q1, q2, q3, q4, q5, q6, q7, q8⟩ := h
  refine ⟨hd, q2, q6, fun j hj => ?_⟩
  obtain ⟨x, e, -⟩ := q8 rfl j hj
  rw [q7 j hj]
  show _ = ((S.2 (93 + 2 * d + 1) j).toInt32).toInt64
  rw [e, sv_6432]
theorem sv_rb_tq {S T : sw_St} {d sz : Nat} {E : Nat → Int32} (h : sv_rb S d sz E) (g : sv_ag sv_tq S T) : sv_rb T d sz E := by
  obtain ⟨a, b, c, e⟩ := h
  refine ⟨a, b, ?_, ?_⟩
  · rw [(g 125 (by unfold sv_tq; omega)).1]; exact c
  · rw [(g 126 (by unfold sv_tq; omega)).2]; exact e
theorem sv_mr_tq {S T : sw_St} {A : sv_A} (h : sv_mr S A) (g : sv_ag sv_tq S T) : sv_mr T A := sv_mr_eq h (g 106 (by unfold sv_tq; omega)).1 (by rw [(g 105 (by unfold sv_tq; omega)).1])
theorem sv_lr_tq {S T : sw_St} {L : sv_L} (h : sv_lr L S) (g : sv_ag sv_tq S T) : sv_lr L T := sv_lr_of h (by rw [(g 105 (by unfold sv_tq; omega)).1]) (g 111 (by unfold sv_tq; omega)).1
theorem sv_rel_tq {S T U : sw_St} {A : sv_A} {L : sv_L} {b : Nat} (h : sv_rl S A L b) (g : sv_ag sv_tq S T) (g2 : sv_rr sv_rq sv_F T U) : sv_rel U := ⟨A, L, b, sv_rl_same h (sv_same_tr (sv_tq_same g) (sv_rq_same g2))⟩
theorem op_later (N : Nat) (hN : 5000 ≤ N) {S : sw_St} (h : sv_rel S) (x y z : Int32) : sv_ok (fX8_later N x y z) (fX9_later N x y z) S := by
  have hs := h
  obtain ⟨A, L, b, h⟩ := h
  have hr := h
  obtain ⟨h1, h2, h3, h4, h5, h6, h7, h8, h9, h10⟩ := h
  unfold sv_ok fX8_later fX9_later
  rw [sv_64_0, sv_64_24]
  simp only [e8_isShelf, e8_within, e9_within, e8_isSword N z h2.1, sv_bd, sv_Bi]
  by_cases hx : 0 ≤ x ∧ x ≤ 5
  · obtain ⟨d, hd, rfl⟩ := sv_rg 5 (by decide) hx.1 hx.2
    rw [if_pos hx]
    rcases e_by N h9.1 (show d < 6 by omega) (h10 d (by omega)) with ⟨r, r0, r1, r2, c1, c2⟩ | ⟨sz, hz, c1, c2⟩
    · by_cases hy : 0 ≤ y ∧ y ≤ 24
      · rw [if_pos hy]
        by_cases hz : 0 ≤ z ∧ z ≤ nI A.1 - 1
        · rw [if_pos hz, sv_gi (by omega) (by decide), nI_clamp (by omega), c1, sv_bd, if_neg r0]
          exact ⟨_, S, S, rfl, by rw [c2 S rfl, sv_bd, if_neg r2, if_pos hy, e9_isSword N z h3.1, sv_bd, sv_Bi, if_pos hz, c2 S rfl, sv_bd, if_neg r1, c2 S rfl, sv_bd], hs⟩
        · rw [if_neg hz]
          exact ⟨_, S, S, rfl, by rw [c2 S rfl, sv_bd, if_neg r2, if_pos hy, e9_isSword N z h3.1, sv_bd, sv_Bi, if_neg hz], hs⟩
      · rw [if_neg hy]
        exact ⟨_, S, S, rfl, by rw [c2 S rfl, sv_bd, if_neg r2, if_neg hy], hs⟩
    · have n1 : ¬ (1 : Int32) = -1 := by decide
      have p1 : (1 : Int32) ≥ 0 := by decide
      by_cases hy : 0 ≤ y ∧ y ≤ 24
      · rw [if_pos hy]
        by_cases hzz : 0 ≤ z ∧ z ≤ nI A.1 - 1
        · obtain ⟨n, hn, rfl⟩ := sv_rg 24 (by decide) hy.1 hy.2
          obtain ⟨s, hsn, rfl⟩ := (sv_swI (by have := h1.1; omega) z).mp hzz
          have hn10 := h1.1
          rw [if_pos hzz, sv_gi (by omega) (by decide), nI_clamp (by omega), c1, sv_bd, if_pos rfl, sv_gi (by omega) (by decide)]
          obtain ⟨i, V, hV, v1, v2, v3⟩ := e7_behind N (by omega) h2 h1 h4 (o := 93 + 2 * d) (n := n) (sz := sz) (by omega) hz.2.1 hz.2.2.2.2.1 hn
          obtain ⟨U, cd, hU, u1, u2⟩ := e9_goesRound N (by omega) (sv_mr_tq h3 v3) h1 (sv_lr_tq h5 v3) (sv_rb_tq (sv_rb_of (by omega) hz) v3) v1 (show n ≤ 100 by omega)
          rw [hV, sv_bd, show (decide (sw_kd 29 = 4)) = true from rfl, sv_gt, sv_gi (by omega) (by decide), nI_clamp (by omega)]
          have e1 : V.1 (29 + 4) s = nI ((sv_rd L A (fun j => (S.2 (93 + 2 * d + 1) j).toInt32) (min n i)).2.1 3 s) := v2.2.1 3 s (by decide) (by omega)
          refine ⟨_, V, U, rfl, ?_, sv_rel_tq hr v3 u2⟩
          have t4 : V.1 124 = S.1 124 := (v3 124 (by unfold sv_tq; omega)).1
          rw [c2 V t4, sv_bd, if_neg n1, if_pos hy, e9_isSword N (nI s) (sv_mr_tq h3 v3).1, sv_bd, sv_Bi, if_pos hzz, c2 V t4, sv_bd, if_pos p1, hU, sv_bd, sv_gi (by omega) (by decide), u1.2.2.2.2.1 s (by rw [sv_rd_n]; exact hsn), e1]
        · rw [if_neg hzz]
          exact ⟨_, S, S, rfl, by rw [c2 S rfl, sv_bd, if_neg n1, if_pos hy, e9_isSword N z h3.1, sv_bd, sv_Bi, if_neg hzz], hs⟩
      · rw [if_neg hy]
        exact ⟨_, S, S, rfl, by rw [c2 S rfl, sv_bd, if_neg n1, if_neg hy], hs⟩
  · rw [if_neg hx]
    exact ⟨_, S, S, rfl, by rw [e9_bytesNo N hx, sv_bd, if_pos rfl], hs⟩
theorem op_awake (N : Nat) (hN : 5000 ≤ N) {S : sw_St} (h : sv_rel S) (x y z : Int32) : sv_ok (fX8_awake N x y z) (fX9_awake N x y z) S := by
  have hs := h
  obtain ⟨A, L, b, h⟩ := h
  have hr := h
  obtain ⟨h1, h2, h3, h4, h5, h6, h7, h8, h9, h10⟩ := h
  unfold sv_ok fX8_awake fX9_awake
  rw [sv_64_0, sv_64_24, sv_64_1]
  simp only [e8_isShelf, e8_within, e9_within, sv_bd, sv_Bi]
  by_cases hx : 0 ≤ x ∧ x ≤ 5
  · obtain ⟨d, hd, rfl⟩ := sv_rg 5 (by decide) hx.1 hx.2
    rw [if_pos hx]
    rcases e_by N h9.1 (show d < 6 by omega) (h10 d (by omega)) with ⟨r, r0, r1, r2, c1, c2⟩ | ⟨sz, hz, c1, c2⟩
    · by_cases hy : 0 ≤ y ∧ y ≤ 24
      · rw [if_pos hy]
        by_cases hz : 0 ≤ z ∧ z ≤ 1
        · rw [if_pos hz, sv_gi (by omega) (by decide), nI_clamp (by omega), c1, sv_bd, if_neg r0]
          exact ⟨_, S, S, rfl, by rw [c2 S rfl, sv_bd, if_neg r2, if_pos hy, if_pos hz, c2 S rfl, sv_bd, if_neg r1, c2 S rfl, sv_bd], hs⟩
        · rw [if_neg hz]
          exact ⟨_, S, S, rfl, by rw [c2 S rfl, sv_bd, if_neg r2, if_pos hy, if_neg hz], hs⟩
      · rw [if_neg hy]
        exact ⟨_, S, S, rfl, by rw [c2 S rfl, sv_bd, if_neg r2, if_neg hy], hs⟩
    · have n1 : ¬ (1 : Int32) = -1 := by decide
      have p1 : (1 : Int32) ≥ 0 := by decide
      by_cases hy : 0 ≤ y ∧ y ≤ 24
      · rw [if_pos hy]
        by_cases hzz : 0 ≤ z ∧ z ≤ 1
        · obtain ⟨n, hn, rfl⟩ := sv_rg 24 (by decide) hy.1 hy.2
          have hn10 := h1.1
          rw [if_pos hzz, sv_gi (by omega) (by decide), nI_clamp (by omega), c1, sv_bd, if_pos rfl, sv_gi (by omega) (by decide)]
          obtain ⟨i, V, hV, v1, v2, v3⟩ := e7_behind N (by omega) h2 h1 h4 (o := 93 + 2 * d) (n := n) (sz := sz) (by omega) hz.2.1 hz.2.2.2.2.1 hn
          obtain ⟨U, cd, hU, u1, u2⟩ := e9_goesRound N (by omega) (sv_mr_tq h3 v3) h1 (sv_lr_tq h5 v3) (sv_rb_tq (sv_rb_of (by omega) hz) v3) v1 (show n ≤ 100 by omega)
          rw [hV, sv_bd, show (decide (sw_kd 29 = 4)) = true from rfl, sv_gt]
          have t4 : V.1 124 = S.1 124 := (v3 124 (by unfold sv_tq; omega)).1
          have hw := sv_rd_wf (L := L) h1 (fun j => (S.2 (93 + 2 * d + 1) j).toInt32) (min n i)
          by_cases hz0 : z = 0
          · rw [if_pos hz0, e4_awakeSwords N (by omega) v2 hw, sv_bd]
            refine ⟨_, V, U, rfl, ?_, sv_rel_tq hr v3 u2⟩
            rw [c2 V t4, sv_bd, if_neg n1, if_pos hy, if_pos hzz, c2 V t4, sv_bd, if_pos p1, hU, sv_bd, if_pos hz0, e9_awakeSet N (by omega) u1 hw, sv_bd]
          · rw [if_neg hz0, e4_mindOfAll N (by omega) v2 hw, sv_bd]
            refine ⟨_, V, U, rfl, ?_, sv_rel_tq hr v3 u2⟩
            rw [c2 V t4, sv_bd, if_neg n1, if_pos hy, if_pos hzz, c2 V t4, sv_bd, if_pos p1, hU, sv_bd, if_neg hz0, e9_mindAll N (by omega) u1 hw, sv_bd]
        · rw [if_neg hzz]
          exact ⟨_, S, S, rfl, by rw [c2 S rfl, sv_bd, if_neg n1, if_pos hy, if_neg hzz], hs⟩
      · rw [if_neg hy]
        exact ⟨_, S, S, rfl, by rw [c2 S rfl, sv_bd, if_neg n1, if_neg hy], hs⟩
  · rw [if_neg hx]
    exact ⟨_, S, S, rfl, by rw [e9_bytesNo N hx, sv_bd, if_pos rfl], hs⟩
