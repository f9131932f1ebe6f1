/-! drawn: the reference -/
theorem sv_rs_cd {S : sw_St} {A : sv_A} {cd : Int32} (h : sv_rs S A cd) (v : Int32) : sv_rs (sw_si S 105 20 v) A v := by
  obtain ⟨a1, a2, a3, a4, a5, a6, a7⟩ := h
  refine ⟨?_, fun s hs => ?_, ?_, fun c hc => ?_, fun s hs => ?_, ?_, ?_⟩
  · rw [sv_si, if_neg (by omega)]; exact a1
  · rw [sv_si, if_neg (by omega), sv_si, if_neg (by omega), sv_si, if_neg (by omega)]; exact a2 s hs
  · rw [sv_si, if_neg (by omega)]; exact a3
  · rw [sv_si, if_neg (by omega)]; exact a4 c hc
  · rw [sv_si, if_neg (by omega)]; exact a5 s hs
  · rw [sv_si, if_neg (by omega)]; exact a6
  · rw [sv_si, if_pos ⟨rfl, rfl⟩]
theorem sv_rr_cd (S : sw_St) (v : Int32) : sv_rr (fun _ => False) (fun k => k = 20) S (sw_si S 105 20 v) := by
  refine ⟨fun a ha _ => ?_, fun q hq => ?_, rfl⟩
  · exact ⟨by funext q; rw [sv_si, if_neg (fun z => ha z.1)], rfl⟩
  · rw [sv_si, if_neg (fun z => hq z.2)]
theorem e9_drawNights (N : Nat) (hN : 200 ≤ N) {S : sw_St} {A : sv_A} {L : sv_L} (h : sv_mr S A) (hA : sv_wf A) (hL : sv_lr L S) {n g : Nat} (hn : n ≤ 30) (hg : g ≤ 24) (t z p : Int32) (hp : p = -1 ∨ ∃ s, s < A.1 ∧ p = nI s) : ∃ V, (sw_fx3 (fun rec1 x4_1 x5_1 x6_1 S5 => (if x6_1 ≥ nI n then (some (x5_1, S5)) else (sw_bd (fX9_begins N S5) (fun _ S6 => (sw_fx2 (fun rec2 x4_2 x7_1 S7 => (if x7_1 ≥ nI g then (if p ≥ 0 then (sw_gd (sw_in p 10) (sw_li (x5_1 + (S7.1 114 p.toNatClampNeg)) (fun x5_2 => (rec1 x4_2 x5_2 (x6_1 + (1 : Int32)) S7)))) else (sw_bd (fX9_awakeMany N S7) (fun r5 S8 => (sw_li (x5_1 + r5) (fun x5_3 => (rec1 x4_2 x5_3 (x6_1 + (1 : Int32)) S8)))))) else (sw_li ((x4_2 * (1103515245 : Int32)) + (12345 : Int32)) (fun x4_3 => (sw_ls (sw_si S7 105 20 (((x4_3.toUInt32 >>> ((8 : Int32).toUInt32 &&& Int32.toUInt32 31)).toInt32) - ((x4_3.toUInt32 >>> ((8 : Int32).toUInt32 &&& Int32.toUInt32 31)).toInt32) / (12 : Int32) * (12 : Int32))) (fun S9 => (if (((x4_3.toUInt32 >>> ((20 : Int32).toUInt32 &&& Int32.toUInt32 31)).toInt32) - ((x4_3.toUInt32 >>> ((20 : Int32).toUInt32 &&& Int32.toUInt32 31)).toInt32) / (12 : Int32) * (12 : Int32)) ≥ t then (sw_bd (fX9_goesHour N S9) (fun _ S10 => (rec2 x4_3 (x7_1 + (1 : Int32)) S10))) else (sw_bd (fX9_isTouched N (((x4_3.toUInt32 >>> ((16 : Int32).toUInt32 &&& Int32.toUInt32 31)).toInt32) - ((x4_3.toUInt32 >>> ((16 : Int32).toUInt32 &&& Int32.toUInt32 31)).toInt32) / (12 : Int32) * (12 : Int32)) S9) (fun _ S11 => (sw_bd (fX9_goesHour N S11) (fun _ S12 => (rec2 x4_3 (x7_1 + (1 : Int32)) S12)))))))))))) N x4_1 (0 : Int32) S6))))) N z (0 : Int32) (0 : Int32) S) = some ((sv_dg L t A g (sv_dw p) z n).2, V) ∧ sv_rr sv_rq sv_F S V := by
  have h10 := hA.1
  simp only [sv_c8_d, sv_c16_d, sv_nx_d]
  refine sv_fr3 (Q := fun r => ∃ V, r = some ((sv_dg L t A g (sv_dw p) z n).2, V) ∧ sv_rr sv_rq sv_F S V) (fun i a b c W => a = (sv_dg L t A g (sv_dw p) z i).1 ∧ b = (sv_dg L t A g (sv_dw p) z i).2 ∧ c = nI i ∧ sv_rr sv_rq sv_F S W) n ?_ ?_ N _ _ _ S (by omega) ⟨rfl, rfl, rfl, sv_rr_rf⟩
  · rintro i a b c W rec hi ⟨rfl, rfl, rfl, gW⟩
    left
    obtain ⟨X, hX, x1, gX⟩ := e9_beginsq N (by omega) (sv_mr_q h gW) hA
    have gX' : sv_rr sv_rq sv_F S X := sv_rr_tr gW gX
    rw [if_neg (show ¬ nI i ≥ nI n from nI_ge hi (by omega)), hX, sv_bd]
    generalize hz : (sv_dg L t A g (sv_dw p) z i).1 = z1
    have es : sv_dg L t A g (sv_dw p) z (i + 1) = ((sv_dn L t A z1 g).1, (sv_dg L t A g (sv_dw p) z i).2 + sv_dw p (sv_dn L t A z1 g).2) := by rw [← hz]; rfl
    refine sv_fr2 (Q := fun r => ∃ b0 b1 b2 U, (b0 = (sv_dg L t A g (sv_dw p) z (i + 1)).1 ∧ b1 = (sv_dg L t A g (sv_dw p) z (i + 1)).2 ∧ b2 = nI (i + 1) ∧ sv_rr sv_rq sv_F S U) ∧ r = rec b0 b1 b2 U) (fun k a b Y => a = (sv_dn L t A z1 k).1 ∧ b = nI k ∧ (∃ cd, sv_rs Y (sv_dn L t A z1 k).2 cd) ∧ sv_rr sv_rq sv_F S Y) g ?_ ?_ N _ _ X (by omega) ⟨rfl, rfl, ⟨_, x1⟩, gX'⟩
    · rintro k a b Y rec2 hk ⟨rfl, rfl, ⟨cd, y1⟩, gY⟩
      left
      have hwf := sv_dn_wf (L := L) (t := t) hA z1 k
      rw [if_neg (show ¬ nI k ≥ nI g from nI_ge hk (by omega)), sv_li, sv_ls]
      have ey := sv_dn_s L t A z1 k
      generalize hy : sv_nx (sv_dn L t A z1 k).1 = y at ey ⊢
      have y2 := sv_rs_cd y1 (sv_c8 y)
      have gZ : sv_rr sv_rq sv_F S (sw_si Y 105 20 (sv_c8 y)) := sv_rr_tr gY (sv_rr_wk (sv_rr_cd Y (sv_c8 y)) (fun a ha => ha.elim) (fun k hk => sv_F_w (by omega)))
      by_cases q : sv_c20 y ≥ t
      · obtain ⟨U, hU, u1, gU⟩ := e9_goesHour N hN y2 hwf (sv_lr_q hL gZ)
        rw [if_pos (show ((y.toUInt32 >>> ((20 : Int32).toUInt32 &&& Int32.toUInt32 31)).toInt32) - ((y.toUInt32 >>> ((20 : Int32).toUInt32 &&& Int32.toUInt32 31)).toInt32) / (12 : Int32) * (12 : Int32) ≥ t from q), hU, sv_bd]
        refine ⟨_, _, U, ⟨by rw [ey], nI_1 k, ⟨sv_c8 y, ?_⟩, sv_rr_tr gZ (sv_rr_wk gU (fun a ha => by unfold sv_rq; omega) (fun k hk => sv_F_w (by omega)))⟩, rfl⟩
        rw [ey]
        show sv_rs U (sv_dh L t (sv_dn L t A z1 k).2 y) _
        unfold sv_dh
        rw [if_pos q]
        exact u1
      · obtain ⟨f, hf, hc⟩ := sv_c16_n y
        obtain ⟨U1, m, hU1, m1, m2, m3, g1⟩ := e9_isTouched N (by omega) y2 hwf hf
        rw [sv_tm_eq hwf m1] at m2
        have g1' : sv_rr sv_rq sv_F S U1 := sv_rr_tr gZ (sv_rr_wk g1 (fun a ha => by unfold sv_rq; omega) (fun _ h => h.elim))
        obtain ⟨U, hU, u1, gU⟩ := e9_goesHour N hN m2 (sv_tm_wf hwf f) (sv_lr_q hL g1')
        rw [if_neg (show ¬ ((y.toUInt32 >>> ((20 : Int32).toUInt32 &&& Int32.toUInt32 31)).toInt32) - ((y.toUInt32 >>> ((20 : Int32).toUInt32 &&& Int32.toUInt32 31)).toInt32) / (12 : Int32) * (12 : Int32) ≥ t from q), hc, hU1, sv_bd, hU, sv_bd]
        refine ⟨_, _, U, ⟨by rw [ey], nI_1 k, ⟨sv_c8 y, ?_⟩, sv_rr_tr g1' (sv_rr_wk gU (fun a ha => by unfold sv_rq; omega) (fun k hk => sv_F_w (by omega)))⟩, rfl⟩
        rw [ey]
        show sv_rs U (sv_dh L t (sv_dn L t A z1 k).2 y) _
        unfold sv_dh
        rw [if_neg q, hc, nI_clamp (by omega)]
        exact u1
    · rintro a b Y rec2 ⟨rfl, rfl, ⟨cd, y1⟩, gY⟩
      have hwf := sv_dn_wf (L := L) (t := t) hA z1 g
      rw [if_pos (show nI g ≥ nI g from Int32.le_refl _)]
      rcases hp with rfl | ⟨s, hs, rfl⟩
      · rw [if_neg (show ¬ ((-1 : Int32) ≥ 0) by decide), e9_awakeMany N (by omega) y1 hwf, sv_bd, sv_li]
        refine ⟨_, _, _, Y, ⟨by rw [es], ?_, nI_1 i, gY⟩, rfl⟩
        rw [es]
        show _ = _ + (if (-1 : Int32) ≥ 0 then _ else _)
        rw [if_neg (show ¬ ((-1 : Int32) ≥ 0) by decide)]
      · have p0 : nI s ≥ (0 : Int32) := nI_pos' (by omega)
        rw [if_pos p0, sv_gi (by omega) (by decide), nI_clamp (by omega), y1.2.2.2.2.1 s (by rw [sv_dn_n]; exact hs), sv_li]
        refine ⟨_, _, _, Y, ⟨by rw [es], ?_, nI_1 i, gY⟩, rfl⟩
        rw [es]
        show _ = _ + (if nI s ≥ 0 then nI ((sv_dn L t A z1 g).2.2.1 3 (nI s).toNatClampNeg) else _)
        rw [if_pos p0, nI_clamp (by omega)]
  · rintro a b c W rec ⟨rfl, rfl, rfl, gW⟩
    rw [if_pos (show nI n ≥ nI n from Int32.le_refl _)]
    exact ⟨W, rfl, gW⟩
theorem sv_neg_d {x : Int32} (h : x < 0) : ¬ (1 ≤ x / 10000) := by
  intro z
  have h1 := Int32.lt_iff_toInt_lt.mp h
  have h2 := Int32.le_iff_toInt_le.mp z
  have e0 : (0 : Int32).toInt = 0 := rfl
  have e1 : (1 : Int32).toInt = 1 := rfl
  have e2 : (10000 : Int32).toInt = 10000 := rfl
  rw [Int32.toInt_div_of_ne_right _ _ (by decide)] at h2
  rw [e0] at h1
  rw [e1, e2] at h2
  have q := Int.tdiv_nonneg (show 0 ≤ -x.toInt by omega) (show (0 : Int) ≤ 10000 by decide)
  rw [Int.neg_tdiv] at q
  omega
theorem op_drawn (N : Nat) (hN : 5000 ≤ N) {S : sw_St} (h : sv_rel S) (x y p : Int32) : sv_ok (fX8_drawn N x y p) (fX9_drawn N x y p) S := by
  have hs := h
  obtain ⟨A, L, b, h⟩ := h
  have hr := h
  obtain ⟨h1, h2, h3, h4, h5, h6, h7, h8, h9, h10⟩ := h
  have hn := h1.1
  unfold sv_ok fX8_drawn
  have e1 : ∀ T : sw_St, fX9_within N ((y / (10000 : Int32)).toInt64) (1 : Int64) (30 : Int64) T = some (sv_B (1 ≤ y / 10000 ∧ y / 10000 ≤ 30), T) := fun T => e9_within N _ 1 30 T
  have e2 : ∀ T : sw_St, fX9_within N (((y / (100 : Int32)) - (y / (100 : Int32)) / (100 : Int32) * (100 : Int32)).toInt64) (1 : Int64) (24 : Int64) T = some (sv_B (1 ≤ (y / (100 : Int32)) - (y / (100 : Int32)) / (100 : Int32) * (100 : Int32) ∧ (y / (100 : Int32)) - (y / (100 : Int32)) / (100 : Int32) * (100 : Int32) ≤ 24), T) := fun T => e9_within N _ 1 24 T
  have e3 : ∀ T : sw_St, fX9_within N ((y - y / (100 : Int32) * (100 : Int32)).toInt64) (0 : Int64) (12 : Int64) T = some (sv_B (0 ≤ y - y / (100 : Int32) * (100 : Int32) ∧ y - y / (100 : Int32) * (100 : Int32) ≤ 12), T) := fun T => e9_within N _ 0 12 T
  rw [sv_li, sv_li, sv_li, e8_within, sv_bd, sv_Bi]
  by_cases hy : y < 0
  · rw [if_neg (fun z => sv_neg_d hy z.1)]
    refine ⟨_, S, S, rfl, ?_, hs⟩
    unfold fX9_drawn
    rw [if_pos hy]
  · have e0 : ∀ T : sw_St, ∃ r, fX9_drawn N x y p T = r := fun T => ⟨_, rfl⟩
    by_cases w1 : 1 ≤ y / 10000 ∧ y / 10000 ≤ 30
    · rw [if_pos w1, e8_within, sv_bd, sv_Bi]
      by_cases w2 : 1 ≤ (y / (100 : Int32)) - (y / (100 : Int32)) / (100 : Int32) * (100 : Int32) ∧ (y / (100 : Int32)) - (y / (100 : Int32)) / (100 : Int32) * (100 : Int32) ≤ 24
      · rw [if_pos w2, e8_within, sv_bd, sv_Bi]
        by_cases w3 : 0 ≤ y - y / (100 : Int32) * (100 : Int32) ∧ y - y / (100 : Int32) * (100 : Int32) ≤ 12
        · rw [if_pos w3]
          have run : (p = -1 ∨ ∃ s, s < A.1 ∧ p = nI s) → ∃ r V W, fX7_drawNights N x (y / (10000 : Int32)) ((y / (100 : Int32)) - (y / (100 : Int32)) / (100 : Int32) * (100 : Int32)) (y - y / (100 : Int32) * (100 : Int32)) p S = some (r, V) ∧ fX9_drawn N x y p V = some (r, W) ∧ sv_rel W := by
            intro hp
            obtain ⟨n, hn30, en⟩ := sv_rg 30 (by decide) (Int32.le_trans (by decide) w1.1) w1.2
            obtain ⟨g, hg24, eg⟩ := sv_rg 24 (by decide) (Int32.le_trans (by decide) w2.1) w2.2
            generalize ht : y - y / (100 : Int32) * (100 : Int32) = t
            obtain ⟨V, hV, gV⟩ := e7_drawNights N (by omega) h2 h1 h4 hn30 hg24 t x p hp
            obtain ⟨W, hW, gW⟩ := e9_drawNights N (by omega) (sv_mr_tq h3 gV) h1 (sv_lr_tq h5 gV) hn30 hg24 t x p hp
            refine ⟨_, V, W, by rw [en, eg]; exact hV, ?_, sv_rel_tq hr gV gW⟩
            unfold fX9_drawn
            rw [if_neg hy, e1, sv_bd, sv_Bi, if_pos w1, e2, sv_bd, sv_Bi, if_pos w2, e3, sv_bd, sv_Bi, if_pos w3, sv_jn0, en, eg, ht]
            have eS : fX9_isSword N p.toInt64 V = some (sv_B (0 ≤ p ∧ p ≤ nI A.1 - 1), V) := e9_isSword N p (sv_mr_tq h3 gV).1
            by_cases hp1 : p = -1
            · rw [if_pos hp1]
              exact hW
            · have hsw : ∃ s, s < A.1 ∧ p = nI s := hp.resolve_left hp1
              rw [if_neg hp1, eS, sv_bd, sv_Bi, if_pos ((sv_swI (by omega) _).mpr hsw)]
              exact hW
          by_cases hp1 : p = -1
          · obtain ⟨r, V, W, r1, r2, r3⟩ := run (Or.inl hp1)
            rw [if_pos hp1, r1, sv_bd]
            exact ⟨r, V, W, rfl, r2, r3⟩
          · rw [if_neg hp1, e8_isSword N _ h2.1, sv_bd, sv_Bi]
            by_cases hsw : 0 ≤ p ∧ p ≤ nI A.1 - 1
            · obtain ⟨r, V, W, r1, r2, r3⟩ := run (Or.inr ((sv_swI (by omega) _).mp hsw))
              rw [if_pos hsw, r1, sv_bd]
              exact ⟨r, V, W, rfl, r2, r3⟩
            · rw [if_neg hsw]
              refine ⟨_, S, S, rfl, ?_, hs⟩
              unfold fX9_drawn
              rw [if_neg hy, e1, sv_bd, sv_Bi, if_pos w1, e2, sv_bd, sv_Bi, if_pos w2, e3, sv_bd, sv_Bi, if_pos w3, sv_jn0, if_neg hp1, e9_isSword N p h3.1, sv_bd, sv_Bi, if_neg hsw]
        · rw [if_neg w3]
          refine ⟨_, S, S, rfl, ?_, hs⟩
          unfold fX9_drawn
          rw [if_neg hy, e1, sv_bd, sv_Bi, if_pos w1, e2, sv_bd, sv_Bi, if_pos w2, e3, sv_bd, sv_Bi, if_neg w3]
      · rw [if_neg w2]
        refine ⟨_, S, S, rfl, ?_, hs⟩
        unfold fX9_drawn
        rw [if_neg hy, e1, sv_bd, sv_Bi, if_pos w1, e2, sv_bd, sv_Bi, if_neg w2]
    · rw [if_neg w1]
      refine ⟨_, S, S, rfl, ?_, hs⟩
      unfold fX9_drawn
      rw [if_neg hy, e1, sv_bd, sv_Bi, if_neg w1]
