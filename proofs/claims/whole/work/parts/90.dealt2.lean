/-! dealt -/
def sv_dq (S : sw_St) (D : (Nat × Nat) × Int32) : Prop := sv_bq S 0 (D.1.1, D.1.2, fun _ => 0) ∧ S.1 23 5 = D.2
theorem sv_dq_ag {P : Nat → Prop} {S T : sw_St} {D : (Nat × Nat) × Int32} (h : sv_dq S D) (g : sv_ag P S T) (h1 : ¬ P 23) (h2 : ¬ P 24) : sv_dq T D := ⟨sv_bq_ag h.1 g h1 h2, by rw [(g 23 h1).1]; exact h.2⟩
theorem sv_bq_new {S : sw_St} {A : sv_A} (hA : sv_wf A) : sv_bq (sw_si (sw_si S 23 0 (nI (sv_na A))) 23 1 (nI (sv_sum (A.2.1 3) A.1))) 0 (sv_na A, sv_sum (A.2.1 3) A.1, fun _ => 0) := by
  have n1 := sv_na_le A
  have n2 := sv_sm9 hA
  exact ⟨by rw [sv_si, if_neg (by omega), sv_si, if_pos ⟨rfl, rfl⟩], by rw [sv_si, if_pos ⟨rfl, rfl⟩], by dsimp only; omega, by dsimp only; omega, fun _ i hi => absurd hi (Nat.not_lt_zero i)⟩
theorem e7_deal (N : Nat) (hN : 200 ≤ N) {S : sw_St} {A : sv_A} {L : sv_L} (h : sv_nc S 1 A) (hA : sv_wf A) (hL : sv_lc L S) : ∃ V, fX7_deal N S = some ((), V) ∧ sv_dq V (sv_dl2 L A 12) ∧ sv_ag sv_tw S V := by
  unfold fX7_deal fX7_forgetBest
  rw [sv_ls, sv_ls, sv_bd]
  generalize hT : sw_si (sw_si S 23 0 (1000000 : Int32)) 23 1 (1000000 : Int32) = T
  have gT : sv_ag (fun a => a = 23) S T := by rw [← hT]; exact sv_ag_tr (sv_ag_si S 23 0 _ rfl) (sv_ag_si _ 23 1 _ rfl)
  have bT : sv_bq T 0 (1000000, 1000000, fun _ => 0) := ⟨by rw [← hT, sv_si, if_neg (by omega), sv_si, if_pos ⟨rfl, rfl⟩]; rfl, by rw [← hT, sv_si, if_pos ⟨rfl, rfl⟩]; rfl, Nat.le_refl _, Nat.le_refl _, fun z => absurd rfl z⟩
  obtain ⟨U, hU, u1, gU⟩ := e7_fresh N (sv_nc_ag h gT (fun k hk => by omega))
  rw [hU, sv_bd, show (decide (sw_kd 29 = 4)) = true from rfl, sv_gt]
  have gSU : sv_ag sv_tw S U := sv_ag_tr (sv_ag_wk gT (fun a ha => by unfold sv_tw; omega)) (sv_ag_wk gU (fun a ha => by unfold sv_tw; omega))
  have lcof : ∀ {W : sw_St}, sv_ag sv_tw S W → sv_lc L W := fun g => sv_lc_ag hL g (by unfold sv_tw; omega) (by unfold sv_tw; omega) (by unfold sv_tw; omega)
  obtain ⟨X, hX, x1, gX⟩ := e4_passHour N hN (o := 29) (by unfold sv_nights; omega) u1 hA (lcof gSU) (-1)
  have bX : sv_bq X 0 (1000000, 1000000, fun _ => 0) := sv_bq_ag (sv_bq_ag bT gU (by omega) (by omega)) gX (by omega) (by omega)
  have hw1 := sv_hr_wf (L := L) (light := -1) hA
  have n1 := sv_na_le (sv_hr L A (-1))
  rw [hX, sv_bd, (e7_isBetter N (by omega) x1 hw1 bX).1 (Or.inl (by show sv_na _ < 1000000; omega)), sv_bd, sv_ls]
  generalize hY : sw_si (sw_si (sw_si X 23 0 (nI (sv_na (sv_hr L A (-1))))) 23 1 (nI (sv_sum ((sv_hr L A (-1)).2.1 3) (sv_hr L A (-1)).1))) 23 5 (-9 : Int32) = Y
  have gXY : sv_ag (fun a => a = 23) X Y := by rw [← hY]; exact sv_ag_tr (sv_ag_si _ 23 0 _ rfl) (sv_ag_tr (sv_ag_si _ 23 1 _ rfl) (sv_ag_si _ 23 5 _ rfl))
  have dY : sv_dq Y (sv_dl2 L A 0) := by
    refine ⟨?_, by rw [← hY, sv_si, if_pos ⟨rfl, rfl⟩]; rfl⟩
    have := sv_bq_new (S := X) hw1
    unfold sv_bq at *
    rw [← hY, sv_si, if_neg (by omega), sv_si, if_neg (by omega)]
    refine ⟨this.1, this.2.1, this.2.2.1, this.2.2.2.1, fun _ i hi => absurd hi (Nat.not_lt_zero i)⟩
  have gSY : sv_ag sv_tw S Y := sv_ag_tr gSU (sv_ag_tr (sv_ag_wk gX (fun a ha => by unfold sv_tw; omega)) (sv_ag_wk gXY (fun a ha => by unfold sv_tw; omega)))
  refine sv_fr1 (Q := fun r => ∃ V, r = some ((), V) ∧ sv_dq V (sv_dl2 L A 12) ∧ sv_ag sv_tw S V) (fun a x W => x = nI a ∧ sv_dq W (sv_dl2 L A a) ∧ sv_ag sv_tw S W) 12 ?_ ?_ N _ Y (by omega) ⟨rfl, dY, gSY⟩
  · rintro a x W rec ha ⟨rfl, w1, gW⟩
    left
    rw [if_neg (show ¬ nI a ≥ (12 : Int32) from nI_ge (b := 12) ha (by decide)), sv_li, nI_1]
    refine sv_fr1 (Q := fun r => ∃ b0 T, (b0 = nI (a + 1) ∧ sv_dq T (sv_dl2 L A (a + 1)) ∧ sv_ag sv_tw S T) ∧ r = rec b0 T) (fun k x W => x = nI (a + 1 + k) ∧ sv_dq W (sv_dl1 L A a k (sv_dl2 L A a)) ∧ sv_ag sv_tw S W) (11 - a) ?_ ?_ N _ W (by omega) ⟨rfl, w1, gW⟩
    · rintro k x Z rec2 hk ⟨rfl, z1, gZ⟩
      left
      have hb : a + 1 + k < 12 := by omega
      obtain ⟨P, hP, p1, gP⟩ := e4_become N (o := 29) (by omega) (sv_nc_ag h gZ (fun k hk => by unfold sv_tw; omega))
      obtain ⟨R, hR, r1, gR⟩ := e4_changeCots N p1 hA ha hb (by omega)
      have gPR : sv_ag (fun q => 29 ≤ q ∧ q ≤ 35) Z R := sv_ag_tr (sv_ag_wk gP (fun a ha => by omega)) (sv_ag_wk gR (fun a ha => by omega))
      have gSR : sv_ag sv_tw S R := sv_ag_tr gZ (sv_ag_wk gPR (fun a ha => by unfold sv_tw; omega))
      have hw2 := sv_sp_wf hA ha hb
      obtain ⟨Q, hQ, q1, gQ⟩ := e4_passHour N hN (o := 29) (by unfold sv_nights; omega) r1 hw2 (lcof gSR) (-1)
      have gSQ : sv_ag sv_tw S Q := sv_ag_tr gSR (sv_ag_wk gQ (fun a ha => by unfold sv_tw; omega))
      have hw3 := sv_hr_wf (L := L) (light := -1) hw2
      have dQ : sv_dq Q (sv_dl1 L A a k (sv_dl2 L A a)) := sv_dq_ag (sv_dq_ag z1 gPR (by omega) (by omega)) gQ (by omega) (by omega)
      obtain ⟨i1, i2⟩ := e7_isBetter N (by omega) q1 hw3 dQ.1
      rw [if_neg (show ¬ nI (a + 1 + k) ≥ (12 : Int32) from nI_ge (b := 12) hb (by decide)), hP, sv_bd, hR, sv_bd, hQ, sv_bd]
      by_cases hbt : sv_bt (sv_hr L (sv_ex A a (a + 1 + k)) (-1)) ((sv_dl1 L A a k (sv_dl2 L A a)).1.1, (sv_dl1 L A a k (sv_dl2 L A a)).1.2, fun _ => 0)
      · have ed : sv_dl1 L A a (k + 1) (sv_dl2 L A a) = ((sv_na (sv_hr L (sv_ex A a (a + 1 + k)) (-1)), sv_sum ((sv_hr L (sv_ex A a (a + 1 + k)) (-1)).2.1 3) (sv_hr L (sv_ex A a (a + 1 + k)) (-1)).1), nI (12 * a + (a + 1 + k))) := by
          show (if _ then _ else _) = _
          rw [if_pos hbt]
        rw [i1 hbt, sv_bd, if_neg sv_nz, show (12 : Int32) * nI a = nI (12 * a) from pk_mul 12 a, nI_add, sv_ls, nI_1]
        refine ⟨_, _, ⟨rfl, ?_, sv_ag_tr gSQ (sv_ag_tr (sv_ag_si _ 23 0 _ (by unfold sv_tw; omega)) (sv_ag_tr (sv_ag_si _ 23 1 _ (by unfold sv_tw; omega)) (sv_ag_si _ 23 5 _ (by unfold sv_tw; omega))))⟩, rfl⟩
        rw [ed]
        refine ⟨?_, by rw [sv_si, if_pos ⟨rfl, rfl⟩]⟩
        have := sv_bq_new (S := Q) hw3
        unfold sv_bq at *
        rw [sv_si, if_neg (by omega), sv_si, if_neg (by omega)]
        exact ⟨this.1, this.2.1, this.2.2.1, this.2.2.2.1, fun _ i hi => absurd hi (Nat.not_lt_zero i)⟩
      · have ed : sv_dl1 L A a (k + 1) (sv_dl2 L A a) = sv_dl1 L A a k (sv_dl2 L A a) := by
          show (if _ then _ else _) = _
          rw [if_neg hbt]
        rw [i2 hbt, sv_bd, if_pos rfl, sv_ls, nI_1]
        refine ⟨_, _, ⟨rfl, ?_, sv_ag_tr gSQ (sv_ag_si _ 23 5 _ (by unfold sv_tw; omega))⟩, rfl⟩
        rw [ed]
        refine ⟨?_, by rw [sv_si, if_pos ⟨rfl, rfl⟩]; exact dQ.2⟩
        have := dQ.1
        unfold sv_bq at *
        rw [sv_si, if_neg (by omega), sv_si, if_neg (by omega)]
        exact ⟨this.1, this.2.1, this.2.2.1, this.2.2.2.1, fun _ i hi => absurd hi (Nat.not_lt_zero i)⟩
    · rintro x Z rec2 ⟨rfl, z1, gZ⟩
      rw [if_pos (show nI (a + 1 + (11 - a)) ≥ (12 : Int32) by rw [show a + 1 + (11 - a) = 12 by omega]; exact Int32.le_refl _)]
      exact ⟨_, Z, ⟨rfl, z1, gZ⟩, rfl⟩
  · rintro x W rec ⟨rfl, w1, gW⟩
    rw [if_pos (show nI 12 ≥ (12 : Int32) from Int32.le_refl _)]
    exact ⟨W, rfl, w1, gW⟩
/-- the reference: an hour without a candle with two cots changed -/
theorem e9_dealt (N : Nat) (hN : 200 ≤ N) {S : sw_St} {A : sv_A} {L : sv_L} (h : sv_mr S A) (hA : sv_wf A) (hL : sv_lr L S) (p : Int32) (hp : 0 ≤ p ∧ p ≤ 1) : ∃ V, fX9_dealt N p S = some (if p = 0 then nI (sv_dl2 L A 12).1.1 else (sv_dl2 L A 12).2, V) ∧ sv_rr sv_rq sv_F S V := by
  unfold fX9_dealt
  rw [show fX9_within N p.toInt64 (0 : Int64) (1 : Int64) S = _ from e9_within N p 0 1 S, sv_bd, sv_Bi, if_pos hp]
  have hour : ∀ {X : sw_St} {B : sv_A}, sv_wf B → sv_rs X B (-1) → sv_rr sv_rq sv_F S X → ∃ U, fX9_goesHour N X = some ((), U) ∧ sv_rs U (sv_hr L B (-1)) (-1) ∧ sv_rr sv_rq sv_F S U := by
    intro X B hB x1 gX
    obtain ⟨U, hU, u1, gU⟩ := e9_goesHour N hN x1 hB (sv_lr_q hL gX)
    exact ⟨U, hU, u1, sv_rr_tr gX (sv_rr_wk gU (fun a ha => by unfold sv_rq; omega) (fun k hk => sv_F_w (by omega)))⟩
  have cand : ∀ {X : sw_St}, sv_rr sv_rq sv_F S X → sv_rr sv_rq sv_F S (sw_si X 105 20 (-1)) := fun {X} gX => sv_rr_tr gX (sv_rr_wk (sv_rr_cd X (-1)) (fun a ha => ha.elim) (fun k hk => sv_F_w (by omega)))
  obtain ⟨X, hX, x1, gX⟩ := e9_beginsq N (by omega) h hA
  obtain ⟨U, hU, u1, gU⟩ := hour hA (sv_rs_cd x1 (-1)) (cand gX)
  have hw1 := sv_hr_wf (L := L) (light := -1) hA
  rw [hX, sv_bd, sv_ls, hU, sv_bd, e9_awakeMany N (by omega) u1 hw1, sv_bd, e9_mindAll N (by omega) u1 hw1, sv_bd]
  refine sv_fr4 (Q := fun r => ∃ V, r = some (if p = 0 then nI (sv_dl2 L A 12).1.1 else (sv_dl2 L A 12).2, V) ∧ sv_rr sv_rq sv_F S V) (fun a x y z w W => x = (sv_dl2 L A a).2 ∧ y = nI (sv_dl2 L A a).1.1 ∧ z = nI (sv_dl2 L A a).1.2 ∧ w = nI a ∧ sv_rr sv_rq sv_F S W) 12 ?_ ?_ N _ _ _ _ U (by omega) ⟨rfl, rfl, rfl, rfl, gU⟩
  · rintro a x y z w W rec ha ⟨rfl, rfl, rfl, rfl, gW⟩
    left
    obtain ⟨d1, d2⟩ := sv_dl2_b (L := L) hA a (by omega)
    rw [if_neg (show ¬ nI a ≥ (12 : Int32) from nI_ge (b := 12) ha (by decide)), sv_li, nI_1]
    refine sv_fr4 (Q := fun r => ∃ b0 b1 b2 b3 T, (b0 = (sv_dl2 L A (a + 1)).2 ∧ b1 = nI (sv_dl2 L A (a + 1)).1.1 ∧ b2 = nI (sv_dl2 L A (a + 1)).1.2 ∧ b3 = nI (a + 1) ∧ sv_rr sv_rq sv_F S T) ∧ r = rec b0 b1 b2 b3 T) (fun k x y z w W => x = (sv_dl1 L A a k (sv_dl2 L A a)).2 ∧ y = nI (sv_dl1 L A a k (sv_dl2 L A a)).1.1 ∧ z = nI (sv_dl1 L A a k (sv_dl2 L A a)).1.2 ∧ w = nI (a + 1 + k) ∧ sv_rr sv_rq sv_F S W) (11 - a) ?_ ?_ N _ _ _ _ W (by omega) ⟨rfl, rfl, rfl, rfl, gW⟩
    · rintro k x y z w Z rec2 hk ⟨rfl, rfl, rfl, rfl, gZ⟩
      left
      have hb : a + 1 + k < 12 := by omega
      obtain ⟨b1, b2⟩ := sv_dl1_b (L := L) hA ha d1 d2 k (by omega)
      obtain ⟨P, hP, p1, gP⟩ := e9_beginsq N (by omega) (sv_mr_q h gZ) hA
      have p2 := sv_rs_cd p1 (-1)
      have gP2 := cand (sv_rr_tr gZ gP)
      rw [if_neg (show ¬ nI (a + 1 + k) ≥ (12 : Int32) from nI_ge (b := 12) hb (by decide)), hP, sv_bd, sv_ls]
      generalize hP2 : sw_si P 105 20 (-1 : Int32) = P2 at p2 gP2 ⊢
      rw [sv_gi ha (by decide), sv_li, sv_gi hb (by decide), sv_gi ha (by decide), sv_ls, sv_gi hb (by decide), sv_ls, nI_clamp (by omega), nI_clamp (by omega)]
      have r1 := sv_rs_sp p2 hA ha hb (show a ≠ a + 1 + k by omega)
      have gR : sv_rr sv_rq sv_F S (sw_si (sw_si P2 113 a (P2.1 113 (a + 1 + k))) 113 (a + 1 + k) (P2.1 113 a)) := sv_rr_tr gP2 (sv_rr_tr (sv_rr_si _ 113 _ _ (by decide) (by unfold sv_rq; omega)) (sv_rr_si _ 113 _ _ (by decide) (by unfold sv_rq; omega)))
      have hw2 := sv_sp_wf hA ha hb
      obtain ⟨Q, hQ, q1, gQ⟩ := hour hw2 r1 gR
      have hw3 := sv_hr_wf (L := L) (light := -1) hw2
      have n1 := sv_na_le (sv_hr L (sv_ex A a (a + 1 + k)) (-1))
      have n2 := sv_sm9 hw3
      have eAM := e9_awakeMany N (by omega) q1 hw3
      have eMA := e9_mindAll N (by omega) q1 hw3
      have ed : sv_dl1 L A a (k + 1) (sv_dl2 L A a) = if sv_bt (sv_hr L (sv_ex A a (a + 1 + k)) (-1)) ((sv_dl1 L A a k (sv_dl2 L A a)).1.1, (sv_dl1 L A a k (sv_dl2 L A a)).1.2, fun _ => 0) then ((sv_na (sv_hr L (sv_ex A a (a + 1 + k)) (-1)), sv_sum ((sv_hr L (sv_ex A a (a + 1 + k)) (-1)).2.1 3) (sv_hr L (sv_ex A a (a + 1 + k)) (-1)).1), nI (12 * a + (a + 1 + k))) else sv_dl1 L A a k (sv_dl2 L A a) := rfl
      rw [hQ, sv_bd, eAM, sv_bd, show (12 : Int32) * nI a = nI (12 * a) from pk_mul 12 a, nI_add, nI_1, eAM, sv_bd]
      generalize sv_dl1 L A a k (sv_dl2 L A a) = D at ed b1 b2 ⊢
      generalize hAA : sv_hr L (sv_ex A a (a + 1 + k)) (-1) = AA at *
      rcases Nat.lt_trichotomy (sv_na AA) D.1.1 with q | q | q
      · rw [if_pos (show nI (sv_na AA) < nI D.1.1 from Int32.not_le.mp (fun z => by have := (nI_leI (by omega) (by omega)).mp z; omega)), eMA, sv_bd, sv_li]
        rw [if_pos (Or.inl q)] at ed
        exact ⟨_, _, _, _, Q, ⟨by rw [ed], by rw [ed], by rw [ed], rfl, gQ⟩, rfl⟩
      · rw [if_neg (show ¬ nI (sv_na AA) < nI D.1.1 from Int32.not_lt.mpr ((nI_leI (by omega) (by omega)).mpr (by omega))), sv_bd, if_pos (show nI (sv_na AA) = nI D.1.1 by rw [q]), eMA, sv_bd]
        by_cases r : sv_sum (AA.2.1 3) AA.1 < D.1.2
        · rw [if_neg (show ¬ nI (sv_sum (AA.2.1 3) AA.1) ≥ nI D.1.2 from fun z => by have := (nI_leI (by omega) (by omega)).mp z; omega), eAM, sv_bd, eMA, sv_bd, sv_li]
          rw [if_pos (Or.inr ⟨q, r⟩)] at ed
          exact ⟨_, _, _, _, Q, ⟨by rw [ed], by rw [ed], by rw [ed], rfl, gQ⟩, rfl⟩
        · rw [if_pos (show nI (sv_sum (AA.2.1 3) AA.1) ≥ nI D.1.2 from (nI_leI (by omega) (by omega)).mpr (by omega))]
          rw [if_neg (by unfold sv_bt; dsimp only; omega)] at ed
          exact ⟨_, _, _, _, Q, ⟨by rw [ed], by rw [ed], by rw [ed], rfl, gQ⟩, rfl⟩
      · rw [if_neg (show ¬ nI (sv_na AA) < nI D.1.1 from Int32.not_lt.mpr ((nI_leI (by omega) (by omega)).mpr (by omega))), sv_bd, if_neg (show ¬ nI (sv_na AA) = nI D.1.1 from fun z => by have := (nI_eq (by omega) (by omega)).mp z; omega)]
        rw [if_neg (by unfold sv_bt; dsimp only; omega)] at ed
        exact ⟨_, _, _, _, Q, ⟨by rw [ed], by rw [ed], by rw [ed], rfl, gQ⟩, rfl⟩
    · rintro x y z w Z rec2 ⟨rfl, rfl, rfl, rfl, gZ⟩
      rw [if_pos (show nI (a + 1 + (11 - a)) ≥ (12 : Int32) by rw [show a + 1 + (11 - a) = 12 by omega]; exact Int32.le_refl _)]
      exact ⟨_, _, _, _, Z, ⟨rfl, rfl, rfl, rfl, gZ⟩, rfl⟩
  · rintro x y z w W rec ⟨ex, ey, ez, ew, gW⟩
    rw [ew, if_pos (show nI 12 ≥ (12 : Int32) from Int32.le_refl _)]
    refine ⟨W, ?_, gW⟩
    by_cases p0 : p = 0
    · rw [if_pos p0, if_pos p0, ey]
    · rw [if_neg p0, if_neg p0, ex]
theorem op_dealt (N : Nat) (hN : 5000 ≤ N) {S : sw_St} (h : sv_rel S) (x : Int32) : sv_ok (fX8_dealt N x) (fX9_dealt N x) S := by
  have hs := h
  obtain ⟨A, L, b, h⟩ := h
  have hr := h
  obtain ⟨h1, h2, h3, h4, h5, h6, h7, h8, h9, h10⟩ := h
  unfold sv_ok fX8_dealt
  rw [e8_within, sv_bd, sv_Bi]
  by_cases hx : 0 ≤ x ∧ x ≤ 1
  · obtain ⟨V, hV, v1, gV⟩ := e7_deal N (by omega) h2 h1 h4
    obtain ⟨W, hW, gW⟩ := e9_dealt N (by omega) (sv_mr_tw h3 gV) h1 (sv_lr_tw h5 gV) x hx
    rw [if_pos hx, hV, sv_bd]
    refine ⟨_, V, W, ?_, hW, sv_rel_tw hr gV gW⟩
    by_cases p0 : x = 0
    · rw [if_pos p0, if_pos p0, v1.1.1]
    · rw [if_neg p0, if_neg p0, v1.2]
  · rw [if_neg hx]
    refine ⟨_, S, S, rfl, ?_, hs⟩
    unfold fX9_dealt
    rw [show fX9_within N x.toInt64 (0 : Int64) (1 : Int64) S = _ from e9_within N x 0 1 S, sv_bd, sv_Bi, if_neg hx]
