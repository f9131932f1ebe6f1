/-! bestRound: the reference's tries -/
theorem sv_rd_cg {L : sv_L} {A : sv_A} {E F : Nat → Int32} : ∀ i, (∀ k, k < i → E k = F k) → sv_rd L A E i = sv_rd L A F i
  | 0, _ => rfl
  | i + 1, h => by
    show sv_hr L (sv_rd L A E i) (E i) = sv_hr L (sv_rd L A F i) (F i)
    rw [sv_rd_cg i (fun k hk => h k (by omega)), h i (by omega)]
def sv_bz (S : sw_St) (n : Nat) (B : sv_be) : Prop := S.1 105 25 = nI B.1 ∧ S.1 105 26 = nI B.2.1 ∧ B.1 ≤ 1000000 ∧ B.2.1 ≤ 1000000 ∧ (B.1 ≠ 1000000 → ∀ i, i < n → S.1 118 i = nI (B.2.2 i))
theorem sv_bz_rr {P F : Nat → Prop} {S T : sw_St} {n : Nat} {B : sv_be} (h : sv_bz S n B) (g : sv_rr P F S T) (h1 : ¬ F 25) (h2 : ¬ F 26) (h3 : ¬ P 118) : sv_bz T n B := by
  unfold sv_bz
  rw [g.2.1 25 h1, g.2.1 26 h2, (g.1 118 (by decide) h3).1]
  exact h
/-- what the reference's tries may change -/
abbrev sv_tP (a : Nat) : Prop := (112 ≤ a ∧ a ≤ 115) ∨ a = 117 ∨ a = 118
abbrev sv_tF (k : Nat) : Prop := (11 ≤ k ∧ k ≤ 15) ∨ k = 19 ∨ k = 20 ∨ k = 25 ∨ k = 26
theorem e9_tries (N : Nat) (hN : 200 ≤ N) (L : sv_L) (n : Nat) (hn : n ≤ 3) (A : sv_A) (hA : sv_wf A) : ∀ (j l : Nat), l + j = n → ∀ (m : Nat), j ≤ m → ∀ (S : sw_St) (cs : Nat → Nat) (B : sv_be), sv_mr S A → sv_lr L S → (∀ i, i < l → S.1 117 i = nI (cs i)) → sv_bz S n B → ∃ V, fG_6 N (m + 1) 0 (nI l) (nI n) 0 0 S = some ((), V) ∧ sv_bz V n (sv_tr L j l (sv_rd L A (fun i => nI (cs i)) l) cs B) ∧ (∀ i, i < l → V.1 117 i = S.1 117 i) ∧ sv_rr sv_tP sv_tF S V := by
  intro j
  induction j with
  | zero =>
    intro l hl m hm S cs B h hL hcs hB
    have hln : l = n := by omega
    subst hln
    show ∃ V, gX9_triesRound N (fG_6 N m) (nI l) (nI l) S = some ((), V) ∧ _
    unfold gX9_triesRound
    obtain ⟨U, hU, u1, u2, gU⟩ := e9_begins N (by omega) h hA
    rw [if_pos rfl, hU, sv_bd]
    let E : Nat → Int32 := fun i => nI (cs i)
    let R : sv_be := sv_tr L 0 l (sv_rd L A E l) cs B
    refine sv_fr1 (Q := fun r => ∃ V, r = some ((), V) ∧ sv_bz V l R ∧ (∀ i, i < l → V.1 117 i = S.1 117 i) ∧ sv_rr sv_tP sv_tF S V) (fun k x W => x = nI k ∧ (∃ cd, sv_rs W (sv_rd L A E k) cd) ∧ sv_rr (fun a => 112 ≤ a ∧ a ≤ 115) (fun k => (11 ≤ k ∧ k ≤ 15) ∨ k = 19 ∨ k = 20) S W) l ?_ ?_ N _ U (by omega) ⟨rfl, ⟨_, u1⟩, sv_rr_wk gU (fun a ha => by omega) (fun k hk => by omega)⟩
    · rintro k x W rec hk ⟨rfl, ⟨cd, w1⟩, gW⟩
      left
      have e7 : W.1 117 k = nI (cs k) := by rw [(gW.1 117 (by decide) (by omega)).1]; exact hcs k hk
      rw [if_neg (show ¬ nI k ≥ nI l from nI_ge hk (by omega)), sv_gi (by omega) (by decide), nI_clamp (by omega), e7, sv_ls]
      have hwf := sv_rd_wf (L := L) hA E k
      have gX : sv_rr (fun _ => False) (fun k => k = 20) W (sw_si W 105 20 (nI (cs k))) := by
        refine ⟨fun a ha _ => ?_, fun q hq => ?_, rfl⟩
        · exact ⟨by funext q; rw [sv_si, if_neg (fun z => ha z.1)], rfl⟩
        · rw [sv_si, if_neg (fun z => hq z.2)]
      have w2 : sv_rs (sw_si W 105 20 (nI (cs k))) (sv_rd L A E k) (nI (cs k)) := by
        obtain ⟨a1, a2, a3, a4, a5, a6, a7⟩ := w1
        refine ⟨?_, fun s hs => ?_, ?_, fun c hc => ?_, fun s hs => ?_, ?_, ?_⟩
        · rw [sv_si, if_neg (by omega)]; exact a1
        · rw [sv_si, if_neg (by omega), sv_si, if_neg (by omega), sv_si, if_neg (by omega)]; exact a2 s hs
        · rw [sv_si, if_neg (by omega)]; exact a3
        · rw [sv_si, if_neg (by omega)]; exact a4 c hc
        · rw [sv_si, if_neg (by omega)]; exact a5 s hs
        · rw [sv_si, if_neg (by omega)]; exact a6
        · rw [sv_si, if_pos ⟨rfl, rfl⟩]
      obtain ⟨Y, hY, y1, gY⟩ := e9_goesHour N hN w2 hwf (sv_lr_rr (sv_lr_rr hL gW (by omega) (by omega)) gX (fun z => z) (by omega))
      rw [hY, sv_bd]
      exact ⟨_, Y, ⟨nI_1 k, ⟨_, y1⟩, sv_rr_tr gW (sv_rr_tr (sv_rr_wk gX (fun a ha => ha.elim) (fun q hq => by omega)) (sv_rr_wk gY (fun a ha => by omega) (fun q hq => by omega)))⟩, rfl⟩
    · rintro x W rec ⟨rfl, ⟨cd, w1⟩, gW⟩
      have hwf := sv_rd_wf (L := L) hA E l
      have wB : sv_bz W l B := sv_bz_rr hB gW (by omega) (by omega) (by omega)
      obtain ⟨b1, b2, b3, b4, b5⟩ := wB
      have wcs : ∀ i, i < l → W.1 117 i = nI (cs i) := fun i hi => by rw [(gW.1 117 (by decide) (by omega)).1]; exact hcs i hi
      have n1 := sv_na_le (sv_rd L A E l)
      have n2 := sv_sm9 hwf
      show ∃ V, _ = some ((), V) ∧ sv_bz V l (if sv_bt (sv_rd L A E l) B then (sv_na (sv_rd L A E l), sv_sum ((sv_rd L A E l).2.1 3) (sv_rd L A E l).1, cs) else B) ∧ _
      generalize hAA : sv_rd L A E l = AA at *
      rw [if_pos (show nI l ≥ nI l from Int32.le_refl _), e9_awakeMany N (by omega) w1 hwf, sv_bd, sv_jn0, e9_awakeMany N (by omega) w1 hwf, sv_bd, b1]
      -- what is kept
      have keep : sv_bt AA B → ∃ V, (sw_bd (fX9_awakeMany N W) (fun r4 S8 => (sw_ls (sw_si S8 105 25 r4) (fun S9 => (sw_bd (fX9_mindAll N S9) (fun r5 S10 => (sw_ls (sw_si S10 105 26 r5) (fun S11 => (sw_fx1 (fun rec3 x3_3 S12 => (if x3_3 ≥ nI l then (some ((), S12)) else (sw_gd (sw_in x3_3 4) (sw_gd (sw_in x3_3 3) (sw_ls (sw_si S12 118 x3_3.toNatClampNeg (S12.1 117 x3_3.toNatClampNeg)) (fun S13 => (rec3 (x3_3 + (1 : Int32)) S13))))))) N (0 : Int32) S11))))))))) = some ((), V) ∧ sv_bz V l (if sv_bt AA B then (sv_na AA, sv_sum (AA.2.1 3) AA.1, cs) else B) ∧ (∀ i, i < l → V.1 117 i = S.1 117 i) ∧ sv_rr sv_tP sv_tF S V := by
        intro hb
        rw [if_pos hb, e9_awakeMany N (by omega) w1 hwf, sv_bd, sv_ls]
        generalize hX : sw_si W 105 25 (nI (sv_na AA)) = X
        have gX : sv_rr (fun _ => False) (fun k => k = 25) W X := by
          rw [← hX]
          refine ⟨fun a ha _ => ?_, fun q hq => ?_, rfl⟩
          · exact ⟨by funext q; rw [sv_si, if_neg (fun z => ha z.1)], rfl⟩
          · rw [sv_si, if_neg (fun z => hq z.2)]
        rw [e9_mindAll N (by omega) (sv_rs_rr w1 gX (fun z => z) (fun z => z) (fun z => z) (by omega) (by omega) (by omega)) hwf, sv_bd, sv_ls]
        generalize hY : sw_si X 105 26 (nI (sv_sum (AA.2.1 3) AA.1)) = Y
        have gY : sv_rr (fun _ => False) (fun k => k = 26) X Y := by
          rw [← hY]
          refine ⟨fun a ha _ => ?_, fun q hq => ?_, rfl⟩
          · exact ⟨by funext q; rw [sv_si, if_neg (fun z => ha z.1)], rfl⟩
          · rw [sv_si, if_neg (fun z => hq z.2)]
        have gWY : sv_rr sv_tP sv_tF S Y := sv_rr_tr (sv_rr_wk gW (fun a ha => Or.inl ha) (fun k hk => by unfold sv_tF; omega)) (sv_rr_tr (sv_rr_wk gX (fun a ha => ha.elim) (fun k hk => by unfold sv_tF; omega)) (sv_rr_wk gY (fun a ha => ha.elim) (fun k hk => by unfold sv_tF; omega)))
        have y7 : ∀ i, i < l → Y.1 117 i = nI (cs i) := fun i hi => by rw [(gY.1 117 (by decide) (fun z => z)).1, (gX.1 117 (by decide) (fun z => z)).1]; exact wcs i hi
        have y25 : Y.1 105 25 = nI (sv_na AA) := by rw [gY.2.1 25 (by omega), ← hX, sv_si, if_pos ⟨rfl, rfl⟩]
        have y26 : Y.1 105 26 = nI (sv_sum (AA.2.1 3) AA.1) := by rw [← hY, sv_si, if_pos ⟨rfl, rfl⟩]
        refine sv_fr1 (Q := fun r => ∃ V, r = some ((), V) ∧ sv_bz V l (sv_na AA, sv_sum (AA.2.1 3) AA.1, cs) ∧ (∀ i, i < l → V.1 117 i = S.1 117 i) ∧ sv_rr sv_tP sv_tF S V) (fun k x Z => x = nI k ∧ (∀ i, i < k → Z.1 118 i = nI (cs i)) ∧ sv_rr (fun a => a = 118) (fun _ => False) Y Z) l ?_ ?_ N _ Y (by omega) ⟨rfl, fun i hi => absurd hi (Nat.not_lt_zero i), sv_rr_rf⟩
        · rintro k x Z rec3 hk ⟨rfl, z1, gZ⟩
          left
          rw [if_neg (show ¬ nI k ≥ nI l from nI_ge hk (by omega)), sv_gi (by omega) (by decide), sv_gi (by omega) (by decide), nI_clamp (by omega), sv_ls]
          refine ⟨_, _, ⟨nI_1 k, fun i hi => ?_, sv_rr_tr gZ (sv_rr_si Z 118 k _ (by decide) rfl)⟩, rfl⟩
          rw [sv_si]
          by_cases e : i = k
          · rw [if_pos ⟨rfl, e⟩, (gZ.1 117 (by decide) (by decide)).1, e]; exact y7 k hk
          · rw [if_neg (fun z => e z.2)]; exact z1 i (by omega)
        · rintro x Z rec3 ⟨rfl, z1, gZ⟩
          rw [if_pos (show nI l ≥ nI l from Int32.le_refl _)]
          refine ⟨Z, rfl, ⟨by rw [gZ.2.1 25 (fun z => z)]; exact y25, by rw [gZ.2.1 26 (fun z => z)]; exact y26, by dsimp only; omega, by dsimp only; omega, fun _ i hi => z1 i hi⟩, fun i hi => ?_, sv_rr_tr gWY (sv_rr_wk gZ (fun a ha => by unfold sv_tP; omega) (fun _ h => h.elim))⟩
          rw [(gZ.1 117 (by decide) (by decide)).1, y7 i hi]
          exact (hcs i hi).symm
      have skip : ¬ sv_bt AA B → ∃ V, some ((), W) = some ((), V) ∧ sv_bz V l (if sv_bt AA B then (sv_na AA, sv_sum (AA.2.1 3) AA.1, cs) else B) ∧ (∀ i, i < l → V.1 117 i = S.1 117 i) ∧ sv_rr sv_tP sv_tF S V := by
        intro hb
        rw [if_neg hb]
        exact ⟨W, rfl, ⟨b1, b2, b3, b4, b5⟩, fun i hi => by rw [wcs i hi]; exact (hcs i hi).symm, sv_rr_wk gW (fun a ha => Or.inl ha) (fun k hk => by unfold sv_tF; omega)⟩
      rcases Nat.lt_trichotomy (sv_na AA) B.1 with q | q | q
      · rw [if_pos (show nI (sv_na AA) < nI B.1 from Int32.not_le.mp (fun z => by have := (nI_leI (by omega) (by omega)).mp z; omega))]
        exact keep (Or.inl q)
      · rw [if_neg (show ¬ nI (sv_na AA) < nI B.1 from Int32.not_lt.mpr ((nI_leI (by omega) (by omega)).mpr (by omega))), if_pos (show nI (sv_na AA) = nI B.1 by rw [q]), e9_mindAll N (by omega) w1 hwf, sv_bd, b2]
        by_cases r : sv_sum (AA.2.1 3) AA.1 < B.2.1
        · rw [if_neg (show ¬ nI (sv_sum (AA.2.1 3) AA.1) ≥ nI B.2.1 from fun z => by have := (nI_leI (by omega) (by omega)).mp z; omega)]
          exact keep (Or.inr ⟨q, r⟩)
        · rw [if_pos (show nI (sv_sum (AA.2.1 3) AA.1) ≥ nI B.2.1 from (nI_leI (by omega) (by omega)).mpr (by omega))]
          exact skip (by unfold sv_bt; omega)
      · rw [if_neg (show ¬ nI (sv_na AA) < nI B.1 from Int32.not_lt.mpr ((nI_leI (by omega) (by omega)).mpr (by omega))), if_neg (show ¬ nI (sv_na AA) = nI B.1 from fun z => by have := (nI_eq (by omega) (by omega)).mp z; omega)]
        exact skip (by unfold sv_bt; omega)
  | succ j ih =>
    intro l hl m hm S cs B h hL hcs hB
    obtain ⟨m, rfl⟩ : ∃ m', m = m' + 1 := ⟨m - 1, by omega⟩
    show ∃ V, gX9_triesRound N (fG_6 N (m + 1)) (nI l) (nI n) S = some ((), V) ∧ _
    unfold gX9_triesRound
    rw [if_neg (show ¬ nI l = nI n from fun z => by have := (nI_eq (by omega) (by omega)).mp z; omega)]
    let AA : sv_A := sv_rd L A (fun i => nI (cs i)) l
    let g : Nat → sv_be → sv_be := fun c B => sv_tr L j (l + 1) (sv_hr L AA (nI c)) (fun i => if i = l then c else cs i) B
    show ∃ V, _ ∧ sv_bz V n (sv_fo g 12 B) ∧ _
    refine sv_fr1 (Q := fun r => ∃ V, r = some ((), V) ∧ sv_bz V n (sv_fo g 12 B) ∧ (∀ i, i < l → V.1 117 i = S.1 117 i) ∧ sv_rr sv_tP sv_tF S V) (fun k x W => x = nI k ∧ sv_bz W n (sv_fo g k B) ∧ (∀ i, i < l → W.1 117 i = S.1 117 i) ∧ sv_rr sv_tP sv_tF S W) 12 ?_ ?_ N _ S (by omega) ⟨rfl, hB, fun _ _ => rfl, sv_rr_rf⟩
    · rintro k x W rec hk ⟨rfl, w1, w2, gW⟩
      left
      rw [if_neg (show ¬ nI k ≥ (12 : Int32) from nI_ge (b := 12) hk (by decide)), sv_gi (by omega) (by decide), nI_clamp (by omega), sv_ls, nI_1 l]
      generalize hX : sw_si W 117 l (nI k) = X
      have gX : sv_rr (fun a => a = 117) (fun _ => False) W X := by rw [← hX]; exact sv_rr_si W 117 l _ (by decide) rfl
      have gWX : sv_rr sv_tP sv_tF S X := sv_rr_tr gW (sv_rr_wk gX (fun a ha => by unfold sv_tP; omega) (fun _ h => h.elim))
      obtain ⟨Z, hZ, z1, z2, gZ⟩ := ih (l + 1) (by omega) m (by omega) X (fun i => if i = l then k else cs i) (sv_fo g k B) (sv_mr_eq h (gWX.1 106 (by decide) (by unfold sv_tP; omega)).1 (gWX.2.1 6 (by unfold sv_tF; omega))) (sv_lr_rr hL gWX (by unfold sv_tP; omega) (by unfold sv_tF; omega)) (fun i hi => by
        rw [← hX, sv_si]
        by_cases e : i = l
        · rw [if_pos ⟨rfl, e⟩, if_pos e]
        · rw [if_neg (fun z => e z.2), if_neg e, w2 i (by omega)]; exact hcs i (by omega)) (sv_bz_rr w1 gX (fun z => z) (fun z => z) (by omega))
      rw [hZ, sv_bd]
      refine ⟨_, Z, ⟨nI_1 k, ?_, fun i hi => ?_, sv_rr_tr gWX gZ⟩, rfl⟩
      · have e : sv_rd L A (fun i => nI (if i = l then k else cs i)) (l + 1) = sv_hr L AA (nI k) := by
          show sv_hr L (sv_rd L A (fun i => nI (if i = l then k else cs i)) l) (nI (if l = l then k else cs l)) = _
          rw [if_pos rfl, sv_rd_cg (F := fun i => nI (cs i)) l (fun q hq => by rw [if_neg (by omega)])]
        rw [e] at z1
        exact z1
      · rw [z2 i (by omega), ← hX, sv_si, if_neg (by omega)]
        exact w2 i hi
    · rintro x W rec ⟨rfl, w1, w2, gW⟩
      rw [if_pos (show nI 12 ≥ (12 : Int32) from Int32.le_refl _)]
      exact ⟨W, rfl, w1, w2, gW⟩
theorem e7_planRound (N : Nat) (hN : 200 ≤ N) {S : sw_St} {A : sv_A} {L : sv_L} (h : sv_nc S 1 A) (hA : sv_wf A) (hL : sv_lc L S) {n : Nat} (hn : n ≤ 3) : ∃ V, fX7_planRound N (nI n) S = some ((), V) ∧ sv_bq V n (sv_tr L n 0 A (fun _ => 0) (1000000, 1000000, fun _ => 0)) ∧ sv_ag sv_tw S V := by
  unfold fX7_planRound fX7_forgetBest
  rw [sv_ls, sv_ls, sv_bd]
  generalize hT : sw_si (sw_si S 23 0 (1000000 : Int32)) 23 1 (1000000 : Int32) = T
  have gT : sv_ag sv_tw S T := by rw [← hT]; exact sv_ag_tr (sv_ag_si S 23 0 _ (by unfold sv_tw; omega)) (sv_ag_si _ 23 1 _ (by unfold sv_tw; omega))
  have bT : sv_bq T n (1000000, 1000000, fun _ => 0) := ⟨by rw [← hT, sv_si, if_neg (by omega), sv_si, if_pos ⟨rfl, rfl⟩]; rfl, by rw [← hT, sv_si, if_pos ⟨rfl, rfl⟩]; rfl, Nat.le_refl _, Nat.le_refl _, fun z => absurd rfl z⟩
  refine sv_fr1 (Q := fun r => ∃ V, r = some ((), V) ∧ sv_bq V n (sv_tr L n 0 A (fun _ => 0) (1000000, 1000000, fun _ => 0)) ∧ sv_ag sv_tw S V) (fun k x W => x = nI k ∧ (∀ q, q < k → sv_nc W (29 + 10 * q) A) ∧ sv_ag (fun a => 29 ≤ a ∧ a ≤ 78) T W) (n + 1) ?_ ?_ N _ T (by omega) ⟨rfl, fun q hq => absurd hq (Nat.not_lt_zero q), sv_ag_rf⟩
  · rintro k x W rec hk ⟨rfl, w1, gW⟩
    left
    have nW : sv_nc W 1 A := sv_nc_ag (sv_nc_ag h gT (fun k hk => by unfold sv_tw; omega)) gW (fun k hk => by omega)
    obtain ⟨V, hV, v1, gV⟩ := e4_become N (o := 29 + 10 * k) (by omega) nW
    rw [if_neg (show ¬ nI k > nI n from Int32.not_lt.mpr ((nI_leI (by omega) (by omega)).mpr (by omega))), sv_gi (by omega) (by decide), nI_clamp (by omega), hV, sv_bd]
    refine ⟨_, V, ⟨nI_1 k, fun q hq => ?_, sv_ag_tr gW (sv_ag_wk gV (fun a ha => by omega))⟩, rfl⟩
    by_cases e : q = k
    · rw [e]; exact v1
    · exact sv_nc_ag (w1 q (by omega)) gV (fun k hk => by omega)
  · rintro x W rec ⟨rfl, w1, gW⟩
    rw [if_pos (show nI (n + 1) > nI n from Int32.not_le.mp (fun z => by have := (nI_leI (by omega) (by omega)).mp z; omega))]
    have gSW : sv_ag sv_tw S W := sv_ag_tr gT (sv_ag_wk gW (fun a ha => by unfold sv_tw; omega))
    obtain ⟨V, hV, v1, -, -, gV⟩ := e7_plan N hN L n hn n 0 (by omega) 99 (by omega) W A (fun _ => 0) (1000000, 1000000, fun _ => 0) hA (w1 0 (by omega)) (fun q h1 h2 => sv_ns_nc (w1 q (by omega))) (sv_lc_ag hL gSW (by unfold sv_tw; omega) (by unfold sv_tw; omega) (by unfold sv_tw; omega)) (fun i hi => absurd hi (Nat.not_lt_zero i)) (sv_bq_ag bT gW (by omega) (by omega))
    unfold fX7_plan
    rw [show fG_3 N 100 0 (0 : Int32) (nI n) 0 0 W = some ((), V) from hV, sv_bd]
    exact ⟨V, rfl, v1, sv_ag_tr gSW (sv_ag_wk gV (fun a ha => by unfold sv_pl2 at ha; unfold sv_tw; omega))⟩
theorem op_bestRound (N : Nat) (hN : 5000 ≤ N) {S : sw_St} (h : sv_rel S) (x y : Int32) : sv_ok (fX8_bestRound N x y) (fX9_bestRound N x y) S := by
  have hs := h
  obtain ⟨A, L, b, h⟩ := h
  have hr := h
  obtain ⟨h1, h2, h3, h4, h5, h6, h7, h8, h9, h10⟩ := h
  unfold sv_ok fX8_bestRound fX9_bestRound
  rw [e8_within, sv_bd, sv_Bi]
  rcases sv_cq 3 (by decide) (M := 3) rfl x with ⟨n, hn, rfl, hx⟩ | hx
  · rw [if_pos hx, e8_within, sv_bd, sv_Bi]
    by_cases hy : -2 ≤ y ∧ y ≤ nI n - 1
    · rw [if_pos hy]
      obtain ⟨V, hV, v1, gV⟩ := e7_planRound N (by omega) h2 h1 h4 hn
      rw [hV, sv_bd]
      have mV := sv_mr_tw h3 gV
      have lV := sv_lr_tw h5 gV
      generalize hT : sw_si (sw_si V 105 25 (1000000 : Int32)) 105 26 (1000000 : Int32) = T
      have gT : sv_rr (fun _ => False) sv_tF V T := by
        rw [← hT]
        refine ⟨fun a ha _ => ?_, fun q hq => ?_, rfl⟩
        · exact ⟨by funext q; rw [sv_si, if_neg (fun z => ha z.1), sv_si, if_neg (fun z => ha z.1)], rfl⟩
        · rw [sv_si, if_neg (fun z => hq (by unfold sv_tF; omega)), sv_si, if_neg (fun z => hq (by unfold sv_tF; omega))]
      obtain ⟨W, hW, w1, -, gW⟩ := e9_tries N (by omega) L n hn A h1 n 0 (by omega) 99 (by omega) T (fun _ => 0) (1000000, 1000000, fun _ => 0) (sv_mr_eq mV (gT.1 106 (by decide) (fun z => z)).1 (gT.2.1 6 (by unfold sv_tF; omega))) (sv_lr_rr lV gT (fun z => z) (by unfold sv_tF; omega)) (fun i hi => absurd hi (Nat.not_lt_zero i)) ⟨by rw [← hT, sv_si, if_neg (by omega), sv_si, if_pos ⟨rfl, rfl⟩]; rfl, by rw [← hT, sv_si, if_pos ⟨rfl, rfl⟩]; rfl, Nat.le_refl _, Nat.le_refl _, fun z => absurd rfl z⟩
      have b12 := sv_tr_12 (L := L) n 0 A (fun _ => 0) (1000000, 1000000, fun _ => 0)
      have w1 : sv_bz W n (sv_tr L n 0 A (fun _ => 0) (1000000, 1000000, fun _ => 0)) := w1
      generalize sv_tr L n 0 A (fun _ => 0) (1000000, 1000000, fun _ => 0) = B at *
      have hrel : sv_rel W := sv_rel_tw hr gV (sv_rr_tr (sv_rr_wk gT (fun a ha => ha.elim) (fun k hk => sv_F_w (by unfold sv_tF at hk; omega))) (sv_rr_wk gW (fun a ha => by unfold sv_tP at ha; unfold sv_rq; omega) (fun k hk => sv_F_w (by unfold sv_tF at hk; omega))))
      have hy' : fX9_within N y.toInt64 (-2 : Int64) ((nI n - (1 : Int32)).toInt64) V = some (sv_B (-2 ≤ y ∧ y ≤ nI n - 1), V) := e9_within N y (-2) (nI n - 1) V
      have go : ∀ r : Int32, (if y = (-1 : Int32) then (some ((V.1 23 0), V)) else (if y = (-2 : Int32) then (some ((V.1 23 1), V)) else (sw_gd (sw_in y 3) (some ((V.1 24 y.toNatClampNeg), V))))) = some (r, V) → (if y = (-1 : Int32) then (some ((W.1 105 25), W)) else (if y = (-2 : Int32) then (some ((W.1 105 26), W)) else (sw_gd (sw_in y 3) (some ((W.1 118 y.toNatClampNeg), W))))) = some (r, W) → ∃ r S1 S2, (if y = (-1 : Int32) then (some ((V.1 23 0), V)) else (if y = (-2 : Int32) then (some ((V.1 23 1), V)) else (sw_gd (sw_in y 3) (some ((V.1 24 y.toNatClampNeg), V))))) = some (r, S1) ∧ fX9_bestRound N (nI n) y S1 = some (r, S2) ∧ sv_rel S2 := by
        intro r e1 e2
        refine ⟨r, V, W, e1, ?_, hrel⟩
        unfold fX9_bestRound
        rw [show fX9_within N (nI n).toInt64 (0 : Int64) (3 : Int64) V = _ from e9_within N (nI n) 0 3 V, sv_bd, sv_Bi, if_pos hx, hy', sv_bd, sv_Bi, if_pos hy, sv_ls, sv_ls, hT]
        unfold fX9_triesRound
        rw [show fG_6 N 100 0 (0 : Int32) (nI n) 0 0 T = some ((), W) from hW, sv_bd, e2]
      by_cases y1 : y = -1
      · refine go (nI B.1) ?_ ?_
        · rw [if_pos y1, v1.1]
        · rw [if_pos y1, w1.1]
      · by_cases y2 : y = -2
        · refine go (nI B.2.1) ?_ ?_
          · rw [if_neg y1, if_pos y2, v1.2.1]
          · rw [if_neg y1, if_pos y2, w1.2.1]
        · have hy0 : (0 : Int32) ≤ y := by
            have e1 : ¬ y.toInt = -1 := fun z => y1 (Int32.toInt_inj.mp z)
            have e2 : ¬ y.toInt = -2 := fun z => y2 (Int32.toInt_inj.mp z)
            have e3 := Int32.le_iff_toInt_le.mp hy.1
            have e4 : (-2 : Int32).toInt = -2 := rfl
            rw [Int32.le_iff_toInt_le]
            show (0 : Int) ≤ y.toInt
            omega
          have hn0 : 1 ≤ n := by
            rcases Nat.eq_zero_or_pos n with z | z
            · subst z
              have := Int32.le_trans hy0 hy.2
              exact absurd this (by decide)
            · exact z
          have hy3 : y ≤ nI (n - 1) := by rw [← pk_sub (b := 1) hn0]; exact hy.2
          obtain ⟨k, hk, rfl⟩ := sv_rg (n - 1) (by omega) hy0 hy3
          refine go (nI (B.2.2 k)) ?_ ?_
          · rw [if_neg y1, if_neg y2, sv_gi (by omega) (by decide), nI_clamp (by omega), v1.2.2.2.2 (by omega) k (by omega)]
          · rw [if_neg y1, if_neg y2, sv_gi (by omega) (by decide), nI_clamp (by omega), w1.2.2.2.2 (by omega) k (by omega)]
    · rw [if_neg hy]
      have hy' : fX9_within N y.toInt64 (-2 : Int64) ((nI n - (1 : Int32)).toInt64) S = some (sv_B (-2 ≤ y ∧ y ≤ nI n - 1), S) := e9_within N y (-2) (nI n - 1) S
      refine ⟨_, S, S, rfl, ?_, hs⟩
      rw [show fX9_within N (nI n).toInt64 (0 : Int64) (3 : Int64) S = _ from e9_within N (nI n) 0 3 S, sv_bd, sv_Bi, if_pos hx, hy', sv_bd, sv_Bi, if_neg hy]
  · rw [if_neg hx]
    refine ⟨_, S, S, rfl, ?_, hs⟩
    rw [show fX9_within N x.toInt64 (0 : Int64) (3 : Int64) S = _ from e9_within N x 0 3 S, sv_bd, sv_Bi, if_neg hx]
