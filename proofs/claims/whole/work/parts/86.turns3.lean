/-! byTurns: the reference -/
noncomputable def sv_pa (A : sv_A) (cs : Nat → Nat) : Nat → sv_A
  | 0 => A
  | i + 1 => sv_mo (sv_pa A cs i) i (cs i)
theorem sv_pa_wf {A : sv_A} (hA : sv_wf A) (cs : Nat → Nat) : ∀ i, sv_wf (sv_pa A cs i)
  | 0 => hA
  | i + 1 => sv_mo_wf (sv_pa_wf hA cs i) _ _
theorem sv_pa_cg {A : sv_A} {cs ds : Nat → Nat} : ∀ i, (∀ k, k < i → cs k = ds k) → sv_pa A cs i = sv_pa A ds i
  | 0, _ => rfl
  | i + 1, h => by
    show sv_mo (sv_pa A cs i) i (cs i) = sv_mo (sv_pa A ds i) i (ds i)
    rw [sv_pa_cg i (fun k hk => h k (by omega)), h i (by omega)]
/-- the reference's move -/
theorem e9_mo (N : Nat) (hN : 100 ≤ N) {S : sw_St} {A : sv_A} {cd : Int32} (h : sv_rs S A cd) (hA : sv_wf A) {c : Nat} (hc : c < 12) : (∀ l, l % 2 = 0 → ∃ V, fX9_isToldAt N (nI c) (4 : Int32) S = some ((), V) ∧ sv_rs V (sv_mo A l c) cd ∧ sv_rr (fun a => a = 114 ∨ a = 116) (fun _ => False) S V) ∧ (∀ l, ¬ l % 2 = 0 → ∃ V, fX9_isTouched N (nI c) S = some ((), V) ∧ sv_rs V (sv_mo A l c) cd ∧ sv_rr (fun a => a = 114 ∨ a = 116) (fun _ => False) S V) := by
  refine ⟨fun l hl => ?_, fun l hl => ?_⟩
  · have e : sv_mo A l c = sv_tl A c := by unfold sv_mo; rw [if_pos hc, if_pos hl]
    rw [e]
    obtain ⟨t1, t2⟩ := e9_isToldAt N h hA hc 4
    rcases sv_lie_r hA c with ⟨s, hs, q1, -⟩ | ⟨q1, -⟩
    · refine ⟨_, t1 s hs q1, ?_, sv_rr_si S 114 s _ (by decide) (Or.inl rfl)⟩
      rw [sv_tl_at hA hs q1]
      exact sv_rs_st h _
    · exact ⟨S, t2 q1, by rw [sv_tl_no q1]; exact h, sv_rr_rf⟩
  · have e : sv_mo A l c = sv_tm A c := by unfold sv_mo; rw [if_pos hc, if_neg hl]
    rw [e]
    obtain ⟨Y, t, hY, y1, y2, y3, y4⟩ := e9_isTouched N hN h hA hc
    exact ⟨Y, hY, by rw [← sv_tm_eq hA y1]; exact y2, y4⟩
abbrev sv_yP (a : Nat) : Prop := (113 ≤ a ∧ a ≤ 114) ∨ a = 116 ∨ a = 117
abbrev sv_yF (k : Nat) : Prop := k = 19 ∨ k = 20
theorem e9_plays (N : Nat) (hN : 100 ≤ N) (n : Nat) (hn : n ≤ 4) (A : sv_A) (hA : sv_wf A) : ∀ (j l : Nat), l + j = n → ∀ (m : Nat), j ≤ m → ∀ (S : sw_St) (cs : Nat → Nat), sv_mr S A → (∀ i, i < l → S.1 117 i = nI (cs i) ∧ cs i ≤ 12) → ∃ V, fG_8 N (m + 1) 0 (nI l) (nI n) 0 0 S = some (nI (sv_val j l (sv_pa A cs l)), V) ∧ (∀ i, i < l → V.1 117 i = S.1 117 i) ∧ sv_rr sv_yP sv_yF S V := by
  intro j
  induction j with
  | zero =>
    intro l hl m hm S cs h hcs
    have hln : l = n := by omega
    subst hln
    show ∃ V, gX9_playsFrom N (fG_8 N m) (nI l) (nI l) S = _ ∧ _
    unfold gX9_playsFrom
    obtain ⟨U, hU, u1, u2, gU⟩ := e9_begins N (by omega) h hA
    rw [if_pos rfl, hU, sv_bd]
    refine sv_fr1 (Q := fun r => ∃ V, r = some (nI (sv_val 0 l (sv_pa A cs l)), V) ∧ (∀ i, i < l → V.1 117 i = S.1 117 i) ∧ sv_rr sv_yP sv_yF S V) (fun k x W => x = nI k ∧ (∃ cd, sv_rs W (sv_pa A cs k) cd) ∧ sv_rr (fun a => (113 ≤ a ∧ a ≤ 114) ∨ a = 116) sv_yF S W) l ?_ ?_ N _ U (by omega) ⟨rfl, ⟨_, u1⟩, sv_rr_wk gU (fun a ha => by omega) (fun k hk => hk)⟩
    · rintro k x W rec hk ⟨rfl, ⟨cd, w1⟩, gW⟩
      left
      obtain ⟨c1, c2⟩ := hcs k hk
      have e7 : W.1 117 k = nI (cs k) := by rw [(gW.1 117 (by decide) (by omega)).1]; exact c1
      have hwf := sv_pa_wf hA cs k
      rw [if_neg (show ¬ nI k ≥ nI l from nI_ge hk (by omega)), sv_gi (by omega) (by decide), sv_jn0, nI_clamp (by omega), sv_par k (by omega), e7]
      by_cases h12 : cs k < 12
      · rw [if_neg (show ¬ nI (cs k) ≥ (12 : Int32) from nI_ge (b := 12) h12 (by decide))]
        obtain ⟨m1, m2⟩ := e9_mo N hN w1 hwf h12
        by_cases e : k % 2 = 0
        · obtain ⟨V, hV, v1, gV⟩ := m1 k e
          rw [if_pos (show nI (k % 2) = 0 by rw [e]; rfl), sv_gi (by omega) (by decide), hV, sv_bd]
          dsimp only
          rw [sv_gi (by omega) (by decide), (gV.1 117 (by decide) (by decide)).1, e7, if_neg (show ¬ nI (cs k) ≥ (12 : Int32) from nI_ge (b := 12) h12 (by decide)), if_neg (show ¬ nI (k % 2) = 1 by rw [e]; decide)]
          exact ⟨_, V, ⟨nI_1 k, ⟨cd, v1⟩, sv_rr_tr gW (sv_rr_wk gV (fun a ha => by omega) (fun _ h => h.elim))⟩, rfl⟩
        · obtain ⟨V, hV, v1, gV⟩ := m2 k e
          rw [if_neg (show ¬ nI (k % 2) = 0 from fun z => e ((nI_eq (b := 0) (by omega) (by decide)).mp z))]
          dsimp only
          rw [sv_gi (by omega) (by decide), e7, if_neg (show ¬ nI (cs k) ≥ (12 : Int32) from nI_ge (b := 12) h12 (by decide)), if_pos (show nI (k % 2) = 1 by rw [show k % 2 = 1 by omega]; rfl), sv_gi (by omega) (by decide), hV, sv_bd]
          exact ⟨_, V, ⟨nI_1 k, ⟨cd, v1⟩, sv_rr_tr gW (sv_rr_wk gV (fun a ha => by omega) (fun _ h => h.elim))⟩, rfl⟩
      · have ec : cs k = 12 := by omega
        have em : sv_pa A cs (k + 1) = sv_pa A cs k := by
          show sv_mo (sv_pa A cs k) k (cs k) = _
          unfold sv_mo
          rw [if_neg h12]
        rw [ec, if_pos (show nI 12 ≥ (12 : Int32) from Int32.le_refl _)]
        dsimp only
        rw [sv_gi (by omega) (by decide), e7, ec, if_pos (show nI 12 ≥ (12 : Int32) from Int32.le_refl _)]
        exact ⟨_, W, ⟨nI_1 k, ⟨cd, by rw [em]; exact w1⟩, gW⟩, rfl⟩
    · rintro x W rec ⟨rfl, ⟨cd, w1⟩, gW⟩
      rw [if_pos (show nI l ≥ nI l from Int32.le_refl _), e9_awakeMany N (by omega) w1 (sv_pa_wf hA cs l), sv_bd]
      exact ⟨W, rfl, fun i hi => by rw [(gW.1 117 (by decide) (by omega)).1], sv_rr_wk gW (fun a ha => by unfold sv_yP; omega) (fun _ h => h)⟩
  | succ j ih =>
    intro l hl m hm S cs h hcs
    obtain ⟨m, rfl⟩ : ∃ m', m = m' + 1 := ⟨m - 1, by omega⟩
    show ∃ V, gX9_playsFrom N (fG_8 N (m + 1)) (nI l) (nI n) S = _ ∧ _
    unfold gX9_playsFrom
    let AA : sv_A := sv_pa A cs l
    let y : Nat := if l % 2 = 0 then 0 else 6
    let f : Nat → Nat := fun k => sv_val j (l + 1) (sv_mo AA l (y + k))
    have hwf := sv_pa_wf hA cs l
    have hy6 : y ≤ 6 := by show (if l % 2 = 0 then 0 else 6) ≤ 6; split <;> omega
    -- with the move of this turn set
    have set : ∀ W v, v ≤ 12 → (∀ i, i < l → W.1 117 i = S.1 117 i) → sv_rr sv_yP sv_yF S W → ∃ V, fG_8 N (m + 1) 0 (nI (l + 1)) (nI n) 0 0 (sw_si W 117 l (nI v)) = some (nI (sv_val j (l + 1) (sv_mo AA l v)), V) ∧ (∀ i, i < l → V.1 117 i = S.1 117 i) ∧ sv_rr sv_yP sv_yF S V := by
      intro W v hv w1 gW
      have gX : sv_rr sv_yP sv_yF S (sw_si W 117 l (nI v)) := sv_rr_tr gW (sv_rr_si W 117 l _ (by decide) (by unfold sv_yP; omega))
      obtain ⟨V, hV, v1, gV⟩ := ih (l + 1) (by omega) m (by omega) (sw_si W 117 l (nI v)) (fun i => if i = l then v else cs i) (sv_mr_eq h (gX.1 106 (by decide) (by unfold sv_yP; omega)).1 (gX.2.1 6 (by unfold sv_yF; omega))) (fun i hi => by
        rw [sv_si]
        by_cases e : i = l
        · rw [if_pos ⟨rfl, e⟩, if_pos e]; exact ⟨rfl, hv⟩
        · rw [if_neg (fun z => e z.2), if_neg e, w1 i (by omega)]; exact hcs i (by omega))
      refine ⟨V, ?_, fun i hi => ?_, sv_rr_tr gX gV⟩
      · rw [hV]
        congr 4
        show sv_mo (sv_pa A (fun i => if i = l then v else cs i) l) l (if l = l then v else cs l) = _
        rw [if_pos rfl, sv_pa_cg (ds := cs) l (fun k hk => if_neg (by omega))]
      · rw [v1 i (by omega), sv_si, if_neg (by omega)]
        exact w1 i hi
    obtain ⟨X, hX, x1, gX⟩ := set S 12 (Nat.le_refl _) (fun _ _ => rfl) sv_rr_rf
    have e12 : sv_mo AA l 12 = AA := by unfold sv_mo; rw [if_neg (by decide)]
    rw [e12] at hX
    rw [if_neg (show ¬ nI l = nI n from fun z => by have := (nI_eq (by omega) (by omega)).mp z; omega), sv_gi (by omega) (by decide), nI_clamp (by omega), sv_ls, nI_1 l, show (12 : Int32) = nI 12 from rfl, hX, sv_bd, sv_par l (by omega)]
    refine sv_fr2 (Q := fun r => ∃ V, r = some (nI (sv_val (j + 1) l (sv_pa A cs l)), V) ∧ (∀ i, i < l → V.1 117 i = S.1 117 i) ∧ sv_rr sv_yP sv_yF S V) (fun k a b W => a = nI (sv_mm l y f (sv_val j (l + 1) AA) k).1 ∧ b = nI k ∧ (∀ i, i < l → W.1 117 i = S.1 117 i) ∧ sv_rr sv_yP sv_yF S W) 6 ?_ ?_ N _ _ X (by omega) ⟨rfl, rfl, x1, gX⟩
    · rintro k a b W rec hk ⟨rfl, rfl, w1, gW⟩
      left
      have es : sv_mm l y f (sv_val j (l + 1) AA) (k + 1) = if sv_tb2 l (f k) (sv_mm l y f (sv_val j (l + 1) AA) k).1 = true then (f k, y + k) else sv_mm l y f (sv_val j (l + 1) AA) k := rfl
      have hm12 : (sv_mm l y f (sv_val j (l + 1) AA) k).1 ≤ 12 := sv_mm_le (sv_val_le _ _ _) k (fun i _ => sv_val_le _ _ _)
      have hf12 : f k ≤ 12 := sv_val_le _ _ _
      obtain ⟨V, hV, v1, gV⟩ := set W (y + k) (by omega) w1 gW
      rw [if_neg (show ¬ nI k ≥ (6 : Int32) from nI_ge (b := 6) hk (by decide)), sv_jn1]
      by_cases e : l % 2 = 0
      · have ey : y = 0 := if_pos e
        rw [if_pos (show nI (l % 2) = 0 by rw [e]; rfl)]
        dsimp only
        rw [sv_gi (by omega) (by decide), sv_ls, show sw_si W 117 l (nI k) = sw_si W 117 l (nI (y + k)) by rw [ey, Nat.zero_add], hV, sv_bd, if_pos (show nI (l % 2) = 0 by rw [e]; rfl)]
        show ∃ b0 b1 T, _ ∧ (if nI (f k) ≥ nI (sv_mm l y f (sv_val j (l + 1) AA) k).1 then rec _ (nI k + 1) V else rec (nI (f k)) (nI k + 1) V) = _
        have e2 : sv_tb2 l (f k) (sv_mm l y f (sv_val j (l + 1) AA) k).1 = true ↔ f k < (sv_mm l y f (sv_val j (l + 1) AA) k).1 := by unfold sv_tb2; rw [if_pos e]; exact decide_eq_true_iff
        by_cases z : f k < (sv_mm l y f (sv_val j (l + 1) AA) k).1
        · rw [if_neg (show ¬ nI (f k) ≥ nI (sv_mm l y f (sv_val j (l + 1) AA) k).1 from nI_ge z (by omega))]
          exact ⟨_, _, V, ⟨by rw [es, if_pos (e2.mpr z)], nI_1 k, v1, gV⟩, rfl⟩
        · rw [if_pos (show nI (f k) ≥ nI (sv_mm l y f (sv_val j (l + 1) AA) k).1 from (nI_leI (by omega) (by omega)).mpr (by omega))]
          exact ⟨_, _, V, ⟨by rw [es, if_neg (fun q => z (e2.mp q))], nI_1 k, v1, gV⟩, rfl⟩
      · have ey : y = 6 := if_neg e
        have ne0 : ¬ nI (l % 2) = 0 := fun z => e ((nI_eq (b := 0) (by omega) (by decide)).mp z)
        rw [if_neg ne0, show (6 : Int32) + nI k = nI (y + k) by rw [ey]; exact nI_add 6 k]
        dsimp only
        rw [sv_gi (by omega) (by decide), sv_ls, hV, sv_bd, if_neg ne0]
        show ∃ b0 b1 T, _ ∧ (if nI (f k) ≤ nI (sv_mm l y f (sv_val j (l + 1) AA) k).1 then rec _ (nI k + 1) V else rec (nI (f k)) (nI k + 1) V) = _
        have e2 : sv_tb2 l (f k) (sv_mm l y f (sv_val j (l + 1) AA) k).1 = true ↔ (sv_mm l y f (sv_val j (l + 1) AA) k).1 < f k := by unfold sv_tb2; rw [if_neg e]; exact decide_eq_true_iff
        by_cases z : (sv_mm l y f (sv_val j (l + 1) AA) k).1 < f k
        · rw [if_neg (show ¬ nI (f k) ≤ nI (sv_mm l y f (sv_val j (l + 1) AA) k).1 from fun q => by have := (nI_leI (by omega) (by omega)).mp q; omega)]
          exact ⟨_, _, V, ⟨by rw [es, if_pos (e2.mpr z)], nI_1 k, v1, gV⟩, rfl⟩
        · rw [if_pos (show nI (f k) ≤ nI (sv_mm l y f (sv_val j (l + 1) AA) k).1 from (nI_leI (by omega) (by omega)).mpr (by omega))]
          exact ⟨_, _, V, ⟨by rw [es, if_neg (fun q => z (e2.mp q))], nI_1 k, v1, gV⟩, rfl⟩
    · rintro a b W rec ⟨rfl, rfl, w1, gW⟩
      rw [if_pos (show nI 6 ≥ (6 : Int32) from Int32.le_refl _)]
      exact ⟨W, rfl, w1, gW⟩
theorem op_byTurns (N : Nat) (hN : 5000 ≤ N) {S : sw_St} (h : sv_rel S) (x y : Int32) : sv_ok (fX8_byTurns N x y) (fX9_byTurns N x y) S := by
  have hs := h
  obtain ⟨A, L, b, h⟩ := h
  have hr := h
  obtain ⟨h1, h2, h3, h4, h5, h6, h7, h8, h9, h10⟩ := h
  unfold sv_ok fX8_byTurns
  have eX : ∀ T : sw_St, fX9_within N x.toInt64 (1 : Int64) (4 : Int64) T = some (sv_B (1 ≤ x ∧ x ≤ 4), T) := fun T => e9_within N x 1 4 T
  have eY : ∀ T : sw_St, fX9_within N y.toInt64 (0 : Int64) (1 : Int64) T = some (sv_B (0 ≤ y ∧ y ≤ 1), T) := fun T => e9_within N y 0 1 T
  rw [e8_within, sv_bd, sv_Bi]
  by_cases hx : 1 ≤ x ∧ x ≤ 4
  · rw [if_pos hx, e8_within, sv_bd, sv_Bi]
    by_cases hy : 0 ≤ y ∧ y ≤ 1
    · rw [if_pos hy]
      obtain ⟨n, hn, rfl⟩ := sv_rg 4 (by decide) (Int32.le_trans (by decide) hx.1) hx.2
      have hn1 : 1 ≤ n := (nI_leI (a := 1) (by decide) (by omega)).mp hx.1
      obtain ⟨i, rfl⟩ : ∃ i, n = i + 1 := ⟨n - 1, by omega⟩
      obtain ⟨V, hV, v1, gV⟩ := e7_playTurns N (by omega) h2 h1 hn
      have v1 := v1 i rfl
      have mV := sv_mr_tw h3 gV
      obtain ⟨W, hW, -, gW⟩ := e9_plays N (by omega) (i + 1) hn A h1 (i + 1) 0 (by omega) 99 (by omega) V (fun _ => 0) mV (fun i hi => absurd hi (Nat.not_lt_zero i))
      have hW : fG_8 N 100 0 (0 : Int32) (nI (i + 1)) 0 0 V = some (nI (sv_val (i + 1) 0 A), W) := hW
      have toq : ∀ {T U : sw_St}, sv_rr sv_yP sv_yF T U → sv_rr sv_rq sv_F T U := fun g => sv_rr_wk g (fun a ha => by unfold sv_yP at ha; unfold sv_rq; omega) (fun k hk => sv_F_w (by unfold sv_yF at hk; omega))
      rw [hV, sv_bd]
      by_cases hy0 : y = 0
      · rw [if_pos hy0]
        refine ⟨_, V, W, rfl, ?_, sv_rel_tw hr gV (toq gW)⟩
        unfold fX9_byTurns
        rw [eX, sv_bd, sv_Bi, if_pos hx, eY, sv_bd, sv_Bi, if_pos hy]
        unfold fX9_playsFrom
        rw [hW, sv_bd, if_pos hy0]
      · rw [if_neg hy0, v1]
        let f : Nat → Nat := fun k => sv_val i 1 (sv_mo A 0 k)
        let b0 : Nat := sv_val i 1 A
        let M : Nat := (sv_mm 0 0 f b0 6).1
        have eM : sv_val (i + 1) 0 A = M := by
          show (sv_mm 0 0 (fun k => sv_val i (0 + 1) (sv_mo A 0 (0 + k))) (sv_val i (0 + 1) A) 6).1 = _
          simp only [Nat.zero_add]
          rfl
        -- the reference's value with the first move set
        have set : ∀ T v, v ≤ 12 → sv_rr sv_rq sv_F V T → ∃ U, fG_8 N 100 0 (1 : Int32) (nI (i + 1)) 0 0 (sw_si T 117 0 (nI v)) = some (nI (sv_val i 1 (sv_mo A 0 v)), U) ∧ sv_rr sv_rq sv_F V U := by
          intro T v hv gT
          have gX : sv_rr sv_rq sv_F V (sw_si T 117 0 (nI v)) := sv_rr_tr gT (sv_rr_si T 117 0 _ (by decide) (by unfold sv_rq; omega))
          obtain ⟨U, hU, -, gU⟩ := e9_plays N (by omega) (i + 1) hn A h1 i 1 (by omega) 99 (by omega) (sw_si T 117 0 (nI v)) (fun _ => v) (sv_mr_q mV gX) (fun k hk => by
            have : k = 0 := by omega
            subst this
            rw [sv_si, if_pos ⟨rfl, rfl⟩]; exact ⟨rfl, hv⟩)
          exact ⟨U, hU, sv_rr_tr gX (toq gU)⟩
        -- the first that is as good
        obtain ⟨t, ht, ha, hb, hc⟩ : ∃ t, t ≤ 6 ∧ (sv_mm 0 0 f b0 6).2 = (if t = 0 then 12 else t - 1) ∧ sv_val i 1 (sv_mo A 0 (if t = 0 then 12 else t - 1)) = M ∧ ∀ q, q < t → sv_val i 1 (sv_mo A 0 (if q = 0 then 12 else q - 1)) ≠ M := by
          have e12 : sv_mo A 0 12 = A := by unfold sv_mo; rw [if_neg (by decide)]
          rcases sv_mm_ch (y := 0) (f := f) (b0 := b0) 6 with ⟨c1, c2, c3⟩ | ⟨t, c1, c2, c3, c4, c5⟩
          · refine ⟨0, by omega, by rw [if_pos rfl]; exact c1, ?_, fun q hq => absurd hq (Nat.not_lt_zero q)⟩
            rw [if_pos rfl, e12]
            exact c2.symm
          · refine ⟨t + 1, by omega, ?_, ?_, fun q hq => ?_⟩
            · rw [if_neg (by omega), c2]; omega
            · rw [if_neg (by omega), show t + 1 - 1 = t by omega]; exact c3
            · by_cases q0 : q = 0
              · rw [if_pos q0, e12]
                intro z
                have : b0 = M := z
                omega
              · rw [if_neg q0]
                have := c5 (q - 1) (by omega)
                intro z
                have : f (q - 1) = M := z
                omega
        have hM12 : M ≤ 12 := by rw [← eM]; exact sv_val_le _ _ _
        have hv12 : ∀ q, sv_val i 1 (sv_mo A 0 q) ≤ 12 := fun q => sv_val_le _ _ _
        have key : ∃ U, fX9_byTurns N (nI (i + 1)) y V = some (nI (if t = 0 then 12 else t - 1), U) ∧ sv_rr sv_rq sv_F V U := by
          unfold fX9_byTurns
          rw [eX, sv_bd, sv_Bi, if_pos hx, eY, sv_bd, sv_Bi, if_pos hy]
          unfold fX9_playsFrom
          rw [hW, sv_bd, if_neg hy0, eM]
          refine sv_fr2 (Q := fun r => ∃ U, r = some (nI (if t = 0 then 12 else t - 1), U) ∧ sv_rr sv_rq sv_F V U) (fun k a b T => b = nI k ∧ sv_rr sv_rq sv_F V T ∧ ((k ≤ t ∧ a = -1) ∨ (k = t + 1 ∧ a = nI (if t = 0 then 12 else t - 1)))) 7 ?_ ?_ N _ _ W (by omega) ⟨rfl, toq gW, Or.inl ⟨Nat.zero_le _, rfl⟩⟩
          · rintro k a b T rec hk ⟨rfl, gT, ha | ⟨ha, rfl⟩⟩
            · obtain ⟨hkt, rfl⟩ := ha
              left
              rw [if_neg (show ¬ nI k > (6 : Int32) from Int32.not_lt.mpr ((nI_leI (b := 6) (by omega) (by decide)).mpr (by omega))), if_neg (show ¬ ((-1 : Int32) ≥ 0) by decide), sv_jn1]
              have g0 : ∀ {β : Type} (t : Option β), sw_gd (sw_in (0 : Int32) 4) t = t := fun t => sv_gi (k := 0) (n := 4) (by decide) (by decide) t
              by_cases k0 : k = 0
              · subst k0
                obtain ⟨U, hU, gU⟩ := set T 12 (Nat.le_refl _) gT
                rw [if_pos (show nI 0 = 0 from rfl)]
                dsimp only
                rw [g0, sv_ls]
                rw [show fG_8 N 100 0 (1 : Int32) (nI (i + 1)) 0 0 (sw_si T 117 (0 : Int32).toNatClampNeg (12 : Int32)) = _ from hU, sv_bd]
                by_cases e : sv_val i 1 (sv_mo A 0 12) = M
                · have t0 : t = 0 := by
                    rcases Nat.eq_zero_or_pos t with z | z
                    · exact z
                    · exact absurd e (hc 0 z)
                  rw [if_pos (show nI (sv_val i 1 (sv_mo A 0 12)) = nI M by rw [e]), if_pos (show nI 0 = 0 from rfl)]
                  exact ⟨_, _, U, ⟨nI_1 0, gU, Or.inr ⟨by omega, by rw [if_pos t0]; rfl⟩⟩, rfl⟩
                · have t0 : 0 < t := by
                    rcases Nat.eq_zero_or_pos t with z | z
                    · subst z; exact absurd hb e
                    · exact z
                  rw [if_neg (show ¬ nI (sv_val i 1 (sv_mo A 0 12)) = nI M from fun z => e ((nI_eq (by have := hv12 12; omega) (by omega)).mp z))]
                  exact ⟨_, _, U, ⟨nI_1 0, gU, Or.inl ⟨t0, rfl⟩⟩, rfl⟩
              · have kn : ¬ nI k = 0 := fun z => k0 ((nI_eq (b := 0) (by omega) (by decide)).mp z)
                have km : nI k - (1 : Int32) = nI (k - 1) := pk_sub (b := 1) (by omega)
                obtain ⟨U, hU, gU⟩ := set T (k - 1) (by omega) gT
                rw [if_neg kn]
                dsimp only
                rw [g0, sv_ls, km]
                rw [show fG_8 N 100 0 (1 : Int32) (nI (i + 1)) 0 0 (sw_si T 117 (0 : Int32).toNatClampNeg (nI (k - 1))) = _ from hU, sv_bd]
                by_cases e : sv_val i 1 (sv_mo A 0 (k - 1)) = M
                · have t0 : t = k := by
                    rcases Nat.lt_or_ge k t with z | z
                    · have := hc k z
                      rw [if_neg k0] at this
                      exact absurd e this
                    · omega
                  rw [if_pos (show nI (sv_val i 1 (sv_mo A 0 (k - 1))) = nI M by rw [e]), if_neg kn, sv_li]
                  exact ⟨_, _, U, ⟨nI_1 k, gU, Or.inr ⟨by omega, by rw [t0, if_neg k0]⟩⟩, rfl⟩
                · have t0 : k < t := by
                    rcases Nat.lt_or_ge k t with z | z
                    · exact z
                    · have : t = k := by omega
                      subst this
                      rw [if_neg k0] at hb
                      exact absurd hb e
                  rw [if_neg (show ¬ nI (sv_val i 1 (sv_mo A 0 (k - 1))) = nI M from fun z => e ((nI_eq (by have := hv12 (k - 1); omega) (by omega)).mp z))]
                  exact ⟨_, _, U, ⟨nI_1 k, gU, Or.inl ⟨t0, rfl⟩⟩, rfl⟩
            · right
              rw [if_neg (show ¬ nI k > (6 : Int32) from Int32.not_lt.mpr ((nI_leI (b := 6) (by omega) (by decide)).mpr (by omega))), if_pos (show nI (if t = 0 then 12 else t - 1) ≥ (0 : Int32) from nI_pos' (by split <;> omega))]
              exact ⟨T, rfl, gT⟩
          · rintro a b T rec ⟨rfl, gT, ha | ⟨ha, rfl⟩⟩
            · omega
            · rw [if_pos (show nI 7 > (6 : Int32) by decide)]
              exact ⟨T, rfl, gT⟩
        obtain ⟨U, hU, gU⟩ := key
        refine ⟨_, V, U, rfl, ?_, sv_rel_tw hr gV gU⟩
        show fX9_byTurns N (nI (i + 1)) y V = some (nI (sv_mm 0 0 f b0 6).2, U)
        rw [hU, ha]
    · rw [if_neg hy]
      refine ⟨_, S, S, rfl, ?_, hs⟩
      unfold fX9_byTurns
      rw [eX, sv_bd, sv_Bi, if_pos hx, eY, sv_bd, sv_Bi, if_neg hy]
  · rw [if_neg hx]
    refine ⟨_, S, S, rfl, ?_, hs⟩
    unfold fX9_byTurns
    rw [eX, sv_bd, sv_Bi, if_neg hx]
