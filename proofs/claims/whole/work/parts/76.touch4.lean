/-! isTouched; woken, touch -/
theorem e9_isTouched (N : Nat) (hN : 100 ≤ N) {S : sw_St} {A : sv_A} {cd : Int32} (h : sv_rs S A cd) (hA : sv_wf A) {f : Nat} (hf : f < 12) : ∃ V t, fX9_isTouched N (nI f) S = some ((), V) ∧ (∀ c, c < 12 → (sv_mw2 t c = true ↔ sv_R A f c)) ∧ sv_rs V (sv_to A (sv_mw2 t)) cd ∧ (∀ c, c < 12 → V.1 116 c = nI (t c) ∧ t c ≤ 2) ∧ sv_rr (fun a => a = 114 ∨ a = 116) (fun _ => False) S V := by
  have hn := hA.1
  unfold fX9_isTouched
  refine sv_fr1 (Q := fun r => ∃ V t, r = some ((), V) ∧ (∀ c, c < 12 → (sv_mw2 t c = true ↔ sv_R A f c)) ∧ sv_rs V (sv_to A (sv_mw2 t)) cd ∧ (∀ c, c < 12 → V.1 116 c = nI (t c) ∧ t c ≤ 2) ∧ sv_rr (fun a => a = 114 ∨ a = 116) (fun _ => False) S V) (fun k x W => x = nI k ∧ (∀ c, c < k → W.1 116 c = nI (if c = f then 1 else 0)) ∧ sv_rr (fun a => a = 116) (fun _ => False) S W) 12 ?_ ?_ N _ S (by omega) ⟨rfl, fun c hc => absurd hc (Nat.not_lt_zero c), sv_rr_rf⟩
  · rintro k x W rec hk ⟨rfl, w1, gW⟩
    left
    rw [if_neg (show ¬ nI k ≥ (12 : Int32) from nI_ge (b := 12) hk (by decide)), sv_gi hk (by decide), sv_gi hk (by decide), nI_clamp (by omega), sv_ls, sv_ls]
    have go : ∀ v : Nat, v = (if k = f then 1 else 0) → ∃ b0 T, (b0 = nI (k + 1) ∧ (∀ c, c < k + 1 → T.1 116 c = nI (if c = f then 1 else 0)) ∧ sv_rr (fun a => a = 116) (fun _ => False) S T) ∧ rec (nI k + 1) (sw_si W 116 k (nI v)) = rec b0 T := by
      intro v hv
      refine ⟨_, _, ⟨nI_1 k, fun c hc => ?_, sv_rr_tr gW (sv_rr_si W 116 _ _ (by decide) rfl)⟩, rfl⟩
      rw [sv_si]
      by_cases e : c = k
      · rw [if_pos ⟨rfl, e⟩, hv, e]
      · rw [if_neg (fun z => e z.2), w1 c (by omega)]
    by_cases e : k = f
    · rw [if_pos (show nI k = nI f by rw [e])]
      exact go 1 (by rw [if_pos e])
    · rw [if_neg (show ¬ nI k = nI f by rw [nI_eq (by omega) (by omega)]; exact e)]
      exact go 0 (by rw [if_neg e])
  · rintro x W rec ⟨rfl, w1, gW⟩
    rw [if_pos (show nI 12 ≥ (12 : Int32) from Int32.le_refl _)]
    have m0 : sv_to A (sv_mw2 (fun c => if c = f then 1 else 0)) = A := by
      obtain ⟨a, b, c⟩ := A
      unfold sv_to
      congr 2
      funext k s
      refine if_neg (fun z => ?_)
      have z := z.2.2
      unfold sv_mw2 at z
      rw [decide_eq_true_iff] at z
      dsimp only at z
      split at z <;> omega
    have g0 : sv_Tg A f cd S (fun c => if c = f then 1 else 0) W := by
      refine ⟨fun c hc => ⟨w1 c hc, ?_⟩, fun c _ e => ?_, fun c _ e ho => ?_, ?_, fun c _ e => ?_, ?_, sv_rr_wk gW (fun a ha => Or.inr ha) (fun _ h => h)⟩
      · dsimp only; split <;> omega
      · dsimp only at e; split at e <;> omega
      · dsimp only at e
        by_cases q : c = f
        · subst q; exact sv_R_b ho
        · rw [if_neg q] at e; omega
      · dsimp only; rw [if_pos rfl]; omega
      · dsimp only at e; split at e <;> omega
      · rw [m0]; exact sv_rs_6 h gW
    refine sv_fr1 (Q := fun r => ∃ V t, r = some ((), V) ∧ (∀ c, c < 12 → (sv_mw2 t c = true ↔ sv_R A f c)) ∧ sv_rs V (sv_to A (sv_mw2 t)) cd ∧ (∀ c, c < 12 → V.1 116 c = nI (t c) ∧ t c ≤ 2) ∧ sv_rr (fun a => a = 114 ∨ a = 116) (fun _ => False) S V) (fun k x W => (x = 1 ∧ ∃ t, sv_Tg A f cd S t W ∧ k ≤ sv_ct (sv_mw2 t) 12) ∨ (x = 0 ∧ ∃ t, sv_Tg A f cd S t W ∧ ∀ c, c < 12 → t c = 1 → ¬ sv_oc A c)) 13 ?_ ?_ N _ W (by omega) (Or.inl ⟨rfl, _, g0, Nat.zero_le _⟩)
    · rintro k x W rec2 hk (⟨rfl, t, ht, hct⟩ | ⟨rfl, t, ht, hno⟩)
      · rw [if_neg sv_nz]
        refine sv_fr2 (Q := fun r => (∃ b0 T, ((b0 = 1 ∧ ∃ t, sv_Tg A f cd S t T ∧ k + 1 ≤ sv_ct (sv_mw2 t) 12) ∨ (b0 = 0 ∧ ∃ t, sv_Tg A f cd S t T ∧ ∀ c, c < 12 → t c = 1 → ¬ sv_oc A c)) ∧ r = rec2 b0 T) ∨ ∃ V t, r = some ((), V) ∧ (∀ c, c < 12 → (sv_mw2 t c = true ↔ sv_R A f c)) ∧ sv_rs V (sv_to A (sv_mw2 t)) cd ∧ (∀ c, c < 12 → V.1 116 c = nI (t c) ∧ t c ≤ 2) ∧ sv_rr (fun a => a = 114 ∨ a = 116) (fun _ => False) S V) (fun c x y W => y = nI c ∧ ((x = 0 ∧ ∃ t, sv_Tg A f cd S t W ∧ k ≤ sv_ct (sv_mw2 t) 12 ∧ ∀ d, d < c → t d = 1 → ¬ sv_oc A d) ∨ (x = 1 ∧ ∃ t, sv_Tg A f cd S t W ∧ k + 1 ≤ sv_ct (sv_mw2 t) 12))) 12 ?_ ?_ N _ _ W (by omega) ⟨rfl, Or.inl ⟨rfl, t, ht, hct, fun d hd => absurd hd (Nat.not_lt_zero d)⟩⟩
        · rintro c x y X rec3 hc ⟨rfl, hx⟩
          left
          obtain ⟨t, ht, hk1⟩ : ∃ t, sv_Tg A f cd S t X ∧ ((x = 0 ∧ k ≤ sv_ct (sv_mw2 t) 12 ∧ ∀ d, d < c → t d = 1 → ¬ sv_oc A d) ∨ (x = 1 ∧ k + 1 ≤ sv_ct (sv_mw2 t) 12)) := by
            rcases hx with ⟨e, t, h1, h2, h3⟩ | ⟨e, t, h1, h2⟩
            · exact ⟨t, h1, Or.inl ⟨e, h2, h3⟩⟩
            · exact ⟨t, h1, Or.inr ⟨e, h2⟩⟩
          have ht' := ht
          obtain ⟨t1, t2, t3, t4, t5, t6, t7⟩ := ht'
          have hw := sv_to_wf hA (sv_mw2 t)
          have lie : X.1 113 c = sv_lie A.1 (A.2.1 0) c := by
            rw [t6.2.2.2.1 c hc]
            congr 1
          -- nothing at c: the next cot
          have skip : (t c = 1 → ¬ sv_oc A c) → ∃ b0 b1 T, (b1 = nI (c + 1) ∧ ((b0 = 0 ∧ ∃ t, sv_Tg A f cd S t T ∧ k ≤ sv_ct (sv_mw2 t) 12 ∧ ∀ d, d < c + 1 → t d = 1 → ¬ sv_oc A d) ∨ (b0 = 1 ∧ ∃ t, sv_Tg A f cd S t T ∧ k + 1 ≤ sv_ct (sv_mw2 t) 12))) ∧ rec3 x (nI c + 1) X = rec3 b0 b1 T := by
            intro hno
            refine ⟨_, _, X, ⟨nI_1 c, ?_⟩, rfl⟩
            rcases hk1 with ⟨e, h2, h3⟩ | ⟨e, h2⟩
            · refine Or.inl ⟨e, t, ht, h2, fun d hd => ?_⟩
              rcases Nat.lt_or_ge d c with q | q
              · exact h3 d q
              · have : d = c := by omega
                subst this; exact hno
            · exact Or.inr ⟨e, t, ht, h2⟩
          rw [if_neg (show ¬ nI c ≥ (12 : Int32) from nI_ge (b := 12) hc (by decide)), sv_gi hc (by decide), nI_clamp (by omega), (t1 c hc).1]
          by_cases h1c : t c = 1
          · rw [if_pos (show nI (t c) = 1 by rw [h1c]; rfl), sv_gi hc (by decide), lie]
            rcases sv_lie_r hA c with ⟨s, hs, q1, q2⟩ | ⟨q1, q2⟩
            · rw [q2, if_neg (sv_ng s (by omega)), sv_gi hc (by decide), sv_ls, sv_gi hc (by decide)]
              generalize hX1 : sw_si X 116 c 2 = X1
              have gX1 : sv_rr (fun a => a = 116) (fun _ => False) X X1 := by rw [← hX1]; exact sv_rr_si X 116 _ _ (by decide) rfl
              have r1 := sv_rs_6 t6 gX1
              have l1 : X1.1 113 c = nI s := by rw [(gX1.1 113 (by decide) (by decide)).1, lie, q2]
              have aw0 := (sv_to_aw (A := A) (m := sv_mw2 t) hs).1 (by rw [q1]; unfold sv_mw2; rw [h1c]; rfl)
              have m1 : X1.1 114 s = nI (A.2.1 3 s) := by
                rw [r1.2.2.2.2.1 s hs, sv_to_3 A _ hs, if_neg (by rw [q1]; unfold sv_mw2; rw [h1c]; decide)]
              rw [l1, e9_isAwake N r1 hw hs, sv_bd, l1, nI_clamp (show s < 2 ^ 31 by omega), m1]
              simp only [sv_gi hc (show 12 < 2 ^ 31 by decide), sv_gi (show s < 10 by omega) (show 10 < 2 ^ 31 by decide)]
              rw [e9_heldMind, sv_bd, sv_cl15 _ (hA.2.1 s hs).2.2.2.1, sv_ls, sv_Bc aw0]
              have r2 : sv_rs (sw_si X1 114 s (nI (sv_t5 (A.2.1 3 s)))) (sv_to A (fun x => sv_mw2 t x || decide (x = c))) cd := by
                rw [← sv_to_ad hA hs q1]
                exact sv_rs_st r1 _
              generalize hX2 : sw_si X1 114 s (nI (sv_t5 (A.2.1 3 s))) = X2 at *
              have gX2 : sv_rr (fun a => a = 114) (fun _ => False) X1 X2 := by rw [← hX2]; exact sv_rr_si X1 114 _ _ (by decide) rfl
              have tt : ∀ y, y < 12 → X2.1 116 y = nI ((fun x => if x = c then 2 else t x) y) ∧ (fun x => if x = c then 2 else t x) y ≤ 2 := by
                intro y hy
                constructor
                · rw [(gX2.1 116 (by decide) (by decide)).1, ← hX1, sv_si]
                  show _ = nI (if y = c then 2 else t y)
                  by_cases e : y = c
                  · rw [if_pos ⟨rfl, e⟩, if_pos e]; rfl
                  · rw [if_neg (fun z => e z.2), if_neg e]; exact (t1 y hy).1
                · show (if y = c then 2 else t y) ≤ 2
                  have := (t1 y hy).2
                  split <;> omega
              obtain ⟨Y, hY, y6, gY⟩ := e9_spread N (by omega) hA r2 hs q1 hc (by simp) (t := fun x => if x = c then 2 else t x) tt (fun T => rec3 1 (nI c + 1) T)
              have r3 := sv_rs_6 r2 gY
              have gSY : sv_rr (fun a => a = 114 ∨ a = 116) (fun _ => False) S Y := sv_rr_tr t7 (sv_rr_tr (sv_rr_wk gX1 (fun a ha => Or.inr ha) (fun _ h => h)) (sv_rr_tr (sv_rr_wk gX2 (fun a ha => Or.inl ha) (fun _ h => h)) (sv_rr_wk gY (fun a ha => Or.inr ha) (fun _ h => h))))
              obtain ⟨hnew, hcount⟩ := sv_Tg_s hA ht hs q1 hc h1c r3 y6 gSY
              refine ⟨1, nI (c + 1), Y, ⟨rfl, Or.inr ⟨rfl, _, hnew, ?_⟩⟩, ?_⟩
              · rw [hcount]
                rcases hk1 with ⟨_, h2, _⟩ | ⟨_, h2⟩ <;> omega
              · rw [← nI_1 c, ← hY, nI_clamp (show c < 2 ^ 31 by omega)]
                simp only [sv_gi hc (show 12 < 2 ^ 31 by decide)]
            · rw [q2, if_pos (by decide)]
              exact skip (fun _ z => absurd z (fun ⟨t, ht, e⟩ => q1 t ht e))
          · rw [if_neg (show ¬ nI (t c) = 1 from fun z => h1c ((nI_eq (b := 1) (by have := (t1 c hc).2; omega) (by decide)).mp z))]
            exact skip (fun z => absurd z h1c)
        · rintro x y X rec3 ⟨rfl, hx⟩
          rw [if_pos (show nI 12 ≥ (12 : Int32) from Int32.le_refl _)]
          left
          rcases hx with ⟨rfl, t, h1, h2, h3⟩ | ⟨rfl, t, h1, h2⟩
          · exact ⟨0, X, Or.inr ⟨rfl, t, h1, h3⟩, rfl⟩
          · exact ⟨1, X, Or.inl ⟨rfl, t, h1, h2⟩, rfl⟩
      · rw [if_pos rfl]
        right
        exact ⟨W, t, rfl, sv_Tg_end hf ht hA hno, ht.2.2.2.2.2.1, ht.1, ht.2.2.2.2.2.2⟩
    · rintro x W rec2 (⟨rfl, t, ht, hct⟩ | ⟨rfl, t, ht, hno⟩)
      · have := sv_ct_le (sv_mw2 t) 12
        omega
      · rw [if_pos rfl]
        exact ⟨W, t, rfl, sv_Tg_end hf ht hA hno, ht.2.2.2.2.2.1, ht.1, ht.2.2.2.2.2.2⟩
theorem e9_touchedMany (N : Nat) (hN : 20 ≤ N) {S : sw_St} {t : Nat → Nat} (h : ∀ c, c < 12 → S.1 116 c = nI (t c) ∧ t c ≤ 2) : fX9_touchedMany N S = some (nI (sv_ct (sv_mw2 t) 12), S) := by
  unfold fX9_touchedMany
  refine sv_fr2 (Q := fun r => r = some (nI (sv_ct (sv_mw2 t) 12), S)) (fun k x y W => x = nI (sv_ct (sv_mw2 t) k) ∧ y = nI k ∧ W = S) 12 ?_ ?_ N _ _ S (by omega) ⟨rfl, rfl, rfl⟩
  · rintro k x y W rec hk ⟨rfl, rfl, rfl⟩
    left
    rw [if_neg (show ¬ nI k ≥ (12 : Int32) from nI_ge (b := 12) hk (by decide)), sv_gi hk (by decide), nI_clamp (by omega), (h k hk).1, sv_li, sv_li]
    have h2 := (h k hk).2
    by_cases e : t k = 2
    · rw [if_pos (show nI (t k) = 2 by rw [e]; rfl)]
      refine ⟨_, _, W, ⟨?_, nI_1 k, rfl⟩, rfl⟩
      rw [nI_1]
      show _ = nI (sv_ct (sv_mw2 t) k + (if sv_mw2 t k = true then 1 else 0))
      rw [if_pos (by unfold sv_mw2; rw [e]; rfl)]
    · rw [if_neg (show ¬ nI (t k) = 2 from fun z => e ((nI_eq (b := 2) (by omega) (by decide)).mp z))]
      refine ⟨_, _, W, ⟨?_, nI_1 k, rfl⟩, rfl⟩
      rw [show nI (sv_ct (sv_mw2 t) k) + (0 : Int32) = nI (sv_ct (sv_mw2 t) k) from Int32.add_zero _]
      show _ = nI (sv_ct (sv_mw2 t) k + (if sv_mw2 t k = true then 1 else 0))
      rw [if_neg (by unfold sv_mw2; simp [e])]
      rfl
  · rintro x y W rec ⟨rfl, rfl, rfl⟩
    rw [if_pos (show nI 12 ≥ (12 : Int32) from Int32.le_refl _)]
/-- who is awake behind a touch, and was not: those woken -/
theorem sv_woke {A : sv_A} (hA : sv_wf A) (m : Nat → Bool) : nI (sv_awb (sv_to A m)) &&& (nI (sv_awb A) ^^^ (-1 : Int32)) = nI (sv_wb (sv_ww A m) 12) := by
  have hn := hA.1
  show nI (sv_wb (fun s => decide (sv_aw (sv_to A m) s)) A.1) &&& (nI (sv_wb (fun s => decide (sv_aw A s)) A.1) ^^^ (-1 : Int32)) = _
  rw [sv_new _ _ (by omega) (by omega)]
  congr 1
  refine sv_wb_congr 12 (fun s _ => ?_)
  unfold sv_ww
  by_cases hs : s < A.1
  · cases hm : m (A.2.1 0 s)
    · have := (sv_to_aw (A := A) (m := m) hs).1 hm
      by_cases a : sv_aw A s
      · simp [hs, a]
      · have : ¬ sv_aw (sv_to A m) s := fun z => a (this.mp z)
        simp [hs, this]
    · have := (sv_to_aw (A := A) (m := m) hs).2 hm
      by_cases a : sv_aw A s
      · have hk : ¬ sv_wk A s := fun z => z.1 a
        simp [hs, a, hk]
      · by_cases a1 : A.2.2 1 < sv_t5 (A.2.1 3 s)
        · have h1 : sv_aw (sv_to A m) s := this.mpr a1
          have hk : sv_wk A s := ⟨a, a1⟩
          simp [hs, a, h1, hk]
        · have h1 : ¬ sv_aw (sv_to A m) s := fun z => a1 (this.mp z)
          have hk : ¬ sv_wk A s := fun z => a1 z.2
          simp [hs, h1, hk]
  · simp [hs]
theorem op_woken (N : Nat) (hN : 5000 ≤ N) {S : sw_St} (h : sv_rel S) (x y : Int32) : sv_ok (fX8_woken N x y) (fX9_woken N x y) S := by
  have hs := h
  obtain ⟨A, L, b, h⟩ := h
  have hr := h
  obtain ⟨h1, h2, h3, h4, h5, h6, h7, h8, h9, h10⟩ := h
  unfold sv_ok fX8_woken fX9_woken
  rw [sv_64_0, sv_64_1]
  simp only [e8_isCot, e9_isCot, e8_within, e9_within, sv_bd, sv_Bi]
  by_cases hx : 0 ≤ x ∧ x ≤ 11
  · rw [if_pos hx]
    by_cases hy : 0 ≤ y ∧ y ≤ 1
    · obtain ⟨f, hf, rfl⟩ := sv_rg 11 (by decide) hx.1 hx.2
      rw [if_pos hy]
      obtain ⟨V, hV, v1, v2⟩ := e7_fresh N h2
      obtain ⟨W, m, hW, w1, w2, w3, w4⟩ := e4_touchFrom N (by omega) v1 h1 (show f < 12 by omega)
      have gW : sv_ag sv_tq S W := sv_ag_tr (sv_ag_wk v2 (fun a ha => by unfold sv_tq; omega)) (sv_ag_wk w4 (fun a ha => by unfold sv_tq; omega))
      obtain ⟨X, hX, x1, x2⟩ := e9_beginsq N (by omega) (sv_mr_tq h3 gW) h1
      obtain ⟨Y, t, hY, y1, y2, y3, y4⟩ := e9_isTouched N (by omega) x1 h1 (show f < 12 by omega)
      have mt : ∀ c, c < 12 → m c = sv_mw2 t c := fun c hc => Bool.eq_iff_iff.mpr ((w1 c hc).trans (y1 c hc).symm)
      rw [hV, sv_bd, show (decide (sw_kd 29 = 4)) = true from rfl, sv_gt, hW, sv_bd, w3]
      have hrel : sv_rel Y := sv_rel_tq hr gW (sv_rr_tr x2 (sv_rr_wk y4 (fun a ha => by unfold sv_rq; omega) (fun _ h => h.elim)))
      by_cases hy0 : y = 0
      · rw [if_pos hy0]
        refine ⟨_, W, Y, rfl, ?_, hrel⟩
        rw [if_pos hx, if_pos hy, hX, sv_bd, e9_awakeSet N (by omega) x1 h1, sv_bd, hY, sv_bd, if_pos hy0, e9_awakeSet N (by omega) y2 (sv_to_wf h1 _), sv_bd, sv_woke h1]
        congr 3
        exact sv_wb_congr 12 (fun s _ => sv_ww_congr h1 (fun c hc => (mt c hc).symm) s)
      · rw [if_neg hy0]
        refine ⟨_, W, Y, rfl, ?_, hrel⟩
        rw [if_pos hx, if_pos hy, hX, sv_bd, e9_awakeSet N (by omega) x1 h1, sv_bd, hY, sv_bd, if_neg hy0, e9_touchedMany N (by omega) y3, sv_bd]
        congr 3
        exact sv_ct_congr 12 (fun c hc => (mt c hc).symm)
    · rw [if_neg hy]
      exact ⟨_, S, S, rfl, by rw [if_pos hx, if_neg hy], hs⟩
  · rw [if_neg hx]
    exact ⟨_, S, S, rfl, by rw [if_neg hx], hs⟩
