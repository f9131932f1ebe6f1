/-! lines: the reference -/
/-- is the set kept: the reference's loops over its cots -/
theorem e9_isApart (N : Nat) (hN : 100 ≤ N) {V : sw_St} {A : sv_A} {cd : Int32} (h : sv_rs V A cd) (hA : sv_wf A) {x : Nat} (hx : x < 4096) {C : Prop} {ρ : Type} (R0 R1 : sw_St → Option ρ) (y1 : Int32) (hy : (C ∧ y1 = 1) ∨ (¬ C ∧ y1 = 0)) : (sw_fx2 (fun rec2 x4_1 x5_1 S8 => (if x5_1 ≥ (12 : Int32) then (if x4_1 = 0 then (R0 S8) else (R1 S8)) else (if x4_1 = 0 then (if x4_1 = 0 then (R0 S8) else (R1 S8)) else (sw_bd (fX9_isIn N (nI x) x5_1 S8) (fun r6 S9 => (sw_jn1 (fun y2 S10 => (sw_fx2 (fun rec3 x4_2 x6_1 S11 => (if x6_1 ≥ x5_1 then (rec2 x4_2 (x5_1 + (1 : Int32)) S11) else (if x4_2 = 0 then (rec3 (0 : Int32) (x6_1 + (1 : Int32)) S11) else (sw_bd (fX9_isIn N (nI x) x5_1 S11) (fun r7 S12 => (if r7 = 0 then (rec3 (1 : Int32) (x6_1 + (1 : Int32)) S12) else (sw_bd (fX9_isIn N (nI x) x6_1 S12) (fun r8 S13 => (if r8 = 0 then (rec3 (1 : Int32) (x6_1 + (1 : Int32)) S13) else (sw_bd (fX9_areBeside N x5_1 x6_1 S13) (fun r9 S14 => (if r9 = 0 then (rec3 (1 : Int32) (x6_1 + (1 : Int32)) S14) else (rec3 (0 : Int32) (x6_1 + (1 : Int32)) S14))))))))))))) N y2 (0 : Int32) S10)) (fun k2 => (if r6 = 0 then (k2 (1 : Int32) S9) else (sw_gd (sw_in x5_1 12) (if (S9.1 113 x5_1.toNatClampNeg) < 0 then (k2 (0 : Int32) S9) else (k2 (1 : Int32) S9))))))))))) N y1 (0 : Int32) V) = @ite _ (C ∧ sv_okx A x) (Classical.propDecidable _) (R1 V) (R0 V) := by
  have yes : (C ∧ sv_okx A x) → ∀ r, r = R1 V → r = @ite _ (C ∧ sv_okx A x) (Classical.propDecidable _) (R1 V) (R0 V) := fun z r hr => by rw [hr]; exact (@if_pos _ (Classical.propDecidable _) z _ _ _).symm
  have no : ¬ (C ∧ sv_okx A x) → ∀ r, r = R0 V → r = @ite _ (C ∧ sv_okx A x) (Classical.propDecidable _) (R1 V) (R0 V) := fun z r hr => by rw [hr]; exact (@if_neg _ (Classical.propDecidable _) z _ _ _).symm
  refine sv_fr2 (Q := fun r => r = @ite _ (C ∧ sv_okx A x) (Classical.propDecidable _) (R1 V) (R0 V)) (fun c a b T => b = nI c ∧ T = V ∧ ((a = 1 ∧ C ∧ ∀ d, d < c → sv_gd1 A x d) ∨ (a = 0 ∧ ¬ (C ∧ sv_okx A x)))) 12 ?_ ?_ N _ _ V (by omega) ⟨rfl, rfl, ?_⟩
  · rintro c a b T rec2 hc ⟨rfl, rfl, ⟨rfl, hC, hg⟩ | ⟨rfl, hno⟩⟩
    · left
      have l3 : T.1 113 c = sv_lie A.1 (A.2.1 0) c := h.2.2.2.1 c hc
      rw [if_neg (show ¬ nI c ≥ (12 : Int32) from nI_ge (b := 12) hc (by decide)), if_neg sv_nz, e9_isIn N hx hc, sv_bd, sv_jn1, sv_Bi]
      have ext : sv_gd1 A x c → ∀ d, d < c + 1 → sv_gd1 A x d := fun z d hd => by
        by_cases e : d = c
        · rw [e]; exact z
        · exact hg d (by omega)
      -- the inner loop from a flag
      have inner : ∀ (f : Int32) (F : Prop), (F ∧ f = 1) ∨ (¬ F ∧ f = 0) → (F ∧ (∀ o, o < c → ¬ (x.testBit c = true ∧ x.testBit o = true ∧ (sv_bes.getD c 0).testBit o = true)) ↔ sv_gd1 A x c) → ∃ b0 b1 W, (b1 = nI (c + 1) ∧ W = T ∧ ((b0 = 1 ∧ C ∧ ∀ d, d < c + 1 → sv_gd1 A x d) ∨ (b0 = 0 ∧ ¬ (C ∧ sv_okx A x)))) ∧ (sw_fx2 (fun rec3 x4_2 x6_1 S11 => (if x6_1 ≥ nI c then (rec2 x4_2 (nI c + (1 : Int32)) S11) else (if x4_2 = 0 then (rec3 (0 : Int32) (x6_1 + (1 : Int32)) S11) else (sw_bd (fX9_isIn N (nI x) (nI c) S11) (fun r7 S12 => (if r7 = 0 then (rec3 (1 : Int32) (x6_1 + (1 : Int32)) S12) else (sw_bd (fX9_isIn N (nI x) x6_1 S12) (fun r8 S13 => (if r8 = 0 then (rec3 (1 : Int32) (x6_1 + (1 : Int32)) S13) else (sw_bd (fX9_areBeside N (nI c) x6_1 S13) (fun r9 S14 => (if r9 = 0 then (rec3 (1 : Int32) (x6_1 + (1 : Int32)) S14) else (rec3 (0 : Int32) (x6_1 + (1 : Int32)) S14))))))))))))) N f (0 : Int32) T) = rec2 b0 b1 W := by
        intro f F hf hiff
        refine sv_fr2 (Q := fun r => ∃ b0 b1 W, (b1 = nI (c + 1) ∧ W = T ∧ ((b0 = 1 ∧ C ∧ ∀ d, d < c + 1 → sv_gd1 A x d) ∨ (b0 = 0 ∧ ¬ (C ∧ sv_okx A x)))) ∧ r = rec2 b0 b1 W) (fun o a b W => b = nI o ∧ W = T ∧ ((a = 1 ∧ F ∧ ∀ d, d < o → ¬ (x.testBit c = true ∧ x.testBit d = true ∧ (sv_bes.getD c 0).testBit d = true)) ∨ (a = 0 ∧ ¬ sv_gd1 A x c))) c ?_ ?_ N _ _ T (by omega) ⟨rfl, rfl, ?_⟩
        · rintro o a b W rec3 ho ⟨rfl, rfl, ⟨rfl, hF, hd⟩ | ⟨rfl, hn⟩⟩
          · left
            rw [if_neg (show ¬ nI o ≥ nI c from nI_ge ho (by omega)), if_neg sv_nz, e9_isIn N hx hc, sv_bd, sv_Bi]
            have on : ¬ (x.testBit c = true ∧ x.testBit o = true ∧ (sv_bes.getD c 0).testBit o = true) → ∃ b0 b1 T', (b1 = nI (o + 1) ∧ T' = W ∧ ((b0 = 1 ∧ F ∧ ∀ d, d < o + 1 → ¬ (x.testBit c = true ∧ x.testBit d = true ∧ (sv_bes.getD c 0).testBit d = true)) ∨ (b0 = 0 ∧ ¬ sv_gd1 A x c))) ∧ rec3 (1 : Int32) (nI o + 1) W = rec3 b0 b1 T' := fun z => ⟨_, _, W, ⟨nI_1 o, rfl, Or.inl ⟨rfl, hF, fun d hd' => by
              by_cases e : d = o
              · rw [e]; exact z
              · exact hd d (by omega)⟩⟩, rfl⟩
            by_cases g1 : x.testBit c = true
            · rw [if_pos g1, e9_isIn N hx (by omega), sv_bd, sv_Bi]
              by_cases g2 : x.testBit o = true
              · rw [if_pos g2, e9_areBeside N hc (by omega), sv_bd, sv_Bi]
                by_cases g3 : (sv_bes.getD c 0).testBit o = true
                · rw [if_pos g3]
                  exact ⟨_, _, W, ⟨nI_1 o, rfl, Or.inr ⟨rfl, fun z => (hiff.mpr z).2 o ho ⟨g1, g2, g3⟩⟩⟩, rfl⟩
                · rw [if_neg g3]
                  exact on (fun z => g3 z.2.2)
              · rw [if_neg g2]
                exact on (fun z => g2 z.2.1)
            · rw [if_neg g1]
              exact on (fun z => g1 z.1)
          · left
            rw [if_neg (show ¬ nI o ≥ nI c from nI_ge ho (by omega)), if_pos rfl]
            exact ⟨_, _, W, ⟨nI_1 o, rfl, Or.inr ⟨rfl, hn⟩⟩, rfl⟩
        · rintro a b W rec3 ⟨rfl, rfl, hq⟩
          rw [if_pos (show nI c ≥ nI c from Int32.le_refl _), nI_1]
          rcases hq with ⟨rfl, hF, hd⟩ | ⟨rfl, hn⟩
          · exact ⟨_, _, W, ⟨rfl, rfl, Or.inl ⟨rfl, hC, ext (hiff.mp ⟨hF, hd⟩)⟩⟩, rfl⟩
          · exact ⟨_, _, W, ⟨rfl, rfl, Or.inr ⟨rfl, fun z => hn (sv_gd1_ok.mpr z.2 c hc)⟩⟩, rfl⟩
        · rcases hf with ⟨hF, rfl⟩ | ⟨hF, rfl⟩
          · exact Or.inl ⟨rfl, hF, fun d hd => absurd hd (Nat.not_lt_zero d)⟩
          · exact Or.inr ⟨rfl, fun z => hF (hiff.mpr z).1⟩
      by_cases g1 : x.testBit c = true
      · rw [if_pos g1, sv_gi hc (by decide), nI_clamp (by omega), l3]
        have hiff : ∀ F : Prop, (F ↔ 0 ≤ sv_lie A.1 (A.2.1 0) c) → (F ∧ (∀ o, o < c → ¬ (x.testBit c = true ∧ x.testBit o = true ∧ (sv_bes.getD c 0).testBit o = true)) ↔ sv_gd1 A x c) := fun F hF => ⟨fun z _ => ⟨hF.mp z.1, fun o ho y => z.2 o ho ⟨g1, y⟩⟩, fun z => ⟨hF.mpr (z g1).1, fun o ho y => (z g1).2 o ho y.2⟩⟩
        rcases sv_lie_r hA c with ⟨s, hs, q1, q2⟩ | ⟨q1, q2⟩
        · have p0 : (0 : Int32) ≤ nI s := nI_pos' (by have := hA.1; omega)
          rw [q2, if_neg (sv_ng s (by have := hA.1; omega))]
          exact inner 1 True (Or.inl ⟨trivial, rfl⟩) (hiff True (by rw [q2]; exact ⟨fun _ => p0, fun _ => trivial⟩))
        · rw [q2, if_pos (by decide)]
          exact inner 0 False (Or.inr ⟨fun z => z, rfl⟩) (hiff False (by rw [q2]; exact ⟨fun z => z.elim, fun z => absurd z (by decide)⟩))
      · rw [if_neg g1]
        exact inner 1 True (Or.inl ⟨trivial, rfl⟩) ⟨fun _ z => absurd z g1, fun _ => ⟨trivial, fun o ho z => g1 z.1⟩⟩
    · right
      rw [if_neg (show ¬ nI c ≥ (12 : Int32) from nI_ge (b := 12) hc (by decide)), if_pos rfl, if_pos rfl]
      exact no hno _ rfl
  · rintro a b T rec2 ⟨rfl, rfl, ⟨rfl, hC, hg⟩ | ⟨rfl, hno⟩⟩
    · rw [if_pos (show nI 12 ≥ (12 : Int32) from Int32.le_refl _), if_neg sv_nz]
      exact yes ⟨hC, sv_gd1_ok.mp hg⟩ _ rfl
    · rw [if_pos (show nI 12 ≥ (12 : Int32) from Int32.le_refl _), if_pos rfl]
      exact no hno _ rfl
  · rcases hy with ⟨hC, rfl⟩ | ⟨hC, rfl⟩
    · exact Or.inl ⟨rfl, hC, fun d hd => absurd hd (Nat.not_lt_zero d)⟩
    · exact Or.inr ⟨rfl, fun z => hC z.1⟩
theorem e9_lines (N : Nat) (hN : 5000 ≤ N) {S : sw_St} {A : sv_A} (h : sv_mr S A) (hA : sv_wf A) (p : Int32) (hp : -2 ≤ p ∧ p ≤ 18) : ∃ V, sv_rr sv_rq sv_F S V ∧ (p < 0 → fX9_lines N p S = some (if p = -1 then nI (sv_cb (sv_ba A 4096)) else nI (sv_ba A 4096), V)) ∧ (∀ x, x ≤ 18 → p = nI x → fX9_lines N p S = some (nI (sv_sum (fun c => sv_sum (fun o => sv_pp A x c o) c) 12), V)) := by
  have h10 := hA.1
  obtain ⟨V, hV, v1, v2⟩ := e9_beginsq N (by omega) h hA
  refine ⟨V, v2, fun hneg => ?_, fun x hx hpx => ?_⟩
  · unfold fX9_lines
    rw [show fX9_within N p.toInt64 (-2 : Int64) (18 : Int64) S = _ from e9_within N p (-2) 18 S, sv_bd, sv_Bi, if_pos hp, hV, sv_bd, if_pos hneg]
    refine sv_fr2 (Q := fun r => r = some (if p = -1 then nI (sv_cb (sv_ba A 4096)) else nI (sv_ba A 4096), V)) (fun k a b T => a = nI (sv_ba A k) ∧ b = nI k ∧ T = V) 4096 ?_ ?_ N _ _ V (by omega) ⟨rfl, rfl, rfl⟩
    · rintro k a b T rec hk ⟨rfl, rfl, rfl⟩
      left
      have hbl := sv_ba_le A k
      have l1 : sv_cb k ≤ 12 := sv_ct_le (fun i => k.testBit i) 12
      have l2 : sv_cb (sv_ba A k) ≤ 12 := sv_ct_le (fun i => (sv_ba A k).testBit i) 12
      rw [if_neg (show ¬ nI k ≥ (4096 : Int32) from nI_ge (b := 4096) hk (by decide)), e9_bitsOf N (by omega) hk, sv_bd, e9_bitsOf N (by omega) (show sv_ba A k < 4096 by omega), sv_bd, sv_jn1]
      have fin : ∀ y1 : Int32, (sv_cb (sv_ba A k) < sv_cb k ∧ y1 = 1) ∨ (¬ sv_cb (sv_ba A k) < sv_cb k ∧ y1 = 0) → ∀ r, r = @ite _ (sv_cb (sv_ba A k) < sv_cb k ∧ sv_okx A k) (Classical.propDecidable _) (rec (nI k) (nI k + 1) T) (rec (nI (sv_ba A k)) (nI k + 1) T) → ∃ b0 b1 T', (b0 = nI (sv_ba A (k + 1)) ∧ b1 = nI (k + 1) ∧ T' = T) ∧ r = rec b0 b1 T' := by
        intro y1 _ r hr
        by_cases z : sv_cb (sv_ba A k) < sv_cb k ∧ sv_okx A k
        · rw [@if_pos _ (Classical.propDecidable _) z _ _ _] at hr
          exact ⟨_, _, T, ⟨by rw [sv_ba_y ⟨z.2, z.1⟩], nI_1 k, rfl⟩, hr⟩
        · rw [@if_neg _ (Classical.propDecidable _) z _ _ _] at hr
          exact ⟨_, _, T, ⟨by rw [sv_ba_n (fun q => z ⟨q.2, q.1⟩)], nI_1 k, rfl⟩, hr⟩
      by_cases g : sv_cb (sv_ba A k) < sv_cb k
      · rw [if_neg (show ¬ nI (sv_cb k) ≤ nI (sv_cb (sv_ba A k)) from fun z => by have := (nI_leI (by omega) (by omega)).mp z; omega)]
        exact fin 1 (Or.inl ⟨g, rfl⟩) _ (e9_isApart N (by omega) v1 hA hk (C := sv_cb (sv_ba A k) < sv_cb k) (fun S8 => rec (nI (sv_ba A k)) (nI k + 1) S8) (fun S8 => rec (nI k) (nI k + 1) S8) 1 (Or.inl ⟨g, rfl⟩))
      · rw [if_pos (show nI (sv_cb k) ≤ nI (sv_cb (sv_ba A k)) from (nI_leI (by omega) (by omega)).mpr (by omega))]
        exact fin 0 (Or.inr ⟨g, rfl⟩) _ (e9_isApart N (by omega) v1 hA hk (C := sv_cb (sv_ba A k) < sv_cb k) (fun S8 => rec (nI (sv_ba A k)) (nI k + 1) S8) (fun S8 => rec (nI k) (nI k + 1) S8) 0 (Or.inr ⟨g, rfl⟩))
    · rintro a b T rec ⟨ea, eb, eT⟩
      have hb : ∀ k, k = 4096 → sv_ba A k < 4096 := by
        intro k hk
        obtain ⟨j, rfl⟩ : ∃ j, k = j + 1 := ⟨k - 1, by omega⟩
        have := sv_ba_le A j
        by_cases z : sv_okx A j ∧ sv_cb (sv_ba A j) < sv_cb j
        · rw [sv_ba_y z]; omega
        · rw [sv_ba_n z]; omega
      have hb := hb 4096 rfl
      rw [ea, eb, eT, if_pos (show nI 4096 ≥ (4096 : Int32) by decide)]
      generalize sv_ba A 4096 = q at *
      by_cases p1 : p = -1
      · rw [if_pos p1, if_pos p1, e9_bitsOf N (by omega) hb, sv_bd]
      · rw [if_neg p1, if_neg p1]
  · subst hpx
    have np : ¬ nI x < (0 : Int32) := sv_ng x (by omega)
    unfold fX9_lines
    rw [show fX9_within N (nI x).toInt64 (-2 : Int64) (18 : Int64) S = _ from e9_within N (nI x) (-2) 18 S, sv_bd, sv_Bi, if_pos hp, hV, sv_bd, if_neg np]
    have lv : ∀ c, c < 12 → V.1 113 c = sv_lie A.1 (A.2.1 0) c := v1.2.2.2.1
    have dv : ∀ s, s < 10 → V.1 106 (10 + s) = nI (A.2.1 1 s) := fun s hs => (v1.2.1 s hs).1
    refine sv_fr2 (Q := fun r => r = some (nI (sv_sum (fun c => sv_sum (fun o => sv_pp A x c o) c) 12), V)) (fun c u v T => u = nI (sv_sum (fun c => sv_sum (fun o => sv_pp A x c o) c) c) ∧ v = nI c ∧ T = V) 12 ?_ ?_ N _ _ V (by omega) ⟨rfl, rfl, rfl⟩
    · rintro c u v T rec hc ⟨rfl, rfl, rfl⟩
      left
      rw [if_neg (show ¬ nI c ≥ (12 : Int32) from nI_ge (b := 12) hc (by decide))]
      have es0 : sv_sum (fun c => sv_sum (fun o => sv_pp A x c o) c) (c + 1) = sv_sum (fun c => sv_sum (fun o => sv_pp A x c o) c) c + sv_sum (fun o => sv_pp A x c o) c := rfl
      rw [es0]
      generalize sv_sum (fun c => sv_sum (fun o => sv_pp A x c o) c) c = q
      refine sv_fr2 (Q := fun r => ∃ b0 b1 T', (b0 = nI (q + sv_sum (fun o => sv_pp A x c o) c) ∧ b1 = nI (c + 1) ∧ T' = T) ∧ r = rec b0 b1 T') (fun o u v W => u = nI (q + sv_sum (fun o => sv_pp A x c o) o) ∧ v = nI o ∧ W = T) c ?_ ?_ N _ _ T (by omega) ⟨rfl, rfl, rfl⟩
      · rintro o u v W rec2 ho ⟨rfl, rfl, rfl⟩
        left
        have ho12 : o < 12 := by omega
        have es : ∀ v, sv_pp A x c o = v → q + sv_sum (fun o => sv_pp A x c o) (o + 1) = q + sv_sum (fun o => sv_pp A x c o) o + v := fun v hv => by
          show q + (_ + sv_pp A x c o) = _
          rw [hv]; omega
        have zero : sv_pp A x c o = 0 → ∃ b0 b1 T', (b0 = nI (q + sv_sum (fun o => sv_pp A x c o) (o + 1)) ∧ b1 = nI (o + 1) ∧ T' = W) ∧ (sw_li (nI (q + sv_sum (fun o => sv_pp A x c o) o) + (0 : Int32)) (fun x2_4 => (rec2 x2_4 (nI o + (1 : Int32)) W))) = rec2 b0 b1 T' := fun z => ⟨_, _, W, ⟨by rw [es 0 z, Nat.add_zero]; exact Int32.add_zero _, nI_1 o, rfl⟩, rfl⟩
        rw [if_neg (show ¬ nI o ≥ nI c from nI_ge ho (by omega)), e9_areBeside N hc ho12, sv_bd, sv_Bi]
        by_cases g1 : (sv_bes.getD c 0).testBit o = true
        · rw [if_pos g1, sv_gi hc (by decide), nI_clamp (show c < 2 ^ 31 by omega), lv c hc]
          rcases sv_lie_r hA c with ⟨s, hs, q1, q2⟩ | ⟨q1, q2⟩
          · rw [q2, if_neg (sv_ng s (by omega)), sv_gi ho12 (by decide), nI_clamp (show o < 2 ^ 31 by omega), lv o ho12]
            rcases sv_lie_r hA o with ⟨t, ht, r1, r2⟩ | ⟨r1, r2⟩
            · have d1 := (hA.2.1 s hs).2.1
              have d2 := (hA.2.1 t ht).2.1
              have i1 : (10 : Int32) + nI s = nI (10 + s) := nI_add 10 s
              have i2 : (10 : Int32) + nI t = nI (10 + t) := nI_add 10 t
              rw [r2, if_neg (sv_ng t (by omega)), sv_gi hc (by decide), i1, i2, sv_gi (by omega) (by decide), sv_gi ho12 (by decide), sv_gi (by omega) (by decide), nI_clamp (by omega), nI_clamp (by omega), dv s (by omega), dv t (by omega), nI_add]
              by_cases hsum : x ≤ A.2.1 1 s + A.2.1 1 t
              · rw [if_neg (show ¬ nI (A.2.1 1 s + A.2.1 1 t) < nI x from Int32.not_lt.mpr ((nI_leI (by omega) (by omega)).mpr hsum)), sv_li, nI_1]
                have e := es 1 (by
                  unfold sv_pp
                  rw [q2, r2, nI_clamp (by omega), nI_clamp (by omega)]
                  exact if_pos ⟨g1, nI_pos' (by omega), nI_pos' (by omega), hsum⟩)
                exact ⟨_, _, W, ⟨by rw [e], nI_1 o, rfl⟩, rfl⟩
              · rw [if_pos (show nI (A.2.1 1 s + A.2.1 1 t) < nI x from Int32.not_le.mp (fun z => by have := (nI_leI (by omega) (by omega)).mp z; omega))]
                exact zero (by
                  unfold sv_pp
                  rw [q2, r2, nI_clamp (by omega), nI_clamp (by omega)]
                  exact if_neg (fun z => hsum z.2.2.2))
            · rw [r2, if_pos (by decide)]
              exact zero (by unfold sv_pp; rw [r2]; exact if_neg (fun z => absurd z.2.2.1 (by decide)))
          · rw [q2, if_pos (by decide)]
            exact zero (by unfold sv_pp; rw [q2]; exact if_neg (fun z => absurd z.2.1 (by decide)))
        · rw [if_neg g1]
          exact zero (by unfold sv_pp; exact if_neg (fun z => g1 z.1))
      · rintro u v W rec2 ⟨rfl, rfl, rfl⟩
        rw [if_pos (show nI c ≥ nI c from Int32.le_refl _)]
        exact ⟨_, _, W, ⟨rfl, nI_1 c, rfl⟩, rfl⟩
    · rintro u v T rec ⟨eu, ev, eT⟩
      rw [eu, ev, eT, if_pos (show nI 12 ≥ (12 : Int32) from Int32.le_refl _)]
theorem op_lines (N : Nat) (hN : 5000 ≤ N) {S : sw_St} (h : sv_rel S) (x : Int32) : sv_ok (fX8_lines N x) (fX9_lines N x) S := by
  have hs := h
  obtain ⟨A, L, b, h⟩ := h
  have hr := h
  obtain ⟨h1, h2, h3, h4, h5, h6, h7, h8, h9, h10⟩ := h
  unfold sv_ok fX8_lines
  rw [e8_within, sv_bd, sv_Bi]
  by_cases hx : -2 ≤ x ∧ x ≤ 18
  · obtain ⟨V, v1, v2, v3⟩ := e9_lines N hN h3 h1 x hx
    rw [if_pos hx]
    by_cases hneg : x < 0
    · refine ⟨_, S, V, ?_, v2 hneg, sv_rel_tw hr sv_ag_rf v1⟩
      rw [if_pos hneg, e4_mostApart N hN h2 h1, sv_bd]
      have hb : ∀ k, k = 4096 → sv_ba A k < 4096 := by
        intro k hk
        obtain ⟨j, rfl⟩ : ∃ j, k = j + 1 := ⟨k - 1, by omega⟩
        have := sv_ba_le A j
        by_cases z : sv_okx A j ∧ sv_cb (sv_ba A j) < sv_cb j
        · rw [sv_ba_y z]; omega
        · rw [sv_ba_n z]; omega
      have hb := hb 4096 rfl
      generalize sv_ba A 4096 = q at *
      by_cases p1 : x = -1
      · rw [if_pos p1, if_pos p1, e6_bc N hb, sv_bd]
      · rw [if_neg p1, if_neg p1]
    · have h0 : (0 : Int32) ≤ x := Int32.not_lt.mp hneg
      obtain ⟨k, hk, rfl⟩ := sv_rg 18 (by decide) h0 hx.2
      refine ⟨_, S, V, ?_, v3 k hk rfl, sv_rel_tw hr sv_ag_rf v1⟩
      rw [if_neg hneg, e4_pairsOf N (by omega) h2 h1 hk, sv_bd, sv_pp_eq h1]
  · rw [if_neg hx]
    refine ⟨_, S, S, rfl, ?_, hs⟩
    unfold fX9_lines
    rw [show fX9_within N x.toInt64 (-2 : Int64) (18 : Int64) S = _ from e9_within N x (-2) 18 S, sv_bd, sv_Bi, if_neg hx]
