/-! bestRound: the class's plan -/
def sv_bq (S : sw_St) (n : Nat) (B : sv_be) : Prop := S.1 23 0 = nI B.1 ∧ S.1 23 1 = nI B.2.1 ∧ B.1 ≤ 1000000 ∧ B.2.1 ≤ 1000000 ∧ (B.1 ≠ 1000000 → ∀ i, i < n → S.1 24 i = nI (B.2.2 i))
theorem sv_bq_ag {P : Nat → Prop} {S T : sw_St} {n : Nat} {B : sv_be} (h : sv_bq S n B) (g : sv_ag P S T) (h1 : ¬ P 23) (h2 : ¬ P 24) : sv_bq T n B := by
  unfold sv_bq
  rw [(g 23 h1).1, (g 24 h2).1]
  exact h
theorem sv_sum_le {f : Nat → Nat} {n : Nat} (h : ∀ s, s < n → f s ≤ 99) : sv_sum f n ≤ 99 * n := by
  induction n with
  | zero => exact Nat.le_refl _
  | succ n ih =>
    have := ih (fun s hs => h s (by omega))
    have := h n (by omega)
    simp only [sv_sum]
    omega
theorem sv_sm9 {A : sv_A} (hA : sv_wf A) : sv_sum (A.2.1 3) A.1 ≤ 990 := by
  have := sv_sum_le (f := A.2.1 3) (n := A.1) (fun s hs => (hA.2.1 s hs).2.2.2.1)
  have := hA.1
  omega
theorem sv_cg3 : sw_cg (0 : Int32) (0 : Int32) (3 : Int32) 3 3 = true := sv_cg (sp := 0) (dp := 0) (n := 3) (by decide) (by decide) (by decide) (by decide)
theorem e7_isBetter (N : Nat) (hN : 20 ≤ N) {S : sw_St} {o n : Nat} {A : sv_A} (h : sv_nc S o A) (hA : sv_wf A) {B : sv_be} (hB : sv_bq S n B) : (sv_bt A B → fX7_isBetter N o S = some (1, sw_si (sw_si S 23 0 (nI (sv_na A))) 23 1 (nI (sv_sum (A.2.1 3) A.1)))) ∧ (¬ sv_bt A B → fX7_isBetter N o S = some (0, S)) := by
  have n1 := sv_na_le A
  have n2 := sv_sm9 hA
  obtain ⟨b1, b2, b3, b4, -⟩ := hB
  unfold fX7_isBetter
  rw [e4_howManyAwake N hN h hA, sv_bd, e4_mindOfAll N hN h hA, sv_bd, b1, b2]
  unfold sv_bt
  rcases Nat.lt_trichotomy (sv_na A) B.1 with q | q | q
  · rw [if_neg (show ¬ nI (sv_na A) > nI B.1 from Int32.not_lt.mpr ((nI_leI (by omega) (by omega)).mpr (by omega))), if_neg (show ¬ nI (sv_na A) = nI B.1 from fun z => by have := (nI_eq (by omega) (by omega)).mp z; omega), sv_ls, sv_ls]
    exact ⟨fun _ => rfl, fun z => absurd (Or.inl q) z⟩
  · rw [if_neg (show ¬ nI (sv_na A) > nI B.1 from Int32.not_lt.mpr ((nI_leI (by omega) (by omega)).mpr (by omega))), if_pos (by rw [q])]
    by_cases r : sv_sum (A.2.1 3) A.1 < B.2.1
    · rw [if_pos (show nI (sv_sum (A.2.1 3) A.1) < nI B.2.1 from Int32.not_le.mp (fun z => by have := (nI_leI (by omega) (by omega)).mp z; omega)), sv_ls, sv_ls]
      exact ⟨fun _ => rfl, fun z => absurd (Or.inr ⟨q, r⟩) z⟩
    · rw [if_neg (show ¬ nI (sv_sum (A.2.1 3) A.1) < nI B.2.1 from Int32.not_lt.mpr ((nI_leI (by omega) (by omega)).mpr (by omega)))]
      exact ⟨fun z => by omega, fun _ => rfl⟩
  · rw [if_pos (show nI (sv_na A) > nI B.1 from Int32.not_le.mp (fun z => by have := (nI_leI (by omega) (by omega)).mp z; omega))]
    exact ⟨fun z => by omega, fun _ => rfl⟩
/-- what the plan from a level may change -/
def sv_pl2 (l : Nat) (a : Nat) : Prop := a = 14 ∨ a = 15 ∨ a = 23 ∨ a = 24 ∨ a = 26 ∨ (36 + 10 * l ≤ a ∧ a ≤ 78)
theorem sv_nt {l : Nat} (hl : l ≤ 4) : sv_nights (29 + 10 * l) := by
  unfold sv_nights
  omega
theorem e7_plan (N : Nat) (hN : 200 ≤ N) (L : sv_L) (n : Nat) (hn : n ≤ 3) : ∀ (j l : Nat), l + j = n → ∀ (m : Nat), j ≤ m → ∀ (S : sw_St) (A : sv_A) (cs : Nat → Nat) (B : sv_be), sv_wf A → sv_nc S (29 + 10 * l) A → (∀ q, l < q → q ≤ n → sv_ns S (29 + 10 * q) A) → sv_lc L S → (∀ i, i < l → S.1 26 i = nI (cs i)) → sv_bq S n B → ∃ V, fG_3 N (m + 1) 0 (nI l) (nI n) 0 0 S = some ((), V) ∧ sv_bq V n (sv_tr L j l A cs B) ∧ (∀ q, l < q → q ≤ n → sv_ns V (29 + 10 * q) A) ∧ (∀ i, i < l → V.1 26 i = S.1 26 i) ∧ sv_ag (sv_pl2 l) S V := by
  intro j
  induction j with
  | zero =>
    intro l hl m hm S A cs B hA h hq hL hcs hB
    show ∃ V, gX7_plan N (fG_3 N m) (nI l) (nI n) S = some ((), V) ∧ _
    unfold gX7_plan
    rw [sv_gi (by omega) (by decide), nI_clamp (by omega), if_neg (show ¬ nI l < nI n from Int32.not_lt.mpr ((nI_leI (by omega) (by omega)).mpr (by omega)))]
    obtain ⟨q1, q2⟩ := e7_isBetter N (by omega) h hA hB
    have n1 := sv_na_le A
    have n2 := sv_sm9 hA
    by_cases hb : sv_bt A B
    · rw [q1 hb, sv_bd, if_neg sv_nz, sv_cg3, sv_gt, sv_ls]
      refine ⟨_, rfl, ?_, ?_, ?_, ?_⟩
      · show sv_bq _ n (if sv_bt A B then (sv_na A, sv_sum (A.2.1 3) A.1, cs) else B)
        rw [if_pos hb]
        refine ⟨?_, ?_, by dsimp only; omega, by dsimp only; omega, fun _ i hi => ?_⟩
        · show (sw_ci _ 26 24 0 0 3).1 23 0 = _
          rw [sv_ci0, if_neg (by omega), sv_si, if_neg (by omega), sv_si, if_pos ⟨rfl, rfl⟩]
        · show (sw_ci _ 26 24 0 0 3).1 23 1 = _
          rw [sv_ci0, if_neg (by omega), sv_si, if_pos ⟨rfl, rfl⟩]
        · show (sw_ci _ 26 24 0 0 3).1 24 i = _
          rw [sv_ci0, if_pos ⟨rfl, by omega⟩, sv_si, if_neg (by omega), sv_si, if_neg (by omega)]
          exact hcs i (by omega)
      · intro q h1 h2; omega
      · intro i hi
        show (sw_ci _ 26 24 0 0 3).1 26 i = _
        rw [sv_ci0, if_neg (by omega), sv_si, if_neg (by omega), sv_si, if_neg (by omega)]
      · refine sv_ag_tr (sv_ag_si S 23 0 _ ?_) (sv_ag_tr (sv_ag_si _ 23 1 _ ?_) (sv_ag_ci _ 26 24 _ _ _ ?_)) <;> (unfold sv_pl2; omega)
    · rw [q2 hb, sv_bd, if_pos rfl]
      refine ⟨S, rfl, ?_, hq, fun _ _ => rfl, sv_ag_rf⟩
      show sv_bq S n (if sv_bt A B then (sv_na A, sv_sum (A.2.1 3) A.1, cs) else B)
      rw [if_neg hb]
      exact hB
  | succ j ih =>
    intro l hl m hm S A cs B hA h hq hL hcs hB
    obtain ⟨m, rfl⟩ : ∃ m', m = m' + 1 := ⟨m - 1, by omega⟩
    show ∃ V, gX7_plan N (fG_3 N (m + 1)) (nI l) (nI n) S = some ((), V) ∧ _
    unfold gX7_plan
    obtain ⟨U, hU, ug, gU⟩ := e4_foresee N hN (sv_nt (show l ≤ 4 by omega)) h hA hL
    have gU' : sv_ag (sv_pl2 l) S U := sv_ag_wk gU (fun a ha => by unfold sv_pl2; omega)
    rw [sv_gi (by omega) (by decide), nI_clamp (by omega), if_pos (show nI l < nI n from Int32.not_le.mp (fun z => by have := (nI_leI (by omega) (by omega)).mp z; omega)), hU, sv_bd]
    let g : Nat → sv_be → sv_be := fun c B => sv_tr L j (l + 1) (sv_hr L A (nI c)) (fun i => if i = l then c else cs i) B
    show ∃ V, _ ∧ sv_bq V n (sv_fo g 12 B) ∧ _
    refine sv_fr2 (Q := fun r => ∃ V, r = some ((), V) ∧ sv_bq V n (sv_fo g 12 B) ∧ (∀ q, l < q → q ≤ n → sv_ns V (29 + 10 * q) A) ∧ (∀ i, i < l → V.1 26 i = S.1 26 i) ∧ sv_ag (sv_pl2 l) S V) (fun k x y W => x = sv_B (∃ d, d < k ∧ ∀ s, s < A.1 → A.2.1 0 s ≠ d) ∧ y = nI k ∧ sv_bq W n (sv_fo g k B) ∧ (∀ q, l < q → q ≤ n → sv_ns W (29 + 10 * q) A) ∧ (∀ i, i < l → W.1 26 i = S.1 26 i) ∧ (∀ s, s < A.1 → W.1 (29 + 10 * l + 7) s = sv_g L A s 0 ∧ W.1 (29 + 10 * l + 8) s = sv_g L A s 1) ∧ sv_ag (sv_pl2 l) S W) 12 ?_ ?_ N _ _ U (by omega) ⟨?_, rfl, ?_, ?_, ?_, ug, gU'⟩
    · rintro k x y W rec hk ⟨rfl, rfl, w1, w2, w3, w4, gW⟩
      left
      have hW : sv_nc W (29 + 10 * l) A := sv_nc_ag h gW (fun q hq => by unfold sv_pl2; omega)
      have hLW : sv_lc L W := sv_lc_ag hL gW (by unfold sv_pl2; omega) (by unfold sv_pl2; omega) (by unfold sv_pl2; omega)
      have e6 : W.1 (29 + 10 * l + 6) k = sv_lie A.1 (A.2.1 0) k := hW.2.2.2 k hk
      have run : ∀ v : Int32, v = sv_B (∃ d, d < k + 1 ∧ ∀ s, s < A.1 → A.2.1 0 s ≠ d) → ∃ b0 b1 T, (b0 = sv_B (∃ d, d < k + 1 ∧ ∀ s, s < A.1 → A.2.1 0 s ≠ d) ∧ b1 = nI (k + 1) ∧ sv_bq T n (sv_fo g (k + 1) B) ∧ (∀ q, l < q → q ≤ n → sv_ns T (29 + 10 * q) A) ∧ (∀ i, i < l → T.1 26 i = S.1 26 i) ∧ (∀ s, s < A.1 → T.1 (29 + 10 * l + 7) s = sv_g L A s 0 ∧ T.1 (29 + 10 * l + 8) s = sv_g L A s 1) ∧ sv_ag (sv_pl2 l) S T) ∧ (sw_gd (sw_in (nI l) 3) (sw_ls (sw_si W 26 l (nI k)) (fun S4 => (sw_gd (sw_in (nI l + (1 : Int32)) 5) (sw_bd (fX4_passHourBehind N (29 + 10 * (nI l + (1 : Int32)).toNatClampNeg) (29 + 10 * l) (nI k) S4) (fun _ S5 => (sw_bd (fG_3 N (m + 1) 0 (nI l + (1 : Int32)) (nI n) 0 0 S5) (fun _ S6 => (rec v (nI k + (1 : Int32)) S6))))))))) = rec b0 b1 T := by
        intro v hv
        rw [sv_gi (by omega) (by decide), sv_ls, nI_1 l, sv_gi (by omega) (by decide), nI_clamp (by omega)]
        generalize hX : sw_si W 26 l (nI k) = X
        have gX : sv_ag (fun a => a = 26) W X := by rw [← hX]; exact sv_ag_si W 26 l _ rfl
        obtain ⟨Y, hY, y1, gY⟩ := e4_passHourBehind N (by omega) (o := 29 + 10 * (l + 1)) (o1 := 29 + 10 * l) (by omega) (L := L) (sv_nc_ag hW gX (fun q hq => by omega)) hA (sv_ns_ag (w2 (l + 1) (by omega) (by omega)) gX (fun q hq => by omega)) (fun s hs => by rw [(gX _ (by omega)).1, (gX _ (by omega)).1]; exact w4 s hs) (nI k)
        have gXY : sv_ag (fun a => a = 26 ∨ a = 29 + 10 * (l + 1) ∨ a = 29 + 10 * (l + 1) + 4) W Y := sv_ag_tr (sv_ag_wk gX (fun a ha => Or.inl ha)) (sv_ag_wk gY (fun a ha => Or.inr ha))
        obtain ⟨Z, hZ, z1, z2, z3, gZ⟩ := ih (l + 1) (by omega) m (by omega) Y (sv_hr L A (nI k)) (fun i => if i = l then k else cs i) (sv_fo g k B) (sv_hr_wf hA) y1 (fun q h1 h2 => sv_ns_hr L _ (sv_ns_ag (w2 q (by omega) h2) gXY (fun k hk => by omega))) (sv_lc_ag hLW gXY (by omega) (by omega) (by omega)) (fun i hi => by
          rw [(gY 26 (by omega)).1, ← hX, sv_si]
          by_cases e : i = l
          · rw [if_pos ⟨rfl, e⟩, if_pos e]
          · rw [if_neg (fun z => e z.2), if_neg e, w3 i (by omega)]; exact hcs i (by omega)) (sv_bq_ag w1 gXY (by omega) (by omega))
        rw [hY, sv_bd, hZ, sv_bd]
        refine ⟨_, _, Z, ⟨hv, nI_1 k, z1, fun q h1 h2 => ?_, fun i hi => ?_, fun s hs => ?_, ?_⟩, rfl⟩
        · by_cases e : q = l + 1
          · subst e
            have y2 := sv_ns_ag (sv_hr_ns L _ (sv_ns_nc y1)) gZ (fun k hk => by unfold sv_pl2; omega)
            exact y2
          · exact sv_hr_ns L _ (z2 q (by omega) h2)
        · rw [z3 i (by omega), (gY 26 (by omega)).1, ← hX, sv_si, if_neg (by omega)]
          exact w3 i hi
        · rw [(gZ _ (by unfold sv_pl2; omega)).1, (gZ _ (by unfold sv_pl2; omega)).1, (gXY _ (by omega)).1, (gXY _ (by omega)).1]
          exact w4 s hs
        · exact sv_ag_tr gW (sv_ag_tr (sv_ag_wk gXY (fun a ha => by unfold sv_pl2; omega)) (sv_ag_wk gZ (fun a ha => by unfold sv_pl2 at *; omega)))
      rw [if_neg (show ¬ nI k ≥ (12 : Int32) from nI_ge (b := 12) hk (by decide)), sv_gi hk (by decide), nI_clamp (show k < 2 ^ 31 by omega), e6]
      rcases sv_lie_r hA k with ⟨s, hs, q1, q2⟩ | ⟨q1, q2⟩
      · have hsame : (∃ d, d < k + 1 ∧ ∀ s, s < A.1 → A.2.1 0 s ≠ d) ↔ (∃ d, d < k ∧ ∀ s, s < A.1 → A.2.1 0 s ≠ d) := by
          constructor
          · rintro ⟨d, hd, h1⟩
            have : d ≠ k := fun z => h1 s hs (by rw [q1, z])
            exact ⟨d, by omega, h1⟩
          · rintro ⟨d, hd, h1⟩
            exact ⟨d, by omega, h1⟩
        rw [q2, if_pos (show nI s ≥ (0 : Int32) from nI_pos' (by have := hA.1; omega)), sv_jn1]
        by_cases hx : ∃ d, d < k ∧ ∀ s, s < A.1 → A.2.1 0 s ≠ d
        · rw [sv_B_t hx, if_neg sv_nz]
          exact run 1 (by rw [sv_B_t (hsame.mpr hx)])
        · rw [sv_B_f hx, if_pos rfl, sv_gi hk (by decide), if_pos (show nI s ≥ (0 : Int32) from nI_pos' (by have := hA.1; omega))]
          exact run 0 (by rw [sv_B_f (fun z => hx (hsame.mp z))])
      · have hnew : ∃ d, d < k + 1 ∧ ∀ s, s < A.1 → A.2.1 0 s ≠ d := ⟨k, by omega, q1⟩
        rw [q2, if_neg (by decide)]
        by_cases hx : ∃ d, d < k ∧ ∀ s, s < A.1 → A.2.1 0 s ≠ d
        · rw [sv_B_t hx, if_neg sv_nz]
          refine ⟨_, _, W, ⟨(sv_B_t hnew).symm, nI_1 k, ?_, w2, w3, w4, gW⟩, rfl⟩
          obtain ⟨d, hd, h1⟩ := hx
          show sv_bq W n (g k (sv_fo g k B))
          have e : g k (sv_fo g k B) = sv_fo g k B := by
            refine sv_tr_id j (l + 1) _ _ _ ?_
            rw [sv_hr_no hA hk (show d < 12 by omega) q1 h1]
            exact sv_dm_lq j (sv_tr_dm j (l + 1) (sv_hr L A (nI d)) (fun i => if i = l then d else cs i) (sv_fo g d B)) (sv_fo_lq (g := g) (fun c B => sv_tr_lq j _ _ _ B) B (d + 1) k (by omega))
          rw [e]
          exact w1
        · rw [sv_B_f hx, if_pos rfl, sv_jn1, if_pos rfl, sv_gi hk (by decide), if_neg (by decide)]
          exact run 1 (by rw [sv_B_t hnew])
    · rintro x y W rec ⟨rfl, rfl, w1, w2, w3, w4, gW⟩
      rw [if_pos (show nI 12 ≥ (12 : Int32) from Int32.le_refl _)]
      exact ⟨W, rfl, w1, w2, w3, gW⟩
    · rw [sv_B_f (fun ⟨d, hd, _⟩ => absurd hd (Nat.not_lt_zero d))]
    · exact sv_bq_ag hB gU (by omega) (by omega)
    · intro q h1 h2
      exact sv_ns_ag (hq q h1 h2) gU (fun k hk => by omega)
    · intro i hi
      rw [(gU 26 (by omega)).1]
