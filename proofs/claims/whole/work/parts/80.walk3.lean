/-! walk -/
theorem sv_ct_mono (f : Nat → Bool) {k m : Nat} (h : k ≤ m) : sv_ct f k ≤ sv_ct f m := by
  induction m with
  | zero => have : k = 0 := by omega
            subst this; exact Nat.le_refl _
  | succ m ih =>
    by_cases e : k = m + 1
    · subst e; exact Nat.le_refl _
    · have := ih (by omega)
      simp only [sv_ct]
      omega
theorem sv_ct_hit (f : Nat → Bool) {k : Nat} : ∀ m, k < sv_ct f m → ∃ c, c < m ∧ f c = true ∧ sv_ct f c = k := by
  intro m
  induction m with
  | zero => intro h; exact absurd h (Nat.not_lt_zero k)
  | succ m ih =>
    intro h
    by_cases e : k < sv_ct f m
    · obtain ⟨c, h1, h2, h3⟩ := ih e
      exact ⟨c, by omega, h2, h3⟩
    · simp only [sv_ct] at h
      by_cases q : f m = true
      · rw [if_pos q] at h
        exact ⟨m, by omega, q, by omega⟩
      · rw [if_neg q] at h
        omega
theorem sv_ct_lt (f : Nat → Bool) {c m : Nat} (h : c < m) (hf : f c = true) : sv_ct f c < sv_ct f m := by
  have : sv_ct f c + 1 = sv_ct f (c + 1) := by simp only [sv_ct]; rw [if_pos hf]
  have := sv_ct_mono f (show c + 1 ≤ m from h)
  omega
theorem sv_tt_si {st : Nat → Nat} {c n z l k : Nat} {T : sw_St} {v : Int32} (h : sv_tt st c n T z l) (ne : z * 6 + l ≠ k) : sv_tt st c n (sw_si T 28 k v) z l := by
  obtain ⟨e, h1, h2⟩ := h
  exact ⟨e, by rw [sv_si, if_neg (fun q => ne q.2)]; exact h1, h2⟩
theorem e7_stepsByAll (N : Nat) (hN : 100 ≤ N) {S : sw_St} {A : sv_A} (h : sv_nc S 1 A) (hA : sv_wf A) (hn : sv_ct (fun i => (sv_acb A).testBit i) 12 ≤ 6) : ∃ e T, fX7_stepsByAll N S = some (nI e, T) ∧ sv_lst (fun w => ∃ M, sv_pm M (sv_acb A) ∧ sv_pc (A.2.2 2) M ≤ w) e ∧ sv_ag (fun a => a = 27 ∨ a = 28) S T := by
  unfold fX7_stepsByAll
  have hx : sv_acb A < 4096 := sv_wb_lt _ 12
  have hc : A.2.2 2 < 12 := hA.2.2.2.2.2.1
  have hcd : S.1 1 3 = nI (A.2.2 2) := h.2.2.1 2 (by omega)
  rw [e4_awakeCots N (by omega) h hA, sv_bd, e6_bc N hx, sv_bd]
  generalize sv_acb A = x at *
  generalize A.2.2 2 = c at *
  generalize hnn : sv_ct (fun i => x.testBit i) 12 = n at *
  rw [if_pos (show nI n ≤ (6 : Int32) from (nI_leI (b := 6) (by omega) (by decide)).mpr hn)]
  refine sv_fr2 (Q := fun r => ∃ e T, r = some (nI e, T) ∧ sv_lst (fun w => ∃ M, sv_pm M x ∧ sv_pc c M ≤ w) e ∧ sv_ag (fun a => a = 27 ∨ a = 28) S T) (fun k a b T => b = nI k ∧ a = nI (sv_ct (fun i => x.testBit i) k) ∧ (∀ d, d < k → x.testBit d = true → T.1 27 (sv_ct (fun i => x.testBit i) d) = nI d) ∧ sv_ag (fun a => a = 27 ∨ a = 28) S T) 12 ?_ ?_ N _ _ S (by omega) ⟨rfl, rfl, fun d hd => absurd hd (Nat.not_lt_zero d), sv_ag_rf⟩
  · rintro k a b T rec hk ⟨rfl, rfl, w1, gT⟩
    left
    rw [if_neg (show ¬ nI k ≥ (12 : Int32) from nI_ge (b := 12) hk (by decide)), sv_shl k (by omega), sv_and]
    cases hb : x.testBit k
    · rw [if_pos (by rw [(sv_and2 x k).mpr hb]; rfl)]
      refine ⟨_, _, T, ⟨nI_1 k, ?_, fun d hd hd2 => ?_, gT⟩, rfl⟩
      · simp [sv_ct, hb]
      · by_cases e : d = k
        · subst e; rw [hb] at hd2; cases hd2
        · exact w1 d (by omega) hd2
    · have hlt : sv_ct (fun i => x.testBit i) k < n := by rw [← hnn]; exact sv_ct_lt _ hk hb
      have hle : x &&& 2 ^ k ≤ x := Nat.and_le_left
      rw [if_neg (show ¬ nI (x &&& 2 ^ k) = 0 from fun z => by have := (sv_and2 x k).mp ((nI_eq (b := 0) (by omega) (by decide)).mp z); rw [hb] at this; cases this), if_neg (show ¬ nI (sv_ct (fun i => x.testBit i) k) ≥ (6 : Int32) from nI_ge (b := 6) (by omega) (by decide)), sv_gi (by omega) (by decide), nI_clamp (by omega), sv_ls]
      refine ⟨_, _, _, ⟨nI_1 k, ?_, fun d hd hd2 => ?_, sv_ag_tr gT (sv_ag_si _ 27 _ _ (Or.inl rfl))⟩, rfl⟩
      · rw [nI_1]; simp only [sv_ct]; rw [if_pos hb]
      · rw [sv_si]
        by_cases e : d = k
        · subst e; rw [if_pos ⟨rfl, rfl⟩]
        · have := sv_ct_lt (fun i => x.testBit i) (show d < k by omega) hd2
          rw [if_neg (fun z => by omega)]
          exact w1 d (by omega) hd2
  · rintro a b T rec ⟨rfl, rfl, w1, gT⟩
    rw [if_pos (show nI 12 ≥ (12 : Int32) from Int32.le_refl _), hnn]
    by_cases h0 : n = 0
    · have hx0 : x = 0 := sv_ct_0x hx (by omega)
      subst hx0
      rw [if_pos (by rw [h0]; rfl)]
      exact ⟨0, T, rfl, ⟨by omega, fun w hw => ⟨fun _ => ⟨[], sv_pm_0.mpr rfl, Nat.zero_le _⟩, fun _ => Nat.zero_le _⟩⟩, gT⟩
    · have h64 : 2 ^ n ≤ 64 := show 2 ^ n ≤ 2 ^ 6 from Nat.pow_le_pow_right (by decide) hn
      have h2 : 2 ≤ 2 ^ n := show 2 ^ 1 ≤ 2 ^ n from Nat.pow_le_pow_right (by decide) (by omega)
      rw [if_neg (show ¬ nI n = 0 from fun z => h0 ((nI_eq (b := 0) (by omega) (by decide)).mp z)), sv_shl n (by omega), show nI (2 ^ n) - (1 : Int32) = nI (2 ^ n - 1) from pk_sub (b := 1) (by omega), sv_li]
      let st : Nat → Nat := fun k => (T.1 27 k).toNatClampNeg
      let rk : Nat → Nat := sv_ct (fun i => x.testBit i)
      have hr2 : ∀ d, x.testBit d = true → rk d < n ∧ st (rk d) = d := by
        intro d hd
        have hd12 := sv_tb_lt hx hd
        refine ⟨by rw [← hnn]; exact sv_ct_lt _ hd12 hd, ?_⟩
        show (T.1 27 (sv_ct (fun i => x.testBit i) d)).toNatClampNeg = d
        rw [w1 d hd12 hd, nI_clamp (by omega)]
      have hr1 : ∀ k, k < n → x.testBit (st k) = true ∧ rk (st k) = k := by
        intro k hk
        obtain ⟨d, d1, d2, d3⟩ := sv_ct_hit (fun i => x.testBit i) 12 (show k < sv_ct (fun i => x.testBit i) 12 by rw [hnn]; exact hk)
        have := (hr2 d d2).2
        have e : st k = d := by rw [← d3]; exact this
        rw [e]
        exact ⟨d2, d3⟩
      have hst : ∀ k, k < n → T.1 27 k = nI (st k) ∧ st k < 12 := by
        intro k hk
        obtain ⟨q1, q2⟩ := hr1 k hk
        have q3 := sv_tb_lt hx q1
        refine ⟨?_, q3⟩
        have := w1 (st k) q3 q1
        rw [← this]
        exact congrArg (T.1 27) q2.symm
      have hord : ∀ w, (∃ L, sv_pm L (2 ^ n - 1) ∧ sv_qc st c L ≤ w) ↔ ∃ M, sv_pm M x ∧ sv_pc c M ≤ w := fun w => sv_ord hn hr1 hr2
      refine sv_fr1 (Q := fun r => ∃ e T, r = some (nI e, T) ∧ sv_lst (fun w => ∃ M, sv_pm M x ∧ sv_pc c M ≤ w) e ∧ sv_ag (fun a => a = 27 ∨ a = 28) S T) (fun k a W => a = nI (k + 1) ∧ (∀ z l, 1 ≤ z → z < k + 1 → l < n → sv_tt st c n W z l) ∧ sv_ag (fun a => a = 28) T W) (2 ^ n - 1) ?_ ?_ N _ T (by omega) ⟨rfl, fun z l h1 h2 => by omega, sv_ag_rf⟩
      · rintro k a W rec2 hk ⟨rfl, ht, gW⟩
        left
        rw [if_neg (show ¬ nI (k + 1) > nI (2 ^ n - 1) from Int32.not_lt.mpr ((nI_leI (by omega) (by omega)).mpr (by omega)))]
        refine sv_fr1 (Q := fun r => ∃ b0 U, (b0 = nI (k + 1 + 1) ∧ (∀ z l, 1 ≤ z → z < k + 1 + 1 → l < n → sv_tt st c n U z l) ∧ sv_ag (fun a => a = 28) T U) ∧ r = rec2 b0 U) (fun l a W => a = nI l ∧ (∀ z l, 1 ≤ z → z < k + 1 → l < n → sv_tt st c n W z l) ∧ (∀ l', l' < l → sv_tt st c n W (k + 1) l') ∧ sv_ag (fun a => a = 28) T W) n ?_ ?_ N _ W (by omega) ⟨rfl, ht, fun l' h => absurd h (Nat.not_lt_zero l'), gW⟩
        · rintro l a U rec3 hl ⟨rfl, u1, u2, gU⟩
          left
          have e27 : U.1 27 = T.1 27 := (gU 27 (by omega)).1
          have e1 : U.1 1 = S.1 1 := by rw [(gU 1 (by omega)).1, (gT 1 (by omega)).1]
          obtain ⟨e, he, hl2⟩ := e7_leastSteps N (by omega) (S := U) (st := st) (c := c) (n := n) hn hc (by rw [e1]; exact hcd) (fun k hk => by rw [e27]; exact hst k hk) (y := k + 1) (l := l) (by omega) hl u1
          rw [if_neg (show ¬ nI l ≥ nI n from nI_ge hl (by omega)), he, sv_bd, show nI (k + 1) * (6 : Int32) = nI ((k + 1) * 6) from pk_mul _ 6, nI_add, sv_gi (by omega) (by decide), nI_clamp (by omega), sv_ls]
          refine ⟨_, _, ⟨nI_1 l, fun z l' h1 h2 h3 => sv_tt_si (u1 z l' h1 h2 h3) (by omega), fun l' hl' => ?_, sv_ag_tr gU (sv_ag_si _ 28 _ _ rfl)⟩, rfl⟩
          by_cases q : l' = l
          · subst q
            exact ⟨e, by rw [sv_si, if_pos ⟨rfl, rfl⟩], hl2⟩
          · exact sv_tt_si (u2 l' (by omega)) (by omega)
        · rintro a U rec3 ⟨rfl, u1, u2, gU⟩
          rw [if_pos (show nI n ≥ nI n from Int32.le_refl _)]
          refine ⟨_, U, ⟨nI_1 (k + 1), fun z l h1 h2 h3 => ?_, gU⟩, rfl⟩
          by_cases q : z = k + 1
          · subst q; exact u2 l h3
          · exact u1 z l h1 (by omega) h3
      · rintro a W rec2 ⟨rfl, ht, gW⟩
        rw [if_pos (show nI (2 ^ n - 1 + 1) > nI (2 ^ n - 1) from Int32.not_le.mp (fun z => by have := (nI_leI (by omega) (by omega)).mp z; omega))]
        obtain ⟨e, he, hl⟩ := e7_leastOf N (by omega) (S := W) (st := st) (c := c) (n := n) hn (by omega) (fun l hl => ht _ l (by omega) (by omega) hl)
        rw [he, sv_bd]
        exact ⟨e, W, rfl, sv_lst_wk hl hord, sv_ag_tr gT (sv_ag_wk gW (fun a ha => Or.inr ha))⟩
def sv_nr (A : sv_A) : Nat → Int32
  | 0 => -1
  | k + 1 => if sv_ac A A.1 k = true then (if sv_nr A k < 0 then nI k else if nI (sv_ds (A.2.2 2) k) ≥ nI (sv_ds (A.2.2 2) (sv_nr A k).toNatClampNeg) then sv_nr A k else nI k) else sv_nr A k
theorem sv_nr_s (A : sv_A) (k : Nat) : sv_nr A (k + 1) = if sv_ac A A.1 k = true then (if sv_nr A k < 0 then nI k else if nI (sv_ds (A.2.2 2) k) ≥ nI (sv_ds (A.2.2 2) (sv_nr A k).toNatClampNeg) then sv_nr A k else nI k) else sv_nr A k := rfl
theorem sv_nr_cs (A : sv_A) : ∀ k, k ≤ 12 → sv_nr A k = -1 ∨ ∃ j, j < 12 ∧ sv_nr A k = nI j := by
  intro k
  induction k with
  | zero => intro _; exact Or.inl rfl
  | succ k ih =>
    intro hk
    rw [sv_nr_s]
    split
    · split
      · exact Or.inr ⟨k, by omega, rfl⟩
      · split
        · exact ih (by omega)
        · exact Or.inr ⟨k, by omega, rfl⟩
    · exact ih (by omega)
theorem e4_nearest (N : Nat) (hN : 20 ≤ N) {S : sw_St} {A : sv_A} (h : sv_nc S 1 A) (hA : sv_wf A) : fX4_nearestAwakeCot N 1 S = some (sv_nr A 12, S) := by
  unfold fX4_nearestAwakeCot
  have hn := hA.1
  have hc : A.2.2 2 < 12 := hA.2.2.2.2.2.1
  have hcd : S.1 1 3 = nI (A.2.2 2) := h.2.2.1 2 (by omega)
  refine sv_fr2 (Q := fun r => r = some (sv_nr A 12, S)) (fun k a b T => b = nI k ∧ a = sv_nr A k ∧ T = S) 12 ?_ ?_ N _ _ S (by omega) ⟨rfl, rfl, rfl⟩
  · rintro k a b T rec hk ⟨rfl, rfl, rfl⟩
    left
    have e6 : T.1 (1 + 6) k = sv_lie A.1 (A.2.1 0) k := h.2.2.2 k hk
    rw [if_neg (show ¬ nI k ≥ (12 : Int32) from nI_ge (b := 12) hk (by decide)), sv_gi hk (by decide), nI_clamp (by omega), sv_jn1, e6, sv_gi hk (by decide)]
    rcases sv_lie_r hA k with ⟨s, hs, q1, q2⟩ | ⟨q1, q2⟩
    · rw [q2, if_neg (sv_ng s (by omega)), e4_isAwake N h hA (by omega), sv_bd, sv_Bi]
      have ea := sv_ac_at hA hs
      rw [q1] at ea
      by_cases aw : sv_aw A s
      · rw [if_pos aw]
        dsimp only
        rw [if_neg sv_nz]
        have ec : sv_ac A A.1 k = true := by rw [ea]; exact decide_eq_true aw
        refine ⟨sv_nr A (k + 1), nI (k + 1), T, ⟨rfl, rfl, rfl⟩, ?_⟩
        rw [sv_nr_s, if_pos ec, ← nI_1]
        rcases sv_nr_cs A k (by omega) with z | ⟨j, hj, z⟩
        · rw [z, if_pos (by decide), if_pos (by decide)]
        · rw [z, if_neg (sv_ng j (by omega)), if_neg (sv_ng j (by omega)), hcd, e8_steps N hc hk, sv_bd, hcd, e8_steps N hc hj, sv_bd, nI_clamp (show j < 2 ^ 31 by omega)]
          split <;> rfl
      · rw [if_neg aw]
        dsimp only
        rw [if_pos rfl]
        refine ⟨_, _, T, ⟨nI_1 k, ?_, rfl⟩, rfl⟩
        rw [sv_nr_s, if_neg (by rw [ea]; simpa using aw)]
    · rw [q2, if_pos (by decide)]
      dsimp only
      rw [if_pos rfl]
      refine ⟨_, _, T, ⟨nI_1 k, ?_, rfl⟩, rfl⟩
      rw [sv_nr_s, if_neg (by rw [sv_ac_no q1]; decide)]
  · rintro a b T rec ⟨rfl, rfl, rfl⟩
    rw [if_pos (show nI 12 ≥ (12 : Int32) from Int32.le_refl _)]
theorem sv_tw2 {S T : sw_St} (g : sv_ag (fun a => a = 27 ∨ a = 28) S T) : sv_ag sv_tw S T := sv_ag_wk g (fun a ha => by unfold sv_tw; omega)
/-- the reference's answer -/
theorem e9_walk (N : Nat) (hN : 100 ≤ N) {S : sw_St} {A : sv_A} (h : sv_mr S A) (hA : sv_wf A) (x : Int32) (hx : 0 ≤ x ∧ x ≤ 2) : ∃ V, sv_rr sv_rq sv_F S V ∧ (x ≠ 2 → fX9_walk N x S = some (if sv_nr A 12 ≥ 0 then (if x = 0 then nI (sv_ds (A.2.2 2) (sv_nr A 12).toNatClampNeg) else sv_nr A 12) else -2, V)) ∧ (x = 2 → sv_ct (fun i => (sv_acb A).testBit i) 12 ≤ 6 → ∃ e, sv_lst (fun w => ∃ M, sv_pm M (sv_acb A) ∧ sv_pc (A.2.2 2) M ≤ w) e ∧ fX9_walk N x S = some (nI e, V)) ∧ (x = 2 → ¬ sv_ct (fun i => (sv_acb A).testBit i) 12 ≤ 6 → fX9_walk N x S = some (-5, V)) := by
  have hn := hA.1
  have hc : A.2.2 2 < 12 := hA.2.2.2.2.2.1
  obtain ⟨V, hV, v1, v2⟩ := e9_beginsq N (by omega) h hA
  have hcd : V.1 105 20 = nI (A.2.2 2) := v1.2.2.2.2.2.2
  refine ⟨V, v2, ?_⟩
  unfold fX9_walk
  rw [show fX9_within N x.toInt64 (0 : Int64) (2 : Int64) S = _ from e9_within N x 0 2 S, sv_bd, sv_Bi, if_pos hx, hV, sv_bd]
  let Q : Option (Int32 × sw_St) → Prop := fun r => (x ≠ 2 → r = some (if sv_nr A 12 ≥ 0 then (if x = 0 then nI (sv_ds (A.2.2 2) (sv_nr A 12).toNatClampNeg) else sv_nr A 12) else -2, V)) ∧ (x = 2 → sv_ct (fun i => (sv_acb A).testBit i) 12 ≤ 6 → ∃ e, sv_lst (fun w => ∃ M, sv_pm M (sv_acb A) ∧ sv_pc (A.2.2 2) M ≤ w) e ∧ r = some (nI e, V)) ∧ (x = 2 → ¬ sv_ct (fun i => (sv_acb A).testBit i) 12 ≤ 6 → r = some (-5, V))
  refine sv_fr3 (Q := Q) (fun k a b c T => a = nI (sv_wb (fun c => sv_ac A A.1 c) k) ∧ b = sv_nr A k ∧ c = nI k ∧ T = V) 12 ?_ ?_ N _ _ _ V (by omega) ⟨rfl, rfl, rfl, rfl⟩
  · rintro k a b c T rec hk ⟨rfl, rfl, rfl, rfl⟩
    left
    have e6 : T.1 113 k = sv_lie A.1 (A.2.1 0) k := v1.2.2.2.1 k hk
    rw [if_neg (show ¬ nI k ≥ (12 : Int32) from nI_ge (b := 12) hk (by decide)), sv_gi hk (by decide), nI_clamp (by omega), e6, sv_gi hk (by decide)]
    rcases sv_lie_r hA k with ⟨s, hs, q1, q2⟩ | ⟨q1, q2⟩
    · rw [q2, if_neg (sv_ng s (by omega)), e9_isAwake N v1 hA hs, sv_bd, sv_Bi]
      have ea := sv_ac_at hA hs
      rw [q1] at ea
      by_cases aw : sv_aw A s
      · have ec : sv_ac A A.1 k = true := by rw [ea]; exact decide_eq_true aw
        rw [if_pos aw, sv_li, sv_shl k (by omega), sv_or, sv_wb_add _ _ ec]
        refine ⟨_, sv_nr A (k + 1), nI (k + 1), T, ⟨rfl, rfl, rfl, rfl⟩, ?_⟩
        rw [sv_nr_s, if_pos ec, ← nI_1]
        rcases sv_nr_cs A k (by omega) with z | ⟨j, hj, z⟩
        · rw [z, if_pos (by decide), if_pos (by decide)]
        · rw [z, if_neg (sv_ng j (by omega)), if_neg (sv_ng j (by omega)), hcd, e9_stepsTo N hc hk, sv_bd, hcd, e9_stepsTo N hc hj, sv_bd, nI_clamp (show j < 2 ^ 31 by omega)]
          split <;> rfl
      · rw [if_neg aw]
        have ec : ¬ sv_ac A A.1 k = true := by rw [ea]; simpa using aw
        refine ⟨_, _, _, T, ⟨?_, ?_, nI_1 k, rfl⟩, rfl⟩
        · simp only [sv_wb]; rw [if_neg ec]; rfl
        · rw [sv_nr_s, if_neg ec]
    · rw [q2, if_pos (by decide)]
      have ec : ¬ sv_ac A A.1 k = true := by rw [sv_ac_no q1]; decide
      refine ⟨_, _, _, T, ⟨?_, ?_, nI_1 k, rfl⟩, rfl⟩
      · simp only [sv_wb]; rw [if_neg ec]; rfl
      · rw [sv_nr_s, if_neg ec]
  · rintro a b c T rec ⟨rfl, rfl, rfl, rfl⟩
    have hlt : sv_acb A < 4096 := sv_wb_lt _ 12
    show Q _
    rw [if_pos (show nI 12 ≥ (12 : Int32) from Int32.le_refl _)]
    by_cases h2 : x = 2
    · rw [if_pos h2, e9_bitsOf N (by omega) hlt, sv_bd, hcd]
      refine ⟨fun z => absurd h2 z, fun _ h6 => ?_, fun _ h6 => ?_⟩
      · rw [if_pos (show nI _ ≤ (6 : Int32) from (nI_leI (b := 6) (by have := sv_ct_le (fun i => (sv_acb A).testBit i) 12; omega) (by decide)).mpr h6)]
        obtain ⟨e, he, hr⟩ := e9_stepsBy N (by omega) 99 (sv_acb A) hlt (by omega) (A.2.2 2) hc T
        refine ⟨e, he, ?_⟩
        unfold fX9_stepsBy
        rw [hr, sv_bd]
      · rw [if_neg (show ¬ nI _ ≤ (6 : Int32) from fun z => h6 ((nI_leI (b := 6) (by have := sv_ct_le (fun i => (sv_acb A).testBit i) 12; omega) (by decide)).mp z))]
    · rw [if_neg h2]
      refine ⟨fun _ => ?_, fun z => absurd z h2, fun z => absurd z h2⟩
      rcases sv_nr_cs A 12 (Nat.le_refl _) with z | ⟨j, hj, z⟩
      · rw [z, if_neg (by decide), if_neg (by decide)]
      · rw [z, if_pos (show nI j ≥ 0 from nI_pos' (by omega)), if_pos (show nI j ≥ 0 from nI_pos' (by omega)), hcd, e9_stepsTo N hc hj, sv_bd, nI_clamp (show j < 2 ^ 31 by omega)]
        by_cases h0 : x = 0
        · rw [if_pos h0, if_pos h0]
        · rw [if_neg h0, if_neg h0]
theorem op_walk (N : Nat) (hN : 5000 ≤ N) {S : sw_St} (h : sv_rel S) (x : Int32) : sv_ok (fX8_walk N x) (fX9_walk N x) S := by
  have hs := h
  obtain ⟨A, L, b, h⟩ := h
  have hr := h
  obtain ⟨h1, h2, h3, h4, h5, h6, h7, h8, h9, h10⟩ := h
  have hc : A.2.2 2 < 12 := h1.2.2.2.2.2.1
  have hcd : S.1 1 3 = nI (A.2.2 2) := h2.2.2.1 2 (by omega)
  unfold sv_ok fX8_walk
  rw [e8_within, sv_bd, sv_Bi]
  by_cases hx : 0 ≤ x ∧ x ≤ 2
  · rw [if_pos hx]
    by_cases hx2 : x = 2
    · rw [if_pos hx2]
      by_cases h6 : sv_ct (fun i => (sv_acb A).testBit i) 12 ≤ 6
      · obtain ⟨e, T, hT, t1, t2⟩ := e7_stepsByAll N (by omega) h2 h1 h6
        obtain ⟨V, v1, -, v3, -⟩ := e9_walk N (by omega) (sv_mr_tw h3 (sv_tw2 t2)) h1 x hx
        obtain ⟨f, hf, hv⟩ := v3 hx2 h6
        rw [hT, sv_bd]
        refine ⟨_, T, V, rfl, ?_, sv_rel_tw hr (sv_tw2 t2) v1⟩
        rw [hv, sv_lst_eq t1 hf (fun w => Iff.rfl)]
      · obtain ⟨V, v1, -, -, v4⟩ := e9_walk N (by omega) h3 h1 x hx
        refine ⟨-5, S, V, ?_, v4 hx2 h6, sv_rel_tw hr sv_ag_rf v1⟩
        unfold fX7_stepsByAll
        rw [e4_awakeCots N (by omega) h2 h1, sv_bd, e6_bc N (sv_wb_lt _ 12), sv_bd, if_neg (show ¬ nI _ ≤ (6 : Int32) from fun z => h6 ((nI_leI (b := 6) (by have := sv_ct_le (fun i => (sv_acb A).testBit i) 12; omega) (by decide)).mp z))]
        rfl
    · obtain ⟨V, v1, v2, -, -⟩ := e9_walk N (by omega) h3 h1 x hx
      rw [if_neg hx2, e4_nearest N (by omega) h2 h1, sv_bd]
      refine ⟨_, S, V, ?_, v2 hx2, sv_rel_tw hr sv_ag_rf v1⟩
      rcases sv_nr_cs A 12 (Nat.le_refl _) with z | ⟨j, hj, z⟩
      · rw [z, if_neg (by decide), if_neg (by decide)]
      · rw [z, if_pos (show nI j ≥ 0 from nI_pos' (by omega)), if_pos (show nI j ≥ 0 from nI_pos' (by omega)), hcd, e8_steps N hc hj, sv_bd, nI_clamp (show j < 2 ^ 31 by omega)]
        by_cases h0 : x = 0
        · rw [if_pos h0, if_pos h0]
        · rw [if_neg h0, if_neg h0]
  · rw [if_neg hx]
    refine ⟨_, S, S, rfl, ?_, hs⟩
    unfold fX9_walk
    rw [show fX9_within N x.toInt64 (0 : Int64) (2 : Int64) S = _ from e9_within N x 0 2 S, sv_bd, sv_Bi, if_neg hx]
