/-! the least steps by all: by recursion (the reference), by sets (the class) -/
theorem sv_lst_wk {P Q : Nat → Prop} {e : Nat} (h : sv_lst P e) (hq : ∀ w, P w ↔ Q w) : sv_lst Q e := ⟨h.1, fun w hw => (h.2 w hw).trans (hq w)⟩
theorem sv_lst_0 {P : Nat → Prop} (h : ∀ w, ¬ P w) : sv_lst P 1000000 := ⟨Nat.le_refl _, fun w hw => ⟨fun z => by omega, fun z => absurd z (h w)⟩⟩
theorem sv_lst_min {P Q : Nat → Prop} {e f d : Nat} (h : sv_lst P e) (g : sv_lst Q f) : sv_lst (fun w => P w ∨ ∃ u, u + d ≤ w ∧ Q u) (min e (f + d)) := by
  refine ⟨by have := h.1; omega, fun w hw => ?_⟩
  constructor
  · intro z
    rcases Nat.lt_or_ge w e with q | q
    · have : f + d ≤ w := by omega
      exact Or.inr ⟨w - d, by omega, (g.2 (w - d) (by omega)).mp (by omega)⟩
    · exact Or.inl ((h.2 w hw).mp q)
  · rintro (z | ⟨u, hu, z⟩)
    · have := (h.2 w hw).mpr z
      omega
    · have := (g.2 u (by omega)).mpr z
      omega
theorem e9_isIn (N : Nat) {x c : Nat} (hx : x < 4096) (hc : c < 12) (S : sw_St) : fX9_isIn N (nI x) (nI c) S = some (sv_B (x.testBit c = true), S) := by
  unfold fX9_isIn
  rw [sv_bit (by omega) (by omega)]
  cases h : x.testBit c
  · rw [if_neg (by decide)]; rfl
  · rw [if_pos (by decide)]; rfl
theorem sv_ct_0x {x : Nat} (hx : x < 4096) (h : sv_ct (fun i => x.testBit i) 12 = 0) : x = 0 := by
  apply Nat.eq_of_testBit_eq
  intro i
  cases q : x.testBit i
  · simp
  · have := sv_rm_ct hx q
    omega
theorem e9_stepsBy (N : Nat) (hN : 20 ≤ N) : ∀ m x, x < 4096 → sv_ct (fun i => x.testBit i) 12 ≤ m → ∀ c, c < 12 → ∀ S, ∃ e, sv_lst (fun w => ∃ M, sv_pm M x ∧ sv_pc c M ≤ w) e ∧ fG_7 N (m + 1) 0 (nI c) (nI x) 0 0 S = some (nI e, S) := by
  intro m
  induction m with
  | zero =>
    intro x hx hm c hc S
    have h0 := sv_ct_0x hx (by omega)
    subst h0
    refine ⟨0, ⟨by omega, fun w hw => ⟨fun _ => ⟨[], sv_pm_0.mpr rfl, Nat.zero_le _⟩, fun _ => Nat.zero_le _⟩⟩, ?_⟩
    show gX9_stepsBy N (fG_7 N 0) (nI c) (nI 0) S = _
    unfold gX9_stepsBy
    rw [if_pos (show nI 0 = 0 from rfl)]
    rfl
  | succ m ih =>
    intro x hx hm c hc S
    show ∃ e, _ ∧ gX9_stepsBy N (fG_7 N (m + 1)) (nI c) (nI x) S = _
    unfold gX9_stepsBy
    by_cases h0 : x = 0
    · subst h0
      refine ⟨0, ⟨by omega, fun w hw => ⟨fun _ => ⟨[], sv_pm_0.mpr rfl, Nat.zero_le _⟩, fun _ => Nat.zero_le _⟩⟩, ?_⟩
      rw [if_pos (show nI 0 = 0 from rfl)]
      rfl
    · rw [if_neg (show ¬ nI x = 0 from fun z => h0 ((nI_eq (b := 0) (by omega) (by decide)).mp z))]
      refine sv_fr2 (Q := fun r => ∃ e, sv_lst (fun w => ∃ M, sv_pm M x ∧ sv_pc c M ≤ w) e ∧ r = some (nI e, S)) (fun k a b T => b = nI k ∧ T = S ∧ ∃ e, a = nI e ∧ sv_lst (fun w => ∃ o, o < k ∧ ∃ M, sv_pm (o :: M) x ∧ sv_pc c (o :: M) ≤ w) e) 12 ?_ ?_ N _ _ S (by omega) ⟨rfl, rfl, 1000000, rfl, sv_lst_0 (fun w ⟨o, ho, _⟩ => absurd ho (Nat.not_lt_zero o))⟩
      · rintro k a b T rec hk ⟨rfl, rfl, e, rfl, he⟩
        left
        rw [if_neg (show ¬ nI k ≥ (12 : Int32) from nI_ge (b := 12) hk (by decide)), e9_isIn N hx hk, sv_bd, sv_Bi]
        by_cases hb : x.testBit k = true
        · obtain ⟨f, hf, hr⟩ := ih (sv_wo x k) (sv_rm_lt4 x k) (by have := sv_rm_ct hx hb; omega) k hk T
          have d6 := sv_ds_le hc hk
          have f6 := hf.1
          have e6 := he.1
          have hnew : sv_lst (fun w => ∃ o, o < k + 1 ∧ ∃ M, sv_pm (o :: M) x ∧ sv_pc c (o :: M) ≤ w) (min e (f + sv_ds c k)) := by
            refine sv_lst_wk (sv_lst_min (d := sv_ds c k) he hf) (fun w => ?_)
            constructor
            · rintro (⟨o, ho, z⟩ | ⟨u, hu, M, hM, hv⟩)
              · exact ⟨o, by omega, z⟩
              · refine ⟨k, by omega, M, (sv_pm_cons hx).mpr ⟨hb, hM⟩, ?_⟩
                show sv_ds c k + sv_pc k M ≤ w
                omega
            · rintro ⟨o, ho, M, hM, hv⟩
              by_cases ok : o = k
              · subst ok
                refine Or.inr ⟨sv_pc o M, ?_, M, ((sv_pm_cons hx).mp hM).2, Nat.le_refl _⟩
                have : sv_ds c o + sv_pc o M ≤ w := hv
                omega
              · exact Or.inl ⟨o, by omega, M, hM, hv⟩
          rw [if_pos hb, e9_stepsTo N hc hk, sv_bd, sv_shl k (by omega), sv_rm_I hx hk, hr, sv_bd, sv_li, nI_add]
          by_cases q : e ≤ sv_ds c k + f
          · rw [if_pos (show nI (sv_ds c k + f) ≥ nI e from (nI_leI (by omega) (by omega)).mpr q)]
            refine ⟨_, _, T, ⟨nI_1 k, rfl, e, rfl, ?_⟩, rfl⟩
            rw [show min e (f + sv_ds c k) = e by omega] at hnew
            exact hnew
          · rw [if_neg (show ¬ nI (sv_ds c k + f) ≥ nI e from fun z => q ((nI_leI (by omega) (by omega)).mp z))]
            refine ⟨_, _, T, ⟨nI_1 k, rfl, sv_ds c k + f, rfl, ?_⟩, rfl⟩
            rw [show min e (f + sv_ds c k) = sv_ds c k + f by omega] at hnew
            exact hnew
        · rw [if_neg hb]
          refine ⟨_, _, T, ⟨nI_1 k, rfl, e, rfl, sv_lst_wk he (fun w => ?_)⟩, rfl⟩
          constructor
          · rintro ⟨o, ho, z⟩
            exact ⟨o, by omega, z⟩
          · rintro ⟨o, ho, M, hM, hv⟩
            have : o ≠ k := by
              intro z
              subst z
              exact hb ((sv_pm_cons hx).mp hM).1
            exact ⟨o, by omega, M, hM, hv⟩
      · rintro a b T rec ⟨rfl, rfl, e, rfl, he⟩
        rw [if_pos (show nI 12 ≥ (12 : Int32) from Int32.le_refl _)]
        refine ⟨e, sv_lst_wk he (fun w => ?_), rfl⟩
        constructor
        · rintro ⟨o, ho, M, hM, hv⟩
          exact ⟨_, hM, hv⟩
        · rintro ⟨M, hM, hv⟩
          cases M with
          | nil => exact absurd (sv_pm_n hM) h0
          | cons o M => exact ⟨o, sv_tb_lt hx ((sv_pm_cons hx).mp hM).1, M, hM, hv⟩
/-- the class's table up to a set -/
def sv_tt (st : Nat → Nat) (c n : Nat) (S : sw_St) (z l : Nat) : Prop := ∃ e, S.1 28 (z * 6 + l) = nI e ∧ sv_lst (fun w => ∃ L, sv_pm (l :: L) z ∧ sv_qc st c (l :: L) ≤ w) e
theorem e7_leastSteps (N : Nat) (hN : 20 ≤ N) {S : sw_St} {st : Nat → Nat} {c n : Nat} (hn : n ≤ 6) (hc : c < 12) (hcd : S.1 1 3 = nI c) (hst : ∀ k, k < n → S.1 27 k = nI (st k) ∧ st k < 12) {y l : Nat} (hy : y < 2 ^ n) (hl : l < n) (ht : ∀ z l, 1 ≤ z → z < y → l < n → sv_tt st c n S z l) : ∃ e, fX7_leastSteps N (nI y) (nI l) (nI n) S = some (nI e, S) ∧ sv_lst (fun w => ∃ L, sv_pm (l :: L) y ∧ sv_qc st c (l :: L) ≤ w) e := by
  have hy64 : y < 64 := Nat.lt_of_lt_of_le hy (show 2 ^ n ≤ 2 ^ 6 from Nat.pow_le_pow_right (by decide) hn)
  have hyx : y < 4096 := by omega
  unfold fX7_leastSteps
  rw [sv_li, sv_shl l (by omega), sv_rm_I hyx (by omega)]
  have hr := sv_rm_lt4 y l
  by_cases hb : y.testBit l = true
  · have hlt := sv_rm_lt hyx hb
    rw [if_neg (show ¬ nI (sv_wo y l) = nI y from fun z => by have := (nI_eq (by omega) (by omega)).mp z; omega)]
    by_cases h0 : sv_wo y l = 0
    · rw [if_pos (by rw [h0]; rfl), sv_gi (by omega) (by decide), nI_clamp (by omega), hcd, (hst l hl).1, e8_steps N hc (hst l hl).2, sv_bd]
      have d6 := sv_ds_le hc (hst l hl).2
      refine ⟨_, rfl, by omega, fun w hw => ⟨fun z => ⟨[], (sv_pm_cons hyx).mpr ⟨hb, by rw [h0]; exact sv_pm_0.mpr rfl⟩, z⟩, ?_⟩⟩
      rintro ⟨L, hL, hv⟩
      have := ((sv_pm_cons hyx).mp hL).2
      rw [h0, sv_pm_0] at this
      subst this
      exact hv
    · rw [if_neg (show ¬ nI (sv_wo y l) = 0 from fun z => h0 ((nI_eq (b := 0) (by omega) (by decide)).mp z))]
      refine sv_fr2 (Q := fun r => ∃ e, r = some (nI e, S) ∧ sv_lst (fun w => ∃ L, sv_pm (l :: L) y ∧ sv_qc st c (l :: L) ≤ w) e) (fun k a b T => b = nI k ∧ T = S ∧ ∃ e, a = nI e ∧ sv_lst (fun w => ∃ i, i < k ∧ ∃ L, sv_pm (l :: i :: L) y ∧ sv_qc st c (l :: i :: L) ≤ w) e) n ?_ ?_ N _ _ S (by omega) ⟨rfl, rfl, 1000000, rfl, sv_lst_0 (fun w ⟨o, ho, _⟩ => absurd ho (Nat.not_lt_zero o))⟩
      · rintro k a b T rec hk ⟨rfl, rfl, e, rfl, he⟩
        left
        obtain ⟨f, hf, hfl⟩ := ht (sv_wo y l) k (by omega) hlt hk
        have d6 := sv_ds_le (hst k hk).2 (hst l hl).2
        have f6 := hfl.1
        have e6 := he.1
        rw [if_neg (show ¬ nI k ≥ nI n from nI_ge hk (by omega)), show nI (sv_wo y l) * (6 : Int32) = nI (sv_wo y l * 6) from pk_mul _ 6, nI_add, sv_gi (by omega) (by decide), sv_gi (by omega) (by decide), sv_gi (by omega) (by decide), nI_clamp (by omega), nI_clamp (by omega), nI_clamp (by omega), (hst k hk).1, (hst l hl).1, e8_steps N (hst k hk).2 (hst l hl).2, sv_bd, hf, sv_li, nI_add, sv_mnn (by omega) (by omega)]
        refine ⟨_, _, T, ⟨nI_1 k, rfl, _, rfl, sv_lst_wk (sv_lst_min (d := sv_ds (st k) (st l)) he hfl) (fun w => ?_)⟩, rfl⟩
        constructor
        · rintro (⟨o, ho, z⟩ | ⟨u, hu, M, hM, hv⟩)
          · exact ⟨o, by omega, z⟩
          · refine ⟨k, by omega, M, (sv_pm_cons hyx).mpr ⟨hb, hM⟩, ?_⟩
            show sv_qc st c (k :: M) + sv_ds (st k) (st l) ≤ w
            omega
        · rintro ⟨o, ho, M, hM, hv⟩
          by_cases ok : o = k
          · subst ok
            exact Or.inr ⟨sv_qc st c (o :: M), hv, M, ((sv_pm_cons hyx).mp hM).2, Nat.le_refl _⟩
          · exact Or.inl ⟨o, by omega, M, hM, hv⟩
      · rintro a b T rec ⟨rfl, rfl, e, rfl, he⟩
        rw [if_pos (show nI n ≥ nI n from Int32.le_refl _)]
        refine ⟨e, rfl, sv_lst_wk he (fun w => ?_)⟩
        constructor
        · rintro ⟨o, ho, M, hM, hv⟩
          exact ⟨_, hM, hv⟩
        · rintro ⟨M, hM, hv⟩
          cases M with
          | nil => exact absurd (sv_pm_n ((sv_pm_cons hyx).mp hM).2) h0
          | cons o M =>
            have h1 := ((sv_pm_cons (sv_rm_lt4 y l)).mp ((sv_pm_cons hyx).mp hM).2).1
            rw [sv_rm_bit hyx] at h1
            have h2 : y.testBit o = true := by
              cases q : y.testBit o
              · rw [q] at h1; cases h1
              · rfl
            refine ⟨o, ?_, M, hM, hv⟩
            rcases Nat.lt_or_ge o n with q | q
            · exact q
            · have : y < 2 ^ o := Nat.lt_of_lt_of_le hy (Nat.pow_le_pow_right (by decide) q)
              rw [Nat.testBit_lt_two_pow this] at h2
              cases h2
  · rw [if_pos (by rw [(sv_rm_eq hyx).mpr (by simpa using hb)])]
    exact ⟨1000000, rfl, sv_lst_0 (fun w ⟨L, hL, _⟩ => hb ((sv_pm_cons hyx).mp hL).1)⟩
theorem e7_leastOf (N : Nat) (hN : 20 ≤ N) {S : sw_St} {st : Nat → Nat} {c n : Nat} (hn : n ≤ 6) (hn1 : 1 ≤ n) (ht : ∀ l, l < n → sv_tt st c n S (2 ^ n - 1) l) : ∃ e, fX7_leastOf N (nI (2 ^ n - 1)) (nI n) S = some (nI e, S) ∧ sv_lst (fun w => ∃ L, sv_pm L (2 ^ n - 1) ∧ sv_qc st c L ≤ w) e := by
  have h64 : 2 ^ n ≤ 64 := show 2 ^ n ≤ 2 ^ 6 from Nat.pow_le_pow_right (by decide) hn
  have h2 : 2 ≤ 2 ^ n := show 2 ^ 1 ≤ 2 ^ n from Nat.pow_le_pow_right (by decide) hn1
  unfold fX7_leastOf
  refine sv_fr2 (Q := fun r => ∃ e, r = some (nI e, S) ∧ sv_lst (fun w => ∃ L, sv_pm L (2 ^ n - 1) ∧ sv_qc st c L ≤ w) e) (fun k a b T => b = nI k ∧ T = S ∧ ∃ e, a = nI e ∧ sv_lst (fun w => ∃ i, i < k ∧ ∃ L, sv_pm (i :: L) (2 ^ n - 1) ∧ sv_qc st c (i :: L) ≤ w) e) n ?_ ?_ N _ _ S (by omega) ⟨rfl, rfl, 1000000, rfl, sv_lst_0 (fun w ⟨o, ho, _⟩ => absurd ho (Nat.not_lt_zero o))⟩
  · rintro k a b T rec hk ⟨rfl, rfl, e, rfl, he⟩
    left
    obtain ⟨f, hf, hfl⟩ := ht k hk
    have f6 := hfl.1
    have e6 := he.1
    have hy : 2 ^ n - 1 < 64 := by omega
    generalize 2 ^ n - 1 = y at *
    rw [if_neg (show ¬ nI k ≥ nI n from nI_ge hk (by omega)), show nI y * (6 : Int32) = nI (y * 6) from pk_mul _ 6, nI_add, sv_gi (by omega) (by decide), nI_clamp (by omega), hf, sv_li, sv_mnn (by omega) (by omega)]
    refine ⟨_, _, T, ⟨nI_1 k, rfl, _, rfl, sv_lst_wk (sv_lst_min (d := 0) he hfl) (fun w => ?_)⟩, rfl⟩
    constructor
    · rintro (⟨o, ho, z⟩ | ⟨u, hu, M, hM, hv⟩)
      · exact ⟨o, by omega, z⟩
      · exact ⟨k, by omega, M, hM, by omega⟩
    · rintro ⟨o, ho, M, hM, hv⟩
      by_cases ok : o = k
      · subst ok
        exact Or.inr ⟨sv_qc st c (o :: M), hv, M, hM, Nat.le_refl _⟩
      · exact Or.inl ⟨o, by omega, M, hM, hv⟩
  · rintro a b T rec ⟨rfl, rfl, e, rfl, he⟩
    rw [if_pos (show nI n ≥ nI n from Int32.le_refl _)]
    refine ⟨e, rfl, sv_lst_wk he (fun w => ?_)⟩
    constructor
    · rintro ⟨o, ho, M, hM, hv⟩
      exact ⟨_, hM, hv⟩
    · rintro ⟨M, hM, hv⟩
      cases M with
      | nil => have := sv_pm_n hM; omega
      | cons o M =>
        refine ⟨o, ?_, M, hM, hv⟩
        have := (hM.2 o).mp (List.mem_cons_self ..)
        rw [Nat.testBit_two_pow_sub_one] at this
        simpa using this
