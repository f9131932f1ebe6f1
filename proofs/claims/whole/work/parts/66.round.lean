/-! rounds: hours of a row, nights in thought -/
def sv_hh (E : Nat → Int32) (sz h : Nat) : Prop := h ≤ 24 ∧ h ≤ sz ∧ (∀ j, j < h → 0 ≤ E j ∧ E j ≤ 11) ∧ (h < 24 → h < sz → ¬ (0 ≤ E h ∧ E h ≤ 11))
theorem sv_hh_u {E : Nat → Int32} {sz h k : Nat} (a : sv_hh E sz h) (b : sv_hh E sz k) : h = k := by
  obtain ⟨a1, a2, a3, a4⟩ := a
  obtain ⟨b1, b2, b3, b4⟩ := b
  rcases Nat.lt_trichotomy h k with q | q | q
  · exact absurd (b3 h q) (a4 (by omega) (by omega))
  · exact q
  · exact absurd (a3 k q) (b4 (by omega) (by omega))
theorem e5_hours (N : Nat) (hN : 100 ≤ N) {S : sw_St} {o sz : Nat} (hsz : sz ≤ 60) (hz : S.1 o 2 = nI sz) : ∃ h, fX5_hours N o S = some (nI h, S) ∧ sv_hh (fun j => (S.2 (o + 1) j).toInt32) sz h := by
  unfold fX5_hours
  refine sv_fr1 (Q := fun t => ∃ h, t = some (nI h, S) ∧ sv_hh (fun j => (S.2 (o + 1) j).toInt32) sz h) (fun k x W => x = nI k ∧ W = S ∧ k ≤ sz ∧ ∀ j, j < k → 0 ≤ (S.2 (o + 1) j).toInt32 ∧ (S.2 (o + 1) j).toInt32 ≤ 11) 24 ?_ ?_ N _ S (by omega) ⟨rfl, rfl, by omega, fun j hj => absurd hj (Nat.not_lt_zero j)⟩
  · rintro k x W rec hk ⟨rfl, rfl, hks, w1⟩
    rw [if_neg (show ¬ nI k ≥ (24 : Int32) from nI_ge (b := 24) hk (by decide)), hz]
    by_cases hq : k < sz
    · rw [if_neg (nI_ge hq (by omega)), sv_gi (by omega) (by decide), nI_clamp (by omega), e8_isCot, sv_bd, sv_Bi]
      by_cases hc : 0 ≤ (W.2 (o + 1) k).toInt32 ∧ (W.2 (o + 1) k).toInt32 ≤ 11
      · rw [if_pos hc]
        left
        refine ⟨_, W, ⟨nI_1 k, rfl, by omega, fun j hj => ?_⟩, rfl⟩
        rcases Nat.lt_or_ge j k with q | q
        · exact w1 j q
        · have : j = k := by omega
          rw [this]; exact hc
      · rw [if_neg hc]
        right
        exact ⟨k, rfl, by omega, hks, w1, fun _ _ => hc⟩
    · rw [if_pos (nI_le (by omega) (by omega))]
      right
      exact ⟨k, rfl, by omega, hks, w1, fun _ z => absurd z hq⟩
  · rintro x W rec ⟨rfl, rfl, hks, w1⟩
    rw [if_pos (show nI 24 ≥ (24 : Int32) from Int32.le_refl _)]
    exact ⟨24, rfl, Nat.le_refl _, hks, w1, fun z => absurd z (by decide)⟩
theorem e9_hourMany (N : Nat) (hN : 100 ≤ N) {S : sw_St} {E : Nat → Int32} {d sz : Nat} (hd : d < 6) (hsz : sz ≤ 60) (hz : S.1 125 d = nI sz) (hE : ∀ j, j < 60 → S.2 126 (60 * d + j) = (E j).toInt64) : ∃ h, fX9_hourMany N (nI d) S = some (nI h, S) ∧ sv_hh E sz h := by
  unfold fX9_hourMany
  refine sv_fr1 (Q := fun t => ∃ h, t = some (nI h, S) ∧ sv_hh E sz h) (fun k x W => x = nI k ∧ W = S ∧ k ≤ sz ∧ ∀ j, j < k → 0 ≤ E j ∧ E j ≤ 11) 24 ?_ ?_ N _ S (by omega) ⟨rfl, rfl, by omega, fun j hj => absurd hj (Nat.not_lt_zero j)⟩
  · rintro k x W rec hk ⟨rfl, rfl, hks, w1⟩
    rw [if_neg (show ¬ nI k ≥ (24 : Int32) from nI_ge (b := 24) hk (by decide)), sv_gi hd (by decide), nI_clamp (by omega), hz]
    by_cases hq : k < sz
    · rw [if_neg (nI_ge hq (by omega)), show (60 : Int32) * nI d = nI (60 * d) from pk_mul 60 d, nI_add, sv_gi (by omega) (by decide), nI_clamp (by omega), hE k (by omega), e9_isCot, sv_bd, sv_Bi]
      by_cases hc : 0 ≤ E k ∧ E k ≤ 11
      · rw [if_pos hc]
        left
        refine ⟨_, W, ⟨nI_1 k, rfl, by omega, fun j hj => ?_⟩, rfl⟩
        rcases Nat.lt_or_ge j k with q | q
        · exact w1 j q
        · have : j = k := by omega
          rw [this]; exact hc
      · rw [if_neg hc]
        right
        exact ⟨k, rfl, by omega, hks, w1, fun _ _ => hc⟩
    · rw [if_pos (nI_le (by omega) (by omega))]
      right
      exact ⟨k, rfl, by omega, hks, w1, fun _ z => absurd z hq⟩
  · rintro x W rec ⟨rfl, rfl, hks, w1⟩
    rw [if_pos (show nI 24 ≥ (24 : Int32) from Int32.le_refl _)]
    exact ⟨24, rfl, Nat.le_refl _, hks, w1, fun z => absurd z (by decide)⟩
theorem sv_cg10 : sw_cg (0 : Int32) (0 : Int32) (10 : Int32) 10 10 = true := sv_cg (sp := 0) (dp := 0) (n := 10) (by decide) (by decide) (by decide) (by decide)
theorem sv_cg12 : sw_cg (0 : Int32) (0 : Int32) (12 : Int32) 12 12 = true := sv_cg (sp := 0) (dp := 0) (n := 12) (by decide) (by decide) (by decide) (by decide)
theorem sv_ci0 (S : sw_St) (o q n : Nat) (a b : Nat) : (sw_ci S o q 0 0 n).1 a b = if a = q ∧ b < n then S.1 o b else S.1 a b := by
  rw [sv_ci]
  by_cases h : a = q ∧ b < n
  · rw [if_pos ⟨h.1, Nat.zero_le _, by omega⟩, if_pos h, show 0 + (b - 0) = b by omega]
  · rw [if_neg (fun z => h ⟨z.1, by omega⟩), if_neg h]
theorem e4_becomeInMind (N : Nat) {S : sw_St} {o o1 : Nat} (ho : o + 10 ≤ o1 ∨ o1 + 10 ≤ o) : ∃ V, fX4_becomeInMind N o o1 S = some ((), V) ∧ V.1 o 1 = S.1 o1 1 ∧ (∀ k, k ≠ 1 → V.1 o k = S.1 o k) ∧ (∀ s, s < 10 → V.1 (o + 4) s = S.1 (o1 + 4) s) ∧ sv_ag (fun a => a = o ∨ a = o + 4) S V := by
  unfold fX4_becomeInMind
  rw [sv_ls, sv_cg10, sv_gt, sv_ls, show (0 : Int32).toNatClampNeg = 0 from rfl, show (10 : Int32).toNatClampNeg = 10 from rfl]
  refine ⟨_, rfl, ?_, fun k hk => ?_, fun s hs => ?_, sv_ag_tr (sv_ag_si S o 1 _ (Or.inl rfl)) (sv_ag_ci _ _ (o + 4) _ _ _ (Or.inr rfl))⟩
  · rw [sv_ci0, if_neg (by omega), sv_si, if_pos ⟨rfl, rfl⟩]
  · rw [sv_ci0, if_neg (by omega), sv_si, if_neg (by omega)]
  · rw [sv_ci0, if_pos ⟨rfl, hs⟩, sv_si, if_neg (by omega)]
theorem e4_become (N : Nat) {S : sw_St} {o : Nat} {A : sv_A} (ho : 20 ≤ o) (h : sv_nc S 1 A) : ∃ V, fX4_become N o 1 S = some ((), V) ∧ sv_nc V o A ∧ sv_ag (fun a => o ≤ a ∧ a ≤ o + 6) S V := by
  unfold fX4_become
  rw [sv_ls, sv_ls, sv_ls, sv_cg10, sv_cg12, show (0 : Int32).toNatClampNeg = 0 from rfl, show (10 : Int32).toNatClampNeg = 10 from rfl, show (12 : Int32).toNatClampNeg = 12 from rfl]
  simp only [sv_gt, sv_ls]
  generalize hT : sw_ci _ (1 + 6) (o + 6) 0 0 12 = T
  have gT : sv_ag (fun a => o ≤ a ∧ a ≤ o + 6) S T := by
    rw [← hT]
    exact sv_ag_tr (sv_ag_si S o 0 _ (by omega)) (sv_ag_tr (sv_ag_si _ o 2 _ (by omega)) (sv_ag_tr (sv_ag_si _ o 3 _ (by omega)) (sv_ag_tr (sv_ag_ci _ _ (o + 1) _ _ _ (by omega)) (sv_ag_tr (sv_ag_ci _ _ (o + 2) _ _ _ (by omega)) (sv_ag_tr (sv_ag_ci _ _ (o + 3) _ _ _ (by omega)) (sv_ag_tr (sv_ag_ci _ _ (o + 5) _ _ _ (by omega)) (sv_ag_ci _ _ (o + 6) _ _ _ (by omega))))))))
  have t0 : T.1 o 0 = S.1 1 0 := by
    rw [← hT, sv_ci0, if_neg (by omega), sv_ci0, if_neg (by omega), sv_ci0, if_neg (by omega), sv_ci0, if_neg (by omega), sv_ci0, if_neg (by omega), sv_si, if_neg (by omega), sv_si, if_neg (by omega), sv_si, if_pos (by omega)]
  have t2 : T.1 o 2 = S.1 1 2 := by
    rw [← hT, sv_ci0, if_neg (by omega), sv_ci0, if_neg (by omega), sv_ci0, if_neg (by omega), sv_ci0, if_neg (by omega), sv_ci0, if_neg (by omega), sv_si, if_neg (by omega), sv_si, if_pos (by omega), sv_si, if_neg (by omega)]
  have t3 : T.1 o 3 = S.1 1 3 := by
    rw [← hT, sv_ci0, if_neg (by omega), sv_ci0, if_neg (by omega), sv_ci0, if_neg (by omega), sv_ci0, if_neg (by omega), sv_ci0, if_neg (by omega), sv_si, if_pos (by omega), sv_si, if_neg (by omega), sv_si, if_neg (by omega)]
  have tr : ∀ k s, k < 5 → k ≠ 3 → s < 10 → T.1 (o + (1 + k)) s = S.1 (1 + (1 + k)) s := by
    intro k s hk hk3 hs
    rw [← hT]
    rcases sv_lt5 (show k ≤ 4 by omega) with rfl | rfl | rfl | rfl | rfl
    · rw [sv_ci0, if_neg (by omega), sv_ci0, if_neg (by omega), sv_ci0, if_neg (by omega), sv_ci0, if_neg (by omega), sv_ci0, if_pos (by omega), sv_si, if_neg (by omega), sv_si, if_neg (by omega), sv_si, if_neg (by omega)]
    · rw [sv_ci0, if_neg (by omega), sv_ci0, if_neg (by omega), sv_ci0, if_neg (by omega), sv_ci0, if_pos (by omega), sv_ci0, if_neg (by omega), sv_si, if_neg (by omega), sv_si, if_neg (by omega), sv_si, if_neg (by omega)]
    · rw [sv_ci0, if_neg (by omega), sv_ci0, if_neg (by omega), sv_ci0, if_pos (by omega), sv_ci0, if_neg (by omega), sv_ci0, if_neg (by omega), sv_si, if_neg (by omega), sv_si, if_neg (by omega), sv_si, if_neg (by omega)]
    · exact absurd rfl hk3
    · rw [sv_ci0, if_neg (by omega), sv_ci0, if_pos (by omega), sv_ci0, if_neg (by omega), sv_ci0, if_neg (by omega), sv_ci0, if_neg (by omega), sv_si, if_neg (by omega), sv_si, if_neg (by omega), sv_si, if_neg (by omega)]
  have tl : ∀ c, c < 12 → T.1 (o + 6) c = S.1 7 c := by
    intro c hc
    rw [← hT, sv_ci0, if_pos (by omega), sv_ci0, if_neg (by omega), sv_ci0, if_neg (by omega), sv_ci0, if_neg (by omega), sv_ci0, if_neg (by omega), sv_si, if_neg (by omega), sv_si, if_neg (by omega), sv_si, if_neg (by omega)]
  obtain ⟨V, hV, v1, vk, v4, gV⟩ := e4_becomeInMind N (S := T) (o := o) (o1 := 1) (by omega)
  refine ⟨V, by rw [hV, sv_bd], ⟨by rw [vk 0 (by decide), t0]; exact h.1, fun k s hk hs => ?_, fun j hj => ?_, fun c hc => ?_⟩, sv_ag_tr gT (sv_ag_wk gV (fun a ha => by omega))⟩
  · by_cases hk3 : k = 3
    · subst hk3
      rw [show o + (1 + 3) = o + 4 by omega, v4 s hs, (gT _ (by omega)).1]
      exact h.2.1 3 s hk hs
    · rw [(gV _ (by omega)).1, tr k s hk hk3 hs]
      exact h.2.1 k s hk hs
  · have : j = 0 ∨ j = 1 ∨ j = 2 := by omega
    rcases this with rfl | rfl | rfl
    · rw [show 1 + 0 = 1 from rfl, v1, (gT 1 (by omega)).1]; exact h.2.2.1 0 (by decide)
    · rw [vk _ (by decide), show 1 + 1 = 2 from rfl, t2]; exact h.2.2.1 1 (by decide)
    · rw [vk _ (by decide), show 1 + 2 = 3 from rfl, t3]; exact h.2.2.1 2 (by decide)
  · rw [(gV _ (by omega)).1, tl c hc]
    exact h.2.2.2 c hc
theorem e7_fresh (N : Nat) {S : sw_St} {A : sv_A} (h : sv_nc S 1 A) : ∃ V, fX7_fresh N S = some (29, V) ∧ sv_nc V 29 A ∧ sv_ag (fun a => 29 ≤ a ∧ a ≤ 35) S V := by
  unfold fX7_fresh
  obtain ⟨V, hV, v1, v2⟩ := e4_become N (o := 29) (by decide) h
  refine ⟨V, ?_, v1, v2⟩
  have g0 : ∀ {β : Type} (t : Option β), sw_gd (sw_in (0 : Int32) 5) t = t := fun t => sv_gi (k := 0) (n := 5) (by decide) (by decide) t
  rw [g0, show 29 + 10 * (0 : Int32).toNatClampNeg = 29 from rfl, hV, sv_bd, g0]
/-- the attic behind i hours of a round -/
def sv_rd (L : sv_L) (A : sv_A) (E : Nat → Int32) : Nat → sv_A
  | 0 => A
  | i + 1 => sv_hr L (sv_rd L A E i) (E i)
theorem sv_rd_wf {L : sv_L} {A : sv_A} (h : sv_wf A) (E : Nat → Int32) : ∀ i, sv_wf (sv_rd L A E i)
  | 0 => h
  | i + 1 => sv_hr_wf (sv_rd_wf h E i)
theorem sv_rd_n {L : sv_L} {A : sv_A} (E : Nat → Int32) : ∀ i, (sv_rd L A E i).1 = A.1
  | 0 => rfl
  | i + 1 => sv_rd_n E i
/-- cells of the class's thought: nights, and the law's stacks -/
def sv_tq (a : Nat) : Prop := (14 ≤ a ∧ a ≤ 15) ∨ (29 ≤ a ∧ a ≤ 78)
def sv_tw (a : Nat) : Prop := (14 ≤ a ∧ a ≤ 15) ∨ (23 ≤ a ∧ a ≤ 78)
theorem sv_tq_tw {S T : sw_St} (h : sv_ag sv_tq S T) : sv_ag sv_tw S T := sv_ag_wk h (fun a ha => by unfold sv_tq at ha; unfold sv_tw; omega)
theorem sv_tw_same {S T : sw_St} (h : sv_ag sv_tw S T) : sv_same S T := sv_same_ag h (fun a ha => by unfold sv_tw at ha; unfold sv_P; omega) (by unfold sv_tw; omega)
theorem sv_tq_same {S T : sw_St} (h : sv_ag sv_tq S T) : sv_same S T := sv_same_ag h (fun a ha => by unfold sv_tq at ha; unfold sv_P; omega) (by unfold sv_tq; omega)
theorem sv_mnn {a b : Nat} (ha : a < 2 ^ 31) (hb : b < 2 ^ 31) : sw_mn (nI a) (nI b) = nI (min a b) := by
  unfold sw_mn
  by_cases h : a ≤ b
  · rw [if_neg (nI_nlt h hb), Nat.min_eq_left h]
  · rw [if_pos (nI_lt (by omega) ha), Nat.min_eq_right (by omega)]
/-- one hour more of a round, in the class -/
theorem e7_next (N : Nat) (hN : 200 ≤ N) {S W : sw_St} {A : sv_A} {L : sv_L} (hL : sv_lc L S) (hA : sv_wf A) {o k sz : Nat} (ho : 93 ≤ o) (hsz : sz ≤ 60) (hz : S.1 o 2 = nI sz) (hk : k < sz) (w2 : sv_nc W 29 (sv_rd L A (fun j => (S.2 (o + 1) j).toInt32) k)) (gW : sv_ag sv_tq S W) : ∃ V, fX5_byteAt N o (nI k) W = some ((S.2 (o + 1) k).toInt32, W) ∧ fX4_passHour N 29 11 (S.2 (o + 1) k).toInt32 W = some ((), V) ∧ sv_nc V 29 (sv_rd L A (fun j => (S.2 (o + 1) j).toInt32) (k + 1)) ∧ sv_ag sv_tq S V := by
  have wz : W.1 o 2 = nI sz := by rw [(gW o (by unfold sv_tq; omega)).1]; exact hz
  have b0 := e5_byteAt N hsz wz hk
  rw [(gW (o + 1) (by unfold sv_tq; omega)).2] at b0
  obtain ⟨V, hV, v1, v2⟩ := e4_passHour N hN (Or.inr (Or.inl rfl)) w2 (sv_rd_wf hA _ k) (sv_lc_of hL (gW 11 (by unfold sv_tq; omega)).1 (gW 12 (by unfold sv_tq; omega)).1 (gW 13 (by unfold sv_tq; omega)).1) (S.2 (o + 1) k).toInt32
  exact ⟨V, b0, hV, v1, sv_ag_tr gW (sv_ag_wk v2 (fun a ha => by unfold sv_tq; omega))⟩
theorem e7_behind (N : Nat) (hN : 200 ≤ N) {S : sw_St} {A : sv_A} {L : sv_L} (h : sv_nc S 1 A) (hA : sv_wf A) (hL : sv_lc L S) {o n sz : Nat} (ho : 93 ≤ o) (hsz : sz ≤ 60) (hz : S.1 o 2 = nI sz) (hn : n ≤ 24) : ∃ i V, fX7_behind N o (nI n) S = some (29, V) ∧ sv_hh (fun j => (S.2 (o + 1) j).toInt32) sz i ∧ sv_nc V 29 (sv_rd L A (fun j => (S.2 (o + 1) j).toInt32) (min n i)) ∧ sv_ag sv_tq S V := by
  unfold fX7_behind
  obtain ⟨V, hV, v1, v2⟩ := e7_fresh N h
  have gV : sv_ag sv_tq S V := sv_ag_wk v2 (fun a ha => by unfold sv_tq; omega)
  obtain ⟨i, hi, q⟩ := e5_hours N (by omega) (S := V) (o := o) (sz := sz) hsz (by rw [(gV o (by unfold sv_tq; omega)).1]; exact hz)
  rw [(gV (o + 1) (by unfold sv_tq; omega)).2] at q
  have q' := q
  obtain ⟨q1, q2, -⟩ := q'
  rw [hV, sv_bd, show (decide (sw_kd 29 = 4)) = true from rfl, sv_gt, hi, sv_bd, sv_mnn (by omega) (by omega), sv_li]
  have hm : min n i ≤ i := Nat.min_le_right _ _
  refine sv_fr1 (Q := fun t => ∃ i V, t = some (29, V) ∧ sv_hh (fun j => (S.2 (o + 1) j).toInt32) sz i ∧ sv_nc V 29 (sv_rd L A (fun j => (S.2 (o + 1) j).toInt32) (min n i)) ∧ sv_ag sv_tq S V) (fun k x W => x = nI k ∧ sv_nc W 29 (sv_rd L A (fun j => (S.2 (o + 1) j).toInt32) k) ∧ sv_ag sv_tq S W) (min n i) ?_ ?_ N _ V (by omega) ⟨rfl, v1, gV⟩
  · rintro k x W rec hk ⟨rfl, w2, gW⟩
    left
    obtain ⟨U, b0, hU, u1, u2⟩ := e7_next N hN hL hA ho hsz hz (show k < sz by omega) w2 gW
    rw [if_neg (nI_ge hk (by omega)), b0, sv_bd, hU, sv_bd]
    exact ⟨_, U, ⟨nI_1 k, u1, u2⟩, rfl⟩
  · rintro x W rec ⟨rfl, w2, gW⟩
    rw [if_pos (Int32.le_refl _)]
    exact ⟨i, W, rfl, q, w2, gW⟩
