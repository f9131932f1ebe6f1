/-! what runs in the reference; act -/
def sv_rm (f : Nat) (S : sw_St) : sw_St := sw_si (if S.1 105 35 ≥ 24 then S else sw_si S 123 (S.1 105 35).toNatClampNeg (nI f)) 105 35 (S.1 105 35 + 1)
def sv_fm (l : List Nat) (S : sw_St) : sw_St := l.foldl (fun T f => sv_rm f T) S
theorem sv_fm_ap (l m : List Nat) (S : sw_St) : sv_fm (l ++ m) S = sv_fm m (sv_fm l S) := List.foldl_append ..
def sv_hm (S : sw_St) (K b r : Nat) : Prop := S.1 105 36 = nI K ∧ S.1 105 37 = nI b ∧ S.1 105 35 = nI r
theorem sv_rm_e (f : Nat) (S : sw_St) : (sv_rm f S).1 105 36 = S.1 105 36 ∧ (sv_rm f S).1 105 37 = S.1 105 37 ∧ (sv_rm f S).1 105 35 = S.1 105 35 + 1 := by
  unfold sv_rm
  by_cases h : S.1 105 35 ≥ 24
  · rw [if_pos h]; exact ⟨rfl, rfl, rfl⟩
  · rw [if_neg h]; exact ⟨rfl, rfl, rfl⟩
theorem sv_hm_s {S : sw_St} {K b r : Nat} (h : sv_hm S K b r) (f : Nat) : sv_hm (sv_rm f S) K b (r + 1) := by
  obtain ⟨h2, h3, h4⟩ := h
  obtain ⟨e1, e2, e3⟩ := sv_rm_e f S
  exact ⟨by rw [e1, h2], by rw [e2, h3], by rw [e3, h4, nI_1]⟩
theorem sv_hm_l {K b : Nat} : ∀ (l : List Nat) {S : sw_St} {r : Nat}, sv_hm S K b r → sv_hm (sv_fm l S) K b (r + l.length)
  | [], _, _, h => h
  | f :: l, S, r, h => by
    have := sv_hm_l l (sv_hm_s h f)
    rw [show r + (f :: l).length = r + 1 + l.length by simp only [List.length_cons]; omega]
    exact this
theorem e9_runs (N f : Nat) {S : sw_St} {K b r : Nat} (h : sv_hm S K b r) (hr : r < 1000) : fX9_runs N (nI f) S = some ((), sv_rm f S) := by
  unfold fX9_runs sv_rm
  by_cases hq : S.1 105 35 ≥ 24
  · rw [if_pos hq, if_pos hq]; rfl
  · rw [if_neg hq, if_neg hq]
    have hr24 : r < 24 := by
      rcases Nat.lt_or_ge r 24 with z | z
      · exact z
      · exact absurd (by rw [h.2.2]; exact nI_le (a := 24) z (by omega)) hq
    rw [h.2.2, sv_gi hr24 (by decide), sv_ls, sv_ls]
    have : (sw_si S 123 (nI r).toNatClampNeg (nI f)).1 105 35 = nI r := h.2.2
    rw [this]
theorem fm_w0 (N n : Nat) (x : Int32) {S : sw_St} {K b r k : Nat} (hk : k < 8) (h0 : ¬ (k = 1 ∨ k = 4 ∨ k = 7 ∨ k = 6)) (h : sv_hm S K b r) (hr : r < 1000) : fG_9 N (n + 1) 0 (nI k) x 0 0 S = some (x + nI b, sv_fm [1] S) := by
  have key : fG_9 N (n + 1) 0 (nI k) x 0 0 S = sw_bd (fX9_runs N (nI 1) S) (fun _ S5 => some (x + S5.1 105 37, S5)) := by
    rcases sv_lt8 hk with rfl | rfl | rfl | rfl | rfl | rfl | rfl | rfl <;> first | rfl | exact absurd (by decide) h0
  rw [key, e9_runs N 1 h hr, sv_bd, (sv_rm_e 1 S).2.1, h.2.1]
  rfl
theorem fm_w (N : Nat) (x : Int32) {S : sw_St} {K b r k : Nat} (hk : k < 8) (h : sv_hm S K b r) (hr : r < 900) : fX9_wakesAs N (nI k) x S = some ((sv_wA k (nI b) x).1, sv_fm (sv_wA k (nI b) x).2 S) := by
  have k20 : sw_bd (fX9_runs N (nI 20) S) (fun _ S1 => sw_bd (fG_9 N 99 0 (nI 0) x 0 0 S1) (fun r2 S2 => some (r2 + (3 : Int32), S2))) = some ((x + nI b) + 3, sv_fm [20, 1] S) := by
    rw [e9_runs N 20 h (by omega), sv_bd, fm_w0 N 98 x (by decide) (by decide) (sv_hm_s h 20) (by omega)]
    rfl
  have k70 : sw_bd (fX9_runs N (nI 70) S) (fun _ S1 => sw_bd (fG_9 N 99 0 (nI 0) x 0 0 S1) (fun r2 S2 => some (r2 * (2 : Int32), S2))) = some ((x + nI b) * 2, sv_fm [70, 1] S) := by
    rw [e9_runs N 70 h (by omega), sv_bd, fm_w0 N 98 x (by decide) (by decide) (sv_hm_s h 70) (by omega)]
    rfl
  rcases sv_lt8 hk with rfl | rfl | rfl | rfl | rfl | rfl | rfl | rfl
  · exact fm_w0 N 99 x (by decide) (by decide) h (by omega)
  · exact k20
  · exact fm_w0 N 99 x (by decide) (by decide) h (by omega)
  · exact fm_w0 N 99 x (by decide) (by decide) h (by omega)
  · exact k20
  · exact fm_w0 N 99 x (by decide) (by decide) h (by omega)
  · exact k70
  · exact k20
theorem fm_c0 (N n : Nat) (x : Int32) {S : sw_St} {K b r k : Nat} (hk : k < 8) (h0 : ¬ (k = 3 ∨ k = 5 ∨ k = 4 ∨ k = 7)) (h : sv_hm S K b r) (hr : r < 1000) : fG_10 N (n + 1) 0 (nI k) x 0 0 S = some (x ^^^ nI b, sv_fm [11] S) := by
  have key : fG_10 N (n + 1) 0 (nI k) x 0 0 S = sw_bd (fX9_runs N (nI 11) S) (fun _ S5 => some (x ^^^ S5.1 105 37, S5)) := by
    rcases sv_lt8 hk with rfl | rfl | rfl | rfl | rfl | rfl | rfl | rfl <;> first | rfl | exact absurd (by decide) h0
  rw [key, e9_runs N 11 h hr, sv_bd, (sv_rm_e 11 S).2.1, h.2.1]
  rfl
theorem fm_c (N : Nat) (x : Int32) {S : sw_St} {K b r k : Nat} (hK : K < 8) (hk : k < 8) (h : sv_hm S K b r) (hr : r < 800) : fX9_criesAs N (nI k) x S = some ((sv_cA K k (nI b) x).1, sv_fm (sv_cA K k (nI b) x).2 S) := by
  have k40 : sw_bd (fX9_runs N (nI 40) S) (fun _ S1 => sw_bd (fG_10 N 99 0 (nI 2) x 0 0 S1) (fun r2 S2 => some (r2 * (3 : Int32), S2))) = some ((x ^^^ nI b) * 3, sv_fm [40, 11] S) := by
    rw [e9_runs N 40 h (by omega), sv_bd, fm_c0 N 98 x (by decide) (by decide) (sv_hm_s h 40) (by omega)]
    rfl
  have k50 : sw_bd (fX9_runs N (nI 50) S) (fun _ S4 => sw_bd (fG_10 N 99 0 (nI 1) x 0 0 S4) (fun r4 S5 => sw_bd (fX9_wakesAs N (S5.1 105 36) (2 : Int32) S5) (fun r5 S6 => some (r4 - r5, S6)))) = some ((x ^^^ nI b) - (sv_wA K (nI b) 2).1, sv_fm (50 :: 11 :: (sv_wA K (nI b) 2).2) S) := by
    have hh := sv_hm_l [11] (sv_hm_s h 50)
    rw [e9_runs N 50 h (by omega), sv_bd, fm_c0 N 98 x (by decide) (by decide) (sv_hm_s h 50) (by omega), sv_bd, hh.1, fm_w N 2 hK hh (by show r + 1 + 1 < 900; omega)]
    rfl
  rcases sv_lt8 hk with rfl | rfl | rfl | rfl | rfl | rfl | rfl | rfl
  · exact fm_c0 N 99 x (by decide) (by decide) h (by omega)
  · exact fm_c0 N 99 x (by decide) (by decide) h (by omega)
  · exact fm_c0 N 99 x (by decide) (by decide) h (by omega)
  · exact k40
  · exact k50
  · exact k40
  · exact fm_c0 N 99 x (by decide) (by decide) h (by omega)
  · exact k50
theorem fm_h0 (N n : Nat) (x : Int32) {S : sw_St} {K b r k : Nat} (hK : K < 8) (hk : k < 8) (h0 : ¬ (k = 3 ∨ k = 5 ∨ k = 2 ∨ k = 7)) (h : sv_hm S K b r) (hr : r < 800) : fG_11 N (n + 1) 0 (nI k) x 0 0 S = some ((sv_h0 K (nI b) x).1, sv_fm (sv_h0 K (nI b) x).2 S) := by
  have key : fG_11 N (n + 1) 0 (nI k) x 0 0 S = sw_bd (fX9_runs N (nI 10) S) (fun _ S3 => sw_bd (fX9_wakesAs N (S3.1 105 36) x S3) (fun r4 S4 => some (r4 * (2 : Int32), S4))) := by
    rcases sv_lt8 hk with rfl | rfl | rfl | rfl | rfl | rfl | rfl | rfl <;> first | rfl | exact absurd (by decide) h0
  have hh := sv_hm_s h 10
  rw [key, e9_runs N 10 h (by omega), sv_bd, hh.1, fm_w N x hK hh (by omega)]
  rfl
theorem fm_h2 (N n : Nat) (x : Int32) {S : sw_St} {K b r : Nat} (hK : K < 8) (h : sv_hm S K b r) (hr : r < 700) : fG_11 N (n + 2) 0 (nI 2) x 0 0 S = some (-(sv_h0 K (nI b) x).1, sv_fm (30 :: (sv_h0 K (nI b) x).2) S) := by
  show sw_bd (fX9_runs N (nI 30) S) (fun _ S8 => sw_bd (fG_11 N (n + 1) 0 (nI 0) x 0 0 S8) (fun r9 S9 => some (-r9, S9))) = _
  rw [e9_runs N 30 h (by omega), sv_bd, fm_h0 N n x hK (by decide) (by decide) (sv_hm_s h 30) (by omega)]
  rfl
theorem fm_h (N : Nat) (x : Int32) {S : sw_St} {K b r k : Nat} (hK : K < 8) (hk : k < 8) (h : sv_hm S K b r) (hr : r < 600) : fX9_hushesAs N (nI k) x S = some ((sv_hA K k (nI b) x).1, sv_fm (sv_hA K k (nI b) x).2 S) := by
  have k41 : sw_bd (fX9_runs N (nI 41) S) (fun _ S1 => sw_bd (fG_11 N 99 0 (nI 2) (x + 1) 0 0 S1) (fun r2 S2 => some (r2, S2))) = some (-(sv_h0 K (nI b) (x + 1)).1, sv_fm (41 :: 30 :: (sv_h0 K (nI b) (x + 1)).2) S) := by
    rw [e9_runs N 41 h (by omega), sv_bd, fm_h2 N 97 (x + 1) hK (sv_hm_s h 41) (by omega)]
    rfl
  have k80 : sw_bd (fX9_runs N (nI 80) S) (fun _ S5 => sw_bd (fG_11 N 99 0 (nI 4) x 0 0 S5) (fun r6 S6 => sw_bd (fX9_criesAs N (S6.1 105 36) (2 : Int32) S6) (fun r7 S7 => some (r6 + r7, S7)))) = some ((sv_h0 K (nI b) x).1 + (sv_cA K K (nI b) 2).1, sv_fm (80 :: ((sv_h0 K (nI b) x).2 ++ (sv_cA K K (nI b) 2).2)) S) := by
    have hh := sv_hm_l (sv_h0 K (nI b) x).2 (sv_hm_s h 80)
    have l1 := sv_h0_len K (nI b) x
    rw [e9_runs N 80 h (by omega), sv_bd, fm_h0 N 98 x hK (by decide) (by decide) (sv_hm_s h 80) (by omega), sv_bd, hh.1, fm_c N 2 hK hK hh (by omega), sv_bd, show sv_fm (80 :: ((sv_h0 K (nI b) x).2 ++ (sv_cA K K (nI b) 2).2)) S = sv_fm ((sv_h0 K (nI b) x).2 ++ (sv_cA K K (nI b) 2).2) (sv_rm 80 S) from rfl, sv_fm_ap]
  rcases sv_lt8 hk with rfl | rfl | rfl | rfl | rfl | rfl | rfl | rfl
  · exact fm_h0 N 99 x hK (by decide) (by decide) h (by omega)
  · exact fm_h0 N 99 x hK (by decide) (by decide) h (by omega)
  · exact fm_h2 N 98 x hK h (by omega)
  · exact k41
  · exact fm_h0 N 99 x hK (by decide) (by decide) h (by omega)
  · exact k41
  · exact fm_h0 N 99 x hK (by decide) (by decide) h (by omega)
  · exact k80
theorem fm_t0 (N n : Nat) (x : Int32) {S : sw_St} {K b r k : Nat} (hK : K < 8) (hk : k < 8) (h0 : ¬ (k = 5 ∨ k = 7)) (h : sv_hm S K b r) (hr : r < 500) : fG_12 N (n + 1) 0 (nI k) x 0 0 S = some ((sv_t0 K (nI b) x).1, sv_fm (sv_t0 K (nI b) x).2 S) := by
  have key : fG_12 N (n + 1) 0 (nI k) x 0 0 S = sw_bd (fX9_runs N (nI 2) S) (fun _ S1 => sw_bd (fX9_hushesAs N (S1.1 105 36) x S1) (fun r2 S2 => sw_bd (fX9_criesAs N (S2.1 105 36) (1 : Int32) S2) (fun r3 S3 => some (r2 - r3, S3)))) := by
    rcases sv_lt8 hk with rfl | rfl | rfl | rfl | rfl | rfl | rfl | rfl <;> first | rfl | exact absurd (by decide) h0
  have hh := sv_hm_s h 2
  have hl := sv_hm_l (sv_hA K K (nI b) x).2 hh
  have l1 := sv_hA_len K K (nI b) x
  rw [key, e9_runs N 2 h (by omega), sv_bd, hh.1, fm_h N x hK hK hh (by omega), sv_bd, hl.1, fm_c N 1 hK hK hl (by omega), sv_bd]
  show _ = some (_, sv_fm ((sv_hA K K (nI b) x).2 ++ (sv_cA K K (nI b) 1).2) (sv_rm 2 S))
  rw [sv_fm_ap]
  rfl
theorem fm_t (N : Nat) (x : Int32) {S : sw_St} {K b r k : Nat} (hK : K < 8) (hk : k < 8) (h : sv_hm S K b r) (hr : r < 400) : fX9_tellsAs N (nI k) x S = some ((sv_tA2 K k (nI b) x).1, sv_fm (sv_tA2 K k (nI b) x).2 S) := by
  have k60 : sw_bd (fX9_runs N (nI 60) S) (fun _ S1 => sw_bd (fG_12 N 99 0 (nI 3) x 0 0 S1) (fun r2 S2 => some (r2 ^^^ (5 : Int32), S2))) = some ((sv_t0 K (nI b) x).1 ^^^ 5, sv_fm (60 :: (sv_t0 K (nI b) x).2) S) := by
    rw [e9_runs N 60 h (by omega), sv_bd, fm_t0 N 98 x hK (by decide) (by decide) (sv_hm_s h 60) (by omega)]
    rfl
  have k81 : sw_bd (fX9_runs N (nI 81) S) (fun _ S1 => sw_bd (fG_12 N 99 0 (nI 4) x 0 0 S1) (fun r2 S2 => some (r2 - (1 : Int32), S2))) = some ((sv_t0 K (nI b) x).1 - 1, sv_fm (81 :: (sv_t0 K (nI b) x).2) S) := by
    rw [e9_runs N 81 h (by omega), sv_bd, fm_t0 N 98 x hK (by decide) (by decide) (sv_hm_s h 81) (by omega)]
    rfl
  rcases sv_lt8 hk with rfl | rfl | rfl | rfl | rfl | rfl | rfl | rfl
  · exact fm_t0 N 99 x hK (by decide) (by decide) h (by omega)
  · exact fm_t0 N 99 x hK (by decide) (by decide) h (by omega)
  · exact fm_t0 N 99 x hK (by decide) (by decide) h (by omega)
  · exact fm_t0 N 99 x hK (by decide) (by decide) h (by omega)
  · exact fm_t0 N 99 x hK (by decide) (by decide) h (by omega)
  · exact k60
  · exact fm_t0 N 99 x hK (by decide) (by decide) h (by omega)
  · exact k81
theorem sv_all_len (K a : Nat) (b x : Int32) : (sv_all K a b x).2.length ≤ 20 := by
  have h1 := sv_wA_len K b x
  have h2 := sv_hA_len K K b x
  have h3 := sv_cA_len K K b x
  have h4 := sv_cA_len K K b 1
  have h5 : (sv_t0 K b x).2.length ≤ 14 := by
    show ((sv_hA K K b x).2 ++ (sv_cA K K b 1).2).length + 1 ≤ 14
    rw [List.length_append]
    omega
  unfold sv_all sv_tA2
  split
  · omega
  · split
    · omega
    · split
      · omega
      · split
        · show (sv_t0 K b x).2.length + 1 ≤ 20; omega
        · split
          · show (sv_t0 K b x).2.length + 1 ≤ 20; omega
          · omega
/-- what has run, as a list -/
theorem sv_fc_is : ∀ (l : List Nat) {S : sw_St} {r : Nat}, S.1 89 1 = nI r → r + l.length ≤ 1000 → (sv_fc l S).1 89 1 = nI (r + l.length) ∧ (∀ k, (sv_fc l S).1 91 k = if r ≤ k ∧ k < 24 ∧ k < r + l.length then nI (l.getD (k - r) 0) else S.1 91 k) ∧ (∀ k, k ≠ 1 → (sv_fc l S).1 89 k = S.1 89 k) ∧ sv_ag (fun a => a = 89 ∨ a = 91) S (sv_fc l S)
  | [], S, r, h, _ => ⟨h, fun k => by rw [if_neg (by simp only [List.length_nil]; omega)]; rfl, fun _ _ => rfl, sv_ag_rf⟩
  | f :: l, S, r, h, hr => by
    have hl : (f :: l).length = l.length + 1 := rfl
    have h' : (sv_rc f S).1 89 1 = nI (r + 1) := by rw [(sv_rc_e f S).2.2, h, nI_1]
    have r91 : ∀ k, (sv_rc f S).1 91 k = if k = r ∧ r < 24 then nI f else S.1 91 k := by
      intro k
      unfold sv_rc
      rw [sv_si, if_neg (by omega), h]
      by_cases hq : r < 24
      · rw [if_neg (show ¬ nI r ≥ 24 from nI_ge (b := 24) hq (by decide)), sv_si, nI_clamp (by omega)]
        by_cases hk : k = r
        · rw [if_pos ⟨rfl, hk⟩, if_pos ⟨hk, hq⟩]
        · rw [if_neg (by omega), if_neg (by omega)]
      · rw [if_pos (show nI r ≥ 24 from nI_le (a := 24) (by omega) (by omega)), if_neg (by omega)]
    have rk : ∀ k, k ≠ 1 → (sv_rc f S).1 89 k = S.1 89 k := by
      intro k hk
      unfold sv_rc
      rw [sv_si, if_neg (by omega)]
      split
      · rfl
      · rw [sv_si, if_neg (by omega)]
    have ra : sv_ag (fun a => a = 89 ∨ a = 91) S (sv_rc f S) := by
      unfold sv_rc
      split
      · exact sv_ag_si S 89 1 _ (Or.inl rfl)
      · exact sv_ag_tr (sv_ag_si S 91 _ _ (Or.inr rfl)) (sv_ag_si _ 89 1 _ (Or.inl rfl))
    obtain ⟨i1, i2, i3, i4⟩ := sv_fc_is l h' (by omega)
    refine ⟨by rw [hl, show r + (l.length + 1) = r + 1 + l.length by omega]; exact i1, fun k => ?_, fun k hk => (i3 k hk).trans (rk k hk), sv_ag_tr ra i4⟩
    refine (i2 k).trans ?_
    rw [hl, r91]
    by_cases h1 : r + 1 ≤ k ∧ k < 24 ∧ k < r + 1 + l.length
    · rw [if_pos h1, if_pos (by omega), show k - r = (k - (r + 1)) + 1 by omega]
      rfl
    · rw [if_neg h1]
      by_cases h2 : k = r ∧ r < 24
      · rw [if_pos h2, if_pos (by omega), show k - r = 0 by omega]
        rfl
      · rw [if_neg h2, if_neg (by omega)]
theorem sv_fm_is : ∀ (l : List Nat) {S : sw_St} {r : Nat}, S.1 105 35 = nI r → r + l.length ≤ 1000 → (sv_fm l S).1 105 35 = nI (r + l.length) ∧ (∀ k, (sv_fm l S).1 123 k = if r ≤ k ∧ k < 24 ∧ k < r + l.length then nI (l.getD (k - r) 0) else S.1 123 k) ∧ sv_rr (fun a => a = 123) (fun k => k = 35) S (sv_fm l S)
  | [], S, r, h, _ => ⟨h, fun k => by rw [if_neg (by simp only [List.length_nil]; omega)]; rfl, sv_rr_rf⟩
  | f :: l, S, r, h, hr => by
    have hl : (f :: l).length = l.length + 1 := rfl
    have h' : (sv_rm f S).1 105 35 = nI (r + 1) := by rw [(sv_rm_e f S).2.2, h, nI_1]
    have r91 : ∀ k, (sv_rm f S).1 123 k = if k = r ∧ r < 24 then nI f else S.1 123 k := by
      intro k
      unfold sv_rm
      rw [sv_si, if_neg (by omega), h]
      by_cases hq : r < 24
      · rw [if_neg (show ¬ nI r ≥ 24 from nI_ge (b := 24) hq (by decide)), sv_si, nI_clamp (by omega)]
        by_cases hk : k = r
        · rw [if_pos ⟨rfl, hk⟩, if_pos ⟨hk, hq⟩]
        · rw [if_neg (by omega), if_neg (by omega)]
      · rw [if_pos (show nI r ≥ 24 from nI_le (a := 24) (by omega) (by omega)), if_neg (by omega)]
    have ra : sv_rr (fun a => a = 123) (fun k => k = 35) S (sv_rm f S) := by
      unfold sv_rm
      split
      · exact sv_rr_sf S 35 _ rfl
      · exact sv_rr_tr (sv_rr_si S 123 _ _ (by decide) rfl) (sv_rr_sf _ 35 _ rfl)
    obtain ⟨i1, i2, i4⟩ := sv_fm_is l h' (by omega)
    refine ⟨by rw [hl, show r + (l.length + 1) = r + 1 + l.length by omega]; exact i1, fun k => ?_, sv_rr_tr ra i4⟩
    refine (i2 k).trans ?_
    rw [hl, r91]
    by_cases h1 : r + 1 ≤ k ∧ k < 24 ∧ k < r + 1 + l.length
    · rw [if_pos h1, if_pos (by omega), show k - r = (k - (r + 1)) + 1 by omega]
      rfl
    · rw [if_neg h1]
      by_cases h2 : k = r ∧ r < 24
      · rw [if_pos h2, if_pos (by omega), show k - r = 0 by omega]
        rfl
      · rw [if_neg h2, if_neg (by omega)]
