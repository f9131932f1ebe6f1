/-! a sword that comes -/
theorem sv_6432 (x : Int32) : x.toInt64.toInt32 = x := by
  apply Int32.toInt_inj.mp
  simp
abbrev sv_mc (A : sv_A) (x d y : Int32) : Prop := (0 ≤ x ∧ x ≤ 11) ∧ sv_lie A.1 (A.2.1 0) x.toNatClampNeg < 0 ∧ (0 ≤ d ∧ d ≤ 9) ∧ (0 ≤ y ∧ y ≤ 99)
theorem e4_mayCome (N : Nat) {S : sw_St} {A : sv_A} (h : sv_nc S 1 A) (x d y : Int32) : fX4_mayCome N 1 x d y S = some (sv_B (sv_mc A x d y), S) := by
  unfold fX4_mayCome
  simp only [e8_isCot, e8_within, sv_bd, sv_Bi]
  rcases sv_cq 11 (by decide) (M := 11) rfl x with ⟨c, hc, rfl, hx⟩ | hx
  · have hl : S.1 (1 + 6) (nI c).toNatClampNeg = sv_lie A.1 (A.2.1 0) (nI c).toNatClampNeg := by rw [nI_clamp (by omega)]; exact h.2.2.2 c (by omega)
    rw [if_pos hx, sv_gi (by omega) (by decide), hl]
    by_cases h1 : sv_lie A.1 (A.2.1 0) (nI c).toNatClampNeg < 0
    · rw [if_neg (Int32.not_le.mpr h1)]
      by_cases h2 : 0 ≤ d ∧ d ≤ 9
      · rw [if_pos h2]
        by_cases h3 : 0 ≤ y ∧ y ≤ 99
        · rw [if_pos h3, sv_B_t ⟨hx, h1, h2, h3⟩]; rfl
        · rw [if_neg h3, sv_B_f (fun z => h3 z.2.2.2)]; rfl
      · rw [if_neg h2, sv_B_f (fun z => h2 z.2.2.1)]; rfl
    · rw [if_pos (Int32.not_lt.mp h1), sv_B_f (fun z => h1 z.2.1)]; rfl
  · rw [if_neg hx, sv_B_f (fun z => hx z.1)]; rfl
theorem e9_mayCome (N : Nat) (hN : 20 ≤ N) {S : sw_St} {A : sv_A} (h : sv_mr S A) (hA : sv_wf A) (x d y : Int32) : fX9_mayCome N x.toInt64 d.toInt64 y.toInt64 S = some (sv_B (sv_mc A x d y), S) := by
  unfold fX9_mayCome
  rw [sv_64_0, sv_64_9, sv_64_99, e9_isCot, sv_bd, sv_Bi, sv_6432]
  rcases sv_cq 11 (by decide) (M := 11) rfl x with ⟨c, hc, rfl, hx⟩ | hx
  · have hl : sv_lie A.1 (A.2.1 0) c = sv_lie A.1 (A.2.1 0) (nI c).toNatClampNeg := by rw [nI_clamp (by omega)]
    rw [if_pos hx, e9_inCot N hN c (by omega) h hA, sv_bd, hl]
    by_cases h1 : sv_lie A.1 (A.2.1 0) (nI c).toNatClampNeg < 0
    · rw [if_neg (Int32.not_le.mpr h1), e9_within, sv_bd, sv_Bi]
      by_cases h2 : 0 ≤ d ∧ d ≤ 9
      · rw [if_pos h2, e9_within, sv_bd, sv_Bi]
        by_cases h3 : 0 ≤ y ∧ y ≤ 99
        · rw [if_pos h3, sv_B_t ⟨hx, h1, h2, h3⟩]; rfl
        · rw [if_neg h3, sv_B_f (fun z => h3 z.2.2.2)]; rfl
      · rw [if_neg h2, sv_B_f (fun z => h2 z.2.2.1)]; rfl
    · rw [if_pos (Int32.not_lt.mp h1), sv_B_f (fun z => h1 z.2.1)]; rfl
  · rw [if_neg hx, sv_B_f (fun z => hx z.1)]; rfl
theorem sv_mc_n {A : sv_A} (hA : sv_wf A) {x d y : Int32} (h : sv_mc A x d y) : ∃ c e z : Nat, c < 12 ∧ e ≤ 9 ∧ z ≤ 99 ∧ x = nI c ∧ d = nI e ∧ y = nI z ∧ ∀ s, s < A.1 → A.2.1 0 s ≠ c := by
  obtain ⟨h1, h2, h3, h4⟩ := h
  obtain ⟨c, hc, rfl⟩ := sv_rg 11 (by decide) h1.1 h1.2
  obtain ⟨e, he, rfl⟩ := sv_rg 9 (by decide) h3.1 h3.2
  obtain ⟨z, hz, rfl⟩ := sv_rg 99 (by decide) h4.1 h4.2
  rw [nI_clamp (by omega)] at h2
  refine ⟨c, e, z, by omega, he, hz, rfl, rfl, rfl, fun s hs hq => ?_⟩
  rw [sv_lie_at hA hs hq] at h2
  have := hA.1
  exact sv_ng s (by omega) h2
def sv_ad (A : sv_A) (c d y : Nat) : sv_A := (A.1 + 1, fun k s => if s = A.1 then (if k = 0 then c else if k = 1 then d else if k = 2 then y else if k = 3 then 20 else 0) else A.2.1 k s, A.2.2)
theorem sv_ad_wf {A : sv_A} (h : sv_wf A) (hn : A.1 < 10) {c d y : Nat} (hc : c < 12) (hd : d ≤ 9) (hy : y ≤ 99) (hf : ∀ s, s < A.1 → A.2.1 0 s ≠ c) : sv_wf (sv_ad A c d y) := by
  obtain ⟨h1, h2, h3, h4, h5, h6, h7, h8⟩ := h
  refine ⟨by show A.1 + 1 ≤ 10; omega, fun s hs => ?_, fun s t hs ht e => ?_, h4, h5, h6, fun k s => ?_, fun k s hs hk => ?_⟩
  · have hs : s < A.1 + 1 := hs
    by_cases hq : s = A.1
    · subst hq
      show (if A.1 = A.1 then _ else _) < 12 ∧ (if A.1 = A.1 then _ else _) ≤ 9 ∧ (if A.1 = A.1 then _ else _) ≤ 99 ∧ (if A.1 = A.1 then _ else _) ≤ 99 ∧ (if A.1 = A.1 then _ else _) ≤ 1
      rw [if_pos rfl, if_pos rfl, if_pos rfl, if_pos rfl, if_pos rfl]
      exact ⟨hc, hd, hy, by rw [if_pos rfl]; exact (by decide : 20 ≤ 99), by rw [if_pos rfl]; exact (by decide : 0 ≤ 1)⟩
    · show (if s = A.1 then _ else _) < 12 ∧ (if s = A.1 then _ else _) ≤ 9 ∧ (if s = A.1 then _ else _) ≤ 99 ∧ (if s = A.1 then _ else _) ≤ 99 ∧ (if s = A.1 then _ else _) ≤ 1
      rw [if_neg hq, if_neg hq, if_neg hq, if_neg hq, if_neg hq]
      exact h2 s (by omega)
  · have hs : s < A.1 + 1 := hs
    have ht : t < A.1 + 1 := ht
    have e : (if s = A.1 then c else A.2.1 0 s) = (if t = A.1 then c else A.2.1 0 t) := e
    by_cases q1 : s = A.1
    · by_cases q2 : t = A.1
      · omega
      · rw [if_pos q1, if_neg q2] at e
        exact absurd e.symm (hf t (by omega))
    · by_cases q2 : t = A.1
      · rw [if_neg q1, if_pos q2] at e
        exact absurd e (hf s (by omega))
      · rw [if_neg q1, if_neg q2] at e
        exact h3 s t (by omega) (by omega) e
  · show (if s = A.1 then _ else _) ≤ 99
    by_cases hq : s = A.1
    · rw [if_pos hq]
      split
      · omega
      · split
        · omega
        · split
          · omega
          · split <;> omega
    · rw [if_neg hq]; exact h7 k s
  · have hs : A.1 + 1 ≤ s := hs
    show (if s = A.1 then _ else _) = 0
    rw [if_neg (by omega)]
    exact h8 k s (by omega) hk
theorem sv_ad_lie {A : sv_A} (hA : sv_wf A) {c d y : Nat} (hf : ∀ s, s < A.1 → A.2.1 0 s ≠ c) (hW : sv_wf (sv_ad A c d y)) (j : Nat) : sv_lie (sv_ad A c d y).1 ((sv_ad A c d y).2.1 0) j = if j = c then nI A.1 else sv_lie A.1 (A.2.1 0) j := by
  by_cases hj : j = c
  · rw [if_pos hj]
    exact sv_lie_at hW (s := A.1) (Nat.lt_succ_self _) (by show (if A.1 = A.1 then c else _) = j; rw [if_pos rfl, hj])
  · rw [if_neg hj]
    rcases sv_lie_r hA j with ⟨s, hs, h1, h2⟩ | ⟨h1, h2⟩
    · rw [h2]
      exact sv_lie_at hW (s := s) (Nat.lt_succ_of_lt hs) (by show (if s = A.1 then c else A.2.1 0 s) = j; rw [if_neg (by omega), h1])
    · rw [h2]
      refine sv_lie_no (fun s hs => ?_)
      have hs : s < A.1 + 1 := hs
      show (if s = A.1 then c else A.2.1 0 s) ≠ j
      by_cases hq : s = A.1
      · rw [if_pos hq]; exact fun z => hj z.symm
      · rw [if_neg hq]; exact h1 s (by omega)
theorem e4_add (N : Nat) {S : sw_St} {A : sv_A} (h : sv_nc S 1 A) (hA : sv_wf A) (hn : A.1 < 10) {c d y : Nat} (hc : c < 12) (hd : d ≤ 9) (hy : y ≤ 99) (hf : ∀ s, s < A.1 → A.2.1 0 s ≠ c) : ∃ V, fX4_add N 1 (nI c) (nI d) (nI y) S = some (nI A.1, V) ∧ sv_nc V 1 (sv_ad A c d y) ∧ sv_ag (fun a => 1 ≤ a ∧ a ≤ 7) S V := by
  have hW := sv_ad_wf hA hn hc hd hy hf
  unfold fX4_add
  rw [h.1, nI_1]
  simp only [sv_ls, sv_li, sv_gi hn (show 10 < 2 ^ 31 by decide), sv_gi hc (show 12 < 2 ^ 31 by decide), nI_clamp (show A.1 < 2 ^ 31 by omega), nI_clamp (show c < 2 ^ 31 by omega)]
  refine ⟨_, rfl, ⟨?_, fun k s hk hs => ?_, fun j hj => ?_, fun j hj => ?_⟩, ?_⟩
  · simp [sv_si]; rfl
  · have e0 := h.2.1 k s hk hs
    show _ = nI (if s = A.1 then _ else _)
    rcases sv_lt5 (show k ≤ 4 by omega) with rfl | rfl | rfl | rfl | rfl
    · by_cases hq : s = A.1
      · simp [sv_si, hq]
      · simp only [sv_si, if_neg hq, hq, and_false, if_false]; simp [sv_si]; exact e0
    · by_cases hq : s = A.1
      · simp [sv_si, hq]
      · simp [sv_si, hq]; exact e0
    · by_cases hq : s = A.1
      · simp [sv_si, hq]
      · simp [sv_si, hq]; exact e0
    · by_cases hq : s = A.1
      · simp [sv_si, hq]; rfl
      · simp [sv_si, hq]; exact e0
    · by_cases hq : s = A.1
      · simp [sv_si, hq]; rfl
      · simp [sv_si, hq]; exact e0
  · have e0 := h.2.2.1 j hj
    simp [sv_si]
    exact e0
  · rw [sv_ad_lie hA hf hW j]
    have e0 := h.2.2.2 j hj
    by_cases hq : j = c
    · simp [sv_si, hq]
    · simp [sv_si, hq]; exact e0
  · refine sv_ag_tr (sv_ag_si S 1 0 _ (by omega)) (sv_ag_tr (sv_ag_si _ 2 _ _ (by omega)) (sv_ag_tr (sv_ag_si _ 3 _ _ (by omega)) (sv_ag_tr (sv_ag_si _ 4 _ _ (by omega)) (sv_ag_tr (sv_ag_si _ 5 _ _ (by omega)) (sv_ag_tr (sv_ag_si _ 6 _ _ (by omega)) (sv_ag_si _ 7 _ _ (by omega)))))))
theorem e9_adds (N : Nat) {S : sw_St} {A : sv_A} (h : sv_mr S A) (hA : sv_wf A) (hn : A.1 < 10) (c d y : Nat) : ∃ V, fX9_adds N (nI c) (nI d) (nI y) S = some ((), V) ∧ sv_mr V (sv_ad A c d y) ∧ sv_rr (fun a => a = 106) (fun k => k = 6) S V := by
  unfold fX9_adds
  rw [h.1, sv_gi (by omega) (by decide), nI_clamp (by omega), sv_ls]
  have f6 : ∀ (T : sw_St) (k : Nat) (v : Int32), T.1 105 6 = nI A.1 → (sw_si T 106 k v).1 105 6 = nI A.1 := fun T k v hT => by rw [sv_si, if_neg (by omega)]; exact hT
  have a1 := f6 S A.1 (nI c) h.1
  rw [a1, show (10 : Int32) + nI A.1 = nI (10 + A.1) from nI_add 10 _, sv_gi (by omega) (by decide), nI_clamp (by omega), sv_ls]
  have a2 := f6 _ (10 + A.1) (nI d) a1
  rw [a2, show (20 : Int32) + nI A.1 = nI (20 + A.1) from nI_add 20 _, sv_gi (by omega) (by decide), nI_clamp (by omega), sv_ls]
  have a3 := f6 _ (20 + A.1) (nI y) a2
  rw [a3, show (30 : Int32) + nI A.1 = nI (30 + A.1) from nI_add 30 _, sv_gi (by omega) (by decide), nI_clamp (by omega), sv_ls]
  have a4 := f6 _ (30 + A.1) 20 a3
  rw [a4, nI_1, sv_ls]
  refine ⟨_, rfl, ⟨rfl, fun k s hk hs => ?_, fun j hj => ?_⟩, ?_⟩
  · have e0 := h.2.1 k s hk hs
    have w8 := hA.2.2.2.2.2.2.2 4 A.1 (Nat.le_refl _) (by decide)
    show _ = nI (if s = A.1 then _ else _)
    rcases sv_lt5 (show k ≤ 4 by omega) with rfl | rfl | rfl | rfl | rfl
    · by_cases hq : s = A.1
      · rw [sv_si, if_neg (by omega), sv_si, if_neg (by omega), sv_si, if_neg (by omega), sv_si, if_neg (by omega), sv_si, if_pos (by omega), if_pos hq]; rfl
      · rw [sv_si, if_neg (by omega), sv_si, if_neg (by omega), sv_si, if_neg (by omega), sv_si, if_neg (by omega), sv_si, if_neg (by omega), if_neg hq]; exact e0
    · by_cases hq : s = A.1
      · rw [sv_si, if_neg (by omega), sv_si, if_neg (by omega), sv_si, if_neg (by omega), sv_si, if_pos (by omega), if_pos hq]; rfl
      · rw [sv_si, if_neg (by omega), sv_si, if_neg (by omega), sv_si, if_neg (by omega), sv_si, if_neg (by omega), sv_si, if_neg (by omega), if_neg hq]; exact e0
    · by_cases hq : s = A.1
      · rw [sv_si, if_neg (by omega), sv_si, if_neg (by omega), sv_si, if_pos (by omega), if_pos hq]; rfl
      · rw [sv_si, if_neg (by omega), sv_si, if_neg (by omega), sv_si, if_neg (by omega), sv_si, if_neg (by omega), sv_si, if_neg (by omega), if_neg hq]; exact e0
    · by_cases hq : s = A.1
      · rw [sv_si, if_neg (by omega), sv_si, if_pos (by omega), if_pos hq]; rfl
      · rw [sv_si, if_neg (by omega), sv_si, if_neg (by omega), sv_si, if_neg (by omega), sv_si, if_neg (by omega), sv_si, if_neg (by omega), if_neg hq]; exact e0
    · rw [sv_si, if_neg (by omega), sv_si, if_neg (by omega), sv_si, if_neg (by omega), sv_si, if_neg (by omega), sv_si, if_neg (by omega)]
      by_cases hq : s = A.1
      · rw [if_pos hq, e0, hq, w8]; rfl
      · rw [if_neg hq, e0]
  · rw [sv_si, if_neg (by omega), sv_si, if_neg (by omega), sv_si, if_neg (by omega), sv_si, if_neg (by omega), sv_si, if_neg (by omega)]
    exact h.2.2 j hj
  · exact sv_rr_tr (sv_rr_si S 106 _ _ (by decide) rfl) (sv_rr_tr (sv_rr_si _ 106 _ _ (by decide) rfl) (sv_rr_tr (sv_rr_si _ 106 _ _ (by decide) rfl) (sv_rr_tr (sv_rr_si _ 106 _ _ (by decide) rfl) (sv_rr_sf _ 6 _ rfl))))
theorem op_sword (N : Nat) (hN : 5000 ≤ N) {S : sw_St} (h : sv_rel S) (x y : Int32) : sv_ok (fX8_sword N x y) (fX9_sword N x y) S := by
  have hs := h
  obtain ⟨A, L, b, h⟩ := h
  have hr := h
  obtain ⟨h1, h2, h3, h4, h5, h6, h7, h8, h9, h10⟩ := h
  unfold sv_ok fX8_sword
  rw [e4_mayCome N h2, sv_bd, sv_Bi]
  by_cases hm : sv_mc A x y 0
  · rw [if_pos hm]
    obtain ⟨c, e, -, hc, he, -, rfl, rfl, -, hf⟩ := sv_mc_n h1 hm
    by_cases hn : A.1 < 10
    · rw [if_neg (show ¬ S.1 1 0 ≥ (10 : Int32) by rw [h2.1]; exact nI_ge (b := 10) hn (by decide))]
      obtain ⟨V, hV, v2, gV⟩ := e4_add N (y := 50) h2 h1 hn hc he (by decide) hf
      have v3 : sv_mr V A := sv_mr_eq h3 (gV 106 (by omega)).1 (by rw [(gV 105 (by omega)).1])
      obtain ⟨U, hU, u3, gU⟩ := e9_adds N v3 h1 hn c e 50
      have hW := sv_ad_wf h1 hn hc he (show 50 ≤ 99 by decide) hf
      refine ⟨nI A.1, V, U, ?_, ?_, ⟨_, L, b, sv_rl_kp hr (sv_kp_tr (sv_kp_ag gV (fun a ha => Or.inr (Or.inl ha)) (by omega)) (sv_kp_rr gU (fun a ha => Or.inr (Or.inr ha)) (fun k hk => Or.inr hk))) hW (sv_nc_eq v2 (fun k hk => (gU.1 _ (by omega) (by omega)).1)) u3 (Nat.le_succ _)⟩⟩
      · show sw_bd (fX4_add N 1 (nI c) (nI e) (nI 50) S) _ = _
        rw [hV, sv_bd]
      · unfold fX9_sword
        rw [sv_64_0, e9_mayCome N (by omega) v3 h1, sv_bd, sv_Bi, if_pos hm, v3.1, if_neg (show ¬ nI A.1 = (10 : Int32) by rw [show (10 : Int32) = nI 10 from rfl, nI_eq (by omega) (by decide)]; omega)]
        show sw_bd (fX9_adds N (nI c) (nI e) (nI 50) V) _ = _
        rw [hU, sv_bd, u3.1]
        show some (nI (A.1 + 1) - 1, U) = _
        rw [nI_pred]
    · have h10' : A.1 = 10 := by have := h1.1; omega
      rw [if_pos (show S.1 1 0 ≥ (10 : Int32) by rw [h2.1, h10']; exact Int32.le_refl _)]
      refine ⟨_, S, S, rfl, ?_, hs⟩
      unfold fX9_sword
      rw [sv_64_0, e9_mayCome N (by omega) h3 h1, sv_bd, sv_Bi, if_pos hm, h3.1, h10', if_pos (show nI 10 = (10 : Int32) from rfl)]
  · rw [if_neg hm]
    refine ⟨_, S, S, rfl, ?_, hs⟩
    unfold fX9_sword
    rw [sv_64_0, e9_mayCome N (by omega) h3 h1, sv_bd, sv_Bi, if_neg hm]
