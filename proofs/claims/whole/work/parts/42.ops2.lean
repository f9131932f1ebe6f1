/-! a number of a sword, or of the attic, becomes another -/
def sv_st (A : sv_A) (k s v : Nat) : sv_A := (A.1, fun k' s' => if k' = k ∧ s' = s then v else A.2.1 k' s', A.2.2)
def sv_sg (A : sv_A) (j v : Nat) : sv_A := (A.1, A.2.1, fun j' => if j' = j then v else A.2.2 j')
def sv_kp (S T : sw_St) : Prop := sv_rr (fun a => ¬ sv_P a ∨ (1 ≤ a ∧ a ≤ 7) ∨ a = 106) (fun k => sv_F k ∨ k = 6) S T
theorem sv_kp_tr {S T U : sw_St} (h : sv_kp S T) (g : sv_kp T U) : sv_kp S U := sv_rr_tr h g
theorem sv_kp_ag {P : Nat → Prop} {S T : sw_St} (h : sv_ag P S T) (hP : ∀ a, P a → ¬ sv_P a ∨ (1 ≤ a ∧ a ≤ 7) ∨ a = 106) (h5 : ¬ P 105) : sv_kp S T := ⟨fun a _ ha => h a (fun z => ha (hP a z)), fun k _ => by rw [(h 105 h5).1], (h 105 h5).2⟩
theorem sv_kp_rr {P F : Nat → Prop} {S T : sw_St} (h : sv_rr P F S T) (hP : ∀ a, P a → ¬ sv_P a ∨ (1 ≤ a ∧ a ≤ 7) ∨ a = 106) (hF : ∀ k, F k → sv_F k ∨ k = 6) : sv_kp S T := sv_rr_wk h hP hF
theorem sv_kp_si (S : sw_St) (a k : Nat) (v : Int32) (h : (1 ≤ a ∧ a ≤ 7) ∨ a = 106) : sv_kp S (sw_si S a k v) := sv_rr_si S a k v (by omega) (Or.inr h)
theorem sv_rl_kp {S T : sw_St} {A B : sv_A} {L : sv_L} {b : Nat} (h : sv_rl S A L b) (g : sv_kp S T) (hB : sv_wf B) (h2' : sv_nc T 1 B) (h3' : sv_mr T B) (hn : A.1 ≤ B.1) : sv_rl T B L b := by
  obtain ⟨h1, h2, h3, h4, h5, h6, h7, h8, h9, h10⟩ := h
  have e : ∀ a, sv_P a → ¬ (1 ≤ a ∧ a ≤ 7) → a ≠ 106 → T.1 a = S.1 a := fun a ha hb hc => (g.1 a (by unfold sv_P at ha; omega) (by intro z; rcases z with z | z | z; exact z ha; exact hb z; exact hc z)).1
  have e2 : ∀ a, sv_P a → ¬ (1 ≤ a ∧ a ≤ 7) → a ≠ 106 → T.2 a = S.2 a := fun a ha hb hc => (g.1 a (by unfold sv_P at ha; omega) (by intro z; rcases z with z | z | z; exact z ha; exact hb z; exact hc z)).2
  have f : ∀ k, ¬ (sv_F k ∨ k = 6) → T.1 105 k = S.1 105 k := g.2.1
  unfold sv_P at e e2
  unfold sv_F at f
  refine ⟨hB, h2', h3', sv_lc_of h4 (e _ (by omega) (by omega) (by omega)) (e _ (by omega) (by omega) (by omega)) (e _ (by omega) (by omega) (by omega)), sv_lr_of h5 (f _ (by omega)) (e _ (by omega) (by omega) (by omega)), ?_, sv_rT_eq h7 (by rw [e 16 (by omega) (by omega) (by omega)]) (e _ (by omega) (by omega) (by omega)) (e _ (by omega) (by omega) (by omega)) (f _ (by omega)), ?_, sv_rB_eq h9 (fun a ha => e a (by omega) (by omega) (by omega)) (f _ (by omega)) (f _ (by omega)), fun d hd => sv_s1_eq (h10 d hd) (e _ (by omega) (by omega) (by omega)) (e2 _ (by omega) (by omega) (by omega)) (e _ (by omega) (by omega) (by omega)) (e _ (by omega) (by omega) (by omega)) (e _ (by omega) (by omega) (by omega)) (e2 _ (by omega) (by omega) (by omega))⟩
  · obtain ⟨d, z, q1, q2, q3, q4, q5, q6, q7⟩ := sv_rC_eq (T := T) h6 (fun a ha => e a (by omega) (by omega) (by omega)) (f _ (by omega)) (f _ (by omega))
    refine ⟨d, z, q1, q2, q3, q4, q5, q6, fun k hk => ?_⟩
    obtain ⟨num, w, a, c, hh, rest⟩ := q7 k hk
    exact ⟨num, w, a, c, by omega, rest⟩
  · obtain ⟨q1, q2⟩ := sv_rD_eq (T := T) h8 (fun a ha => e a (by omega) (by omega) (by omega)) (f _ (by omega)) (f _ (by omega))
    refine ⟨q1, ?_⟩
    rcases q2 with q2 | ⟨r1, r2, m, hh, c, hm, rest⟩
    · exact Or.inl q2
    · exact Or.inr ⟨r1, r2, m, hh, c, by omega, rest⟩
theorem sv_nc_st {S : sw_St} {o : Nat} {A : sv_A} (h : sv_nc S o A) (k s v : Nat) (hk : k < 5) (hk0 : k ≠ 0) : sv_nc (sw_si S (o + (1 + k)) s (nI v)) o (sv_st A k s v) := by
  refine ⟨?_, fun k' s' hk' hs' => ?_, fun j hj => ?_, fun c hc => ?_⟩
  · rw [sv_si, if_neg (by omega)]; exact h.1
  · rw [sv_si]
    show _ = nI (if k' = k ∧ s' = s then v else A.2.1 k' s')
    by_cases hq : k' = k ∧ s' = s
    · rw [if_pos (by omega), if_pos hq]
    · rw [if_neg (by omega), if_neg hq]; exact h.2.1 k' s' hk' hs'
  · rw [sv_si, if_neg (by omega)]; exact h.2.2.1 j hj
  · rw [sv_si, if_neg (by omega), h.2.2.2 c hc]
    show _ = sv_lie A.1 (fun s' => if 0 = k ∧ s' = s then v else A.2.1 0 s') c
    congr 1
    funext s'
    rw [if_neg (by omega)]
theorem sv_mr_st {S : sw_St} {A : sv_A} (h : sv_mr S A) (k s v : Nat) (hk : k < 5) (hs : s < 10) : sv_mr (sw_si S 106 (10 * k + s) (nI v)) (sv_st A k s v) := by
  refine ⟨?_, fun k' s' hk' hs' => ?_, fun j hj => ?_⟩
  · rw [sv_si, if_neg (by omega)]; exact h.1
  · rw [sv_si]
    show _ = nI (if k' = k ∧ s' = s then v else A.2.1 k' s')
    by_cases hq : k' = k ∧ s' = s
    · rw [if_pos (by omega), if_pos hq]
    · rw [if_neg (by omega), if_neg hq]; exact h.2.1 k' s' hk' hs'
  · rw [sv_si, if_neg (by omega)]; exact h.2.2 j hj
theorem sv_nc_sg {S : sw_St} {o : Nat} {A : sv_A} (h : sv_nc S o A) (j v : Nat) (hj : j < 3) : sv_nc (sw_si S o (1 + j) (nI v)) o (sv_sg A j v) := by
  refine ⟨?_, fun k' s' hk' hs' => ?_, fun i hi => ?_, fun c hc => ?_⟩
  · rw [sv_si, if_neg (by omega)]; exact h.1
  · rw [sv_si, if_neg (by omega)]; exact h.2.1 k' s' hk' hs'
  · rw [sv_si]
    show _ = nI (if i = j then v else A.2.2 i)
    by_cases hq : i = j
    · rw [if_pos (by omega), if_pos hq]
    · rw [if_neg (by omega), if_neg hq]; exact h.2.2.1 i hi
  · rw [sv_si, if_neg (by omega)]; exact h.2.2.2 c hc
theorem sv_mr_sg {S : sw_St} {A : sv_A} (h : sv_mr S A) (j v : Nat) (hj : j < 3) : sv_mr (sw_si S 106 (50 + j) (nI v)) (sv_sg A j v) := by
  refine ⟨?_, fun k' s' hk' hs' => ?_, fun i hi => ?_⟩
  · rw [sv_si, if_neg (by omega)]; exact h.1
  · rw [sv_si, if_neg (by omega)]; exact h.2.1 k' s' hk' hs'
  · rw [sv_si]
    show _ = nI (if i = j then v else A.2.2 i)
    by_cases hq : i = j
    · rw [if_pos (by omega), if_pos hq]
    · rw [if_neg (by omega), if_neg hq]; exact h.2.2 i hi
theorem sv_wf_st {A : sv_A} (h : sv_wf A) {k s v : Nat} (hs : s < A.1) (hk0 : k ≠ 0) (hv : v ≤ sv_gr k) (hk : k < 5) : sv_wf (sv_st A k s v) := by
  obtain ⟨h1, h2, h3, h4, h5, h6, h7, h8⟩ := h
  have hg : sv_gr k ≤ 99 := by
    have : k = 0 ∨ k = 1 ∨ k = 2 ∨ k = 3 ∨ k = 4 := by omega
    rcases this with rfl | rfl | rfl | rfl | rfl <;> decide
  refine ⟨h1, fun t ht => ?_, fun t u ht hu e => ?_, h4, h5, h6, fun k' s' => ?_, fun k' s' hs' hk' => ?_⟩
  · obtain ⟨a, b, c, d, e⟩ := h2 t ht
    have g1 : sv_gr 1 = 9 := rfl
    have g2 : sv_gr 2 = 99 := rfl
    have g3 : sv_gr 3 = 99 := rfl
    have g4 : sv_gr 4 = 1 := rfl
    refine ⟨?_, ?_, ?_, ?_, ?_⟩
    · show (if 0 = k ∧ t = s then v else A.2.1 0 t) < 12
      rw [if_neg (by omega)]; exact a
    · show (if 1 = k ∧ t = s then v else A.2.1 1 t) ≤ 9
      split
      · rename_i z; rw [← z.1, g1] at hv; exact hv
      · exact b
    · show (if 2 = k ∧ t = s then v else A.2.1 2 t) ≤ 99
      split
      · omega
      · exact c
    · show (if 3 = k ∧ t = s then v else A.2.1 3 t) ≤ 99
      split
      · omega
      · exact d
    · show (if 4 = k ∧ t = s then v else A.2.1 4 t) ≤ 1
      split
      · rename_i z; rw [← z.1, g4] at hv; exact hv
      · exact e
  · refine h3 t u ht hu ?_
    have e : (if 0 = k ∧ t = s then v else A.2.1 0 t) = (if 0 = k ∧ u = s then v else A.2.1 0 u) := e
    rwa [if_neg (by omega), if_neg (by omega)] at e
  · show (if k' = k ∧ s' = s then v else A.2.1 k' s') ≤ 99
    split
    · omega
    · exact h7 k' s'
  · have hs' : A.1 ≤ s' := hs'
    show (if k' = k ∧ s' = s then v else A.2.1 k' s') = 0
    rw [if_neg (by omega)]
    exact h8 k' s' hs' hk'
theorem sv_wf_sg {A : sv_A} (h : sv_wf A) {j v : Nat} (hv : v ≤ sv_gr (5 + j)) (hj : j < 3) : sv_wf (sv_sg A j v) := by
  obtain ⟨h1, h2, h3, h4, h5, h6, h7, h8⟩ := h
  have g5 : sv_gr 5 = 11 := rfl
  have g6 : sv_gr 6 = 50 := rfl
  have g7 : sv_gr 7 = 11 := rfl
  have : j = 0 ∨ j = 1 ∨ j = 2 := by omega
  rcases this with rfl | rfl | rfl
  · exact ⟨h1, h2, h3, show v < 12 by have : v ≤ 11 := hv; omega, h5, h6, h7, h8⟩
  · exact ⟨h1, h2, h3, h4, show v ≤ 50 from hv, h6, h7, h8⟩
  · exact ⟨h1, h2, h3, h4, h5, show v < 12 by have : v ≤ 11 := hv; omega, h7, h8⟩
theorem op_hold (N : Nat) (hN : 5000 ≤ N) {S : sw_St} (h : sv_rel S) (x y : Int32) : sv_ok (fX8_hold N x y) (fX9_hold N x y) S := by
  have hs := h
  obtain ⟨A, L, b, h⟩ := h
  have hr := h
  obtain ⟨h1, h2, h3, h4, h5, h6, h7, h8, h9, h10⟩ := h
  have hn := h1.1
  unfold sv_ok fX8_hold fX9_hold
  simp only [e8_isSword N x h2.1, e8_within, sv_bd, sv_Bi]
  by_cases hx : 0 ≤ x ∧ x ≤ nI A.1 - 1
  · obtain ⟨s, hsn, rfl⟩ := (sv_swI (by omega) x).mp hx
    rw [if_pos hx]
    rcases sv_cq 1 (by decide) (M := 1) rfl y with ⟨v, hv, rfl, hy⟩ | hy
    · rw [if_pos hy, sv_gi (by omega) (by decide), sv_li, nI_clamp (by omega), sv_gi (by omega) (by decide), sv_ls]
      have e1 : S.1 (1 + 5) s = nI (A.2.1 4 s) := h2.2.1 4 s (by omega) (by omega)
      have e6 : (sw_si S (1 + 5) s (nI v)).1 105 6 = nI A.1 := by rw [sv_si, if_neg (by omega)]; exact h3.1
      refine ⟨_, _, sw_si (sw_si S (1 + 5) s (nI v)) 106 (40 + s) (nI v), rfl, ?_, ⟨sv_st A 4 s v, L, b, ?_⟩⟩
      · rw [e9_isSword N _ e6, sv_bd, sv_Bi, if_pos hx, sv_64_0, sv_64_1, e9_within, sv_bd, sv_Bi, if_pos hy, show (40 : Int32) + nI s = nI (40 + s) from nI_add 40 s, sv_gi (by omega) (by decide), sv_li, sv_gi (by omega) (by decide), nI_clamp (by omega), sv_ls, e1]
        rw [show (sw_si S (1 + 5) s (nI v)).1 106 (40 + s) = nI (A.2.1 4 s) by rw [sv_si, if_neg (by omega)]; exact h3.2.1 4 s (by omega) (by omega)]
      · refine sv_rl_kp hr (sv_kp_tr (sv_kp_si S (1 + 5) s _ (by omega)) (sv_kp_si _ 106 (40 + s) _ (by omega))) (sv_wf_st h1 hsn (by decide) hv (by decide)) ?_ ?_ (Nat.le_refl _)
        · exact sv_nc_eq (sv_nc_st h2 4 s v (by decide) (by decide)) (fun k hk => by unfold sw_si; simp [show ¬ 1 + k = 106 by omega])
        · exact sv_mr_st (S := sw_si S (1 + 5) s (nI v)) (sv_mr_eq h3 (by unfold sw_si; simp) (by rw [sv_si, if_neg (by omega)])) 4 s v (by decide) (by omega)
    · rw [if_neg hy]
      exact ⟨_, _, S, rfl, by rw [e9_isSword N _ h3.1, sv_bd, sv_Bi, if_pos hx, sv_64_0, sv_64_1, e9_within, sv_bd, sv_Bi, if_neg hy], hs⟩
  · rw [if_neg hx]
    exact ⟨_, _, S, rfl, by rw [e9_isSword N _ h3.1, sv_bd, sv_Bi, if_neg hx], hs⟩
