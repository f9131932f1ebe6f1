/-! a number is set -/
def sv_sv (A : sv_A) (s w v : Nat) : sv_A := if w < 5 then sv_st A w s v else sv_sg A (w - 5) v
/-- v may become w of s: in its range; a cot that is nobody else's -/
def sv_fs (A : sv_A) (s w v : Nat) : Prop := v ≤ sv_gr w ∧ (w = 0 → ∀ t, t < A.1 → A.2.1 0 t = v → t = s)
theorem sv_wf_st0 {A : sv_A} (h : sv_wf A) {s v : Nat} (hs : s < A.1) (hv : v < 12) (hf : ∀ t, t < A.1 → A.2.1 0 t = v → t = s) : sv_wf (sv_st A 0 s v) := by
  obtain ⟨h1, h2, h3, h4, h5, h6, h7, h8⟩ := h
  have g : ∀ t, (sv_st A 0 s v).2.1 0 t = if t = s then v else A.2.1 0 t := by
    intro t
    show (if 0 = 0 ∧ t = s then v else A.2.1 0 t) = _
    by_cases hq : t = s
    · rw [if_pos ⟨rfl, hq⟩, if_pos hq]
    · rw [if_neg (fun z => hq z.2), if_neg hq]
  have g' : ∀ k t, k ≠ 0 → (sv_st A 0 s v).2.1 k t = A.2.1 k t := fun k t hk => if_neg (fun z => hk z.1)
  refine ⟨h1, fun t ht => ?_, fun t u ht hu e => ?_, h4, h5, h6, fun k t => ?_, fun k t ht hk => by rw [g' k t hk]; exact h8 k t ht hk⟩
  · rw [g, g' 1 t (by decide), g' 2 t (by decide), g' 3 t (by decide), g' 4 t (by decide)]
    obtain ⟨a, b⟩ := h2 t ht
    refine ⟨?_, b⟩
    split <;> omega
  · rw [g, g] at e
    by_cases q1 : t = s
    · by_cases q2 : u = s
      · omega
      · rw [if_pos q1, if_neg q2] at e
        have := hf u hu e.symm
        omega
    · by_cases q2 : u = s
      · rw [if_neg q1, if_pos q2] at e
        have := hf t ht e
        omega
      · rw [if_neg q1, if_neg q2] at e
        exact h3 t u ht hu e
  · by_cases hk : k = 0
    · subst hk
      rw [g]
      have := h7 0 t
      split <;> omega
    · rw [g' k t hk]; exact h7 k t
theorem sv_lie_mv {A : sv_A} (h : sv_wf A) {s v : Nat} (hs : s < A.1) (hf : ∀ t, t < A.1 → A.2.1 0 t = v → t = s) (hB : sv_wf (sv_st A 0 s v)) (c : Nat) : sv_lie (sv_st A 0 s v).1 ((sv_st A 0 s v).2.1 0) c = if c = v then nI s else if c = A.2.1 0 s then -1 else sv_lie A.1 (A.2.1 0) c := by
  have g : ∀ t, (sv_st A 0 s v).2.1 0 t = if t = s then v else A.2.1 0 t := by
    intro t
    show (if 0 = 0 ∧ t = s then v else A.2.1 0 t) = _
    by_cases hq : t = s
    · rw [if_pos ⟨rfl, hq⟩, if_pos hq]
    · rw [if_neg (fun z => hq z.2), if_neg hq]
  by_cases h1 : c = v
  · rw [if_pos h1]
    exact sv_lie_at hB (s := s) hs (by rw [g, if_pos rfl, h1])
  · rw [if_neg h1]
    by_cases h2 : c = A.2.1 0 s
    · rw [if_pos h2]
      refine sv_lie_no (fun t ht => ?_)
      have ht : t < A.1 := ht
      rw [g]
      by_cases q : t = s
      · rw [if_pos q]; exact fun z => h1 z.symm
      · rw [if_neg q]; intro z; exact q (h.2.2.1 t s ht hs (z.trans h2))
    · rw [if_neg h2]
      rcases sv_lie_r h c with ⟨t, ht, q1, q2⟩ | ⟨q1, q2⟩
      · rw [q2]
        have hts : t ≠ s := fun e => h2 (by rw [← e]; exact q1.symm)
        exact sv_lie_at hB (s := t) ht (by rw [g, if_neg hts, q1])
      · rw [q2]
        refine sv_lie_no (fun t ht => ?_)
        have ht : t < A.1 := ht
        rw [g]
        by_cases q : t = s
        · rw [if_pos q]; exact fun z => h1 z.symm
        · rw [if_neg q]; exact q1 t ht
theorem e4_move (N : Nat) {S : sw_St} {o : Nat} {A : sv_A} (h : sv_nc S o A) (hA : sv_wf A) {s v : Nat} (hs : s < A.1) (hv : v < 12) (hf : ∀ t, t < A.1 → A.2.1 0 t = v → t = s) : ∃ V, fX4_move N o (nI s) (nI v) S = some ((), V) ∧ sv_nc V o (sv_st A 0 s v) ∧ sv_ag (fun a => o ≤ a ∧ a ≤ o + 6) S V := by
  have hB := sv_wf_st0 hA hs hv hf
  have hn := hA.1
  have hc0 := (hA.2.1 s hs).1
  have e0 : S.1 (o + 1) s = nI (A.2.1 0 s) := h.2.1 0 s (by decide) (by omega)
  unfold fX4_move
  rw [nI_clamp (show s < 2 ^ 31 by omega), e0, sv_gi (by omega) (by decide), sv_gi hc0 (by decide), nI_clamp (by omega), sv_ls, sv_gi (by omega) (by decide), sv_ls, sv_gi hv (by decide), nI_clamp (by omega), sv_ls]
  refine ⟨_, rfl, ⟨?_, fun k t hk ht => ?_, fun j hj => ?_, fun c hc => ?_⟩, sv_ag_tr (sv_ag_si S (o + 6) _ _ (by omega)) (sv_ag_tr (sv_ag_si _ (o + 1) _ _ (by omega)) (sv_ag_si _ (o + 6) _ _ (by omega)))⟩
  · rw [sv_si, if_neg (by omega), sv_si, if_neg (by omega), sv_si, if_neg (by omega)]; exact h.1
  · rw [sv_si, if_neg (by omega), sv_si]
    show _ = nI (if k = 0 ∧ t = s then v else A.2.1 k t)
    by_cases hq : k = 0 ∧ t = s
    · rw [if_pos (by omega), if_pos hq]
    · rw [if_neg (by omega), if_neg hq, sv_si, if_neg (by omega)]; exact h.2.1 k t hk ht
  · rw [sv_si, if_neg (by omega), sv_si, if_neg (by omega), sv_si, if_neg (by omega)]; exact h.2.2.1 j hj
  · rw [sv_lie_mv hA hs hf hB c, sv_si]
    by_cases h1 : c = v
    · rw [if_pos ⟨rfl, h1⟩, if_pos h1]
    · rw [if_neg (by omega), if_neg h1, sv_si, if_neg (by omega), sv_si]
      by_cases h2 : c = A.2.1 0 s
      · rw [if_pos ⟨rfl, h2⟩, if_pos h2]
      · rw [if_neg (by omega), if_neg h2, h.2.2.2 c hc]
theorem sv_sv_wf {A : sv_A} (h : sv_wf A) {s w v : Nat} (hw : sv_vw A s w) (hf : sv_fs A s w v) : sv_wf (sv_sv A s w v) := by
  unfold sv_sv
  by_cases q : w < 5
  · rw [if_pos q]
    by_cases q0 : w = 0
    · subst q0
      have : sv_gr 0 = 11 := rfl
      have := hf.1
      exact sv_wf_st0 h (by omega) (by omega) (hf.2 rfl)
    · exact sv_wf_st h (by omega) q0 hf.1 q
  · rw [if_neg q]
    exact sv_wf_sg h (by rw [show 5 + (w - 5) = w by omega]; exact hf.1) (by omega)
theorem sv_sv_n (A : sv_A) (s w v : Nat) : (sv_sv A s w v).1 = A.1 := by
  unfold sv_sv
  split <;> rfl
theorem e4_set (N : Nat) {S : sw_St} {o : Nat} {A : sv_A} (h : sv_nc S o A) (hA : sv_wf A) {s w v : Nat} (hw : sv_vw A s w) (hf : sv_fs A s w v) : ∃ V, fX4_set N o (nI s) (nI w) (nI v) S = some ((), V) ∧ sv_nc V o (sv_sv A s w v) ∧ sv_ag (fun a => o ≤ a ∧ a ≤ o + 6) S V := by
  have hn := hA.1
  have hs : s < 10 := by omega
  unfold fX4_set sv_sv
  rw [nI_clamp (show s < 2 ^ 31 by omega)]
  simp only [sv_gi hs (show 10 < 2 ^ 31 by decide), sv_ls]
  rcases sv_lt8 (show w < 8 by omega) with rfl | rfl | rfl | rfl | rfl | rfl | rfl | rfl
  · have : sv_gr 0 = 11 := rfl
    have := hf.1
    obtain ⟨V, hV, v1, v2⟩ := e4_move N h hA (s := s) (v := v) (by omega) (by omega) (hf.2 rfl)
    refine ⟨V, ?_, v1, v2⟩
    rw [if_pos (show nI 0 = (0 : Int32) from rfl), hV, sv_bd]
  · exact ⟨_, rfl, sv_nc_st h 1 s v (by decide) (by decide), sv_ag_si S (o + 2) _ _ (by omega)⟩
  · exact ⟨_, rfl, sv_nc_st h 2 s v (by decide) (by decide), sv_ag_si S (o + 3) _ _ (by omega)⟩
  · exact ⟨_, rfl, sv_nc_st h 3 s v (by decide) (by decide), sv_ag_si S (o + 4) _ _ (by omega)⟩
  · exact ⟨_, rfl, sv_nc_st h 4 s v (by decide) (by decide), sv_ag_si S (o + 5) _ _ (by omega)⟩
  · exact ⟨_, rfl, sv_nc_sg h 0 v (by decide), sv_ag_si S o _ _ (by omega)⟩
  · exact ⟨_, rfl, sv_nc_sg h 1 v (by decide), sv_ag_si S o _ _ (by omega)⟩
  · exact ⟨_, rfl, sv_nc_sg h 2 v (by decide), sv_ag_si S o _ _ (by omega)⟩
theorem sv_mr_sv {S : sw_St} {A : sv_A} (h : sv_mr S A) (hA : A.1 ≤ 10) {s w v : Nat} (hw : sv_vw A s w) : sv_mr (sw_si S 106 (sv_pl s w) (nI v)) (sv_sv A s w v) := by
  unfold sv_sv sv_pl
  by_cases q : w < 5
  · rw [if_pos q, if_pos q]
    exact sv_mr_st h w s v q (by omega)
  · rw [if_neg q, if_neg q]
    exact sv_mr_sg h (w - 5) v (by omega)
theorem e4_isTaken (N : Nat) {S : sw_St} {A : sv_A} (h : sv_nc S 1 A) (hA : sv_wf A) {s v : Nat} (hs : s < A.1) (hv : v < 12) : ((∀ t, t < A.1 → A.2.1 0 t = v → t = s) → fX4_isTakenByOther N 1 (nI v) (nI s) S = some (0, S)) ∧ (¬ (∀ t, t < A.1 → A.2.1 0 t = v → t = s) → fX4_isTakenByOther N 1 (nI v) (nI s) S = some (1, S)) := by
  unfold fX4_isTakenByOther
  have hn := hA.1
  rw [sv_gi hv (by decide), sv_gi hv (by decide), nI_clamp (by omega), h.2.2.2 v hv]
  rcases sv_lie_r hA v with ⟨t, ht, q1, q2⟩ | ⟨q1, q2⟩
  · rw [q2, if_neg (sv_ng t (by omega))]
    by_cases e : t = s
    · refine ⟨fun _ => by rw [e, if_pos rfl]; rfl, fun z => absurd (fun u hu hq => ?_) z⟩
      rw [← e]
      exact hA.2.2.1 u t hu ht (hq.trans q1.symm)
    · refine ⟨fun z => absurd (z t ht q1) e, fun _ => ?_⟩
      rw [if_neg (show ¬ nI t = nI s by rw [nI_eq (by omega) (by omega)]; exact e)]
      rfl
  · rw [q2, if_pos (by decide)]
    exact ⟨fun _ => rfl, fun z => absurd (fun t ht hq => absurd hq (q1 t ht)) z⟩
/-- the same, as the reference asks it -/
theorem e9_mine {A : sv_A} (hA : sv_wf A) {s : Nat} (v : Nat) (hs : s < A.1) : ((∀ t, t < A.1 → A.2.1 0 t = v → t = s) ↔ (sv_lie A.1 (A.2.1 0) v < 0 ∨ sv_lie A.1 (A.2.1 0) v = nI s)) := by
  have hn := hA.1
  rcases sv_lie_r hA v with ⟨t, ht, q1, q2⟩ | ⟨q1, q2⟩
  · rw [q2]
    constructor
    · intro z; right; rw [z t ht q1]
    · intro z u hu hq
      have : t = s := by
        rcases z with z | z
        · exact absurd z (sv_ng t (by omega))
        · exact (nI_eq (by omega) (by omega)).mp z
      rw [← this]
      exact hA.2.2.1 u t hu ht (hq.trans q1.symm)
  · rw [q2]
    exact ⟨fun _ => Or.inl (by decide), fun _ t ht hq => absurd hq (q1 t ht)⟩
