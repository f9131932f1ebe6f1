/-! an hour of the reference's night -/
def sv_k20 (v : Int32) : Int32 := if v ≥ (-20 : Int32) then (if v ≤ (20 : Int32) then v else 20) else -20
/-- the reference's law, as its cells stand, works L out -/
def sv_lr (L : sv_L) (S : sw_St) : Prop := (S.1 105 10 < 0 ∧ ∀ a b c d e f, L a b c d e f = sv_k20 ((((a + (3 : Int32) * d) - b / (20 : Int32)) - (8 : Int32) * e) - (2 : Int32))) ∨
  (¬ S.1 105 10 < 0 ∧ ∀ T : sw_St, T.1 105 10 = S.1 105 10 → T.1 111 = S.1 111 → ∀ N, 200 ≤ N → ∃ v U, fX9_workOut N 0 (T.1 105 10) T = some (v, U) ∧ sv_k20 v = L (T.1 112 0) (T.1 112 1) (T.1 112 2) (T.1 112 3) (T.1 112 4) (T.1 112 5) ∧ sv_rr (fun _ => False) (fun k => 11 ≤ k ∧ k ≤ 15) T U)
theorem sv_lr_of {L : sv_L} {S T : sw_St} (h : sv_lr L S) (h1 : T.1 105 10 = S.1 105 10) (h2 : T.1 111 = S.1 111) : sv_lr L T := by
  rcases h with ⟨a, b⟩ | ⟨a, b⟩
  · exact Or.inl ⟨by rw [h1]; exact a, b⟩
  · exact Or.inr ⟨by rw [h1]; exact a, fun U g1 g2 => b U (g1.trans h1) (g2.trans h2)⟩
theorem sv_lr_rr {L : sv_L} {P F : Nat → Prop} {S T : sw_St} (h : sv_lr L S) (g : sv_rr P F S T) (h1 : ¬ P 111) (h2 : ¬ F 10) : sv_lr L T := sv_lr_of h (g.2.1 10 h2) (g.1 111 (by decide) h1).1
theorem sv_k20_if {β : Type} (v : Int32) (f : Int32 → β) : (if v ≥ (-20 : Int32) then (if v ≤ (20 : Int32) then f v else f 20) else f (-20)) = f (sv_k20 v) := by
  unfold sv_k20
  by_cases h1 : v ≥ (-20 : Int32)
  · rw [if_pos h1, if_pos h1]
    by_cases h2 : v ≤ (20 : Int32)
    · rw [if_pos h2, if_pos h2]
    · rw [if_neg h2, if_neg h2]
  · rw [if_neg h1, if_neg h1]
theorem sv_jn1 {ρ : Type} (K : Int32 → sw_St → Option ρ) (B : (Int32 → sw_St → Option ρ) → Option ρ) : sw_jn1 K B = B K := rfl
theorem sv_jn0 {ρ : Type} (K : sw_St → Option ρ) (B : (sw_St → Option ρ) → Option ρ) : sw_jn0 K B = B K := rfl
theorem sv_jn2 {ρ : Type} (K : Int32 → Int32 → sw_St → Option ρ) (B : (Int32 → Int32 → sw_St → Option ρ) → Option ρ) : sw_jn2 K B = B K := rfl
theorem sv_jnB {ρ : Type} (K : Int32 → sw_St → Option ρ) (p : Prop) [Decidable p] (S : sw_St) : sw_jn1 K (fun k => if p then k 1 S else k 0 S) = K (sv_B p) S := by
  show (if p then K 1 S else K 0 S) = _
  by_cases h : p
  · rw [if_pos h, sv_B_t h]
  · rw [if_neg h, sv_B_f h]
set_option maxHeartbeats 1000000 in
theorem e9_growsIn (N : Nat) (hN : 200 ≤ N) {S : sw_St} {A : sv_A} {cd : Int32} {L : sv_L} (h : sv_rs S A cd) (hA : sv_wf A) (hL : sv_lr L S) {s c : Nat} (hs : s < A.1) (hc : A.2.1 0 s = c) : ∃ U, fX9_growsIn N (nI c) S = some (sv_g L A s (sv_B (cd = nI c)), U) ∧ sv_rr (fun q => q = 112) (fun k => 11 ≤ k ∧ k ≤ 15) S U := by
  have h10 := hA.1
  have hc12 : c < 12 := by have := (hA.2.1 s hs).1; omega
  obtain ⟨a1, a2, a3, a4, a5, a6, a7⟩ := h
  have e0 : S.1 113 c = nI s := by rw [a4 c hc12, sv_lie_at hA hs hc]
  have e10 := (a2 s (by omega)).1
  have e20 := (a2 s (by omega)).2.1
  have e3 := a5 s hs
  unfold fX9_growsIn
  rw [sv_gi hc12 (by decide), nI_clamp (by omega), e0, sv_li, e9_awakeBeside N (by omega) ⟨a1, a2, a3, a4, a5, a6, a7⟩ hA hc12, sv_bd, sv_jnB, a7]
  unfold sv_g
  rw [hc]
  generalize sv_B (cd = nI c) = v
  rw [show (10 : Int32) = nI 10 from rfl, nI_add, sv_gi (by omega) (by decide), nI_clamp (by omega)]
  rw [show (20 : Int32) + nI s = nI (20 + s) from nI_add 20 s, sv_gi (by omega) (by decide), nI_clamp (by omega), sv_li, e10, e20]
  rcases hL with ⟨l1, l2⟩ | ⟨l1, l2⟩
  · rw [if_pos l1, sv_k20_if _ (fun w => some (w, S)), ← l2 _ _ (nI (A.2.1 3 s)) _ _ (nI (A.2.2 0))]
    exact ⟨S, rfl, sv_rr_rf⟩
  · rw [if_neg l1, sv_gi (by omega) (by decide)]
    rw [show (0 : Int32) = nI 0 from rfl, sv_gi (by decide) (by decide), nI_clamp (by decide), sv_ls]
    rw [sv_gi (k := 20 + s) (by omega) (by decide), show (1 : Int32) = nI 1 from rfl, sv_gi (k := 1) (by decide) (by decide), nI_clamp (n := 1) (by decide), sv_ls]
    rw [sv_gi (k := s) (by omega) (by decide), show (2 : Int32) = nI 2 from rfl, sv_gi (k := 2) (by decide) (by decide), nI_clamp (n := 2) (by decide), nI_clamp (n := s) (by omega), sv_ls]
    rw [show (3 : Int32) = nI 3 from rfl, sv_gi (k := 3) (by decide) (by decide), nI_clamp (n := 3) (by decide), sv_ls]
    rw [show (4 : Int32) = nI 4 from rfl, sv_gi (k := 4) (by decide) (by decide), nI_clamp (n := 4) (by decide), sv_ls]
    rw [show (5 : Int32) = nI 5 from rfl, sv_gi (k := 5) (by decide) (by decide), nI_clamp (n := 5) (by decide), sv_ls]
    generalize hT : sw_si (sw_si (sw_si (sw_si (sw_si (sw_si S 112 0 _) 112 1 _) 112 2 _) 112 3 _) 112 4 _) 112 5 _ = T
    have hrr : sv_rr (fun q => q = 112) (fun k => 11 ≤ k ∧ k ≤ 15) S T := by
      rw [← hT]
      refine sv_rr_tr (sv_rr_si _ 112 0 _ (by decide) rfl) (sv_rr_tr (sv_rr_si _ 112 1 _ (by decide) rfl) (sv_rr_tr (sv_rr_si _ 112 2 _ (by decide) rfl) (sv_rr_tr (sv_rr_si _ 112 3 _ (by decide) rfl) (sv_rr_tr (sv_rr_si _ 112 4 _ (by decide) rfl) (sv_rr_si _ 112 5 _ (by decide) rfl)))))
    obtain ⟨w, U, h1, h2, h3⟩ := l2 T (hrr.2.1 10 (by omega)) (hrr.1 111 (by decide) (by decide)).1 N hN
    rw [show (nI 0 : Int32) = 0 from rfl, h1, sv_bd, sv_k20_if _ (fun w => some (w, U)), h2]
    refine ⟨U, ?_, sv_rr_tr hrr (sv_rr_wk h3 (fun _ z => z.elim) (fun _ z => z))⟩
    rw [← hT]
    simp only [sv_si, e10, e20, e3, a6]
    simp [e10, e20, e3, a6]
