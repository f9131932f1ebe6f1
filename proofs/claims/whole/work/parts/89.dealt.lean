/-! dealt: two cots changed -/
def sv_wz (a b c : Nat) : Nat := if c = a then b else if c = b then a else c
theorem sv_wz_i (a b c : Nat) : sv_wz a b (sv_wz a b c) = c := by
  unfold sv_wz
  by_cases h1 : c = a
  · rw [if_pos h1]
    by_cases h2 : b = a
    · rw [if_pos h2]; omega
    · rw [if_neg h2, if_pos rfl]; exact h1.symm
  · rw [if_neg h1]
    by_cases h2 : c = b
    · rw [if_pos h2, if_pos rfl]; exact h2.symm
    · rw [if_neg h2, if_neg h1, if_neg h2]
theorem sv_wz_lt {a b c n : Nat} (ha : a < n) (hb : b < n) (hc : c < n) : sv_wz a b c < n := by
  unfold sv_wz
  split
  · exact hb
  · split
    · exact ha
    · exact hc
def sv_ex (A : sv_A) (a b : Nat) : sv_A := (A.1, fun k s => if k = 0 ∧ s < A.1 then sv_wz a b (A.2.1 0 s) else A.2.1 k s, A.2.2)
theorem sv_sp_0 (A : sv_A) (a b : Nat) {s : Nat} (hs : s < A.1) : (sv_ex A a b).2.1 0 s = sv_wz a b (A.2.1 0 s) := if_pos ⟨rfl, hs⟩
theorem sv_sp_k (A : sv_A) (a b : Nat) {k : Nat} (hk : k ≠ 0) (s : Nat) : (sv_ex A a b).2.1 k s = A.2.1 k s := if_neg (fun z => hk z.1)
theorem sv_sp_wf {A : sv_A} (hA : sv_wf A) {a b : Nat} (ha : a < 12) (hb : b < 12) : sv_wf (sv_ex A a b) := by
  obtain ⟨h1, h2, h3, h4, h5, h6, h7, h8⟩ := hA
  refine ⟨h1, fun s hs => ?_, fun s t hs ht e => ?_, h4, h5, h6, fun k s => ?_, fun k s hs hk => ?_⟩
  · have hs' : s < A.1 := hs
    obtain ⟨q1, q2, q3, q4, q5⟩ := h2 s hs'
    rw [sv_sp_0 A a b hs', sv_sp_k A a b (by decide), sv_sp_k A a b (by decide), sv_sp_k A a b (by decide), sv_sp_k A a b (by decide)]
    exact ⟨sv_wz_lt ha hb q1, q2, q3, q4, q5⟩
  · have hs' : s < A.1 := hs
    have ht' : t < A.1 := ht
    rw [sv_sp_0 A a b hs', sv_sp_0 A a b ht'] at e
    refine h3 s t hs' ht' ?_
    rw [← sv_wz_i a b (A.2.1 0 s), e, sv_wz_i]
  · show (if k = 0 ∧ s < A.1 then sv_wz a b (A.2.1 0 s) else A.2.1 k s) ≤ 99
    split
    · rename_i z
      have := sv_wz_lt (n := 100) (show a < 100 by omega) (show b < 100 by omega) (show A.2.1 0 s < 100 by have := h7 0 s; omega)
      omega
    · exact h7 k s
  · rw [sv_sp_k A a b hk]
    exact h8 k s hs hk
theorem sv_sp_lie {A : sv_A} (hA : sv_wf A) {a b : Nat} (ha : a < 12) (hb : b < 12) (c : Nat) : sv_lie (sv_ex A a b).1 ((sv_ex A a b).2.1 0) c = sv_lie A.1 (A.2.1 0) (sv_wz a b c) := by
  rcases sv_lie_r hA (sv_wz a b c) with ⟨s, hs, q1, q2⟩ | ⟨q1, q2⟩
  · rw [q2]
    refine sv_lie_at (sv_sp_wf hA ha hb) hs ?_
    rw [sv_sp_0 A a b hs, q1, sv_wz_i]
  · rw [q2]
    refine sv_lie_no (fun s hs z => q1 s hs ?_)
    have hs' : s < A.1 := hs
    rw [sv_sp_0 A a b hs'] at z
    rw [← z, sv_wz_i]
theorem e4_changeCots (N : Nat) {S : sw_St} {o : Nat} {A : sv_A} (h : sv_nc S o A) (hA : sv_wf A) {a b : Nat} (ha : a < 12) (hb : b < 12) (hab : a ≠ b) : ∃ V, fX4_changeCots N o (nI a) (nI b) S = some ((), V) ∧ sv_nc V o (sv_ex A a b) ∧ sv_ag (fun q => q = o + 1 ∨ q = o + 6) S V := by
  have h10 := hA.1
  have ea : S.1 (o + 6) a = sv_lie A.1 (A.2.1 0) a := h.2.2.2 a ha
  have eb : S.1 (o + 6) b = sv_lie A.1 (A.2.1 0) b := h.2.2.2 b hb
  unfold fX4_changeCots
  rw [sv_gi ha (by decide), sv_li, sv_gi hb (by decide), sv_li, sv_gi ha (by decide), sv_ls, sv_gi hb (by decide), sv_ls, nI_clamp (by omega), nI_clamp (by omega), ea, eb]
  generalize hT : sw_si (sw_si S (o + 6) a (sv_lie A.1 (A.2.1 0) b)) (o + 6) b (sv_lie A.1 (A.2.1 0) a) = T
  have gT : sv_ag (fun q => q = o + 6) S T := by rw [← hT]; exact sv_ag_tr (sv_ag_si S (o + 6) a _ rfl) (sv_ag_si _ (o + 6) b _ rfl)
  have t6 : ∀ c, c < 12 → T.1 (o + 6) c = sv_lie A.1 (A.2.1 0) (sv_wz a b c) := by
    intro c hc
    rw [← hT, sv_si, sv_si]
    unfold sv_wz
    by_cases e1 : c = a
    · subst e1
      rw [if_neg (by omega), if_pos ⟨rfl, rfl⟩, if_pos rfl]
    · by_cases e2 : c = b
      · subst e2
        rw [if_pos ⟨rfl, rfl⟩, if_neg e1, if_pos rfl]
      · rw [if_neg (fun z => e2 z.2), if_neg (fun z => e1 z.2), if_neg e1, if_neg e2]
        exact h.2.2.2 c hc
  have fin : ∀ V, sv_ag (fun q => q = o + 1) T V → (∀ q, q < 10 → V.1 (o + 1) q = nI ((sv_ex A a b).2.1 0 q)) → sv_nc V o (sv_ex A a b) ∧ sv_ag (fun q => q = o + 1 ∨ q = o + 6) S V := by
    intro V gV v1
    refine ⟨⟨?_, fun k s hk hs => ?_, fun j hj => ?_, fun c hc => ?_⟩, sv_ag_tr (sv_ag_wk gT (fun a ha => Or.inr ha)) (sv_ag_wk gV (fun a ha => Or.inl ha))⟩
    · rw [(gV o (by omega)).1, (gT o (by omega)).1]; exact h.1
    · by_cases hk0 : k = 0
      · subst hk0; exact v1 s hs
      · rw [(gV _ (by omega)).1, (gT _ (by omega)).1, sv_sp_k A a b hk0]; exact h.2.1 k s hk hs
    · rw [(gV o (by omega)).1, (gT o (by omega)).1]; exact h.2.2.1 j hj
    · rw [(gV _ (by omega)).1, t6 c hc]
      exact (sv_sp_lie hA ha hb c).symm
  have t1 : ∀ q, q < 10 → T.1 (o + 1) q = nI (A.2.1 0 q) := fun q hq => by rw [(gT _ (by omega)).1]; exact h.2.1 0 q (by omega) hq
  have spr : ∀ q, (sv_ex A a b).2.1 0 q = if q < A.1 then sv_wz a b (A.2.1 0 q) else A.2.1 0 q := fun q => by
    show (if 0 = 0 ∧ q < A.1 then _ else _) = _
    by_cases z : q < A.1
    · rw [if_pos ⟨rfl, z⟩, if_pos z]
    · rw [if_neg (fun y => z y.2), if_neg z]
  rcases sv_lie_r hA a with ⟨s, hs, s1, s2⟩ | ⟨s1, s2⟩
  · rw [s2, if_neg (sv_ng s (by omega)), sv_gi (by omega) (by decide), nI_clamp (by omega), sv_ls]
    rcases sv_lie_r hA b with ⟨t, ht, r1, r2⟩ | ⟨r1, r2⟩
    · rw [r2, if_neg (sv_ng t (by omega)), sv_gi (by omega) (by decide), nI_clamp (by omega), sv_ls]
      refine ⟨_, rfl, fin _ (sv_ag_tr (sv_ag_si T (o + 1) s _ rfl) (sv_ag_si _ (o + 1) t _ rfl)) (fun q hq => ?_)⟩
      rw [sv_si, sv_si, spr]
      unfold sv_wz
      by_cases e1 : q = t
      · subst e1
        rw [if_pos ⟨rfl, rfl⟩, if_pos ht, if_neg (by omega), if_pos r1]
      · rw [if_neg (fun z => e1 z.2)]
        by_cases e2 : q = s
        · subst e2
          rw [if_pos ⟨rfl, rfl⟩, if_pos hs, if_pos s1]
        · rw [if_neg (fun z => e2 z.2), t1 q hq]
          by_cases z : q < A.1
          · rw [if_pos z, if_neg (fun y => e2 (hA.2.2.1 q s z hs (y.trans s1.symm))), if_neg (fun y => e1 (hA.2.2.1 q t z ht (y.trans r1.symm)))]
          · rw [if_neg z]
    · rw [r2, if_pos (by decide)]
      refine ⟨_, rfl, fin _ (sv_ag_si T (o + 1) s _ rfl) (fun q hq => ?_)⟩
      rw [sv_si, spr]
      unfold sv_wz
      by_cases e2 : q = s
      · subst e2
        rw [if_pos ⟨rfl, rfl⟩, if_pos hs, if_pos s1]
      · rw [if_neg (fun z => e2 z.2), t1 q hq]
        by_cases z : q < A.1
        · rw [if_pos z, if_neg (fun y => e2 (hA.2.2.1 q s z hs (y.trans s1.symm))), if_neg (r1 q z)]
        · rw [if_neg z]
  · rw [s2, if_pos (by decide)]
    rcases sv_lie_r hA b with ⟨t, ht, r1, r2⟩ | ⟨r1, r2⟩
    · rw [r2, if_neg (sv_ng t (by omega)), sv_gi (by omega) (by decide), nI_clamp (by omega), sv_ls]
      refine ⟨_, rfl, fin _ (sv_ag_si T (o + 1) t _ rfl) (fun q hq => ?_)⟩
      rw [sv_si, spr]
      unfold sv_wz
      by_cases e1 : q = t
      · subst e1
        rw [if_pos ⟨rfl, rfl⟩, if_pos ht, if_neg (by omega), if_pos r1]
      · rw [if_neg (fun z => e1 z.2), t1 q hq]
        by_cases z : q < A.1
        · rw [if_pos z, if_neg (s1 q z), if_neg (fun y => e1 (hA.2.2.1 q t z ht (y.trans r1.symm)))]
        · rw [if_neg z]
    · rw [r2, if_pos (by decide)]
      refine ⟨_, rfl, fin T sv_ag_rf (fun q hq => ?_)⟩
      rw [t1 q hq, spr]
      unfold sv_wz
      by_cases z : q < A.1
      · rw [if_pos z, if_neg (s1 q z), if_neg (r1 q z)]
      · rw [if_neg z]
theorem sv_rs_sp {S : sw_St} {A : sv_A} {cd : Int32} (h : sv_rs S A cd) (hA : sv_wf A) {a b : Nat} (ha : a < 12) (hb : b < 12) (hab : a ≠ b) : sv_rs (sw_si (sw_si S 113 a (S.1 113 b)) 113 b (S.1 113 a)) (sv_ex A a b) cd := by
  obtain ⟨a1, a2, a3, a4, a5, a6, a7⟩ := h
  refine ⟨?_, fun s hs => ?_, ?_, fun c hc => ?_, fun s hs => ?_, ?_, ?_⟩
  · rw [sv_si, if_neg (by omega), sv_si, if_neg (by omega)]; exact a1
  · rw [sv_si, if_neg (by omega), sv_si, if_neg (by omega), sv_si, if_neg (by omega), sv_si, if_neg (by omega), sv_si, if_neg (by omega), sv_si, if_neg (by omega), sv_sp_k A a b (by decide), sv_sp_k A a b (by decide), sv_sp_k A a b (by decide)]; exact a2 s hs
  · rw [sv_si, if_neg (by omega), sv_si, if_neg (by omega)]; exact a3
  · rw [sv_sp_lie hA ha hb, sv_si, sv_si]
    unfold sv_wz
    by_cases e1 : c = a
    · subst e1
      rw [if_neg (by omega), if_pos ⟨rfl, rfl⟩, if_pos rfl]; exact a4 b hb
    · by_cases e2 : c = b
      · subst e2
        rw [if_pos ⟨rfl, rfl⟩, if_neg e1, if_pos rfl]; exact a4 a ha
      · rw [if_neg (fun z => e2 z.2), if_neg (fun z => e1 z.2), if_neg e1, if_neg e2]
        exact a4 c hc
  · rw [sv_si, if_neg (by omega), sv_si, if_neg (by omega), sv_sp_k A a b (by decide)]; exact a5 s hs
  · rw [sv_si, if_neg (by omega), sv_si, if_neg (by omega)]; exact a6
  · rw [sv_si, if_neg (by omega), sv_si, if_neg (by omega)]; exact a7
/-- the best yet, and by which pair -/
def sv_dl1 (L : sv_L) (A : sv_A) (a : Nat) : Nat → (Nat × Nat) × Int32 → (Nat × Nat) × Int32
  | 0, D => D
  | k + 1, D => if sv_bt (sv_hr L (sv_ex A a (a + 1 + k)) (-1)) ((sv_dl1 L A a k D).1.1, (sv_dl1 L A a k D).1.2, fun _ => 0) then ((sv_na (sv_hr L (sv_ex A a (a + 1 + k)) (-1)), sv_sum ((sv_hr L (sv_ex A a (a + 1 + k)) (-1)).2.1 3) (sv_hr L (sv_ex A a (a + 1 + k)) (-1)).1), nI (12 * a + (a + 1 + k))) else sv_dl1 L A a k D
def sv_dl2 (L : sv_L) (A : sv_A) : Nat → (Nat × Nat) × Int32
  | 0 => ((sv_na (sv_hr L A (-1)), sv_sum ((sv_hr L A (-1)).2.1 3) (sv_hr L A (-1)).1), -9)
  | a + 1 => sv_dl1 L A a (11 - a) (sv_dl2 L A a)
theorem sv_dl1_b {L : sv_L} {A : sv_A} (hA : sv_wf A) {a : Nat} (ha : a < 12) {D : (Nat × Nat) × Int32} (h1 : D.1.1 ≤ 12) (h2 : D.1.2 ≤ 990) : ∀ k, k ≤ 11 - a → (sv_dl1 L A a k D).1.1 ≤ 12 ∧ (sv_dl1 L A a k D).1.2 ≤ 990 := by
  intro k
  induction k with
  | zero => intro _; exact ⟨h1, h2⟩
  | succ k ih =>
    intro hk
    unfold sv_dl1
    split
    · exact ⟨sv_na_le _, sv_sm9 (sv_hr_wf (sv_sp_wf hA ha (by omega)))⟩
    · exact ih (by omega)
theorem sv_dl2_b {L : sv_L} {A : sv_A} (hA : sv_wf A) : ∀ a, a ≤ 12 → (sv_dl2 L A a).1.1 ≤ 12 ∧ (sv_dl2 L A a).1.2 ≤ 990 := by
  intro a
  induction a with
  | zero => intro _; exact ⟨sv_na_le _, sv_sm9 (sv_hr_wf hA)⟩
  | succ a ih =>
    intro ha
    have := ih (by omega)
    exact sv_dl1_b hA (by omega) this.1 this.2 (11 - a) (Nat.le_refl _)
