/-! lines: pairs of swords, pairs of cots -/
theorem sv_sum_cg {f g : Nat → Nat} : ∀ n, (∀ k, k < n → f k = g k) → sv_sum f n = sv_sum g n := by
  intro n
  induction n with
  | zero => intro _; rfl
  | succ n ih => intro h; simp only [sv_sum]; rw [ih (fun k hk => h k (by omega)), h n (by omega)]
theorem sv_sum_ad (f g : Nat → Nat) : ∀ n, sv_sum (fun k => f k + g k) n = sv_sum f n + sv_sum g n := by
  intro n
  induction n with
  | zero => rfl
  | succ n ih => simp only [sv_sum]; rw [ih]; omega
theorem sv_sum_z {f : Nat → Nat} : ∀ n, (∀ k, k < n → f k = 0) → sv_sum f n = 0 := by
  intro n
  induction n with
  | zero => intro _; rfl
  | succ n ih => intro h; simp only [sv_sum]; rw [ih (fun k hk => h k (by omega)), h n (by omega)]
theorem sv_sum_pt (g : Nat → Nat) {d : Nat} : ∀ m, d < m → sv_sum g m = sv_sum (fun c => if c = d then 0 else g c) m + g d := by
  intro m
  induction m with
  | zero => intro h; omega
  | succ m ih =>
    intro h
    simp only [sv_sum]
    by_cases e : m = d
    · subst e
      rw [if_pos rfl, sv_sum_cg (f := fun c => if c = m then 0 else g c) (g := g) m (fun k hk => if_neg (by omega))]
      omega
    · rw [if_neg e, ih (by omega)]
      omega
/-- a sum over cots that counts those with a sword alone -/
theorem sv_re (ct : Nat → Nat) : ∀ n, (∀ s, s < n → ct s < 12) → (∀ s t, s < n → t < n → ct s = ct t → s = t) → ∀ g : Nat → Nat, (∀ c, c < 12 → (∀ s, s < n → ct s ≠ c) → g c = 0) → sv_sum g 12 = sv_sum (fun s => g (ct s)) n := by
  intro n
  induction n with
  | zero => intro _ _ g hg; exact sv_sum_z 12 (fun c hc => hg c hc (fun s hs => absurd hs (Nat.not_lt_zero s)))
  | succ n ih =>
    intro h1 h2 g hg
    rw [sv_sum_pt g 12 (h1 n (by omega)), ih (fun s hs => h1 s (by omega)) (fun s t hs ht => h2 s t (by omega) (by omega)) (fun c => if c = ct n then 0 else g c) (fun c hc hno => by
      by_cases e : c = ct n
      · exact if_pos e
      · show (if c = ct n then 0 else g c) = 0
        rw [if_neg e]
        refine hg c hc (fun s hs z => ?_)
        by_cases q : s = n
        · subst q; exact e z.symm
        · exact hno s (by omega) z)]
    simp only [sv_sum]
    congr 1
    refine sv_sum_cg n (fun s hs => if_neg (fun z => ?_))
    have := h2 s n (by omega) (by omega) z
    omega
theorem sv_half (h : Nat → Nat → Nat) : ∀ m, (∀ a b, a < m → b < m → h a b = h b a) → (∀ a, a < m → h a a = 0) → sv_sum (fun c => sv_sum (fun o => h c o) m) m = 2 * sv_sum (fun c => sv_sum (fun o => h c o) c) m := by
  intro m
  induction m with
  | zero => intro _ _; rfl
  | succ m ih =>
    intro h1 h2
    have e1 : sv_sum (fun c => sv_sum (fun o => h c o) (m + 1)) m = sv_sum (fun c => sv_sum (fun o => h c o) m) m + sv_sum (fun c => h c m) m := by
      rw [← sv_sum_ad]
      rfl
    have e2 : sv_sum (fun c => h c m) m = sv_sum (fun o => h m o) m := sv_sum_cg m (fun k hk => h1 k m (by omega) (by omega))
    have e3 := ih (fun a b ha hb => h1 a b (by omega) (by omega)) (fun a ha => h2 a (by omega))
    show sv_sum (fun c => sv_sum (fun o => h c o) (m + 1)) m + (sv_sum (fun o => h m o) m + h m m) = 2 * (sv_sum (fun c => sv_sum (fun o => h c o) c) m + sv_sum (fun o => h m o) m)
    rw [e1, e2, e3, h2 m (by omega)]
    omega
theorem sv_tri (h : Nat → Nat → Nat) : ∀ m, (∀ a b, a < m → b < m → h a b = h b a) → sv_sum (fun a => sv_sum (fun j => h a (a + 1 + j)) (m - (a + 1))) m = sv_sum (fun c => sv_sum (fun o => h c o) c) m := by
  intro m
  induction m with
  | zero => intro _; rfl
  | succ m ih =>
    intro h1
    have e3 := ih (fun a b ha hb => h1 a b (by omega) (by omega))
    show sv_sum (fun a => sv_sum (fun j => h a (a + 1 + j)) (m + 1 - (a + 1))) m + sv_sum (fun j => h m (m + 1 + j)) (m + 1 - (m + 1)) = sv_sum (fun c => sv_sum (fun o => h c o) c) m + sv_sum (fun o => h m o) m
    rw [show m + 1 - (m + 1) = 0 by omega]
    have e1 : sv_sum (fun a => sv_sum (fun j => h a (a + 1 + j)) (m + 1 - (a + 1))) m = sv_sum (fun a => sv_sum (fun j => h a (a + 1 + j)) (m - (a + 1)) + h m a) m := by
      refine sv_sum_cg m (fun a ha => ?_)
      rw [show m + 1 - (a + 1) = (m - (a + 1)) + 1 by omega]
      show _ + h a (a + 1 + (m - (a + 1))) = _
      rw [show a + 1 + (m - (a + 1)) = m by omega, h1 a m (by omega) (by omega)]
    rw [e1, sv_sum_ad, e3]
    rfl
theorem sv_bes_sy : ∀ c, c < 12 → ∀ o, o < 12 → (sv_bes.getD c 0).testBit o = (sv_bes.getD o 0).testBit c := by decide +kernel
theorem sv_bes_ir : ∀ c, c < 12 → (sv_bes.getD c 0).testBit c = false := by decide +kernel
/-- what a pair of cots counts -/
def sv_pp (A : sv_A) (x : Nat) (c o : Nat) : Nat := if (sv_bes.getD c 0).testBit o = true ∧ 0 ≤ sv_lie A.1 (A.2.1 0) c ∧ 0 ≤ sv_lie A.1 (A.2.1 0) o ∧ x ≤ A.2.1 1 (sv_lie A.1 (A.2.1 0) c).toNatClampNeg + A.2.1 1 (sv_lie A.1 (A.2.1 0) o).toNatClampNeg then 1 else 0
theorem sv_pp_sy (A : sv_A) (x : Nat) {c o : Nat} (hc : c < 12) (ho : o < 12) : sv_pp A x c o = sv_pp A x o c := by
  unfold sv_pp
  rw [sv_bes_sy c hc o ho]
  congr 1
  refine propext ⟨fun z => ⟨z.1, z.2.2.1, z.2.1, by omega⟩, fun z => ⟨z.1, z.2.2.1, z.2.1, by omega⟩⟩
theorem sv_pp_ir (A : sv_A) (x : Nat) {c : Nat} (hc : c < 12) : sv_pp A x c c = 0 := by
  unfold sv_pp
  rw [if_neg (fun z => by rw [sv_bes_ir c hc] at z; cases z.1)]
theorem sv_pp_le (A : sv_A) (x c o : Nat) : sv_pp A x c o ≤ 1 := by
  unfold sv_pp
  split <;> omega
theorem sv_pp_eq {A : sv_A} (hA : sv_wf A) (x : Nat) : sv_sum (fun a => sv_sum (fun j => sv_pp A x (A.2.1 0 a) (A.2.1 0 (a + 1 + j))) (A.1 - (a + 1))) A.1 = sv_sum (fun c => sv_sum (fun o => sv_pp A x c o) c) 12 := by
  have hl : ∀ s, s < A.1 → A.2.1 0 s < 12 := fun s hs => (hA.2.1 s hs).1
  have hno : ∀ c, (∀ s, s < A.1 → A.2.1 0 s ≠ c) → sv_lie A.1 (A.2.1 0) c = -1 := fun c h => sv_lie_no h
  have t1 := sv_tri (fun a b => sv_pp A x (A.2.1 0 a) (A.2.1 0 b)) A.1 (fun a b ha hb => sv_pp_sy A x (hl a ha) (hl b hb))
  have t2 := sv_half (fun a b => sv_pp A x (A.2.1 0 a) (A.2.1 0 b)) A.1 (fun a b ha hb => sv_pp_sy A x (hl a ha) (hl b hb)) (fun a ha => sv_pp_ir A x (hl a ha))
  have t3 := sv_half (fun a b => sv_pp A x a b) 12 (fun a b ha hb => sv_pp_sy A x ha hb) (fun a ha => sv_pp_ir A x ha)
  have t4 : sv_sum (fun c => sv_sum (fun o => sv_pp A x c o) 12) 12 = sv_sum (fun s => sv_sum (fun o => sv_pp A x (A.2.1 0 s) o) 12) A.1 := sv_re (A.2.1 0) A.1 hl hA.2.2.1 (fun c => sv_sum (fun o => sv_pp A x c o) 12) (fun c hc h => sv_sum_z 12 (fun o ho => by
    unfold sv_pp
    rw [hno c h]
    exact if_neg (fun z => absurd z.2.1 (by decide))))
  have t5 : sv_sum (fun s => sv_sum (fun o => sv_pp A x (A.2.1 0 s) o) 12) A.1 = sv_sum (fun s => sv_sum (fun t => sv_pp A x (A.2.1 0 s) (A.2.1 0 t)) A.1) A.1 := sv_sum_cg A.1 (fun s hs => sv_re (A.2.1 0) A.1 hl hA.2.2.1 (fun o => sv_pp A x (A.2.1 0 s) o) (fun c hc h => by
    show sv_pp A x (A.2.1 0 s) c = 0
    unfold sv_pp
    rw [hno c h]
    exact if_neg (fun z => absurd z.2.2.1 (by decide))))
  have e1 : sv_sum (fun a => sv_sum (fun j => sv_pp A x (A.2.1 0 a) (A.2.1 0 (a + 1 + j))) (A.1 - (a + 1))) A.1 = sv_sum (fun c => sv_sum (fun o => sv_pp A x (A.2.1 0 c) (A.2.1 0 o)) c) A.1 := t1
  rw [e1]
  have e2 : sv_sum (fun c => sv_sum (fun o => sv_pp A x (A.2.1 0 c) (A.2.1 0 o)) A.1) A.1 = 2 * sv_sum (fun c => sv_sum (fun o => sv_pp A x (A.2.1 0 c) (A.2.1 0 o)) c) A.1 := t2
  omega
theorem sv_sum_1 {f : Nat → Nat} (h : ∀ k, f k ≤ 1) : ∀ n, sv_sum f n ≤ n := by
  intro n
  induction n with
  | zero => exact Nat.le_refl _
  | succ n ih => simp only [sv_sum]; have := h n; omega
/-- the class's count -/
theorem e4_pairsOf (N : Nat) (hN : 100 ≤ N) {S : sw_St} {A : sv_A} (h : sv_nc S 1 A) (hA : sv_wf A) {x : Nat} (hx : x ≤ 18) : fX4_pairsOf N 1 (nI x) S = some (nI (sv_sum (fun a => sv_sum (fun j => sv_pp A x (A.2.1 0 a) (A.2.1 0 (a + 1 + j))) (A.1 - (a + 1))) A.1), S) := by
  have h10 := hA.1
  have e0 : S.1 1 0 = nI A.1 := h.1
  have hl : ∀ s, s < A.1 → A.2.1 0 s < 12 := fun s hs => (hA.2.1 s hs).1
  have r0 : ∀ s, s < 10 → S.1 (1 + 1) s = nI (A.2.1 0 s) := fun s hs => h.2.1 0 s (by omega) hs
  have r1 : ∀ s, s < 10 → S.1 (1 + 2) s = nI (A.2.1 1 s) := fun s hs => h.2.1 1 s (by omega) hs
  have bp : ∀ {s t : Nat}, s < A.1 → t < A.1 → ((sv_bes.getD (A.2.1 0 s) 0).testBit (A.2.1 0 t) = true → x ≤ A.2.1 1 s + A.2.1 1 t → sv_pp A x (A.2.1 0 s) (A.2.1 0 t) = 1) ∧ (¬ ((sv_bes.getD (A.2.1 0 s) 0).testBit (A.2.1 0 t) = true ∧ x ≤ A.2.1 1 s + A.2.1 1 t) → sv_pp A x (A.2.1 0 s) (A.2.1 0 t) = 0) := by
    intro s t hs ht
    unfold sv_pp
    rw [sv_lie_at hA hs rfl, sv_lie_at hA ht rfl, nI_clamp (by omega), nI_clamp (by omega)]
    refine ⟨fun z1 z2 => if_pos ⟨z1, nI_pos' (by omega), nI_pos' (by omega), z2⟩, fun z => if_neg (fun y => z ⟨y.1, y.2.2.2⟩)⟩
  unfold fX4_pairsOf
  refine sv_fr2 (Q := fun r => r = some (nI (sv_sum (fun a => sv_sum (fun j => sv_pp A x (A.2.1 0 a) (A.2.1 0 (a + 1 + j))) (A.1 - (a + 1))) A.1), S)) (fun a u v T => u = nI (sv_sum (fun a => sv_sum (fun j => sv_pp A x (A.2.1 0 a) (A.2.1 0 (a + 1 + j))) (A.1 - (a + 1))) a) ∧ v = nI a ∧ T = S) A.1 ?_ ?_ N _ _ S (by omega) ⟨rfl, rfl, rfl⟩
  · rintro a u v T rec ha ⟨rfl, rfl, rfl⟩
    left
    rw [if_neg (show ¬ nI a ≥ T.1 1 0 by rw [e0]; exact nI_ge ha (by omega)), sv_li, nI_1]
    have es0 : sv_sum (fun a => sv_sum (fun j => sv_pp A x (A.2.1 0 a) (A.2.1 0 (a + 1 + j))) (A.1 - (a + 1))) (a + 1) = sv_sum (fun a => sv_sum (fun j => sv_pp A x (A.2.1 0 a) (A.2.1 0 (a + 1 + j))) (A.1 - (a + 1))) a + sv_sum (fun j => sv_pp A x (A.2.1 0 a) (A.2.1 0 (a + 1 + j))) (A.1 - (a + 1)) := rfl
    rw [es0]
    generalize sv_sum (fun a => sv_sum (fun j => sv_pp A x (A.2.1 0 a) (A.2.1 0 (a + 1 + j))) (A.1 - (a + 1))) a = q
    refine sv_fr2 (Q := fun r => ∃ b0 b1 T', (b0 = nI (q + sv_sum (fun j => sv_pp A x (A.2.1 0 a) (A.2.1 0 (a + 1 + j))) (A.1 - (a + 1))) ∧ b1 = nI (a + 1) ∧ T' = T) ∧ r = rec b0 b1 T') (fun j u v W => u = nI (q + sv_sum (fun j => sv_pp A x (A.2.1 0 a) (A.2.1 0 (a + 1 + j))) j) ∧ v = nI (a + 1 + j) ∧ W = T) (A.1 - (a + 1)) ?_ ?_ N _ _ T (by omega) ⟨rfl, rfl, rfl⟩
    · rintro j u v W rec2 hj ⟨rfl, rfl, rfl⟩
      left
      have hb : a + 1 + j < A.1 := by omega
      obtain ⟨p1, p2⟩ := bp ha hb
      have d1 := (hA.2.1 a ha).2.1
      have d2 := (hA.2.1 (a + 1 + j) hb).2.1
      have tbl := sv_bes_tb (A.2.1 0 a) (hl a ha)
      have es : ∀ v, sv_pp A x (A.2.1 0 a) (A.2.1 0 (a + 1 + j)) = v → q + sv_sum (fun j => sv_pp A x (A.2.1 0 a) (A.2.1 0 (a + 1 + j))) (j + 1) = q + sv_sum (fun j => sv_pp A x (A.2.1 0 a) (A.2.1 0 (a + 1 + j))) j + v := fun v hv => by
        show q + (_ + sv_pp A x (A.2.1 0 a) (A.2.1 0 (a + 1 + j))) = _
        rw [hv]; omega
      rw [if_neg (show ¬ nI (a + 1 + j) ≥ W.1 1 0 by rw [e0]; exact nI_ge hb (by omega)), sv_gi (by omega) (by decide), nI_clamp (by omega), nI_clamp (by omega), r0 a (by omega), sv_gi (hl a ha) (by decide), sv_gi (by omega) (by decide), sv_jn1, r0 (a + 1 + j) (by omega), nI_clamp (by have := hl a ha; omega), tbl.1, sv_shl _ (by have := hl _ hb; omega), sv_and]
      cases hbit : (sv_bes.getD (A.2.1 0 a) 0).testBit (A.2.1 0 (a + 1 + j))
      · rw [if_pos (by rw [(sv_and2 _ _).mpr hbit]; rfl)]
        dsimp only
        rw [if_pos rfl, sv_li]
        have e := es 0 (p2 (fun z => by rw [hbit] at z; cases z.1))
        exact ⟨_, _, W, ⟨by rw [e, Nat.add_zero]; exact Int32.add_zero _, nI_1 _, rfl⟩, rfl⟩
      · have hle : sv_bes.getD (A.2.1 0 a) 0 &&& 2 ^ A.2.1 0 (a + 1 + j) ≤ sv_bes.getD (A.2.1 0 a) 0 := Nat.and_le_left
        have h4 := tbl.2
        rw [if_neg (show ¬ nI (sv_bes.getD (A.2.1 0 a) 0 &&& 2 ^ A.2.1 0 (a + 1 + j)) = 0 from fun z => by have := (sv_and2 _ _).mp ((nI_eq (b := 0) (by omega) (by decide)).mp z); rw [hbit] at this; cases this)]
        dsimp only
        rw [if_neg sv_nz, sv_gi (by omega) (by decide), sv_gi (by omega) (by decide), r1 a (by omega), r1 (a + 1 + j) (by omega), nI_add]
        by_cases hsum : x ≤ A.2.1 1 a + A.2.1 1 (a + 1 + j)
        · rw [if_neg (show ¬ nI (A.2.1 1 a + A.2.1 1 (a + 1 + j)) < nI x from Int32.not_lt.mpr ((nI_leI (by omega) (by omega)).mpr hsum)), sv_li, nI_1]
          have e := es 1 (p1 hbit hsum)
          exact ⟨_, _, W, ⟨by rw [e], nI_1 _, rfl⟩, rfl⟩
        · rw [if_pos (show nI (A.2.1 1 a + A.2.1 1 (a + 1 + j)) < nI x from Int32.not_le.mp (fun z => by have := (nI_leI (by omega) (by omega)).mp z; omega)), sv_li]
          have e := es 0 (p2 (fun z => hsum z.2))
          exact ⟨_, _, W, ⟨by rw [e, Nat.add_zero]; exact Int32.add_zero _, nI_1 _, rfl⟩, rfl⟩
    · rintro u v W rec2 ⟨rfl, rfl, rfl⟩
      rw [if_pos (show nI (a + 1 + (A.1 - (a + 1))) ≥ W.1 1 0 by rw [e0, show a + 1 + (A.1 - (a + 1)) = A.1 by omega]; exact Int32.le_refl _)]
      exact ⟨_, _, W, ⟨rfl, rfl, rfl⟩, rfl⟩
  · rintro u v T rec ⟨rfl, rfl, rfl⟩
    rw [if_pos (show nI A.1 ≥ T.1 1 0 by rw [e0]; exact Int32.le_refl _)]
