/-! the reference's touches -/
def sv_sp (A : sv_A) (s c : Nat) (t : Nat → Nat) (x : Nat) : Nat := if sv_wk A s ∧ sv_bs c x ∧ t x = 0 then 1 else t x
theorem sv_rs_6 {S T : sw_St} {A : sv_A} {cd : Int32} (h : sv_rs S A cd) (g : sv_rr (fun a => a = 116) (fun _ => False) S T) : sv_rs T A cd := sv_rs_rr h g (by omega) (by omega) (by omega) (fun z => z) (fun z => z) (fun z => z)
theorem e9_spread (N : Nat) (hN : 20 ≤ N) {A : sv_A} {cd : Int32} (hA : sv_wf A) {X : sw_St} {m : Nat → Bool} (hX : sv_rs X (sv_to A m) cd) {s c : Nat} (hs : s < A.1) (hc : A.2.1 0 s = c) (hcl : c < 12) (hm : m c = true) {t : Nat → Nat} (ht : ∀ x, x < 12 → X.1 116 x = nI (t x) ∧ t x ≤ 2) {ρ : Type} (K : sw_St → Option ρ) : ∃ Y, (sw_fx1 (fun rec4 x5_1 S8 => (if x5_1 ≥ (12 : Int32) then K S8 else (if sv_B (sv_aw A s) = 0 then (sw_gd (sw_in (nI c) 12) (sw_bd (fX9_isAwake N (S8.1 113 (nI c).toNatClampNeg) S8) (fun r3 S10 => (if r3 = 0 then (sw_gd (sw_in x5_1 12) (sw_gd (sw_in x5_1 12) (sw_ls (sw_si S10 116 x5_1.toNatClampNeg (S10.1 116 x5_1.toNatClampNeg)) (fun S11 => (rec4 (x5_1 + (1 : Int32)) S11))))) else (sw_bd (fX9_areBeside N (nI c) x5_1 S10) (fun r4 S12 => (if r4 = 0 then (sw_gd (sw_in x5_1 12) (sw_gd (sw_in x5_1 12) (sw_ls (sw_si S12 116 x5_1.toNatClampNeg (S12.1 116 x5_1.toNatClampNeg)) (fun S13 => (rec4 (x5_1 + (1 : Int32)) S13))))) else (sw_gd (sw_in x5_1 12) (if (S12.1 116 x5_1.toNatClampNeg) = 0 then (sw_gd (sw_in x5_1 12) (sw_ls (sw_si S12 116 x5_1.toNatClampNeg (1 : Int32)) (fun S15 => (rec4 (x5_1 + (1 : Int32)) S15)))) else (sw_gd (sw_in x5_1 12) (sw_gd (sw_in x5_1 12) (sw_ls (sw_si S12 116 x5_1.toNatClampNeg (S12.1 116 x5_1.toNatClampNeg)) (fun S14 => (rec4 (x5_1 + (1 : Int32)) S14)))))))))))))) else (sw_gd (sw_in x5_1 12) (sw_gd (sw_in x5_1 12) (sw_ls (sw_si S8 116 x5_1.toNatClampNeg (S8.1 116 x5_1.toNatClampNeg)) (fun S9 => (rec4 (x5_1 + (1 : Int32)) S9)))))))) N (0 : Int32) X) = K Y ∧ (∀ x, x < 12 → Y.1 116 x = nI (sv_sp A s c t x)) ∧ sv_rr (fun a => a = 116) (fun _ => False) X Y := by
  have hn := hA.1
  have hw := sv_to_wf hA m
  have lie : ∀ W : sw_St, sv_rs W (sv_to A m) cd → W.1 113 c = nI s := fun W hW => by
    rw [hW.2.2.2.1 c hcl]
    exact sv_lie_at hw (s := s) hs (by rw [sv_to_r A m (by decide)]; exact hc)
  have aw1 := (sv_to_aw (A := A) (m := m) hs).2 (by rw [hc]; exact hm)
  refine sv_fr1 (Q := fun r => ∃ Y, r = K Y ∧ (∀ x, x < 12 → Y.1 116 x = nI (sv_sp A s c t x)) ∧ sv_rr (fun a => a = 116) (fun _ => False) X Y) (fun k x W => x = nI k ∧ (∀ y, y < 12 → W.1 116 y = nI (if y < k then sv_sp A s c t y else t y)) ∧ sv_rr (fun a => a = 116) (fun _ => False) X W) 12 ?_ ?_ N _ X (by omega) ⟨rfl, fun y hy => by rw [if_neg (Nat.not_lt_zero y)]; exact (ht y hy).1, sv_rr_rf⟩
  · rintro k x W rec hk ⟨rfl, w1, gW⟩
    left
    have hW := sv_rs_6 hX gW
    have wk0 : W.1 116 k = nI (t k) := by rw [w1 k hk, if_neg (Nat.lt_irrefl k)]
    rw [if_neg (show ¬ nI k ≥ (12 : Int32) from nI_ge (b := 12) hk (by decide)), nI_clamp (show k < 2 ^ 31 by omega), nI_clamp (show c < 2 ^ 31 by omega), lie W hW]
    simp only [sv_gi hk (show 12 < 2 ^ 31 by decide), sv_gi hcl (show 12 < 2 ^ 31 by decide), sv_ls]
    rw [e9_isAwake N hW hw hs, sv_bd, e9_areBeside N hcl hk, sv_bd]
    simp only [sv_Bi]
    -- a write of v at k
    have go : ∀ v : Nat, v = sv_sp A s c t k → ∃ b0 T, (b0 = nI (k + 1) ∧ (∀ y, y < 12 → T.1 116 y = nI (if y < k + 1 then sv_sp A s c t y else t y)) ∧ sv_rr (fun a => a = 116) (fun _ => False) X T) ∧ rec (nI k + 1) (sw_si W 116 k (nI v)) = rec b0 T := by
      intro v hv
      refine ⟨_, _, ⟨nI_1 k, fun y hy => ?_, sv_rr_tr gW (sv_rr_si W 116 _ _ (by decide) rfl)⟩, rfl⟩
      rw [sv_si]
      by_cases e : y = k
      · rw [if_pos ⟨rfl, e⟩, if_pos (by omega), hv, e]
      · rw [if_neg (fun z => e z.2), w1 y hy]
        simp only [show (y < k + 1) ↔ (y < k) by omega]
    rw [wk0]
    by_cases a0 : sv_aw A s
    · rw [if_pos a0]
      exact go (t k) (by unfold sv_sp; rw [if_neg (fun z => z.1.1 a0)])
    · rw [if_neg a0]
      by_cases a1 : A.2.2 1 < sv_t5 (A.2.1 3 s)
      · rw [if_pos (aw1.mpr a1)]
        by_cases hb : sv_bs c k
        · rw [if_pos hb]
          by_cases h0 : t k = 0
          · rw [if_pos (show nI (t k) = 0 by rw [h0]; rfl)]
            exact go 1 (by unfold sv_sp; rw [if_pos ⟨⟨a0, a1⟩, hb, h0⟩])
          · rw [if_neg (nI_ne0 (by omega) (by have := (ht k hk).2; omega))]
            exact go (t k) (by unfold sv_sp; rw [if_neg (fun z => h0 z.2.2)])
        · rw [if_neg hb]
          exact go (t k) (by unfold sv_sp; rw [if_neg (fun z => hb z.2.1)])
      · rw [if_neg (fun z => a1 (aw1.mp z))]
        exact go (t k) (by unfold sv_sp; rw [if_neg (fun z => a1 z.1.2)])
  · rintro x W rec ⟨rfl, w1, gW⟩
    rw [if_pos (show nI 12 ≥ (12 : Int32) from Int32.le_refl _)]
    exact ⟨W, rfl, fun x hx => by rw [w1 x hx, if_pos hx], gW⟩
def sv_mw2 (t : Nat → Nat) (c : Nat) : Bool := decide (t c = 2)
/-- what holds of the touches t -/
def sv_Tg (A : sv_A) (f : Nat) (cd : Int32) (S0 : sw_St) (t : Nat → Nat) (W : sw_St) : Prop := (∀ c, c < 12 → W.1 116 c = nI (t c) ∧ t c ≤ 2) ∧ (∀ c, c < 12 → t c = 2 → sv_oc A c) ∧ (∀ c, c < 12 → 1 ≤ t c → sv_oc A c → sv_R A f c) ∧ 1 ≤ t f ∧ (∀ c, c < 12 → t c = 2 → ∀ s, s < A.1 → A.2.1 0 s = c → sv_wk A s → ∀ o, o < 12 → sv_bs c o → 1 ≤ t o) ∧ sv_rs W (sv_to A (sv_mw2 t)) cd ∧ sv_rr (fun a => a = 114 ∨ a = 116) (fun _ => False) S0 W
/-- the end: those twice marked are those reached -/
theorem sv_Tg_end {A : sv_A} {f : Nat} (hf : f < 12) {cd : Int32} {S0 W : sw_St} {t : Nat → Nat} (h : sv_Tg A f cd S0 t W) (hA : sv_wf A) (hp : ∀ c, c < 12 → t c = 1 → ¬ sv_oc A c) : ∀ c, c < 12 → (sv_mw2 t c = true ↔ sv_R A f c) := by
  obtain ⟨h1, h2, h3, h4, h5, h6, h7⟩ := h
  have two : ∀ c, c < 12 → 1 ≤ t c → sv_oc A c → t c = 2 := by
    intro c hc k1 k2
    have := (h1 c hc).2
    rcases Nat.lt_or_ge 1 (t c) with e | e
    · omega
    · exact absurd k2 (hp c hc (by omega))
  intro c hc
  unfold sv_mw2
  rw [decide_eq_true_iff]
  constructor
  · intro e; exact h3 c hc (by omega) (h2 c hc e)
  · intro z
    refine (z (fun c => c < 12 ∧ t c = 2) (fun ho => ⟨hf, two f hf h4 ho⟩) (fun c s o k1 k2 k3 k4 k5 k6 k7 => ⟨k5, two o k5 (h5 c k1.1 k1.2 s k2 k3 k4 o k5 k6) k7⟩)).2
/-- one is touched -/
theorem sv_Tg_s {A : sv_A} {f : Nat} {cd : Int32} {S0 W Y : sw_St} {t : Nat → Nat} (hA : sv_wf A) (h : sv_Tg A f cd S0 t W) {s c : Nat} (hs : s < A.1) (hc : A.2.1 0 s = c) (hcl : c < 12) (h1c : t c = 1) (hY : sv_rs Y (sv_to A (fun x => sv_mw2 t x || decide (x = c))) cd) (y6 : ∀ x, x < 12 → Y.1 116 x = nI (sv_sp A s c (fun x => if x = c then 2 else t x) x)) (gY : sv_rr (fun a => a = 114 ∨ a = 116) (fun _ => False) S0 Y) : sv_Tg A f cd S0 (sv_sp A s c (fun x => if x = c then 2 else t x)) Y ∧ sv_ct (sv_mw2 (sv_sp A s c (fun x => if x = c then 2 else t x))) 12 = sv_ct (sv_mw2 t) 12 + 1 := by
  obtain ⟨h1, h2, h3, h4, h5, h6, h7⟩ := h
  have oc : sv_oc A c := ⟨s, hs, hc⟩
  have v : ∀ x, sv_sp A s c (fun x => if x = c then 2 else t x) x = if x = c then 2 else if sv_wk A s ∧ sv_bs c x ∧ t x = 0 then 1 else t x := by
    intro x
    show (if sv_wk A s ∧ sv_bs c x ∧ (if x = c then 2 else t x) = 0 then 1 else (if x = c then 2 else t x)) = _
    by_cases e : x = c
    · rw [if_pos e, if_neg (fun z => absurd z.2.2 (by decide)), if_pos e]
    · rw [if_neg e]
      simp [e]
  have mono : ∀ x, 1 ≤ t x → 1 ≤ sv_sp A s c (fun x => if x = c then 2 else t x) x := by
    intro x hx
    rw [v]
    split
    · decide
    · split
      · decide
      · exact hx
  have two : ∀ x, sv_sp A s c (fun x => if x = c then 2 else t x) x = 2 ↔ (t x = 2 ∨ x = c) := by
    intro x
    rw [v]
    by_cases e : x = c
    · rw [if_pos e]; exact ⟨fun _ => Or.inr e, fun _ => rfl⟩
    · rw [if_neg e]
      by_cases z : sv_wk A s ∧ sv_bs c x ∧ t x = 0
      · rw [if_pos z]
        constructor
        · intro q; omega
        · intro q; have := z.2.2; omega
      · rw [if_neg z]
        constructor
        · intro q; exact Or.inl q
        · intro q; rcases q with q | q
          · exact q
          · exact absurd q e
  have m2e : sv_mw2 (sv_sp A s c (fun x => if x = c then 2 else t x)) = fun x => sv_mw2 t x || decide (x = c) := by
    funext x
    unfold sv_mw2
    apply Bool.eq_iff_iff.mpr
    simp only [decide_eq_true_iff, Bool.or_eq_true]
    exact two x
  refine ⟨⟨fun x hx => ⟨y6 x hx, ?_⟩, fun x hx e => ?_, fun x hx k1 k2 => ?_, mono f h4, fun x hx e s' k1 k2 k3 o k4 k5 => ?_, by rw [m2e]; exact hY, gY⟩, ?_⟩
  · rw [v]
    have := (h1 x hx).2
    split
    · decide
    · split
      · decide
      · exact this
  · rcases (two x).mp e with e | e
    · exact h2 x hx e
    · rw [e]; exact oc
  · rcases Nat.eq_zero_or_pos (t x) with e | e
    · rw [v] at k1
      by_cases ex : x = c
      · rw [ex]; exact h3 c hcl (by omega) oc
      · rw [if_neg ex] at k1
        by_cases z : sv_wk A s ∧ sv_bs c x ∧ t x = 0
        · exact sv_R_s (h3 c hcl (by omega) oc) hs hc z.1 hx z.2.1 k2
        · rw [if_neg z] at k1; omega
    · exact h3 x hx e k2
  · rcases (two x).mp e with e | e
    · exact mono o (h5 x hx e s' k1 k2 k3 o k4 k5)
    · rw [e] at k2 k5
      have : s' = s := hA.2.2.1 s' s k1 hs (k2.trans hc.symm)
      subst this
      rw [v]
      by_cases eo : o = c
      · rw [if_pos eo]; decide
      · rw [if_neg eo]
        by_cases z : t o = 0
        · rw [if_pos ⟨k3, k5, z⟩]; decide
        · rw [if_neg (fun q => z q.2.2)]; omega
  · rw [m2e, sv_ct_new _ _ (by unfold sv_mw2; rw [h1c]; rfl), if_pos hcl]
