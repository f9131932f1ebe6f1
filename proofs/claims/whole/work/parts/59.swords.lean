/-! swords from a row of bytes -/
/-- the attic behind i of them -/
def sv_sq (A : sv_A) (E : Nat → Int32) (p : Nat) : Nat → sv_A
  | 0 => A
  | i + 1 => sv_ad (sv_sq A E p i) (E (p + 3 * i)).toNatClampNeg (E (p + 3 * i + 1)).toNatClampNeg (E (p + 3 * i + 2)).toNatClampNeg
abbrev sv_sk (A : sv_A) (E : Nat → Int32) (p n sz i : Nat) : Prop := i < n ∧ (sv_sq A E p i).1 < 10 ∧ p + 3 * i + 3 ≤ sz ∧ sv_mc (sv_sq A E p i) (E (p + 3 * i)) (E (p + 3 * i + 1)) (E (p + 3 * i + 2))
def sv_sf (A : sv_A) (E : Nat → Int32) (p n sz i : Nat) : Prop := (∀ j, j < i → sv_sk A E p n sz j) ∧ ¬ sv_sk A E p n sz i
theorem sv_sf_u {A : sv_A} {E : Nat → Int32} {p n sz i j : Nat} (h : sv_sf A E p n sz i) (g : sv_sf A E p n sz j) : i = j := by
  rcases Nat.lt_trichotomy i j with q | q | q
  · exact absurd (g.1 i q) h.2
  · exact q
  · exact absurd (h.1 j q) g.2
theorem sv_sq_wf {A : sv_A} (hA : sv_wf A) {E : Nat → Int32} {p n sz : Nat} : ∀ i, (∀ j, j < i → sv_sk A E p n sz j) → sv_wf (sv_sq A E p i)
  | 0, _ => hA
  | i + 1, h => by
    have hw := sv_sq_wf hA i (fun j hj => h j (by omega))
    obtain ⟨k1, k2, k3, k4⟩ := h i (by omega)
    obtain ⟨c, e, z, hc, he, hz, e1, e2, e3, hf⟩ := sv_mc_n hw k4
    show sv_wf (sv_ad _ _ _ _)
    rw [e1, e2, e3, nI_clamp (by omega), nI_clamp (by omega), nI_clamp (by omega)]
    exact sv_ad_wf hw k2 hc he hz hf
theorem sv_sq_n {A : sv_A} {E : Nat → Int32} {p : Nat} : ∀ i, (sv_sq A E p i).1 = A.1 + i
  | 0 => rfl
  | i + 1 => by show (sv_sq A E p i).1 + 1 = _; rw [sv_sq_n i]; omega
theorem e5_byteAt (N : Nat) {S : sw_St} {o j sz : Nat} (hsz : sz ≤ 60) (h : S.1 o 2 = nI sz) (hj : j < sz) : fX5_byteAt N o (nI j) S = some ((S.2 (o + 1) j).toInt32, S) := by
  unfold fX5_byteAt
  have hp : sv_hp (nI j) 1 sz := by
    refine ⟨sv_ng j (by omega), by decide, ?_⟩
    rw [nI_toInt (by omega), show (1 : Int32).toInt = 1 from rfl]
    omega
  rw [(e5_hasPlaces N o (nI j) 1 S hsz h).1 hp, sv_bd, if_neg sv_nz, sv_gi (by omega) (by decide), nI_clamp (by omega)]
theorem e4_addFrom (N : Nat) (hN : 100 ≤ N) {S : sw_St} {A : sv_A} (h : sv_nc S 1 A) (hA : sv_wf A) {o p n sz : Nat} (ho : 93 ≤ o) (hsz : sz ≤ 60) (hz : S.1 o 2 = nI sz) (hp : p < 1000) (hn : n ≤ 10) : ∃ i V, fX4_addFrom N 1 o (nI p) (nI n) S = some (nI i, V) ∧ sv_sf A (fun j => (S.2 (o + 1) j).toInt32) p n sz i ∧ sv_nc V 1 (sv_sq A (fun j => (S.2 (o + 1) j).toInt32) p i) ∧ sv_ag (fun a => 1 ≤ a ∧ a ≤ 7) S V := by
  unfold fX4_addFrom
  generalize hE : (fun j => (S.2 (o + 1) j).toInt32) = E
  refine sv_fr1 (Q := fun t => ∃ i V, t = some (nI i, V) ∧ sv_sf A E p n sz i ∧ sv_nc V 1 (sv_sq A E p i) ∧ sv_ag (fun a => 1 ≤ a ∧ a ≤ 7) S V) (fun k x W => x = nI k ∧ k ≤ n ∧ (∀ j, j < k → sv_sk A E p n sz j) ∧ sv_nc W 1 (sv_sq A E p k) ∧ sv_ag (fun a => 1 ≤ a ∧ a ≤ 7) S W) n ?_ ?_ N _ S (by omega) ⟨rfl, by omega, fun j hj => absurd hj (Nat.not_lt_zero j), h, sv_ag_rf⟩
  · rintro k x W rec hk ⟨rfl, hkn, w1, w2, gW⟩
    rw [if_neg (nI_ge hk (by omega))]
    have hw := sv_sq_wf hA k w1
    by_cases h10 : (sv_sq A E p k).1 < 10
    · rw [if_neg (show ¬ W.1 1 0 ≥ (10 : Int32) by rw [w2.1]; exact nI_ge (b := 10) h10 (by decide)), sv_li, show (3 : Int32) * nI k = nI (3 * k) from pk_mul 3 k, nI_add]
      have wz : W.1 o 2 = nI sz := by rw [(gW o (by omega)).1]; exact hz
      have wE : ∀ j, (W.2 (o + 1) j).toInt32 = E j := fun j => by rw [(gW (o + 1) (by omega)).2, ← hE]
      obtain ⟨p1, p2⟩ := e5_hasPlaces N o (nI (p + 3 * k)) 3 W hsz wz
      have hpI : sv_hp (nI (p + 3 * k)) 3 sz ↔ p + 3 * k + 3 ≤ sz := by
        unfold sv_hp
        rw [nI_toInt (by omega), show (3 : Int32).toInt = 3 from rfl]
        constructor
        · intro z; have := z.2.2; omega
        · intro z; exact ⟨sv_ng _ (by omega), by decide, by omega⟩
      by_cases hpl : p + 3 * k + 3 ≤ sz
      · rw [p1 (hpI.mpr hpl), sv_bd, if_neg sv_nz, nI_1, show nI (p + 3 * k) + (2 : Int32) = nI (p + 3 * k + 2) from nI_add _ 2]
        have b0 := e5_byteAt N hsz wz (show p + 3 * k < sz by omega)
        have b1 := e5_byteAt N hsz wz (show p + 3 * k + 1 < sz by omega)
        have b2 := e5_byteAt N hsz wz (show p + 3 * k + 2 < sz by omega)
        rw [wE] at b0 b1 b2
        rw [b0, sv_bd, b1, sv_bd, b2, sv_bd, e4_mayCome N w2, sv_bd, sv_Bi]
        by_cases hm : sv_mc (sv_sq A E p k) (E (p + 3 * k)) (E (p + 3 * k + 1)) (E (p + 3 * k + 2))
        · rw [if_pos hm, b0, sv_bd, b1, sv_bd, b2, sv_bd]
          left
          obtain ⟨c, e, z, hc, he, hz', e1, e2, e3, hf⟩ := sv_mc_n hw hm
          obtain ⟨V, hV, v2, gV⟩ := e4_add N w2 hw h10 hc he hz' hf
          refine ⟨nI (k + 1), V, ⟨rfl, by omega, fun j hj => ?_, ?_, sv_ag_tr gW gV⟩, ?_⟩
          · rcases Nat.lt_or_ge j k with q | q
            · exact w1 j q
            · have : j = k := by omega
              subst this
              exact ⟨hk, h10, hpl, hm⟩
          · show sv_nc V 1 (sv_ad _ _ _ _)
            rw [e1, e2, e3, nI_clamp (by omega), nI_clamp (by omega), nI_clamp (by omega)]
            exact v2
          · rw [e1, e2, e3, hV, sv_bd, nI_1]
        · rw [if_neg hm]
          right
          exact ⟨k, W, rfl, ⟨w1, fun z => hm z.2.2.2⟩, w2, gW⟩
      · rw [p2 (fun z => hpl (hpI.mp z)), sv_bd, if_pos rfl]
        right
        exact ⟨k, W, rfl, ⟨w1, fun z => hpl z.2.2.1⟩, w2, gW⟩
    · rw [if_pos (show W.1 1 0 ≥ (10 : Int32) by rw [w2.1]; exact nI_le (a := 10) (by omega) (by have := hw.1; omega))]
      right
      exact ⟨k, W, rfl, ⟨w1, fun z => h10 z.2.1⟩, w2, gW⟩
  · rintro x W rec ⟨rfl, hkn, w1, w2, gW⟩
    rw [if_pos (Int32.le_refl _)]
    exact ⟨n, W, rfl, ⟨w1, fun z => absurd z.1 (Nat.lt_irrefl n)⟩, w2, gW⟩
/-- p behind nothing: no place -/
theorem e4_addFrom0 (m : Nat) {S : sw_St} {o n sz : Nat} {p : Int32} (hsz : sz ≤ 60) (hz : S.1 o 2 = nI sz) (hp : ¬ sv_hp p 3 sz) : fX4_addFrom (m + 9) 1 o p (nI (n + 1)) S = some (0, S) := by
  show (if (0 : Int32) ≥ nI (n + 1) then (some ((0 : Int32), S)) else (if (S.1 1 0) ≥ (10 : Int32) then (some ((0 : Int32), S)) else (sw_li (p + ((3 : Int32) * 0)) (fun x5_1 => (sw_bd (fX5_hasPlaces (m + 9) o x5_1 (3 : Int32) S) _))))) = _
  rw [sv_li, show p + (3 : Int32) * 0 = p from Int32.add_zero p, (e5_hasPlaces (m + 9) o p 3 S hsz hz).2 hp, sv_bd]
  rw [show (if (0 : Int32) = 0 then some ((0 : Int32), S) else _) = some ((0 : Int32), S) from if_pos rfl]
  split
  · rfl
  · split <;> rfl
