/-! judge, fits -/
theorem sv_dv {p q : Nat} (hp : p < 2 ^ 31) (hq : q < 2 ^ 31) : nI p / nI q = nI (p / q) := by
  apply Int32.toInt_inj.mp
  have hd : p / q ≤ p := Nat.div_le_self p q
  rw [Int32.toInt_div, nI_toInt hp, nI_toInt hq, nI_toInt (by omega)]
  rw [← Int.ofNat_tdiv]
  generalize p / q = r at *
  exact Int.bmod_eq_of_le (by omega) (by omega)
theorem sv_md {p q : Nat} (hp : p < 2 ^ 31) (hq : q < 2 ^ 31) : nI p - nI p / nI q * nI q = nI (p % q) := by
  have h1 : p / q * q ≤ p := Nat.div_mul_le_self p q
  rw [sv_dv hp hq, pk_mul, pk_sub h1]
  congr 1
  have := Nat.div_add_mod p q
  rw [Nat.mul_comm] at this
  omega
/-- two shelves in one number -/
theorem sv_two (x : Int32) : (∃ a c : Nat, a < 6 ∧ c < 6 ∧ x = nI (10 * a + c) ∧ ¬ x < 0 ∧ x / 10 = nI a ∧ x - x / 10 * 10 = nI c) ∨ (x < 0 ∨ (¬ x < 0 ∧ (¬ (0 ≤ x / 10 ∧ x / 10 ≤ 5) ∨ ((0 ≤ x / 10 ∧ x / 10 ≤ 5) ∧ ¬ (0 ≤ x - x / 10 * 10 ∧ x - x / 10 * 10 ≤ 5))))) := by
  by_cases h0 : x < 0
  · exact Or.inr (Or.inl h0)
  · obtain ⟨p, hp, rfl⟩ := nI_of h0
    have e1 : nI p / (10 : Int32) = nI (p / 10) := sv_dv (q := 10) hp (by decide)
    have e2 : nI p - nI p / (10 : Int32) * (10 : Int32) = nI (p % 10) := sv_md (q := 10) hp (by decide)
    rw [e2, e1]
    have hd : p / 10 ≤ p := Nat.div_le_self p 10
    by_cases h1 : p / 10 ≤ 5
    · by_cases h2 : p % 10 ≤ 5
      · exact Or.inl ⟨p / 10, p % 10, by omega, by omega, by rw [Nat.div_add_mod], h0, rfl, rfl⟩
      · exact Or.inr (Or.inr ⟨h0, Or.inr ⟨(sv_rgI (m := 5) (by omega) (by decide)).mpr h1, fun z => h2 ((sv_rgI (m := 5) (by omega) (by decide)).mp z)⟩⟩)
    · exact Or.inr (Or.inr ⟨h0, Or.inl (fun z => h1 ((sv_rgI (m := 5) (by omega) (by decide)).mp z))⟩)
/-- both rows: refused alike, or both of bytes -/
theorem e_both (N : Nat) {S : sw_St} {b : Nat} (hb : b ≤ 50) (h : sv_rH S b) (x : Int32) : (fX8_areShelves N x S = some (0, S) ∧ ∀ T : sw_St, fX9_rowsAre N x T = some (-1, T)) ∨ (∃ r : Int32, ¬ r = 0 ∧ ¬ r ≥ 0 ∧ ¬ r = -1 ∧ fX8_areShelves N x S = some (1, S) ∧ fX8_refusalOfBoth N x S = some (r, S) ∧ ∀ T : sw_St, T.1 124 = S.1 124 → fX9_rowsAre N x T = some (r, T)) ∨ (∃ a c sz sz2 : Nat, a < 6 ∧ c < 6 ∧ x / 10 = nI a ∧ x - x / 10 * 10 = nI c ∧ sv_s2 S a 0 sz ∧ sv_s2 S c 0 sz2 ∧ fX8_areShelves N x S = some (1, S) ∧ fX8_refusalOfBoth N x S = some (0, S) ∧ ∀ T : sw_St, T.1 124 = S.1 124 → fX9_rowsAre N x T = some (1, T)) := by
  unfold fX8_areShelves fX8_refusalOfBoth fX9_rowsAre
  simp only [e8_isShelf, e9_isShelf, sv_bd, sv_Bi]
  rcases sv_two x with ⟨a, c, ha, hc, e, h0, e1, e2⟩ | h0 | ⟨h0, h1 | ⟨h1, h2⟩⟩
  · have k1 : (0 : Int32) ≤ nI a ∧ nI a ≤ 5 := (sv_rgI (m := 5) (by omega) (by decide)).mpr (by omega)
    have k2 : (0 : Int32) ≤ nI c ∧ nI c ≤ 5 := (sv_rgI (m := 5) (by omega) (by decide)).mpr (by omega)
    simp only [e2]
    simp only [e1, if_neg h0, if_pos k1, if_pos k2]
    rw [sv_gi ha (by decide), nI_clamp (by omega)]
    rcases e_by N hb ha (h a ha) with ⟨r, r0, r1, r2, c1, c2⟩ | ⟨sz, hz, c1, c2⟩
    · right; left
      refine ⟨r, r0, r1, r2, rfl, by rw [c1, sv_bd, if_neg r0], fun T t => by rw [c2 T t, sv_bd, if_neg r1, c2 T t, sv_bd]⟩
    · rcases e_by N hb hc (h c hc) with ⟨r, r0, r1, r2, d1, d2⟩ | ⟨sz2, hz2, d1, d2⟩
      · right; left
        refine ⟨r, r0, r1, r2, rfl, ?_, fun T t => ?_⟩
        · rw [c1, sv_bd, if_pos rfl, sv_gi hc (by decide), nI_clamp (by omega), d1, sv_bd]
        · rw [c2 T t, sv_bd, if_pos (show (1 : Int32) ≥ 0 by decide), d2 T t, sv_bd]
      · right; right
        refine ⟨a, c, sz, sz2, ha, hc, rfl, rfl, hz, hz2, rfl, ?_, fun T t => ?_⟩
        · rw [c1, sv_bd, if_pos rfl, sv_gi hc (by decide), nI_clamp (by omega), d1, sv_bd]
        · rw [c2 T t, sv_bd, if_pos (show (1 : Int32) ≥ 0 by decide), d2 T t, sv_bd]
  · left
    simp only [if_pos h0]
    refine ⟨rfl, ?_⟩
    intros
    first | trivial | rfl
  · left
    simp only [if_neg h0, if_neg h1]
    refine ⟨rfl, ?_⟩
    intros
    first | trivial | rfl
  · left
    simp only [if_neg h0, if_pos h1, if_neg h2]
    refine ⟨rfl, ?_⟩
    intros
    first | trivial | rfl
def sv_f2 (p : Nat → Prop) (n : Nat) (r : Int32) : Prop := (∃ k, k < n ∧ p k ∧ (∀ j, j < k → ¬ p j) ∧ r = nI k) ∨ ((∀ j, j < n → ¬ p j) ∧ r = -2)
theorem sv_f2_u {p : Nat → Prop} {h : Nat} {r q : Int32} (a : sv_f2 p h r) (b : sv_f2 p h q) : r = q := by
  rcases a with ⟨k, k1, k2, k3, rfl⟩ | ⟨k1, rfl⟩
  · rcases b with ⟨m, m1, m2, m3, rfl⟩ | ⟨m1, rfl⟩
    · rcases Nat.lt_trichotomy k m with z | z | z
      · exact absurd k2 (m3 k z)
      · rw [z]
      · exact absurd m2 (k3 m z)
    · exact absurd k2 (m1 k k1)
  · rcases b with ⟨m, m1, m2, m3, rfl⟩ | ⟨m1, rfl⟩
    · exact absurd m2 (k1 m m1)
    · rfl
theorem e7_firstWrong (N : Nat) (hN : 200 ≤ N) {S0 S : sw_St} {A : sv_A} {L : sv_L} (g0 : sv_ag sv_tq S0 S) (h : sv_nc S 29 A) (hA : sv_wf A) (hL : sv_lc L S0) {o2 o3 s sz sz3 : Nat} (ho2 : 93 ≤ o2) (ho3 : 93 ≤ o3) (hsz : sz ≤ 60) (hz : S0.1 o2 2 = nI sz) (hsz3 : sz3 ≤ 60) (hz3 : S0.1 o3 2 = nI sz3) (hs : s < A.1) : ∃ i r V, fX7_firstWrong N 29 o2 o3 (nI s) S = some (r, V) ∧ sv_hh (fun j => (S0.2 (o2 + 1) j).toInt32) sz i ∧ sv_f2 (fun k => i < k ∨ ¬ (S0.2 (o3 + 1) k).toInt32 = nI ((sv_rd L A (fun j => (S0.2 (o2 + 1) j).toInt32) k).2.1 3 s)) sz3 r ∧ sv_ag sv_tq S0 V := by
  unfold fX7_firstWrong
  have hn := hA.1
  generalize hE : (fun j => (S0.2 (o2 + 1) j).toInt32) = E
  obtain ⟨i, hi, q⟩ := e5_hours N (by omega) (S := S) (o := o2) (sz := sz) hsz (by rw [(g0 o2 (by unfold sv_tq; omega)).1]; exact hz)
  rw [(g0 (o2 + 1) (by unfold sv_tq; omega)).2, hE] at q
  have q' := q
  obtain ⟨q1, q2, -⟩ := q'
  rw [hi, sv_bd]
  have md : ∀ (W : sw_St) (B : sv_A), sv_nc W 29 B → W.1 (29 + 4) s = nI (B.2.1 3 s) := fun W B hW => hW.2.1 3 s (by decide) (by omega)
  refine sv_fr1 (Q := fun t => ∃ i r V, t = some (r, V) ∧ sv_hh E sz i ∧ sv_f2 (fun k => i < k ∨ ¬ (S0.2 (o3 + 1) k).toInt32 = nI ((sv_rd L A E k).2.1 3 s)) sz3 r ∧ sv_ag sv_tq S0 V) (fun k x W => x = nI k ∧ k ≤ sz3 ∧ (k ≤ i + 1) ∧ sv_nc W 29 (sv_rd L A E (k - 1)) ∧ (∀ j, j < k → ¬ (i < j ∨ ¬ (S0.2 (o3 + 1) j).toInt32 = nI ((sv_rd L A E j).2.1 3 s))) ∧ sv_ag sv_tq S0 W) sz3 ?_ ?_ N _ S (by omega) ⟨rfl, by omega, by omega, h, fun j hj => absurd hj (Nat.not_lt_zero j), g0⟩
  · rintro k x W rec hk ⟨rfl, hks, hki, w2, w3, gW⟩
    have wz3 : W.1 o3 2 = nI sz3 := by rw [(gW o3 (by unfold sv_tq; omega)).1]; exact hz3
    have b3 : ∀ (X : sw_St), sv_ag sv_tq S0 X → fX5_byteAt N o3 (nI k) X = some ((S0.2 (o3 + 1) k).toInt32, X) := by
      intro X gX
      have := e5_byteAt N hsz3 (show X.1 o3 2 = nI sz3 by rw [(gX o3 (by unfold sv_tq; omega)).1]; exact hz3) hk
      rw [(gX (o3 + 1) (by unfold sv_tq; omega)).2] at this
      exact this
    rw [wz3, if_neg (nI_ge hk (by omega))]
    by_cases hik : k ≤ i
    · rw [if_pos (nI_le hik (by omega))]
      -- the night at hour k, then the byte
      have fin : ∀ X : sw_St, sv_nc X 29 (sv_rd L A E k) → sv_ag sv_tq S0 X → ∀ t, t = (if (S0.2 (o3 + 1) k).toInt32 = (X.1 (29 + 4) s) then rec (nI k + 1) X else some (nI k, X)) → (∃ b0 T, (b0 = nI (k + 1) ∧ k + 1 ≤ sz3 ∧ k + 1 ≤ i + 1 ∧ sv_nc T 29 (sv_rd L A E (k + 1 - 1)) ∧ (∀ j, j < k + 1 → ¬ (i < j ∨ ¬ (S0.2 (o3 + 1) j).toInt32 = nI ((sv_rd L A E j).2.1 3 s))) ∧ sv_ag sv_tq S0 T) ∧ t = rec b0 T) ∨ (∃ i r V, t = some (r, V) ∧ sv_hh E sz i ∧ sv_f2 (fun k => i < k ∨ ¬ (S0.2 (o3 + 1) k).toInt32 = nI ((sv_rd L A E k).2.1 3 s)) sz3 r ∧ sv_ag sv_tq S0 V) := by
        rintro X hX gX t rfl
        rw [md X _ hX]
        by_cases hm : (S0.2 (o3 + 1) k).toInt32 = nI ((sv_rd L A E k).2.1 3 s)
        · rw [if_pos hm]
          left
          refine ⟨_, X, ⟨nI_1 k, by omega, by omega, hX, fun j hj => ?_, gX⟩, rfl⟩
          rcases Nat.lt_or_ge j k with e | e
          · exact w3 j e
          · have : j = k := by omega
            subst this
            intro z
            rcases z with z | z
            · omega
            · exact z hm
        · rw [if_neg hm]
          right
          exact ⟨i, _, X, rfl, q, Or.inl ⟨k, hk, Or.inr hm, w3, rfl⟩, gX⟩
      rcases Nat.eq_zero_or_pos k with e | e
      · subst e
        rw [if_pos (show nI 0 ≤ 0 by decide), b3 W gW, sv_bd, sv_gi (by omega) (by decide), nI_clamp (by omega)]
        exact fin W w2 gW _ rfl
      · rw [if_neg (nI_nle e (by omega))]
        obtain ⟨k', rfl⟩ : ∃ k', k = k' + 1 := ⟨k - 1, by omega⟩
        rw [nI_pred]
        rw [← hE] at w2
        obtain ⟨U, b0, hU, u1, u2⟩ := e7_next N hN hL hA ho2 hsz hz (show k' < sz by omega) w2 gW
        rw [hE] at u1
        rw [b0, sv_bd, hU, sv_bd, b3 U u2, sv_bd, sv_gi (by omega) (by decide), nI_clamp (by omega)]
        exact fin U u1 u2 _ rfl
    · rw [if_neg (fun z => hik ((nI_leI (by omega) (by omega)).mp z))]
      right
      exact ⟨i, _, W, rfl, q, Or.inl ⟨k, hk, Or.inl (by omega), w3, rfl⟩, gW⟩
  · rintro x W rec ⟨rfl, hks, hki, w2, w3, gW⟩
    have wz3 : W.1 o3 2 = nI sz3 := by rw [(gW o3 (by unfold sv_tq; omega)).1]; exact hz3
    rw [wz3, if_pos (Int32.le_refl _)]
    exact ⟨i, _, W, rfl, q, Or.inr ⟨w3, rfl⟩, gW⟩
theorem sv_lg0 (x y : Int32) : lg_cmp x.toInt64 y.toInt64 = 0 ↔ x = y := by
  refine (lg_cmp_eq _ _).trans ⟨fun e => ?_, fun e => by rw [e]⟩
  have := congrArg Int64.toInt32 e
  rw [sv_6432, sv_6432] at this
  exact this
