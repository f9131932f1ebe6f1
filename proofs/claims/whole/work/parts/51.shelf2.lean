/-! row, put, element -/
theorem e5_holdRow (N : Nat) (hN : 100 ≤ N) (S : sw_St) (o : Nat) (so sz : Int32) : ∃ V, fX5_holdRow N o so sz S = some ((), V) ∧ V.1 o 4 = 2 ∧ V.1 o 1 = so ∧ V.1 o 2 = sz ∧ (∀ i, i < 60 → V.2 (o + 1) i = 0) ∧ sv_ag (fun a => a = o ∨ a = o + 1) S V := by
  unfold fX5_holdRow
  rw [sv_ls, sv_ls, sv_ls]
  generalize hT : sw_si (sw_si (sw_si S o 4 2) o 1 so) o 2 sz = T
  have gT : sv_ag (fun a => a = o ∨ a = o + 1) S T := by
    rw [← hT]
    exact sv_ag_tr (sv_ag_si S o 4 _ (Or.inl rfl)) (sv_ag_tr (sv_ag_si _ o 1 _ (Or.inl rfl)) (sv_ag_si _ o 2 _ (Or.inl rfl)))
  have t4 : T.1 o 4 = 2 := by rw [← hT]; simp [sv_si]
  have t1 : T.1 o 1 = so := by rw [← hT]; simp [sv_si]
  have t2 : T.1 o 2 = sz := by rw [← hT]; simp [sv_si]
  refine sv_fr1 (Q := fun t => ∃ V, t = some ((), V) ∧ V.1 o 4 = 2 ∧ V.1 o 1 = so ∧ V.1 o 2 = sz ∧ (∀ i, i < 60 → V.2 (o + 1) i = 0) ∧ sv_ag (fun a => a = o ∨ a = o + 1) S V) (fun k x W => x = nI k ∧ W.1 = T.1 ∧ (∀ i, i < k → W.2 (o + 1) i = 0) ∧ sv_ag (fun a => a = o + 1) T W) 60 ?_ ?_ N _ T (by omega) ⟨rfl, rfl, fun i hi => absurd hi (Nat.not_lt_zero i), sv_ag_rf⟩
  · rintro k x W rec hk ⟨rfl, w1, w2, gW⟩
    left
    rw [if_neg (show ¬ nI k ≥ (60 : Int32) from nI_ge hk (by decide)), sv_gi hk (by decide), nI_clamp (by omega), sv_ls]
    refine ⟨_, sw_sj W (o + 1) k 0, ⟨nI_1 k, w1, fun i hi => ?_, sv_ag_tr gW (sv_ag_sj (P := fun a => a = o + 1) W (o + 1) k _ rfl)⟩, rfl⟩
    rw [sv_sj]
    by_cases hik : i = k
    · rw [if_pos ⟨rfl, hik⟩]
    · rw [if_neg (by omega)]; exact w2 i (by omega)
  · rintro x W rec ⟨rfl, w1, w2, gW⟩
    rw [if_pos (show nI 60 ≥ (60 : Int32) from Int32.le_refl _)]
    exact ⟨W, rfl, by rw [w1]; exact t4, by rw [w1]; exact t1, by rw [w1]; exact t2, w2, sv_ag_tr gT (sv_ag_wk gW (fun a ha => Or.inr ha))⟩
theorem e9_row1 (N : Nat) (hN : 100 ≤ N) (V : sw_St) {d so sz : Nat} (hd : d ≤ 5) (hso : so ≤ 4) (hsz : sz ≤ 60) (hx : (0 : Int32) ≤ nI d ∧ nI d ≤ 5) (hy : (0 : Int32) ≤ nI so ∧ nI so ≤ 4) (z60 : nI sz ≤ 60) (z0 : nI sz ≥ 0) : ∃ U, fX9_row N (nI d) (nI so) (nI sz) V = some (1, U) ∧ U.1 124 d = nI (50 + so) ∧ U.1 125 d = nI sz ∧ (∀ i, i ≠ d → U.1 124 i = V.1 124 i ∧ U.1 125 i = V.1 125 i) ∧ (∀ i, i < 60 → U.2 126 (60 * d + i) = 0) ∧ (∀ i, ¬ (60 * d ≤ i ∧ i < 60 * d + 60) → U.2 126 i = V.2 126 i) ∧ sv_rr (fun a => a = 124 ∨ a = 125 ∨ a = 126) (fun _ => False) V U := by
  unfold fX9_row
  rw [e9_isShelf, sv_bd, sv_Bi, if_pos hx, show fX9_within N (nI so).toInt64 0 4 V = _ from e9_within N _ 0 4 V, sv_bd, sv_Bi, if_pos hy, if_pos z60, if_pos z0, sv_gi (by omega) (by decide), sv_ls, sv_gi (by omega) (by decide), sv_ls, sv_li, nI_clamp (by omega), show (50 : Int32) + nI so = nI (50 + so) from nI_add 50 so, show (60 : Int32) * nI d = nI (60 * d) from pk_mul 60 d, show nI (60 * d) + (60 : Int32) = nI (60 * d + 60) from nI_add _ 60, show nI (60 * d) = nI (60 * d + 0) from rfl]
  generalize hT : sw_si (sw_si V 124 d (nI (50 + so))) 125 d (nI sz) = T
  have gT : sv_rr (fun a => a = 124 ∨ a = 125 ∨ a = 126) (fun _ => False) V T := by
    rw [← hT]
    exact sv_rr_tr (sv_rr_si V 124 d _ (by decide) (by omega)) (sv_rr_si _ 125 d _ (by decide) (by omega))
  have t124 : T.1 124 d = nI (50 + so) := by rw [← hT]; simp [sv_si]
  have t125 : T.1 125 d = nI sz := by rw [← hT]; simp [sv_si]
  have tr : ∀ i, i ≠ d → T.1 124 i = V.1 124 i ∧ T.1 125 i = V.1 125 i := fun i hi => by rw [← hT]; simp [sv_si, hi]
  have tj : T.2 = V.2 := by rw [← hT]; rfl
  refine sv_fr1 (Q := fun t => ∃ U, t = some ((1 : Int32), U) ∧ U.1 124 d = nI (50 + so) ∧ U.1 125 d = nI sz ∧ (∀ i, i ≠ d → U.1 124 i = V.1 124 i ∧ U.1 125 i = V.1 125 i) ∧ (∀ i, i < 60 → U.2 126 (60 * d + i) = 0) ∧ (∀ i, ¬ (60 * d ≤ i ∧ i < 60 * d + 60) → U.2 126 i = V.2 126 i) ∧ sv_rr (fun a => a = 124 ∨ a = 125 ∨ a = 126) (fun _ => False) V U) (fun k x W => x = nI (60 * d + k) ∧ W.1 = T.1 ∧ (∀ i, W.2 126 i = if 60 * d ≤ i ∧ i < 60 * d + k then 0 else V.2 126 i) ∧ ∀ a, a ≠ 126 → W.2 a = T.2 a) 60 ?_ ?_ N _ T (by omega) ⟨rfl, rfl, fun i => by rw [if_neg (by omega), tj], fun _ _ => rfl⟩
  · rintro k x W rec hk ⟨rfl, w1, w2, w3⟩
    left
    rw [if_neg (show ¬ nI (60 * d + k) ≥ nI (60 * d + 60) from nI_ge (by omega) (by omega)), sv_gi (by omega) (by decide), nI_clamp (by omega), sv_ls]
    refine ⟨_, sw_sj W 126 (60 * d + k) 0, ⟨nI_1 _, w1, fun i => ?_, fun a ha => ?_⟩, rfl⟩
    · rw [sv_sj]
      by_cases hik : i = 60 * d + k
      · rw [if_pos ⟨rfl, hik⟩, if_pos (by omega)]
      · rw [if_neg (by omega), w2]
        simp only [show (60 * d ≤ i ∧ i < 60 * d + (k + 1)) ↔ (60 * d ≤ i ∧ i < 60 * d + k) by omega]
    · rw [← w3 a ha]; unfold sw_sj; simp [ha]
  · rintro x W rec ⟨rfl, w1, w2, w3⟩
    rw [if_pos (show nI (60 * d + 60) ≥ nI (60 * d + 60) from Int32.le_refl _)]
    refine ⟨W, rfl, by rw [w1]; exact t124, by rw [w1]; exact t125, fun i hi => by rw [w1]; exact tr i hi, fun i hi => by rw [w2, if_pos (by omega)], fun i hi => by rw [w2, if_neg hi], ⟨fun a h1 h2 => ?_, fun k hk => ?_, ?_⟩⟩
    · rw [w1, w3 a (by omega)]; exact gT.1 a h1 h2
    · rw [w1]; exact gT.2.1 k hk
    · rw [w3 105 (by decide)]; exact gT.2.2
theorem op_row (N : Nat) (hN : 5000 ≤ N) {S : sw_St} (h : sv_rel S) (x y z : Int32) : sv_ok (fX8_row N x y z) (fX9_row N x y z) S := by
  have hs := h
  obtain ⟨A, L, b, h⟩ := h
  have hr := h
  obtain ⟨h1, h2, h3, h4, h5, h6, h7, h8, h9, h10⟩ := h
  unfold sv_ok fX8_row
  simp only [e8_isShelf, e8_within, sv_bd, sv_Bi]
  rcases sv_cq 5 (by decide) (M := 5) rfl x with ⟨d, hd, rfl, hx⟩ | hx
  · rw [if_pos hx]
    rcases sv_cq 4 (by decide) (M := 4) rfl y with ⟨so, hso, rfl, hy⟩ | hy
    · rw [if_pos hy]
      by_cases z60 : z ≤ 60
      · rw [if_pos z60]
        by_cases z0 : z ≥ 0
        · obtain ⟨sz, hsz, rfl⟩ := sv_rg 60 (by decide) z0 z60
          rw [if_pos z0, sv_gi (by omega) (by decide), nI_clamp (by omega)]
          obtain ⟨V, hV, v4, v1, v2, v3, gV⟩ := e5_holdRow N (by omega) S (93 + 2 * d) (nI so) (nI sz)
          rw [hV, sv_bd]
          obtain ⟨U, hU, u124, u125, ur, u0, uo, gU⟩ := e9_row1 N (by omega) V hd hso hsz hx hy z60 z0
          have w : ∀ a, ¬ (a = 93 + 2 * d ∨ a = 93 + 2 * d + 1 ∨ a = 124 ∨ a = 125 ∨ a = 126 ∨ a = 105) → U.1 a = S.1 a ∧ U.2 a = S.2 a := fun a ha => ⟨((gU.1 a (by omega) (by omega)).1).trans (gV a (by omega)).1, ((gU.1 a (by omega) (by omega)).2).trans (gV a (by omega)).2⟩
          have gW : sv_rr (fun a => ¬ sv_P a ∨ (89 ≤ a ∧ a ≤ 104) ∨ (122 ≤ a ∧ a ≤ 126)) (fun k => sv_F k ∨ k = 32 ∨ k = 35) S U := sv_rr_tr (T := V) ⟨fun a _ ha => gV a (by omega), fun k _ => by rw [(gV 105 (by omega)).1], (gV 105 (by omega)).2⟩ (sv_rr_wk gU (fun a ha => by omega) (fun k hk => hk.elim))
          have u5 : U.1 105 = S.1 105 := by funext k; rw [gU.2.1 k (fun z => z), (gV 105 (by omega)).1]
          refine ⟨_, V, U, rfl, hU, ⟨A, L, b, sv_rl_ks hr gW (sv_rB_ks h9 (fun a ha => (w a (by omega)).1) u5) (sv_rH_of (d := d) (by omega) h10 ?_ (fun a h1 h2 h3 => w a (by omega)) (fun i hi => by rw [(ur i hi).1, (gV 124 (by omega)).1]) (fun i hi => by rw [(ur i hi).2, (gV 125 (by omega)).1]) (w 122 (by omega)).1 (fun i hi => by rw [uo i hi, (gV 126 (by omega)).2]))⟩⟩
          right; right
          have q1 : U.1 (93 + 2 * d) = V.1 (93 + 2 * d) := (gU.1 _ (by omega) (by omega)).1
          have q2 : U.2 (93 + 2 * d + 1) = V.2 (93 + 2 * d + 1) := (gU.1 _ (by omega) (by omega)).2
          refine ⟨by rw [q1]; exact v4, so, sz, hso, hsz, u124, by rw [q1]; exact v1, by rw [q1]; exact v2, u125, fun i hi => by rw [u0 i hi, q2, v3 i hi], fun _ i hi => ⟨0, by rw [q2, v3 i hi]; decide, by decide⟩⟩
        · rw [if_neg z0]
          exact ⟨_, S, S, rfl, by unfold fX9_row; rw [e9_isShelf, sv_bd, sv_Bi, if_pos hx, sv_64_0, sv_64_4, e9_within, sv_bd, sv_Bi, if_pos hy, if_pos z60, if_neg z0], hs⟩
      · rw [if_neg z60]
        exact ⟨_, S, S, rfl, by unfold fX9_row; rw [e9_isShelf, sv_bd, sv_Bi, if_pos hx, sv_64_0, sv_64_4, e9_within, sv_bd, sv_Bi, if_pos hy, if_neg z60], hs⟩
    · rw [if_neg hy]
      exact ⟨_, S, S, rfl, by unfold fX9_row; rw [e9_isShelf, sv_bd, sv_Bi, if_pos hx, sv_64_0, sv_64_4, e9_within, sv_bd, sv_Bi, if_neg hy], hs⟩
  · rw [if_neg hx]
    exact ⟨_, S, S, rfl, by unfold fX9_row; rw [e9_isShelf, sv_bd, sv_Bi, if_neg hx], hs⟩
/-! what a place of a row is -/
theorem e5_holdsNothing (N : Nat) (o : Nat) (S : sw_St) : fX5_holdsNothing N o S = some (sv_B (S.1 o 4 = 0), S) := by
  unfold fX5_holdsNothing
  by_cases h : S.1 o 4 = 0
  · rw [if_pos h, sv_B_t h]; rfl
  · rw [if_neg h, sv_B_f h]; rfl
theorem e5_holdsBlade (N : Nat) (o : Nat) (S : sw_St) : fX5_holdsBlade N o S = some (sv_B (S.1 o 4 = 1), S) := by
  unfold fX5_holdsBlade
  by_cases h : S.1 o 4 = 1
  · rw [if_pos h, sv_B_t h]; rfl
  · rw [if_neg h, sv_B_f h]; rfl
theorem e5_holdsRow (N : Nat) (o : Nat) (S : sw_St) : fX5_holdsRow N o S = some (sv_B (S.1 o 4 = 2), S) := by
  unfold fX5_holdsRow
  by_cases h : S.1 o 4 = 2
  · rw [if_pos h, sv_B_t h]; rfl
  · rw [if_neg h, sv_B_f h]; rfl
theorem sv_add64 (x y : Int32) : (x.toInt64 + y.toInt64).toInt = x.toInt + y.toInt := by
  have h1 := x.toInt_lt
  have h2 := x.le_toInt
  have h3 := y.toInt_lt
  have h4 := y.le_toInt
  rw [Int64.toInt_add, Int32.toInt_toInt64, Int32.toInt_toInt64]
  exact Int.bmod_eq_of_le (by omega) (by omega)
/-- places i .. i + n - 1 are there, of sz -/
def sv_hp (i n : Int32) (sz : Nat) : Prop := ¬ i < 0 ∧ ¬ n < 0 ∧ i.toInt + n.toInt ≤ sz
theorem e5_hasPlaces (N : Nat) (o : Nat) (i n : Int32) (S : sw_St) {sz : Nat} (hsz : sz ≤ 60) (h : S.1 o 2 = nI sz) : (sv_hp i n sz → fX5_hasPlaces N o i n S = some (1, S)) ∧ (¬ sv_hp i n sz → fX5_hasPlaces N o i n S = some (0, S)) := by
  unfold fX5_hasPlaces sv_hp
  have key : (lg_cmp (i.toInt64 + n.toInt64) (S.1 o 2).toInt64 > 0) ↔ ¬ i.toInt + n.toInt ≤ sz := by
    rw [h]
    refine (lg_cmp_gt _ _).trans ?_
    rw [Int64.lt_iff_toInt_lt, sv_add64, Int32.toInt_toInt64, nI_toInt (by omega)]
    omega
  by_cases h1 : i < 0
  · exact ⟨fun z => absurd h1 z.1, fun _ => by rw [if_pos h1]; rfl⟩
  · by_cases h2 : n < 0
    · exact ⟨fun z => absurd h2 z.2.1, fun _ => by rw [if_neg h1, if_pos h2]; rfl⟩
    · by_cases h3 : i.toInt + n.toInt ≤ sz
      · exact ⟨fun _ => by rw [if_neg h1, if_neg h2, if_neg (fun z => key.mp z h3)]; rfl, fun z => absurd ⟨h1, h2, h3⟩ z⟩
      · exact ⟨fun z => absurd z.2.2 h3, fun _ => by rw [if_neg h1, if_neg h2, if_pos (key.mpr h3)]; rfl⟩
