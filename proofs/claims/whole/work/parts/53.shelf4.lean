/-! shift -/
theorem e9_carry (N : Nat) (hN : 100 ≤ N) (V : sw_St) {p q n : Nat} (hp : p + n ≤ 360) (hq : q + n ≤ 360) (hn : n ≤ 60) : ∃ U, (sw_fx1 (fun rec1 x6_1 S3 => (if x6_1 ≥ nI n then (sw_fx1 (fun rec2 x6_2 S4 => (if x6_2 ≥ nI n then (some (nI n, S4)) else (sw_gd (sw_in x6_2 60) (sw_gd (sw_in (nI q + x6_2) 360) (sw_ls (sw_sj S4 126 (nI q + x6_2).toNatClampNeg (S4.2 127 x6_2.toNatClampNeg)) (fun S5 => (rec2 (x6_2 + (1 : Int32)) S5))))))) N (0 : Int32) S3) else (sw_gd (sw_in (nI p + x6_1) 360) (sw_gd (sw_in x6_1 60) (sw_ls (sw_sj S3 127 x6_1.toNatClampNeg (S3.2 126 (nI p + x6_1).toNatClampNeg)) (fun S6 => (rec1 (x6_1 + (1 : Int32)) S6))))))) N (0 : Int32) V) = some (nI n, U) ∧ U.1 = V.1 ∧ (∀ i, U.2 126 i = if q ≤ i ∧ i < q + n then V.2 126 (p + (i - q)) else V.2 126 i) ∧ ∀ a, a ≠ 126 → a ≠ 127 → U.2 a = V.2 a := by
  refine sv_fr1 (Q := fun t => ∃ U : sw_St, t = some (nI n, U) ∧ U.1 = V.1 ∧ (∀ i, U.2 126 i = if q ≤ i ∧ i < q + n then V.2 126 (p + (i - q)) else V.2 126 i) ∧ ∀ a, a ≠ 126 → a ≠ 127 → U.2 a = V.2 a) (fun k x W => x = nI k ∧ W.1 = V.1 ∧ (∀ i, i < k → W.2 127 i = V.2 126 (p + i)) ∧ ∀ a, a ≠ 127 → W.2 a = V.2 a) n ?_ ?_ N _ V (by omega) ⟨rfl, rfl, fun i hi => absurd hi (Nat.not_lt_zero i), fun _ _ => rfl⟩
  · rintro k x W rec hk ⟨rfl, w1, w2, w3⟩
    left
    rw [if_neg (nI_ge hk (by omega)), nI_add, sv_gi (by omega) (by decide), sv_gi (by omega) (by decide), nI_clamp (by omega), nI_clamp (by omega), sv_ls]
    refine ⟨_, sw_sj W 127 k (W.2 126 (p + k)), ⟨nI_1 _, w1, fun i hi => ?_, fun a ha => ?_⟩, rfl⟩
    · rw [sv_sj]
      by_cases hik : i = k
      · rw [if_pos ⟨rfl, hik⟩, w3 126 (by decide), hik]
      · rw [if_neg (by omega)]; exact w2 i (by omega)
    · rw [← w3 a ha]; unfold sw_sj; simp [ha]
  · rintro x W rec ⟨rfl, w1, w2, w3⟩
    rw [if_pos (Int32.le_refl _)]
    refine sv_fr1 (Q := fun t => ∃ U : sw_St, t = some (nI n, U) ∧ U.1 = V.1 ∧ (∀ i, U.2 126 i = if q ≤ i ∧ i < q + n then V.2 126 (p + (i - q)) else V.2 126 i) ∧ ∀ a, a ≠ 126 → a ≠ 127 → U.2 a = V.2 a) (fun k x X => x = nI k ∧ X.1 = V.1 ∧ (∀ i, X.2 126 i = if q ≤ i ∧ i < q + k then V.2 126 (p + (i - q)) else V.2 126 i) ∧ ∀ a, a ≠ 126 → X.2 a = W.2 a) n ?_ ?_ N _ W (by omega) ⟨rfl, w1, fun i => by rw [if_neg (by omega), w3 126 (by decide)], fun _ _ => rfl⟩
    · rintro k x X rec2 hk ⟨rfl, x1, x2, x3⟩
      left
      rw [if_neg (nI_ge hk (by omega)), nI_add, sv_gi (by omega) (by decide), sv_gi (by omega) (by decide), nI_clamp (by omega), nI_clamp (by omega), sv_ls]
      refine ⟨_, sw_sj X 126 (q + k) (X.2 127 k), ⟨nI_1 _, x1, fun i => ?_, fun a ha => ?_⟩, rfl⟩
      · rw [sv_sj]
        by_cases hik : i = q + k
        · rw [if_pos ⟨rfl, hik⟩, if_pos (by omega), x3 127 (by decide), w2 k hk, show p + (i - q) = p + k by omega]
        · rw [if_neg (by omega), x2]
          simp only [show (q ≤ i ∧ i < q + (k + 1)) ↔ (q ≤ i ∧ i < q + k) by omega]
      · rw [← x3 a ha]; unfold sw_sj; simp [ha]
    · rintro x X rec2 ⟨rfl, x1, x2, x3⟩
      rw [if_pos (Int32.le_refl _)]
      exact ⟨X, rfl, x1, x2, fun a h1 h2 => by rw [x3 a h1, w3 a h2]⟩
/-- a shelf is nothing, a blade, or a row: what class and reference hold of it -/
theorem sv_s1_cs {S : sw_St} {b d : Nat} (hb : b ≤ 50) (h : sv_s1 S b d) : (S.1 (93 + 2 * d) 4 = 0 ∧ S.1 124 d < 0) ∨ (S.1 (93 + 2 * d) 4 = 1 ∧ ∃ w : Nat, w < b ∧ S.1 124 d = nI w ∧ S.1 (93 + 2 * d) 0 = S.1 122 w ∧ S.1 124 d ≥ 0 ∧ S.1 124 d < 50) ∨ (S.1 (93 + 2 * d) 4 = 2 ∧ ∃ so sz : Nat, sv_s2 S d so sz ∧ S.1 124 d ≥ 0 ∧ ¬ S.1 124 d < 50) := by
  rcases h with ⟨k4, k5⟩ | ⟨k4, w, hw, k5, k6⟩ | ⟨k4, so, sz, hk⟩
  · exact Or.inl ⟨k4, by rw [k5]; decide⟩
  · exact Or.inr (Or.inl ⟨k4, w, hw, k5, k6, by rw [k5]; exact sv_ge0 w (by omega), by rw [k5]; exact nI_lt (b := 50) (by omega) (by decide)⟩)
  · refine Or.inr (Or.inr ⟨k4, so, sz, hk, by rw [hk.2.2.1]; exact sv_ge0 _ (by have := hk.1; omega), ?_⟩)
    rw [hk.2.2.1]
    exact nI_nlt (b := 50) (by omega) (by have := hk.1; omega)
theorem sv_hp_n {i n : Int32} {sz : Nat} (hsz : sz ≤ 60) (h : sv_hp i n sz) : ∃ a c : Nat, i = nI a ∧ n = nI c ∧ a + c ≤ sz := by
  obtain ⟨h1, h2, h3⟩ := h
  obtain ⟨a, ha, rfl⟩ := nI_of h1
  obtain ⟨c, hc, rfl⟩ := nI_of h2
  rw [nI_toInt ha, nI_toInt hc] at h3
  exact ⟨a, c, rfl, rfl, by omega⟩
theorem sv_hp_r {i n : Int32} {sz : Nat} (hsz : sz ≤ 60) (hi : ¬ i < 0) (hn : ¬ n < 0) : (i > nI sz - n) ↔ ¬ sv_hp i n sz := by
  obtain ⟨a, ha, rfl⟩ := nI_of hi
  obtain ⟨c, hc, rfl⟩ := nI_of hn
  have e : (nI sz - nI c).toInt = (sz : Int) - c := by
    rw [Int32.toInt_sub, nI_toInt (by omega), nI_toInt hc]
    exact Int.bmod_eq_of_le (by omega) (by omega)
  unfold sv_hp
  rw [gt_iff_lt, Int32.lt_iff_toInt_lt, e, nI_toInt ha, nI_toInt hc]
  constructor
  · intro z w; omega
  · intro z
    have : ¬ ((a : Int) + c ≤ sz) := fun w => z ⟨hi, hn, w⟩
    omega
theorem op_shift (N : Nat) (hN : 5000 ≤ N) {S : sw_St} (h : sv_rel S) (x y z u n : Int32) : sv_ok (fX8_shift N x y z u n) (fX9_shift N x y z u n) S := by
  have hs := h
  obtain ⟨A, L, b, h⟩ := h
  have hr := h
  obtain ⟨h1, h2, h3, h4, h5, h6, h7, h8, h9, h10⟩ := h
  unfold sv_ok fX8_shift fX9_shift
  simp only [e8_isShelf, e9_isShelf, sv_bd, sv_Bi, e5_holdsNothing, e5_holdsRow]
  rcases sv_cq 5 (by decide) (M := 5) rfl x with ⟨d, hd, rfl, hx⟩ | hx
  · rcases sv_cq 5 (by decide) (M := 5) rfl z with ⟨e, he, rfl, hz⟩ | hz
    · simp only [if_pos hx, if_pos hz, sv_gi (show d < 6 by omega) (show 6 < 2 ^ 31 by decide), sv_gi (show e < 6 by omega) (show 6 < 2 ^ 31 by decide), nI_clamp (show d < 2 ^ 31 by omega), nI_clamp (show e < 2 ^ 31 by omega)]
      have no : ∀ r : Int32, (∃ t, t = some (r, S)) → ∀ c : Prop, c → c := fun _ _ _ h => h
      rcases sv_s1_cs h9.1 (h10 d (by omega)) with ⟨k4, k5⟩ | ⟨k4, w, hw, k5, k6, k7, k8⟩ | ⟨k4, so, sz, hk, k7, k8⟩
      · rw [if_pos k4]
        exact ⟨_, S, S, rfl, by rw [if_pos k5], hs⟩
      · rw [if_neg (show ¬ S.1 (93 + 2 * d) 4 = 0 by rw [k4]; decide)]
        rcases sv_s1_cs h9.1 (h10 e (by omega)) with ⟨m4, m5⟩ | ⟨m4, v, hv, m5, m6, m7, m8⟩ | ⟨m4, so2, sz2, hm, m7, m8⟩
        · rw [if_pos m4]
          exact ⟨_, S, S, rfl, by rw [if_neg (Int32.not_lt.mpr k7), if_neg (Int32.not_le.mpr m5)], hs⟩
        · rw [if_neg (show ¬ S.1 (93 + 2 * e) 4 = 0 by rw [m4]; decide), if_neg (show ¬ S.1 (93 + 2 * d) 4 = 2 by rw [k4]; decide)]
          exact ⟨_, S, S, rfl, by rw [if_neg (Int32.not_lt.mpr k7), if_pos m7, if_pos k8], hs⟩
        · rw [if_neg (show ¬ S.1 (93 + 2 * e) 4 = 0 by rw [m4]; decide), if_neg (show ¬ S.1 (93 + 2 * d) 4 = 2 by rw [k4]; decide)]
          exact ⟨_, S, S, rfl, by rw [if_neg (Int32.not_lt.mpr k7), if_pos m7, if_pos k8], hs⟩
      · rw [if_neg (show ¬ S.1 (93 + 2 * d) 4 = 0 by rw [k4]; decide)]
        rcases sv_s1_cs h9.1 (h10 e (by omega)) with ⟨m4, m5⟩ | ⟨m4, v, hv, m5, m6, m7, m8⟩ | ⟨m4, so2, sz2, hm, m7, m8⟩
        · rw [if_pos m4]
          exact ⟨_, S, S, rfl, by rw [if_neg (Int32.not_lt.mpr k7), if_neg (Int32.not_le.mpr m5)], hs⟩
        · rw [if_neg (show ¬ S.1 (93 + 2 * e) 4 = 0 by rw [m4]; decide), if_pos k4, if_neg (show ¬ S.1 (93 + 2 * e) 4 = 2 by rw [m4]; decide)]
          exact ⟨_, S, S, rfl, by rw [if_neg (Int32.not_lt.mpr k7), if_pos m7, if_neg k8, if_neg (show ¬ S.1 124 d = S.1 124 e from fun q => k8 (by rw [q]; exact m8))], hs⟩
        · rw [if_neg (show ¬ S.1 (93 + 2 * e) 4 = 0 by rw [m4]; decide), if_pos k4, if_pos m4]
          obtain ⟨q1, q2, q3, q4, q5, q6, q7, q8⟩ := hk
          obtain ⟨r1, r2, r3, r4, r5, r6, r7, r8⟩ := hm
          have eqs : (S.1 124 d = S.1 124 e) ↔ so = so2 := by rw [q3, r3, nI_eq (by omega) (by omega)]; omega
          have eqc : (S.1 (93 + 2 * d) 1 = S.1 (93 + 2 * e) 1) ↔ so = so2 := by rw [q4, r4, nI_eq (by omega) (by omega)]
          by_cases hso : so = so2
          · rw [if_pos (eqc.mpr hso)]
            obtain ⟨p1, p2⟩ := e5_hasPlaces N (93 + 2 * d) y n S q2 q5
            obtain ⟨t1, t2⟩ := e5_hasPlaces N (93 + 2 * e) u n S r2 r5
            by_cases hy : sv_hp y n sz
            · by_cases hu : sv_hp u n sz2
              · obtain ⟨i, c, rfl, rfl, hi⟩ := sv_hp_n q2 hy
                obtain ⟨j, c', rfl, hc', hj⟩ := sv_hp_n r2 hu
                rw [nI_eq (by omega) (by omega)] at hc'
                subst hc'
                rw [p1 hy, sv_bd, if_neg sv_nz, t1 hu, sv_bd, if_neg sv_nz, sv_cg (by omega) (by omega) (by decide) (by decide), sv_gt, sv_ls, nI_clamp (by omega), nI_clamp (by omega), nI_clamp (by omega)]
                let V := sw_cj S (93 + 2 * d + 1) (93 + 2 * e + 1) i j c
                have gV : sv_ag (fun a => a = 93 + 2 * e + 1) S V := sv_ag_cj S _ _ _ _ _ rfl
                obtain ⟨U, hU, u1, u2, u3⟩ := e9_carry N (by omega) V (p := 60 * d + i) (q := 60 * e + j) (n := c) (by omega) (by omega) (by omega)
                have w : ∀ a, ¬ (a = 93 + 2 * e + 1 ∨ a = 126 ∨ a = 127) → U.1 a = S.1 a ∧ U.2 a = S.2 a := fun a ha => ⟨by rw [u1]; rfl, by rw [u3 a (by omega) (by omega)]; exact (gV a (by omega)).2⟩
                have w1 : U.1 = S.1 := u1
                have gW : sv_rr (fun a => ¬ sv_P a ∨ (89 ≤ a ∧ a ≤ 104) ∨ (122 ≤ a ∧ a ≤ 126)) (fun k => sv_F k ∨ k = 32 ∨ k = 35) S U := ⟨fun a _ ha => w a (by unfold sv_P at ha; omega), fun k _ => by rw [w1], (w 105 (by omega)).2⟩
                refine ⟨_, V, U, rfl, ?_, ⟨A, L, b, sv_rl_ks hr gW (sv_rB_ks h9 (fun a ha => by rw [w1]) (by rw [w1])) (sv_rH_of (d := e) (by omega) h10 ?_ (fun a h1 h2 h3 => w a (by omega)) (fun i hi => by rw [w1]) (fun i hi => by rw [w1]) (by rw [w1]) (fun i hi => ?_))⟩⟩
                · rw [show V.1 124 d = S.1 124 d from rfl, show V.1 124 e = S.1 124 e from rfl, show V.1 125 d = nI sz from q6, show V.1 125 e = nI sz2 from r6, if_neg (Int32.not_lt.mpr k7), if_pos m7, if_neg k8, if_pos (eqs.mpr hso), if_neg hy.2.1, if_neg hy.1, if_neg hu.1, if_neg (fun q => (sv_hp_r q2 hy.1 hy.2.1).mp q hy), if_pos (Int32.not_lt.mp (fun q => (sv_hp_r r2 hu.1 hu.2.1).mp q hu))]
                  rw [show (60 : Int32) * nI d = nI (60 * d) from pk_mul 60 d, show (60 : Int32) * nI e = nI (60 * e) from pk_mul 60 e, nI_add, nI_add]
                  exact hU
                · have key : ∀ k, k < 60 → U.2 (93 + 2 * e + 1) k = (if j ≤ k ∧ k < j + c then S.2 (93 + 2 * d + 1) (i + (k - j)) else S.2 (93 + 2 * e + 1) k) ∧ U.2 126 (60 * e + k) = (if j ≤ k ∧ k < j + c then S.2 126 (60 * d + (i + (k - j))) else S.2 126 (60 * e + k)) := by
                    intro k hk
                    constructor
                    · rw [u3 _ (by omega) (by omega)]
                      show (sw_cj S (93 + 2 * d + 1) (93 + 2 * e + 1) i j c).2 _ k = _
                      rw [sv_cj]
                      by_cases hq : j ≤ k ∧ k < j + c
                      · rw [if_pos ⟨rfl, hq⟩, if_pos hq]
                      · rw [if_neg (fun q => hq q.2), if_neg hq]
                    · rw [u2, (gV 126 (by omega)).2]
                      by_cases hq : j ≤ k ∧ k < j + c
                      · rw [if_pos (by omega), if_pos hq, show 60 * d + i + (60 * e + k - (60 * e + j)) = 60 * d + (i + (k - j)) by omega]
                      · rw [if_neg (by omega), if_neg hq]
                  right; right
                  rw [w1]
                  refine ⟨m4, so2, sz2, r1, r2, r3, r4, r5, r6, fun k hk => ?_, fun h0 k hk => ?_⟩
                  · rw [(key k hk).1, (key k hk).2]
                    by_cases hq : j ≤ k ∧ k < j + c
                    · rw [if_pos hq, if_pos hq, q7 _ (by omega)]
                    · rw [if_neg hq, if_neg hq, r7 k hk]
                  · rw [(key k hk).1]
                    by_cases hq : j ≤ k ∧ k < j + c
                    · rw [if_pos hq]; exact q8 (by omega) _ (by omega)
                    · rw [if_neg hq]; exact r8 h0 k hk
                · rw [u2, if_neg (by omega), (gV 126 (by omega)).2]
              · rw [p1 hy, sv_bd, if_neg sv_nz, t2 hu, sv_bd, if_pos rfl]
                refine ⟨_, S, S, rfl, ?_, hs⟩
                rw [q6, r6, if_neg (Int32.not_lt.mpr k7), if_pos m7, if_neg k8, if_pos (eqs.mpr hso), if_neg hy.2.1, if_neg hy.1, if_neg (fun q => (sv_hp_r q2 hy.1 hy.2.1).mp q hy)]
                by_cases hu0 : u < 0
                · rw [if_pos hu0]
                · rw [if_neg hu0, if_neg (Int32.not_le.mpr ((sv_hp_r r2 hu0 hy.2.1).mpr hu))]
            · rw [p2 hy, sv_bd, if_pos rfl]
              refine ⟨_, S, S, rfl, ?_, hs⟩
              rw [q6, if_neg (Int32.not_lt.mpr k7), if_pos m7, if_neg k8, if_pos (eqs.mpr hso)]
              by_cases hn0 : n < 0
              · rw [if_pos hn0]
              · rw [if_neg hn0]
                by_cases hy0 : y < 0
                · rw [if_pos hy0]
                · rw [if_neg hy0, if_pos ((sv_hp_r q2 hy0 hn0).mpr hy)]
                  by_cases hu0 : u < 0
                  · rw [if_pos hu0]
                  · rw [if_neg hu0]
          · rw [if_neg (fun q => hso (eqc.mp q))]
            exact ⟨_, S, S, rfl, by rw [if_neg (Int32.not_lt.mpr k7), if_pos m7, if_neg k8, if_neg (fun q => hso (eqs.mp q))], hs⟩
    · rw [if_pos hx, if_neg hz]
      exact ⟨_, S, S, rfl, by rw [if_pos hx, if_neg hz], hs⟩
  · rw [if_neg hx]
    exact ⟨_, S, S, rfl, by rw [if_neg hx], hs⟩
