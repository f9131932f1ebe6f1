/-! swords, in the reference -/
def sv_swl (N : Nat) (p1 p2 p3 : Int32) : (Int32 → Int32 → sw_St → Option (Int32 × sw_St)) → Int32 → Int32 → sw_St → Option (Int32 × sw_St) := (fun rec1 x4_1 x5_1 S4 => (if x5_1 = 0 then (some (x4_1, S4)) else (if x4_1 ≥ p3 then (some (x4_1, S4)) else (sw_gd (sw_in p1 6) (sw_jn1 (fun y2 S5 => (sw_li ((((60 : Int32) * p1) + p2) + ((3 : Int32) * x4_1)) (fun x6_1 => (sw_jn1 (fun y3 S6 => (if y3 = 0 then (rec1 x4_1 y3 S6) else (sw_gd (sw_in x6_1 360) (sw_gd (sw_in (x6_1 + (1 : Int32)) 360) (sw_gd (sw_in (x6_1 + (2 : Int32)) 360) (sw_bd (fX9_adds N ((S6.2 126 x6_1.toNatClampNeg).toInt32) ((S6.2 126 (x6_1 + (1 : Int32)).toNatClampNeg).toInt32) ((S6.2 126 (x6_1 + (2 : Int32)).toNatClampNeg).toInt32) S6) (fun _ S7 => (rec1 (x4_1 + (1 : Int32)) y3 S7)))))))) (fun k3 => (if y2 = 0 then (k3 (0 : Int32) S5) else (sw_gd (sw_in x6_1 360) (sw_gd (sw_in (x6_1 + (1 : Int32)) 360) (sw_gd (sw_in (x6_1 + (2 : Int32)) 360) (sw_bd (fX9_mayCome N (S5.2 126 x6_1.toNatClampNeg) (S5.2 126 (x6_1 + (1 : Int32)).toNatClampNeg) (S5.2 126 (x6_1 + (2 : Int32)).toNatClampNeg) S5) (fun r4 S8 => (if r4 = 0 then (k3 (0 : Int32) S8) else (k3 (1 : Int32) S8))))))))))))) (fun k2 => (if p2 > (((S4.1 125 p1.toNatClampNeg) - (3 : Int32)) - ((3 : Int32) * x4_1)) then (k2 (0 : Int32) S4) else (if (S4.1 105 6) ≥ (10 : Int32) then (k2 (0 : Int32) S4) else (k2 (1 : Int32) S4)))))))))
theorem e9_swords_eq (N : Nat) (p1 p2 p3 : Int32) (S : sw_St) : fX9_swords N p1 p2 p3 S = (sw_bd (fX9_isShelf N p1 S) (fun r1 S1 => (if r1 = 0 then (some ((-1 : Int32), S1)) else (sw_bd (fX9_within N p3.toInt64 (1 : Int64) (10 : Int64) S1) (fun r2 S2 => (if r2 = 0 then (some ((-1 : Int32), S2)) else (sw_gd (sw_in p1 6) (if (S2.1 124 p1.toNatClampNeg) < 0 then (sw_gd (sw_in p1 6) (sw_jn1 (fun y1 S3 => (sw_fx2 (sv_swl N p1 p2 p3) N (0 : Int32) y1 S3)) (fun k1 => (if (S2.1 124 p1.toNatClampNeg) = (50 : Int32) then (if p2 < 0 then (k1 (0 : Int32) S2) else (k1 (1 : Int32) S2)) else (k1 (0 : Int32) S2))))) else (sw_gd (sw_in p1 6) (if (S2.1 124 p1.toNatClampNeg) = (50 : Int32) then (sw_gd (sw_in p1 6) (sw_jn1 (fun y4 S9 => (sw_fx2 (sv_swl N p1 p2 p3) N (0 : Int32) y4 S9)) (fun k4 => (if (S2.1 124 p1.toNatClampNeg) = (50 : Int32) then (if p2 < 0 then (k4 (0 : Int32) S2) else (k4 (1 : Int32) S2)) else (k4 (0 : Int32) S2))))) else (some ((-12 : Int32), S2)))))))))))) := rfl
theorem sv_swl_0 (N m : Nat) (p1 p2 p3 x : Int32) (S : sw_St) : sw_fx2 (sv_swl N p1 p2 p3) (m + 1) x 0 S = some (x, S) := rfl
theorem sv_swl_1 (N : Nat) (rec : Int32 → Int32 → sw_St → Option (Int32 × sw_St)) {S : sw_St} {d n sz : Nat} {y : Int32} (hd : d < 6) (hn : 1 ≤ n) (hn2 : n ≤ 10) (q6 : S.1 125 d = nI sz) (hcm : y > (nI sz - (3 : Int32)) - (3 : Int32) * 0) : sv_swl N (nI d) y (nI n) rec 0 1 S = rec 0 0 S := by
  unfold sv_swl
  rw [if_neg sv_nz, if_neg (show ¬ (0 : Int32) ≥ nI n from nI_ge (a := 0) (by omega) (by omega)), sv_gi (by omega) (by decide), nI_clamp (by omega), sv_jn1, q6, if_pos hcm]
  dsimp only
  rw [sv_li, sv_jn1, if_pos rfl]
  dsimp only
  rw [if_pos rfl]
theorem e9_swl (N : Nat) (hN : 100 ≤ N) {S : sw_St} {A : sv_A} (h : sv_mr S A) (hA : sv_wf A) {E : Nat → Int32} {d p n sz : Nat} (hd : d < 6) (hsz : sz ≤ 60) (hz : S.1 125 d = nI sz) (hE : ∀ j, j < 60 → S.2 126 (60 * d + j) = (E j).toInt64) (hp : p < 1000) (hn : n ≤ 10) : ∃ i V, sw_fx2 (sv_swl N (nI d) (nI p) (nI n)) N 0 1 S = some (nI i, V) ∧ sv_sf A E p n sz i ∧ sv_mr V (sv_sq A E p i) ∧ sv_rr (fun a => a = 106) (fun k => k = 6) S V := by
  refine sv_fr2 (Q := fun t => ∃ i V, t = some (nI i, V) ∧ sv_sf A E p n sz i ∧ sv_mr V (sv_sq A E p i) ∧ sv_rr (fun a => a = 106) (fun k => k = 6) S V) (fun k x y W => (y = 1 ∧ x = nI k ∧ k ≤ n ∧ (∀ j, j < k → sv_sk A E p n sz j) ∧ sv_mr W (sv_sq A E p k) ∧ sv_rr (fun a => a = 106) (fun k => k = 6) S W) ∨ (y = 0 ∧ ∃ i, x = nI i ∧ sv_sf A E p n sz i ∧ sv_mr W (sv_sq A E p i) ∧ sv_rr (fun a => a = 106) (fun k => k = 6) S W)) (n + 1) ?_ ?_ N _ _ S (by omega) (Or.inl ⟨rfl, rfl, by omega, fun j hj => absurd hj (Nat.not_lt_zero j), h, sv_rr_rf⟩)
  · rintro k x y W rec hk (⟨rfl, rfl, hkn, w1, w2, gW⟩ | ⟨rfl, i, rfl, w1, w2, gW⟩)
    · unfold sv_swl
      rw [if_neg sv_nz]
      rcases Nat.lt_or_ge k n with hk | hk
      · rw [if_neg (nI_ge hk (by omega)), sv_gi (by omega) (by decide), nI_clamp (by omega)]
        have hw := sv_sq_wf hA k w1
        have wz : W.1 125 d = nI sz := by rw [(gW.1 125 (by decide) (by decide)).1]; exact hz
        have wE : ∀ j, j < 60 → W.2 126 (60 * d + j) = (E j).toInt64 := fun j hj => by rw [(gW.1 126 (by decide) (by decide)).2, hE j hj]
        have e3 : (3 : Int32) * nI k = nI (3 * k) := pk_mul 3 k
        have cmp : (nI p > (nI sz - (3 : Int32)) - nI (3 * k)) ↔ ¬ p + 3 * k + 3 ≤ sz := by
          have e : ((nI sz - (3 : Int32)) - nI (3 * k)).toInt = (sz : Int) - 3 - 3 * k := by
            rw [Int32.toInt_sub, show (nI sz - (3 : Int32)).toInt = (sz : Int) - (3 : Nat) from pk_sub_toInt (b := 3) (by omega) (by decide), nI_toInt (by omega)]
            rw [show ((sz : Int) - (3 : Nat) - ((3 * k : Nat) : Int)) = (sz : Int) - 3 - 3 * k by omega]
            exact Int.bmod_eq_of_le (by omega) (by omega)
          rw [gt_iff_lt, Int32.lt_iff_toInt_lt, e, nI_toInt (by omega)]
          omega
        have eix : (((60 : Int32) * nI d) + nI p) + nI (3 * k) = nI (60 * d + p + 3 * k) := by rw [show (60 : Int32) * nI d = nI (60 * d) from pk_mul 60 d, nI_add, nI_add]
        rw [e3, wz, w2.1]
        by_cases hpl : p + 3 * k + 3 ≤ sz
        · by_cases h10 : (sv_sq A E p k).1 < 10
          · rw [sv_jn1, if_neg (fun z => cmp.mp z hpl), if_neg (show ¬ nI _ ≥ (10 : Int32) from nI_ge (b := 10) h10 (by decide))]
            dsimp only
            rw [eix, sv_li, sv_jn1, if_neg sv_nz, nI_1, show nI (60 * d + p + 3 * k) + (2 : Int32) = nI (60 * d + p + 3 * k + 2) from nI_add _ 2]
            have c0 : (nI (60 * d + p + 3 * k)).toNatClampNeg = 60 * d + (p + 3 * k) := by rw [nI_clamp (by omega)]; omega
            have c1 : (nI (60 * d + p + 3 * k + 1)).toNatClampNeg = 60 * d + (p + 3 * k + 1) := by rw [nI_clamp (by omega)]; omega
            have c2 : (nI (60 * d + p + 3 * k + 2)).toNatClampNeg = 60 * d + (p + 3 * k + 2) := by rw [nI_clamp (by omega)]; omega
            rw [c0, c1, c2]
            simp only [sv_gi (show 60 * d + p + 3 * k < 360 by omega) (show 360 < 2 ^ 31 by decide), sv_gi (show 60 * d + p + 3 * k + 1 < 360 by omega) (show 360 < 2 ^ 31 by decide), sv_gi (show 60 * d + p + 3 * k + 2 < 360 by omega) (show 360 < 2 ^ 31 by decide)]
            rw [wE _ (show p + 3 * k < 60 by omega), wE _ (show p + 3 * k + 1 < 60 by omega), wE _ (show p + 3 * k + 2 < 60 by omega), e9_mayCome N (by omega) w2 hw, sv_bd, sv_Bi]
            by_cases hm : sv_mc (sv_sq A E p k) (E (p + 3 * k)) (E (p + 3 * k + 1)) (E (p + 3 * k + 2))
            · rw [if_pos hm, if_neg sv_nz]
              left
              obtain ⟨c, e, z, hc, he, hz', e1, e2, e3, hf⟩ := sv_mc_n hw hm
              rw [wE _ (show p + 3 * k < 60 by omega), wE _ (show p + 3 * k + 1 < 60 by omega), wE _ (show p + 3 * k + 2 < 60 by omega), sv_6432, sv_6432, sv_6432]
              obtain ⟨V, hV, v2, gV⟩ := e9_adds N w2 hw h10 c e z
              refine ⟨nI (k + 1), 1, V, Or.inl ⟨rfl, rfl, by omega, fun j hj => ?_, ?_, sv_rr_tr gW gV⟩, ?_⟩
              · rcases Nat.lt_or_ge j k with q | q
                · exact w1 j q
                · have : j = k := by omega
                  subst this
                  exact ⟨hk, h10, hpl, hm⟩
              · show sv_mr V (sv_ad _ _ _ _)
                rw [e1, e2, e3, nI_clamp (by omega), nI_clamp (by omega), nI_clamp (by omega)]
                exact v2
              · rw [e1, e2, e3, hV, sv_bd, nI_1]
            · rw [if_neg hm, if_pos trivial]
              left
              exact ⟨nI k, 0, W, Or.inr ⟨rfl, k, rfl, ⟨w1, fun z => hm z.2.2.2⟩, w2, gW⟩, rfl⟩
          · rw [sv_jn1, if_neg (fun z => cmp.mp z hpl), if_pos (show nI _ ≥ (10 : Int32) from nI_le (a := 10) (by omega) (by have := hw.1; omega))]
            dsimp only
            rw [sv_li, sv_jn1, if_pos rfl]
            dsimp only
            rw [if_pos rfl]
            left
            exact ⟨nI k, 0, W, Or.inr ⟨rfl, k, rfl, ⟨w1, fun z => h10 z.2.1⟩, w2, gW⟩, rfl⟩
        · rw [sv_jn1, if_pos (cmp.mpr hpl)]
          dsimp only
          rw [sv_li, sv_jn1, if_pos rfl]
          dsimp only
          rw [if_pos rfl]
          left
          exact ⟨nI k, 0, W, Or.inr ⟨rfl, k, rfl, ⟨w1, fun z => hpl z.2.2.1⟩, w2, gW⟩, rfl⟩
      · have : k = n := by omega
        subst this
        rw [if_pos (Int32.le_refl _)]
        right
        exact ⟨k, W, rfl, ⟨w1, fun z => absurd z.1 (Nat.lt_irrefl k)⟩, w2, gW⟩
    · right
      exact ⟨i, W, rfl, w1, w2, gW⟩
  · rintro x y W rec (⟨rfl, rfl, hkn, -⟩ | ⟨rfl, i, rfl, w1, w2, gW⟩)
    · omega
    · exact ⟨i, W, rfl, w1, w2, gW⟩
theorem op_swords (N : Nat) (hN : 5000 ≤ N) {S : sw_St} (h : sv_rel S) (x y z : Int32) : sv_ok (fX8_swords N x y z) (fX9_swords N x y z) S := by
  have hs := h
  obtain ⟨A, L, b, h⟩ := h
  have hr := h
  obtain ⟨h1, h2, h3, h4, h5, h6, h7, h8, h9, h10⟩ := h
  obtain ⟨m, rfl⟩ : ∃ m, N = m + 9 := ⟨N - 9, by omega⟩
  unfold sv_ok fX8_swords
  simp only [e9_swords_eq]
  rw [sv_64_1, sv_64_10]
  simp only [e8_isShelf, e9_isShelf, e8_within, e9_within, sv_bd, sv_Bi, e5_holdsNothing]
  by_cases hx' : 0 ≤ x ∧ x ≤ 5
  · obtain ⟨d, hd, rfl⟩ := sv_rg 5 (by decide) hx'.1 hx'.2
    have hx := hx'
    by_cases hz : 1 ≤ z ∧ z ≤ 10
    · obtain ⟨n, hn, rfl⟩ := sv_rg 10 (by decide) (Int32.le_trans (by decide) hz.1) hz.2
      have hn1 : 1 ≤ n := (nI_leI (a := 1) (by decide) (by omega)).mp hz.1
      simp only [if_pos hx, if_pos hz, sv_gi (show d < 6 by omega) (show 6 < 2 ^ 31 by decide), nI_clamp (show d < 2 ^ 31 by omega)]
      rcases sv_s1_cs h9.1 (h10 d (by omega)) with ⟨k4, k5⟩ | ⟨k4, w, hw, k5, k6, k7, k8⟩ | ⟨k4, so, sz, hk, k7, k8⟩
      · rw [if_pos k4]
        refine ⟨_, S, S, rfl, ?_, hs⟩
        rw [if_pos k5, sv_jn1, if_neg (show ¬ S.1 124 d = (50 : Int32) from fun e => absurd k5 (by rw [e]; decide))]
        exact sv_swl_0 (m + 9) (m + 8) (nI d) y (nI n) 0 S
      · rw [if_neg (show ¬ S.1 (93 + 2 * d) 4 = 0 by rw [k4]; decide)]
        unfold fX5_holdsBytes
        rw [if_neg (show ¬ S.1 (93 + 2 * d) 4 = 2 by rw [k4]; decide)]
        refine ⟨_, S, S, rfl, ?_, hs⟩
        rw [if_neg (Int32.not_lt.mpr k7), if_neg (show ¬ S.1 124 d = (50 : Int32) from fun e => absurd k8 (by rw [e]; decide))]
      · rw [if_neg (show ¬ S.1 (93 + 2 * d) 4 = 0 by rw [k4]; decide)]
        obtain ⟨q1, q2, q3, q4, q5, q6, q7, q8⟩ := hk
        unfold fX5_holdsBytes
        rw [if_pos k4, q4]
        by_cases h0 : so = 0
        · subst h0
          rw [if_pos (show nI 0 = 0 from rfl), sv_b1, sv_bd, if_neg sv_nz]
          have e50 : S.1 124 d = (50 : Int32) := q3
          by_cases hp : sv_hp y 3 sz
          · obtain ⟨p, c, rfl, hc3, hpc⟩ := sv_hp_n q2 hp
            have hc3 : c = 3 := by
              rw [show (3 : Int32) = nI 3 from rfl] at hc3
              have hcs : c < 2 ^ 31 := by omega
              exact ((nI_eq (by decide) hcs).mp hc3).symm
            subst hc3
            obtain ⟨i, V, hV, v1, v2, gV⟩ := e4_addFrom (m + 9) (by omega) h2 h1 (o := 93 + 2 * d) (p := p) (n := n) (by omega) q2 q5 (by omega) hn
            have v3 : sv_mr V A := sv_mr_eq h3 (gV 106 (by omega)).1 (by rw [(gV 105 (by omega)).1])
            obtain ⟨i', U, hU, u1, u2, gU⟩ := e9_swl (m + 9) (by omega) v3 h1 (E := fun j => (S.2 (93 + 2 * d + 1) j).toInt32) (d := d) (p := p) (n := n) (sz := sz) (by omega) q2 (by rw [(gV 125 (by omega)).1]; exact q6) (fun j hj => by
              obtain ⟨xx, e1, -⟩ := q8 rfl j hj
              rw [(gV 126 (by omega)).2, q7 j hj, e1, sv_6432]) (by omega) hn
            have := sv_sf_u v1 u1
            subst this
            refine ⟨nI i, V, U, by rw [hV, sv_bd], ?_, ⟨_, L, b, sv_rl_kp hr (sv_kp_tr (sv_kp_ag gV (fun a ha => Or.inr (Or.inl ha)) (by omega)) (sv_kp_rr gU (fun a ha => Or.inr (Or.inr ha)) (fun k hk => Or.inr hk))) (sv_sq_wf h1 i v1.1) (sv_nc_eq v2 (fun k hk => (gU.1 _ (by omega) (by omega)).1)) u2 (by rw [sv_sq_n]; omega)⟩⟩
            rw [show V.1 124 d = (50 : Int32) by rw [(gV 124 (by omega)).1]; exact e50, if_neg (by decide), if_pos rfl, sv_jn1, if_pos rfl, if_neg hp.1]
            exact hU
          · rw [show nI n = nI (n - 1 + 1) by rw [show n - 1 + 1 = n by omega], e4_addFrom0 m q2 q5 hp, sv_bd, show n - 1 + 1 = n by omega]
            refine ⟨_, S, S, rfl, ?_, hs⟩
            rw [e50, if_neg (by decide), if_pos rfl, sv_jn1, if_pos rfl]
            by_cases hy : y < 0
            · rw [if_pos hy]
              exact sv_swl_0 (m + 9) (m + 8) (nI d) y (nI n) 0 S
            · rw [if_neg hy]
              have hcm : y > (nI sz - (3 : Int32)) - (3 : Int32) * 0 := by
                rw [show (nI sz - (3 : Int32)) - (3 : Int32) * 0 = nI sz - 3 from Int32.sub_zero _]
                exact (sv_hp_r q2 hy (by decide)).mpr hp
              refine (sv_swl_1 (m + 9) _ (show d < 6 by omega) (show 1 ≤ n by omega) (by omega) q6 hcm).trans ?_
              exact sv_swl_0 (m + 9) (m + 7) (nI d) y (nI n) 0 S
        · rw [if_neg (show ¬ nI so = 0 from nI_ne0 (by omega) (by omega)), sv_b0, sv_bd, if_pos rfl]
          refine ⟨_, S, S, rfl, ?_, hs⟩
          rw [if_neg (Int32.not_lt.mpr k7), if_neg (show ¬ S.1 124 d = (50 : Int32) by rw [q3, show (50 : Int32) = nI 50 from rfl, nI_eq (by omega) (by decide)]; omega)]
    · rw [if_pos hx, if_neg hz]
      exact ⟨_, S, S, rfl, by rw [if_pos hx, if_neg hz], hs⟩
  · rw [if_neg hx']
    exact ⟨_, S, S, rfl, by rw [if_neg hx'], hs⟩
