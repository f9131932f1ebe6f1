theorem sv_same_fit {S T : sw_St} (g : sv_rr (fun a => sv_rq a ∨ a = 106) sv_F S T) (h : T.1 106 = S.1 106) (h2 : T.2 106 = S.2 106) : sv_same S T := by
  refine ⟨fun a h1 h3 => ?_, g.2.1, g.2.2⟩
  by_cases e : a = 106
  · subst e; exact ⟨h, h2⟩
  · exact g.1 a h1 (fun z => h3 (by intro q; unfold sv_P at q; unfold sv_rq at z; omega))
theorem op_fits (N : Nat) (hN : 5000 ≤ N) {S : sw_St} (h : sv_rel S) (x y g : Int32) : sv_ok (fX8_fits N x y g) (fX9_fits N x y g) S := by
  have hs := h
  obtain ⟨A, L, b, h⟩ := h
  have hr := h
  obtain ⟨h1, h2, h3, h4, h5, h6, h7, h8, h9, h10⟩ := h
  have hn10 := h1.1
  unfold sv_ok fX8_fits fX9_fits
  rw [sv_64_0, sv_64_3]
  -- what is asked of y and g is asked alike
  by_cases hall : ¬ y < 0 ∧ (0 ≤ y / 10 ∧ y / 10 ≤ nI A.1 - 1) ∧ (0 ≤ y - y / 10 * 10 ∧ y - y / 10 * 10 ≤ nI A.1 - 1) ∧ (0 ≤ g ∧ g ≤ 3)
  · obtain ⟨y0, y1, y2, hg⟩ := hall
    obtain ⟨s, hsn, es⟩ := (sv_swI (by omega) _).mp y1
    obtain ⟨t, htn, et⟩ := (sv_swI (by omega) _).mp y2
    have pre8 : ∀ (T : sw_St) (K : sw_St → Option (Int32 × sw_St)), T.1 1 0 = nI A.1 → (if y < 0 then (some ((-1 : Int32), T)) else (sw_bd (fX8_isSword N (y / (10 : Int32)) T) (fun r2 S2 => (if r2 = 0 then (some ((-1 : Int32), S2)) else (sw_bd (fX8_isSword N (y - y / (10 : Int32) * (10 : Int32)) S2) (fun r3 S3 => (if r3 = 0 then (some ((-1 : Int32), S3)) else (sw_bd (fX8_within N g (0 : Int32) (3 : Int32) S3) (fun r4 S4 => (if r4 = 0 then (some ((-1 : Int32), S4)) else K S4)))))))))) = K T := by
      intro T K hT
      rw [if_neg y0, e8_isSword N _ hT, sv_bd, sv_Bi, if_pos y1, e8_isSword N _ hT, sv_bd, sv_Bi, if_pos y2, e8_within, sv_bd, sv_Bi, if_pos hg]
    have pre9 : ∀ (T : sw_St) (K : sw_St → Option (Int32 × sw_St)), T.1 105 6 = nI A.1 → (if y < 0 then (some ((-1 : Int32), T)) else (sw_bd (fX9_isSword N ((y / (10 : Int32)).toInt64) T) (fun r2 S2 => (if r2 = 0 then (some ((-1 : Int32), S2)) else (sw_bd (fX9_isSword N ((y - y / (10 : Int32) * (10 : Int32)).toInt64) S2) (fun r3 S3 => (if r3 = 0 then (some ((-1 : Int32), S3)) else (sw_bd (fX9_within N g.toInt64 (0 : Int32).toInt64 (3 : Int32).toInt64 S3) (fun r4 S4 => (if r4 = 0 then (some ((-1 : Int32), S4)) else K S4)))))))))) = K T := by
      intro T K hT
      rw [if_neg y0, e9_isSword N _ hT, sv_bd, sv_Bi, if_pos y1, e9_isSword N _ hT, sv_bd, sv_Bi, if_pos y2, e9_within, sv_bd, sv_Bi, if_pos hg]
    rcases e_both N h9.1 h10 x with ⟨c1, c2⟩ | ⟨r, r0, r1, r2, c1, c2, c3⟩ | ⟨a, c, sz, sz3, ha, hc, e1, e2, q1, q2, c1, c2, c3⟩
    · rw [c1, sv_bd, if_pos rfl]
      exact ⟨_, S, S, rfl, by rw [c2 S, sv_bd, if_pos rfl], hs⟩
    · rw [c1, sv_bd, if_neg sv_nz, pre8 S _ h2.1, c2, sv_bd, if_neg r0]
      refine ⟨_, S, S, rfl, ?_, hs⟩
      rw [c3 S rfl, sv_bd, if_neg r2, pre9 S _ h3.1, c3 S rfl, sv_bd, if_neg r1, c3 S rfl, sv_bd]
    · rw [c1, sv_bd, if_neg sv_nz, pre8 S _ h2.1, c2, sv_bd, if_pos rfl, e2, e1, sv_gi ha (by decide), sv_gi hc (by decide), nI_clamp (by omega), nI_clamp (by omega)]
      -- which: what it did, or how many years
      obtain ⟨w, hw, hgw⟩ : ∃ w, (w = 1 ∨ w = 2) ∧ ((g ≥ 2 ∧ w = 2 ∧ sv_gr w = 99) ∨ (¬ g ≥ 2 ∧ w = 1 ∧ sv_gr w = 9)) := by
        by_cases g2 : g ≥ 2
        · exact ⟨2, Or.inr rfl, Or.inl ⟨g2, rfl, rfl⟩⟩
        · exact ⟨1, Or.inl rfl, Or.inr ⟨g2, rfl, rfl⟩⟩
      have hvw : sv_vw A t w := Or.inl ⟨by omega, htn⟩
      have hh := e5_hours N (by omega) (S := S) (o := 93 + 2 * a) (sz := sz) q1.2.1 q1.2.2.2.2.1
      obtain ⟨i, -, hi⟩ := hh
      obtain ⟨n, l, V, hV, v3, v4, v5, gV⟩ := e7_fit N hN h2 h1 h4 (o2 := 93 + 2 * a) (o3 := 93 + 2 * c) (s := s) (t := t) (w := w) (y := y) (by omega) (by omega) q1.2.1 q1.2.2.2.2.1 q2.2.1 q2.2.2.2.2.1 hsn htn hw es et hi
      obtain ⟨n', l', U, hU, u1, u2, u2', gU⟩ := e9_fitl N hN (S := V) (sv_mr_tw h3 gV) h1 (sv_lr_tw h5 gV) (y := y) (g := g) (w := w) e1 e2 (sv_rb_tw (sv_rb_of ha q1) gV) (sv_rb_tw (sv_rb_of hc q2) gV) hi hsn htn hw es (by rcases hgw with ⟨z1, z2, z3⟩ | ⟨z1, z2, z3⟩; exact Or.inl ⟨z1, z3⟩; exact Or.inr ⟨z1, z3⟩)
      obtain ⟨en, el⟩ := sv_fR_u _ v5 u1
      have cl : ∀ (ρ : Type) (K : Unit → sw_St → Option ρ), (if g ≥ (2 : Int32) then (sw_bd (fX7_fit N (93 + 2 * a) (93 + 2 * c) y (2 : Int32) S) K) else (sw_bd (fX7_fit N (93 + 2 * a) (93 + 2 * c) y (1 : Int32) S) K)) = K () V := by
        intro ρ K
        rcases hgw with ⟨z1, z2, z3⟩ | ⟨z1, z2, z3⟩
        · rw [if_pos z1]
          rw [z2] at hV
          have hV : fX7_fit N (93 + 2 * a) (93 + 2 * c) y (2 : Int32) S = some ((), V) := hV
          rw [hV, sv_bd]
        · rw [if_neg z1]
          rw [z2] at hV
          have hV : fX7_fit N (93 + 2 * a) (93 + 2 * c) y (1 : Int32) S = some ((), V) := hV
          rw [hV, sv_bd]
      rw [cl, v3, v4]
      have hrel : sv_rel U := ⟨A, L, b, sv_rl_same hr (sv_same_tr (sv_tw_same gV) (sv_same_fit gU u2 u2'))⟩
      have t4 : V.1 124 = S.1 124 := (gV 124 (by unfold sv_tw; omega)).1
      have rf : fX9_fits N x y g V = (if (g - g / (2 : Int32) * (2 : Int32)) = 0 then some (nI n', U) else some (l', U)) := by
        unfold fX9_fits
        rw [sv_64_0, sv_64_3, c3 V t4, sv_bd, if_neg (by decide), pre9 V _ (sv_mr_tw h3 gV).1, c3 V t4, sv_bd, if_pos (by decide)]
        have jn : ∀ (ρ : Type) (K : Int32 → sw_St → Option ρ) (W : sw_St), sw_jn1 K (fun k2 => (if g ≥ (2 : Int32) then (k2 (20 : Int32) W) else (k2 (10 : Int32) W))) = K (nI (10 * w)) W := by
          intro ρ K W
          rw [sv_jn1]
          rcases hgw with ⟨z1, z2, z3⟩ | ⟨z1, z2, z3⟩
          · rw [if_pos z1, z2]; rfl
          · rw [if_neg z1, z2]; rfl
        have epl : nI (10 * w) + nI t = nI (sv_pl t w) := by rw [nI_add]; unfold sv_pl; rw [if_pos (by omega)]
        have hp := sv_pl_lt hn10 hvw
        rw [jn, et, epl, sv_li, sv_gi hp (by decide), sv_li]
        have ecl : (nI (sv_pl t w)).toNatClampNeg = sv_pl t w := nI_clamp (by omega)
        refine Eq.trans ?_ hU
        rw [show V.1 106 (nI (sv_pl t w)).toNatClampNeg = V.1 106 (sv_pl t w) by rw [ecl]]
      by_cases hodd : g - g / (2 : Int32) * (2 : Int32) = 0
      · rw [if_pos hodd]
        rw [if_pos hodd] at rf
        exact ⟨_, V, U, rfl, by rw [en]; exact rf, hrel⟩
      · rw [if_neg hodd]
        rw [if_neg hodd] at rf
        exact ⟨_, V, U, rfl, by rw [el]; exact rf, hrel⟩
  · have bad8 : ∀ (K : sw_St → Option (Int32 × sw_St)), (if y < 0 then (some ((-1 : Int32), S)) else (sw_bd (fX8_isSword N (y / (10 : Int32)) S) (fun r2 S2 => (if r2 = 0 then (some ((-1 : Int32), S2)) else (sw_bd (fX8_isSword N (y - y / (10 : Int32) * (10 : Int32)) S2) (fun r3 S3 => (if r3 = 0 then (some ((-1 : Int32), S3)) else (sw_bd (fX8_within N g (0 : Int32) (3 : Int32) S3) (fun r4 S4 => (if r4 = 0 then (some ((-1 : Int32), S4)) else K S4)))))))))) = some (-1, S) := by
      intro K
      by_cases y0 : y < 0
      · rw [if_pos y0]
      · rw [if_neg y0, e8_isSword N _ h2.1, sv_bd, sv_Bi]
        by_cases y1 : 0 ≤ y / 10 ∧ y / 10 ≤ nI A.1 - 1
        · rw [if_pos y1, e8_isSword N _ h2.1, sv_bd, sv_Bi]
          by_cases y2 : 0 ≤ y - y / 10 * 10 ∧ y - y / 10 * 10 ≤ nI A.1 - 1
          · rw [if_pos y2, e8_within, sv_bd, sv_Bi, if_neg (fun hg => hall ⟨y0, y1, y2, hg⟩)]
          · rw [if_neg y2]
        · rw [if_neg y1]
    have bad9 : ∀ (K : sw_St → Option (Int32 × sw_St)), (if y < 0 then (some ((-1 : Int32), S)) else (sw_bd (fX9_isSword N ((y / (10 : Int32)).toInt64) S) (fun r2 S2 => (if r2 = 0 then (some ((-1 : Int32), S2)) else (sw_bd (fX9_isSword N ((y - y / (10 : Int32) * (10 : Int32)).toInt64) S2) (fun r3 S3 => (if r3 = 0 then (some ((-1 : Int32), S3)) else (sw_bd (fX9_within N g.toInt64 (0 : Int32).toInt64 (3 : Int32).toInt64 S3) (fun r4 S4 => (if r4 = 0 then (some ((-1 : Int32), S4)) else K S4)))))))))) = some (-1, S) := by
      intro K
      by_cases y0 : y < 0
      · rw [if_pos y0]
      · rw [if_neg y0, e9_isSword N _ h3.1, sv_bd, sv_Bi]
        by_cases y1 : 0 ≤ y / 10 ∧ y / 10 ≤ nI A.1 - 1
        · rw [if_pos y1, e9_isSword N _ h3.1, sv_bd, sv_Bi]
          by_cases y2 : 0 ≤ y - y / 10 * 10 ∧ y - y / 10 * 10 ≤ nI A.1 - 1
          · rw [if_pos y2, e9_within, sv_bd, sv_Bi, if_neg (fun hg => hall ⟨y0, y1, y2, hg⟩)]
          · rw [if_neg y2]
        · rw [if_neg y1]
    rcases e_both N h9.1 h10 x with ⟨c1, c2⟩ | ⟨r, r0, r1, r2, c1, c2, c3⟩ | ⟨a, c, sz, sz3, ha, hc, e1, e2, q1, q2, c1, c2, c3⟩
    · rw [c1, sv_bd, if_pos rfl]
      exact ⟨_, S, S, rfl, by rw [c2 S, sv_bd, if_pos rfl], hs⟩
    · rw [c1, sv_bd, if_neg sv_nz, bad8]
      exact ⟨_, S, S, rfl, by rw [c3 S rfl, sv_bd, if_neg r2, bad9], hs⟩
    · rw [c1, sv_bd, if_neg sv_nz, bad8]
      exact ⟨_, S, S, rfl, by rw [c3 S rfl, sv_bd, if_neg (by decide), bad9], hs⟩
