/-! back -/
def sv_bk (A : sv_A) (m : Nat) (x y : Nat → Nat) (h c : Nat) : sv_A := (A.1, fun k s => if k = 3 ∧ s < m then x s else if k = 4 ∧ s < m then y s else A.2.1 k s, fun j => if j = 0 then h else if j = 2 then c else A.2.2 j)
theorem sv_bk_wf {A : sv_A} (hA : sv_wf A) {m h c : Nat} {x y : Nat → Nat} (hm : m ≤ A.1) (hh : h < 12) (hc : c < 12) (hx : ∀ s, s < m → x s ≤ 99) (hy : ∀ s, s < m → y s ≤ 1) : sv_wf (sv_bk A m x y h c) := by
  obtain ⟨h1, h2, h3, h4, h5, h6, h7, h8⟩ := hA
  refine ⟨h1, fun s hs => ?_, fun s t hs ht => h3 s t hs ht, hh, h5, hc, fun k s => ?_, fun k s hs hk => ?_⟩
  · obtain ⟨a, b, cc, d, e⟩ := h2 s hs
    refine ⟨a, b, cc, ?_, ?_⟩
    · show (if 3 = 3 ∧ s < m then x s else if 3 = 4 ∧ s < m then y s else A.2.1 3 s) ≤ 99
      by_cases hq : s < m
      · rw [if_pos ⟨rfl, hq⟩]; exact hx s hq
      · rw [if_neg (by omega), if_neg (by omega)]; exact d
    · show (if 4 = 3 ∧ s < m then x s else if 4 = 4 ∧ s < m then y s else A.2.1 4 s) ≤ 1
      by_cases hq : s < m
      · rw [if_neg (by omega), if_pos ⟨rfl, hq⟩]; exact hy s hq
      · rw [if_neg (by omega), if_neg (by omega)]; exact e
  · show (if k = 3 ∧ s < m then x s else if k = 4 ∧ s < m then y s else A.2.1 k s) ≤ 99
    split
    · rename_i z; exact hx s z.2
    · split
      · rename_i z; have := hy s z.2; omega
      · exact h7 k s
  · have hs : A.1 ≤ s := hs
    show (if k = 3 ∧ s < m then x s else if k = 4 ∧ s < m then y s else A.2.1 k s) = 0
    rw [if_neg (by omega), if_neg (by omega)]
    exact h8 k s hs hk
theorem op_back (N : Nat) (hN : 5000 ≤ N) {S : sw_St} (h : sv_rel S) : sv_ok (fX8_back N) (fX9_back N) S := by
  have hs := h
  obtain ⟨A, L, b, h⟩ := h
  have hr := h
  obtain ⟨h1, h2, h3, h4, h5, h6, h7, h8, h9, h10⟩ := h
  have hn := h1.1
  unfold sv_ok fX8_back fX9_back
  rcases h8.2 with ⟨d1, d2⟩ | ⟨d1, d2, m, hh, cc, hm, hh12, hc12, w5, w29, w6, w50, w7, w52, wr, wl⟩
  · rw [if_pos d1]
    exact ⟨_, S, S, rfl, by rw [if_pos d2], hs⟩
  · rw [if_neg (by rw [d1]; decide)]
    let x : Nat → Nat := fun s => (S.1 87 s).toNatClampNeg
    let y : Nat → Nat := fun s => (S.1 88 s).toNatClampNeg
    have fx : ∀ s, s < m → x s ≤ 99 ∧ y s ≤ 1 ∧ S.1 87 s = nI (x s) ∧ S.1 120 (30 + s) = nI (x s) ∧ S.1 88 s = nI (y s) ∧ S.1 120 (40 + s) = nI (y s) := by
      intro s hsm
      obtain ⟨p, q, hp, hq, e1, e2, e3, e4⟩ := wr s hsm
      have ex : x s = p := by show (S.1 87 s).toNatClampNeg = p; rw [e1, nI_clamp (by omega)]
      have ey : y s = q := by show (S.1 88 s).toNatClampNeg = q; rw [e3, nI_clamp (by omega)]
      rw [ex, ey]
      exact ⟨hp, hq, e1, e2, e3, e4⟩
    let B := sv_bk A m x y hh cc
    have hB : sv_wf B := sv_bk_wf h1 hm hh12 hc12 (fun s z => (fx s z).1) (fun s z => (fx s z).2.1)
    -- the class
    have key8 : ∃ V, fX2_layBack N 1 S = some ((), V) ∧ sv_nc V 1 B ∧ (∀ k, k < 5 → V.1 85 k = S.1 86 k) ∧ sv_ag (fun a => a = 1 ∨ a = 5 ∨ a = 6 ∨ a = 85) S V := by
      unfold fX2_layBack
      rw [sv_ls, w6, sv_ls]
      rw [show (sw_si S 1 1 (nI hh)).1 84 7 = nI cc by rw [sv_si, if_neg (by omega)]; exact w7]
      generalize hT : sw_si (sw_si S 1 1 (nI hh)) 1 3 (nI cc) = T
      have gT : sv_ag (fun a => a = 1 ∨ a = 5 ∨ a = 6 ∨ a = 85) S T := by
        rw [← hT]
        exact sv_ag_tr (sv_ag_si S 1 1 _ (Or.inl rfl)) (sv_ag_si _ 1 3 _ (Or.inl rfl))
      have t1 : ∀ k, T.1 1 k = if k = 3 then nI cc else if k = 1 then nI hh else S.1 1 k := by
        intro k
        rw [← hT, sv_si]
        by_cases k3 : k = 3
        · rw [if_pos ⟨rfl, k3⟩, if_pos k3]
        · rw [if_neg (by omega), if_neg k3, sv_si]
          by_cases k1 : k = 1
          · rw [if_pos ⟨rfl, k1⟩, if_pos k1]
          · rw [if_neg (by omega), if_neg k1]
      have t5 : T.1 84 5 = nI m := by rw [(gT 84 (by omega)).1]; exact w5
      rw [t5, show (0 : Int32) = nI 0 from rfl, sv_cg (by omega) (by omega) (by decide) (by decide), sv_gt, sv_ls, nI_clamp (n := 0) (by decide), nI_clamp (n := m) (by omega)]
      have q5 : (sw_ci T 87 (1 + 4) 0 0 m).1 84 5 = nI m := by rw [sv_ci, if_neg (by omega)]; exact t5
      rw [q5, sv_cg (by omega) (by omega) (by decide) (by decide), sv_gt, sv_ls, nI_clamp (n := m) (by omega), show (5 : Int32) = nI 5 from rfl, sv_cg (by omega) (by omega) (by decide) (by decide), sv_gt, sv_ls, nI_clamp (n := 5) (by decide)]
      refine ⟨_, rfl, ⟨?_, fun k s hk hs => ?_, fun j hj => ?_, fun c hc => ?_⟩, fun k hk => ?_, ?_⟩
      · rw [sv_ci, if_neg (by omega), sv_ci, if_neg (by omega), sv_ci, if_neg (by omega), t1, if_neg (by omega), if_neg (by omega)]; exact h2.1
      · show _ = nI (if k = 3 ∧ s < m then x s else if k = 4 ∧ s < m then y s else A.2.1 k s)
        rw [sv_ci, if_neg (by omega), sv_ci]
        by_cases q1 : k = 4 ∧ s < m
        · rw [if_pos (by omega), if_neg (by omega), if_pos q1, sv_ci, if_neg (by omega), (gT 88 (by omega)).1, show 0 + (s - 0) = s by omega]
          exact (fx s q1.2).2.2.2.2.1
        · rw [if_neg (by omega), sv_ci]
          by_cases q2 : k = 3 ∧ s < m
          · rw [if_pos (by omega), if_pos q2, (gT 87 (by omega)).1, show 0 + (s - 0) = s by omega]
            exact (fx s q2.2).2.2.1
          · have old : T.1 (1 + (1 + k)) s = nI (A.2.1 k s) := by
              have hk' : k = 0 ∨ k = 1 ∨ k = 2 ∨ k = 3 ∨ k = 4 := by omega
              rw [← hT, sv_si, if_neg (by omega), sv_si, if_neg (by omega)]
              exact h2.2.1 k s hk hs
            rw [if_neg (by omega), if_neg q2, if_neg q1]
            exact old
      · show _ = nI (if j = 0 then hh else if j = 2 then cc else A.2.2 j)
        rw [sv_ci, if_neg (by omega), sv_ci, if_neg (by omega), sv_ci, if_neg (by omega), t1]
        have hj' : j = 0 ∨ j = 1 ∨ j = 2 := by omega
        rcases hj' with rfl | rfl | rfl
        · rw [if_neg (by omega), if_pos (by omega), if_pos rfl]
        · rw [if_neg (by omega), if_neg (by omega), if_neg (by omega), if_neg (by omega)]; exact h2.2.2.1 1 (by omega)
        · rw [if_pos (by omega), if_neg (by omega), if_pos rfl]
      · rw [sv_ci, if_neg (by omega), sv_ci, if_neg (by omega), sv_ci, if_neg (by omega), (gT (1 + 6) (by omega)).1]
        exact h2.2.2.2 c hc
      · rw [sv_ci, if_pos (by omega), sv_ci, if_neg (by omega), sv_ci, if_neg (by omega), (gT 86 (by omega)).1, show 0 + (k - 0) = k by omega]
      · exact sv_ag_tr gT (sv_ag_tr (sv_ag_ci T _ (1 + 4) _ _ _ (by omega)) (sv_ag_tr (sv_ag_ci _ _ (1 + 5) _ _ _ (by omega)) (sv_ag_ci _ _ 85 _ _ _ (by omega))))
    obtain ⟨V, hV, nV, v85, gV⟩ := key8
    rw [hV, sv_bd, show (0 : Int32) = nI 0 from rfl, sv_gi (by decide) (by decide), nI_clamp (by decide)]
    have h15 : V.1 105 = S.1 105 := (gV 105 (by omega)).1
    have hm6 : V.1 106 = S.1 106 := (gV 106 (by omega)).1
    have h120 : V.1 120 = S.1 120 := (gV 120 (by omega)).1
    have h121 : V.1 121 = S.1 121 := (gV 121 (by omega)).1
    have key9 : ∃ U, (if V.1 105 28 = 0 then some (-5, V) else sw_fx1 (fun rec1 x1_1 S1 => (if x1_1 ≥ (S1.1 105 29) then (sw_gd (sw_in (50 : Int32) 53) (sw_gd (sw_in (50 : Int32) 53) (sw_ls (sw_si S1 106 (50 : Int32).toNatClampNeg (S1.1 120 (50 : Int32).toNatClampNeg)) (fun S2 => (sw_gd (sw_in (52 : Int32) 53) (sw_gd (sw_in (52 : Int32) 53) (sw_ls (sw_si S2 106 (52 : Int32).toNatClampNeg (S2.1 120 (52 : Int32).toNatClampNeg)) (fun S3 => (sw_fx1 (fun rec2 x1_2 S4 => (if x1_2 ≥ (5 : Int32) then (sw_gd (sw_in (0 : Int32) 5) (some ((S4.1 119 (0 : Int32).toNatClampNeg), S4))) else (sw_gd (sw_in x1_2 5) (sw_gd (sw_in x1_2 5) (sw_ls (sw_si S4 119 x1_2.toNatClampNeg (S4.1 121 x1_2.toNatClampNeg)) (fun S5 => (rec2 (x1_2 + (1 : Int32)) S5))))))) N (0 : Int32) S3))))))))) else (sw_gd (sw_in ((30 : Int32) + x1_1) 53) (sw_gd (sw_in ((30 : Int32) + x1_1) 53) (sw_ls (sw_si S1 106 ((30 : Int32) + x1_1).toNatClampNeg (S1.1 120 ((30 : Int32) + x1_1).toNatClampNeg)) (fun S6 => (sw_gd (sw_in ((40 : Int32) + x1_1) 53) (sw_gd (sw_in ((40 : Int32) + x1_1) 53) (sw_ls (sw_si S6 106 ((40 : Int32) + x1_1).toNatClampNeg (S6.1 120 ((40 : Int32) + x1_1).toNatClampNeg)) (fun S7 => (rec1 (x1_1 + (1 : Int32)) S7))))))))))) N (0 : Int32) V) = some (S.1 121 0, U) ∧ sv_mr U B ∧ (∀ k, k < 5 → U.1 119 k = S.1 121 k) ∧ sv_rr (fun a => a = 106 ∨ a = 119) (fun _ => False) V U := by
      rw [if_neg (by rw [h15, d2]; decide)]
      refine sv_fr1 (Q := fun t => ∃ U, t = some (S.1 121 0, U) ∧ sv_mr U B ∧ (∀ k, k < 5 → U.1 119 k = S.1 121 k) ∧ sv_rr (fun a => a = 106 ∨ a = 119) (fun _ => False) V U) (fun k z T => z = nI k ∧ (∀ i, T.1 106 i = if 30 ≤ i ∧ i < 30 + k then nI (x (i - 30)) else if 40 ≤ i ∧ i < 40 + k then nI (y (i - 40)) else S.1 106 i) ∧ sv_rr (fun a => a = 106) (fun _ => False) V T) m ?_ ?_ N _ V (by omega) ⟨rfl, fun i => by rw [if_neg (by omega), if_neg (by omega), hm6], sv_rr_rf⟩
      · rintro k z T rec hk ⟨rfl, hg, gT⟩
        left
        have t29 : T.1 105 29 = nI m := by rw [gT.2.1 29 (fun z => z), h15]; exact w29
        have t120 : T.1 120 = S.1 120 := ((gT.1 120 (by decide) (by omega)).1).trans h120
        obtain ⟨b1, b2, e1, e2, e3, e4⟩ := fx k hk
        rw [if_neg (show ¬ nI k ≥ T.1 105 29 by rw [t29]; exact nI_ge hk (by omega)), show (30 : Int32) + nI k = nI (30 + k) from nI_add 30 k, sv_gi (by omega) (by decide), sv_gi (by omega) (by decide), nI_clamp (by omega), sv_ls, show (40 : Int32) + nI k = nI (40 + k) from nI_add 40 k, sv_gi (by omega) (by decide), sv_gi (by omega) (by decide), nI_clamp (by omega), sv_ls, t120, e2]
        rw [show (sw_si T 106 (30 + k) (nI (x k))).1 120 (40 + k) = nI (y k) by rw [sv_si, if_neg (by omega), t120]; exact e4]
        refine ⟨_, _, ⟨nI_1 k, fun i => ?_, sv_rr_tr gT (sv_rr_tr (sv_rr_si T 106 (30 + k) _ (by decide) rfl) (sv_rr_si _ 106 (40 + k) _ (by decide) rfl))⟩, rfl⟩
        rw [sv_si]
        by_cases i1 : i = 40 + k
        · subst i1
          rw [if_pos ⟨rfl, rfl⟩, if_neg (by omega), if_pos (by omega), show 40 + k - 40 = k by omega]
        · rw [if_neg (by omega), sv_si]
          by_cases i2 : i = 30 + k
          · subst i2
            rw [if_pos ⟨rfl, rfl⟩, if_pos (by omega), show 30 + k - 30 = k by omega]
          · rw [if_neg (by omega), hg i]
            simp only [show (30 ≤ i ∧ i < 30 + (k + 1)) ↔ (30 ≤ i ∧ i < 30 + k) by omega, show (40 ≤ i ∧ i < 40 + (k + 1)) ↔ (40 ≤ i ∧ i < 40 + k) by omega]
      · rintro z T rec ⟨rfl, hg, gT⟩
        have t29 : T.1 105 29 = nI m := by rw [gT.2.1 29 (fun z => z), h15]; exact w29
        have t120 : T.1 120 = S.1 120 := ((gT.1 120 (by decide) (by omega)).1).trans h120
        rw [if_pos (show nI m ≥ T.1 105 29 by rw [t29]; exact Int32.le_refl _), show (50 : Int32) = nI 50 from rfl, sv_gi (by decide) (by decide), sv_gi (by decide) (by decide), nI_clamp (by decide), sv_ls, show (52 : Int32) = nI 52 from rfl, sv_gi (by decide) (by decide), sv_gi (by decide) (by decide), nI_clamp (by decide), sv_ls, t120, w50]
        rw [show (sw_si T 106 50 (nI hh)).1 120 52 = nI cc by rw [sv_si, if_neg (by omega), t120]; exact w52]
        generalize hW : sw_si (sw_si T 106 50 (nI hh)) 106 52 (nI cc) = W
        have gW : sv_rr (fun a => a = 106) (fun _ => False) V W := by
          rw [← hW]
          exact sv_rr_tr gT (sv_rr_tr (sv_rr_si T 106 50 _ (by decide) rfl) (sv_rr_si _ 106 52 _ (by decide) rfl))
        have rW : ∀ i, W.1 106 i = if i = 52 then nI cc else if i = 50 then nI hh else if 30 ≤ i ∧ i < 30 + m then nI (x (i - 30)) else if 40 ≤ i ∧ i < 40 + m then nI (y (i - 40)) else S.1 106 i := by
          intro i
          rw [← hW, sv_si]
          by_cases i1 : i = 52
          · rw [if_pos ⟨rfl, i1⟩, if_pos i1]
          · rw [if_neg (by omega), if_neg i1, sv_si]
            by_cases i2 : i = 50
            · rw [if_pos ⟨rfl, i2⟩, if_pos i2]
            · rw [if_neg (by omega), if_neg i2]; exact hg i
        have mW : sv_mr W B := by
          refine ⟨by rw [gW.2.1 6 (fun z => z), h15]; exact h3.1, fun k s hk hs => ?_, fun j hj => ?_⟩
          · show _ = nI (if k = 3 ∧ s < m then x s else if k = 4 ∧ s < m then y s else A.2.1 k s)
            rw [rW, if_neg (by omega), if_neg (by omega)]
            by_cases q1 : k = 3 ∧ s < m
            · rw [if_pos (by omega), if_pos q1, show 10 * k + s - 30 = s by omega]
            · rw [if_neg (by omega), if_neg q1]
              by_cases q2 : k = 4 ∧ s < m
              · rw [if_pos (by omega), if_pos q2, show 10 * k + s - 40 = s by omega]
              · rw [if_neg (by omega), if_neg q2]; exact h3.2.1 k s hk hs
          · show _ = nI (if j = 0 then hh else if j = 2 then cc else A.2.2 j)
            rw [rW]
            have hj' : j = 0 ∨ j = 1 ∨ j = 2 := by omega
            rcases hj' with rfl | rfl | rfl
            · rw [if_neg (by omega), if_pos (by omega), if_pos rfl]
            · rw [if_neg (by omega), if_neg (by omega), if_neg (by omega), if_neg (by omega), if_neg (by omega), if_neg (by omega)]; exact h3.2.2 1 (by omega)
            · rw [if_pos (by omega), if_neg (by omega), if_pos rfl]
        refine sv_fr1 (Q := fun t => ∃ U, t = some (S.1 121 0, U) ∧ sv_mr U B ∧ (∀ k, k < 5 → U.1 119 k = S.1 121 k) ∧ sv_rr (fun a => a = 106 ∨ a = 119) (fun _ => False) V U) (fun k z T3 => z = nI k ∧ (∀ i, i < k → T3.1 119 i = S.1 121 i) ∧ sv_rr (fun a => a = 119) (fun _ => False) W T3) 5 ?_ ?_ N _ W (by omega) ⟨rfl, fun i hi => absurd hi (Nat.not_lt_zero i), sv_rr_rf⟩
        · rintro k z T3 rec3 hk ⟨rfl, hg3, g3⟩
          left
          have q121 : T3.1 121 = S.1 121 := by rw [(g3.1 121 (by decide) (by omega)).1, (gW.1 121 (by decide) (by omega)).1, h121]
          rw [if_neg (show ¬ nI k ≥ (5 : Int32) from nI_ge hk (by decide)), sv_gi hk (by decide), sv_gi hk (by decide), nI_clamp (by omega), sv_ls, q121]
          refine ⟨_, _, ⟨nI_1 k, fun i hi => ?_, sv_rr_tr g3 (sv_rr_si T3 119 k _ (by decide) rfl)⟩, rfl⟩
          rw [sv_si]
          by_cases hik : i = k
          · subst hik; rw [if_pos ⟨rfl, rfl⟩]
          · rw [if_neg (by omega)]; exact hg3 i (by omega)
        · rintro z T3 rec3 ⟨rfl, hg3, g3⟩
          rw [if_pos (show nI 5 ≥ (5 : Int32) from Int32.le_refl _), show (0 : Int32) = nI 0 from rfl, sv_gi (by decide) (by decide), nI_clamp (by decide), hg3 0 (by omega)]
          exact ⟨T3, rfl, sv_mr_eq mW (g3.1 106 (by decide) (by omega)).1 (g3.2.1 6 (fun z => z)), hg3, sv_rr_tr (sv_rr_wk gW (fun a ha => Or.inl ha) (fun _ z => z)) (sv_rr_wk g3 (fun a ha => Or.inr ha) (fun _ z => z))⟩
    obtain ⟨U, hU, mU, u119, gU⟩ := key9
    refine ⟨_, V, U, rfl, ?_, ⟨B, L, b, ?_⟩⟩
    · refine Eq.trans (b := some (S.1 121 0, U)) hU ?_
      rw [v85 0 (by omega), wl 0 (by omega)]
    · refine sv_rl_kq hr (sv_kq_tr (sv_kq_ag gV (fun a ha => by unfold sv_P; omega) (by omega)) (sv_kq_rr gU (fun a ha => by unfold sv_P; omega) (fun k hk => hk.elim))) hB ?_ mU (Nat.le_refl _) ?_
      · exact sv_nc_eq nV (fun k hk => (gU.1 (1 + k) (by omega) (by omega)).1)
      · have w : ∀ a, a = 84 ∨ a = 86 ∨ a = 87 ∨ a = 88 ∨ a = 120 ∨ a = 121 → U.1 a = S.1 a := fun a ha => ((gU.1 a (by omega) (by omega)).1).trans (gV a (by omega)).1
        refine ⟨fun k hk => ?_, Or.inr ⟨by rw [w 84 (by omega)]; exact d1, by rw [gU.2.1 28 (fun z => z), h15]; exact d2, m, hh, cc, hm, hh12, hc12, by rw [w 84 (by omega)]; exact w5, by rw [gU.2.1 29 (fun z => z), h15]; exact w29, by rw [w 84 (by omega)]; exact w6, by rw [w 120 (by omega)]; exact w50, by rw [w 84 (by omega)]; exact w7, by rw [w 120 (by omega)]; exact w52, ?_, ?_⟩⟩
        · rw [u119 k hk, (gU.1 85 (by decide) (by omega)).1, v85 k hk]; exact wl k hk
        · rw [w 87 (by omega), w 88 (by omega), w 120 (by omega)]; exact wr
        · rw [w 121 (by omega), w 86 (by omega)]; exact wl
