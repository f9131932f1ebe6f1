/-! act -/
theorem sv_rB_run {S T : sw_St} {b r : Nat} (h : sv_rB S b) (hr : r ≤ 100) (e : T.1 90 = S.1 90 ∧ T.1 122 = S.1 122) (e0 : T.1 89 0 = S.1 89 0) (e2 : T.1 105 32 = S.1 105 32) (r1 : T.1 89 1 = nI r) (r2 : T.1 105 35 = nI r) (r3 : ∀ k, k < 24 → k < r → T.1 123 k = T.1 91 k) : sv_rB T b := by
  obtain ⟨b1, b2, b3, b4, -⟩ := h
  refine ⟨b1, by rw [e0]; exact b2, by rw [e2]; exact b3, ?_, r, hr, r1, r2, r3⟩
  rw [e.1, e.2]
  exact b4
theorem op_act (N : Nat) (hN : 5000 ≤ N) {S : sw_St} (h : sv_rel S) (x y z : Int32) : sv_ok (fX8_act N x y z) (fX9_act N x y z) S := by
  obtain ⟨A, L, b, h⟩ := h
  have hr := h
  obtain ⟨h1, h2, h3, h4, h5, h6, h7, h8, h9, h10⟩ := h
  obtain ⟨m, rfl⟩ : ∃ m, N = m + 9 := ⟨N - 9, by omega⟩
  have hB := h9
  obtain ⟨b1, b2, b3, b4, -⟩ := h9
  unfold sv_ok fX8_act fX9_act fX0_perform fX9_isBody
  simp only [e8_within, sv_bd, sv_Bi, sv_ls, sv_64_0, e9_within, sv_Bn]
  generalize hV : sw_si S 89 1 0 = V
  have gV : sv_ag (fun a => a = 89) S V := by rw [← hV]; exact sv_ag_si S 89 1 _ rfl
  have v1 : V.1 89 1 = nI 0 := by rw [← hV]; rfl
  have vk : ∀ k, k ≠ 1 → V.1 89 k = S.1 89 k := fun k hk => by rw [← hV, sv_si, if_neg (by omega)]
  rw [vk 0 (by decide), b2]
  -- what the reference holds after any class side that writes 89 and 91 alone
  have fin : ∀ (W U : sw_St) (r : Nat), r ≤ 100 → sv_ag (fun a => a = 89 ∨ a = 91) S W → W.1 89 0 = nI b → W.1 89 1 = nI r → sv_rr (fun a => a = 123) (fun k => k = 35 ∨ k = 36 ∨ k = 37) W U → U.1 105 35 = nI r → (∀ k, k < 24 → k < r → U.1 123 k = W.1 91 k) → sv_rel U := by
    intro W U r hr100 gW w0 w1 gU u1 u2
    have gT : sv_rr (fun a => ¬ sv_P a ∨ (89 ≤ a ∧ a ≤ 104) ∨ (122 ≤ a ∧ a ≤ 126)) (fun k => sv_F k ∨ k = 32 ∨ k = 35) S U := sv_rr_tr (T := W) ⟨fun a _ ha => gW a (by omega), fun k _ => by rw [(gW 105 (by omega)).1], (gW 105 (by omega)).2⟩ (sv_rr_wk gU (fun a ha => by omega) (fun k hk => by unfold sv_F; omega))
    have w : ∀ a, ¬ (a = 89 ∨ a = 91 ∨ a = 123 ∨ a = 105) → U.1 a = S.1 a ∧ U.2 a = S.2 a := fun a ha => ⟨((gU.1 a (by omega) (by omega)).1).trans (gW a (by omega)).1, ((gU.1 a (by omega) (by omega)).2).trans (gW a (by omega)).2⟩
    have u89 : U.1 89 = W.1 89 := (gU.1 89 (by decide) (by omega)).1
    refine ⟨A, L, b, sv_rl_ks hr gT (sv_rB_run hB hr100 ⟨(w 90 (by omega)).1, (w 122 (by omega)).1⟩ (by rw [u89, w0, b2]) (by rw [gU.2.1 32 (by omega), (gW 105 (by omega)).1]) (by rw [u89, w1]) u1 (fun k h1 h2 => by rw [u2 k h1 h2, (gU.1 91 (by decide) (by omega)).1])) (fun d hd => ?_)⟩
    exact sv_s1_up (h10 d hd) (Nat.le_refl b) (w _ (by omega)).1 (w _ (by omega)).2 (by rw [(w 124 (by omega)).1]) (by rw [(w 125 (by omega)).1]) (fun q _ => by rw [(w 122 (by omega)).1]) (fun i hi => by rw [(w 126 (by omega)).2])
  have gV2 : sv_ag (fun a => a = 89 ∨ a = 91) S V := sv_ag_wk gV (fun a ha => Or.inl ha)
  by_cases hx : 0 ≤ x ∧ x ≤ nI b - 1
  · obtain ⟨k, hk, rfl⟩ := (sv_swI (by omega) x).mp hx
    obtain ⟨q, hq, k1, k2⟩ := b4 k hk
    rw [if_pos hx]
    rcases sv_cq 3 (by decide) (M := 3) rfl y with ⟨a, ha, rfl, hy⟩ | hy
    · rw [if_pos hy, sv_gi (by omega) (by decide), nI_clamp (by omega)]
      generalize hW : sw_si V 89 4 (nI k) = W
      have gW : sv_ag (fun a => a = 89 ∨ a = 91) S W := by rw [← hW]; exact sv_ag_tr gV2 (sv_ag_si V 89 4 _ (Or.inl rfl))
      have w4 : W.1 89 4 = nI k := by rw [← hW]; rfl
      have w1 : W.1 89 1 = nI 0 := by rw [← hW]; exact v1
      have w0 : W.1 89 0 = nI b := by rw [← hW]; exact (vk 0 (by decide)).trans b2
      have w90 : W.1 90 k = nI q := by rw [(gW 90 (by omega)).1, k1]
      have hc : sv_hc W q k 0 := ⟨by omega, w4, w90, w1⟩
      rw [w90, fc_all m z (by omega) (by omega) hc (by omega), sv_bd, sv_bd]
      have len := sv_all_len q a (nI k) z
      generalize hl : sv_all q a (nI k) z = l at *
      obtain ⟨c1, c2, c3, c4⟩ := sv_fc_is l.2 w1 (by omega)
      have gX : sv_ag (fun a => a = 89 ∨ a = 91) S (sv_fc l.2 W) := sv_ag_tr gW c4
      generalize hX : sv_fc l.2 W = X at *
      have x5 : X.1 105 = S.1 105 := (gX 105 (by omega)).1
      generalize hY : sw_si X 105 35 0 = Y
      generalize hZ : sw_si (sw_si Y 105 36 (nI q)) 105 37 (nI k) = Z
      have gY : sv_rr (fun a => a = 123) (fun k => k = 35 ∨ k = 36 ∨ k = 37) X Y := by rw [← hY]; exact sv_rr_sf X 35 _ (by omega)
      have gZ : sv_rr (fun a => a = 123) (fun k => k = 35 ∨ k = 36 ∨ k = 37) X Z := by rw [← hZ]; exact sv_rr_tr gY (sv_rr_tr (sv_rr_sf Y 36 _ (by omega)) (sv_rr_sf _ 37 _ (by omega)))
      have z35 : Z.1 105 35 = nI 0 := by rw [← hZ, ← hY]; rfl
      have z36 : Z.1 105 36 = nI q := by rw [← hZ]; rfl
      have hm : sv_hm Z q k 0 := ⟨z36, by rw [← hZ]; rfl, z35⟩
      obtain ⟨d1, d2, d3⟩ := sv_fm_is l.2 z35 (by omega)
      refine ⟨l.1, X, sv_fm l.2 Z, rfl, ?_, fin X _ l.2.length (by omega) gX (by rw [c3 0 (by decide), w0]) (by rw [c1, Nat.zero_add]) (sv_rr_tr gZ (sv_rr_wk d3 (fun _ h => h) (fun _ h => Or.inl h))) (by rw [d1, Nat.zero_add]) (fun i hi hil => ?_)⟩
      · rw [hY, show Y.1 105 32 = nI b by rw [gY.2.1 32 (by omega), x5, b3], if_pos hx, sv_gi (by omega) (by decide), show Y.1 122 k = nI q by rw [(gY.1 122 (by decide) (by omega)).1, (gX 122 (by omega)).1, k2], hZ, z36]
        rcases sv_lt4 (show a < 4 by omega) with rfl | rfl | rfl | rfl
        · rw [if_pos (show nI 0 = (0 : Int32) from rfl), fm_w _ z (by omega) hm (by omega), ← hl]
          rfl
        · rw [if_neg (show ¬ nI 1 = (0 : Int32) by decide), if_pos (show nI 1 = (1 : Int32) from rfl), fm_h _ z (by omega) (by omega) hm (by omega), ← hl]
          rfl
        · rw [if_neg (show ¬ nI 2 = (0 : Int32) by decide), if_neg (show ¬ nI 2 = (1 : Int32) by decide), if_pos (show nI 2 = (2 : Int32) from rfl), fm_c _ z (by omega) (by omega) hm (by omega), ← hl]
          rfl
        · rw [if_neg (show ¬ nI 3 = (0 : Int32) by decide), if_neg (show ¬ nI 3 = (1 : Int32) by decide), if_neg (show ¬ nI 3 = (2 : Int32) by decide), if_pos (show nI 3 = (3 : Int32) from rfl), fm_t _ z (by omega) (by omega) hm (by omega), ← hl]
          rfl
      · rw [d2, c2, if_pos (by omega), if_pos (by omega)]
    · rw [if_neg hy]
      generalize hY : sw_si V 105 35 0 = Y
      have gY : sv_rr (fun a => a = 123) (fun k => k = 35 ∨ k = 36 ∨ k = 37) V Y := by rw [← hY]; exact sv_rr_sf V 35 _ (by omega)
      have y35 : Y.1 105 35 = nI 0 := by rw [← hY]; rfl
      refine ⟨0, V, _, rfl, ?_, fin V (sw_si (sw_si Y 105 36 (nI q)) 105 37 (nI k)) 0 (by decide) gV2 ((vk 0 (by decide)).trans b2) v1 (sv_rr_tr gY (sv_rr_tr (sv_rr_sf Y 36 _ (by omega)) (sv_rr_sf _ 37 _ (by omega)))) y35 (fun i _ hi => absurd hi (Nat.not_lt_zero i))⟩
      have hne : ∀ j : Int32, 0 ≤ j ∧ j ≤ 3 → ¬ y = j := fun j hj e => hy (e ▸ hj)
      rw [hY, show Y.1 105 32 = nI b by rw [gY.2.1 32 (by omega), (gV 105 (by omega)).1, b3], if_pos hx, sv_gi (by omega) (by decide), nI_clamp (by omega), show Y.1 122 k = nI q by rw [(gY.1 122 (by decide) (by omega)).1, (gV 122 (by omega)).1, k2], if_neg (hne 0 (by decide)), if_neg (hne 1 (by decide)), if_neg (hne 2 (by decide)), if_neg (hne 3 (by decide))]
  · rw [if_neg hx]
    generalize hY : sw_si V 105 35 0 = Y
    have gY : sv_rr (fun a => a = 123) (fun k => k = 35 ∨ k = 36 ∨ k = 37) V Y := by rw [← hY]; exact sv_rr_sf V 35 _ (by omega)
    refine ⟨0, V, Y, rfl, ?_, fin V Y 0 (by decide) gV2 ((vk 0 (by decide)).trans b2) v1 gY (by rw [← hY]; rfl) (fun i _ hi => absurd hi (Nat.not_lt_zero i))⟩
    rw [hY, show Y.1 105 32 = nI b by rw [gY.2.1 32 (by omega), (gV 105 (by omega)).1, b3], if_neg hx]
