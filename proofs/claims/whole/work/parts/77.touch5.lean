/-! touch, in deed -/
theorem op_touch (N : Nat) (hN : 5000 ≤ N) {S : sw_St} (h : sv_rel S) (x : Int32) : sv_ok (fX8_touch N x) (fX9_touch N x) S := by
  have hs := h
  obtain ⟨A, L, b, h⟩ := h
  have hr := h
  obtain ⟨h1, h2, h3, h4, h5, h6, h7, h8, h9, h10⟩ := h
  have hn := h1.1
  unfold sv_ok fX8_touch fX9_touch
  simp only [e8_isCot, e9_isCot, sv_bd, sv_Bi]
  rcases sv_cq 11 (by decide) (M := 11) rfl x with ⟨c, hc, rfl, hx⟩ | hx
  · have e0 : S.1 (1 + 6) c = sv_lie A.1 (A.2.1 0) c := h2.2.2.2 c (by omega)
    rw [if_pos hx, sv_gi (by omega) (by decide), nI_clamp (by omega), e0]
    rcases sv_lie_r h1 c with ⟨s, hsn, hsc, hlie⟩ | ⟨hno, hlie⟩
    · obtain ⟨V, m, hV, v1, v2, v3, v4⟩ := e4_touchFrom N (by omega) h2 h1 (show c < 12 by omega)
      rw [hlie, if_pos (show nI s ≥ (0 : Int32) from nI_pos' (by omega)), hV, sv_bd, v3, e6_bc N (sv_wb_lt _ 12), sv_bd, sv_wb_un]
      generalize hj : sv_ct (fun i => decide (i < 12) && sv_ww A m i) 12 = j
      rw [show fX2_add N (2 : Int32) (1 : Int32) V = some ((), sw_si V 85 2 (V.1 85 2 + 1)) from e2_add N (k := 2) (by decide) 1 V, sv_bd]
      generalize hV1 : sw_si V 85 2 (V.1 85 2 + 1) = V1
      rw [show fX2_add N (3 : Int32) (nI j) V1 = some ((), sw_si V1 85 3 (V1.1 85 3 + nI j)) from e2_add N (k := 3) (by decide) (nI j) V1, sv_bd]
      generalize hV2 : sw_si V1 85 3 (V1.1 85 3 + nI j) = V2
      have gA : sv_ag (fun q => q = 85) V V2 := by rw [← hV2, ← hV1]; exact sv_ag_tr (sv_ag_si _ 85 _ _ rfl) (sv_ag_si _ 85 _ _ rfl)
      have gV : sv_ag (fun q => q = 1 ∨ q = 5 ∨ q = 10 ∨ q = 85) S V2 := sv_ag_tr (sv_ag_wk v4 (fun a ha => by omega)) (sv_ag_wk gA (fun a ha => by omega))
      have nV : sv_nc V2 1 (sv_to A m) := sv_nc_eq v2 (fun k hk => (gA (1 + k) (by omega)).1)
      have mV : sv_mr V2 A := sv_mr_eq h3 (gV 106 (by omega)).1 (by rw [(gV 105 (by omega)).1])
      obtain ⟨W1, hW, rW, mW, gW⟩ := e9_begins N (by omega) mV h1
      obtain ⟨Y, t, hY, y1, y2, y3, y4⟩ := e9_isTouched N (by omega) rW h1 (show c < 12 by omega)
      have mt : ∀ c, c < 12 → sv_mw2 t c = m c := fun c hc => Bool.eq_iff_iff.mpr ((y1 c hc).trans (v1 c hc).symm)
      have et : sv_to A (sv_mw2 t) = sv_to A m := sv_to_congr h1 mt
      rw [et] at y2
      have hB := sv_to_wf h1 m
      obtain ⟨Z, hZ, z1, z2⟩ := e9_keepsMind N (by omega) (A := sv_to A m) h1.1 y2.1 y2.2.2.2.2.1
      have rZ : sv_rs Z (sv_to A m) (nI (A.2.2 2)) := by
        obtain ⟨a1, a2, a3, a4, a5, a6, a7⟩ := y2
        have e14 := (z2.1 114 (by decide) (by decide)).1
        have e13 := (z2.1 113 (by decide) (by decide)).1
        refine ⟨?_, fun s hs => ?_, ?_, ?_, ?_, ?_, ?_⟩
        · rw [z2.2.1 6 (fun z => z)]; exact a1
        · have q := a2 s hs
          have n1 : (sv_to A m).1 ≤ 10 := h1.1
          rw [z1, z1, z1, if_neg (by omega), if_neg (by omega), if_neg (by omega)]
          exact q
        · have n1 : (sv_to A m).1 ≤ 10 := h1.1
          rw [z1, if_neg (by omega)]; exact a3
        · rw [e13]; exact a4
        · rw [e14]; exact a5
        · rw [z2.2.1 19 (fun z => z)]; exact a6
        · rw [z2.2.1 20 (fun z => z)]; exact a7
      have hw : nI (sv_awb (sv_to A m)) &&& (nI (sv_awb A) ^^^ (-1 : Int32)) = nI (sv_wb (sv_ww A m) 12) := sv_woke h1 m
      generalize hZ1 : sw_si Z 119 2 (Z.1 119 2 + 1) = Z1
      generalize hZ2 : sw_si Z1 119 3 (Z1.1 119 3 + nI j) = Z2
      have gB : sv_rr (fun q => q = 119) (fun _ => False) Z Z2 := by rw [← hZ2, ← hZ1]; exact sv_rr_tr (sv_rr_si _ 119 _ _ (by decide) rfl) (sv_rr_si _ 119 _ _ (by decide) rfl)
      have gZ : sv_rr (fun q => q = 113 ∨ q = 114 ∨ q = 116 ∨ q = 106 ∨ q = 119) (fun k => k = 19 ∨ k = 20) V2 Z2 := sv_rr_tr (sv_rr_wk gW (fun a ha => by omega) (fun k hk => hk)) (sv_rr_tr (sv_rr_wk y4 (fun a ha => by omega) (fun k hk => hk.elim)) (sv_rr_tr (sv_rr_wk z2 (fun a ha => by omega) (fun k hk => hk.elim)) (sv_rr_wk gB (fun a ha => by omega) (fun k hk => hk.elim))))
      refine ⟨_, V2, Z2, rfl, ?_, ⟨sv_to A m, L, b, ?_⟩⟩
      · rw [if_pos hx, hW, sv_bd, sv_gi (by omega) (by decide), rW.2.2.2.1 c (by omega), hlie, if_pos (show nI s ≥ (0 : Int32) from nI_pos' (by omega)), e9_awakeSet N (by omega) rW h1, sv_bd, hY, sv_bd, hZ, sv_bd, e9_awakeSet N (by omega) rZ hB, sv_bd, hw, e9_bitsOf N (by omega) (sv_wb_lt _ 12), sv_bd, sv_wb_un, hj]
        show (sw_gd (sw_in (nI 2) 5) (sw_gd (sw_in (nI 2) 5) (sw_ls (sw_si Z 119 2 (Z.1 119 2 + 1)) (fun S8 => (sw_gd (sw_in (nI 3) 5) (sw_gd (sw_in (nI 3) 5) (sw_ls (sw_si S8 119 3 (S8.1 119 3 + nI j)) (fun S9 => (some (nI j, S9)))))))))) = _
        rw [sv_gi (by decide) (by decide), sv_gi (by decide) (by decide), sv_ls, hZ1, sv_gi (by decide) (by decide), sv_gi (by decide) (by decide), sv_ls, hZ2]
      · have e9 : Z.1 119 = S.1 119 := by
          rw [(z2.1 119 (by decide) (by decide)).1, (y4.1 119 (by decide) (by decide)).1, (gW.1 119 (by decide) (by decide)).1, (gV 119 (by omega)).1]
        have e85 : V.1 85 = S.1 85 := (v4 85 (by omega)).1
        refine sv_rl_kq hr (sv_kq_tr (sv_kq_ag gV (fun a ha => by unfold sv_P; omega) (by omega)) (sv_kq_rr gZ (fun a ha => by unfold sv_P; omega) (fun k hk => by unfold sv_F; omega))) hB ?_ ?_ (Nat.le_refl _) ?_
        · exact sv_nc_eq nV (fun k hk => (gZ.1 (1 + k) (by omega) (by omega)).1)
        · have mY : sv_mr Y A := sv_mr_eq mW (y4.1 106 (by decide) (by decide)).1 (y4.2.1 6 (fun z => z))
          have e6 : Z2.1 106 = Z.1 106 := (gB.1 106 (by decide) (by decide)).1
          have n1 : (sv_to A m).1 = A.1 := rfl
          refine ⟨?_, fun k u hk hu => ?_, fun j hj => ?_⟩
          · rw [gB.2.1 6 (fun z => z)]; exact rZ.1
          · rw [e6, z1]
            by_cases hq : 30 ≤ 10 * k + u ∧ 10 * k + u < 30 + (sv_to A m).1
            · have hk3 : k = 3 := by omega
              subst hk3
              rw [if_pos hq, show 10 * 3 + u - 30 = u by omega]
            · rw [if_neg hq, mY.2.1 k u hk hu]
              congr 1
              unfold sv_to
              exact (if_neg (fun z => hq (by omega))).symm
          · rw [e6, z1, if_neg (by omega)]
            exact mY.2.2 j hj
        · refine sv_rD_add (S := S) h8 (fun k => if k = 2 then 1 else if k = 3 then nI j else 0) (fun k hk => ?_) (fun k hk => ?_) (fun a ha => ?_) ?_ ?_
          · rw [(gZ.1 85 (by decide) (by omega)).1, ← hV2, ← hV1, ← e85]
            have : k = 0 ∨ k = 1 ∨ k = 2 ∨ k = 3 ∨ k = 4 := by omega
            rcases this with rfl | rfl | rfl | rfl | rfl <;> simp [sv_si]
          · rw [← hZ2, ← hZ1, ← e9]
            have : k = 0 ∨ k = 1 ∨ k = 2 ∨ k = 3 ∨ k = 4 := by omega
            rcases this with rfl | rfl | rfl | rfl | rfl <;> simp [sv_si]
          · rw [(gZ.1 a (by omega) (by omega)).1, (gV a (by omega)).1]
          · rw [gZ.2.1 28 (by omega), (gV 105 (by omega)).1]
          · rw [gZ.2.1 29 (by omega), (gV 105 (by omega)).1]
    · rw [hlie, if_neg (by decide)]
      obtain ⟨W1, hW, rW, mW, gW⟩ := e9_begins N (by omega) h3 h1
      refine ⟨_, S, W1, rfl, ?_, ⟨A, L, b, sv_rl_same hr (sv_same_b gW)⟩⟩
      rw [if_pos hx, hW, sv_bd, sv_gi (by omega) (by decide), rW.2.2.2.1 c (by omega), hlie, if_neg (by decide)]
  · rw [if_neg hx]
    exact ⟨_, S, S, rfl, by rw [if_neg hx], hs⟩
