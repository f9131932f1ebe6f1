/-! mend -/
theorem sv_rl_kc {S T : sw_St} {A B : sv_A} {L : sv_L} {b : Nat} (h : sv_rl S A L b) (g : sv_rr (fun a => ¬ sv_P a ∨ (1 ≤ a ∧ a ≤ 7) ∨ a = 106 ∨ (79 ≤ a ∧ a ≤ 83) ∨ (107 ≤ a ∧ a ≤ 109)) (fun k => sv_F k ∨ k = 6 ∨ k = 4 ∨ k = 5) S T) (hB : sv_wf B) (h2' : sv_nc T 1 B) (h3' : sv_mr T B) (hn : B.1 = A.1) (hC : sv_rC T A.1) : sv_rl T B L b := by
  obtain ⟨h1, h2, h3, h4, h5, h6, h7, h8, h9, h10⟩ := h
  have e0 : ∀ a, sv_P a → ¬ ((1 ≤ a ∧ a ≤ 7) ∨ a = 106 ∨ (79 ≤ a ∧ a ≤ 83) ∨ (107 ≤ a ∧ a ≤ 109)) → T.1 a = S.1 a ∧ T.2 a = S.2 a := fun a ha hb => g.1 a (by unfold sv_P at ha; omega) (by intro z; rcases z with z | z; exact z ha; exact hb z)
  have f : ∀ k, ¬ (sv_F k ∨ k = 6 ∨ k = 4 ∨ k = 5) → T.1 105 k = S.1 105 k := g.2.1
  unfold sv_P at e0
  unfold sv_F at f
  have e : ∀ a, ((11 ≤ a ∧ a ≤ 13) ∨ a = 16 ∨ a = 22 ∨ (84 ≤ a ∧ a ≤ 104) ∨ (110 ≤ a ∧ a ≤ 111) ∨ (119 ≤ a ∧ a ≤ 126)) → T.1 a = S.1 a := fun a ha => (e0 a (by omega) (by omega)).1
  have e2 : ∀ a, ((84 ≤ a ∧ a ≤ 104) ∨ (119 ≤ a ∧ a ≤ 126)) → T.2 a = S.2 a := fun a ha => (e0 a (by omega) (by omega)).2
  exact ⟨hB, h2', h3', sv_lc_of h4 (e _ (by omega)) (e _ (by omega)) (e _ (by omega)), sv_lr_of h5 (f _ (by omega)) (e _ (by omega)), by rw [hn]; exact hC, sv_rT_eq h7 (by rw [e 16 (by omega)]) (e _ (by omega)) (e _ (by omega)) (f _ (by omega)), by rw [hn]; exact sv_rD_eq h8 (fun a ha => e a (by omega)) (f _ (by omega)) (f _ (by omega)), sv_rB_eq h9 (fun a ha => e a (by omega)) (f _ (by omega)) (f _ (by omega)), fun d hd => sv_s1_eq (h10 d hd) (e _ (by omega)) (e2 _ (by omega)) (e _ (by omega)) (e _ (by omega)) (e _ (by omega)) (e2 _ (by omega))⟩
theorem sv_tb0 : ∀ w, w < 8 → (sw_tb 0).getD w 0 = nI (sv_gr w) ∧ sv_gr w ≤ 99 := by decide +kernel
theorem sv_pn (i : Int32) (hi : i ≤ 99) (h0 : 0 ≤ i) : ∃ j : Nat, j ≤ 99 ∧ i = nI j := sv_rg 99 (by decide) h0 hi
theorem e9_mayBecome (N : Nat) (hN : 20 ≤ N) {S : sw_St} {A : sv_A} (h : sv_mr S A) (hA : sv_wf A) {s w : Nat} (hv : sv_vw A s w) (z : Int32) : (∀ v : Nat, z = nI v → sv_fs A s w v → fX9_mayBecome N (nI s) (nI w) z S = some (1, S)) ∧ ((∀ v : Nat, v ≤ 99 → z = nI v → ¬ sv_fs A s w v) → fX9_mayBecome N (nI s) (nI w) z S = some (0, S)) := by
  unfold fX9_mayBecome
  have gen : ∀ (g : Nat) (w : Nat), w ≠ 0 → w < 8 → sv_gr w = g → ((∀ v : Nat, z = nI v → sv_fs A s w v → sw_bd (fX9_within N z.toInt64 (0 : Int32).toInt64 (nI g).toInt64 S) (fun r4 S4 => some (vp_nar .boolean r4, S4)) = some (1, S)) ∧ ((∀ v : Nat, v ≤ 99 → z = nI v → ¬ sv_fs A s w v) → sw_bd (fX9_within N z.toInt64 (0 : Int32).toInt64 (nI g).toInt64 S) (fun r4 S4 => some (vp_nar .boolean r4, S4)) = some (0, S))) := by
    intro g w hw0 hw8 hg
    have hg99 := (sv_tb0 w hw8).2
    rw [e9_within, sv_bd, sv_Bn]
    constructor
    · rintro v rfl hf
      have := hf.1
      rw [sv_B_t ((sv_rgI (by omega) (by omega)).mpr (by omega))]
    · intro hno
      rw [sv_B_f]
      rintro ⟨q1, q2⟩
      obtain ⟨v, hv, rfl⟩ := sv_rg g (by omega) q1 q2
      exact hno v (by omega) rfl ⟨by omega, fun e => absurd e hw0⟩
  rw [sv_64_0]
  rcases sv_lt8 (show w < 8 by omega) with rfl | rfl | rfl | rfl | rfl | rfl | rfl | rfl
  · rw [if_pos (show nI 0 = (0 : Int32) from rfl), e9_isCot, sv_bd, sv_Bi]
    have hs : s < A.1 := by omega
    have g0 : sv_gr 0 = 11 := rfl
    constructor
    · rintro v rfl hf
      have := hf.1
      rw [if_pos (show (0 : Int32) ≤ nI v ∧ nI v ≤ 11 from (sv_rgI (j := v) (m := 11) (by omega) (by decide)).mpr (by omega)), e9_inCot N hN v (by omega) h hA, sv_bd]
      rcases (e9_mine hA v hs).mp (hf.2 rfl) with q | q
      · rw [if_pos q]; rfl
      · rw [q, if_neg (sv_ng s (by have := hA.1; omega)), e9_inCot N hN v (by omega) h hA, sv_bd, q, if_pos rfl]; rfl
    · intro hno
      by_cases hz : 0 ≤ z ∧ z ≤ 11
      · obtain ⟨v, hv, rfl⟩ := sv_rg 11 (by decide) hz.1 hz.2
        have hm : ¬ (sv_lie A.1 (A.2.1 0) v < 0 ∨ sv_lie A.1 (A.2.1 0) v = nI s) := fun q => hno v (by omega) rfl ⟨by omega, fun _ => (e9_mine hA v hs).mpr q⟩
        rw [if_pos hz, e9_inCot N hN v (by omega) h hA, sv_bd, if_neg (fun q => hm (Or.inl q)), e9_inCot N hN v (by omega) h hA, sv_bd, if_neg (fun q => hm (Or.inr q))]; rfl
      · rw [if_neg hz]; rfl
  · exact gen 9 1 (by decide) (by decide) rfl
  · exact gen 99 2 (by decide) (by decide) rfl
  · exact gen 99 3 (by decide) (by decide) rfl
  · exact gen 1 4 (by decide) (by decide) rfl
  · exact gen 11 5 (by decide) (by decide) rfl
  · exact gen 50 6 (by decide) (by decide) rfl
  · have e7 := gen 11 7 (by decide) (by decide) rfl
    have := e9_isCot N z S
    rw [if_neg (by decide), if_neg (by decide), if_neg (by decide), if_neg (by decide), if_neg (by decide), if_neg (by decide), if_neg (by decide), if_pos (by decide), this]
    rw [e9_within] at e7
    exact e7
theorem sv_sh_lt {d k z : Nat} (h : k < sv_dd d + 1) (hk : ¬ k = sv_dd d) (hz : d ≤ z) : sv_sh d k < z := by
  unfold sv_sh sv_dd at *
  by_cases q : d = 40
  · rw [if_pos q] at *; omega
  · rw [if_neg q] at *; omega
theorem op_mend (N : Nat) (hN : 5000 ≤ N) {S : sw_St} (h : sv_rel S) (x y z : Int32) : sv_ok (fX8_mend N x y z) (fX9_mend N x y z) S := by
  have hs := h
  obtain ⟨A, L, b, h⟩ := h
  have hr := h
  obtain ⟨h1, h2, h3, h4, h5, h6, h7, h8, h9, h10⟩ := h
  have hn := h1.1
  unfold sv_ok fX8_mend fX9_mend
  rcases sv_mnd h1.1 x y with ⟨s, w, hv, rfl, rfl, g1, g2⟩ | ⟨g1, g2⟩
  · have hw8 : w < 8 := by omega
    have hp := sv_pl_lt h1.1 hv
    obtain ⟨t1, t2⟩ := sv_tb0 w hw8
    rw [g1 N S h2.1, sv_bd, if_neg sv_nz, sv_gi hw8 (by decide), nI_clamp (by omega), t1, e8_within, sv_bd, sv_Bi]
    -- what goes wrong goes wrong on both sides
    have bad : (∀ v : Nat, v ≤ 99 → z = nI v → ¬ sv_fs A s w v) → (sw_bd (fX9_placeOf N (nI s) (nI w) S) fun r1 S1 => if r1 < 0 then some ((-1 : Int32), S1) else sw_bd (fX9_mayBecome N (nI s) (nI w) z S1) fun r2 S2 => if r2 = 0 then some ((-1 : Int32), S2) else sw_bd (fX9_becomes N r1 z S2) fun r3 S3 => some (r3, S3)) = some (-1, S) := fun hno => by
      rw [g2 N S h3.1, sv_bd, if_neg (sv_ng _ (by omega)), (e9_mayBecome N (by omega) h3 h1 hv z).2 hno, sv_bd, if_pos rfl]
    by_cases hz : 0 ≤ z ∧ z ≤ nI (sv_gr w)
    · obtain ⟨v, hvg, rfl⟩ := sv_rg (sv_gr w) (by omega) hz.1 hz.2
      rw [if_pos hz]
      by_cases hf : sv_fs A s w v
      · have go : ∀ K : sw_St → Option (Int32 × sw_St), sw_jn0 K (fun k1 => if nI w = 0 then (sw_bd (fX4_isTakenByOther N 1 (nI v) (nI s) S) (fun r6 S7 => (if r6 = 0 then (k1 S7) else (some ((-1 : Int32), S7))))) else (k1 S)) = K S := by
          intro K
          rw [sv_jn0]
          by_cases h0 : w = 0
          · subst h0
            have g0 : sv_gr 0 = 11 := rfl
            rw [if_pos (show nI 0 = 0 from rfl), (e4_isTaken N h2 h1 (show s < A.1 by omega) (show v < 12 by omega)).1 (hf.2 rfl), sv_bd, if_pos rfl]
          · rw [if_neg (nI_ne0 (by omega) (by omega))]
        rw [go, e4_get N h2 hn hv, sv_bd]
        have mb := (e9_mayBecome N (by omega) h3 h1 hv (nI v)).1 v rfl hf
        have hvl : sv_vl A s w ≤ 99 := by
          unfold sv_vl
          have w7 := h1.2.2.2.2.2.2.1 w s
          have w4 := h1.2.2.2
          split
          · exact w7
          · have : w - 5 = 0 ∨ w - 5 = 1 ∨ w - 5 = 2 := by omega
            rcases this with q | q | q <;> rw [q] <;> omega
        by_cases heq : sv_vl A s w = v
        · rw [if_pos (by rw [heq])]
          refine ⟨_, S, S, rfl, ?_, hs⟩
          rw [g2 N S h3.1, sv_bd, if_neg (sv_ng _ (by omega)), mb, sv_bd, if_neg sv_nz]
          unfold fX9_becomes
          rw [sv_gi hp (by decide), nI_clamp (by omega), sv_mr_g h3 hn hv, sv_li, if_pos (by rw [heq]), sv_bd]
        · have hne : ¬ nI (sv_vl A s w) = nI v := by rw [nI_eq (by omega) (by omega)]; exact heq
          rw [if_neg hne]
          obtain ⟨V0, hV0, v0n, gV0⟩ := e4_set N h2 h1 hv hf
          obtain ⟨d, zz, c1, c2, c3, c4, c5, c6, c7⟩ := h6
          obtain ⟨V, hV, v1, v2, v3, gV1⟩ := e1_add N (S := V0) (d := d) (by rw [(gV0 79 (by omega)).1]; exact c3) (by omega) (fun q => if q = 0 then nI s else if q = 1 then nI w else if q = 2 then nI (sv_vl A s w) else nI v)
          have hV : fX1_add N (nI s) (nI w) (nI (sv_vl A s w)) (nI v) V0 = some ((), V) := hV
          have wV : ∀ a, ¬ ((1 ≤ a ∧ a ≤ 7) ∨ (79 ≤ a ∧ a ≤ 83)) → V.1 a = S.1 a ∧ V.2 a = S.2 a := fun a ha => ⟨((gV1 a (by omega)).1).trans (gV0 a (by omega)).1, ((gV1 a (by omega)).2).trans (gV0 a (by omega)).2⟩
          have vm : sv_mr V A := sv_mr_eq h3 (wV 106 (by omega)).1 (by rw [(wV 105 (by omega)).1])
          obtain ⟨U, hU, u1, u2, u3, u4, gU⟩ := e9_becomes N (by omega) (S := V) (d := d) (pl := sv_pl s w) (v := nI v) (by rw [(wV 105 (by omega)).1]; exact c4) (by omega) hp (sv_mr_g vm hn hv) hne
          have gT : sv_rr (fun a => ¬ sv_P a ∨ (1 ≤ a ∧ a ≤ 7) ∨ a = 106 ∨ (79 ≤ a ∧ a ≤ 83) ∨ (107 ≤ a ∧ a ≤ 109)) (fun k => sv_F k ∨ k = 6 ∨ k = 4 ∨ k = 5) S U := sv_rr_tr (T := V) ⟨fun a _ ha => wV a (by omega), fun k _ => by rw [(wV 105 (by omega)).1], (wV 105 (by omega)).2⟩ (sv_rr_wk gU (fun a ha => by omega) (fun k hk => by omega))
          refine ⟨nI (sv_vl A s w), V, U, ?_, ?_, ⟨sv_sv A s w v, L, b, sv_rl_kc hr gT (sv_sv_wf h1 hv hf) ?_ ?_ (sv_sv_n A s w v) ?_⟩⟩
          · rw [hV0, sv_bd, hV, sv_bd]
          · rw [g2 N V vm.1, sv_bd, if_neg (sv_ng _ (by omega)), (e9_mayBecome N (by omega) vm h1 hv (nI v)).1 v rfl hf, sv_bd, if_neg sv_nz, hU, sv_bd]
          · exact sv_nc_eq v0n (fun k hk => by rw [(gU.1 _ (by omega) (by omega)).1, (gV1 _ (by omega)).1])
          · have := sv_mr_sv vm hn (v := v) hv
            exact sv_mr_eq this u4 (by rw [gU.2.1 6 (by omega), sv_si, if_neg (by omega)])
          · have hdd : sv_dd d ≤ 39 := by unfold sv_dd; split <;> omega
            have uA : ∀ a, 79 ≤ a ∧ a ≤ 83 → U.1 a = V.1 a := fun a ha => (gU.1 a (by omega) (by omega)).1
            refine ⟨sv_dd d + 1, sv_dd d + 1, Nat.le_refl _, by omega, by rw [uA 79 (by omega)]; exact v1, u1, by rw [uA 79 (by omega)]; exact v2, u2, fun k hk => ?_⟩
            have p0 := v3 0 k (by decide) (by omega)
            have p1 := v3 1 k (by decide) (by omega)
            have p2 := v3 2 k (by decide) (by omega)
            have p3 := v3 3 k (by decide) (by omega)
            have r0 := u3 0 k (by decide) (by omega)
            have r1 := u3 1 k (by decide) (by omega)
            have r2 := u3 2 k (by decide) (by omega)
            rw [uA 80 (by omega), uA 81 (by omega), uA 82 (by omega), uA 83 (by omega)]
            by_cases hk2 : k = sv_dd d
            · rw [if_pos hk2] at p0 p1 p2 p3 r0 r1 r2
              have hvlg : sv_vl A s w ≤ sv_gr w := by
                unfold sv_vl
                have w4 := h1.2.2.2
                have w2 := h1.2.1
                rcases sv_lt8 hw8 with rfl | rfl | rfl | rfl | rfl | rfl | rfl | rfl
                · have := (w2 s (by omega)).1; show A.2.1 0 s ≤ 11; omega
                · exact (w2 s (by omega)).2.1
                · exact (w2 s (by omega)).2.2.1
                · exact (w2 s (by omega)).2.2.2.1
                · exact (w2 s (by omega)).2.2.2.2
                · show A.2.2 0 ≤ 11; omega
                · show A.2.2 1 ≤ 50; omega
                · show A.2.2 2 ≤ 11; omega
              exact ⟨s, w, sv_vl A s w, v, hv, hvlg, hvg, p0, p1, p2, p3, r0, r1, r2⟩
            · rw [if_neg hk2] at p0 p1 p2 p3 r0 r1 r2
              have hsh : sv_sh d k < zz := sv_sh_lt hk hk2 c1
              obtain ⟨num, w', a', b', i1, i2, i3, i4, i5, i6, i7, i8, i9, i10⟩ := c7 (sv_sh d k) hsh
              have sV : ∀ a, 79 ≤ a ∧ a ≤ 83 → V0.1 a = S.1 a := fun a ha => (gV0 a (by omega)).1
              have sU : ∀ a, 107 ≤ a ∧ a ≤ 109 → V.1 a = S.1 a := fun a ha => (wV a (by omega)).1
              refine ⟨num, w', a', b', i1, i2, i3, ?_, ?_, ?_, ?_, ?_, ?_, ?_⟩
              · rw [show (80 : Nat) = 80 + 0 from rfl, p0, sV _ (by omega)]; exact i4
              · rw [show (81 : Nat) = 80 + 1 from rfl, p1, sV _ (by omega)]; exact i5
              · rw [show (82 : Nat) = 80 + 2 from rfl, p2, sV _ (by omega)]; exact i6
              · rw [show (83 : Nat) = 80 + 3 from rfl, p3, sV _ (by omega)]; exact i7
              · rw [show (107 : Nat) = 107 + 0 from rfl, r0, sU _ (by omega)]; exact i8
              · rw [show (108 : Nat) = 107 + 1 from rfl, r1, sU _ (by omega)]; exact i9
              · rw [show (109 : Nat) = 107 + 2 from rfl, r2, sU _ (by omega)]; exact i10
      · have h0 : w = 0 := by
          rcases Nat.eq_zero_or_pos w with q | q
          · exact q
          · exact absurd ⟨hvg, fun e => by omega⟩ hf
        subst h0
        have g0 : sv_gr 0 = 11 := rfl
        have hnf : ¬ (∀ t, t < A.1 → A.2.1 0 t = v → t = s) := fun q => hf ⟨hvg, fun _ => q⟩
        rw [sv_jn0, if_pos (show nI 0 = 0 from rfl), (e4_isTaken N h2 h1 (show s < A.1 by omega) (show v < 12 by omega)).2 hnf, sv_bd, if_neg sv_nz]
        refine ⟨_, S, S, rfl, bad (fun v' hv' e => ?_), hs⟩
        have : v = v' := (nI_eq (by omega) (by omega)).mp e
        subst this
        exact hf
    · rw [if_neg hz]
      refine ⟨_, S, S, rfl, bad (fun v' hv' e hf => hz ?_), hs⟩
      rw [e]
      exact (sv_rgI (by omega) (by omega)).mpr hf.1
  · rw [g1 N S h2.1, sv_bd, if_pos rfl]
    exact ⟨_, S, S, rfl, by rw [g2 N S h3.1, sv_bd, if_pos (by decide)], hs⟩
