/-! hour, telling, image, back -/
def sv_kq (S T : sw_St) : Prop := sv_rr (fun a => ¬ sv_P a ∨ (1 ≤ a ∧ a ≤ 7) ∨ a = 106 ∨ (84 ≤ a ∧ a ≤ 88) ∨ (119 ≤ a ∧ a ≤ 121)) (fun k => sv_F k ∨ k = 6 ∨ k = 28 ∨ k = 29) S T
theorem sv_kq_tr {S T U : sw_St} (h : sv_kq S T) (g : sv_kq T U) : sv_kq S U := sv_rr_tr h g
theorem sv_kq_ag {P : Nat → Prop} {S T : sw_St} (h : sv_ag P S T) (hP : ∀ a, P a → ¬ sv_P a ∨ (1 ≤ a ∧ a ≤ 7) ∨ a = 106 ∨ (84 ≤ a ∧ a ≤ 88) ∨ (119 ≤ a ∧ a ≤ 121)) (h5 : ¬ P 105) : sv_kq S T := ⟨fun a _ ha => h a (fun z => ha (hP a z)), fun k _ => by rw [(h 105 h5).1], (h 105 h5).2⟩
theorem sv_kq_rr {P F : Nat → Prop} {S T : sw_St} (h : sv_rr P F S T) (hP : ∀ a, P a → ¬ sv_P a ∨ (1 ≤ a ∧ a ≤ 7) ∨ a = 106 ∨ (84 ≤ a ∧ a ≤ 88) ∨ (119 ≤ a ∧ a ≤ 121)) (hF : ∀ k, F k → sv_F k ∨ k = 6 ∨ k = 28 ∨ k = 29) : sv_kq S T := sv_rr_wk h hP hF
theorem sv_kq_si (S : sw_St) (a k : Nat) (v : Int32) (h : (1 ≤ a ∧ a ≤ 7) ∨ a = 106 ∨ (84 ≤ a ∧ a ≤ 88) ∨ (119 ≤ a ∧ a ≤ 121)) : sv_kq S (sw_si S a k v) := sv_rr_si S a k v (by omega) (Or.inr h)
theorem sv_kq_sf (S : sw_St) (k : Nat) (v : Int32) (h : sv_F k ∨ k = 6 ∨ k = 28 ∨ k = 29) : sv_kq S (sw_si S 105 k v) := sv_rr_sf S k v h
theorem sv_rl_kq {S T : sw_St} {A B : sv_A} {L : sv_L} {b : Nat} (h : sv_rl S A L b) (g : sv_kq S T) (hB : sv_wf B) (h2' : sv_nc T 1 B) (h3' : sv_mr T B) (hn : A.1 ≤ B.1) (hD : sv_rD T B.1) : sv_rl T B L b := by
  obtain ⟨h1, h2, h3, h4, h5, h6, h7, h8, h9, h10⟩ := h
  have go : ∀ a, sv_P a → ¬ ((1 ≤ a ∧ a ≤ 7) ∨ a = 106 ∨ (84 ≤ a ∧ a ≤ 88) ∨ (119 ≤ a ∧ a ≤ 121)) → T.1 a = S.1 a ∧ T.2 a = S.2 a := fun a ha hb => g.1 a (by unfold sv_P at ha; omega) (by intro z; rcases z with z | z; exact z ha; exact hb z)
  have e : ∀ a, sv_P a → ¬ ((1 ≤ a ∧ a ≤ 7) ∨ a = 106 ∨ (84 ≤ a ∧ a ≤ 88) ∨ (119 ≤ a ∧ a ≤ 121)) → T.1 a = S.1 a := fun a ha hb => (go a ha hb).1
  have e2 : ∀ a, sv_P a → ¬ ((1 ≤ a ∧ a ≤ 7) ∨ a = 106 ∨ (84 ≤ a ∧ a ≤ 88) ∨ (119 ≤ a ∧ a ≤ 121)) → T.2 a = S.2 a := fun a ha hb => (go a ha hb).2
  have f : ∀ k, ¬ (sv_F k ∨ k = 6 ∨ k = 28 ∨ k = 29) → T.1 105 k = S.1 105 k := g.2.1
  unfold sv_P at e e2
  unfold sv_F at f
  refine ⟨hB, h2', h3', sv_lc_of h4 (e _ (by omega) (by omega)) (e _ (by omega) (by omega)) (e _ (by omega) (by omega)), sv_lr_of h5 (f _ (by omega)) (e _ (by omega) (by omega)), ?_, sv_rT_eq h7 (by rw [e 16 (by omega) (by omega)]) (e _ (by omega) (by omega)) (e _ (by omega) (by omega)) (f _ (by omega)), hD, sv_rB_eq h9 (fun a ha => e a (by omega) (by omega)) (f _ (by omega)) (f _ (by omega)), fun d hd => sv_s1_eq (h10 d hd) (e _ (by omega) (by omega)) (e2 _ (by omega) (by omega)) (e _ (by omega) (by omega)) (e _ (by omega) (by omega)) (e _ (by omega) (by omega)) (e2 _ (by omega) (by omega))⟩
  obtain ⟨d, z, q1, q2, q3, q4, q5, q6, q7⟩ := sv_rC_eq (T := T) h6 (fun a ha => e a (by omega) (by omega)) (f _ (by omega)) (f _ (by omega))
  refine ⟨d, z, q1, q2, q3, q4, q5, q6, fun k hk => ?_⟩
  obtain ⟨num, w, a, c, hh, rest⟩ := q7 k hk
  exact ⟨num, w, a, c, by omega, rest⟩
theorem e2_add (N : Nat) {k : Nat} (hk : k < 5) (v : Int32) (S : sw_St) : fX2_add N (nI k) v S = some ((), sw_si S 85 k (S.1 85 k + v)) := by
  unfold fX2_add
  rw [sv_gi hk (by decide), sv_gi hk (by decide), nI_clamp (by omega), sv_ls]
/-- what was told counts on alike -/
theorem sv_rD_add {S T : sw_St} {n : Nat} (h : sv_rD S n) (f : Nat → Int32) (h1 : ∀ k, k < 5 → T.1 85 k = S.1 85 k + f k) (h2 : ∀ k, k < 5 → T.1 119 k = S.1 119 k + f k) (e : ∀ a, a = 84 ∨ a = 86 ∨ a = 87 ∨ a = 88 ∨ a = 120 ∨ a = 121 → T.1 a = S.1 a) (e4 : T.1 105 28 = S.1 105 28) (e5 : T.1 105 29 = S.1 105 29) : sv_rD T n := by
  unfold sv_rD
  rw [e 84 (by omega), e 86 (by omega), e 87 (by omega), e 88 (by omega), e 120 (by omega), e 121 (by omega), e4, e5]
  exact ⟨fun k hk => by rw [h1 k hk, h2 k hk, h.1 k hk], h.2⟩
theorem sv_mr_of {S : sw_St} {A B : sv_A} {T : sw_St} (h : sv_mr S A) (h6 : T.1 105 6 = nI B.1) (g : ∀ k s, k < 5 → s < 10 → T.1 106 (10 * k + s) = nI (B.2.1 k s)) (j : ∀ j, j < 3 → T.1 106 (50 + j) = nI (B.2.2 j)) : sv_mr T B := ⟨h6, g, j⟩
theorem op_hour (N : Nat) (hN : 5000 ≤ N) {S : sw_St} (h : sv_rel S) (x : Int32) : sv_ok (fX8_hour N x) (fX9_hour N x) S := by
  have hs := h
  obtain ⟨A, L, b, h⟩ := h
  have hr := h
  obtain ⟨h1, h2, h3, h4, h5, h6, h7, h8, h9, h10⟩ := h
  have hn := h1.1
  unfold sv_ok fX8_hour fX9_hour
  simp only [e8_isCot, sv_bd, sv_Bi]
  rcases sv_cq 11 (by decide) (M := 11) rfl x with ⟨c, hc, rfl, hx⟩ | hx
  · rw [if_pos hx, e4_awakeSwords N (by omega) h2 h1, sv_bd, sv_ls]
    -- the class
    let A2 := sv_sg A 2 c
    have hA2 : sv_wf A2 := sv_wf_sg h1 (j := 2) (show c ≤ 11 from hc) (by decide)
    have n3 : sv_nc (sw_si S 1 3 (nI c)) 1 A2 := sv_nc_sg h2 2 c (by decide)
    have l3 : sv_lc L (sw_si S 1 3 (nI c)) := sv_lc_ag (P := fun a => a = 1) h4 (sv_ag_si S 1 3 _ rfl) (by omega) (by omega) (by omega)
    obtain ⟨U, hU, nU, gU⟩ := e4_passHour N (by omega) (Or.inl rfl) n3 hA2 l3 (nI c)
    let B := sv_hr L A2 (nI c)
    have hB : sv_wf B := sv_hr_wf hA2
    rw [hU, sv_bd, e4_awakeSwords N (by omega) nU hB, sv_bd, show (0 : Int32) = nI 0 from rfl, e2_add N (by decide), sv_bd]
    have hB1 : B.1 = A.1 := rfl
    rw [sv_new (fun s => decide (sv_aw B s)) (fun s => decide (sv_aw A s)) (Nat.le_trans hB.1 (by decide)) (by omega)]
    rw [e6_bc N (sv_wb_lt _ 12), sv_bd, show (4 : Int32) = nI 4 from rfl, e2_add N (by decide), sv_bd, e6_bc N (sv_awb_lt hB), sv_bd, sv_wb_un, sv_wb_un]
    generalize hw : sv_ct (fun i => decide (i < 12) && (decide (i < B.1) && decide (sv_aw B i) && !(decide (i < A.1) && decide (sv_aw A i)))) 12 = w
    let V := sw_si (sw_si U 85 0 (U.1 85 0 + 1)) 85 4 ((sw_si U 85 0 (U.1 85 0 + 1)).1 85 4 + nI w)
    have gV : sv_ag (fun q => (q = 1 ∨ q = 5 ∨ q = 8 ∨ q = 14 ∨ q = 15) ∨ q = 85) S V := sv_ag_tr (sv_ag_wk (sv_ag_si S 1 3 (nI c) (P := fun q => q = 1) rfl) (fun a ha => by omega)) (sv_ag_tr (sv_ag_wk gU (fun a ha => by omega)) (sv_ag_tr (sv_ag_si U 85 0 _ (Or.inr rfl)) (sv_ag_si _ 85 4 _ (Or.inr rfl))))
    have nV : sv_nc V 1 B := sv_nc_eq nU (fun k hk => by show (sw_si (sw_si U 85 0 _) 85 4 _).1 (1 + k) = _; unfold sw_si; simp [show ¬ 1 + k = 85 by omega])
    -- the reference
    have mV : sv_mr V A := sv_mr_eq h3 (gV 106 (by omega)).1 (by rw [(gV 105 (by omega)).1])
    have lV : sv_lr L V := sv_lr_of h5 (by rw [(gV 105 (by omega)).1]) (gV 111 (by omega)).1
    obtain ⟨W1, hW, rW, mW, gW⟩ := e9_begins N (by omega) mV h1
    let W2 := sw_si W1 105 20 (nI c)
    have rW2 : sv_rs W2 A (nI c) := by
      obtain ⟨a1, a2, a3, a4, a5, a6, a7⟩ := rW
      refine ⟨?_, fun s hs => ?_, ?_, fun q hq => ?_, fun s hs => ?_, ?_, ?_⟩
      · show (sw_si W1 105 20 (nI c)).1 105 6 = _; rw [sv_si, if_neg (by omega)]; exact a1
      · show (sw_si W1 105 20 (nI c)).1 106 (10 + s) = _ ∧ (sw_si W1 105 20 (nI c)).1 106 (20 + s) = _ ∧ (sw_si W1 105 20 (nI c)).1 106 (40 + s) = _
        simp only [sv_si]; rw [if_neg (by omega), if_neg (by omega), if_neg (by omega)]; exact a2 s hs
      · show (sw_si W1 105 20 (nI c)).1 106 51 = _; rw [sv_si, if_neg (by omega)]; exact a3
      · show (sw_si W1 105 20 (nI c)).1 113 q = _; rw [sv_si, if_neg (by omega)]; exact a4 q hq
      · show (sw_si W1 105 20 (nI c)).1 114 s = _; rw [sv_si, if_neg (by omega)]; exact a5 s hs
      · show (sw_si W1 105 20 (nI c)).1 105 19 = _; rw [sv_si, if_neg (by omega)]; exact a6
      · show (sw_si W1 105 20 (nI c)).1 105 20 = _; rw [sv_si, if_pos ⟨rfl, rfl⟩]
    have gW2 : sv_rr (fun q => q = 113 ∨ q = 114) (fun k => k = 19 ∨ k = 20) V W2 := sv_rr_tr gW (sv_rr_sf W1 20 _ (Or.inr rfl))
    have lW2 : sv_lr L W2 := sv_lr_rr lV gW2 (by omega) (by omega)
    obtain ⟨X, hX, rX, gX⟩ := e9_goesHour N (by omega) rW2 h1 lW2
    let B0 := sv_hr L A (nI c)
    have hB0 : sv_wf B0 := sv_hr_wf h1
    have aw0 : ∀ i, sv_aw B0 i = sv_aw B i := fun i => rfl
    obtain ⟨Y, hY, mY, gY⟩ := e9_keepsMind N (by omega) (A := B0) hB0.1 rX.1 rX.2.2.2.2.1
    let Z1 := sw_si Y 106 50 (Y.1 105 19)
    let Z2 := sw_si Z1 106 52 (nI c)
    let Z3 := sw_si Z2 119 0 (Z2.1 119 0 + 1)
    have gZ3 : sv_rr (fun a => a = 106 ∨ a = 119) (fun _ => False) Y Z3 := sv_rr_tr (sv_rr_si Y 106 50 _ (by decide) (Or.inl rfl)) (sv_rr_tr (sv_rr_si _ 106 52 _ (by decide) (Or.inl rfl)) (sv_rr_si _ 119 0 _ (by decide) (Or.inr rfl)))
    have q19 : Y.1 105 19 = nI (B0.2.2 0) := by rw [gY.2.1 19 (fun z => z)]; exact rX.2.2.2.2.2.1
    -- rows behind it all
    have row : ∀ k, Z3.1 106 k = if k = 52 then nI c else if k = 50 then nI (B0.2.2 0) else if 30 ≤ k ∧ k < 30 + A.1 then nI (B0.2.1 3 (k - 30)) else X.1 106 k := by
      intro k
      show (sw_si (sw_si (sw_si Y 106 50 (Y.1 105 19)) 106 52 (nI c)) 119 0 _).1 106 k = _
      rw [sv_si, if_neg (by omega), sv_si]
      by_cases k52 : k = 52
      · rw [if_pos ⟨rfl, k52⟩, if_pos k52]
      · rw [if_neg (by omega), if_neg k52, sv_si]
        by_cases k50 : k = 50
        · rw [if_pos ⟨rfl, k50⟩, if_pos k50, q19]
        · rw [if_neg (by omega), if_neg k50]
          exact mY k
    have x6 : X.1 106 = V.1 106 := ((gX.1 106 (by decide) (by omega)).1).trans (gW2.1 106 (by decide) (by omega)).1
    have rZ : sv_rs Z3 B0 (nI c) := by
      obtain ⟨a1, a2, a3, a4, a5, a6, a7⟩ := rX
      have hb0 : B0.1 = A.1 := rfl
      have f : ∀ k, Z3.1 105 k = X.1 105 k := fun k => (gZ3.2.1 k (fun z => z)).trans (gY.2.1 k (fun z => z))
      refine ⟨by rw [f]; exact a1, fun s hs => ?_, ?_, fun q hq => ?_, fun s hs => ?_, by rw [f]; exact a6, by rw [f]; exact a7⟩
      · have := a2 s hs
        rw [row, row, row, if_neg (by omega), if_neg (by omega), if_neg (by omega), if_neg (by omega), if_neg (by omega), if_neg (by omega), if_neg (by omega), if_neg (by omega), if_neg (by omega)]
        exact this
      · rw [row, if_neg (by omega), if_neg (by omega), if_neg (by omega)]; exact a3
      · rw [(gZ3.1 113 (by decide) (by omega)).1, (gY.1 113 (by decide) (by omega)).1]; exact a4 q hq
      · rw [(gZ3.1 114 (by decide) (by omega)).1, (gY.1 114 (by decide) (by omega)).1]; exact a5 s hs
    let Z4 := sw_si Z3 119 4 (Z3.1 119 4 + nI w)
    have rZ4 : sv_rs Z4 B0 (nI c) := sv_rs_rr (P := fun a => a = 119) (F := fun _ => False) rZ (sv_rr_si Z3 119 4 _ (by decide) rfl) (by omega) (by omega) (by omega) (fun z => z) (fun z => z) (fun z => z)
    refine ⟨_, V, Z4, rfl, ?_, ⟨B, L, b, ?_⟩⟩
    · rw [show (nI 0 : Int32) = 0 from rfl, e9_isCot, sv_bd, sv_Bi, if_pos hx, hW, sv_bd, e9_awakeSet N (by omega) rW h1, sv_bd, sv_ls, hX, sv_bd, hY, sv_bd, show (50 : Int32) = nI 50 from rfl, sv_gi (by decide) (by decide), nI_clamp (by decide), sv_ls, show (52 : Int32) = nI 52 from rfl, sv_gi (by decide) (by decide), nI_clamp (by decide), sv_ls, show (0 : Int32) = nI 0 from rfl, sv_gi (k := 0) (by decide) (by decide), nI_clamp (n := 0) (by decide), sv_gi (k := 0) (by decide) (by decide), sv_ls, sv_gi (k := 4) (by decide) (by decide), nI_clamp (n := 4) (by decide)]
      show sw_bd (fX9_awakeSet N Z3) _ = _
      rw [e9_awakeSet N (by omega) rZ hB0, sv_bd, sv_new (fun s => decide (sv_aw B0 s)) (fun s => decide (sv_aw A s)) (Nat.le_trans hB0.1 (by decide)) (by omega), e9_bitsOf N (by omega) (sv_wb_lt _ 12), sv_bd, sv_gi (k := 4) (by decide) (by decide), sv_ls, sv_wb_un]
      show sw_bd (fX9_awakeMany N (sw_si Z3 119 4 (Z3.1 119 4 + nI (sv_ct (fun i => decide (i < 12) && (decide (i < B.1) && decide (sv_aw B i) && !(decide (i < A.1) && decide (sv_aw A i)))) 12)))) _ = _
      rw [hw]
      show sw_bd (fX9_awakeMany N Z4) _ = _
      rw [e9_awakeMany N (by omega) rZ4 hB0, sv_bd]
      rfl
    · have gA : sv_kq S V := sv_kq_ag gV (fun a ha => by unfold sv_P; omega) (by omega)
      have gBx : sv_rr (fun q => (q = 112 ∨ q = 113 ∨ q = 114 ∨ q = 115) ∨ q = 106 ∨ q = 119) (fun k => (11 ≤ k ∧ k ≤ 15) ∨ k = 19 ∨ k = 20) V Z4 := sv_rr_tr (sv_rr_wk gW2 (fun a ha => by omega) (fun k hk => by omega)) (sv_rr_tr (sv_rr_wk gX (fun a ha => by omega) (fun k hk => by omega)) (sv_rr_tr (sv_rr_wk gY (fun a ha => by omega) (fun k hk => hk.elim)) (sv_rr_tr (sv_rr_wk gZ3 (fun a ha => by omega) (fun k hk => hk.elim)) (sv_rr_si Z3 119 4 _ (by decide) (by omega)))))
      have gB : sv_kq V Z4 := sv_kq_rr gBx (fun a ha => by unfold sv_P; omega) (fun k hk => by unfold sv_F; omega)
      refine sv_rl_kq hr (sv_kq_tr gA gB) hB ?_ ?_ (Nat.le_refl _) ?_
      · exact sv_nc_eq nV (fun k hk => (gBx.1 (1 + k) (by omega) (by omega)).1)
      · refine ⟨?_, fun k s hk hs => ?_, fun j hj => ?_⟩
        · rw [gBx.2.1 6 (by omega)]; exact mV.1
        · show (sw_si Z3 119 4 _).1 106 (10 * k + s) = nI (if k = 3 ∧ s < A.1 then sv_nm L A (nI c) s else A.2.1 k s)
          rw [sv_si, if_neg (by omega), row, if_neg (by omega), if_neg (by omega)]
          by_cases hq : k = 3 ∧ s < A.1
          · rw [if_pos (by omega), if_pos hq]
            show nI (if 3 = 3 ∧ 10 * k + s - 30 < A.1 then sv_nm L A (nI c) (10 * k + s - 30) else _) = _
            rw [if_pos (by omega), show 10 * k + s - 30 = s by omega]
          · rw [if_neg (by omega), if_neg hq, x6]
            exact mV.2.1 k s hk hs
        · show (sw_si Z3 119 4 _).1 106 (50 + j) = nI (if j = 0 then (A.2.2 0 + 1) % 12 else if j = 2 then c else A.2.2 j)
          rw [sv_si, if_neg (by omega), row]
          have : j = 0 ∨ j = 1 ∨ j = 2 := by omega
          rcases this with rfl | rfl | rfl
          · rw [if_neg (by omega), if_pos rfl, if_pos rfl]; rfl
          · rw [if_neg (by omega), if_neg (by omega), if_neg (by omega), if_neg (by omega), if_neg (by omega), x6]
            exact mV.2.2 1 (by omega)
          · rw [if_pos rfl, if_neg (by omega), if_pos rfl]
      · have u5 : U.1 85 = S.1 85 := by rw [(gU 85 (by omega)).1]; unfold sw_si; simp
        have z9 : Y.1 119 = S.1 119 := by rw [(gY.1 119 (by decide) (by omega)).1, (gX.1 119 (by decide) (by omega)).1, (gW2.1 119 (by decide) (by omega)).1, (gV 119 (by omega)).1]
        refine sv_rD_add (S := S) h8 (fun k => (if k = 0 then 1 else 0) + (if k = 4 then nI w else 0)) (fun k hk => ?_) (fun k hk => ?_) (fun a ha => ?_) ?_ ?_
        · rw [(gBx.1 85 (by decide) (by omega)).1]
          show (sw_si (sw_si U 85 0 (U.1 85 0 + 1)) 85 4 _).1 85 k = _
          rw [sv_si, sv_si, sv_si, u5]
          have : k = 0 ∨ k = 1 ∨ k = 2 ∨ k = 3 ∨ k = 4 := by omega
          rcases this with rfl | rfl | rfl | rfl | rfl <;> simp
        · show (sw_si (sw_si (sw_si (sw_si Y 106 50 _) 106 52 _) 119 0 _) 119 4 _).1 119 k = _
          have : k = 0 ∨ k = 1 ∨ k = 2 ∨ k = 3 ∨ k = 4 := by omega
          rcases this with rfl | rfl | rfl | rfl | rfl <;> simp [Z3, Z2, Z1, sv_si, z9]
        · rw [(gBx.1 a (by omega) (by omega)).1, (gV a (by omega)).1]
        · rw [gBx.2.1 28 (by omega), (gV 105 (by omega)).1]
        · rw [gBx.2.1 29 (by omega), (gV 105 (by omega)).1]
  · rw [if_neg hx]
    exact ⟨_, _, S, rfl, by rw [e9_isCot, sv_bd, sv_Bi, if_neg hx], hs⟩
