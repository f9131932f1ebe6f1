/-! told: the reference's side, and the call -/
theorem sv_ct_new (f : Nat → Bool) (d : Nat) (hf : f d = false) : ∀ n, sv_ct (fun c => f c || decide (c = d)) n = sv_ct f n + (if d < n then 1 else 0) := by
  intro n
  induction n with
  | zero => rfl
  | succ n ih =>
    simp only [sv_ct]
    rw [ih]
    by_cases hd : n = d
    · subst hd
      simp [hf]
    · by_cases hq : f n = true
      · simp [hq, show (d < n + 1) ↔ (d < n) by omega]
        omega
      · simp [hq, hd, show (d < n + 1) ↔ (d < n) by omega]
/-- as many cots with one awake as are awake -/
theorem sv_ct_ac {A : sv_A} (hA : sv_wf A) : ∀ n, n ≤ A.1 → sv_ct (fun c => sv_ac A n c) 12 = sv_ct (fun i => decide (i < n) && decide (sv_aw A i)) 12 := by
  have h10 := hA.1
  intro n
  induction n with
  | zero =>
    intro _
    exact sv_ct_congr 12 (fun c _ => by simp [sv_ac])
  | succ n ih =>
    intro hn
    have e := ih (by omega)
    by_cases hq : sv_aw A n
    · have hno : sv_ac A n (A.2.1 0 n) = false := by
        simp only [sv_ac, List.any_eq_false, List.mem_range, Bool.and_eq_true, beq_iff_eq, decide_eq_true_eq, not_and]
        intro s hs hsn
        have := hA.2.2.1 s n (by omega) (by omega) hsn
        omega
      have hb : (decide (n < n) && decide (sv_aw A n)) = false := by simp
      have l := sv_ct_new (fun c => sv_ac A n c) (A.2.1 0 n) hno 12
      have r := sv_ct_new (fun i => decide (i < n) && decide (sv_aw A i)) n hb 12
      rw [if_pos (hA.2.1 n (by omega)).1] at l
      rw [if_pos (by omega)] at r
      have l2 : sv_ct (fun c => sv_ac A (n + 1) c) 12 = sv_ct (fun c => sv_ac A n c || decide (c = A.2.1 0 n)) 12 := by
        refine sv_ct_congr 12 (fun c _ => ?_)
        rw [sv_ac_s]
        simp only [decide_eq_true hq, Bool.and_true]
        congr 1
        by_cases hc : c = A.2.1 0 n
        · subst hc; simp
        · simp [hc, show ¬ A.2.1 0 n = c from fun z => hc z.symm]
      have r2 : sv_ct (fun i => decide (i < n + 1) && decide (sv_aw A i)) 12 = sv_ct (fun i => (decide (i < n) && decide (sv_aw A i)) || decide (i = n)) 12 := by
        refine sv_ct_congr 12 (fun i _ => ?_)
        by_cases hi : i = n
        · subst hi; simp [hq]
        · simp [hi, show (i < n + 1) ↔ (i < n) by omega]
      rw [l2, r2, l, r, e]
    · have l2 : sv_ct (fun c => sv_ac A (n + 1) c) 12 = sv_ct (fun c => sv_ac A n c) 12 := sv_ct_congr 12 (fun c _ => by rw [sv_ac_s]; simp [hq])
      rw [l2, e]
      refine sv_ct_congr 12 (fun i _ => ?_)
      by_cases hi : i = n
      · subst hi; simp [hq]
      · simp [show (i < n + 1) ↔ (i < n) by omega]
def sv_tk (A : sv_A) (k : Nat) : sv_A := (A.1, fun r s => if r = 3 ∧ s < A.1 ∧ sv_aw A s ∧ A.2.1 0 s < k then sv_t9 A s else A.2.1 r s, A.2.2)
theorem sv_tk_r (A : sv_A) (k : Nat) {r : Nat} (hr : r ≠ 3) (s : Nat) : (sv_tk A k).2.1 r s = A.2.1 r s := if_neg (fun z => hr z.1)
theorem sv_tk_wf {A : sv_A} (h : sv_wf A) (j : Nat) : sv_wf (sv_tk A j) := by
  obtain ⟨h1, h2, h3, h4, h5, h6, h7, h8⟩ := h
  have hb : ∀ s, sv_t9 A s ≤ 99 := fun s => by unfold sv_t9; have := h7 3 s; omega
  refine ⟨h1, fun s hs => ?_, fun s t hs ht => ?_, h4, h5, h6, fun k s => ?_, fun k s hs hk => ?_⟩
  · obtain ⟨a, b, c, d, e⟩ := h2 s hs
    refine ⟨?_, ?_, ?_, ?_, ?_⟩
    · rw [sv_tk_r A j (by decide)]; exact a
    · rw [sv_tk_r A j (by decide)]; exact b
    · rw [sv_tk_r A j (by decide)]; exact c
    · show (if 3 = 3 ∧ s < A.1 ∧ sv_aw A s ∧ A.2.1 0 s < j then sv_t9 A s else A.2.1 3 s) ≤ 99
      split
      · exact hb s
      · exact d
    · rw [sv_tk_r A j (by decide)]; exact e
  · rw [sv_tk_r A j (by decide), sv_tk_r A j (by decide)]
    exact h3 s t hs ht
  · show (if k = 3 ∧ s < A.1 ∧ sv_aw A s ∧ A.2.1 0 s < j then sv_t9 A s else A.2.1 k s) ≤ 99
    split
    · exact hb s
    · exact h7 k s
  · have hs : A.1 ≤ s := hs
    show (if k = 3 ∧ s < A.1 ∧ sv_aw A s ∧ A.2.1 0 s < j then sv_t9 A s else A.2.1 k s) = 0
    rw [if_neg (by omega)]
    exact h8 k s hs hk
theorem sv_tk_0 (A : sv_A) : sv_tk A 0 = A := by
  unfold sv_tk
  have : (fun r s => if r = 3 ∧ s < A.1 ∧ sv_aw A s ∧ A.2.1 0 s < 0 then sv_t9 A s else A.2.1 r s) = A.2.1 := by
    funext r s
    rw [if_neg (by omega)]
  rw [this]
theorem sv_tk_12 {A : sv_A} (hA : sv_wf A) : sv_tk A 12 = sv_tA A := by
  unfold sv_tk sv_tA
  congr 2
  funext r s
  by_cases hq : r = 3 ∧ s < A.1 ∧ sv_aw A s
  · rw [if_pos ⟨hq.1, hq.2.1, hq.2.2, (hA.2.1 s hq.2.1).1⟩, if_pos hq]
  · rw [if_neg (fun z => hq ⟨z.1, z.2.1, z.2.2.1⟩), if_neg hq]
theorem sv_tk_s {A : sv_A} (hA : sv_wf A) {s : Nat} (hs : s < A.1) (hq : sv_aw A s) : sv_st (sv_tk A (A.2.1 0 s)) 3 s (sv_t9 A s) = sv_tk A (A.2.1 0 s + 1) := by
  unfold sv_st sv_tk
  congr 2
  funext r t
  show (if r = 3 ∧ t = s then sv_t9 A s else if r = 3 ∧ t < A.1 ∧ sv_aw A t ∧ A.2.1 0 t < A.2.1 0 s then sv_t9 A t else A.2.1 r t) = _
  by_cases h1 : r = 3 ∧ t = s
  · obtain ⟨rfl, rfl⟩ := h1
    rw [if_pos ⟨rfl, rfl⟩, if_pos ⟨rfl, hs, hq, by omega⟩]
  · rw [if_neg h1]
    by_cases h2 : r = 3 ∧ t < A.1 ∧ sv_aw A t ∧ A.2.1 0 t < A.2.1 0 s
    · rw [if_pos h2, if_pos ⟨h2.1, h2.2.1, h2.2.2.1, by omega⟩]
    · rw [if_neg h2, if_neg]
      rintro ⟨z1, z2, z3, z4⟩
      by_cases h3 : A.2.1 0 t = A.2.1 0 s
      · exact h1 ⟨z1, hA.2.2.1 t s z2 hs h3⟩
      · exact h2 ⟨z1, z2, z3, by omega⟩
theorem sv_tk_no {A : sv_A} {k : Nat} (h : ∀ s, s < A.1 → A.2.1 0 s = k → ¬ sv_aw A s) : sv_tk A (k + 1) = sv_tk A k := by
  unfold sv_tk
  congr 2
  funext r t
  by_cases h2 : r = 3 ∧ t < A.1 ∧ sv_aw A t ∧ A.2.1 0 t < k
  · rw [if_pos h2, if_pos ⟨h2.1, h2.2.1, h2.2.2.1, by omega⟩]
  · rw [if_neg h2, if_neg]
    rintro ⟨z1, z2, z3, z4⟩
    by_cases h3 : A.2.1 0 t = k
    · exact h t z2 h3 z3
    · exact h2 ⟨z1, z2, z3, by omega⟩
theorem op_told (N : Nat) (hN : 5000 ≤ N) {S : sw_St} (h : sv_rel S) (x : Int32) : sv_ok (fX8_told N x) (fX9_told N x) S := by
  have hs := h
  obtain ⟨A, L, b, h⟩ := h
  have hr := h
  obtain ⟨h1, h2, h3, h4, h5, h6, h7, h8, h9, h10⟩ := h
  have hn := h1.1
  unfold sv_ok fX8_told fX9_told
  simp only [e8_within, sv_bd, sv_Bi]
  rcases sv_cq 1 (by decide) (M := 1) rfl x with ⟨v, hv, rfl, hx⟩ | hx
  · rw [if_pos hx, e4_canAllBeTold N (by omega) h2 h1, sv_bd, sv_Bi]
    obtain ⟨W1, hW, rW, mW, gW⟩ := e9_begins N (by omega) h3 h1
    -- the reference's answer
    have key : ∃ U, sw_bd (fX9_within N (nI v).toInt64 0 1 S) (fun r1 S1 => if r1 = 0 then some (-1, S1) else sw_bd (fX9_begins N S1) fun _ S2 => sw_fx2 (fun rec1 x2_1 x3_1 S3 => (if x3_1 ≥ (12 : Int32) then (sw_bd (fX9_awakeSet N S3) (fun r3 S4 => (if r3 = 0 then (if (nI v) = 0 then (some (x2_1, S4)) else (sw_bd (fX9_mindAll N S4) (fun r4 S5 => (some (r4, S5))))) else (some ((-2 : Int32), S4))))) else (sw_gd (sw_in x3_1 12) (if (S3.1 113 x3_1.toNatClampNeg) < 0 then (rec1 x2_1 (x3_1 + (1 : Int32)) S3) else (sw_gd (sw_in x3_1 12) (sw_bd (fX9_isAwake N (S3.1 113 x3_1.toNatClampNeg) S3) (fun r5 S6 => (if r5 = 0 then (rec1 x2_1 (x3_1 + (1 : Int32)) S6) else (sw_bd (fX9_isToldAt N x3_1 (9 : Int32) S6) (fun _ S7 => (rec1 (x2_1 + (1 : Int32)) (x3_1 + (1 : Int32)) S7))))))))))) N (0 : Int32) (0 : Int32) S2) = some (if sv_awb (sv_tA A) = 0 then (if nI v = 0 then nI (sv_na A) else nI (sv_sum ((sv_tA A).2.1 3) A.1)) else -2, U) ∧ sv_rr (fun q => q = 113 ∨ q = 114) (fun k => k = 19 ∨ k = 20) S U := by
      rw [sv_64_0, sv_64_1, e9_within, sv_bd, sv_Bi, if_pos hx, hW, sv_bd]
      refine sv_fr2 (Q := fun t => ∃ U, t = some (if sv_awb (sv_tA A) = 0 then (if nI v = 0 then nI (sv_na A) else nI (sv_sum ((sv_tA A).2.1 3) A.1)) else -2, U) ∧ sv_rr (fun q => q = 113 ∨ q = 114) (fun k => k = 19 ∨ k = 20) S U) (fun k a c T => a = nI (sv_ct (fun q => sv_ac A A.1 q) k) ∧ c = nI k ∧ sv_rs T (sv_tk A k) (nI (A.2.2 2)) ∧ sv_rr (fun q => q = 113 ∨ q = 114) (fun k => k = 19 ∨ k = 20) S T) 12 ?_ ?_ N _ _ W1 (by omega) ⟨rfl, rfl, by rw [sv_tk_0]; exact rW, gW⟩
      · rintro k a c T rec hk ⟨rfl, rfl, rT, gT⟩
        left
        have hkw := sv_tk_wf h1 k
        have e0 : T.1 113 k = sv_lie A.1 (A.2.1 0) k := by
          rw [rT.2.2.2.1 k hk]
          show sv_lie A.1 ((sv_tk A k).2.1 0) k = _
          rw [show (sv_tk A k).2.1 0 = A.2.1 0 from funext (fun q => sv_tk_r A k (by decide) q)]
        rw [if_neg (show ¬ nI k ≥ (12 : Int32) from nI_ge hk (by decide)), sv_gi hk (by decide), nI_clamp (by omega), e0]
        rcases sv_lie_r h1 k with ⟨s, hsn, hsk, hlie⟩ | ⟨hno, hlie⟩
        · have hm : (sv_tk A k).2.1 3 s = A.2.1 3 s := if_neg (by omega)
          have haw : sv_aw (sv_tk A k) s ↔ sv_aw A s := by
            show (A.2.2 1 < (sv_tk A k).2.1 3 s) ↔ _
            rw [hm]
          have hac := sv_ac_at h1 hsn
          rw [hsk] at hac
          rw [hlie, if_neg (nI_pos (by omega)), sv_gi hk (by decide), e9_isAwake N rT hkw hsn, sv_bd, sv_Bi]
          by_cases hq : sv_aw A s
          · have h1d : (sv_tk A k).2.1 1 s = A.2.1 1 s := sv_tk_r A k (by decide) s
            have h0d : (sv_tk A k).2.1 0 s = k := (sv_tk_r A k (by decide) s).trans hsk
            rw [if_pos (haw.mpr hq), (e9_isToldAt N rT hkw hk 9).1 s hsn h0d, sv_bd, hm, h1d, sv_t9_cl (h1.2.1 s hsn).2.2.2.1 (h1.2.1 s hsn).2.1]
            refine ⟨_, _, _, ⟨?_, nI_1 k, ?_, sv_rr_tr gT (sv_rr_si T 114 s _ (by decide) (Or.inr rfl))⟩, rfl⟩
            · show _ = nI (sv_ct (fun q => sv_ac A A.1 q) k + (if sv_ac A A.1 k = true then 1 else 0))
              rw [if_pos (show sv_ac A A.1 k = true by rw [hac]; simpa using hq)]
              exact nI_1 _
            · have := sv_rs_st rT (s := s) (sv_t9 A s)
              rw [← hsk] at this ⊢
              rw [sv_tk_s h1 hsn hq] at this
              exact this
          · rw [if_neg (fun z => hq (haw.mp z))]
            refine ⟨_, _, _, ⟨?_, nI_1 k, ?_, gT⟩, rfl⟩
            · show _ = nI (sv_ct (fun q => sv_ac A A.1 q) k + (if sv_ac A A.1 k = true then 1 else 0))
              rw [if_neg (show ¬ sv_ac A A.1 k = true by rw [hac]; simpa using hq), Nat.add_zero]
            · rw [sv_tk_no (fun t ht htk => by rw [h1.2.2.1 t s ht hsn (htk.trans hsk.symm)]; exact hq)]
              exact rT
        · rw [hlie, if_pos (by decide)]
          refine ⟨_, _, _, ⟨?_, nI_1 k, ?_, gT⟩, rfl⟩
          · show _ = nI (sv_ct (fun q => sv_ac A A.1 q) k + (if sv_ac A A.1 k = true then 1 else 0))
            rw [if_neg (show ¬ sv_ac A A.1 k = true by rw [sv_ac_no hno]; decide), Nat.add_zero]
          · rw [sv_tk_no (fun t ht htk => absurd htk (hno t ht))]
            exact rT
      · rintro a c T rec ⟨rfl, rfl, rT, gT⟩
        rw [sv_tk_12 h1] at rT
        have hw := sv_tA_wf h1
        rw [if_pos (show nI 12 ≥ (12 : Int32) from Int32.le_refl _), e9_awakeSet N (by omega) rT hw, sv_bd]
        have hz : (nI (sv_awb (sv_tA A)) = (0 : Int32)) ↔ sv_awb (sv_tA A) = 0 := by
          have := sv_awb_lt hw
          rw [show (0 : Int32) = nI 0 from rfl, nI_eq (by omega) (by decide)]
        by_cases hq : sv_awb (sv_tA A) = 0
        · rw [if_pos (hz.mpr hq), if_pos hq]
          by_cases hv0 : nI v = 0
          · rw [if_pos hv0, if_pos hv0, sv_ct_ac h1 A.1 (Nat.le_refl _)]
            exact ⟨T, rfl, gT⟩
          · rw [if_neg hv0, if_neg hv0, e9_mindAll N (by omega) rT hw, sv_bd]
            exact ⟨T, rfl, gT⟩
        · rw [if_neg (fun z => hq (hz.mp z)), if_neg hq]
          exact ⟨T, rfl, gT⟩
    obtain ⟨U, hU, gU⟩ := key
    have hrel : sv_rel U := ⟨A, L, b, sv_rl_same hr (sv_same_b gU)⟩
    by_cases hq : sv_awb (sv_tA A) = 0
    · rw [if_pos hq] at hU
      rw [if_pos hq]
      by_cases hv0 : nI v = 0
      · rw [if_pos hv0] at hU
        rw [if_pos hv0, e4_howManyAwake N (by omega) h2 h1, sv_bd]
        exact ⟨_, S, U, rfl, hU, hrel⟩
      · rw [if_neg hv0] at hU
        rw [if_neg hv0, e4_mindOfAllTold N (by omega) h2 h1, sv_bd]
        exact ⟨_, S, U, rfl, hU, hrel⟩
    · rw [if_neg hq] at hU
      rw [if_neg hq]
      exact ⟨_, S, U, rfl, hU, hrel⟩
  · rw [if_neg hx]
    exact ⟨_, _, S, rfl, by rw [sv_64_0, sv_64_1, e9_within, sv_bd, sv_Bi, if_neg hx], hs⟩
