/-! put, element -/
theorem sv_ng (k : Nat) (hk : k < 2 ^ 31) : ¬ nI k < (0 : Int32) := Int32.not_lt.mpr (by rw [Int32.le_iff_toInt_le, nI_toInt hk]; show (0 : Int) ≤ _; omega)
theorem sv_ge0 (k : Nat) (hk : k < 2 ^ 31) : nI k ≥ (0 : Int32) := Int32.not_lt.mp (sv_ng k hk)
/-- a place of a row of sz: there, or not -/
theorem sv_pl_cs (y : Int32) {sz : Nat} (hsz : sz ≤ 60) : (∃ j : Nat, j < sz ∧ y = nI j ∧ sv_hp y 1 sz) ∨ (¬ sv_hp y 1 sz ∧ (y < 0 ∨ (¬ y < 0 ∧ y ≥ nI sz))) := by
  by_cases h : y < 0
  · exact Or.inr ⟨fun z => z.1 h, Or.inl h⟩
  · by_cases hq : y ≥ nI sz
    · refine Or.inr ⟨fun z => ?_, Or.inr ⟨h, hq⟩⟩
      have q1 := z.2.2
      have q2 := Int32.le_iff_toInt_le.mp hq
      rw [nI_toInt (by omega)] at q2
      have q3 : (1 : Int32).toInt = 1 := rfl
      omega
    · have q0 := Int32.le_iff_toInt_le.mp (Int32.not_lt.mp h)
      have q2 := Int32.lt_iff_toInt_lt.mp (Int32.not_le.mp hq)
      rw [nI_toInt (by omega)] at q2
      have q0 : (0 : Int) ≤ y.toInt := q0
      refine Or.inl ⟨y.toInt.toNat, by omega, ?_, h, by decide, by have q3 : (1 : Int32).toInt = 1 := rfl; omega⟩
      apply Int32.toInt_inj.mp
      rw [nI_toInt (by omega)]
      omega
/-- what S's shelf d is, as a row -/
def sv_s2 (S : sw_St) (d so sz : Nat) : Prop := so ≤ 4 ∧ sz ≤ 60 ∧ S.1 124 d = nI (50 + so) ∧ S.1 (93 + 2 * d) 1 = nI so ∧ S.1 (93 + 2 * d) 2 = nI sz ∧ S.1 125 d = nI sz ∧ (∀ i, i < 60 → S.2 126 (60 * d + i) = S.2 (93 + 2 * d + 1) i) ∧ (so = 0 → ∀ i, i < 60 → ∃ x : Int32, S.2 (93 + 2 * d + 1) i = x.toInt64 ∧ x.toInt8.toInt32 = x)
theorem e_ref (N : Nat) {S : sw_St} {b d : Nat} (hb : b ≤ 50) (hd : d < 6) (h : sv_s1 S b d) (y : Int32) : (∃ r, ¬ r = 0 ∧ fX8_refusalOfElement N (nI d) y S = some (r, S) ∧ fX9_refusal N (nI d) y S = some (r, S)) ∨ (∃ so sz j : Nat, sv_s2 S d so sz ∧ S.1 (93 + 2 * d) 4 = 2 ∧ j < sz ∧ y = nI j ∧ fX8_refusalOfElement N (nI d) y S = some (0, S) ∧ ∀ T : sw_St, T.1 124 = S.1 124 → T.1 125 = S.1 125 → fX9_refusal N (nI d) y T = some (0, T)) := by
  have hx : (0 : Int32) ≤ nI d ∧ nI d ≤ 5 := (sv_rgI (m := 5) (by omega) (by decide)).mpr (by omega)
  unfold fX8_refusalOfElement fX9_refusal
  simp only [e8_isShelf, e9_isShelf, sv_bd, sv_Bi, e5_holdsNothing, e5_holdsRow]
  simp only [if_pos hx, sv_gi hd (show 6 < 2 ^ 31 by decide), nI_clamp (show d < 2 ^ 31 by omega)]
  rcases h with ⟨k4, k5⟩ | ⟨k4, w, hw, k5, -⟩ | ⟨k4, so, sz, hk⟩
  · left
    refine ⟨-11, by decide, by rw [if_pos k4], ?_⟩
    rw [k5, if_neg (by decide)]
  · left
    refine ⟨-12, by decide, by rw [if_neg (by rw [k4]; decide), if_neg (by rw [k4]; decide)], ?_⟩
    rw [k5, if_pos (sv_ge0 w (by omega)), if_neg (show ¬ nI w ≥ (50 : Int32) from nI_ge (a := w) (b := 50) (by omega) (by decide))]
  · obtain ⟨q1, q2, q3, q4, q5, q6, q7, q8⟩ := hk
    obtain ⟨p1, p2⟩ := e5_hasPlaces N (93 + 2 * d) y 1 S q2 q5
    have g50 : nI (50 + so) ≥ (50 : Int32) := by
      rw [ge_iff_le, Int32.le_iff_toInt_le, nI_toInt (by omega)]
      show (50 : Int) ≤ _
      omega
    rcases sv_pl_cs y q2 with ⟨j, hj, rfl, hp⟩ | ⟨hn, hp⟩
    · right
      refine ⟨so, sz, j, ⟨q1, q2, q3, q4, q5, q6, q7, q8⟩, k4, hj, rfl, ?_, fun T t1 t2 => ?_⟩
      · rw [if_neg (by rw [k4]; decide), if_pos k4, p1 hp, sv_bd, if_neg sv_nz]
      · rw [t1, t2, q3, q6, if_pos (sv_ge0 _ (by omega)), if_pos g50, if_neg (sv_ng j (by omega)), if_neg (show ¬ nI j ≥ nI sz from nI_ge hj (by omega))]
    · left
      refine ⟨-13, by decide, ?_, ?_⟩
      · rw [if_neg (by rw [k4]; decide), if_pos k4, p2 hn, sv_bd, if_pos rfl]
      · rw [q3, q6, if_pos (sv_ge0 _ (by omega)), if_pos g50]
        rcases hp with hp | ⟨hp, hp2⟩
        · rw [if_pos hp]
        · rw [if_neg hp, if_pos hp2]
theorem op_element (N : Nat) (hN : 5000 ≤ N) {S : sw_St} (h : sv_rel S) (x y : Int32) : sv_ok (fX8_element N x y) (fX9_element N x y) S := by
  have hs := h
  obtain ⟨A, L, b, h⟩ := h
  obtain ⟨h1, h2, h3, h4, h5, h6, h7, h8, h9, h10⟩ := h
  unfold sv_ok fX8_element fX9_element
  rcases sv_cq 5 (by decide) (M := 5) rfl x with ⟨d, hd, rfl, hx⟩ | hx
  · rcases e_ref N h9.1 (by omega) (h10 d (by omega)) y with ⟨r, hr, e1, e2⟩ | ⟨so, sz, j, ⟨q1, q2, q3, q4, q5, q6, q7, q8⟩, k4, hj, rfl, e1, e2⟩
    · exact ⟨_, S, S, by rw [e1, sv_bd, if_neg hr], by rw [e2, sv_bd, if_neg hr], hs⟩
    · have hk : (60 : Int32) * nI d + nI j = nI (60 * d + j) := by rw [show (60 : Int32) * nI d = nI (60 * d) from pk_mul 60 d, nI_add]
      refine ⟨S.2 (93 + 2 * d + 1) j, S, S, ?_, ?_, hs⟩
      · rw [e1, sv_bd, if_pos rfl, sv_gi (by omega) (by decide), sv_gi (by omega) (by decide), nI_clamp (by omega), nI_clamp (by omega)]
      · rw [e2 S rfl rfl, sv_bd, if_pos rfl, hk, sv_gi (by omega) (by decide), nI_clamp (by omega), q7 j (by omega)]
  · refine ⟨-9223372036854775808, S, S, ?_, ?_, hs⟩
    · unfold fX8_refusalOfElement
      rw [e8_isShelf, sv_bd, sv_Bi, if_neg hx, sv_bd, if_neg (by decide)]
    · unfold fX9_refusal
      rw [e9_isShelf, sv_bd, sv_Bi, if_neg hx, sv_bd, if_neg (by decide)]
/-- a number as a row's sort keeps it -/
def sv_as (so : Nat) (v : Int64) : Int64 := if so = 0 then v.toInt32.toInt8.toInt32.toInt64 else if so = 1 then v.toInt32.toInt16.toInt32.toInt64 else if so = 2 then v.toInt32.toInt64 else if so = 3 then v else if (lg_cmp v (0 : Int64)) = 0 then 0 else 1
theorem sv_lt5 {so : Nat} (h : so ≤ 4) : so = 0 ∨ so = 1 ∨ so = 2 ∨ so = 3 ∨ so = 4 := by omega
theorem e5_store (N : Nat) {S : sw_St} {o so j : Nat} (hso : so ≤ 4) (hj : j < 60) (h : S.1 o 1 = nI so) (v : Int64) : fX5_store N o (nI j) v S = some ((), sw_sj S (o + 1) j (sv_as so v)) := by
  unfold fX5_store sv_as
  rw [h, nI_clamp (by omega)]
  simp only [sv_gi hj (show 60 < 2 ^ 31 by decide), sv_ls]
  rcases sv_lt5 hso with rfl | rfl | rfl | rfl | rfl
  · rfl
  · rfl
  · rfl
  · rfl
  · by_cases hq : lg_cmp v 0 = 0
    · rw [if_pos hq, if_pos hq]; rfl
    · rw [if_neg hq, if_neg hq]; rfl
theorem e9_asSort (N : Nat) {so : Nat} (hso : so ≤ 4) (v : Int64) (S : sw_St) : fX9_asSort N (nI so) v S = some (sv_as so v, S) := by
  unfold fX9_asSort sv_as
  rcases sv_lt5 hso with rfl | rfl | rfl | rfl | rfl
  · rfl
  · rfl
  · rfl
  · rfl
  · by_cases hq : lg_cmp v 0 = 0
    · rw [if_pos hq, if_pos hq]; rfl
    · rw [if_neg hq, if_neg hq]; rfl
theorem sv_as_b (v : Int64) : ∃ x : Int32, sv_as 0 v = x.toInt64 ∧ x.toInt8.toInt32 = x := ⟨v.toInt32.toInt8.toInt32, rfl, by
  apply Int32.toInt_inj.mp
  simp⟩
theorem op_put (N : Nat) (hN : 5000 ≤ N) {S : sw_St} (h : sv_rel S) (x y : Int32) (v : Int64) : sv_ok (fX8_put N x y v) (fX9_put N x y v) S := by
  have hs := h
  obtain ⟨A, L, b, h⟩ := h
  have hr := h
  obtain ⟨h1, h2, h3, h4, h5, h6, h7, h8, h9, h10⟩ := h
  unfold sv_ok fX8_put fX9_put
  rcases sv_cq 5 (by decide) (M := 5) rfl x with ⟨d, hd, rfl, hx⟩ | hx
  · rcases e_ref N h9.1 (by omega) (h10 d (by omega)) y with ⟨r, hr, e1, e2⟩ | ⟨so, sz, j, ⟨q1, q2, q3, q4, q5, q6, q7, q8⟩, k4, hj, rfl, e1, e2⟩
    · exact ⟨_, S, S, by rw [e1, sv_bd, if_neg hr], by rw [e2, sv_bd, if_neg hr, if_neg hr], hs⟩
    · have hk : (60 : Int32) * nI d + nI j = nI (60 * d + j) := by rw [show (60 : Int32) * nI d = nI (60 * d) from pk_mul 60 d, nI_add]
      let V := sw_sj S (93 + 2 * d + 1) j (sv_as so v)
      let U := sw_sj V 126 (60 * d + j) (sv_as so v)
      have gV : sv_ag (fun a => a = 93 + 2 * d + 1) S V := sv_ag_sj S _ j _ rfl
      have gU : sv_ag (fun a => a = 126) V U := sv_ag_sj V _ _ _ rfl
      have w : ∀ a, ¬ (a = 93 + 2 * d + 1 ∨ a = 126) → U.1 a = S.1 a ∧ U.2 a = S.2 a := fun a ha => ⟨((gU a (by omega)).1).trans (gV a (by omega)).1, ((gU a (by omega)).2).trans (gV a (by omega)).2⟩
      have gW : sv_rr (fun a => ¬ sv_P a ∨ (89 ≤ a ∧ a ≤ 104) ∨ (122 ≤ a ∧ a ≤ 126)) (fun k => sv_F k ∨ k = 32 ∨ k = 35) S U := ⟨fun a _ ha => w a (by omega), fun k _ => rfl, (w 105 (by omega)).2⟩
      refine ⟨1, V, U, ?_, ?_, ⟨A, L, b, sv_rl_ks hr gW (sv_rB_ks h9 (fun a ha => rfl) rfl) (sv_rH_of (d := d) (by omega) h10 ?_ (fun a h1 h2 h3 => w a (by omega)) (fun i hi => rfl) (fun i hi => rfl) rfl (fun i hi => ?_))⟩⟩
      · rw [e1, sv_bd, if_pos rfl, sv_gi (by omega) (by decide), nI_clamp (by omega), e5_store N q1 (by omega) q4, sv_bd]
      · rw [e2 V rfl rfl, sv_bd, if_pos rfl, hk, sv_gi (by omega) (by decide), nI_clamp (by omega), show V.1 124 d = nI (50 + so) from q3, show nI (50 + so) - (50 : Int32) = nI so by rw [show (50 : Int32) = nI 50 from rfl, pk_sub (by omega), show 50 + so - 50 = so by omega], e9_asSort N q1, sv_bd, sv_gi (by omega) (by decide), nI_clamp (by omega), sv_ls, if_pos rfl]
      · have key : ∀ i, i < 60 → U.2 (93 + 2 * d + 1) i = (if i = j then sv_as so v else S.2 (93 + 2 * d + 1) i) ∧ U.2 126 (60 * d + i) = (if i = j then sv_as so v else S.2 126 (60 * d + i)) := by
          intro i hi
          constructor
          · show (sw_sj V 126 (60 * d + j) (sv_as so v)).2 _ i = _
            rw [sv_sj, if_neg (by omega)]
            show (sw_sj S (93 + 2 * d + 1) j (sv_as so v)).2 _ i = _
            rw [sv_sj]
            by_cases hij : i = j
            · rw [if_pos ⟨rfl, hij⟩, if_pos hij]
            · rw [if_neg (by omega), if_neg hij]
          · show (sw_sj V 126 (60 * d + j) (sv_as so v)).2 _ _ = _
            rw [sv_sj]
            by_cases hij : i = j
            · rw [if_pos ⟨rfl, by omega⟩, if_pos hij]
            · rw [if_neg (by omega), if_neg hij, (gV 126 (by omega)).2]
        right; right
        refine ⟨k4, so, sz, q1, q2, q3, q4, q5, q6, fun i hi => ?_, fun h0 i hi => ?_⟩
        · rw [(key i hi).1, (key i hi).2, q7 i hi]
        · rw [(key i hi).1]
          subst h0
          by_cases hij : i = j
          · rw [if_pos hij]; exact sv_as_b v
          · rw [if_neg hij]; exact q8 rfl i hi
      · show (sw_sj V 126 (60 * d + j) (sv_as so v)).2 _ _ = _
        rw [sv_sj, if_neg (by omega), (gV 126 (by omega)).2]
  · refine ⟨-1, S, S, ?_, ?_, hs⟩
    · unfold fX8_refusalOfElement
      rw [e8_isShelf, sv_bd, sv_Bi, if_neg hx, sv_bd, if_neg (by decide)]
    · unfold fX9_refusal
      rw [e9_isShelf, sv_bd, sv_Bi, if_neg hx, sv_bd, if_neg (by decide), if_neg (by decide)]
