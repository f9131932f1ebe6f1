/-! the law: worked out by steps -/
theorem sv_pr (k : Nat) : nI (k + 1) - (1 : Int32) = nI k := nI_pred k
theorem sv_pr2 (k : Nat) : nI (k + 1) + (-1 : Int32) = nI k := by
  rw [← sv_pr k, Int32.sub_eq_add_neg]
def sv_woM (N : Nat) : (Int32 → Int32 → sw_St → Option (Int32 × sw_St)) → Int32 → Int32 → sw_St → Option (Int32 × sw_St) := fun rec1 x1_1 x2_1 S1 => (if x2_1 ≥ (S1.1 11 1) then (some ((0 : Int32), S1)) else (if x1_1 ≥ (128 : Int32) then (some ((0 : Int32), S1)) else (sw_gd (sw_in x2_1 128) (sw_li (S1.1 12 x2_1.toNatClampNeg) (fun x3_1 => (if x3_1 = (48 : Int32) then (sw_gd (sw_in x2_1 128) (sw_gd (sw_in x1_1 128) (sw_ls (sw_si S1 14 x1_1.toNatClampNeg (S1.1 13 x2_1.toNatClampNeg)) (fun S10 => (rec1 (x1_1 + (1 : Int32)) (x2_1 + (1 : Int32)) S10))))) else (if x3_1 = (110 : Int32) then (sw_gd (sw_in x2_1 128) (sw_bd (fX8_within N (S1.1 13 x2_1.toNatClampNeg) (0 : Int32) (5 : Int32) S1) (fun r2 S7 => (if r2 = 0 then (sw_gd (sw_in x1_1 128) (sw_ls (sw_si S7 14 x1_1.toNatClampNeg (0 : Int32)) (fun S8 => (rec1 (x1_1 + (1 : Int32)) (x2_1 + (1 : Int32)) S8)))) else (sw_gd (sw_in x2_1 128) (sw_gd (sw_in (S7.1 13 x2_1.toNatClampNeg) 6) (sw_gd (sw_in x1_1 128) (sw_ls (sw_si S7 14 x1_1.toNatClampNeg (S7.1 15 (S7.1 13 x2_1.toNatClampNeg).toNatClampNeg)) (fun S9 => (rec1 (x1_1 + (1 : Int32)) (x2_1 + (1 : Int32)) S9)))))))))) else (if x1_1 ≥ (1 : Int32) then (if x3_1 = (59 : Int32) then (sw_gd (sw_in (x1_1 - (1 : Int32)) 128) (some ((S1.1 14 (x1_1 - (1 : Int32)).toNatClampNeg), S1))) else (if x3_1 = (63 : Int32) then (sw_gd (sw_in (x1_1 + (-1 : Int32)) 128) (if (S1.1 14 (x1_1 + (-1 : Int32)).toNatClampNeg) = 0 then (sw_gd (sw_in x2_1 128) (sw_li (sw_mx x2_1 (S1.1 13 x2_1.toNatClampNeg)) (fun x2_2 => (rec1 (x1_1 + (-1 : Int32)) (x2_2 + (1 : Int32)) S1)))) else (rec1 (x1_1 + (-1 : Int32)) (x2_1 + (1 : Int32)) S1))) else (if x3_1 = (126 : Int32) then (sw_gd (sw_in (x1_1 - (1 : Int32)) 128) (sw_gd (sw_in (x1_1 - (1 : Int32)) 128) (sw_ls (sw_si S1 14 (x1_1 - (1 : Int32)).toNatClampNeg (-(S1.1 14 (x1_1 - (1 : Int32)).toNatClampNeg))) (fun S6 => (rec1 x1_1 (x2_1 + (1 : Int32)) S6))))) else (if x3_1 = (33 : Int32) then (sw_gd (sw_in (x1_1 - (1 : Int32)) 128) (if (S1.1 14 (x1_1 - (1 : Int32)).toNatClampNeg) = 0 then (sw_gd (sw_in (x1_1 - (1 : Int32)) 128) (sw_ls (sw_si S1 14 (x1_1 - (1 : Int32)).toNatClampNeg (1 : Int32)) (fun S5 => (rec1 x1_1 (x2_1 + (1 : Int32)) S5)))) else (sw_gd (sw_in (x1_1 - (1 : Int32)) 128) (sw_ls (sw_si S1 14 (x1_1 - (1 : Int32)).toNatClampNeg (0 : Int32)) (fun S4 => (rec1 x1_1 (x2_1 + (1 : Int32)) S4)))))) else (if x1_1 < (2 : Int32) then (rec1 x1_1 (x2_1 + (1 : Int32)) S1) else (sw_gd (sw_in ((x1_1 + (-1 : Int32)) - (1 : Int32)) 128) (sw_gd (sw_in (x1_1 + (-1 : Int32)) 128) (sw_bd (fX3_joined N x3_1 (S1.1 14 ((x1_1 + (-1 : Int32)) - (1 : Int32)).toNatClampNeg) (S1.1 14 (x1_1 + (-1 : Int32)).toNatClampNeg) S1) (fun r1 S2 => (sw_gd (sw_in ((x1_1 + (-1 : Int32)) - (1 : Int32)) 128) (sw_ls (sw_si S2 14 ((x1_1 + (-1 : Int32)) - (1 : Int32)).toNatClampNeg r1) (fun S3 => (rec1 (x1_1 + (-1 : Int32)) (x2_1 + (1 : Int32)) S3))))))))))))) else (some ((0 : Int32), S1))))))))))
def sv_stk (S : sw_St) : List Int32 → Prop
  | [] => True
  | a :: r => S.1 14 r.length = a ∧ sv_stk S r
theorem sv_stk_si {S : sw_St} {k : Nat} {v : Int32} : ∀ r : List Int32, r.length ≤ k → sv_stk S r → sv_stk (sw_si S 14 k v) r
  | [], _, _ => trivial
  | a :: r, h, g => by
    have h : r.length + 1 ≤ k := h
    exact ⟨by rw [sv_si, if_neg (by omega)]; exact g.1, sv_stk_si r (by omega) g.2⟩
def sv_mkk (S : sw_St) (Γ : List (Int32 × Int32)) (ν : Nat → Int32) : Prop := S.1 11 1 = nI Γ.length ∧ Γ.length ≤ 121 ∧ (∀ i, i < Γ.length → S.1 12 i = (Γ.getD i (0, 0)).1 ∧ S.1 13 i = (Γ.getD i (0, 0)).2) ∧ ∀ k, k < 6 → S.1 15 k = ν k
theorem sv_mkk_si {S : sw_St} {Γ : List (Int32 × Int32)} {ν : Nat → Int32} (h : sv_mkk S Γ ν) (k : Nat) (v : Int32) : sv_mkk (sw_si S 14 k v) Γ ν := by
  obtain ⟨h1, h2, h3, h4⟩ := h
  refine ⟨by rw [sv_si, if_neg (by omega)]; exact h1, h2, fun i hi => ?_, fun i hi => by rw [sv_si, if_neg (by omega)]; exact h4 i hi⟩
  rw [sv_si, if_neg (by omega), sv_si, if_neg (by omega)]
  exact h3 i hi
theorem sv_mstep (N : Nat) {S : sw_St} {Γ : List (Int32 × Int32)} {ν : Nat → Int32} (h : sv_mkk S Γ ν) {i : Nat} {st st' : List Int32} (hi : i < Γ.length) (hl : st.length ≤ i) (hs : sv_stk S st) (he : sv_st1 ν (Γ.getD i (0, 0)) st = some st') (m : Nat) : ∃ S', sw_fx2 (sv_woM N) (m + 1) (nI st.length) (nI i) S = sw_fx2 (sv_woM N) m (nI st'.length) (nI (i + 1)) S' ∧ sv_mkk S' Γ ν ∧ sv_stk S' st' ∧ st'.length ≤ i + 1 ∧ sv_ag (fun a => a = 14) S S' := by
  obtain ⟨h1, h2, h3, h4⟩ := id h
  obtain ⟨o1, o2⟩ := h3 i hi
  generalize hx : Γ.getD i (0, 0) = x at *
  obtain ⟨op, w⟩ := x
  have o1 : S.1 12 i = op := o1
  have o2 : S.1 13 i = w := o2
  rw [sv_fx2s]
  unfold sv_woM
  rw [h1, if_neg (show ¬ nI i ≥ nI Γ.length from nI_ge hi (by omega)), if_neg (show ¬ nI st.length ≥ (128 : Int32) from nI_ge (b := 128) (by omega) (by decide)), sv_gi (by omega) (by decide), nI_clamp (show i < 2 ^ 31 by omega), sv_li, o1, o2, nI_1 i]
  unfold sv_st1 at he
  dsimp only at he
  by_cases q48 : op = 48
  · rw [if_pos q48] at he
    injection he with he
    subst he
    rw [if_pos q48, sv_gi (by omega) (by decide), sv_gi (by omega) (by decide), sv_ls, nI_clamp (by omega), nI_1]
    exact ⟨_, rfl, sv_mkk_si h _ _, ⟨by rw [sv_si, if_pos ⟨rfl, rfl⟩], sv_stk_si st (Nat.le_refl _) hs⟩, by show st.length + 1 ≤ i + 1; omega, sv_ag_si S 14 _ _ rfl⟩
  rw [if_neg q48] at he
  rw [if_neg q48]
  by_cases q110 : op = 110
  · rw [if_pos q110] at he
    injection he with he
    subst he
    rw [if_pos q110, sv_gi (by omega) (by decide), e8_within, sv_bd, sv_Bi]
    by_cases hw : 0 ≤ w ∧ w ≤ 5
    · obtain ⟨k, hk, rfl⟩ := sv_rg 5 (by decide) hw.1 hw.2
      rw [if_pos hw, if_pos hw, o2, sv_gi (by omega) (by decide), sv_gi (by omega) (by decide), sv_gi (by omega) (by decide), sv_ls, nI_clamp (by omega), nI_clamp (by omega), h4 k (by omega), nI_1]
      exact ⟨_, rfl, sv_mkk_si h _ _, ⟨by rw [sv_si, if_pos ⟨rfl, rfl⟩], sv_stk_si st (Nat.le_refl _) hs⟩, by show st.length + 1 ≤ i + 1; omega, sv_ag_si S 14 _ _ rfl⟩
    · rw [if_neg hw, if_neg hw, sv_gi (by omega) (by decide), sv_ls, nI_clamp (by omega), nI_1]
      exact ⟨_, rfl, sv_mkk_si h _ _, ⟨by rw [sv_si, if_pos ⟨rfl, rfl⟩], sv_stk_si st (Nat.le_refl _) hs⟩, by show st.length + 1 ≤ i + 1; omega, sv_ag_si S 14 _ _ rfl⟩
  rw [if_neg q110] at he
  rw [if_neg q110]
  by_cases qe : op = 59 ∨ op = 63
  · rw [if_pos qe] at he
    cases he
  rw [if_neg qe] at he
  have q59 : ¬ op = 59 := fun z => qe (Or.inl z)
  have q63 : ¬ op = 63 := fun z => qe (Or.inr z)
  cases st with
  | nil => cases he
  | cons a r =>
    have ea : S.1 14 r.length = a := hs.1
    have hl : r.length + 1 ≤ i := hl
    have el : (a :: r).length = r.length + 1 := rfl
    dsimp only at he
    rw [el, if_pos (show nI (r.length + 1) ≥ (1 : Int32) from (nI_leI (a := 1) (by decide) (by omega)).mpr (by omega)), if_neg q59, if_neg q63]
    by_cases q126 : op = 126
    · rw [if_pos q126] at he
      injection he with he
      subst he
      rw [if_pos q126, sv_pr, sv_gi (by omega) (by decide), sv_gi (by omega) (by decide), sv_ls, nI_clamp (by omega), ea]
      exact ⟨_, rfl, sv_mkk_si h _ _, ⟨by rw [sv_si, if_pos ⟨rfl, rfl⟩], sv_stk_si r (Nat.le_refl _) hs.2⟩, by show r.length + 1 ≤ i + 1; omega, sv_ag_si S 14 _ _ rfl⟩
    rw [if_neg q126] at he
    rw [if_neg q126]
    by_cases q33 : op = 33
    · rw [if_pos q33] at he
      injection he with he
      subst he
      rw [if_pos q33, sv_pr, sv_gi (by omega) (by decide), sv_gi (by omega) (by decide), sv_gi (by omega) (by decide), nI_clamp (by omega), ea]
      by_cases z : a = 0
      · rw [if_pos z, if_pos z, sv_ls]
        exact ⟨_, rfl, sv_mkk_si h _ _, ⟨by rw [sv_si, if_pos ⟨rfl, rfl⟩], sv_stk_si r (Nat.le_refl _) hs.2⟩, by show r.length + 1 ≤ i + 1; omega, sv_ag_si S 14 _ _ rfl⟩
      · rw [if_neg z, if_neg z, sv_ls]
        exact ⟨_, rfl, sv_mkk_si h _ _, ⟨by rw [sv_si, if_pos ⟨rfl, rfl⟩], sv_stk_si r (Nat.le_refl _) hs.2⟩, by show r.length + 1 ≤ i + 1; omega, sv_ag_si S 14 _ _ rfl⟩
    rw [if_neg q33] at he
    rw [if_neg q33]
    cases r with
    | nil => cases he
    | cons b r =>
      have eb : S.1 14 r.length = b := hs.2.1
      have el2 : (b :: r).length = r.length + 1 := rfl
      rw [el2] at ea hl ⊢
      dsimp only at he
      injection he with he
      subst he
      rw [if_neg (show ¬ nI (r.length + 1 + 1) < (2 : Int32) from Int32.not_lt.mpr ((nI_leI (a := 2) (by decide) (by omega)).mpr (by omega))), sv_pr2, sv_pr, sv_gi (by omega) (by decide), sv_gi (by omega) (by decide), nI_clamp (by omega), nI_clamp (by omega), ea, eb, e3_joined, sv_bd, sv_gi (by omega) (by decide), sv_ls]
      exact ⟨_, rfl, sv_mkk_si h _ _, ⟨by rw [sv_si, if_pos ⟨rfl, rfl⟩], sv_stk_si r (Nat.le_refl _) hs.2.2⟩, by show r.length + 1 ≤ i + 1; omega, sv_ag_si S 14 _ _ rfl⟩
theorem sv_mrun (N : Nat) {Γ : List (Int32 × Int32)} {ν : Nat → Int32} : ∀ (C : List (Int32 × Int32)) (i : Nat) (st st' : List Int32) (S : sw_St) (m : Nat), (∀ j, j < C.length → Γ.getD (i + j) (0, 0) = C.getD j (0, 0)) → i + C.length ≤ Γ.length → st.length ≤ i → sv_mkk S Γ ν → sv_stk S st → sv_ex2 ν C st = some st' → ∃ S', sw_fx2 (sv_woM N) (m + C.length) (nI st.length) (nI i) S = sw_fx2 (sv_woM N) m (nI st'.length) (nI (i + C.length)) S' ∧ sv_mkk S' Γ ν ∧ sv_stk S' st' ∧ sv_ag (fun a => a = 14) S S'
  | [], i, st, st', S, m, _, _, _, h, hs, he => by
    injection he with he
    subst he
    exact ⟨S, rfl, h, hs, sv_ag_rf⟩
  | x :: C, i, st, st', S, m, hc, hl, hst, h, hs, he => by
    have hl : i + (C.length + 1) ≤ Γ.length := hl
    have h0 : Γ.getD i (0, 0) = x := hc 0 (by show 0 < C.length + 1; omega)
    cases hx : sv_st1 ν x st with
    | none =>
      have he : (sv_st1 ν x st).bind (sv_ex2 ν C) = some st' := he
      rw [hx] at he
      cases he
    | some s1 =>
      have he : (sv_st1 ν x st).bind (sv_ex2 ν C) = some st' := he
      rw [hx] at he
      obtain ⟨S1, a1, a2, a3, a4, a5⟩ := sv_mstep N h (i := i) (by omega) hst hs (by rw [h0]; exact hx) (m + C.length)
      obtain ⟨S', b1, b2, b3, b4⟩ := sv_mrun N C (i + 1) s1 st' S1 m (fun j hj => by
        have := hc (j + 1) (by show j + 1 < C.length + 1; omega)
        rw [show i + 1 + j = i + (j + 1) by omega]
        exact this) (by omega) a4 a2 a3 he
      refine ⟨S', ?_, b2, b3, sv_ag_tr a5 b4⟩
      show sw_fx2 (sv_woM N) (m + C.length + 1) (nI st.length) (nI i) S = sw_fx2 (sv_woM N) m (nI st'.length) (nI (i + (C.length + 1))) S'
      rw [a1, b1, show i + 1 + C.length = i + (C.length + 1) by omega]
