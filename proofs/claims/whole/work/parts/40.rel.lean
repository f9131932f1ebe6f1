/-! what holds between calls: the class's cells against the reference's -/
def sv_gr (w : Nat) : Nat := ([11, 9, 99, 99, 1, 11, 50, 11] : List Nat).getD w 0
def sv_pl (num w : Nat) : Nat := if w < 5 then 10 * w + num else 50 + (w - 5)
def sv_rT (S : sw_St) : Prop := ∃ m : Nat, m ≤ 120 ∧ S.1 16 0 = nI m ∧ S.1 105 8 = nI m ∧ ∀ k, k < 120 → S.1 110 k = S.1 22 k ∧ ∃ b : Nat, b ≤ 255 ∧ S.1 22 k = nI b
def sv_rC (S : sw_St) (n : Nat) : Prop := ∃ d z : Nat, d ≤ z ∧ z ≤ 40 ∧ S.1 79 1 = nI d ∧ S.1 105 5 = nI d ∧ S.1 79 0 = nI z ∧ S.1 105 4 = nI z ∧ ∀ k, k < z → ∃ num w a b : Nat, ((w < 5 ∧ num < n) ∨ (5 ≤ w ∧ w < 8 ∧ num = 0)) ∧ a ≤ sv_gr w ∧ b ≤ sv_gr w ∧ S.1 80 k = nI num ∧ S.1 81 k = nI w ∧ S.1 82 k = nI a ∧ S.1 83 k = nI b ∧ S.1 107 k = nI (sv_pl num w) ∧ S.1 108 k = nI a ∧ S.1 109 k = nI b
def sv_rD (S : sw_St) (n : Nat) : Prop := (∀ k, k < 5 → S.1 119 k = S.1 85 k) ∧ ((S.1 84 0 = 0 ∧ S.1 105 28 = 0) ∨ (S.1 84 0 = 1 ∧ S.1 105 28 = 1 ∧ ∃ m h c : Nat, m ≤ n ∧ h < 12 ∧ c < 12 ∧ S.1 84 5 = nI m ∧ S.1 105 29 = nI m ∧ S.1 84 6 = nI h ∧ S.1 120 50 = nI h ∧ S.1 84 7 = nI c ∧ S.1 120 52 = nI c ∧ (∀ s, s < m → ∃ x y : Nat, x ≤ 99 ∧ y ≤ 1 ∧ S.1 87 s = nI x ∧ S.1 120 (30 + s) = nI x ∧ S.1 88 s = nI y ∧ S.1 120 (40 + s) = nI y) ∧ ∀ k, k < 5 → S.1 121 k = S.1 86 k))
def sv_rB (S : sw_St) (b : Nat) : Prop := b ≤ 50 ∧ S.1 89 0 = nI b ∧ S.1 105 32 = nI b ∧ (∀ k, k < b → ∃ q : Nat, q ≤ 7 ∧ S.1 90 k = nI q ∧ S.1 122 k = nI q) ∧ ∃ r : Nat, r ≤ 100 ∧ S.1 89 1 = nI r ∧ S.1 105 35 = nI r ∧ ∀ k, k < 24 → k < r → S.1 123 k = S.1 91 k
/-- a shelf: nothing, a blade, a row -/
def sv_s1 (S : sw_St) (b d : Nat) : Prop := (S.1 (93 + 2 * d) 4 = 0 ∧ S.1 124 d = -1) ∨ (S.1 (93 + 2 * d) 4 = 1 ∧ ∃ w : Nat, w < b ∧ S.1 124 d = nI w ∧ S.1 (93 + 2 * d) 0 = S.1 122 w) ∨ (S.1 (93 + 2 * d) 4 = 2 ∧ ∃ so sz : Nat, so ≤ 4 ∧ sz ≤ 60 ∧ S.1 124 d = nI (50 + so) ∧ S.1 (93 + 2 * d) 1 = nI so ∧ S.1 (93 + 2 * d) 2 = nI sz ∧ S.1 125 d = nI sz ∧ (∀ i, i < 60 → S.2 126 (60 * d + i) = S.2 (93 + 2 * d + 1) i) ∧ (so = 0 → ∀ i, i < 60 → ∃ x : Int32, S.2 (93 + 2 * d + 1) i = x.toInt64 ∧ x.toInt8.toInt32 = x))
def sv_rH (S : sw_St) (b : Nat) : Prop := ∀ d, d < 6 → sv_s1 S b d
def sv_rl (S : sw_St) (A : sv_A) (L : sv_L) (b : Nat) : Prop := sv_wf A ∧ sv_nc S 1 A ∧ sv_mr S A ∧ sv_lc L S ∧ sv_lr L S ∧ sv_rC S A.1 ∧ sv_rT S ∧ sv_rD S A.1 ∧ sv_rB S b ∧ sv_rH S b
def sv_rel (S : sw_St) : Prop := ∃ (A : sv_A) (L : sv_L) (b : Nat), sv_rl S A L b
/-- the cells that a query may write: none that lasts -/
def sv_P (a : Nat) : Prop := (1 ≤ a ∧ a ≤ 7) ∨ (11 ≤ a ∧ a ≤ 13) ∨ a = 16 ∨ a = 22 ∨ (79 ≤ a ∧ a ≤ 104) ∨ (106 ≤ a ∧ a ≤ 111) ∨ (119 ≤ a ∧ a ≤ 126)
def sv_F (k : Nat) : Prop := (11 ≤ k ∧ k ≤ 15) ∨ k = 19 ∨ k = 20 ∨ k = 25 ∨ k = 26 ∨ k = 36 ∨ k = 37
def sv_same (S T : sw_St) : Prop := sv_rr (fun a => ¬ sv_P a) sv_F S T
theorem sv_same_rf {S : sw_St} : sv_same S S := sv_rr_rf
theorem sv_same_tr {S T U : sw_St} (h : sv_same S T) (g : sv_same T U) : sv_same S U := sv_rr_tr h g
theorem sv_same_ag {P : Nat → Prop} {S T : sw_St} (h : sv_ag P S T) (hP : ∀ a, P a → ¬ sv_P a) (h5 : ¬ P 105) : sv_same S T := ⟨fun a _ ha => h a (fun z => ha (hP a z)), fun k _ => by rw [(h 105 h5).1], (h 105 h5).2⟩
theorem sv_same_rr {P F : Nat → Prop} {S T : sw_St} (h : sv_rr P F S T) (hP : ∀ a, P a → ¬ sv_P a) (hF : ∀ k, F k → sv_F k) : sv_same S T := sv_rr_wk h hP hF
theorem sv_same_1 {S T : sw_St} (h : sv_same S T) (a : Nat) (ha : sv_P a) : T.1 a = S.1 a := (h.1 a (by unfold sv_P at ha; omega) (fun z => z ha)).1
theorem sv_same_2 {S T : sw_St} (h : sv_same S T) (a : Nat) (ha : sv_P a) : T.2 a = S.2 a := (h.1 a (by unfold sv_P at ha; omega) (fun z => z ha)).2
theorem sv_nc_eq {S T : sw_St} {o : Nat} {A : sv_A} (h : sv_nc S o A) (g : ∀ k, k < 7 → T.1 (o + k) = S.1 (o + k)) : sv_nc T o A := by
  refine ⟨?_, fun k s hk hs => ?_, fun j hj => ?_, fun c hc => ?_⟩
  · rw [show T.1 o = S.1 o from g 0 (by omega)]; exact h.1
  · rw [g (1 + k) (by omega)]; exact h.2.1 k s hk hs
  · rw [show T.1 o = S.1 o from g 0 (by omega)]; exact h.2.2.1 j hj
  · rw [g 6 (by omega)]; exact h.2.2.2 c hc
theorem sv_s1_eq {S T : sw_St} {b d : Nat} (h : sv_s1 S b d) (e1 : T.1 (93 + 2 * d) = S.1 (93 + 2 * d)) (e2 : T.2 (93 + 2 * d + 1) = S.2 (93 + 2 * d + 1)) (e3 : T.1 124 = S.1 124) (e4 : T.1 125 = S.1 125) (e5 : T.1 122 = S.1 122) (e6 : T.2 126 = S.2 126) : sv_s1 T b d := by
  unfold sv_s1
  rw [e1, e2, e3, e4, e5, e6]
  exact h
theorem sv_rC_eq {S T : sw_St} {n : Nat} (h : sv_rC S n) (e : ∀ a, (79 ≤ a ∧ a ≤ 83) ∨ (107 ≤ a ∧ a ≤ 109) → T.1 a = S.1 a) (e4 : T.1 105 4 = S.1 105 4) (e5 : T.1 105 5 = S.1 105 5) : sv_rC T n := by
  unfold sv_rC
  rw [e 79 (by omega), e 80 (by omega), e 81 (by omega), e 82 (by omega), e 83 (by omega), e 107 (by omega), e 108 (by omega), e 109 (by omega), e4, e5]
  exact h
theorem sv_rT_eq {S T : sw_St} (h : sv_rT S) (e1 : T.1 16 0 = S.1 16 0) (e2 : T.1 22 = S.1 22) (e3 : T.1 110 = S.1 110) (e4 : T.1 105 8 = S.1 105 8) : sv_rT T := by
  unfold sv_rT
  rw [e1, e2, e3, e4]
  exact h
theorem sv_rD_eq {S T : sw_St} {n : Nat} (h : sv_rD S n) (e : ∀ a, (84 ≤ a ∧ a ≤ 88) ∨ (119 ≤ a ∧ a ≤ 121) → T.1 a = S.1 a) (e4 : T.1 105 28 = S.1 105 28) (e5 : T.1 105 29 = S.1 105 29) : sv_rD T n := by
  unfold sv_rD
  rw [e 84 (by omega), e 85 (by omega), e 86 (by omega), e 87 (by omega), e 88 (by omega), e 119 (by omega), e 120 (by omega), e 121 (by omega), e4, e5]
  exact h
theorem sv_rB_eq {S T : sw_St} {b : Nat} (h : sv_rB S b) (e : ∀ a, (89 ≤ a ∧ a ≤ 91) ∨ (122 ≤ a ∧ a ≤ 123) → T.1 a = S.1 a) (e4 : T.1 105 32 = S.1 105 32) (e5 : T.1 105 35 = S.1 105 35) : sv_rB T b := by
  unfold sv_rB
  rw [e 89 (by omega), e 90 (by omega), e 91 (by omega), e 122 (by omega), e 123 (by omega), e4, e5]
  exact h
theorem sv_mr_eq {S T : sw_St} {A : sv_A} (h : sv_mr S A) (e1 : T.1 106 = S.1 106) (e2 : T.1 105 6 = S.1 105 6) : sv_mr T A := by
  unfold sv_mr
  rw [e1, e2]
  exact h
theorem sv_rl_same {S T : sw_St} {A : sv_A} {L : sv_L} {b : Nat} (h : sv_rl S A L b) (g : sv_same S T) : sv_rl T A L b := by
  obtain ⟨h1, h2, h3, h4, h5, h6, h7, h8, h9, h10⟩ := h
  have e : ∀ a, sv_P a → T.1 a = S.1 a := sv_same_1 g
  have f : ∀ k, ¬ sv_F k → T.1 105 k = S.1 105 k := g.2.1
  unfold sv_P at e
  unfold sv_F at f
  refine ⟨h1, sv_nc_eq h2 (fun k hk => e _ (by omega)), sv_mr_eq h3 (e _ (by omega)) (f _ (by omega)), sv_lc_of h4 (e _ (by omega)) (e _ (by omega)) (e _ (by omega)), sv_lr_of h5 (f _ (by omega)) (e _ (by omega)), sv_rC_eq h6 (fun a ha => e a (by omega)) (f _ (by omega)) (f _ (by omega)), sv_rT_eq h7 (by rw [e 16 (by omega)]) (e _ (by omega)) (e _ (by omega)) (f _ (by omega)), sv_rD_eq h8 (fun a ha => e a (by omega)) (f _ (by omega)) (f _ (by omega)), sv_rB_eq h9 (fun a ha => e a (by omega)) (f _ (by omega)) (f _ (by omega)), fun d hd => sv_s1_eq (h10 d hd) (e _ (by omega)) (sv_same_2 g _ (by unfold sv_P; omega)) (e _ (by omega)) (e _ (by omega)) (e _ (by omega)) (sv_same_2 g _ (by unfold sv_P; omega))⟩
/-- a call of the class, then the reference's: they answer alike, and what holds between calls holds again -/
def sv_ok {α : Type} (f g : sw_St → Option (α × sw_St)) (S : sw_St) : Prop := ∃ r S1 S2, f S = some (r, S1) ∧ g S1 = some (r, S2) ∧ sv_rel S2
