/-! law -/
def sv_nu (a b c d e f : Int32) (k : Nat) : Int32 := if k = 0 then a else if k = 1 then b else if k = 2 then c else if k = 3 then d else if k = 4 then e else f
/-- the law of the lines -/
def sv_LL (Λ : List sv_Ln) : sv_L := fun a b c d e f => sv_k20 (sv_run (sv_nu a b c d e f) 0 Λ)
theorem sv_k20_mx (v : Int32) : sw_mx (-20) (sw_mn 20 v) = sv_k20 v := by
  unfold sw_mx sw_mn sv_k20
  by_cases h1 : v < 20
  · rw [if_pos h1, if_pos (show v ≤ 20 from Int32.le_of_lt h1)]
    by_cases h2 : -20 < v
    · rw [if_pos h2, if_pos (show v ≥ -20 from Int32.le_of_lt h2)]
    · rw [if_neg h2]
      by_cases h3 : v ≥ -20
      · rw [if_pos h3]; exact Int32.le_antisymm h3 (Int32.not_lt.mp h2)
      · rw [if_neg h3]
  · have h1' : 20 ≤ v := Int32.not_lt.mp h1
    rw [if_neg h1, if_pos (by decide), if_pos (show v ≥ -20 from Int32.le_trans (by decide) h1')]
    by_cases h2 : v ≤ 20
    · rw [if_pos h2]; exact Int32.le_antisymm h1' h2
    · rw [if_neg h2]
theorem sv_lc_new {S : sw_St} {Λ : List sv_Ln} (h0 : S.1 11 0 = 1) (h1 : S.1 11 1 = nI (sv_cd 0 Λ).length) (h2 : (sv_cd 0 Λ).length ≤ 121) (h3 : ∀ i, i < (sv_cd 0 Λ).length → S.1 12 i = ((sv_cd 0 Λ).getD i (0, 0)).1 ∧ S.1 13 i = ((sv_cd 0 Λ).getD i (0, 0)).2) (hw : ∀ ν l, l ∈ Λ → sv_wl ν l) : sv_lc (sv_LL Λ) S := by
  intro T e1 e2 e3 N hN a b c d e f
  unfold fX3_growth
  rw [e1, h0, if_neg sv_nz]
  have g : ∀ (k : Nat), k < 6 → ∀ t : Option (Int32 × sw_St), sw_gd (sw_in (nI k) 6) t = t := fun k hk t => sv_gi hk (by decide) t
  rw [show (sw_in (0 : Int32) 6) = sw_in (nI 0) 6 from rfl, show (sw_in (1 : Int32) 6) = sw_in (nI 1) 6 from rfl, show (sw_in (2 : Int32) 6) = sw_in (nI 2) 6 from rfl, show (sw_in (3 : Int32) 6) = sw_in (nI 3) 6 from rfl, show (sw_in (4 : Int32) 6) = sw_in (nI 4) 6 from rfl, show (sw_in (5 : Int32) 6) = sw_in (nI 5) 6 from rfl]
  rw [g 0 (by decide), sv_ls, g 1 (by decide), sv_ls, g 2 (by decide), sv_ls, g 3 (by decide), sv_ls, g 4 (by decide), sv_ls, g 5 (by decide), sv_ls]
  generalize hU : sw_si (sw_si (sw_si (sw_si (sw_si (sw_si T (11 + 4) (0 : Int32).toNatClampNeg a) (11 + 4) (1 : Int32).toNatClampNeg b) (11 + 4) (2 : Int32).toNatClampNeg c) (11 + 4) (3 : Int32).toNatClampNeg d) (11 + 4) (4 : Int32).toNatClampNeg e) (11 + 4) (5 : Int32).toNatClampNeg f = U
  have gU : sv_ag (fun q => q = 15) T U := by
    rw [← hU]
    exact sv_ag_tr (sv_ag_si _ 15 _ _ rfl) (sv_ag_tr (sv_ag_si _ 15 _ _ rfl) (sv_ag_tr (sv_ag_si _ 15 _ _ rfl) (sv_ag_tr (sv_ag_si _ 15 _ _ rfl) (sv_ag_tr (sv_ag_si _ 15 _ _ rfl) (sv_ag_si _ 15 _ _ rfl)))))
  have mU : sv_mkk U ([] ++ sv_cd 0 Λ) (sv_nu a b c d e f) := by
    rw [List.nil_append]
    refine ⟨by rw [(gU 11 (by omega)).1, e1]; exact h1, h2, fun i hi => by rw [(gU 12 (by omega)).1, (gU 13 (by omega)).1, e2, e3]; exact h3 i hi, fun k hk => ?_⟩
    rw [← hU]
    have : k = 0 ∨ k = 1 ∨ k = 2 ∨ k = 3 ∨ k = 4 ∨ k = 5 := by omega
    rcases this with rfl | rfl | rfl | rfl | rfl | rfl <;> rfl
  obtain ⟨V, hV, gV⟩ := sv_mwhole N Λ [] U N rfl (fun l hl => hw _ l hl) mU (by show (sv_cd 0 Λ).length < N; omega)
  have eW : fX3_workedOut N 11 U = some (sv_run (sv_nu a b c d e f) 0 Λ, V) := hV
  rw [eW, sv_bd]
  unfold fX8_heldWithin
  rw [sv_bd, sv_k20_mx]
  exact ⟨V, rfl, sv_ag_tr (sv_ag_wk gU (fun q hq => Or.inr hq)) (sv_ag_wk gV (fun q hq => Or.inl hq))⟩
/-- the reference's law worked out anew -/
theorem sv_wout {β : Nat → Int32} {n : Nat} {f' : Int32} {p' : Nat} {Λ : List sv_Ln} (hn : n ≤ 120) (h : ∀ K T k g v, 200 ≤ K → n + 1 < k → sv_kr β n T 0 (-1) 0 → (g = 0 ∨ g = 1) → ∃ r T', sw_fx3 (sv_woB K) k g v 1 T = some (r, T') ∧ sv_kr β n T' p' f' 0 ∧ sv_rr (fun _ => False) sv_kF T T' ∧ (f' = -1 → (∀ l, l ∈ Λ → sv_wl (T.1 112) l) ∧ r = if g = 0 then sv_run (T.1 112) v Λ else v)) (K : Nat) (hK : 200 ≤ K) (b : Int32) (T : sw_St) (hb : (b = -1 ∧ ∀ i, i < n → T.1 110 i = β i) ∨ (b = 0 ∧ ∀ i, i < n → T.1 111 i = β i)) : ∃ r T', fX9_workOut K b (nI n) T = some (r, T') ∧ T'.1 105 14 = f' ∧ sv_rr (fun _ => False) sv_kF T T' ∧ (f' = -1 → (∀ l, l ∈ Λ → sv_wl (T.1 112) l) ∧ r = sv_run (T.1 112) 0 Λ) := by
  have e : fX9_workOut K b (nI n) T = sw_fx3 (sv_woB K) K 0 0 1 (sw_si (sw_si (sw_si (sw_si (sw_si T 105 11 b) 105 12 0) 105 13 (nI n)) 105 14 (-1)) 105 15 0) := rfl
  generalize hU : sw_si (sw_si (sw_si (sw_si (sw_si T 105 11 b) 105 12 0) 105 13 (nI n)) 105 14 (-1)) 105 15 0 = U at e
  have gU : sv_rr (fun _ => False) sv_kF T U := by
    rw [← hU]
    exact sv_rr_tr (sv_rr_5 _ (by unfold sv_kF; omega) _) (sv_rr_tr (sv_rr_5 _ (by unfold sv_kF; omega) _) (sv_rr_tr (sv_rr_5 _ (by unfold sv_kF; omega) _) (sv_rr_tr (sv_rr_5 _ (by unfold sv_kF; omega) _) (sv_rr_5 _ (by unfold sv_kF; omega) _))))
  have u11 : U.1 105 11 = b := by rw [← hU, sv_si, if_neg (by omega), sv_si, if_neg (by omega), sv_si, if_neg (by omega), sv_si, if_neg (by omega), sv_si, if_pos ⟨rfl, rfl⟩]
  have u12 : U.1 105 12 = nI 0 := by rw [← hU, sv_si, if_neg (by omega), sv_si, if_neg (by omega), sv_si, if_neg (by omega), sv_si, if_pos ⟨rfl, rfl⟩]; rfl
  have u13 : U.1 105 13 = nI n := by rw [← hU, sv_si, if_neg (by omega), sv_si, if_neg (by omega), sv_si, if_pos ⟨rfl, rfl⟩]
  have u14 : U.1 105 14 = -1 := by rw [← hU, sv_si, if_neg (by omega), sv_si, if_pos ⟨rfl, rfl⟩]
  have u15 : U.1 105 15 = nI 0 := by rw [← hU, sv_si, if_pos ⟨rfl, rfl⟩]; rfl
  have kU : sv_kr β n U 0 (-1) 0 := by
    refine ⟨u12, u13, u14, fun _ => u15, ?_⟩
    rcases hb with ⟨b1, b2⟩ | ⟨b1, b2⟩
    · exact Or.inl ⟨by rw [u11, b1], fun i hi => by rw [(gU.1 110 (by decide) (fun z => z)).1]; exact b2 i hi⟩
    · exact Or.inr ⟨by rw [u11, b1], fun i hi => by rw [(gU.1 111 (by decide) (fun z => z)).1]; exact b2 i hi⟩
  obtain ⟨r, T', t1, t2, t3, t4⟩ := h K U K 0 0 hK (by omega) kU (Or.inl rfl)
  refine ⟨r, T', by rw [e, t1], t2.2.2.1, sv_rr_tr gU t3, fun hf => ?_⟩
  obtain ⟨x1, x2⟩ := t4 hf
  rw [if_pos rfl] at x2
  rw [(gU.1 112 (by decide) (fun z => z)).1] at x1 x2
  exact ⟨x1, x2⟩
theorem sv_rl_tp {S T : sw_St} {A : sv_A} {L L' : sv_L} {b : Nat} (h : sv_rl S A L b) (g : sv_rr (fun a => ¬ sv_P a ∨ a = 16 ∨ (11 ≤ a ∧ a ≤ 13) ∨ a = 111) (fun k => sv_F k ∨ k = 8 ∨ k = 10) S T) (hC : sv_lc L' T) (hR : sv_lr L' T) (hT : sv_rT T) : sv_rl T A L' b := by
  obtain ⟨h1, h2, h3, h4, h5, h6, h7, h8, h9, h10⟩ := h
  have e0 : ∀ a, sv_P a → ¬ (a = 16 ∨ (11 ≤ a ∧ a ≤ 13) ∨ a = 111) → T.1 a = S.1 a ∧ T.2 a = S.2 a := fun a ha hb => g.1 a (by unfold sv_P at ha; omega) (by intro z; rcases z with z | z; exact z ha; exact hb z)
  have e : ∀ a, sv_P a → ¬ (a = 16 ∨ (11 ≤ a ∧ a ≤ 13) ∨ a = 111) → T.1 a = S.1 a := fun a ha hb => (e0 a ha hb).1
  have e2 : ∀ a, sv_P a → ¬ (a = 16 ∨ (11 ≤ a ∧ a ≤ 13) ∨ a = 111) → T.2 a = S.2 a := fun a ha hb => (e0 a ha hb).2
  have f : ∀ k, ¬ (sv_F k ∨ k = 8 ∨ k = 10) → T.1 105 k = S.1 105 k := g.2.1
  unfold sv_P at e e2
  unfold sv_F at f
  exact ⟨h1, sv_nc_eq h2 (fun k hk => e _ (by omega) (by omega)), sv_mr_eq h3 (e _ (by omega) (by omega)) (f _ (by omega)), hC, hR, sv_rC_eq h6 (fun a ha => e a (by omega) (by omega)) (f _ (by omega)) (f _ (by omega)), hT, sv_rD_eq h8 (fun a ha => e a (by omega) (by omega)) (f _ (by omega)) (f _ (by omega)), sv_rB_eq h9 (fun a ha => e a (by omega) (by omega)) (f _ (by omega)) (f _ (by omega)), fun d hd => sv_s1_eq (h10 d hd) (e _ (by omega) (by omega)) (e2 _ (by omega) (by omega)) (e _ (by omega) (by omega)) (e _ (by omega) (by omega)) (e _ (by omega) (by omega)) (e2 _ (by omega) (by omega))⟩
theorem sv_cg128 : sw_cg (0 : Int32) (0 : Int32) (128 : Int32) 128 128 = true := sv_cg (sp := 0) (dp := 0) (n := 128) (by decide) (by decide) (by decide) (by decide)
theorem op_law (N : Nat) (hN : 5000 ≤ N) {S : sw_St} (h : sv_rel S) : sv_ok (fX8_law N) (fX9_law N) S := by
  obtain ⟨A, L, b, h⟩ := h
  have hr := h
  obtain ⟨h1, h2, h3, h4, h5, h6, h7, h8, h9, h10⟩ := h
  obtain ⟨n, hn, t1, t2, t3⟩ := h7
  unfold sv_ok fX8_law fX6_read
  rw [sv_ls, sv_ls, sv_ls]
  generalize hX : sw_si (sw_si (sw_si S 16 3 (0 : Int32)) 16 4 (-1 : Int32)) 17 1 (0 : Int32) = X
  have gX : sv_ag sv_kP S X := by rw [← hX]; exact sv_ag_tr (sv_ag_si _ 16 _ _ (by unfold sv_kP; omega)) (sv_ag_tr (sv_ag_si _ 16 _ _ (by unfold sv_kP; omega)) (sv_ag_si _ 17 _ _ (by unfold sv_kP; omega)))
  have kX : sv_kc (S.1 22) n X 0 (-1) [] := by
    refine ⟨?_, ?_, ?_, Nat.zero_le _, hn, Or.inl rfl, fun i hi => ?_, ?_, Nat.zero_le _, fun i hi => absurd hi (Nat.not_lt_zero i)⟩
    · rw [← hX, sv_si, if_neg (by omega), sv_si, if_neg (by omega), sv_si, if_neg (by omega)]; exact t1
    · rw [← hX, sv_si, if_neg (by omega), sv_si, if_neg (by omega), sv_si, if_pos ⟨rfl, rfl⟩]; rfl
    · rw [← hX, sv_si, if_neg (by omega), sv_si, if_pos ⟨rfl, rfl⟩]
    · rw [(gX 22 (by unfold sv_kP; omega)).1]
    · rw [← hX, sv_si, if_pos ⟨rfl, rfl⟩]; rfl
  obtain ⟨V, p', f', Λ, v1, v2, v3, v4⟩ := sv_text N (by omega) n 0 0 X (-1) [] N (by omega) (by omega) (Nat.le_refl _) kX (Nat.le_refl _)
  rw [List.nil_append] at v2
  have v2 : sv_kc (S.1 22) n V p' f' (sv_cd 0 Λ) := v2
  have v1 : sw_bd (fX6_readLine N X) (fun _ S4 => sw_fx1 (sv_rdB N) N (nI 0) S4) = some (f', V) := v1
  obtain ⟨k1, k2, k3, k4, k5, k6, k7, k8, k9, k10⟩ := id v2
  have gV : sv_ag sv_kP S V := sv_ag_tr gX v3
  have wo := sv_wout hn v4
  rw [show (sw_bd (fX6_readLine N X) (fun _ S4 => (sw_fx1 (fun rec1 x1_1 S5 => (if x1_1 ≥ (120 : Int32) then (if (S5.1 16 3) ≥ (S5.1 16 0) then (some ((S5.1 16 4), S5)) else (sw_bd (fX6_noteFault N S5) (fun _ S6 => (some ((S6.1 16 4), S6))))) else (sw_bd (fX6_next N S5) (fun r3 S7 => (if r3 = (59 : Int32) then (sw_ls (sw_si S7 16 3 ((S7.1 16 3) + (1 : Int32))) (fun S9 => (sw_bd (fX6_readLine N S9) (fun _ S10 => (rec1 (x1_1 + (1 : Int32)) S10))))) else (if (S7.1 16 3) ≥ (S7.1 16 0) then (some ((S7.1 16 4), S7)) else (sw_bd (fX6_noteFault N S7) (fun _ S8 => (some ((S8.1 16 4), S8)))))))))) N (0 : Int32) S4))) = some (f', V) from v1, sv_bd, sv_ls]
  generalize hW : sw_si V 16 0 (0 : Int32) = W
  have gW : sv_ag sv_kP S W := by rw [← hW]; exact sv_ag_tr gV (sv_ag_si V 16 0 _ (by unfold sv_kP; omega))
  have w16 : W.1 16 0 = 0 := by rw [← hW, sv_si, if_pos ⟨rfl, rfl⟩]
  -- the reference, behind any cells of the class
  have ref : ∀ U : sw_St, (∀ a, 100 ≤ a → U.1 a = S.1 a ∧ U.2 a = S.2 a) → ∃ r T1, fX9_workOut N (-1 : Int32) (U.1 105 8) U = some (r, T1) ∧ T1.1 105 14 = f' ∧ sv_rr (fun _ => False) sv_kF U T1 := by
    intro U hU
    obtain ⟨r, T1, a1, a2, a3, a4⟩ := wo N (by omega) (-1) U (Or.inl ⟨rfl, fun i hi => by rw [(hU 110 (by omega)).1]; exact (t3 i (by omega)).1⟩)
    exact ⟨r, T1, by rw [(hU 105 (by omega)).1, t2]; exact a1, a2, a3⟩
  have rT : ∀ U : sw_St, U.1 16 0 = 0 → U.1 105 8 = 0 → U.1 110 = S.1 110 → U.1 22 = S.1 22 → sv_rT U := fun U u1 u2 u3 u4 => ⟨0, Nat.zero_le _, u1, u2, fun k hk => by rw [u3, u4]; exact t3 k hk⟩
  rcases sv_fl_0 k6 with ⟨y1, y2⟩ | ⟨y1, y2⟩
  · -- told
    subst y1
    rw [if_pos (by decide)]
    unfold fX3_become
    rw [sv_ls, sv_ls, sv_cg128, sv_gt, sv_ls, sv_gt, sv_ls, show (0 : Int32).toNatClampNeg = 0 from rfl, show (128 : Int32).toNatClampNeg = 128 from rfl, sv_bd]
    generalize hY : sw_ci (sw_ci (sw_si (sw_si W 11 0 (1 : Int32)) 11 1 ((sw_si W 11 0 (1 : Int32)).1 17 1)) (17 + 1) (11 + 1) 0 0 128) (17 + 2) (11 + 2) 0 0 128 = Y
    have gY : sv_ag (fun a => 11 ≤ a ∧ a ≤ 13) W Y := by
      rw [← hY]
      exact sv_ag_tr (sv_ag_si _ 11 _ _ (by omega)) (sv_ag_tr (sv_ag_si _ 11 _ _ (by omega)) (sv_ag_tr (sv_ag_ci _ _ (11 + 1) _ _ _ (by omega)) (sv_ag_ci _ _ (11 + 2) _ _ _ (by omega))))
    have wV : ∀ a, a ≠ 16 → W.1 a = V.1 a := fun a ha => by rw [← hW]; exact (sv_ag_si (P := fun q => q = 16) V 16 0 0 rfl a ha).1
    have l121 : (sv_cd 0 Λ).length ≤ 121 := by omega
    have y0 : Y.1 11 0 = 1 := by rw [← hY, sv_ci0, if_neg (by omega), sv_ci0, if_neg (by omega), sv_si, if_neg (by omega), sv_si, if_pos ⟨rfl, rfl⟩]
    have y1 : Y.1 11 1 = nI (sv_cd 0 Λ).length := by rw [← hY, sv_ci0, if_neg (by omega), sv_ci0, if_neg (by omega), sv_si, if_pos ⟨rfl, rfl⟩, sv_si, if_neg (by omega), wV 17 (by omega)]; exact k8
    have y3 : ∀ i, i < (sv_cd 0 Λ).length → Y.1 12 i = ((sv_cd 0 Λ).getD i (0, 0)).1 ∧ Y.1 13 i = ((sv_cd 0 Λ).getD i (0, 0)).2 := by
      intro i hi
      constructor
      · rw [← hY, sv_ci0, if_neg (by omega), sv_ci0, if_pos ⟨rfl, by omega⟩, sv_si, if_neg (by omega), sv_si, if_neg (by omega), wV 18 (by omega)]; exact (k10 i hi).1
      · rw [← hY, sv_ci0, if_pos ⟨rfl, by omega⟩, sv_ci0, if_neg (by omega), sv_si, if_neg (by omega), sv_si, if_neg (by omega), wV 19 (by omega)]; exact (k10 i hi).2
    -- any names
    have hwl : ∀ ν l, l ∈ Λ → sv_wl ν l := by
      intro ν l hl
      obtain ⟨r, T1, a1, a2, a3, a4⟩ := wo 200 (by omega) (-1) (fun a k => if a = 112 then ν k else S.1 a k, S.2) (Or.inl ⟨rfl, fun i hi => by show (if 110 = 112 then ν i else S.1 110 i) = _; rw [if_neg (by omega)]; exact (t3 i (by omega)).1⟩)
      have := (a4 rfl).1 l hl
      have e : (fun k => if 112 = 112 then ν k else S.1 112 k) = ν := by funext k; rw [if_pos rfl]
      have e2 : ((fun a k => if a = 112 then ν k else S.1 a k, S.2) : sw_St).1 112 = ν := e
      rw [e2] at this
      exact this
    have lcY : sv_lc (sv_LL Λ) Y := sv_lc_new y0 y1 l121 y3 hwl
    have hiY : ∀ a, 100 ≤ a → Y.1 a = S.1 a ∧ Y.2 a = S.2 a := fun a ha => ⟨by rw [(gY a (by omega)).1, (gW a (by unfold sv_kP; omega)).1], by rw [(gY a (by omega)).2, (gW a (by unfold sv_kP; omega)).2]⟩
    obtain ⟨r, T1, a1, a2, a3⟩ := ref Y hiY
    have e8 : T1.1 105 8 = nI n := by rw [a3.2.1 8 (by unfold sv_kF; omega), (hiY 105 (by omega)).1, t2]
    generalize hT2 : sw_si T1 105 8 (0 : Int32) = T2
    have gT2 : sv_rr (fun _ => False) (fun k => k = 8) T1 T2 := by
      rw [← hT2]
      refine ⟨fun a ha _ => ⟨by funext q; rw [sv_si, if_neg (fun z => ha z.1)], rfl⟩, fun q hq => by rw [sv_si, if_neg (fun z => hq z.2)], rfl⟩
    have b14 : T2.1 105 14 = -1 := by rw [gT2.2.1 14 (by omega)]; exact a2
    -- the text is copied
    have copy : ∃ Z, (sw_fx1 (fun rec1 x3_1 S3 => (if x3_1 ≥ nI n then (sw_ls (sw_si S3 105 10 (nI n)) (fun S4 => (some ((1 : Int32), S4)))) else (sw_gd (sw_in x3_1 120) (sw_gd (sw_in x3_1 120) (sw_ls (sw_si S3 111 x3_1.toNatClampNeg (S3.1 110 x3_1.toNatClampNeg)) (fun S5 => (rec1 (x3_1 + (1 : Int32)) S5))))))) N (0 : Int32) T2) = some ((1 : Int32), Z) ∧ Z.1 105 10 = nI n ∧ (∀ i, i < n → Z.1 111 i = T2.1 110 i) ∧ sv_rr (fun a => a = 111) (fun k => k = 10) T2 Z := by
      refine sv_fr1 (Q := fun q => ∃ Z, q = some ((1 : Int32), Z) ∧ Z.1 105 10 = nI n ∧ (∀ i, i < n → Z.1 111 i = T2.1 110 i) ∧ sv_rr (fun a => a = 111) (fun k => k = 10) T2 Z) (fun k x Z => x = nI k ∧ (∀ i, i < k → Z.1 111 i = T2.1 110 i) ∧ sv_rr (fun a => a = 111) (fun k => k = 10) T2 Z) n ?_ ?_ N _ T2 (by omega) ⟨rfl, fun i hi => absurd hi (Nat.not_lt_zero i), sv_rr_rf⟩
      · rintro k x Z rec hk ⟨rfl, z1, gZ⟩
        left
        rw [if_neg (show ¬ nI k ≥ nI n from nI_ge hk (by omega)), sv_gi (by omega) (by decide), sv_gi (by omega) (by decide), sv_ls, nI_clamp (by omega)]
        refine ⟨_, _, ⟨nI_1 k, fun i hi => ?_, sv_rr_tr gZ (sv_rr_si Z 111 k _ (by decide) rfl)⟩, rfl⟩
        rw [sv_si]
        by_cases z : i = k
        · rw [if_pos ⟨rfl, z⟩, z, (gZ.1 110 (by decide) (by decide)).1]
        · rw [if_neg (fun y => z y.2)]; exact z1 i (by omega)
      · rintro x Z rec ⟨rfl, z1, gZ⟩
        rw [if_pos (show nI n ≥ nI n from Int32.le_refl _), sv_ls]
        refine ⟨_, rfl, by rw [sv_si, if_pos ⟨rfl, rfl⟩], fun i hi => by rw [sv_si, if_neg (by omega)]; exact z1 i hi, sv_rr_tr gZ ?_⟩
        refine ⟨fun a ha _ => ⟨by funext q; rw [sv_si, if_neg (fun z => ha z.1)], rfl⟩, fun q hq => by rw [sv_si, if_neg (fun z => hq z.2)], rfl⟩
    obtain ⟨Z, hZ, z1, z2, z3⟩ := copy
    have gYZ : sv_rr (fun a => a = 111) (fun k => sv_kF k ∨ k = 8 ∨ k = 10) Y Z := sv_rr_tr (sv_rr_wk a3 (fun a ha => ha.elim) (fun k hk => Or.inl hk)) (sv_rr_tr (sv_rr_wk gT2 (fun a ha => ha.elim) (fun k hk => Or.inr (Or.inl hk))) (sv_rr_wk z3 (fun a ha => ha) (fun k hk => Or.inr (Or.inr hk))))
    have z111 : ∀ i, i < n → Z.1 111 i = S.1 22 i := fun i hi => by rw [z2 i hi, (gT2.1 110 (by decide) (fun z => z)).1, (a3.1 110 (by decide) (fun z => z)).1, (hiY 110 (by omega)).1]; exact (t3 i (by omega)).1
    refine ⟨1, Y, Z, rfl, ?_, A, sv_LL Λ, b, ?_⟩
    · unfold fX9_law
      rw [a1, sv_bd, sv_li, sv_ls, e8, hT2, b14, if_pos (by decide)]
      exact hZ
    · refine sv_rl_tp hr ?_ (sv_lc_of lcY (gYZ.1 11 (by decide) (by decide)).1 (gYZ.1 12 (by decide) (by decide)).1 (gYZ.1 13 (by decide) (by decide)).1) ?_ (rT Z ?_ ?_ ?_ ?_)
      · have g1 : sv_rr (fun a => ¬ sv_P a ∨ a = 16 ∨ (11 ≤ a ∧ a ≤ 13) ∨ a = 111) (fun k => sv_F k ∨ k = 8 ∨ k = 10) S W := ⟨fun a _ ha => gW a (fun z => ha (by unfold sv_kP at z; unfold sv_P; omega)), fun k _ => by rw [(gW 105 (by unfold sv_kP; omega)).1], (gW 105 (by unfold sv_kP; omega)).2⟩
        have g2 : sv_rr (fun a => ¬ sv_P a ∨ a = 16 ∨ (11 ≤ a ∧ a ≤ 13) ∨ a = 111) (fun k => sv_F k ∨ k = 8 ∨ k = 10) W Y := ⟨fun a _ ha => gY a (fun z => ha (Or.inr (Or.inr (Or.inl z)))), fun k _ => by rw [(gY 105 (by omega)).1], (gY 105 (by omega)).2⟩
        exact sv_rr_tr g1 (sv_rr_tr g2 (sv_rr_wk gYZ (fun a ha => Or.inr (Or.inr (Or.inr ha))) (fun k hk => by rcases hk with z | z | z; exact Or.inl (sv_F_w (by unfold sv_kF at z; omega)); exact Or.inr (Or.inl z); exact Or.inr (Or.inr z))))
      · right
        refine ⟨by rw [z1]; exact sv_ng n (by omega), fun T q1 q2 K hK => ?_⟩
        obtain ⟨r2, T2', c1, c2, c3, c4⟩ := wo K hK 0 T (Or.inr ⟨rfl, fun i hi => by rw [q2]; exact z111 i hi⟩)
        refine ⟨r2, T2', by rw [q1, z1]; exact c1, ?_, c3⟩
        rw [(c4 rfl).2]
        show _ = sv_k20 (sv_run (sv_nu (T.1 112 0) (T.1 112 1) (T.1 112 2) (T.1 112 3) (T.1 112 4) (T.1 112 5)) 0 Λ)
        rw [sv_run_cg (ν := T.1 112) (μ := sv_nu (T.1 112 0) (T.1 112 1) (T.1 112 2) (T.1 112 3) (T.1 112 4) (T.1 112 5)) (fun k hk => by
          have : k = 0 ∨ k = 1 ∨ k = 2 ∨ k = 3 ∨ k = 4 ∨ k = 5 := by omega
          rcases this with rfl | rfl | rfl | rfl | rfl | rfl <;> rfl)]
      · rw [(gYZ.1 16 (by decide) (by decide)).1, (gY 16 (by omega)).1]; exact w16
      · rw [z3.2.1 8 (by omega), ← hT2, sv_si, if_pos ⟨rfl, rfl⟩]
      · rw [(gYZ.1 110 (by decide) (by decide)).1, (hiY 110 (by omega)).1]
      · rw [(gYZ.1 22 (by decide) (by decide)).1, (gY 22 (by omega)).1, (gW 22 (by unfold sv_kP; omega)).1]
  · -- a fault
    rw [if_neg (Int32.not_lt.mpr y2)]
    have hiW : ∀ a, 100 ≤ a → W.1 a = S.1 a ∧ W.2 a = S.2 a := fun a ha => gW a (by unfold sv_kP; omega)
    obtain ⟨r, T1, a1, a2, a3⟩ := ref W hiW
    generalize hT2 : sw_si T1 105 8 (0 : Int32) = T2
    have gT2 : sv_rr (fun _ => False) (fun k => k = 8) T1 T2 := by
      rw [← hT2]
      refine ⟨fun a ha _ => ⟨by funext q; rw [sv_si, if_neg (fun z => ha z.1)], rfl⟩, fun q hq => by rw [sv_si, if_neg (fun z => hq z.2)], rfl⟩
    have b14 : T2.1 105 14 = f' := by rw [gT2.2.1 14 (by omega)]; exact a2
    have gWT : sv_rr (fun _ => False) (fun k => sv_kF k ∨ k = 8) W T2 := sv_rr_tr (sv_rr_wk a3 (fun a ha => ha) (fun k hk => Or.inl hk)) (sv_rr_wk gT2 (fun a ha => ha) (fun k hk => Or.inr hk))
    have c : ∀ a, a ≠ 105 → T2.1 a = W.1 a := fun a ha => (gWT.1 a ha (fun z => z)).1
    refine ⟨_, W, T2, rfl, ?_, A, L, b, ?_⟩
    · unfold fX9_law
      rw [a1, sv_bd, sv_li, sv_ls, hT2, b14, if_neg (Int32.not_lt.mpr y2)]
    · refine sv_rl_tp hr ?_ (sv_lc_of h4 (by rw [c 11 (by decide), (gW 11 (by unfold sv_kP; omega)).1]) (by rw [c 12 (by decide), (gW 12 (by unfold sv_kP; omega)).1]) (by rw [c 13 (by decide), (gW 13 (by unfold sv_kP; omega)).1])) (sv_lr_of h5 (by rw [gWT.2.1 10 (by unfold sv_kF; omega), (hiW 105 (by omega)).1]) (by rw [c 111 (by decide), (hiW 111 (by omega)).1])) (rT T2 (by rw [c 16 (by decide)]; exact w16) (by rw [← hT2, sv_si, if_pos ⟨rfl, rfl⟩]) (by rw [c 110 (by decide), (hiW 110 (by omega)).1]) (by rw [c 22 (by decide), (gW 22 (by unfold sv_kP; omega)).1]))
      have g1 : sv_rr (fun a => ¬ sv_P a ∨ a = 16 ∨ (11 ≤ a ∧ a ≤ 13) ∨ a = 111) (fun k => sv_F k ∨ k = 8 ∨ k = 10) S W := ⟨fun a _ ha => gW a (fun z => ha (by unfold sv_kP at z; unfold sv_P; omega)), fun k _ => by rw [(gW 105 (by unfold sv_kP; omega)).1], (gW 105 (by unfold sv_kP; omega)).2⟩
      exact sv_rr_tr g1 (sv_rr_wk gWT (fun a ha => ha.elim) (fun k hk => by rcases hk with z | z; exact Or.inl (sv_F_w (by unfold sv_kF at z; omega)); exact Or.inr (Or.inl z)))
