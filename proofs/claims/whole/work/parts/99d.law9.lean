/-! the law: the whole of its steps -/
theorem sv_mend (N : Nat) {S : sw_St} {Γ : List (Int32 × Int32)} {ν : Nat → Int32} (h : sv_mkk S Γ ν) {i : Nat} {v w : Int32} (hi : i < Γ.length) (hs : sv_stk S [v]) (he : Γ.getD i (0, 0) = (59, w)) (m : Nat) : sw_fx2 (sv_woM N) (m + 1) (nI 1) (nI i) S = some (v, S) := by
  obtain ⟨h1, h2, h3, h4⟩ := id h
  obtain ⟨o1, o2⟩ := h3 i hi
  rw [he] at o1 o2
  have o1 : S.1 12 i = 59 := o1
  have ev : S.1 14 0 = v := hs.1
  rw [sv_fx2s]
  unfold sv_woM
  rw [h1, if_neg (show ¬ nI i ≥ nI Γ.length from nI_ge hi (by omega)), if_neg (show ¬ nI 1 ≥ (128 : Int32) by decide), sv_gi (by omega) (by decide), nI_clamp (show i < 2 ^ 31 by omega), sv_li, o1, if_neg (by decide), if_neg (by decide), if_pos (by decide), if_pos rfl, sv_pr 0, sv_gi (by omega) (by decide), nI_clamp (by omega), ev]
theorem sv_mif (N : Nat) {S : sw_St} {Γ : List (Int32 × Int32)} {ν : Nat → Int32} (h : sv_mkk S Γ ν) {i e : Nat} {v : Int32} (hi : i < Γ.length) (hs : sv_stk S [v]) (he : Γ.getD i (0, 0) = (63, nI e)) (hie : i ≤ e) (he1 : e < Γ.length) (m : Nat) : sw_fx2 (sv_woM N) (m + 1) (nI 1) (nI i) S = if v = 0 then sw_fx2 (sv_woM N) m (nI 0) (nI (e + 1)) S else sw_fx2 (sv_woM N) m (nI 0) (nI (i + 1)) S := by
  obtain ⟨h1, h2, h3, h4⟩ := id h
  obtain ⟨o1, o2⟩ := h3 i hi
  rw [he] at o1 o2
  have o1 : S.1 12 i = 63 := o1
  have o2 : S.1 13 i = nI e := o2
  have ev : S.1 14 0 = v := hs.1
  have mx : sw_mx (nI i) (nI e) = nI e := by
    unfold sw_mx
    by_cases z : nI i < nI e
    · rw [if_pos z]
    · rw [if_neg z]
      have := (nI_leI (by omega) (by omega)).mp (Int32.not_lt.mp z)
      rw [show i = e by omega]
  rw [sv_fx2s]
  rw [show sv_woM N (sw_fx2 (sv_woM N) m) (nI 1) (nI i) S = (if nI i ≥ (S.1 11 1) then (some ((0 : Int32), S)) else (if nI 1 ≥ (128 : Int32) then (some ((0 : Int32), S)) else sw_gd (sw_in (nI i) 128) (sw_li (S.1 12 (nI i).toNatClampNeg) (fun x3 => _)))) from rfl]
  rw [h1, if_neg (show ¬ nI i ≥ nI Γ.length from nI_ge hi (by omega)), if_neg (show ¬ nI 1 ≥ (128 : Int32) by decide), sv_gi (by omega) (by decide), nI_clamp (show i < 2 ^ 31 by omega), sv_li, o1, if_neg (by decide), if_neg (by decide), if_pos (by decide), if_neg (by decide), if_pos rfl, sv_pr2 0, sv_gi (by omega) (by decide), nI_clamp (by omega), ev, sv_gi (by omega) (by decide), o2, mx, sv_li, nI_1, nI_1]
theorem sv_mwhole (N : Nat) {Γ : List (Int32 × Int32)} {ν : Nat → Int32} : ∀ (Λ : List sv_Ln) (Γ0 : List (Int32 × Int32)) (S : sw_St) (m : Nat), Γ = Γ0 ++ sv_cd Γ0.length Λ → (∀ l, l ∈ Λ → sv_wl ν l) → sv_mkk S Γ ν → (sv_cd Γ0.length Λ).length < m → ∃ S', sw_fx2 (sv_woM N) m (nI 0) (nI Γ0.length) S = some (sv_run ν 0 Λ, S') ∧ sv_ag (fun a => a = 14) S S'
  | [], Γ0, S, m, hΓ, _, h, hm => by
    obtain ⟨m, rfl⟩ : ∃ m', m = m' + 1 := ⟨m - 1, by omega⟩
    have e : Γ.length = Γ0.length := by rw [hΓ]; show (Γ0 ++ []).length = _; rw [List.append_nil]
    refine ⟨S, ?_, sv_ag_rf⟩
    rw [sv_fx2s]
    unfold sv_woM
    rw [h.1, e, if_pos (show nI Γ0.length ≥ nI Γ0.length from Int32.le_refl _)]
    rfl
  | (A, q, B) :: Λ, Γ0, S, m, hΓ, hw, h, hm => by
    obtain ⟨w1, w2⟩ := hw (A, q, B) (List.mem_cons_self ..)
    have w1 : ∀ st, sv_ex2 ν A st = some (sv_v1 ν A :: st) := w1
    have hw' : ∀ l, l ∈ Λ → sv_wl ν l := fun l hl => hw l (List.mem_cons_of_mem _ hl)
    have h121 := h.2.1
    cases q with
    | false =>
      have ec : sv_cl1 Γ0.length (A, false, B) = A ++ [((59 : Int32), (0 : Int32))] := by
        unfold sv_cl1
        rw [if_neg (show ¬ (false = true) by decide)]
      have ecd : sv_cd Γ0.length ((A, false, B) :: Λ) = A ++ ([((59 : Int32), (0 : Int32))] ++ sv_cd (Γ0.length + (A ++ [((59 : Int32), (0 : Int32))]).length) Λ) := by
        show sv_cl1 Γ0.length (A, false, B) ++ sv_cd (Γ0.length + (sv_cl1 Γ0.length (A, false, B)).length) Λ = _
        rw [ec, List.append_assoc]
      rw [ecd] at hΓ hm
      generalize sv_cd (Γ0.length + (A ++ [((59 : Int32), (0 : Int32))]).length) Λ = R at hΓ hm
      have eL : Γ.length = Γ0.length + (A.length + (1 + R.length)) := by rw [hΓ, List.length_append, List.length_append, List.length_append]; rfl
      rw [List.length_append, List.length_append] at hm
      have hm : A.length + (1 + R.length) < m := hm
      obtain ⟨m1, rfl⟩ : ∃ m1, m = m1 + 1 + A.length := ⟨m - 1 - A.length, by omega⟩
      obtain ⟨S1, a1, a2, a3, a4⟩ := sv_mrun N A Γ0.length [] [sv_v1 ν A] S (m1 + 1) (fun j hj => by rw [hΓ, sv_gdr, sv_gdl _ _ _ hj]) (by omega) (Nat.zero_le _) h trivial (w1 [])
      refine ⟨S1, ?_, a4⟩
      have a1 : sw_fx2 (sv_woM N) (m1 + 1 + A.length) (nI 0) (nI Γ0.length) S = sw_fx2 (sv_woM N) (m1 + 1) (nI 1) (nI (Γ0.length + A.length)) S1 := a1
      rw [a1, sv_mend N a2 (by omega) a3 (w := 0) (by rw [hΓ, sv_gdr, show A.length = A.length + 0 by omega, sv_gdr]; rfl)]
      show _ = some ((if sv_lh ν (A, false, B) = 0 then sv_run ν 0 Λ else sv_lv ν (A, false, B)), S1)
      rw [if_neg (show ¬ sv_lh ν (A, false, B) = 0 from sv_nz)]
      rfl
    | true =>
      have w2 : ∀ st, sv_ex2 ν B st = some (sv_v1 ν B :: st) := w2 rfl
      have ec : sv_cl1 Γ0.length (A, true, B) = A ++ ([((63 : Int32), nI (Γ0.length + A.length + 1 + B.length))] ++ (B ++ [((59 : Int32), (0 : Int32))])) := by
        unfold sv_cl1
        rw [if_pos rfl, List.append_assoc, List.append_assoc]
      have el : (sv_cl1 Γ0.length (A, true, B)).length = A.length + (1 + (B.length + 1)) := by rw [ec, List.length_append, List.length_append, List.length_append]; rfl
      have ecd : sv_cd Γ0.length ((A, true, B) :: Λ) = A ++ ([((63 : Int32), nI (Γ0.length + A.length + 1 + B.length))] ++ (B ++ ([((59 : Int32), (0 : Int32))] ++ sv_cd (Γ0.length + (sv_cl1 Γ0.length (A, true, B)).length) Λ))) := by
        show sv_cl1 Γ0.length (A, true, B) ++ sv_cd (Γ0.length + (sv_cl1 Γ0.length (A, true, B)).length) Λ = _
        rw [ec, List.append_assoc, List.append_assoc, List.append_assoc]
      have hΓ2 : Γ = (Γ0 ++ sv_cl1 Γ0.length (A, true, B)) ++ sv_cd (Γ0 ++ sv_cl1 Γ0.length (A, true, B)).length Λ := by
        rw [hΓ]
        show Γ0 ++ (sv_cl1 Γ0.length (A, true, B) ++ sv_cd (Γ0.length + (sv_cl1 Γ0.length (A, true, B)).length) Λ) = _
        rw [List.append_assoc, List.length_append]
      rw [ecd] at hΓ hm
      have eR : (sv_cd (Γ0 ++ sv_cl1 Γ0.length (A, true, B)).length Λ).length = (sv_cd (Γ0.length + (sv_cl1 Γ0.length (A, true, B)).length) Λ).length := by rw [List.length_append]
      generalize hR : sv_cd (Γ0.length + (sv_cl1 Γ0.length (A, true, B)).length) Λ = R at hΓ hm eR
      have eL : Γ.length = Γ0.length + (A.length + (1 + (B.length + (1 + R.length)))) := by rw [hΓ, List.length_append, List.length_append, List.length_append, List.length_append, List.length_append]; rfl
      rw [List.length_append, List.length_append, List.length_append, List.length_append] at hm
      have hm : A.length + (1 + (B.length + (1 + R.length))) < m := hm
      obtain ⟨m1, rfl⟩ : ∃ m1, m = m1 + 1 + B.length + 1 + A.length := ⟨m - 1 - B.length - 1 - A.length, by omega⟩
      obtain ⟨S1, a1, a2, a3, a4⟩ := sv_mrun N A Γ0.length [] [sv_v1 ν A] S (m1 + 1 + B.length + 1) (fun j hj => by rw [hΓ, sv_gdr, sv_gdl _ _ _ hj]) (by omega) (Nat.zero_le _) h trivial (w1 [])
      have a1 : sw_fx2 (sv_woM N) (m1 + 1 + B.length + 1 + A.length) (nI 0) (nI Γ0.length) S = sw_fx2 (sv_woM N) (m1 + 1 + B.length + 1) (nI 1) (nI (Γ0.length + A.length)) S1 := a1
      rw [a1, sv_mif N a2 (e := Γ0.length + A.length + 1 + B.length) (by omega) a3 (by rw [hΓ, sv_gdr, show A.length = A.length + 0 by omega, sv_gdr]; rfl) (by omega) (by omega)]
      show ∃ S', _ = some ((if sv_lh ν (A, true, B) = 0 then sv_run ν 0 Λ else sv_lv ν (A, true, B)), S') ∧ _
      have elh : sv_lh ν (A, true, B) = if sv_v1 ν A = 0 then 0 else 1 := rfl
      by_cases z : sv_v1 ν A = 0
      · rw [if_pos z, elh, if_pos z, if_pos rfl]
        obtain ⟨S', b1, b2⟩ := sv_mwhole N Λ (Γ0 ++ sv_cl1 Γ0.length (A, true, B)) S1 (m1 + 1 + B.length) hΓ2 hw' a2 (by rw [eR]; omega)
        rw [show (Γ0 ++ sv_cl1 Γ0.length (A, true, B)).length = Γ0.length + A.length + 1 + B.length + 1 by rw [List.length_append, el]; omega] at b1
        exact ⟨S', b1, sv_ag_tr a4 b2⟩
      · rw [if_neg z, elh, if_neg z, if_neg sv_nz]
        obtain ⟨S2, b1, b2, b3, b4⟩ := sv_mrun N B (Γ0.length + A.length + 1) [] [sv_v1 ν B] S1 (m1 + 1) (fun j hj => by rw [hΓ, show Γ0.length + A.length + 1 + j = Γ0.length + (A.length + (j + 1)) by omega, sv_gdr, sv_gdr]; show (B ++ _).getD j _ = _; rw [sv_gdl _ _ _ hj]) (by omega) (Nat.zero_le _) a2 trivial (w2 [])
        have b1 : sw_fx2 (sv_woM N) (m1 + 1 + B.length) (nI 0) (nI (Γ0.length + A.length + 1)) S1 = sw_fx2 (sv_woM N) (m1 + 1) (nI 1) (nI (Γ0.length + A.length + 1 + B.length)) S2 := b1
        refine ⟨S2, ?_, sv_ag_tr a4 b4⟩
        rw [b1, sv_mend N b2 (by omega) b3 (w := 0) (by rw [hΓ, show Γ0.length + A.length + 1 + B.length = Γ0.length + (A.length + (B.length + 1)) by omega, sv_gdr, sv_gdr]; show (B ++ _).getD B.length _ = _; rw [show B.length = B.length + 0 by omega, sv_gdr]; rfl)]
        rfl
/-! names beyond the six don't matter -/
theorem sv_st1_cg {ν μ : Nat → Int32} (h : ∀ k, k < 6 → ν k = μ k) (x : Int32 × Int32) (st : List Int32) : sv_st1 ν x st = sv_st1 μ x st := by
  unfold sv_st1
  by_cases q : 0 ≤ x.2 ∧ x.2 ≤ 5
  · obtain ⟨k, hk, e⟩ := sv_rg 5 (by decide) q.1 q.2
    rw [if_pos q, if_pos q, e, nI_clamp (by omega), h k (by omega)]
  · rw [if_neg q, if_neg q]
theorem sv_ex2_cg {ν μ : Nat → Int32} (h : ∀ k, k < 6 → ν k = μ k) : ∀ (C : List (Int32 × Int32)) (st : List Int32), sv_ex2 ν C st = sv_ex2 μ C st
  | [], st => rfl
  | x :: C, st => by
    show (sv_st1 ν x st).bind (sv_ex2 ν C) = (sv_st1 μ x st).bind (sv_ex2 μ C)
    rw [sv_st1_cg h]
    cases sv_st1 μ x st with
    | none => rfl
    | some s => exact sv_ex2_cg h C s
theorem sv_v1_cg {ν μ : Nat → Int32} (h : ∀ k, k < 6 → ν k = μ k) (C : List (Int32 × Int32)) : sv_v1 ν C = sv_v1 μ C := by
  unfold sv_v1
  rw [sv_ex2_cg h]
theorem sv_run_cg {ν μ : Nat → Int32} (h : ∀ k, k < 6 → ν k = μ k) (d : Int32) : ∀ Λ : List sv_Ln, sv_run ν d Λ = sv_run μ d Λ
  | [] => rfl
  | l :: Λ => by
    show (if sv_lh ν l = 0 then sv_run ν d Λ else sv_lv ν l) = (if sv_lh μ l = 0 then sv_run μ d Λ else sv_lv μ l)
    unfold sv_lh sv_lv
    rw [sv_run_cg h d Λ, sv_v1_cg h, sv_v1_cg h]
