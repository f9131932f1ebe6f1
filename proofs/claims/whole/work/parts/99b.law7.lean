/-! the law: its whole text -/
def sv_cd : Nat → List sv_Ln → List (Int32 × Int32)
  | _, [] => []
  | b, l :: Λ => sv_cl1 b l ++ sv_cd (b + (sv_cl1 b l).length) Λ
def sv_run (ν : Nat → Int32) (d : Int32) : List sv_Ln → Int32
  | [] => d
  | l :: Λ => if sv_lh ν l = 0 then sv_run ν d Λ else sv_lv ν l
theorem sv_fx3s {ρ : Type} (body : (Int32 → Int32 → Int32 → sw_St → Option ρ) → Int32 → Int32 → Int32 → sw_St → Option ρ) (m : Nat) (a b c : Int32) (S : sw_St) : sw_fx3 body (m + 1) a b c S = body (sw_fx3 body m) a b c S := rfl
def sv_rdB (N : Nat) : (Int32 → sw_St → Option (Int32 × sw_St)) → Int32 → sw_St → Option (Int32 × sw_St) := fun rec1 x1_1 S5 => (if x1_1 ≥ (120 : Int32) then (if (S5.1 16 3) ≥ (S5.1 16 0) then (some ((S5.1 16 4), S5)) else (sw_bd (fX6_noteFault N S5) (fun _ S6 => (some ((S6.1 16 4), S6))))) else (sw_bd (fX6_next N S5) (fun r3 S7 => (if r3 = (59 : Int32) then (sw_ls (sw_si S7 16 3 ((S7.1 16 3) + (1 : Int32))) (fun S9 => (sw_bd (fX6_readLine N S9) (fun _ S10 => (rec1 (x1_1 + (1 : Int32)) S10))))) else (if (S7.1 16 3) ≥ (S7.1 16 0) then (some ((S7.1 16 4), S7)) else (sw_bd (fX6_noteFault N S7) (fun _ S8 => (some ((S8.1 16 4), S8)))))))))
def sv_woB (N : Nat) : (Int32 → Int32 → Int32 → sw_St → Option (Int32 × sw_St)) → Int32 → Int32 → Int32 → sw_St → Option (Int32 × sw_St) := fun rec1 x3_1 x4_1 x5_1 S6 => (if x5_1 = 0 then (if (S6.1 105 14) ≥ 0 then (some (x4_1, S6)) else (if (S6.1 105 12) ≥ (S6.1 105 13) then (some (x4_1, S6)) else (sw_bd (fX9_wrong N S6) (fun r1 S7 => (some (r1, S7)))))) else (sw_bd (fX9_either N S6) (fun r2 S8 => (sw_bd (fX9_takes N (63 : Int32) S8) (fun r3 S9 => (sw_jn2 (fun x6_1 x7_1 S10 => (if (S10.1 105 14) ≥ 0 then (sw_bd (fX9_takes N (59 : Int32) S10) (fun r4 S11 => (rec1 x3_1 x4_1 r4 S11))) else (if x7_1 = 0 then (sw_bd (fX9_takes N (59 : Int32) S10) (fun r5 S12 => (rec1 x3_1 x4_1 r5 S12))) else (if x3_1 = 0 then (sw_bd (fX9_takes N (59 : Int32) S10) (fun r7 S14 => (rec1 (1 : Int32) x6_1 r7 S14))) else (sw_bd (fX9_takes N (59 : Int32) S10) (fun r6 S13 => (rec1 x3_1 x4_1 r6 S13))))))) (fun k1 => (if r3 = 0 then (k1 r2 (1 : Int32) S9) else (if r2 = 0 then (sw_bd (fX9_either N S9) (fun r8 S15 => (k1 r8 (0 : Int32) S15))) else (sw_bd (fX9_either N S9) (fun r9 S16 => (k1 r9 (1 : Int32) S16))))))))))))
theorem sv_fl_0 {f : Int32} (h : sv_fl f) : (f = -1 ∧ ¬ f ≥ 0) ∨ (f ≠ -1 ∧ f ≥ 0) := by
  rcases h with rfl | ⟨k, hk, rfl⟩
  · exact Or.inl ⟨rfl, by decide⟩
  · have p0 : nI k ≥ (0 : Int32) := nI_pos' (by omega)
    exact Or.inr ⟨fun z => absurd p0 (by rw [z]; decide), p0⟩
theorem sv_text (N : Nat) (hN : 200 ≤ N) {β : Nat → Int32} {n : Nat} : ∀ d p i S f Γ m, n - p ≤ d → d < m → i ≤ p → sv_kc β n S p f Γ → Γ.length ≤ p → ∃ S' p' f' Λ, sw_bd (fX6_readLine N S) (fun _ S4 => sw_fx1 (sv_rdB N) m (nI i) S4) = some (f', S') ∧ sv_kc β n S' p' f' (Γ ++ sv_cd Γ.length Λ) ∧ sv_ag sv_kP S S' ∧ ∀ K T k g v, 200 ≤ K → d + 1 < k → sv_kr β n T p f 0 → (g = 0 ∨ g = 1) → ∃ r T', sw_fx3 (sv_woB K) k g v 1 T = some (r, T') ∧ sv_kr β n T' p' f' 0 ∧ sv_rr (fun _ => False) sv_kF T T' ∧ (f' = -1 → (∀ l, l ∈ Λ → sv_wl (T.1 112) l) ∧ r = if g = 0 then sv_run (T.1 112) v Λ else v) := by
  intro d
  induction d using Nat.strongRecOn with
  | _ d ih =>
    intro p i S f Γ m hd hm hi h hl
    obtain ⟨S1, p1, f1, l, a1, a2, a3, a4, a5, a6⟩ := sv_line N hN h hl
    obtain ⟨k1, k2, k3, k4, k5, k6, k7, k8, k9, -⟩ := id a2
    obtain ⟨m, rfl⟩ : ∃ m', m = m' + 1 := ⟨m - 1, by omega⟩
    rw [a1, sv_bd, sv_fx1s]
    by_cases hsc : sv_nx2 β n p1 f1 = 59
    · -- a further line
      obtain ⟨hf1, hp1, hb1⟩ := (sv_nx2_is k6 (by decide)).mp hsc
      subst hf1
      obtain ⟨S', p', f', Λ, b1, b2, b3, b4⟩ := ih (d - 1) (by omega) (p1 + 1) (i + 1) _ (-1) (Γ ++ sv_cl1 Γ.length l) m (by omega) (by omega) (by omega) (sv_kc_on a2 hp1) k9
      refine ⟨S', p', f', l :: Λ, ?_, ?_, sv_ag_tr a3 (sv_ag_tr (sv_ag_si S1 16 3 _ (by unfold sv_kP; omega)) b3), fun K T k g v hK hk hT hg => ?_⟩
      · show (if nI i ≥ (120 : Int32) then _ else _) = _
        rw [if_neg (show ¬ nI i ≥ (120 : Int32) from nI_ge (b := 120) (by omega) (by decide)), e6_next N a2, sv_bd, if_pos hsc, sv_ls, nI_1]
        exact b1
      · have e : Γ ++ sv_cd Γ.length (l :: Λ) = Γ ++ sv_cl1 Γ.length l ++ sv_cd (Γ ++ sv_cl1 Γ.length l).length Λ := by
          show Γ ++ (sv_cl1 Γ.length l ++ sv_cd (Γ.length + (sv_cl1 Γ.length l).length) Λ) = _
          rw [← List.append_assoc, List.length_append]
        rw [e]
        exact b2
      · obtain ⟨v1, w1, T1, e1, e2, e3, e4⟩ := a6 K T hK hT
        obtain ⟨k, rfl⟩ : ∃ k', k = k' + 1 := ⟨k - 1, by omega⟩
        have g5 : sv_rr (fun _ => False) sv_kF T1 (sw_si T1 105 12 (T1.1 105 12 + 1)) := sv_rr_5 T1 (by unfold sv_kF; omega) _
        have n1 : (sw_si T1 105 12 (T1.1 105 12 + 1)).1 112 = T.1 112 := by rw [(g5.1 112 (by decide) (fun z => z)).1, (e3.1 112 (by decide) (fun z => z)).1]
        have tk := (e9_takes K e2 (Or.inl rfl) k4 k5 (c := 59) (by decide) (by decide)).1 hsc
        obtain ⟨x1, x2, x3⟩ := e4 rfl
        -- what is given from here on
        have on : ∀ g' v', (g' = 0 ∨ g' = 1) → sw_fx3 (sv_woB K) (k + 1) g v 1 T = sw_fx3 (sv_woB K) k g' v' 1 (sw_si T1 105 12 (T1.1 105 12 + 1)) → (if g' = 0 then sv_run (T.1 112) v' Λ else v') = (if g = 0 then sv_run (T.1 112) v (l :: Λ) else v) → ∃ r T', sw_fx3 (sv_woB K) (k + 1) g v 1 T = some (r, T') ∧ sv_kr β n T' p' f' 0 ∧ sv_rr (fun _ => False) sv_kF T T' ∧ (f' = -1 → (∀ q, q ∈ l :: Λ → sv_wl (T.1 112) q) ∧ r = if g = 0 then sv_run (T.1 112) v (l :: Λ) else v) := by
          intro g' v' hg' h1 h2
          obtain ⟨r, T', c1, c2, c3, c4⟩ := b4 K _ k g' v' hK (by omega) (sv_kr_on e2) hg'
          refine ⟨r, T', by rw [h1, c1], c2, sv_rr_tr e3 (sv_rr_tr g5 c3), fun hf => ?_⟩
          obtain ⟨c5, c6⟩ := c4 hf
          rw [n1] at c5 c6
          refine ⟨fun q hq => ?_, by rw [c6, h2]⟩
          rcases List.mem_cons.mp hq with z | z
          · rw [z]; exact x1
          · exact c5 q z
        have step : sw_fx3 (sv_woB K) (k + 1) g v 1 T = (if (T1.1 105 14) ≥ 0 then (sw_bd (fX9_takes K (59 : Int32) T1) (fun r4 S11 => (sw_fx3 (sv_woB K) k g v r4 S11))) else (if w1 = 0 then (sw_bd (fX9_takes K (59 : Int32) T1) (fun r5 S12 => (sw_fx3 (sv_woB K) k g v r5 S12))) else (if g = 0 then (sw_bd (fX9_takes K (59 : Int32) T1) (fun r7 S14 => (sw_fx3 (sv_woB K) k (1 : Int32) v1 r7 S14))) else (sw_bd (fX9_takes K (59 : Int32) T1) (fun r6 S13 => (sw_fx3 (sv_woB K) k g v r6 S13)))))) := by
          rw [sv_fx3s]
          show (if (1 : Int32) = 0 then _ else _) = _
          rw [if_neg sv_nz]
          exact e1 _
        rw [sv_f0 e2, if_neg (by decide), tk, sv_bd, sv_bd] at step
        by_cases hw : w1 = 0
        · rw [if_pos hw] at step
          refine on g v hg step ?_
          by_cases hg0 : g = 0
          · rw [if_pos hg0, if_pos hg0]
            show _ = (if sv_lh (T.1 112) l = 0 then sv_run (T.1 112) v Λ else sv_lv (T.1 112) l)
            rw [← x3, if_pos hw]
          · rw [if_neg hg0, if_neg hg0]
        · rw [if_neg hw] at step
          by_cases hg0 : g = 0
          · rw [if_pos hg0] at step
            refine on 1 v1 (Or.inr rfl) step ?_
            rw [if_neg sv_nz, if_pos hg0]
            show _ = (if sv_lh (T.1 112) l = 0 then sv_run (T.1 112) v Λ else sv_lv (T.1 112) l)
            rw [← x3, if_neg hw, x2]
          · rw [if_neg hg0] at step
            refine on g v hg step ?_
            rw [if_neg hg0, if_neg hg0]
    · -- the end
      have ecd : Γ ++ sv_cd Γ.length [l] = Γ ++ sv_cl1 Γ.length l := by
        show Γ ++ (sv_cl1 Γ.length l ++ []) = _
        rw [List.append_nil]
      have cls : ∀ (X : Option (Int32 × sw_St)), (if (S1.1 16 3) ≥ (S1.1 16 0) then (some ((S1.1 16 4), S1)) else (sw_bd (fX6_noteFault N S1) (fun _ S6 => (some ((S6.1 16 4), S6))))) = X → sv_rdB N (sw_fx1 (sv_rdB N) m) (nI i) S1 = X := by
        intro X hX
        show (if nI i ≥ (120 : Int32) then _ else _) = _
        by_cases hi0 : i = 120
        · rw [if_pos (show nI i ≥ (120 : Int32) by rw [hi0]; exact Int32.le_refl _), hX]
        · rw [if_neg (show ¬ nI i ≥ (120 : Int32) from nI_ge (b := 120) (by omega) (by decide)), e6_next N a2, sv_bd, if_neg hsc, hX]
      obtain ⟨Sf, c1, c2, c3⟩ := e6_noteFault N a2
      -- where it ends
      have fin : ∀ (S' : sw_St) (f' : Int32), (p1 < n ∧ f' = (if f1 = -1 then nI p1 else f1) ∧ S' = Sf) ∨ (¬ p1 < n ∧ f' = f1 ∧ S' = S1) → ∃ S' p' f' Λ, sv_rdB N (sw_fx1 (sv_rdB N) m) (nI i) S1 = some (f', S') ∧ sv_kc β n S' p' f' (Γ ++ sv_cd Γ.length Λ) ∧ sv_ag sv_kP S S' ∧ ∀ K T k g v, 200 ≤ K → d + 1 < k → sv_kr β n T p f 0 → (g = 0 ∨ g = 1) → ∃ r T', sw_fx3 (sv_woB K) k g v 1 T = some (r, T') ∧ sv_kr β n T' p' f' 0 ∧ sv_rr (fun _ => False) sv_kF T T' ∧ (f' = -1 → (∀ l, l ∈ Λ → sv_wl (T.1 112) l) ∧ r = if g = 0 then sv_run (T.1 112) v Λ else v) := by
        intro S' f' hcase
        refine ⟨S', p1, f', [l], ?_, ?_, ?_, fun K T k g v hK hk hT hg => ?_⟩
        · refine cls _ ?_
          rw [k1, k2]
          rcases hcase with ⟨z1, z2, z3⟩ | ⟨z1, z2, z3⟩
          · rw [if_neg (show ¬ nI p1 ≥ nI n from nI_ge z1 (by omega)), c1, sv_bd, z3, c2.2.2.1, z2]
          · rw [if_pos (show nI p1 ≥ nI n from (nI_leI (by omega) (by omega)).mpr (by omega)), z3, z2, k3]
        · rw [ecd]
          rcases hcase with ⟨z1, z2, z3⟩ | ⟨z1, z2, z3⟩
          · rw [z3, z2]; exact c2
          · rw [z3, z2]; exact a2
        · rcases hcase with ⟨z1, z2, z3⟩ | ⟨z1, z2, z3⟩
          · rw [z3]; exact sv_ag_tr a3 c3
          · rw [z3]; exact a3
        · obtain ⟨v1, w1, T1, e1, e2, e3, e4⟩ := a6 K T hK hT
          obtain ⟨k, rfl⟩ : ∃ k', k = k' + 1 + 1 := ⟨k - 2, by omega⟩
          have tk := (e9_takes K e2 k6 k4 k5 (c := 59) (by decide) (by decide)).2 hsc
          have step : sw_fx3 (sv_woB K) (k + 1 + 1) g v 1 T = (if (T1.1 105 14) ≥ 0 then (sw_bd (fX9_takes K (59 : Int32) T1) (fun r4 S11 => (sw_fx3 (sv_woB K) (k + 1) g v r4 S11))) else (if w1 = 0 then (sw_bd (fX9_takes K (59 : Int32) T1) (fun r5 S12 => (sw_fx3 (sv_woB K) (k + 1) g v r5 S12))) else (if g = 0 then (sw_bd (fX9_takes K (59 : Int32) T1) (fun r7 S14 => (sw_fx3 (sv_woB K) (k + 1) (1 : Int32) v1 r7 S14))) else (sw_bd (fX9_takes K (59 : Int32) T1) (fun r6 S13 => (sw_fx3 (sv_woB K) (k + 1) g v r6 S13)))))) := by
            rw [sv_fx3s]
            show (if (1 : Int32) = 0 then _ else _) = _
            rw [if_neg sv_nz]
            exact e1 _
          rw [sv_f0 e2, tk, sv_bd, sv_bd] at step
          -- the last round of the reference's loop
          obtain ⟨Tw, t1, t2, t3⟩ := e9_wrong K e2 k6 (by omega) 0
          have last : ∀ g' v', (if f1 = -1 ∧ p1 < n then sw_fx3 (sv_woB K) (k + 1) g' v' 0 T1 = some (0, Tw) else sw_fx3 (sv_woB K) (k + 1) g' v' 0 T1 = some (v', T1)) := by
            intro g' v'
            have e : sw_fx3 (sv_woB K) (k + 1) g' v' 0 T1 = (if (T1.1 105 14) ≥ 0 then (some (v', T1)) else (if (T1.1 105 12) ≥ (T1.1 105 13) then (some (v', T1)) else (sw_bd (fX9_wrong K T1) (fun r1 S7 => (some (r1, S7)))))) := by
              rw [sv_fx3s]
              show (if (0 : Int32) = 0 then _ else _) = _
              rw [if_pos rfl]
            rw [e, sv_f0 e2, e2.1, e2.2.1]
            rcases sv_fl_0 k6 with ⟨y1, y2⟩ | ⟨y1, y2⟩
            · by_cases z : p1 < n
              · rw [if_pos ⟨y1, z⟩, if_neg y2, if_neg (show ¬ nI p1 ≥ nI n from nI_ge z (by omega)), t1, sv_bd]
              · rw [if_neg (fun q => z q.2), if_neg y2, if_pos (show nI p1 ≥ nI n from (nI_leI (by omega) (by omega)).mpr (by omega))]
            · rw [if_neg (fun q => y1 q.1), if_pos y2]
          have goal : ∀ g' v', sw_fx3 (sv_woB K) (k + 1 + 1) g v 1 T = sw_fx3 (sv_woB K) (k + 1) g' v' 0 T1 → (f' = -1 → v' = if g = 0 then sv_run (T.1 112) v [l] else v) → ∃ r T', sw_fx3 (sv_woB K) (k + 1 + 1) g v 1 T = some (r, T') ∧ sv_kr β n T' p1 f' 0 ∧ sv_rr (fun _ => False) sv_kF T T' ∧ (f' = -1 → (∀ q, q ∈ [l] → sv_wl (T.1 112) q) ∧ r = if g = 0 then sv_run (T.1 112) v [l] else v) := by
            intro g' v' h1 h2
            have la := last g' v'
            by_cases y : f1 = -1 ∧ p1 < n
            · rw [if_pos y] at la
              rcases hcase with ⟨z1, z2, z3⟩ | ⟨z1, z2, z3⟩
              · have nf : f' ≠ -1 := by
                  rw [z2, if_pos y.1]
                  exact fun q => absurd (show nI p1 ≥ (0 : Int32) from nI_pos' (by omega)) (by rw [q]; decide)
                exact ⟨0, Tw, by rw [h1, la], by rw [z2]; exact t2, sv_rr_tr e3 t3, fun q => absurd q nf⟩
              · exact absurd y.2 z1
            · rw [if_neg y] at la
              have ef : f' = f1 := by
                rcases hcase with ⟨z1, z2, z3⟩ | ⟨z1, z2, z3⟩
                · rw [z2, if_neg (fun q => y ⟨q, z1⟩)]
                · exact z2
              refine ⟨v', T1, by rw [h1, la], by rw [ef]; exact e2, e3, fun q => ⟨fun q' hq' => ?_, h2 q⟩⟩
              rw [List.mem_singleton.mp hq']
              exact (e4 (by rw [← ef]; exact q)).1
          rcases sv_fl_0 k6 with ⟨y1, y2⟩ | ⟨y1, y2⟩
          · obtain ⟨x1, x2, x3⟩ := e4 y1
            rw [if_neg y2] at step
            by_cases hw : w1 = 0
            · rw [if_pos hw] at step
              refine goal g v step (fun _ => ?_)
              by_cases hg0 : g = 0
              · rw [if_pos hg0]
                show v = (if sv_lh (T.1 112) l = 0 then v else sv_lv (T.1 112) l)
                rw [← x3, if_pos hw]
              · rw [if_neg hg0]
            · rw [if_neg hw] at step
              by_cases hg0 : g = 0
              · rw [if_pos hg0] at step
                refine goal 1 v1 step (fun _ => ?_)
                rw [if_pos hg0]
                show v1 = (if sv_lh (T.1 112) l = 0 then v else sv_lv (T.1 112) l)
                rw [← x3, if_neg hw, x2]
              · rw [if_neg hg0] at step
                refine goal g v step (fun _ => ?_)
                rw [if_neg hg0]
          · rw [if_pos y2] at step
            refine goal g v step (fun q => ?_)
            exfalso
            rcases hcase with ⟨z1, z2, z3⟩ | ⟨z1, z2, z3⟩
            · rw [if_neg y1] at z2
              exact y1 (by rw [← z2]; exact q)
            · exact y1 (by rw [← z2]; exact q)
      by_cases hpn : p1 < n
      · exact fin Sf _ (Or.inl ⟨hpn, rfl, rfl⟩)
      · exact fin S1 _ (Or.inr ⟨hpn, rfl, rfl⟩)
