/-! passHour, foresee, passHourBehind -/
theorem e4_grow (N : Nat) (S : sw_St) (o : Nat) {s : Nat} (hs : s < 10) (g : Int32) : fX4_grow N o (nI s) g S = some ((), sw_si S (o + 4) s (nI (sv_cl ((S.1 (o + 4) s + g) - (3 : Int32) * S.1 (o + 5) s)))) := by
  unfold fX4_grow fX8_heldWithin
  rw [sv_gi hs (by decide), sv_gi hs (by decide), sv_bd, sv_gi hs (by decide), nI_clamp (by omega), sv_ls, (sv_cl_eq _).1]
theorem sv_Bt {p : Prop} [Decidable p] {β : Type} {x y z : β} (h1 : p → x = z) (h2 : ¬ p → y = z) : (if p then x else y) = z := by
  by_cases h : p
  · rw [if_pos h]; exact h1 h
  · rw [if_neg h]; exact h2 h
theorem e4_passHour (N : Nat) (hN : 200 ≤ N) {S : sw_St} {o : Nat} (ho : sv_nights o) {A : sv_A} {L : sv_L} (h : sv_nc S o A) (hA : sv_wf A) (hL : sv_lc L S) (light : Int32) : ∃ U, fX4_passHour N o 11 light S = some ((), U) ∧ sv_nc U o (sv_hr L A light) ∧ sv_ag (fun q => q = o ∨ q = o + 4 ∨ q = o + 7 ∨ q = 14 ∨ q = 15) S U := by
  have h10 := hA.1
  unfold sv_nights at ho
  unfold fX4_passHour
  rw [e4_awakeCots N (by omega) h hA, sv_bd]
  refine sv_fr1 (Q := fun t => ∃ U, t = some ((), U) ∧ sv_nc U o (sv_hr L A light) ∧ sv_ag (fun q => q = o ∨ q = o + 4 ∨ q = o + 7 ∨ q = 14 ∨ q = 15) S U) (fun k x T => x = nI k ∧ sv_ag (fun q => q = o + 7 ∨ q = 14 ∨ q = 15) S T ∧ ∀ s, s < k → T.1 (o + 7) s = sv_g L A s (sv_B (nI (A.2.1 0 s) = light))) A.1 ?_ ?_ N _ S (by omega) ⟨rfl, sv_ag_rf, fun s hs => absurd hs (Nat.not_lt_zero s)⟩
  · rintro k x T rec hk ⟨rfl, hag, hg⟩
    left
    have hT : sv_nc T o A := sv_nc_ag h hag (fun q hq => by omega)
    have hLT : sv_lc L T := sv_lc_ag hL hag (by omega) (by omega) (by omega)
    have e0 : T.1 (o + 1) k = nI (A.2.1 0 k) := hT.2.1 0 k (by omega) (by omega)
    rw [if_neg (show ¬ nI k ≥ T.1 o 0 by rw [hT.1]; exact nI_ge hk (by omega)), sv_gi (by omega) (by decide), nI_clamp (by omega), e0]
    have go : ∀ v : Int32, v = sv_B (nI (A.2.1 0 k) = light) → ∃ b0 T1, (b0 = nI (k + 1) ∧ sv_ag (fun q => q = o + 7 ∨ q = 14 ∨ q = 15) S T1 ∧ ∀ s, s < k + 1 → T1.1 (o + 7) s = sv_g L A s (sv_B (nI (A.2.1 0 s) = light))) ∧ (sw_bd (fX4_growth N o 11 (nI k) (nI (sv_acb A)) v T) fun r4 S8 => sw_gd (sw_in (nI k) 10) (sw_ls (sw_si S8 (o + 7) k r4) fun S9 => rec (nI k + 1) S9)) = rec b0 T1 := by
      intro v hv
      obtain ⟨U, hU, hU2⟩ := e4_growth N hN hT hA hLT hk v
      rw [hU, sv_bd, sv_gi (by omega) (by decide), sv_ls]
      refine ⟨_, _, ⟨nI_1 k, ?_, ?_⟩, rfl⟩
      · exact sv_ag_tr hag (sv_ag_tr (sv_ag_wk hU2 (fun a ha => by omega)) (sv_ag_si U (o + 7) k _ (by omega)))
      · intro s hs
        rw [sv_si]
        by_cases hsk : s = k
        · subst hsk
          rw [if_pos ⟨rfl, rfl⟩, hv]
        · rw [if_neg (by omega), (hU2 (o + 7) (by omega)).1]
          exact hg s (by omega)
    by_cases hq : nI (A.2.1 0 k) = light
    · rw [if_pos hq]
      exact go 1 (sv_B_t hq).symm
    · rw [if_neg hq]
      exact go 0 (sv_B_f hq).symm
  · rintro x T rec ⟨rfl, hag, hg⟩
    have hT : sv_nc T o A := sv_nc_ag h hag (fun q hq => by omega)
    rw [if_pos (show nI A.1 ≥ T.1 o 0 by rw [hT.1]; exact Int32.le_refl _)]
    refine sv_fr1 (Q := fun t => ∃ U, t = some ((), U) ∧ sv_nc U o (sv_hr L A light) ∧ sv_ag (fun q => q = o ∨ q = o + 4 ∨ q = o + 7 ∨ q = 14 ∨ q = 15) S U) (fun k x T2 => x = nI k ∧ sv_ag (fun q => q = o + 4) T T2 ∧ ∀ s, s < 10 → T2.1 (o + 4) s = if s < k then nI (sv_nm L A light s) else nI (A.2.1 3 s)) A.1 ?_ ?_ N _ T (by omega) ⟨rfl, sv_ag_rf, fun s hs => by rw [if_neg (Nat.not_lt_zero s)]; exact hT.2.1 3 s (by omega) hs⟩
    · rintro k x T2 rec2 hk ⟨rfl, hag2, hm⟩
      left
      have e0 : T2.1 o 0 = nI A.1 := by rw [(hag2 o (by omega)).1]; exact hT.1
      have e1 : T2.1 (o + 7) k = sv_g L A k (sv_B (nI (A.2.1 0 k) = light)) := by rw [(hag2 (o + 7) (by omega)).1]; exact hg k hk
      have e2 : T2.1 (o + 4) k = nI (A.2.1 3 k) := by rw [hm k (by omega), if_neg (Nat.lt_irrefl k)]
      have e3 : T2.1 (o + 5) k = nI (A.2.1 4 k) := by rw [(hag2 (o + 5) (by omega)).1]; exact hT.2.1 4 k (by omega) (by omega)
      rw [if_neg (show ¬ nI k ≥ T2.1 o 0 by rw [e0]; exact nI_ge hk (by omega)), sv_gi (by omega) (by decide), nI_clamp (by omega), e4_grow N T2 o (by omega), sv_bd, e1, e2, e3]
      refine ⟨_, _, ⟨nI_1 k, sv_ag_tr hag2 (sv_ag_si T2 (o + 4) k _ rfl), fun s hs => ?_⟩, rfl⟩
      rw [sv_si]
      by_cases hsk : s = k
      · subst hsk
        rw [if_pos ⟨rfl, rfl⟩, if_pos (Nat.lt_succ_self s)]
        rfl
      · rw [if_neg (by omega), hm s hs]
        simp only [show (s < k + 1) ↔ (s < k) by omega]
    · rintro x T2 rec2 ⟨rfl, hag2, hm⟩
      have e0 : T2.1 o = T.1 o := (hag2 o (by omega)).1
      have e1 : T2.1 o 1 = nI (A.2.2 0) := by rw [e0]; exact hT.2.2.1 0 (by omega)
      rw [if_pos (show nI A.1 ≥ T2.1 o 0 by rw [e0, hT.1]; exact Int32.le_refl _), sv_ls, e1, sv_h12 hA.2.2.2.1]
      refine ⟨_, rfl, ⟨?_, fun k s hk hs => ?_, fun j hj => ?_, fun c hc => ?_⟩, ?_⟩
      · rw [sv_si, if_neg (by omega), e0]; exact hT.1
      · rw [sv_si, if_neg (by omega)]
        by_cases hk3 : k = 3
        · subst hk3
          show T2.1 (o + 4) s = nI (if 3 = 3 ∧ s < A.1 then sv_nm L A light s else A.2.1 3 s)
          rw [hm s hs]
          by_cases hsn : s < A.1
          · rw [if_pos hsn, if_pos ⟨rfl, hsn⟩]
          · rw [if_neg hsn, if_neg (by omega)]
        · show T2.1 (o + (1 + k)) s = nI (if k = 3 ∧ s < A.1 then sv_nm L A light s else A.2.1 k s)
          rw [if_neg (by omega), (hag2 (o + (1 + k)) (by omega)).1]
          exact hT.2.1 k s hk hs
      · rw [sv_si]
        show _ = nI (if j = 0 then (A.2.2 0 + 1) % 12 else A.2.2 j)
        by_cases hj0 : j = 0
        · subst hj0
          rw [if_pos ⟨rfl, rfl⟩, if_pos rfl]
        · rw [if_neg (by omega), if_neg hj0, e0]
          exact hT.2.2.1 j hj
      · rw [sv_si, if_neg (by omega), (hag2 (o + 6) (by omega)).1]
        exact hT.2.2.2 c hc
      · exact sv_ag_tr (sv_ag_wk hag (fun a ha => by omega)) (sv_ag_tr (sv_ag_wk hag2 (fun a ha => by omega)) (sv_ag_si T2 o 1 _ (by omega)))
