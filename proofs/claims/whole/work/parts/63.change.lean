/-! the changes kept -/
def sv_dd (d : Nat) : Nat := if d = 40 then 39 else d
def sv_sh (d k : Nat) : Nat := if d = 40 then k + 1 else k
theorem e1_add (N : Nat) {S : sw_St} {d : Nat} (h1 : S.1 79 1 = nI d) (hd : d ≤ 40) (p : Nat → Int32) : ∃ V, fX1_add N (p 0) (p 1) (p 2) (p 3) S = some ((), V) ∧ V.1 79 1 = nI (sv_dd d + 1) ∧ V.1 79 0 = nI (sv_dd d + 1) ∧ (∀ q k, q < 4 → k ≤ sv_dd d → V.1 (80 + q) k = if k = sv_dd d then p q else S.1 (80 + q) (sv_sh d k)) ∧ sv_ag (fun a => 79 ≤ a ∧ a ≤ 83) S V := by
  have key : ∀ (T : sw_St) (e : Nat), e < 40 → T.1 79 1 = nI e → ∃ V, (sw_gd (sw_in (T.1 79 1) 40) (sw_ls (sw_si T 80 (T.1 79 1).toNatClampNeg (p 0)) (fun S2 => (sw_gd (sw_in (S2.1 79 1) 40) (sw_ls (sw_si S2 81 (S2.1 79 1).toNatClampNeg (p 1)) (fun S3 => (sw_gd (sw_in (S3.1 79 1) 40) (sw_ls (sw_si S3 82 (S3.1 79 1).toNatClampNeg (p 2)) (fun S4 => (sw_gd (sw_in (S4.1 79 1) 40) (sw_ls (sw_si S4 83 (S4.1 79 1).toNatClampNeg (p 3)) (fun S5 => (sw_ls (sw_si S5 79 1 ((S5.1 79 1) + (1 : Int32))) (fun S6 => (sw_ls (sw_si S6 79 0 (S6.1 79 1)) (fun S7 => (some ((), S7)))))))))))))))))) = some ((), V) ∧ V.1 79 1 = nI (e + 1) ∧ V.1 79 0 = nI (e + 1) ∧ (∀ q k, q < 4 → V.1 (80 + q) k = if k = e then p q else T.1 (80 + q) k) ∧ sv_ag (fun a => 79 ≤ a ∧ a ≤ 83) T V := by
    intro T e he hT
    have f : ∀ (W : sw_St) (a k : Nat) (v : Int32), a ≠ 79 → W.1 79 1 = nI e → (sw_si W a k v).1 79 1 = nI e := fun W a k v ha hW => by rw [sv_si, if_neg (by omega)]; exact hW
    have t1 := f T 80 e (p 0) (by decide) hT
    have t2 := f _ 81 e (p 1) (by decide) t1
    have t3 := f _ 82 e (p 2) (by decide) t2
    have t4 := f _ 83 e (p 3) (by decide) t3
    rw [hT, sv_gi he (by decide), nI_clamp (by omega), sv_ls, t1, sv_gi he (by decide), nI_clamp (by omega), sv_ls, t2, sv_gi he (by decide), nI_clamp (by omega), sv_ls, t3, sv_gi he (by decide), nI_clamp (by omega), sv_ls, t4, nI_1, sv_ls, sv_ls]
    refine ⟨_, rfl, rfl, rfl, fun q k hq => ?_, sv_ag_tr (sv_ag_si T 80 _ _ (by omega)) (sv_ag_tr (sv_ag_si _ 81 _ _ (by omega)) (sv_ag_tr (sv_ag_si _ 82 _ _ (by omega)) (sv_ag_tr (sv_ag_si _ 83 _ _ (by omega)) (sv_ag_tr (sv_ag_si _ 79 _ _ (by omega)) (sv_ag_si _ 79 _ _ (by omega))))))⟩
    rw [sv_si, if_neg (by omega), sv_si, if_neg (by omega)]
    rcases sv_lt4 hq with rfl | rfl | rfl | rfl
    · rw [sv_si, if_neg (by omega), sv_si, if_neg (by omega), sv_si, if_neg (by omega), sv_si]
      simp
    · rw [sv_si, if_neg (by omega), sv_si, if_neg (by omega), sv_si]
      by_cases hk : k = e
      · rw [if_pos ⟨rfl, hk⟩, if_pos hk]
      · rw [if_neg (fun z => hk z.2), if_neg hk, sv_si, if_neg (by omega)]
    · rw [sv_si, if_neg (by omega), sv_si]
      by_cases hk : k = e
      · rw [if_pos ⟨rfl, hk⟩, if_pos hk]
      · rw [if_neg (fun z => hk z.2), if_neg hk, sv_si, if_neg (by omega), sv_si, if_neg (by omega)]
    · rw [sv_si]
      by_cases hk : k = e
      · rw [if_pos ⟨rfl, hk⟩, if_pos hk]
      · rw [if_neg (fun z => hk z.2), if_neg hk, sv_si, if_neg (by omega), sv_si, if_neg (by omega), sv_si, if_neg (by omega)]
  unfold fX1_add
  rw [sv_jn0, h1]
  by_cases h40 : d = 40
  · subst h40
    rw [if_neg (by decide)]
    unfold fX1_dropFirst
    have c39 : sw_cg (1 : Int32) (0 : Int32) (39 : Int32) 40 40 = true := sv_cg (sp := 1) (dp := 0) (n := 39) (by decide) (by decide) (by decide) (by decide)
    rw [c39]
    simp only [sv_gt, sv_ls, sv_bd]
    generalize hT : sw_si _ 79 1 (39 : Int32) = T
    have t1 : T.1 79 1 = nI 39 := by rw [← hT]; rfl
    have tk : ∀ q k, q < 4 → k < 39 → T.1 (80 + q) k = S.1 (80 + q) (k + 1) := by
      intro q k hq hk
      rw [← hT, sv_si, if_neg (by omega)]
      have n0 : (0 : Int32).toNatClampNeg = 0 := rfl
      have n1 : (1 : Int32).toNatClampNeg = 1 := rfl
      have n39 : (39 : Int32).toNatClampNeg = 39 := rfl
      rw [n0, n1, n39]
      rcases sv_lt4 hq with rfl | rfl | rfl | rfl
      · rw [sv_ci, if_neg (by omega), sv_ci, if_neg (by omega), sv_ci, if_neg (by omega), sv_ci, if_pos (by omega), show 1 + (k - 0) = k + 1 by omega]
      · rw [sv_ci, if_neg (by omega), sv_ci, if_neg (by omega), sv_ci, if_pos (by omega), sv_ci, if_neg (by omega), show 1 + (k - 0) = k + 1 by omega]
      · rw [sv_ci, if_neg (by omega), sv_ci, if_pos (by omega), sv_ci, if_neg (by omega), sv_ci, if_neg (by omega), show 1 + (k - 0) = k + 1 by omega]
      · rw [sv_ci, if_pos (by omega), sv_ci, if_neg (by omega), sv_ci, if_neg (by omega), sv_ci, if_neg (by omega), show 1 + (k - 0) = k + 1 by omega]
    have gT : sv_ag (fun a => 79 ≤ a ∧ a ≤ 83) S T := by
      rw [← hT]
      exact sv_ag_tr (sv_ag_ci S 80 80 _ _ _ (by omega)) (sv_ag_tr (sv_ag_ci _ 81 81 _ _ _ (by omega)) (sv_ag_tr (sv_ag_ci _ 82 82 _ _ _ (by omega)) (sv_ag_tr (sv_ag_ci _ 83 83 _ _ _ (by omega)) (sv_ag_si _ 79 _ _ (by omega)))))
    obtain ⟨V, hV, v1, v2, v3, v4⟩ := key T 39 (by decide) t1
    refine ⟨V, hV, v1, v2, fun q k hq hk => ?_, sv_ag_tr gT v4⟩
    have hk : k ≤ 39 := hk
    rw [v3 q k hq, show sv_dd 40 = 39 from rfl, show sv_sh 40 k = k + 1 from rfl]
    by_cases hq2 : k = 39
    · rw [if_pos hq2, if_pos hq2]
    · rw [if_neg hq2, if_neg hq2, tk q k hq (by omega)]
  · rw [if_pos (show nI d < (40 : Int32) from nI_lt (b := 40) (by omega) (by decide))]
    obtain ⟨V, hV, v1, v2, v3, v4⟩ := key S d (by omega) h1
    have e1 : sv_dd d = d := if_neg h40
    refine ⟨V, hV, by rw [e1]; exact v1, by rw [e1]; exact v2, fun q k hq hk => ?_, v4⟩
    rw [v3 q k hq, e1, show sv_sh d k = k from if_neg h40]
theorem e9_becomes (N : Nat) (hN : 100 ≤ N) {S : sw_St} {d pl : Nat} {old v : Int32} (h1 : S.1 105 5 = nI d) (hd : d ≤ 40) (hp : pl < 53) (ho : S.1 106 pl = old) (hv : ¬ old = v) : ∃ V, fX9_becomes N (nI pl) v S = some (old, V) ∧ V.1 105 5 = nI (sv_dd d + 1) ∧ V.1 105 4 = nI (sv_dd d + 1) ∧ (∀ q k, q < 3 → k ≤ sv_dd d → V.1 (107 + q) k = if k = sv_dd d then (if q = 0 then nI pl else if q = 1 then old else v) else S.1 (107 + q) (sv_sh d k)) ∧ V.1 106 = (sw_si S 106 pl v).1 106 ∧ sv_rr (fun a => 106 ≤ a ∧ a ≤ 109) (fun k => k = 4 ∨ k = 5) S V := by
  have key : ∀ (T : sw_St) (e : Nat), e < 40 → T.1 105 5 = nI e → T.1 106 = S.1 106 → ∃ V, (sw_gd (sw_in (T.1 105 5) 40) (sw_ls (sw_si T 107 (T.1 105 5).toNatClampNeg (nI pl)) (fun S2 => (sw_gd (sw_in (S2.1 105 5) 40) (sw_ls (sw_si S2 108 (S2.1 105 5).toNatClampNeg old) (fun S3 => (sw_gd (sw_in (S3.1 105 5) 40) (sw_ls (sw_si S3 109 (S3.1 105 5).toNatClampNeg v) (fun S4 => (sw_ls (sw_si S4 105 5 ((S4.1 105 5) + (1 : Int32))) (fun S5 => (sw_ls (sw_si S5 105 4 (S5.1 105 5)) (fun S6 => (sw_gd (sw_in (nI pl) 53) (sw_ls (sw_si S6 106 pl v) (fun S7 => (some (old, S7)))))))))))))))))) = some (old, V) ∧ V.1 105 5 = nI (e + 1) ∧ V.1 105 4 = nI (e + 1) ∧ (∀ q k, q < 3 → V.1 (107 + q) k = if k = e then (if q = 0 then nI pl else if q = 1 then old else v) else T.1 (107 + q) k) ∧ V.1 106 = (sw_si S 106 pl v).1 106 ∧ sv_rr (fun a => 106 ≤ a ∧ a ≤ 109) (fun k => k = 4 ∨ k = 5) T V := by
    intro T e he hT hS
    have f : ∀ (W : sw_St) (a k : Nat) (v : Int32), a ≠ 105 → W.1 105 5 = nI e → (sw_si W a k v).1 105 5 = nI e := fun W a k v ha hW => by rw [sv_si, if_neg (by omega)]; exact hW
    have t1 := f T 107 e (nI pl) (by decide) hT
    have t2 := f _ 108 e old (by decide) t1
    have t3 := f _ 109 e v (by decide) t2
    rw [hT, sv_gi he (by decide), nI_clamp (show e < 2 ^ 31 by omega), sv_ls, t1, sv_gi he (by decide), nI_clamp (show e < 2 ^ 31 by omega), sv_ls, t2, sv_gi he (by decide), nI_clamp (show e < 2 ^ 31 by omega), sv_ls, t3, nI_1, sv_ls, sv_ls, sv_gi hp (by decide), sv_ls]
    refine ⟨_, rfl, rfl, rfl, fun q k hq => ?_, ?_, sv_rr_tr (sv_rr_si T 107 _ _ (by omega) (by omega)) (sv_rr_tr (sv_rr_si _ 108 _ _ (by omega) (by omega)) (sv_rr_tr (sv_rr_si _ 109 _ _ (by omega) (by omega)) (sv_rr_tr (sv_rr_sf _ 5 _ (by omega)) (sv_rr_tr (sv_rr_sf _ 4 _ (by omega)) (sv_rr_si _ 106 _ _ (by omega) (by omega))))))⟩
    · rw [sv_si, if_neg (by omega), sv_si, if_neg (by omega), sv_si, if_neg (by omega)]
      have : q = 0 ∨ q = 1 ∨ q = 2 := by omega
      rcases this with rfl | rfl | rfl
      · rw [sv_si, if_neg (by omega), sv_si, if_neg (by omega), sv_si]
        simp
      · rw [sv_si, if_neg (by omega), sv_si]
        by_cases hk : k = e
        · rw [if_pos ⟨rfl, hk⟩, if_pos hk]; rfl
        · rw [if_neg (fun z => hk z.2), if_neg hk, sv_si, if_neg (by omega)]
      · rw [sv_si]
        by_cases hk : k = e
        · rw [if_pos ⟨rfl, hk⟩, if_pos hk]; rfl
        · rw [if_neg (fun z => hk z.2), if_neg hk, sv_si, if_neg (by omega), sv_si, if_neg (by omega)]
    · funext k
      rw [sv_si S, sv_si, sv_si, if_neg (show ¬ (106 = 105 ∧ k = 4) by omega), sv_si, if_neg (show ¬ (106 = 105 ∧ k = 5) by omega), sv_si, if_neg (show ¬ (106 = 109 ∧ k = e) by omega), sv_si, if_neg (show ¬ (106 = 108 ∧ k = e) by omega), sv_si, if_neg (show ¬ (106 = 107 ∧ k = e) by omega), hS]
  unfold fX9_becomes
  rw [sv_gi hp (by decide), nI_clamp (by omega), ho, sv_li, if_neg hv, sv_jn0, h1]
  by_cases h40 : d = 40
  · subst h40
    rw [if_pos (show nI 40 = (40 : Int32) from rfl)]
    refine sv_fr1 (Q := fun t => ∃ V, t = some (old, V) ∧ V.1 105 5 = nI (sv_dd 40 + 1) ∧ V.1 105 4 = nI (sv_dd 40 + 1) ∧ (∀ q k, q < 3 → k ≤ sv_dd 40 → V.1 (107 + q) k = if k = sv_dd 40 then (if q = 0 then nI pl else if q = 1 then old else v) else S.1 (107 + q) (sv_sh 40 k)) ∧ V.1 106 = (sw_si S 106 pl v).1 106 ∧ sv_rr (fun a => 106 ≤ a ∧ a ≤ 109) (fun k => k = 4 ∨ k = 5) S V) (fun j x W => x = nI (j + 1) ∧ (∀ q k, q < 3 → W.1 (107 + q) k = if k < j then S.1 (107 + q) (k + 1) else S.1 (107 + q) k) ∧ sv_rr (fun a => 107 ≤ a ∧ a ≤ 109) (fun _ => False) S W) 39 ?_ ?_ N _ S (by omega) ⟨rfl, fun q k hq => by rw [if_neg (Nat.not_lt_zero k)], sv_rr_rf⟩
    · rintro j x W rec hj ⟨rfl, w1, gW⟩
      left
      have c1 : nI (j + 1) - (1 : Int32) = nI j := nI_pred j
      rw [if_neg (show ¬ nI (j + 1) ≥ (40 : Int32) from nI_ge (b := 40) (by omega) (by decide)), c1, nI_1, nI_clamp (show j + 1 < 2 ^ 31 by omega), nI_clamp (show j < 2 ^ 31 by omega)]
      simp only [sv_gi (show j + 1 < 40 by omega) (show 40 < 2 ^ 31 by decide), sv_gi (show j < 40 by omega) (show 40 < 2 ^ 31 by decide), sv_ls]
      refine ⟨_, _, ⟨rfl, fun q k hq => ?_, ?_⟩, rfl⟩
      · have : q = 0 ∨ q = 1 ∨ q = 2 := by omega
        rcases this with rfl | rfl | rfl
        · have a0 := w1 0 k (by decide)
          have a1 := w1 0 (j + 1) (by decide)
          rw [if_neg (by omega)] at a1
          rw [sv_si, if_neg (by omega), sv_si, if_neg (by omega), sv_si]
          by_cases hk : k = j
          · rw [if_pos ⟨rfl, hk⟩, if_pos (by omega), hk]; exact a1
          · rw [if_neg (by omega)]; refine a0.trans ?_; simp only [show (k < j + 1) ↔ (k < j) by omega]
        · have a0 := w1 1 k (by decide)
          have a1 := w1 1 (j + 1) (by decide)
          rw [if_neg (by omega)] at a1
          rw [sv_si, if_neg (by omega), sv_si]
          by_cases hk : k = j
          · rw [if_pos ⟨rfl, hk⟩, if_pos (by omega), hk, sv_si, if_neg (by omega)]; exact a1
          · rw [if_neg (by omega), sv_si, if_neg (by omega)]; refine a0.trans ?_; simp only [show (k < j + 1) ↔ (k < j) by omega]
        · have a0 := w1 2 k (by decide)
          have a1 := w1 2 (j + 1) (by decide)
          rw [if_neg (by omega)] at a1
          rw [sv_si]
          by_cases hk : k = j
          · rw [if_pos ⟨rfl, hk⟩, if_pos (by omega), hk, sv_si, if_neg (by omega), sv_si, if_neg (by omega)]; exact a1
          · rw [if_neg (by omega), sv_si, if_neg (by omega), sv_si, if_neg (by omega)]; refine a0.trans ?_; simp only [show (k < j + 1) ↔ (k < j) by omega]
      · exact sv_rr_tr gW (sv_rr_tr (sv_rr_si W 107 _ _ (by decide) (by omega)) (sv_rr_tr (sv_rr_si _ 108 _ _ (by decide) (by omega)) (sv_rr_si _ 109 _ _ (by decide) (by omega))))
    · rintro x W rec ⟨rfl, w1, gW⟩
      rw [if_pos (show nI (39 + 1) ≥ (40 : Int32) from Int32.le_refl _), sv_ls, gW.2.1 5 (fun z => z), h1, show nI 40 - (1 : Int32) = nI 39 from rfl]
      obtain ⟨V, hV, v1, v2, v3, v4, v5⟩ := key (sw_si W 105 5 (nI 39)) 39 (by decide) rfl (by funext k; rw [sv_si, if_neg (by omega), (gW.1 106 (by decide) (by omega)).1])
      refine ⟨V, hV, v1, v2, fun q k hq hk => ?_, v4, sv_rr_tr (sv_rr_wk gW (fun a ha => by omega) (fun _ h => h.elim)) (sv_rr_tr (sv_rr_sf W 5 _ (by omega)) v5)⟩
      have hk : k ≤ 39 := hk
      rw [v3 q k hq, show sv_dd 40 = 39 from rfl, show sv_sh 40 k = k + 1 from rfl]
      by_cases hq2 : k = 39
      · rw [if_pos hq2, if_pos hq2]
      · rw [if_neg hq2, if_neg hq2, sv_si, if_neg (by omega), w1 q k hq, if_pos (by omega)]
  · rw [if_neg (show ¬ nI d = (40 : Int32) by rw [show (40 : Int32) = nI 40 from rfl, nI_eq (by omega) (by decide)]; exact h40)]
    obtain ⟨V, hV, v1, v2, v3, v4, v5⟩ := key S d (by omega) h1 rfl
    have e1 : sv_dd d = d := if_neg h40
    refine ⟨V, hV, by rw [e1]; exact v1, by rw [e1]; exact v2, fun q k hq hk => ?_, v4, v5⟩
    rw [v3 q k hq, e1, show sv_sh d k = k from if_neg h40]
