/-! bestRound: foresee, passHourBehind; all rounds, in order -/
/-- a night that is A but for minds and the hour -/
def sv_ns (S : sw_St) (o : Nat) (A : sv_A) : Prop := S.1 o 0 = nI A.1 ∧ (∀ k s, k < 5 → k ≠ 3 → s < 10 → S.1 (o + (1 + k)) s = nI (A.2.1 k s)) ∧ (∀ j, j < 3 → j ≠ 0 → S.1 o (1 + j) = nI (A.2.2 j)) ∧ ∀ c, c < 12 → S.1 (o + 6) c = sv_lie A.1 (A.2.1 0) c
theorem sv_ns_nc {S : sw_St} {o : Nat} {A : sv_A} (h : sv_nc S o A) : sv_ns S o A := ⟨h.1, fun k s hk _ hs => h.2.1 k s hk hs, fun j hj _ => h.2.2.1 j hj, h.2.2.2⟩
theorem sv_ns_ag {P : Nat → Prop} {S T : sw_St} {o : Nat} {A : sv_A} (h : sv_ns S o A) (g : sv_ag P S T) (hP : ∀ k, k < 7 → ¬ P (o + k)) : sv_ns T o A := by
  obtain ⟨h1, h2, h3, h4⟩ := h
  have e : ∀ k, k < 7 → T.1 (o + k) = S.1 (o + k) := fun k hk => (g (o + k) (hP k hk)).1
  have e0 : T.1 o = S.1 o := e 0 (by decide)
  refine ⟨by rw [e0]; exact h1, fun k s hk hk3 hs => by rw [e (1 + k) (by omega)]; exact h2 k s hk hk3 hs, fun j hj hj0 => by rw [e0]; exact h3 j hj hj0, fun c hc => by rw [e 6 (by decide)]; exact h4 c hc⟩
theorem sv_ns_ch {S : sw_St} {o : Nat} {A B : sv_A} (h : sv_ns S o A) (h1 : B.1 = A.1) (h2 : ∀ k, k ≠ 3 → B.2.1 k = A.2.1 k) (h3 : ∀ j, j ≠ 0 → B.2.2 j = A.2.2 j) : sv_ns S o B := by
  refine ⟨by rw [h1]; exact h.1, fun k s hk hk3 hs => by rw [h2 k hk3]; exact h.2.1 k s hk hk3 hs, fun j hj hj0 => by rw [h3 j hj0]; exact h.2.2.1 j hj hj0, fun c hc => by rw [h1, h2 0 (by decide)]; exact h.2.2.2 c hc⟩
theorem sv_ns_hr {S : sw_St} {o : Nat} {A : sv_A} (L : sv_L) (c : Int32) (h : sv_ns S o A) : sv_ns S o (sv_hr L A c) := sv_ns_ch h rfl (fun k hk => funext (fun s => if_neg (fun z => hk z.1))) (fun j hj => if_neg hj)
theorem sv_hr_ns {S : sw_St} {o : Nat} {A : sv_A} (L : sv_L) (c : Int32) (h : sv_ns S o (sv_hr L A c)) : sv_ns S o A := sv_ns_ch h rfl (fun k hk => funext (fun s => (if_neg (fun z => hk z.1)).symm)) (fun j hj => (if_neg hj).symm)
theorem e4_inMind (N : Nat) {S : sw_St} {o o1 : Nat} {A : sv_A} (ho : o + 10 ≤ o1 ∨ o1 + 10 ≤ o) (h : sv_nc S o1 A) (hs : sv_ns S o A) : ∃ V, fX4_becomeInMind N o o1 S = some ((), V) ∧ sv_nc V o A ∧ sv_ag (fun a => a = o ∨ a = o + 4) S V := by
  obtain ⟨V, hV, v1, vk, v4, gV⟩ := e4_becomeInMind N (S := S) ho
  refine ⟨V, hV, ⟨by rw [vk 0 (by decide)]; exact hs.1, fun k s hk hs' => ?_, fun j hj => ?_, fun c hc => by rw [(gV _ (by omega)).1]; exact hs.2.2.2 c hc⟩, gV⟩
  · by_cases hk3 : k = 3
    · subst hk3
      rw [show o + (1 + 3) = o + 4 by omega, v4 s hs']
      exact h.2.1 3 s hk hs'
    · rw [(gV _ (by omega)).1]
      exact hs.2.1 k s hk hk3 hs'
  · by_cases hj0 : j = 0
    · subst hj0
      rw [show 1 + 0 = 1 from rfl, v1]
      exact h.2.2.1 0 hj
    · rw [vk _ (by omega)]
      exact hs.2.2.1 j hj hj0
theorem e4_foresee (N : Nat) (hN : 200 ≤ N) {S : sw_St} {o : Nat} (ho : sv_nights o) {A : sv_A} {L : sv_L} (h : sv_nc S o A) (hA : sv_wf A) (hL : sv_lc L S) : ∃ U, fX4_foresee N o 11 S = some ((), U) ∧ (∀ s, s < A.1 → U.1 (o + 7) s = sv_g L A s 0 ∧ U.1 (o + 8) s = sv_g L A s 1) ∧ sv_ag (fun q => q = o + 7 ∨ q = o + 8 ∨ q = 14 ∨ q = 15) S U := by
  have h10 := hA.1
  unfold sv_nights at ho
  unfold fX4_foresee
  rw [e4_awakeCots N (by omega) h hA, sv_bd]
  refine sv_fr1 (Q := fun t => ∃ U, t = some ((), U) ∧ (∀ s, s < A.1 → U.1 (o + 7) s = sv_g L A s 0 ∧ U.1 (o + 8) s = sv_g L A s 1) ∧ sv_ag (fun q => q = o + 7 ∨ q = o + 8 ∨ q = 14 ∨ q = 15) S U) (fun k x T => x = nI k ∧ (∀ s, s < k → T.1 (o + 7) s = sv_g L A s 0 ∧ T.1 (o + 8) s = sv_g L A s 1) ∧ sv_ag (fun q => q = o + 7 ∨ q = o + 8 ∨ q = 14 ∨ q = 15) S T) A.1 ?_ ?_ N _ S (by omega) ⟨rfl, fun s hs => absurd hs (Nat.not_lt_zero s), sv_ag_rf⟩
  · rintro k x T rec hk ⟨rfl, hg, hag⟩
    left
    have hT : sv_nc T o A := sv_nc_ag h hag (fun q hq => by omega)
    have hLT : sv_lc L T := sv_lc_ag hL hag (by omega) (by omega) (by omega)
    obtain ⟨U, hU, gU⟩ := e4_growth N hN hT hA hLT hk 0
    rw [if_neg (show ¬ nI k ≥ T.1 o 0 by rw [hT.1]; exact nI_ge hk (by omega)), hU, sv_bd, sv_gi (by omega) (by decide), nI_clamp (by omega), sv_ls]
    generalize hU1 : sw_si U (o + 7) k (sv_g L A k 0) = U1
    have gU1 : sv_ag (fun q => q = o + 7 ∨ q = o + 8 ∨ q = 14 ∨ q = 15) S U1 := by rw [← hU1]; exact sv_ag_tr hag (sv_ag_tr (sv_ag_wk gU (fun a ha => by omega)) (sv_ag_si U (o + 7) k _ (by omega)))
    obtain ⟨W, hW, gW⟩ := e4_growth N hN (sv_nc_ag h gU1 (fun q hq => by omega)) hA (sv_lc_ag hL gU1 (by omega) (by omega) (by omega)) hk 1
    rw [hW, sv_bd, sv_gi (by omega) (by decide), sv_ls]
    refine ⟨_, _, ⟨nI_1 k, fun s hs => ?_, sv_ag_tr gU1 (sv_ag_tr (sv_ag_wk gW (fun a ha => by omega)) (sv_ag_si W (o + 8) k _ (by omega)))⟩, rfl⟩
    rw [sv_si, if_neg (by omega), sv_si, (gW (o + 7) (by omega)).1, (gW (o + 8) (by omega)).1, ← hU1, sv_si, sv_si, if_neg (show ¬ (o + 8 = o + 7 ∧ s = k) by omega)]
    by_cases e : s = k
    · subst e
      rw [if_pos ⟨rfl, rfl⟩, if_pos ⟨rfl, rfl⟩]
      exact ⟨rfl, rfl⟩
    · rw [if_neg (fun z => e z.2), if_neg (fun z => e z.2), (gU (o + 7) (by omega)).1, (gU (o + 8) (by omega)).1]
      exact hg s (by omega)
  · rintro x T rec ⟨rfl, hg, hag⟩
    have hT : sv_nc T o A := sv_nc_ag h hag (fun q hq => by omega)
    rw [if_pos (show nI A.1 ≥ T.1 o 0 by rw [hT.1]; exact Int32.le_refl _)]
    exact ⟨T, rfl, hg, hag⟩
theorem e4_passHourBehind (N : Nat) (hN : 20 ≤ N) {S : sw_St} {o o1 : Nat} (ho : o + 10 ≤ o1 ∨ o1 + 10 ≤ o) {A : sv_A} {L : sv_L} (h : sv_nc S o1 A) (hA : sv_wf A) (hs : sv_ns S o A) (hg : ∀ s, s < A.1 → S.1 (o1 + 7) s = sv_g L A s 0 ∧ S.1 (o1 + 8) s = sv_g L A s 1) (c : Int32) : ∃ V, fX4_passHourBehind N o o1 c S = some ((), V) ∧ sv_nc V o (sv_hr L A c) ∧ sv_ag (fun a => a = o ∨ a = o + 4) S V := by
  have h10 := hA.1
  unfold fX4_passHourBehind
  obtain ⟨T, hT, t1, gT⟩ := e4_inMind N ho h hs
  rw [hT, sv_bd]
  refine sv_fr1 (Q := fun t => ∃ V, t = some ((), V) ∧ sv_nc V o (sv_hr L A c) ∧ sv_ag (fun a => a = o ∨ a = o + 4) S V) (fun k x T2 => x = nI k ∧ sv_ag (fun q => q = o + 4) T T2 ∧ ∀ s, s < 10 → T2.1 (o + 4) s = if s < k then nI (sv_nm L A c s) else nI (A.2.1 3 s)) A.1 ?_ ?_ N _ T (by omega) ⟨rfl, sv_ag_rf, fun s hs => by rw [if_neg (Nat.not_lt_zero s)]; exact t1.2.1 3 s (by omega) hs⟩
  · rintro k x T2 rec hk ⟨rfl, hag2, hm⟩
    left
    have e0 : T2.1 o 0 = nI A.1 := by rw [(hag2 o (by omega)).1]; exact t1.1
    have ec : T2.1 (o + 1) k = nI (A.2.1 0 k) := by rw [(hag2 (o + 1) (by omega)).1]; exact t1.2.1 0 k (by omega) (by omega)
    have e7 : T2.1 (o1 + 7) k = sv_g L A k 0 := by rw [(hag2 (o1 + 7) (by omega)).1, (gT (o1 + 7) (by omega)).1]; exact (hg k hk).1
    have e8 : T2.1 (o1 + 8) k = sv_g L A k 1 := by rw [(hag2 (o1 + 8) (by omega)).1, (gT (o1 + 8) (by omega)).1]; exact (hg k hk).2
    have e2 : T2.1 (o + 4) k = nI (A.2.1 3 k) := by rw [hm k (by omega), if_neg (Nat.lt_irrefl k)]
    have e3 : T2.1 (o + 5) k = nI (A.2.1 4 k) := by rw [(hag2 (o + 5) (by omega)).1]; exact t1.2.1 4 k (by omega) (by omega)
    have go : ∀ v : Int32, v = sv_g L A k (sv_B (nI (A.2.1 0 k) = c)) → ∃ b0 T1, (b0 = nI (k + 1) ∧ sv_ag (fun q => q = o + 4) T T1 ∧ ∀ s, s < 10 → T1.1 (o + 4) s = if s < k + 1 then nI (sv_nm L A c s) else nI (A.2.1 3 s)) ∧ (sw_bd (fX4_grow N o (nI k) v T2) (fun _ S5 => rec (nI k + 1) S5)) = rec b0 T1 := by
      intro v hv
      rw [e4_grow N T2 o (by omega), sv_bd, e2, e3, hv]
      refine ⟨_, _, ⟨nI_1 k, sv_ag_tr hag2 (sv_ag_si T2 (o + 4) k _ rfl), fun s hs => ?_⟩, rfl⟩
      rw [sv_si]
      by_cases hsk : s = k
      · subst hsk
        rw [if_pos ⟨rfl, rfl⟩, if_pos (Nat.lt_succ_self s)]
        rfl
      · rw [if_neg (by omega), hm s hs]
        simp only [show (s < k + 1) ↔ (s < k) by omega]
    rw [if_neg (show ¬ nI k ≥ T2.1 o 0 by rw [e0]; exact nI_ge hk (by omega)), sv_gi (by omega) (by decide), nI_clamp (by omega), ec, e7, e8, sv_gi (by omega) (by decide), sv_gi (by omega) (by decide)]
    by_cases hq : nI (A.2.1 0 k) = c
    · rw [if_pos hq]
      exact go _ (by rw [sv_B_t hq])
    · rw [if_neg hq]
      exact go _ (by rw [sv_B_f hq])
  · rintro x T2 rec ⟨rfl, hag2, hm⟩
    have e0 : T2.1 o = T.1 o := (hag2 o (by omega)).1
    have e1 : T2.1 o 1 = nI (A.2.2 0) := by rw [e0]; exact t1.2.2.1 0 (by omega)
    rw [if_pos (show nI A.1 ≥ T2.1 o 0 by rw [e0, t1.1]; exact Int32.le_refl _), sv_ls, e1, sv_h12 hA.2.2.2.1]
    refine ⟨_, rfl, ⟨?_, fun k s hk hs => ?_, fun j hj => ?_, fun c hc => ?_⟩, ?_⟩
    · rw [sv_si, if_neg (by omega), e0]; exact t1.1
    · rw [sv_si, if_neg (by omega)]
      by_cases hk3 : k = 3
      · subst hk3
        show T2.1 (o + 4) s = nI (if 3 = 3 ∧ s < A.1 then sv_nm L A c s else A.2.1 3 s)
        rw [hm s hs]
        by_cases hsn : s < A.1
        · rw [if_pos hsn, if_pos ⟨rfl, hsn⟩]
        · rw [if_neg hsn, if_neg (by omega)]
      · show T2.1 (o + (1 + k)) s = nI (if k = 3 ∧ s < A.1 then sv_nm L A c s else A.2.1 k s)
        rw [if_neg (by omega), (hag2 (o + (1 + k)) (by omega)).1]
        exact t1.2.1 k s hk hs
    · rw [sv_si]
      show _ = nI (if j = 0 then (A.2.2 0 + 1) % 12 else A.2.2 j)
      by_cases hj0 : j = 0
      · subst hj0
        rw [if_pos ⟨rfl, rfl⟩, if_pos rfl]
      · rw [if_neg (by omega), if_neg hj0, e0]
        exact t1.2.2.1 j hj
    · rw [sv_si, if_neg (by omega), (hag2 (o + 6) (by omega)).1]
      exact t1.2.2.2 c hc
    · exact sv_ag_tr gT (sv_ag_tr (sv_ag_wk hag2 (fun a ha => by omega)) (sv_ag_si T2 o 1 _ (by omega)))
/-! all rounds, in order: the best yet -/
abbrev sv_be : Type := Nat × Nat × (Nat → Nat)
abbrev sv_bt (A : sv_A) (B : sv_be) : Prop := sv_na A < B.1 ∨ (sv_na A = B.1 ∧ sv_sum (A.2.1 3) A.1 < B.2.1)
def sv_fo (g : Nat → sv_be → sv_be) : Nat → sv_be → sv_be
  | 0, B => B
  | k + 1, B => g k (sv_fo g k B)
def sv_tr (L : sv_L) : Nat → Nat → sv_A → (Nat → Nat) → sv_be → sv_be
  | 0, _, A, cs, B => if sv_bt A B then (sv_na A, sv_sum (A.2.1 3) A.1, cs) else B
  | j + 1, l, A, cs, B => sv_fo (fun c B => sv_tr L j (l + 1) (sv_hr L A (nI c)) (fun i => if i = l then c else cs i) B) 12 B
/-- no round from here is better -/
def sv_dm (L : sv_L) : Nat → sv_A → sv_be → Prop
  | 0, A, B => ¬ sv_bt A B
  | j + 1, A, B => ∀ c, c < 12 → sv_dm L j (sv_hr L A (nI c)) B
def sv_lq (B' B : sv_be) : Prop := B'.1 < B.1 ∨ (B'.1 = B.1 ∧ B'.2.1 ≤ B.2.1)
theorem sv_lq_rf (B : sv_be) : sv_lq B B := Or.inr ⟨rfl, Nat.le_refl _⟩
theorem sv_lq_tr {A B C : sv_be} (h : sv_lq A B) (g : sv_lq B C) : sv_lq A C := by
  unfold sv_lq at *
  omega
theorem sv_dm_lq {L : sv_L} : ∀ (j : Nat) {A : sv_A} {B C : sv_be}, sv_dm L j A B → sv_lq C B → sv_dm L j A C
  | 0, A, B, C, h, g => by
    have h : ¬ sv_bt A B := h
    show ¬ sv_bt A C
    unfold sv_bt at *
    unfold sv_lq at g
    omega
  | j + 1, A, B, C, h, g => fun c hc => sv_dm_lq j (h c hc) g
theorem sv_fo_lq {g : Nat → sv_be → sv_be} (hg : ∀ c B, sv_lq (g c B) B) (B : sv_be) : ∀ k m, k ≤ m → sv_lq (sv_fo g m B) (sv_fo g k B) := by
  intro k m h
  induction m with
  | zero => have : k = 0 := by omega
            subst this; exact sv_lq_rf _
  | succ m ih =>
    by_cases e : k = m + 1
    · subst e; exact sv_lq_rf _
    · exact sv_lq_tr (hg m _) (ih (by omega))
theorem sv_tr_lq {L : sv_L} : ∀ (j l : Nat) (A : sv_A) (cs : Nat → Nat) (B : sv_be), sv_lq (sv_tr L j l A cs B) B
  | 0, l, A, cs, B => by
    unfold sv_tr
    by_cases h : sv_bt A B
    · rw [if_pos h]
      unfold sv_bt at h
      unfold sv_lq
      dsimp only
      omega
    · rw [if_neg h]; exact sv_lq_rf _
  | j + 1, l, A, cs, B => sv_fo_lq (g := fun c B => sv_tr L j (l + 1) (sv_hr L A (nI c)) (fun i => if i = l then c else cs i) B) (fun c B => sv_tr_lq j _ _ _ B) B 0 12 (by decide)
theorem sv_fo_id {g : Nat → sv_be → sv_be} {B : sv_be} : ∀ m, (∀ c, c < m → g c B = B) → sv_fo g m B = B := by
  intro m
  induction m with
  | zero => intro _; rfl
  | succ m ih =>
    intro h
    show g m (sv_fo g m B) = B
    rw [ih (fun c hc => h c (by omega)), h m (by omega)]
theorem sv_tr_id {L : sv_L} : ∀ (j l : Nat) (A : sv_A) (cs : Nat → Nat) (B : sv_be), sv_dm L j A B → sv_tr L j l A cs B = B
  | 0, l, A, cs, B, h => if_neg h
  | j + 1, l, A, cs, B, h => sv_fo_id 12 (fun c hc => sv_tr_id j _ _ _ B (h c hc))
theorem sv_tr_dm {L : sv_L} : ∀ (j l : Nat) (A : sv_A) (cs : Nat → Nat) (B : sv_be), sv_dm L j A (sv_tr L j l A cs B)
  | 0, l, A, cs, B => by
    show ¬ sv_bt A _
    unfold sv_tr
    by_cases h : sv_bt A B
    · rw [if_pos h]
      unfold sv_bt
      dsimp only
      omega
    · rw [if_neg h]; exact h
  | j + 1, l, A, cs, B => fun c hc => by
    have h1 := sv_tr_dm (L := L) j (l + 1) (sv_hr L A (nI c)) (fun i => if i = l then c else cs i) (sv_fo (fun c B => sv_tr L j (l + 1) (sv_hr L A (nI c)) (fun i => if i = l then c else cs i) B) c B)
    exact sv_dm_lq j h1 (sv_fo_lq (g := fun c B => sv_tr L j (l + 1) (sv_hr L A (nI c)) (fun i => if i = l then c else cs i) B) (fun c B => sv_tr_lq j _ _ _ B) B (c + 1) 12 (by omega))
theorem sv_na_le (A : sv_A) : sv_na A ≤ 12 := sv_ct_le _ 12
theorem sv_tr_12 {L : sv_L} : ∀ (j l : Nat) (A : sv_A) (cs : Nat → Nat) (B : sv_be), (sv_tr L j l A cs B).1 ≤ 12
  | 0, l, A, cs, B => by
    have := sv_na_le A
    unfold sv_tr
    by_cases h : sv_bt A B
    · rw [if_pos h]; exact this
    · rw [if_neg h]
      unfold sv_bt at h
      omega
  | j + 1, l, A, cs, B => sv_tr_12 j (l + 1) (sv_hr L A (nI 11)) (fun i => if i = l then 11 else cs i) (sv_fo (fun c B => sv_tr L j (l + 1) (sv_hr L A (nI c)) (fun i => if i = l then c else cs i) B) 11 B)
/-- cots without a sword are alike -/
theorem sv_hr_no {L : sv_L} {A : sv_A} (hA : sv_wf A) {c d : Nat} (hc : c < 12) (hd : d < 12) (h1 : ∀ s, s < A.1 → A.2.1 0 s ≠ c) (h2 : ∀ s, s < A.1 → A.2.1 0 s ≠ d) : sv_hr L A (nI c) = sv_hr L A (nI d) := by
  unfold sv_hr
  congr 2
  funext k s
  by_cases h : k = 3 ∧ s < A.1
  · rw [if_pos h, if_pos h]
    have b := (hA.2.1 s h.2).1
    unfold sv_nm
    rw [sv_B_f (show ¬ nI (A.2.1 0 s) = nI c from fun z => h1 s h.2 ((nI_eq (by omega) (by omega)).mp z)), sv_B_f (show ¬ nI (A.2.1 0 s) = nI d from fun z => h2 s h.2 ((nI_eq (by omega) (by omega)).mp z))]
  · rw [if_neg h, if_neg h]
