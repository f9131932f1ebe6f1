/-! an hour of the class's night -/
def sv_bes : List Nat := [66, 133, 266, 532, 1064, 2064, 129, 322, 644, 1288, 2576, 1056]
theorem sv_bes_tb : ∀ c, c < 12 → (sw_tb 1).getD c 0 = nI (sv_bes.getD c 0) ∧ sv_bes.getD c 0 < 4096 := by decide +kernel
/-- how many are awake beside a cot -/
def sv_nb (A : sv_A) (c : Nat) : Nat := sv_ct (fun i => sv_ac A A.1 i && (sv_bes.getD c 0).testBit i) 12
abbrev sv_L : Type := Int32 → Int32 → Int32 → Int32 → Int32 → Int32 → Int32
/-- the growth of a sword with the candle there or not -/
def sv_g (L : sv_L) (A : sv_A) (s : Nat) (light : Int32) : Int32 := L (nI (A.2.1 1 s)) (nI (A.2.1 2 s)) (nI (A.2.1 3 s)) (nI (sv_nb A (A.2.1 0 s))) light (nI (A.2.2 0))
/-- the class's law, as its cells stand, works L out -/
def sv_lc (L : sv_L) (S : sw_St) : Prop := ∀ (T : sw_St), T.1 11 = S.1 11 → T.1 12 = S.1 12 → T.1 13 = S.1 13 → ∀ (N : Nat), 200 ≤ N → ∀ a b c d e f : Int32, ∃ U, fX3_growth N 11 a b c d e f T = some (L a b c d e f, U) ∧ sv_ag (fun q => q = 14 ∨ q = 15) T U
theorem sv_lc_of {L : sv_L} {S T : sw_St} (h : sv_lc L S) (h1 : T.1 11 = S.1 11) (h2 : T.1 12 = S.1 12) (h3 : T.1 13 = S.1 13) : sv_lc L T := fun U g1 g2 g3 => h U (g1.trans h1) (g2.trans h2) (g3.trans h3)
theorem sv_lc_ag {L : sv_L} {P : Nat → Prop} {S T : sw_St} (h : sv_lc L S) (g : sv_ag P S T) (h1 : ¬ P 11) (h2 : ¬ P 12) (h3 : ¬ P 13) : sv_lc L T := sv_lc_of h (g 11 h1).1 (g 12 h2).1 (g 13 h3).1
/-- a night's cells are unchanged -/
theorem sv_nc_ag {P : Nat → Prop} {S T : sw_St} {o : Nat} {A : sv_A} (h : sv_nc S o A) (g : sv_ag P S T) (hP : ∀ k, k < 7 → ¬ P (o + k)) : sv_nc T o A := by
  refine ⟨?_, fun k s hk hs => ?_, fun j hj => ?_, fun c hc => ?_⟩
  · rw [(g o (hP 0 (by omega))).1]; exact h.1
  · rw [(g (o + (1 + k)) (hP (1 + k) (by omega))).1]; exact h.2.1 k s hk hs
  · rw [(g o (hP 0 (by omega))).1]; exact h.2.2.1 j hj
  · rw [(g (o + 6) (hP 6 (by omega))).1]; exact h.2.2.2 c hc
def sv_nights (o : Nat) : Prop := o = 1 ∨ o = 29 ∨ o = 39 ∨ o = 49 ∨ o = 59 ∨ o = 69
theorem e4_growth (N : Nat) (hN : 200 ≤ N) {S : sw_St} {o : Nat} {A : sv_A} {L : sv_L} (h : sv_nc S o A) (hA : sv_wf A) (hL : sv_lc L S) {s : Nat} (hs : s < A.1) (light : Int32) : ∃ U, fX4_growth N o 11 (nI s) (nI (sv_acb A)) light S = some (sv_g L A s light, U) ∧ sv_ag (fun q => q = 14 ∨ q = 15) S U := by
  have h10 := hA.1
  have hc := (hA.2.1 s hs).1
  have e0 : S.1 (o + 1) s = nI (A.2.1 0 s) := h.2.1 0 s (by omega) (by omega)
  have e1 : S.1 (o + 2) s = nI (A.2.1 1 s) := h.2.1 1 s (by omega) (by omega)
  have e2 : S.1 (o + 3) s = nI (A.2.1 2 s) := h.2.1 2 s (by omega) (by omega)
  have e3 : S.1 (o + 4) s = nI (A.2.1 3 s) := h.2.1 3 s (by omega) (by omega)
  have e4 : S.1 o 1 = nI (A.2.2 0) := h.2.2.1 0 (by omega)
  have hlt : sv_acb A &&& sv_bes.getD (A.2.1 0 s) 0 < 4096 := Nat.lt_of_le_of_lt Nat.and_le_left (sv_wb_lt _ 12)
  obtain ⟨U, hU, hag⟩ := hL S rfl rfl rfl N hN (nI (A.2.1 1 s)) (nI (A.2.1 2 s)) (nI (A.2.1 3 s)) (nI (sv_nb A (A.2.1 0 s))) light (nI (A.2.2 0))
  refine ⟨U, ?_, hag⟩
  unfold fX4_growth
  rw [sv_gi (by omega) (by decide), nI_clamp (by omega), e0, sv_gi hc (by decide), nI_clamp (by omega), (sv_bes_tb _ hc).1, sv_and, e6_bc N hlt, sv_bd, sv_gi (by omega) (by decide), sv_gi (by omega) (by decide), sv_gi (by omega) (by decide), e1, e2, e3, e4]
  have hnb : sv_ct (fun i => (sv_acb A &&& sv_bes.getD (A.2.1 0 s) 0).testBit i) 12 = sv_nb A (A.2.1 0 s) := by
    unfold sv_nb
    refine sv_ct_congr 12 (fun i hi => ?_)
    rw [Nat.testBit_and, sv_wb_bit]
    simp [hi]
  rw [hnb, hU, sv_bd]
  rfl
/-- held between 0 and 99 -/
def sv_cl (v : Int32) : Nat := (sw_mx 0 (sw_mn 99 v)).toNatClampNeg
theorem sv_cl_eq (v : Int32) : sw_mx 0 (sw_mn 99 v) = nI (sv_cl v) ∧ sv_cl v ≤ 99 := by
  have h1 : 0 ≤ sw_mx 0 (sw_mn 99 v) := by
    unfold sw_mx
    split
    · rename_i h; exact Int32.le_of_lt h
    · exact Int32.le_refl _
  have h2 : sw_mx 0 (sw_mn 99 v) ≤ nI 99 := by
    unfold sw_mx
    split
    · unfold sw_mn
      split
      · rename_i h; exact Int32.le_of_lt h
      · exact Int32.le_refl _
    · decide
  obtain ⟨j, hj, e⟩ := sv_rg 99 (by decide) h1 h2
  unfold sv_cl
  rw [e, nI_clamp (by omega)]
  exact ⟨rfl, hj⟩
/-- the mind behind an hour -/
def sv_nm (L : sv_L) (A : sv_A) (light : Int32) (s : Nat) : Nat := sv_cl ((nI (A.2.1 3 s) + sv_g L A s (sv_B (nI (A.2.1 0 s) = light))) - (3 : Int32) * nI (A.2.1 4 s))
/-- the attic behind an hour -/
def sv_hr (L : sv_L) (A : sv_A) (light : Int32) : sv_A := (A.1, fun k s => if k = 3 ∧ s < A.1 then sv_nm L A light s else A.2.1 k s, fun j => if j = 0 then (A.2.2 0 + 1) % 12 else A.2.2 j)
theorem sv_hr_wf {L : sv_L} {A : sv_A} {light : Int32} (h : sv_wf A) : sv_wf (sv_hr L A light) := by
  obtain ⟨h1, h2, h3, h4, h5, h6, h7, h8⟩ := h
  have hb : ∀ s, sv_nm L A light s ≤ 99 := fun s => (sv_cl_eq _).2
  refine ⟨h1, fun s hs => ?_, fun s t hs ht => ?_, ?_, ?_, ?_, fun k s => ?_, fun k s hs hk => ?_⟩
  · obtain ⟨a, b, c, d, e⟩ := h2 s hs
    exact ⟨a, b, c, by have := hb s; show (if 3 = 3 ∧ s < A.1 then _ else _) ≤ 99; split <;> omega, e⟩
  · exact h3 s t hs ht
  · exact Nat.mod_lt _ (by decide)
  · exact h5
  · exact h6
  · show (if k = 3 ∧ s < A.1 then _ else _) ≤ 99
    split
    · exact hb s
    · exact h7 k s
  · show (if k = 3 ∧ s < A.1 then _ else _) = 0
    have hs : A.1 ≤ s := hs
    rw [if_neg (by omega)]
    exact h8 k s hs hk
theorem sv_h12 {h : Nat} (hh : h < 12) : (nI h + 1) - (nI h + 1) / 12 * 12 = nI ((h + 1) % 12) := by
  rw [nI_1]
  exact pk_rem (by omega) (by decide) (by decide)
