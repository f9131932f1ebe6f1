/-! fits -/
/-- of 0 .. v - 1 those that are ok: how many, the least -/
def sv_fR (ok : Nat → Prop) : Nat → Nat → Int32 → Prop
  | 0, c, l => c = 0 ∧ l = -2
  | v + 1, c, l => (ok v ∧ ∃ c' l', sv_fR ok v c' l' ∧ c = c' + 1 ∧ l = (if c' = 0 then nI v else l')) ∨ (¬ ok v ∧ sv_fR ok v c l)
theorem sv_fR_u {ok : Nat → Prop} : ∀ (v : Nat) {c c' : Nat} {l l' : Int32}, sv_fR ok v c l → sv_fR ok v c' l' → c = c' ∧ l = l'
  | 0, _, _, _, _, ⟨h1, h2⟩, ⟨g1, g2⟩ => ⟨h1.trans g1.symm, h2.trans g2.symm⟩
  | v + 1, _, _, _, _, h, g => by
    rcases h with ⟨h0, c1, l1, h1, rfl, rfl⟩ | ⟨h0, h1⟩
    · rcases g with ⟨g0, c2, l2, g1, rfl, rfl⟩ | ⟨g0, g1⟩
      · obtain ⟨e1, e2⟩ := sv_fR_u v h1 g1
        rw [e1, e2]
        exact ⟨rfl, rfl⟩
      · exact absurd h0 g0
    · rcases g with ⟨g0, c2, l2, g1, rfl, rfl⟩ | ⟨g0, g1⟩
      · exact absurd g0 h0
      · exact sv_fR_u v h1 g1
theorem sv_fR_le {ok : Nat → Prop} : ∀ (v : Nat) {c : Nat} {l : Int32}, sv_fR ok v c l → c ≤ v
  | 0, _, _, ⟨h1, _⟩ => by omega
  | v + 1, _, _, h => by
    rcases h with ⟨h0, c1, l1, h1, rfl, rfl⟩ | ⟨h0, h1⟩
    · have := sv_fR_le v h1; omega
    · have := sv_fR_le v h1; omega
theorem sv_f2_m2 {p : Nat → Prop} {n : Nat} (hn : n ≤ 60) {r : Int32} (h : sv_f2 p n r) : r = -2 ↔ ∀ j, j < n → ¬ p j := by
  rcases h with ⟨k, k1, k2, k3, rfl⟩ | ⟨k1, rfl⟩
  · constructor
    · intro e
      have := congrArg Int32.toInt e
      rw [nI_toInt (by omega), show (-2 : Int32).toInt = -2 from rfl] at this
      omega
    · intro z; exact absurd k2 (z k k1)
  · exact ⟨fun _ => k1, fun _ => rfl⟩
def sv_okv (L : sv_L) (A : sv_A) (E E3 : Nat → Int32) (s t w sz3 i v : Nat) : Prop := ∀ j, j < sz3 → ¬ (i < j ∨ ¬ E3 j = nI ((sv_rd L (sv_sv A t w v) E j).2.1 3 s))
theorem sv_rb_tw {S T : sw_St} {d sz : Nat} {E : Nat → Int32} (h : sv_rb S d sz E) (g : sv_ag sv_tw S T) : sv_rb T d sz E := by
  obtain ⟨a, b, c, e⟩ := h
  refine ⟨a, b, ?_, ?_⟩
  · rw [(g 125 (by unfold sv_tw; omega)).1]; exact c
  · rw [(g 126 (by unfold sv_tw; omega)).2]; exact e
theorem sv_mr_tw {S T : sw_St} {A : sv_A} (h : sv_mr S A) (g : sv_ag sv_tw S T) : sv_mr T A := sv_mr_eq h (g 106 (by unfold sv_tw; omega)).1 (by rw [(g 105 (by unfold sv_tw; omega)).1])
theorem sv_lr_tw {S T : sw_St} {L : sv_L} (h : sv_lr L S) (g : sv_ag sv_tw S T) : sv_lr L T := sv_lr_of h (by rw [(g 105 (by unfold sv_tw; omega)).1]) (g 111 (by unfold sv_tw; omega)).1
theorem sv_lc_tw {S T : sw_St} {L : sv_L} (h : sv_lc L S) (g : sv_ag sv_tw S T) : sv_lc L T := sv_lc_of h (g 11 (by unfold sv_tw; omega)).1 (g 12 (by unfold sv_tw; omega)).1 (g 13 (by unfold sv_tw; omega)).1
theorem sv_nc_tw {S T : sw_St} {A : sv_A} (h : sv_nc S 1 A) (g : sv_ag sv_tw S T) : sv_nc T 1 A := sv_nc_eq h (fun q hq => (g _ (by unfold sv_tw; omega)).1)
theorem sv_rel_tw {S T U : sw_St} {A : sv_A} {L : sv_L} {b : Nat} (h : sv_rl S A L b) (g : sv_ag sv_tw S T) (g2 : sv_rr sv_rq sv_F T U) : sv_rel U := ⟨A, L, b, sv_rl_same h (sv_same_tr (sv_tw_same g) (sv_rq_same g2))⟩
theorem e7_fit (N : Nat) (hN : 5000 ≤ N) {S : sw_St} {A : sv_A} {L : sv_L} (h : sv_nc S 1 A) (hA : sv_wf A) (hL : sv_lc L S) {o2 o3 s t w sz sz3 i : Nat} {y : Int32} (ho2 : 93 ≤ o2) (ho3 : 93 ≤ o3) (hsz : sz ≤ 60) (hz : S.1 o2 2 = nI sz) (hsz3 : sz3 ≤ 60) (hz3 : S.1 o3 2 = nI sz3) (hs : s < A.1) (ht : t < A.1) (hw : w = 1 ∨ w = 2) (e1 : y / 10 = nI s) (e2 : y - y / 10 * 10 = nI t) (hi : sv_hh (fun j => (S.2 (o2 + 1) j).toInt32) sz i) : ∃ c l V, fX7_fit N o2 o3 y (nI w) S = some ((), V) ∧ V.1 23 3 = nI c ∧ V.1 23 4 = l ∧ sv_fR (sv_okv L A (fun j => (S.2 (o2 + 1) j).toInt32) (fun j => (S.2 (o3 + 1) j).toInt32) s t w sz3 i) (sv_gr w + 1) c l ∧ sv_ag sv_tw S V := by
  unfold fX7_fit
  simp only [e2]
  simp only [e1]
  have hn := hA.1
  have hw8 : w < 8 := by omega
  obtain ⟨t1, t2⟩ := sv_tb0 w hw8
  have hvw : sv_vw A t w := Or.inl ⟨by omega, ht⟩
  generalize hE : (fun j => (S.2 (o2 + 1) j).toInt32) = E at *
  generalize hE3 : (fun j => (S.2 (o3 + 1) j).toInt32) = E3
  rw [sv_ls, sv_ls]
  generalize hT : sw_si (sw_si S 23 3 0) 23 4 (-2) = T
  have gT : sv_ag sv_tw S T := by rw [← hT]; exact sv_ag_tr (sv_ag_si S 23 3 _ (by unfold sv_tw; omega)) (sv_ag_si _ 23 4 _ (by unfold sv_tw; omega))
  refine sv_fr1 (Q := fun r => ∃ c l V, r = some ((), V) ∧ V.1 23 3 = nI c ∧ V.1 23 4 = l ∧ sv_fR (sv_okv L A E E3 s t w sz3 i) (sv_gr w + 1) c l ∧ sv_ag sv_tw S V) (fun k x W => x = nI k ∧ k ≤ sv_gr w + 1 ∧ (∃ c l, W.1 23 3 = nI c ∧ W.1 23 4 = l ∧ sv_fR (sv_okv L A E E3 s t w sz3 i) k c l) ∧ sv_ag sv_tw S W) (sv_gr w + 1) ?_ ?_ N _ T (by omega) ⟨rfl, by omega, ⟨0, -2, by rw [← hT]; rfl, by rw [← hT]; rfl, rfl, rfl⟩, gT⟩
  · rintro k x W rec hk ⟨rfl, hks, ⟨c, l, w3, w4, w5⟩, gW⟩
    left
    have hck := sv_fR_le k w5
    rw [sv_gi hw8 (by decide), nI_clamp (by omega), t1, if_neg (show ¬ nI k > nI (sv_gr w) from nI_nlt (by omega) (by omega))]
    obtain ⟨V, hV, v1, v2⟩ := e7_fresh N (S := W) (sv_nc_tw h gW)
    have hf : sv_fs A t w k := ⟨by omega, fun e => by omega⟩
    obtain ⟨X, hX, x1, x2⟩ := e4_set N v1 hA hvw hf
    have gX : sv_ag sv_tq W X := sv_ag_tr (sv_ag_wk v2 (fun a ha => by unfold sv_tq; omega)) (sv_ag_wk x2 (fun a ha => by unfold sv_tq; omega))
    obtain ⟨i', r, Y, hY, y1, y2, gY⟩ := e7_firstWrong N (by omega) gX x1 (sv_sv_wf hA hvw hf) (sv_lc_tw hL gW) (o2 := o2) (o3 := o3) (s := s) ho2 ho3 hsz (by rw [(gW o2 (by unfold sv_tw; omega)).1]; exact hz) hsz3 (by rw [(gW o3 (by unfold sv_tw; omega)).1]; exact hz3) (by rw [sv_sv_n]; exact hs)
    rw [(gW (o2 + 1) (by unfold sv_tw; omega)).2, hE] at y1 y2
    rw [(gW (o3 + 1) (by unfold sv_tw; omega)).2] at y2
    have := sv_hh_u hi y1
    subst this
    have y23 : Y.1 23 = W.1 23 := (gY 23 (by unfold sv_tq; omega)).1
    have y3 : Y.1 23 3 = nI c := by rw [y23, w3]
    have y4 : Y.1 23 4 = l := by rw [y23, w4]
    have gSY : sv_ag sv_tw S Y := sv_ag_tr gW (sv_tq_tw gY)
    have hm2 := sv_f2_m2 hsz3 y2
    rw [hV, sv_bd, show (decide (sw_kd 29 = 4)) = true from rfl, sv_gt, hX, sv_bd, hY, sv_bd]
    have okI : r = -2 ↔ sv_okv L A E E3 s t w sz3 i k := by
      rw [hm2, ← hE3]
      exact Iff.rfl
    by_cases hr : r = -2
    · rw [if_pos hr, y3]
      by_cases hc : c = 0
      · subst hc
        rw [if_pos (show nI 0 = 0 from rfl), sv_ls, sv_ls]
        refine ⟨_, sw_si (sw_si Y 23 4 (nI k)) 23 3 (nI 1), ⟨nI_1 k, by omega, ⟨1, nI k, rfl, rfl, Or.inl ⟨okI.mp hr, 0, l, w5, rfl, rfl⟩⟩, sv_ag_tr gSY (sv_ag_tr (sv_ag_si Y 23 4 _ (by unfold sv_tw; omega)) (sv_ag_si _ 23 3 _ (by unfold sv_tw; omega)))⟩, ?_⟩
        rw [show (sw_si Y 23 4 (nI k)).1 23 3 = nI 0 from y3, nI_1 k, nI_1 0]
      · rw [if_neg (nI_ne0 (by omega) (by omega)), sv_ls, sv_ls, y4]
        refine ⟨_, sw_si (sw_si Y 23 4 l) 23 3 (nI (c + 1)), ⟨nI_1 k, by omega, ⟨c + 1, l, rfl, rfl, Or.inl ⟨okI.mp hr, c, l, w5, rfl, by rw [if_neg hc]⟩⟩, sv_ag_tr gSY (sv_ag_tr (sv_ag_si Y 23 4 _ (by unfold sv_tw; omega)) (sv_ag_si _ 23 3 _ (by unfold sv_tw; omega)))⟩, ?_⟩
        rw [show (sw_si Y 23 4 l).1 23 3 = nI c from y3, nI_1 k, nI_1 c]
    · rw [if_neg hr]
      exact ⟨_, Y, ⟨nI_1 k, by omega, ⟨c, l, y3, y4, Or.inr ⟨fun z => hr (okI.mpr z), w5⟩⟩, gSY⟩, rfl⟩
  · rintro x W rec ⟨rfl, hks, ⟨c, l, w3, w4, w5⟩, gW⟩
    rw [sv_gi hw8 (by decide), nI_clamp (by omega), t1, if_pos (show nI (sv_gr w + 1) > nI (sv_gr w) from nI_lt (by omega) (by omega))]
    exact ⟨c, l, W, rfl, w3, w4, w5, gW⟩
/-- the reference's loop over what it may be -/
theorem e9_fitl (N : Nat) (hN : 5000 ≤ N) {S : sw_St} {A : sv_A} {L : sv_L} (h : sv_mr S A) (hA : sv_wf A) (hL : sv_lr L S) {x y g : Int32} {a c s t w sz sz3 i : Nat} {E E3 : Nat → Int32} (e1 : x / 10 = nI a) (e2 : x - x / 10 * 10 = nI c) (hb : sv_rb S a sz E) (hb3 : sv_rb S c sz3 E3) (hi : sv_hh E sz i) (hs : s < A.1) (ht : t < A.1) (hw : w = 1 ∨ w = 2) (ey : y / 10 = nI s) (hg : (g ≥ 2 ∧ sv_gr w = 99) ∨ (¬ g ≥ 2 ∧ sv_gr w = 9)) : ∃ n l U, (sw_fx3 (fun rec1 x6_1 x7_1 x8_1 S7 => (sw_jn1 (fun y2 S8 => (if x8_1 > y2 then (sw_gd (sw_in (nI (sv_pl t w)) 53) (sw_ls (sw_si S8 106 (nI (sv_pl t w)).toNatClampNeg (S.1 106 (sv_pl t w))) (fun S9 => (if (g - g / (2 : Int32) * (2 : Int32)) = 0 then (some (x6_1, S9)) else (some (x7_1, S9)))))) else (sw_gd (sw_in (nI (sv_pl t w)) 53) (sw_ls (sw_si S8 106 (nI (sv_pl t w)).toNatClampNeg x8_1) (fun S10 => (sw_bd (fX9_firstFalse N x (y / (10 : Int32)) S10) (fun r6 S11 => (if r6 = (-2 : Int32) then (if x6_1 = 0 then (rec1 (x6_1 + (1 : Int32)) x8_1 (x8_1 + (1 : Int32)) S11) else (rec1 (x6_1 + (1 : Int32)) x7_1 (x8_1 + (1 : Int32)) S11)) else (rec1 x6_1 x7_1 (x8_1 + (1 : Int32)) S11))))))))) (fun k2 => (if g ≥ (2 : Int32) then (k2 (99 : Int32) S7) else (k2 (9 : Int32) S7))))) N (0 : Int32) (-2 : Int32) (0 : Int32) S) = (if (g - g / (2 : Int32) * (2 : Int32)) = 0 then some (nI n, U) else some (l, U)) ∧ sv_fR (sv_okv L A E E3 s t w sz3 i) (sv_gr w + 1) n l ∧ U.1 106 = S.1 106 ∧ U.2 106 = S.2 106 ∧ sv_rr (fun a => sv_rq a ∨ a = 106) sv_F S U := by
  have hn := hA.1
  have hvw : sv_vw A t w := Or.inl ⟨by omega, ht⟩
  have hp := sv_pl_lt hn hvw
  have hw8 : w < 8 := by omega
  obtain ⟨-, t2⟩ := sv_tb0 w hw8
  rw [ey]
  simp only [sv_gi hp (show 53 < 2 ^ 31 by decide), nI_clamp (show sv_pl t w < 2 ^ 31 by omega), sv_ls]
  have jn : ∀ (ρ : Type) (K : Int32 → sw_St → Option ρ) (W : sw_St), sw_jn1 K (fun k2 => (if g ≥ (2 : Int32) then (k2 (99 : Int32) W) else (k2 (9 : Int32) W))) = K (nI (sv_gr w)) W := by
    intro ρ K W
    rw [sv_jn1]
    rcases hg with ⟨g1, g2⟩ | ⟨g1, g2⟩
    · rw [if_pos g1, g2]; rfl
    · rw [if_neg g1, g2]; rfl
  refine sv_fr3 (Q := fun r => ∃ n l U, r = (if (g - g / (2 : Int32) * (2 : Int32)) = 0 then some (nI n, U) else some (l, U)) ∧ sv_fR (sv_okv L A E E3 s t w sz3 i) (sv_gr w + 1) n l ∧ U.1 106 = S.1 106 ∧ U.2 106 = S.2 106 ∧ sv_rr (fun a => sv_rq a ∨ a = 106) sv_F S U) (fun k x6 x7 x8 W => x8 = nI k ∧ k ≤ sv_gr w + 1 ∧ (∃ n, x6 = nI n ∧ sv_fR (sv_okv L A E E3 s t w sz3 i) k n x7) ∧ ((∀ q, q ≠ sv_pl t w → W.1 106 q = S.1 106 q) ∧ W.2 106 = S.2 106) ∧ sv_rr (fun a => sv_rq a ∨ a = 106) sv_F S W) (sv_gr w + 1) ?_ ?_ N _ _ _ S (by omega) ⟨rfl, by omega, ⟨0, rfl, rfl, rfl⟩, ⟨fun _ _ => rfl, rfl⟩, sv_rr_rf⟩
  · rintro k x6 x7 x8 W rec hk ⟨rfl, hks, ⟨n, rfl, w5⟩, w6, gW⟩
    left
    have hck := sv_fR_le k w5
    rw [jn, if_neg (show ¬ nI k > nI (sv_gr w) from nI_nlt (by omega) (by omega))]
    have hf : sv_fs A t w k := ⟨by omega, fun e => by omega⟩
    generalize hX : sw_si W 106 (sv_pl t w) (nI k) = X
    have gX : sv_rr (fun a => sv_rq a ∨ a = 106) sv_F S X := by rw [← hX]; exact sv_rr_tr gW (sv_rr_si W 106 _ _ (by decide) (Or.inr rfl))
    have x106 : X.1 106 = (sw_si S 106 (sv_pl t w) (nI k)).1 106 := by
      funext q
      rw [← hX, sv_si, sv_si]
      by_cases hq : q = sv_pl t w
      · rw [if_pos ⟨rfl, hq⟩, if_pos ⟨rfl, hq⟩]
      · rw [if_neg (fun z => hq z.2), if_neg (fun z => hq z.2), w6.1 q hq]
    have xm : sv_mr X (sv_sv A t w k) := sv_mr_eq (sv_mr_sv h hn hvw) x106 (by rw [gX.2.1 6 (by unfold sv_F; omega), sv_si, if_neg (by omega)])
    have xl : sv_lr L X := sv_lr_of hL (gX.2.1 10 (by unfold sv_F; omega)) (gX.1 111 (by decide) (by unfold sv_rq; omega)).1
    have xb : ∀ {d sz : Nat} {E : Nat → Int32}, sv_rb S d sz E → sv_rb X d sz E := by
      rintro d sz E ⟨a, b, c, e⟩
      refine ⟨a, b, ?_, ?_⟩
      · rw [(gX.1 125 (by decide) (by unfold sv_rq; omega)).1]; exact c
      · rw [(gX.1 126 (by decide) (by unfold sv_rq; omega)).2]; exact e
    obtain ⟨r, U, hU, u1, u2⟩ := e9_firstFalse N (by omega) xm (sv_sv_wf hA hvw hf) xl e1 e2 (xb hb) (xb hb3) hi (s := s) (by rw [sv_sv_n]; exact hs)
    have okI : r = -2 ↔ sv_okv L A E E3 s t w sz3 i k := sv_f2_m2 hb3.2.1 u1
    have u106 : U.1 106 = X.1 106 := (u2.1 106 (by decide) (by unfold sv_rq; omega)).1
    have gU : sv_rr (fun a => sv_rq a ∨ a = 106) sv_F S U := sv_rr_tr gX (sv_rr_wk u2 (fun a ha => Or.inl ha) (fun _ h => h))
    have w6' : (∀ q, q ≠ sv_pl t w → U.1 106 q = S.1 106 q) ∧ U.2 106 = S.2 106 := ⟨fun q hq => by rw [u106, x106, sv_si, if_neg (fun z => hq z.2)], by rw [(u2.1 106 (by decide) (by unfold sv_rq; omega)).2, ← hX]; exact w6.2⟩
    rw [hU, sv_bd]
    by_cases hr : r = -2
    · rw [if_pos hr]
      by_cases hc : n = 0
      · subst hc
        rw [if_pos (show nI 0 = 0 from rfl)]
        exact ⟨_, _, _, U, ⟨nI_1 k, by omega, ⟨1, rfl, Or.inl ⟨okI.mp hr, 0, x7, w5, rfl, rfl⟩⟩, w6', gU⟩, rfl⟩
      · rw [if_neg (nI_ne0 (by omega) (by omega))]
        exact ⟨_, _, _, U, ⟨nI_1 k, by omega, ⟨n + 1, nI_1 n, Or.inl ⟨okI.mp hr, n, x7, w5, rfl, by rw [if_neg hc]⟩⟩, w6', gU⟩, rfl⟩
    · rw [if_neg hr]
      exact ⟨_, _, _, U, ⟨nI_1 k, by omega, ⟨n, rfl, Or.inr ⟨fun z => hr (okI.mpr z), w5⟩⟩, w6', gU⟩, rfl⟩
  · rintro x6 x7 x8 W rec ⟨rfl, hks, ⟨n, rfl, w5⟩, w6, gW⟩
    rw [jn, if_pos (show nI (sv_gr w + 1) > nI (sv_gr w) from nI_lt (by omega) (by omega))]
    refine ⟨n, x7, _, rfl, w5, ?_, w6.2, sv_rr_tr gW (sv_rr_si W 106 _ _ (by decide) (Or.inr rfl))⟩
    funext q
    rw [sv_si]
    by_cases hq : q = sv_pl t w
    · rw [if_pos ⟨rfl, hq⟩, hq]
    · rw [if_neg (fun z => hq z.2), w6.1 q hq]
