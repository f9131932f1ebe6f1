/-! drawn -/
def sv_c8 (z : Int32) : Int32 := ((z.toUInt32 >>> ((8 : Int32).toUInt32 &&& Int32.toUInt32 31)).toInt32) - ((z.toUInt32 >>> ((8 : Int32).toUInt32 &&& Int32.toUInt32 31)).toInt32) / (12 : Int32) * (12 : Int32)
def sv_c16 (z : Int32) : Int32 := ((z.toUInt32 >>> ((16 : Int32).toUInt32 &&& Int32.toUInt32 31)).toInt32) - ((z.toUInt32 >>> ((16 : Int32).toUInt32 &&& Int32.toUInt32 31)).toInt32) / (12 : Int32) * (12 : Int32)
def sv_c20 (z : Int32) : Int32 := ((z.toUInt32 >>> ((20 : Int32).toUInt32 &&& Int32.toUInt32 31)).toInt32) - ((z.toUInt32 >>> ((20 : Int32).toUInt32 &&& Int32.toUInt32 31)).toInt32) / (12 : Int32) * (12 : Int32)
theorem sv_c8_d (z : Int32) : ((z.toUInt32 >>> ((8 : Int32).toUInt32 &&& Int32.toUInt32 31)).toInt32) - ((z.toUInt32 >>> ((8 : Int32).toUInt32 &&& Int32.toUInt32 31)).toInt32) / (12 : Int32) * (12 : Int32) = sv_c8 z := rfl
theorem sv_c16_d (z : Int32) : ((z.toUInt32 >>> ((16 : Int32).toUInt32 &&& Int32.toUInt32 31)).toInt32) - ((z.toUInt32 >>> ((16 : Int32).toUInt32 &&& Int32.toUInt32 31)).toInt32) / (12 : Int32) * (12 : Int32) = sv_c16 z := rfl
theorem sv_c20_d (z : Int32) : ((z.toUInt32 >>> ((20 : Int32).toUInt32 &&& Int32.toUInt32 31)).toInt32) - ((z.toUInt32 >>> ((20 : Int32).toUInt32 &&& Int32.toUInt32 31)).toInt32) / (12 : Int32) * (12 : Int32) = sv_c20 z := rfl
theorem sv_uI (a : UInt32) : a.toInt32 = nI a.toNat := by
  apply Int32.toBitVec_inj.mp
  show a.toBitVec = BitVec.ofNat 32 a.toNat
  apply BitVec.eq_of_toNat_eq
  simp
theorem sv_c16_n (z : Int32) : ∃ j, j < 12 ∧ sv_c16 z = nI j := by
  unfold sv_c16
  rw [show ((16 : Int32).toUInt32 &&& Int32.toUInt32 31) = (16 : UInt32) by decide, sv_uI]
  have h : (z.toUInt32 >>> (16 : UInt32)).toNat < 2 ^ 31 := by
    rw [UInt32.toNat_shiftRight, Nat.shiftRight_eq_div_pow]
    have h1 : z.toUInt32.toNat < 2 ^ 32 := UInt32.toNat_lt _
    have h2 : (16 : UInt32).toNat % 32 = 16 := by decide
    rw [h2]
    omega
  refine ⟨(z.toUInt32 >>> (16 : UInt32)).toNat % 12, by omega, ?_⟩
  exact sv_md (q := 12) h (by decide)
def sv_nx (z : Int32) : Int32 := z * (1103515245 : Int32) + (12345 : Int32)
theorem sv_nx_d (z : Int32) : z * (1103515245 : Int32) + (12345 : Int32) = sv_nx z := rfl
/-- one hour with the draw y -/
noncomputable def sv_dh (L : sv_L) (t : Int32) (A : sv_A) (y : Int32) : sv_A := sv_hr L (if sv_c20 y ≥ t then A else sv_tm A (sv_c16 y).toNatClampNeg) (sv_c8 y)
theorem sv_dh_wf {L : sv_L} {t : Int32} {A : sv_A} (hA : sv_wf A) (y : Int32) : sv_wf (sv_dh L t A y) := by
  unfold sv_dh
  refine sv_hr_wf ?_
  split
  · exact hA
  · exact sv_tm_wf hA _
theorem sv_dh_ns {S : sw_St} {o : Nat} {L : sv_L} {t : Int32} {A : sv_A} {y : Int32} (h : sv_ns S o (sv_dh L t A y)) : sv_ns S o A := by
  unfold sv_dh at h
  have h := sv_hr_ns L _ h
  by_cases q : sv_c20 y ≥ t
  · rw [if_pos q] at h; exact h
  · rw [if_neg q] at h
    exact sv_ns_ch h rfl (fun k hk => funext (fun s => (if_neg (fun z => hk z.1)).symm)) (fun j hj => rfl)
/-- attic and draw behind so many hours of a night -/
noncomputable def sv_dn (L : sv_L) (t : Int32) (A : sv_A) (z : Int32) : Nat → Int32 × sv_A
  | 0 => (z, A)
  | k + 1 => (sv_nx (sv_dn L t A z k).1, sv_dh L t (sv_dn L t A z k).2 (sv_nx (sv_dn L t A z k).1))
theorem sv_dn_s (L : sv_L) (t : Int32) (A : sv_A) (z : Int32) (k : Nat) : sv_dn L t A z (k + 1) = (sv_nx (sv_dn L t A z k).1, sv_dh L t (sv_dn L t A z k).2 (sv_nx (sv_dn L t A z k).1)) := rfl
theorem sv_dn_wf {L : sv_L} {t : Int32} {A : sv_A} (hA : sv_wf A) (z : Int32) (k : Nat) : sv_wf (sv_dn L t A z k).2 := by
  induction k with
  | zero => exact hA
  | succ k ih => exact sv_dh_wf ih _
theorem sv_dn_ns {S : sw_St} {o : Nat} {L : sv_L} {t : Int32} {A : sv_A} (z : Int32) (k : Nat) (h : sv_ns S o (sv_dn L t A z k).2) : sv_ns S o A := by
  induction k with
  | zero => exact h
  | succ k ih => exact ih (sv_dh_ns h)
theorem sv_dh_n (L : sv_L) (t : Int32) (A : sv_A) (y : Int32) : (sv_dh L t A y).1 = A.1 := by
  unfold sv_dh
  by_cases q : sv_c20 y ≥ t
  · rw [if_pos q]; rfl
  · rw [if_neg q]; rfl
theorem sv_dn_n {L : sv_L} {t : Int32} {A : sv_A} (z : Int32) (k : Nat) : (sv_dn L t A z k).2.1 = A.1 := by
  induction k with
  | zero => rfl
  | succ k ih => exact (sv_dh_n L t (sv_dn L t A z k).2 (sv_nx (sv_dn L t A z k).1)).trans ih
/-- draw and sum behind so many nights -/
noncomputable def sv_dg (L : sv_L) (t : Int32) (A : sv_A) (h : Nat) (w : sv_A → Int32) (z : Int32) : Nat → Int32 × Int32
  | 0 => (z, 0)
  | i + 1 => ((sv_dn L t A (sv_dg L t A h w z i).1 h).1, (sv_dg L t A h w z i).2 + w (sv_dn L t A (sv_dg L t A h w z i).1 h).2)
/-- what a night counts -/
def sv_dw (p : Int32) (A : sv_A) : Int32 := if p ≥ 0 then nI (A.2.1 3 p.toNatClampNeg) else nI (sv_na A)
theorem e7_drawNights (N : Nat) (hN : 200 ≤ N) {S : sw_St} {A : sv_A} {L : sv_L} (h : sv_nc S 1 A) (hA : sv_wf A) (hL : sv_lc L S) {n g : Nat} (hn : n ≤ 30) (hg : g ≤ 24) (t z p : Int32) (hp : p = -1 ∨ ∃ s, s < A.1 ∧ p = nI s) : ∃ V, fX7_drawNights N z (nI n) (nI g) t p S = some ((sv_dg L t A g (sv_dw p) z n).2, V) ∧ sv_ag sv_tq S V := by
  unfold fX7_drawNights
  have h10 := hA.1
  obtain ⟨T, hT, t1, gT⟩ := e7_fresh N h
  rw [hT, sv_bd, show (decide (sw_kd 29 = 4)) = true from rfl, sv_gt]
  simp only [sv_c8_d, sv_c16_d, sv_nx_d]
  refine sv_fr3 (Q := fun r => ∃ V, r = some ((sv_dg L t A g (sv_dw p) z n).2, V) ∧ sv_ag sv_tq S V) (fun i a b c W => a = (sv_dg L t A g (sv_dw p) z i).1 ∧ b = (sv_dg L t A g (sv_dw p) z i).2 ∧ c = nI i ∧ sv_ns W 29 A ∧ sv_ag sv_tq S W) n ?_ ?_ N _ _ _ T (by omega) ⟨rfl, rfl, rfl, sv_ns_nc t1, sv_ag_wk gT (fun a ha => by unfold sv_tq; omega)⟩
  · rintro i a b c W rec hi ⟨rfl, rfl, rfl, w1, gW⟩
    left
    have nW : sv_nc W 1 A := sv_nc_ag h gW (fun k hk => by unfold sv_tq; omega)
    obtain ⟨X, hX, x1, gX⟩ := e4_inMind N (o := 29) (o1 := 1) (by omega) nW w1
    have gX' : sv_ag sv_tq S X := sv_ag_tr gW (sv_ag_wk gX (fun a ha => by unfold sv_tq; omega))
    rw [if_neg (show ¬ nI i ≥ nI n from nI_ge hi (by omega)), hX, sv_bd]
    generalize hz : (sv_dg L t A g (sv_dw p) z i).1 = z1
    have es : sv_dg L t A g (sv_dw p) z (i + 1) = ((sv_dn L t A z1 g).1, (sv_dg L t A g (sv_dw p) z i).2 + sv_dw p (sv_dn L t A z1 g).2) := by rw [← hz]; rfl
    refine sv_fr2 (Q := fun r => ∃ b0 b1 b2 U, (b0 = (sv_dg L t A g (sv_dw p) z (i + 1)).1 ∧ b1 = (sv_dg L t A g (sv_dw p) z (i + 1)).2 ∧ b2 = nI (i + 1) ∧ sv_ns U 29 A ∧ sv_ag sv_tq S U) ∧ r = rec b0 b1 b2 U) (fun k a b Y => a = (sv_dn L t A z1 k).1 ∧ b = nI k ∧ sv_nc Y 29 (sv_dn L t A z1 k).2 ∧ sv_ag sv_tq S Y) g ?_ ?_ N _ _ X (by omega) ⟨rfl, rfl, x1, gX'⟩
    · rintro k a b Y rec2 hk ⟨rfl, rfl, y1, gY⟩
      left
      have hwf := sv_dn_wf (L := L) (t := t) hA z1 k
      rw [if_neg (show ¬ nI k ≥ nI g from nI_ge hk (by omega)), sv_li]
      have ey := sv_dn_s L t A z1 k
      generalize hy : sv_nx (sv_dn L t A z1 k).1 = y at ey ⊢
      have lY : sv_lc L Y := sv_lc_ag hL gY (by unfold sv_tq; omega) (by unfold sv_tq; omega) (by unfold sv_tq; omega)
      by_cases q : sv_c20 y ≥ t
      · obtain ⟨U, hU, u1, gU⟩ := e4_passHour N hN (o := 29) (by unfold sv_nights; omega) y1 hwf lY (sv_c8 y)
        rw [if_pos (show ((y.toUInt32 >>> ((20 : Int32).toUInt32 &&& Int32.toUInt32 31)).toInt32) - ((y.toUInt32 >>> ((20 : Int32).toUInt32 &&& Int32.toUInt32 31)).toInt32) / (12 : Int32) * (12 : Int32) ≥ t from q), hU, sv_bd]
        refine ⟨_, _, U, ⟨by rw [ey], nI_1 k, ?_, sv_ag_tr gY (sv_ag_wk gU (fun a ha => by unfold sv_tq; omega))⟩, rfl⟩
        rw [ey]
        show sv_nc U 29 (sv_dh L t (sv_dn L t A z1 k).2 y)
        unfold sv_dh
        rw [if_pos q]
        exact u1
      · obtain ⟨f, hf, hc⟩ := sv_c16_n y
        obtain ⟨U1, m, hU1, m1, m2, m3, g1⟩ := e4_touchFrom N (by omega) y1 hwf hf
        rw [sv_tm_eq hwf m1] at m2
        have g1' : sv_ag sv_tq S U1 := sv_ag_tr gY (sv_ag_wk g1 (fun a ha => by unfold sv_tq; omega))
        obtain ⟨U, hU, u1, gU⟩ := e4_passHour N hN (o := 29) (by unfold sv_nights; omega) m2 (sv_tm_wf hwf f) (sv_lc_ag hL g1' (by unfold sv_tq; omega) (by unfold sv_tq; omega) (by unfold sv_tq; omega)) (sv_c8 y)
        rw [if_neg (show ¬ ((y.toUInt32 >>> ((20 : Int32).toUInt32 &&& Int32.toUInt32 31)).toInt32) - ((y.toUInt32 >>> ((20 : Int32).toUInt32 &&& Int32.toUInt32 31)).toInt32) / (12 : Int32) * (12 : Int32) ≥ t from q), hc, hU1, sv_bd, hU, sv_bd]
        refine ⟨_, _, U, ⟨by rw [ey], nI_1 k, ?_, sv_ag_tr g1' (sv_ag_wk gU (fun a ha => by unfold sv_tq; omega))⟩, rfl⟩
        rw [ey]
        show sv_nc U 29 (sv_dh L t (sv_dn L t A z1 k).2 y)
        unfold sv_dh
        rw [if_neg q, hc, nI_clamp (by omega)]
        exact u1
    · rintro a b Y rec2 ⟨rfl, rfl, y1, gY⟩
      have hwf := sv_dn_wf (L := L) (t := t) hA z1 g
      have nsY : sv_ns Y 29 A := sv_dn_ns z1 g (sv_ns_nc y1)
      rw [if_pos (show nI g ≥ nI g from Int32.le_refl _)]
      rcases hp with rfl | ⟨s, hs, rfl⟩
      · rw [if_neg (show ¬ ((-1 : Int32) ≥ 0) by decide), e4_howManyAwake N (by omega) y1 hwf, sv_bd, sv_li]
        refine ⟨_, _, _, Y, ⟨by rw [es], ?_, nI_1 i, nsY, gY⟩, rfl⟩
        rw [es]
        show _ = _ + (if (-1 : Int32) ≥ 0 then _ else _)
        rw [if_neg (show ¬ ((-1 : Int32) ≥ 0) by decide)]
      · have p0 : nI s ≥ (0 : Int32) := nI_pos' (by omega)
        rw [if_pos p0, sv_gi (by omega) (by decide), nI_clamp (by omega), show Y.1 (29 + 4) s = nI ((sv_dn L t A z1 g).2.2.1 3 s) from y1.2.1 3 s (by decide) (by omega), sv_li]
        refine ⟨_, _, _, Y, ⟨by rw [es], ?_, nI_1 i, nsY, gY⟩, rfl⟩
        rw [es]
        show _ = _ + (if nI s ≥ 0 then nI ((sv_dn L t A z1 g).2.2.1 3 (nI s).toNatClampNeg) else _)
        rw [if_pos p0, nI_clamp (by omega)]
  · rintro a b c W rec ⟨rfl, rfl, rfl, w1, gW⟩
    rw [if_pos (show nI n ≥ nI n from Int32.le_refl _)]
    exact ⟨W, rfl, gW⟩
