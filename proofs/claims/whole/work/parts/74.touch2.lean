/-! the class's queue of those touched -/
def sv_me (u : Nat → Nat) (k c : Nat) : Bool := (List.range k).any (fun j => u j == c)
theorem sv_me_s (u : Nat → Nat) (k c : Nat) : sv_me u (k + 1) c = (sv_me u k c || decide (c = u k)) := by
  unfold sv_me
  rw [List.range_succ, List.any_append]
  congr 1
  simp only [List.any_cons, List.any_nil, Bool.or_false]
  by_cases h : c = u k
  · simp [h]
  · simp [h]
    exact fun e => h e.symm
theorem sv_me_i (u : Nat → Nat) (k c : Nat) : sv_me u k c = true ↔ ∃ j, j < k ∧ u j = c := by
  unfold sv_me
  simp [List.any_eq_true]
theorem sv_me_congr {u u' : Nat → Nat} {k : Nat} (h : ∀ j, j < k → u j = u' j) : sv_me u k = sv_me u' k := by
  funext c
  apply Bool.eq_iff_iff.mpr
  rw [sv_me_i, sv_me_i]
  constructor
  · rintro ⟨j, hj, e⟩; exact ⟨j, hj, by rw [← h j hj]; exact e⟩
  · rintro ⟨j, hj, e⟩; exact ⟨j, hj, by rw [h j hj]; exact e⟩
theorem sv_ct_me {u : Nat → Nat} : ∀ q, (∀ i j, i < q → j < q → u i = u j → i = j) → (∀ j, j < q → u j < 12) → sv_ct (sv_me u q) 12 = q
  | 0, _, _ => by
    have : sv_me u 0 = fun _ => false := rfl
    rw [this]
    rfl
  | q + 1, hi, hl => by
    have ih := sv_ct_me q (fun i j h1 h2 => hi i j (by omega) (by omega)) (fun j hj => hl j (by omega))
    have hf : sv_me u q (u q) = false := by
      apply Bool.eq_false_iff.mpr
      intro z
      obtain ⟨j, hj, e⟩ := (sv_me_i u q (u q)).mp z
      have := hi j q (by omega) (by omega) e
      omega
    have : sv_me u (q + 1) = fun c => sv_me u q c || decide (c = u q) := by funext c; exact sv_me_s u q c
    rw [this, sv_ct_new _ _ hf, ih, if_pos (hl q (by omega))]
theorem sv_bes_wb : ∀ c, c < 12 → sv_bes.getD c 0 = sv_wb (fun i => (sv_bes.getD c 0).testBit i) 12 := by decide +kernel
theorem sv_and2 (y c : Nat) : y &&& 2 ^ c = 0 ↔ y.testBit c = false := by
  constructor
  · intro h
    have := congrArg (fun z => Nat.testBit z c) h
    simp only [Nat.testBit_and, Nat.testBit_two_pow_self, Bool.and_true, Nat.zero_testBit] at this
    exact this
  · intro h
    apply Nat.eq_of_testBit_eq
    intro i
    rw [Nat.testBit_and, Nat.zero_testBit, Nat.testBit_two_pow]
    by_cases e : c = i
    · subst e; simp [h]
    · simp [e]
/-- is a cot beside here, and not yet seen? -/
theorem sv_isnew {here c : Nat} (hh : here < 12) (hc : c < 12) (g : Nat → Bool) : ((((sw_tb 1).getD here 0) &&& (nI (sv_wb g 12) ^^^ (-1 : Int32))) &&& ((1 : Int32) <<< (nI c &&& 31))) = 0 ↔ ¬ (sv_bs here c ∧ g c = false) := by
  rw [(sv_bes_tb here hh).1, sv_bes_wb here hh, sv_new _ _ (by decide) (by decide), sv_shl c (by omega), sv_and]
  have hle : sv_wb (fun i => decide (i < 12) && (sv_bes.getD here 0).testBit i && !(decide (i < 12) && g i)) 12 &&& 2 ^ c < 2 ^ 31 := Nat.lt_of_le_of_lt Nat.and_le_right (Nat.pow_lt_pow_right (by decide) (by omega))
  rw [show (0 : Int32) = nI 0 from rfl, nI_eq hle (by decide), sv_and2, sv_wb_bit]
  by_cases h1 : sv_bs here c
  · have h1' : (sv_bes.getD here 0).testBit c = true := h1
    cases hg : g c
    · simp [hc, h1', hg]
    · simp [hc, h1', hg]
  · have h1' : (sv_bes.getD here 0).testBit c = false := by
      cases e : (sv_bes.getD here 0).testBit c
      · rfl
      · exact absurd e h1
    constructor
    · intro _ z; exact h1 z.1
    · intro _; rw [h1']; simp
/-- what holds of the queue u of q, the first k of them touched -/
def sv_Qi (A : sv_A) (o f : Nat) (S0 : sw_St) (u : Nat → Nat) (q k : Nat) (x2 x3 : Int32) (W : sw_St) : Prop := (x2 = nI q) ∧ (x3 = nI (sv_wb (fun c => sv_me u q c || decide (c = f)) 12)) ∧ (k ≤ q) ∧ (∀ i j, i < q → j < q → u i = u j → i = j) ∧ (∀ j, j < q → u j < 12 ∧ sv_R A f (u j) ∧ sv_oc A (u j) ∧ W.1 (o + 9) j = nI (u j)) ∧ (sv_oc A f → sv_me u q f = true) ∧ (sv_nc W o (sv_to A (sv_me u k))) ∧ (W.1 o 4 = nI (sv_wb (sv_ww A (sv_me u k)) 12)) ∧ (sv_ag (fun a => a = o ∨ a = o + 4 ∨ a = o + 9) S0 W)
theorem sv_Qi.e2 {A : sv_A} {o f : Nat} {S0 W : sw_St} {u : Nat → Nat} {q k : Nat} {x2 x3 : Int32} (h : sv_Qi A o f S0 u q k x2 x3 W) : x2 = nI q := h.1
theorem sv_Qi.e3 {A : sv_A} {o f : Nat} {S0 W : sw_St} {u : Nat → Nat} {q k : Nat} {x2 x3 : Int32} (h : sv_Qi A o f S0 u q k x2 x3 W) : x3 = nI (sv_wb (fun c => sv_me u q c || decide (c = f)) 12) := h.2.1
theorem sv_Qi.kq {A : sv_A} {o f : Nat} {S0 W : sw_St} {u : Nat → Nat} {q k : Nat} {x2 x3 : Int32} (h : sv_Qi A o f S0 u q k x2 x3 W) : k ≤ q := h.2.2.1
theorem sv_Qi.ij {A : sv_A} {o f : Nat} {S0 W : sw_St} {u : Nat → Nat} {q k : Nat} {x2 x3 : Int32} (h : sv_Qi A o f S0 u q k x2 x3 W) : ∀ i j, i < q → j < q → u i = u j → i = j := h.2.2.2.1
theorem sv_Qi.el {A : sv_A} {o f : Nat} {S0 W : sw_St} {u : Nat → Nat} {q k : Nat} {x2 x3 : Int32} (h : sv_Qi A o f S0 u q k x2 x3 W) : ∀ j, j < q → u j < 12 ∧ sv_R A f (u j) ∧ sv_oc A (u j) ∧ W.1 (o + 9) j = nI (u j) := h.2.2.2.2.1
theorem sv_Qi.fi {A : sv_A} {o f : Nat} {S0 W : sw_St} {u : Nat → Nat} {q k : Nat} {x2 x3 : Int32} (h : sv_Qi A o f S0 u q k x2 x3 W) : sv_oc A f → sv_me u q f = true := h.2.2.2.2.2.1
theorem sv_Qi.nc {A : sv_A} {o f : Nat} {S0 W : sw_St} {u : Nat → Nat} {q k : Nat} {x2 x3 : Int32} (h : sv_Qi A o f S0 u q k x2 x3 W) : sv_nc W o (sv_to A (sv_me u k)) := h.2.2.2.2.2.2.1
theorem sv_Qi.w4 {A : sv_A} {o f : Nat} {S0 W : sw_St} {u : Nat → Nat} {q k : Nat} {x2 x3 : Int32} (h : sv_Qi A o f S0 u q k x2 x3 W) : W.1 o 4 = nI (sv_wb (sv_ww A (sv_me u k)) 12) := h.2.2.2.2.2.2.2.1
theorem sv_Qi.ag {A : sv_A} {o f : Nat} {S0 W : sw_St} {u : Nat → Nat} {q k : Nat} {x2 x3 : Int32} (h : sv_Qi A o f S0 u q k x2 x3 W) : sv_ag (fun a => a = o ∨ a = o + 4 ∨ a = o + 9) S0 W := h.2.2.2.2.2.2.2.2
/-- those beside the j-th that is woken lie in the queue -/
def sv_Qc (A : sv_A) (u : Nat → Nat) (q j lim : Nat) : Prop := ∀ s, s < A.1 → A.2.1 0 s = u j → sv_wk A s → ∀ c, c < lim → sv_bs (u j) c → sv_oc A c → sv_me u q c = true
theorem sv_Qi_q {A : sv_A} {o f : Nat} {S0 W : sw_St} {u : Nat → Nat} {q k : Nat} {x2 x3 : Int32} (h : sv_Qi A o f S0 u q k x2 x3 W) : sv_ct (sv_me u q) 12 = q ∧ q ≤ 12 := by
  have e := sv_ct_me q h.ij (fun j hj => (h.el j hj).1)
  exact ⟨e, by rw [← e]; exact sv_ct_le _ _⟩
/-- a new one comes into the queue -/
theorem sv_Qi_ad {A : sv_A} {o f : Nat} {S0 W : sw_St} {u : Nat → Nat} {q k : Nat} {x2 x3 : Int32} (h : sv_Qi A o f S0 u q k x2 x3 W) {c : Nat} (hc : c < 12) (hR : sv_R A f c) (ho : sv_oc A c) (hn : sv_me u q c = false) : q < 12 ∧ sv_Qi A o f S0 (fun j => if j = q then c else u j) (q + 1) k (x2 + 1) (x3 ||| nI (2 ^ c)) (sw_si W (o + 9) q (nI c)) := by
  have he : ∀ j, j < q → u j = (fun j => if j = q then c else u j) j := fun j hj => by show _ = (if j = q then c else u j); rw [if_neg (by omega)]
  have m1 : sv_me (fun j => if j = q then c else u j) q = sv_me u q := (sv_me_congr he).symm
  have mk : sv_me (fun j => if j = q then c else u j) k = sv_me u k := (sv_me_congr (fun j hj => he j (by have := h.kq; omega))).symm
  have ms : ∀ x, sv_me (fun j => if j = q then c else u j) (q + 1) x = (sv_me u q x || decide (x = c)) := by
    intro x
    rw [sv_me_s, m1]
    show _ = _
    rw [if_pos rfl]
  have hq : q < 12 := by
    have e1 := (sv_Qi_q h).1
    have e2 := sv_ct_new (sv_me u q) c hn 12
    rw [e1, if_pos hc] at e2
    have := sv_ct_le (fun x => sv_me u q x || decide (x = c)) 12
    omega
  refine ⟨hq, ⟨by rw [h.e2, nI_1], ?_, by have := h.kq; omega, fun i j hi hj e => ?_, fun j hj => ?_, fun hf => ?_, ?_, ?_, ?_⟩⟩
  · rw [h.e3, sv_or, sv_wb_or _ _ _ hc]
    congr 1
    refine sv_wb_congr 12 (fun x _ => ?_)
    rw [ms]
    cases sv_me u q x <;> cases decide (x = c) <;> simp
  · have e : (if i = q then c else u i) = (if j = q then c else u j) := e
    have no : ∀ z, z < q → u z ≠ c := fun z hz e => by
      have := (sv_me_i u q c).mpr ⟨z, hz, e⟩
      rw [hn] at this
      exact absurd this (by decide)
    by_cases q1 : i = q
    · by_cases q2 : j = q
      · omega
      · rw [if_pos q1, if_neg q2] at e
        exact absurd e.symm (no j (by omega))
    · by_cases q2 : j = q
      · rw [if_neg q1, if_pos q2] at e
        exact absurd e (no i (by omega))
      · rw [if_neg q1, if_neg q2] at e
        exact h.ij i j (by omega) (by omega) e
  · show (if j = q then c else u j) < 12 ∧ sv_R A f (if j = q then c else u j) ∧ sv_oc A (if j = q then c else u j) ∧ _ = nI (if j = q then c else u j)
    rw [sv_si]
    by_cases q1 : j = q
    · rw [if_pos q1, if_pos ⟨rfl, q1⟩]
      exact ⟨hc, hR, ho, rfl⟩
    · rw [if_neg q1, if_neg (by omega)]
      exact h.el j (by omega)
  · rw [ms, h.fi hf]; rfl
  · rw [mk]
    exact sv_nc_eq h.nc (fun k hk => (sv_ag_si (P := fun a => a = o + 9) W (o + 9) q _ rfl (o + k) (by omega)).1)
  · rw [mk, sv_si, if_neg (by omega)]
    exact h.w4
  · exact sv_ag_tr h.ag (sv_ag_si W (o + 9) q _ (by omega))
theorem e4_touchFrom (N : Nat) (hN : 100 ≤ N) {S : sw_St} {o : Nat} {A : sv_A} (h : sv_nc S o A) (hA : sv_wf A) {f : Nat} (hf : f < 12) : ∃ V m, fX4_touchFrom N o (nI f) S = some (nI (sv_ct m 12), V) ∧ (∀ c, c < 12 → (m c = true ↔ sv_R A f c)) ∧ sv_nc V o (sv_to A m) ∧ V.1 o 4 = nI (sv_wb (sv_ww A m) 12) ∧ sv_ag (fun a => a = o ∨ a = o + 4 ∨ a = o + 9) S V := by
  unfold fX4_touchFrom
  have hn := hA.1
  rw [sv_ls, sv_li, sv_shl f (by omega), sv_gi hf (by decide), nI_clamp (by omega), sv_jn1]
  generalize hT : sw_si S o 4 0 = T
  have gT : sv_ag (fun a => a = o ∨ a = o + 4 ∨ a = o + 9) S T := by rw [← hT]; exact sv_ag_si S o 4 _ (Or.inl rfl)
  have t4 : T.1 o 4 = nI 0 := by rw [← hT, sv_si, if_pos ⟨rfl, rfl⟩]; rfl
  have tn : sv_nc T o A := by
    rw [← hT]
    refine ⟨?_, fun k t hk ht => ?_, fun j hj => ?_, fun q hq => ?_⟩
    · rw [sv_si, if_neg (by omega)]; exact h.1
    · rw [sv_si, if_neg (by omega)]; exact h.2.1 k t hk ht
    · rw [sv_si, if_neg (by omega)]; exact h.2.2.1 j hj
    · rw [sv_si, if_neg (by omega)]; exact h.2.2.2 q hq
  have to0 : ∀ u, sv_to A (sv_me u 0) = A := by
    intro u
    obtain ⟨a, b, c⟩ := A
    unfold sv_to
    congr 2
    funext k s
    exact if_neg (fun z => Bool.false_ne_true z.2.2)
  have ww0 : ∀ u, sv_wb (sv_ww A (sv_me u 0)) 12 = 0 := by
    intro u
    refine (sv_wb_0 _ _).mpr (fun k _ => ?_)
    unfold sv_ww
    show (_ && false && _) = false
    simp
  have seen0 : ∀ u, sv_me u 0 f = false → (2 ^ f = sv_wb (fun c => sv_me u 0 c || decide (c = f)) 12) := by
    intro u _
    have e0 : sv_wb (fun _ => false) 12 = 0 := rfl
    have := sv_wb_or (fun _ => false) 12 f hf
    rw [e0, Nat.zero_or] at this
    exact this
  -- the loop over the queue, from any start
  have loop : ∀ (u : Nat → Nat) (q : Nat) (x2 x3 : Int32) (X : sw_St), sv_Qi A o f S u q 0 x2 x3 X → ∃ V m, sw_fx3 (fun rec1 x2_2 x3_2 x4_1 S3 => (if x4_1 ≥ x2_2 then (some (x2_2, S3)) else (if x4_1 ≥ (12 : Int32) then (some (x2_2, S3)) else (sw_gd (sw_in x4_1 12) (sw_li (S3.1 (o + 9) x4_1.toNatClampNeg) (fun x5_1 => (sw_gd (sw_in x5_1 12) (sw_bd (fX4_isWokenByTouch N o (S3.1 (o + 6) x5_1.toNatClampNeg) S3) (fun r1 S4 => (if r1 = 0 then (rec1 x2_2 x3_2 (x4_1 + (1 : Int32)) S4) else (sw_fx3 (fun rec2 x2_3 x3_3 x6_1 S5 => (if x6_1 ≥ (12 : Int32) then (rec1 x2_3 x3_3 (x4_1 + (1 : Int32)) S5) else (sw_gd (sw_in x5_1 12) (sw_jn1 (fun y1 S6 => (if y1 = 0 then (rec2 x2_3 x3_3 (x6_1 + (1 : Int32)) S6) else (sw_gd (sw_in x6_1 12) (if (S6.1 (o + 6) x6_1.toNatClampNeg) < 0 then (rec2 x2_3 x3_3 (x6_1 + (1 : Int32)) S6) else (if x2_3 ≥ (12 : Int32) then (rec2 x2_3 x3_3 (x6_1 + (1 : Int32)) S6) else (sw_gd (sw_in x2_3 12) (sw_ls (sw_si S6 (o + 9) x2_3.toNatClampNeg x6_1) (fun S7 => (sw_li (x3_3 ||| ((1 : Int32) <<< (x6_1 &&& 31))) (fun x3_4 => (rec2 (x2_3 + (1 : Int32)) x3_4 (x6_1 + (1 : Int32)) S7))))))))))) (fun k2 => (if ((((sw_tb 1).getD x5_1.toNatClampNeg 0) &&& (x3_3 ^^^ (-1 : Int32))) &&& ((1 : Int32) <<< (x6_1 &&& 31))) = 0 then (k2 (0 : Int32) S5) else (k2 (1 : Int32) S5))))))) N x2_2 x3_2 (0 : Int32) S4))))))))))) N x2 x3 (0 : Int32) X = some (nI (sv_ct m 12), V) ∧ (∀ c, c < 12 → (m c = true ↔ sv_R A f c)) ∧ sv_nc V o (sv_to A m) ∧ V.1 o 4 = nI (sv_wb (sv_ww A m) 12) ∧ sv_ag (fun a => a = o ∨ a = o + 4 ∨ a = o + 9) S V := by
    intro u0 q0 x20 x30 X hX
    -- the end: all in the queue are touched
    have fin : ∀ (u : Nat → Nat) (q : Nat) (x2 x3 : Int32) (W : sw_St), sv_Qi A o f S u q q x2 x3 W → (∀ j, j < q → sv_Qc A u q j 12) → ∀ c, c < 12 → (sv_me u q c = true ↔ sv_R A f c) := by
      intro u q x2 x3 W hW hcl c hc
      constructor
      · intro z
        obtain ⟨j, hj, e⟩ := (sv_me_i u q c).mp z
        rw [← e]
        exact (hW.el j hj).2.1
      · intro z
        refine z (fun c => sv_me u q c = true) hW.fi (fun c s o' h1 h2 h3 h4 h5 h6 h7 => ?_)
        obtain ⟨j, hj, e⟩ := (sv_me_i u q c).mp h1
        rw [← e] at h3 h6
        exact hcl j hj s h2 h3 h4 o' h5 h6 h7
    refine sv_fr3 (Q := fun t => ∃ V m, t = some (nI (sv_ct m 12), V) ∧ (∀ c, c < 12 → (m c = true ↔ sv_R A f c)) ∧ sv_nc V o (sv_to A m) ∧ V.1 o 4 = nI (sv_wb (sv_ww A m) 12) ∧ sv_ag (fun a => a = o ∨ a = o + 4 ∨ a = o + 9) S V) (fun k x2 x3 x4 W => x4 = nI k ∧ ∃ u q, sv_Qi A o f S u q k x2 x3 W ∧ ∀ j, j < k → sv_Qc A u q j 12) 12 ?_ ?_ N _ _ _ X (by omega) ⟨rfl, u0, q0, hX, fun j hj => absurd hj (Nat.not_lt_zero j)⟩
    · rintro k x2 x3 x4 W rec hk ⟨rfl, u, q, hW, hcl⟩
      have hq := sv_Qi_q hW
      rw [hW.e2]
      rcases Nat.lt_or_ge k q with hkq | hkq
      · rw [if_neg (nI_ge hkq (by omega)), if_neg (show ¬ nI k ≥ (12 : Int32) from nI_ge (b := 12) hk (by decide)), sv_gi hk (by decide), nI_clamp (by omega)]
        obtain ⟨l1, l2, ⟨s, hs, hsc⟩, l4⟩ := hW.el k hkq
        have hlie : W.1 (o + 6) (u k) = nI s := by
          rw [hW.nc.2.2.2 (u k) l1]
          exact sv_lie_at (sv_to_wf hA _) (s := s) hs (by rw [sv_to_r A _ (by decide)]; exact hsc)
        have hm : sv_me u k (u k) = false := by
          apply Bool.eq_false_iff.mpr
          intro z
          obtain ⟨j, hj, e⟩ := (sv_me_i u k (u k)).mp z
          have := hW.ij j k (by omega) hkq e
          omega
        obtain ⟨V, hV, v1, v2, gV⟩ := e4_isWokenByTouch N hA hW.nc hW.w4 hs hsc hm
        rw [l4, sv_li, sv_gi l1 (by decide), nI_clamp (by omega), hlie, hV, sv_bd, sv_Bi]
        have mes : (fun x => sv_me u k x || decide (x = u k)) = sv_me u (k + 1) := by funext x; rw [sv_me_s]
        rw [mes] at v1 v2
        have hV2 : sv_Qi A o f S u q (k + 1) (nI q) x3 V := ⟨rfl, hW.e3, hkq, hW.ij, fun j hj => by rw [(gV _ (by omega)).1]; exact hW.el j hj, hW.fi, v1, v2, sv_ag_tr hW.ag (sv_ag_wk gV (fun a ha => by omega))⟩
        by_cases hwk : sv_wk A s
        · rw [if_pos hwk]
          refine sv_fr3 (Q := fun t => (∃ b0 b1 b2 T, (b2 = nI (k + 1) ∧ ∃ u q, sv_Qi A o f S u q (k + 1) b0 b1 T ∧ ∀ j, j < k + 1 → sv_Qc A u q j 12) ∧ t = rec b0 b1 b2 T) ∨ ∃ V m, t = some (nI (sv_ct m 12), V) ∧ (∀ c, c < 12 → (m c = true ↔ sv_R A f c)) ∧ sv_nc V o (sv_to A m) ∧ V.1 o 4 = nI (sv_wb (sv_ww A m) 12) ∧ sv_ag (fun a => a = o ∨ a = o + 4 ∨ a = o + 9) S V) (fun c x2 x3 x6 W => x6 = nI c ∧ ∃ u' q', sv_Qi A o f S u' q' (k + 1) x2 x3 W ∧ (∀ j, j < q → u' j = u j) ∧ q ≤ q' ∧ (∀ j, j < k → sv_Qc A u' q' j 12) ∧ ∀ x, x < c → sv_bs (u k) x → sv_oc A x → sv_me u' q' x = true) 12 ?_ ?_ N _ _ _ V (by omega) ⟨rfl, u, q, hV2, fun _ _ => rfl, Nat.le_refl q, hcl, fun x hx => absurd hx (Nat.not_lt_zero x)⟩
          · rintro c x2 x3 x6 Y rec2 hc ⟨rfl, u', q', hY, hu, hqq, hcl', hx⟩
            left
            have hq' := sv_Qi_q hY
            have huk : u' k = u k := hu k hkq
            rw [if_neg (show ¬ nI c ≥ (12 : Int32) from nI_ge (b := 12) hc (by decide)), sv_gi l1 (by decide), sv_jn1, hY.e3]
            have hnew := sv_isnew l1 hc (fun c => sv_me u' q' c || decide (c = f))
            have hlc : Y.1 (o + 6) c = sv_lie A.1 (A.2.1 0) c := by
              rw [hY.nc.2.2.2 c hc]
              congr 1
            -- nothing new: the next
            have same : (sv_bs (u k) c → sv_oc A c → sv_me u' q' c = true) → ∃ b0 b1 b2 T, (b2 = nI (c + 1) ∧ ∃ u' q', sv_Qi A o f S u' q' (k + 1) b0 b1 T ∧ (∀ j, j < q → u' j = u j) ∧ q ≤ q' ∧ (∀ j, j < k → sv_Qc A u' q' j 12) ∧ ∀ x, x < c + 1 → sv_bs (u k) x → sv_oc A x → sv_me u' q' x = true) ∧ rec2 x2 (nI (sv_wb (fun c => sv_me u' q' c || decide (c = f)) 12)) (nI c + 1) Y = rec2 b0 b1 b2 T := by
              intro hh
              refine ⟨_, _, _, Y, ⟨nI_1 c, u', q', ⟨hY.e2, rfl, hY.kq, hY.ij, hY.el, hY.fi, hY.nc, hY.w4, hY.ag⟩, hu, hqq, hcl', fun x h1 h2 h3 => ?_⟩, rfl⟩
              rcases Nat.lt_or_ge x c with e | e
              · exact hx x e h2 h3
              · have : x = c := by omega
                subst this
                exact hh h2 h3
            by_cases hw : sv_bs (u k) c ∧ (sv_me u' q' c || decide (c = f)) = false
            · rw [if_neg (fun z => hnew.mp z hw)]
              dsimp only
              rw [if_neg sv_nz, sv_gi hc (by decide), nI_clamp (by omega), hlc]
              have hm2 : sv_me u' q' c = false := by
                have := hw.2
                cases e : sv_me u' q' c
                · rfl
                · rw [e] at this; simp at this
              rcases sv_lie_r hA c with ⟨t, ht, q1, q2⟩ | ⟨q1, q2⟩
              · obtain ⟨hq12, hnewQ⟩ := sv_Qi_ad hY hc (sv_R_s l2 hs hsc hwk hc hw.1 ⟨t, ht, q1⟩) ⟨t, ht, q1⟩ hm2
                rw [q2, if_neg (sv_ng t (by omega)), hY.e2, if_neg (show ¬ nI q' ≥ (12 : Int32) from nI_ge (b := 12) hq12 (by decide)), sv_gi hq12 (by decide), nI_clamp (by omega), sv_ls, sv_li, sv_shl c (by omega)]
                rw [hY.e2, hY.e3] at hnewQ
                have mono : ∀ x, sv_me u' q' x = true → sv_me (fun j => if j = q' then c else u' j) (q' + 1) x = true := by
                  intro x z
                  obtain ⟨j, hj, e⟩ := (sv_me_i u' q' x).mp z
                  exact (sv_me_i _ _ x).mpr ⟨j, by omega, by show (if j = q' then c else u' j) = x; rw [if_neg (by omega)]; exact e⟩
                refine ⟨_, _, _, _, ⟨nI_1 c, _, _, hnewQ, fun j hj => ?_, by omega, fun j hj => ?_, fun x h1 h2 h3 => ?_⟩, rfl⟩
                · show (if j = q' then c else u' j) = u j
                  rw [if_neg (by omega)]
                  exact hu j hj
                · intro s' a1 a2 a3 x a4 a5 a6
                  have eu : (if j = q' then c else u' j) = u' j := if_neg (by omega)
                  have a2 : A.2.1 0 s' = (if j = q' then c else u' j) := a2
                  have a5 : sv_bs (if j = q' then c else u' j) x := a5
                  rw [eu] at a2 a5
                  exact mono x (hcl' j hj s' a1 a2 a3 x a4 a5 a6)
                · rcases Nat.lt_or_ge x c with e | e
                  · exact mono x (hx x e h2 h3)
                  · have : x = c := by omega
                    subst this
                    exact (sv_me_i _ _ x).mpr ⟨q', by omega, by show (if q' = q' then x else u' q') = x; rw [if_pos rfl]⟩
              · rw [q2, if_pos (by decide)]
                exact same (fun _ z => absurd z (fun ⟨t, ht, e⟩ => q1 t ht e))
            · rw [if_pos (hnew.mpr hw)]
              dsimp only
              rw [if_pos rfl]
              refine same (fun h2 h3 => ?_)
              cases e : sv_me u' q' c
              · exfalso
                apply hw
                refine ⟨h2, ?_⟩
                rw [e]
                by_cases ef : c = f
                · subst ef
                  rw [hY.fi h3] at e
                  exact absurd e (by decide)
                · simp [ef]
              · rfl
          · rintro x2 x3 x6 Y rec2 ⟨rfl, u', q', hY, hu, hqq, hcl', hx⟩
            rw [if_pos (show nI 12 ≥ (12 : Int32) from Int32.le_refl _)]
            left
            refine ⟨_, _, _, Y, ⟨nI_1 k, u', q', hY, fun j hj => ?_⟩, rfl⟩
            rcases Nat.lt_or_ge j k with e | e
            · exact hcl' j e
            · have : j = k := by omega
              subst this
              intro s' a1 a2 a3 x a4 a5 a6
              rw [hu j hkq] at a5
              exact hx x a4 a5 a6
        · rw [if_neg hwk]
          left
          refine ⟨_, _, _, V, ⟨nI_1 k, u, q, hV2, fun j hj => ?_⟩, rfl⟩
          rcases Nat.lt_or_ge j k with e | e
          · exact hcl j e
          · have : j = k := by omega
            subst this
            intro s' a1 a2 a3
            have : s' = s := hA.2.2.1 s' s a1 hs (a2.trans hsc.symm)
            subst this
            exact absurd a3 hwk
      · rw [if_pos (nI_le hkq (by omega))]
        right
        have : k = q := by have := hW.kq; omega
        subst this
        exact ⟨W, sv_me u k, by rw [hq.1], fin u k _ _ W hW hcl, hW.nc, hW.w4, hW.ag⟩
    · rintro x2 x3 x4 W rec ⟨rfl, u, q, hW, hcl⟩
      have hq := sv_Qi_q hW
      have : 12 = q := by have := hW.kq; omega
      subst this
      rw [hW.e2, if_pos (Int32.le_refl _)]
      exact ⟨W, sv_me u 12, by rw [hq.1], fin u 12 _ _ W hW hcl, hW.nc, hW.w4, hW.ag⟩
  have tl : T.1 (o + 6) f = sv_lie A.1 (A.2.1 0) f := tn.2.2.2 f hf
  rw [tl]
  rcases sv_lie_r hA f with ⟨s, hs, q1, q2⟩ | ⟨q1, q2⟩
  · rw [q2, if_neg (sv_ng s (by omega)), show sw_in (0 : Int32) 12 = true from rfl, sv_gt, show (0 : Int32).toNatClampNeg = 0 from rfl, sv_ls, show (0 : Int32) + 1 = nI 1 from rfl]
    refine loop (fun _ => f) 1 (nI 1) (nI (2 ^ f)) _ ⟨rfl, ?_, by omega, fun i j _ _ _ => by omega, fun j hj => ⟨hf, sv_R_b ⟨s, hs, q1⟩, ⟨s, hs, q1⟩, ?_⟩, fun _ => (sv_me_i _ _ _).mpr ⟨0, by decide, rfl⟩, ?_, ?_, sv_ag_tr gT (sv_ag_si T (o + 9) 0 _ (by omega))⟩
    · rw [seen0 (fun _ => f) rfl]
      congr 1
      refine sv_wb_congr 12 (fun c _ => ?_)
      rw [sv_me_s]
      cases sv_me (fun _ => f) 0 c <;> cases decide (c = f) <;> rfl
    · rw [sv_si, if_pos ⟨rfl, by omega⟩]
    · rw [to0]
      exact sv_nc_eq tn (fun k hk => (sv_ag_si (P := fun a => a = o + 9) T (o + 9) 0 _ rfl (o + k) (by omega)).1)
    · rw [ww0, sv_si, if_neg (by omega)]
      exact t4
  · rw [q2, if_pos (by decide)]
    refine loop (fun _ => f) 0 0 (nI (2 ^ f)) T ⟨rfl, by rw [seen0 (fun _ => f) rfl], Nat.le_refl 0, fun i j hi => absurd hi (Nat.not_lt_zero i), fun j hj => absurd hj (Nat.not_lt_zero j), fun z => absurd z (fun ⟨t, ht, e⟩ => q1 t ht e), ?_, ?_, gT⟩
    · rw [to0]; exact tn
    · rw [ww0]; exact t4
