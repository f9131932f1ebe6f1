/-! walks: steps, sets, the least over all orders -/
def sv_ds (a b : Nat) : Nat := ((a % 6 - b % 6) + (b % 6 - a % 6)) + (if a / 6 = b / 6 then 0 else 1)
theorem sv_ds_le {a b : Nat} (ha : a < 12) (hb : b < 12) : sv_ds a b ≤ 6 := by
  unfold sv_ds
  split <;> omega
theorem sv_dd8 : ∀ a, a < 12 → ∀ b, b < 12 → (sw_ab ((nI a - nI a / (6 : Int32) * (6 : Int32)) - (nI b - nI b / (6 : Int32) * (6 : Int32)))) + (sw_ab ((nI a / (6 : Int32)) - (nI b / (6 : Int32)))) = nI (sv_ds a b) := by decide +kernel
theorem sv_dd9 : ∀ a, a < 12 → ∀ b, b < 12 → (if ((nI a - nI a / (6 : Int32) * (6 : Int32)) - (nI b - nI b / (6 : Int32) * (6 : Int32))) ≥ 0 then ((nI a - nI a / (6 : Int32) * (6 : Int32)) - (nI b - nI b / (6 : Int32) * (6 : Int32))) else (-((nI a - nI a / (6 : Int32) * (6 : Int32)) - (nI b - nI b / (6 : Int32) * (6 : Int32))))) + (if nI a / (6 : Int32) = nI b / (6 : Int32) then 0 else 1) = nI (sv_ds a b) := by decide +kernel
theorem e8_steps (N : Nat) {a b : Nat} (ha : a < 12) (hb : b < 12) (S : sw_St) : fX8_steps N (nI a) (nI b) S = some (nI (sv_ds a b), S) := by
  unfold fX8_steps
  rw [sv_dd8 a ha b hb]
theorem e9_stepsTo (N : Nat) {a b : Nat} (ha : a < 12) (hb : b < 12) (S : sw_St) : fX9_stepsTo N (nI a) (nI b) S = some (nI (sv_ds a b), S) := by
  rw [← sv_dd9 a ha b hb]
  unfold fX9_stepsTo fX9_sizeOf
  generalize (nI a - nI a / (6 : Int32) * (6 : Int32)) - (nI b - nI b / (6 : Int32) * (6 : Int32)) = q
  by_cases h : q ≥ 0
  · rw [if_pos h, if_pos h, sv_bd]
    by_cases g : nI a / (6 : Int32) = nI b / (6 : Int32)
    · rw [if_pos g, if_pos g]
    · rw [if_neg g, if_neg g]
  · rw [if_neg h, if_neg h, sv_bd]
    by_cases g : nI a / (6 : Int32) = nI b / (6 : Int32)
    · rw [if_pos g, if_pos g]
    · rw [if_neg g, if_neg g]
/-- the set without one -/
def sv_wo (x c : Nat) : Nat := sv_wb (fun i => x.testBit i && !decide (i = c)) 12
theorem sv_rm_lt4 (x c : Nat) : sv_wo x c < 4096 := sv_wb_lt _ 12
theorem sv_tb_lt {x i : Nat} (hx : x < 4096) (h : x.testBit i = true) : i < 12 := by
  rcases Nat.lt_or_ge i 12 with q | q
  · exact q
  · have : x < 2 ^ i := Nat.lt_of_lt_of_le hx (show 2 ^ 12 ≤ 2 ^ i from Nat.pow_le_pow_right (by decide) q)
    rw [Nat.testBit_lt_two_pow this] at h
    cases h
theorem sv_wb_x {x : Nat} (hx : x < 4096) : sv_wb (fun i => x.testBit i) 12 = x := by
  apply Nat.eq_of_testBit_eq
  intro i
  rw [sv_wb_bit]
  cases h : x.testBit i
  · simp
  · simp [sv_tb_lt hx h]
theorem sv_wb_1 {c : Nat} (hc : c < 12) : sv_wb (fun i => decide (i = c)) 12 = 2 ^ c := by
  apply Nat.eq_of_testBit_eq
  intro i
  rw [sv_wb_bit, Nat.testBit_two_pow]
  by_cases h : i = c
  · subst h; simp [hc]
  · simp [h, show ¬ c = i from fun z => h z.symm]
theorem sv_rm_bit {x c i : Nat} (hx : x < 4096) : (sv_wo x c).testBit i = (x.testBit i && !decide (i = c)) := by
  unfold sv_wo
  rw [sv_wb_bit]
  cases h : x.testBit i
  · simp
  · simp [sv_tb_lt hx h]
theorem sv_rm_I {x c : Nat} (hx : x < 4096) (hc : c < 12) : nI x &&& (nI (2 ^ c) ^^^ (-1 : Int32)) = nI (sv_wo x c) := by
  have := sv_new (fun i => x.testBit i) (fun i => decide (i = c)) (n := 12) (m := 12) (Nat.le_refl _) (Nat.le_refl _)
  rw [sv_wb_x hx, sv_wb_1 hc] at this
  rw [this]
  congr 1
theorem sv_wb_rm (f : Nat → Bool) {l : Nat} (hf : f l = true) : ∀ n, l < n → sv_wb f n = sv_wb (fun i => f i && !decide (i = l)) n + 2 ^ l := by
  intro n
  induction n with
  | zero => intro h; omega
  | succ n ih =>
    intro h
    simp only [sv_wb]
    by_cases e : n = l
    · subst e
      rw [if_pos hf, if_neg (by simp), sv_wb_congr (f := fun i => f i && !decide (i = n)) (g := f) n (fun k hk => by simp [show ¬ k = n by omega])]
      rfl
    · rw [ih (by omega)]
      have : (f n && !decide (n = l)) = f n := by simp [e]
      simp only [this]
      omega
theorem sv_ct_rm (f : Nat → Bool) {l : Nat} (hf : f l = true) : ∀ n, l < n → sv_ct f n = sv_ct (fun i => f i && !decide (i = l)) n + 1 := by
  intro n
  induction n with
  | zero => intro h; omega
  | succ n ih =>
    intro h
    simp only [sv_ct]
    by_cases e : n = l
    · subst e
      rw [if_pos hf, if_neg (by simp), sv_ct_congr (f := fun i => f i && !decide (i = n)) (g := f) n (fun k hk => by simp [show ¬ k = n by omega])]
    · rw [ih (by omega)]
      have : (f n && !decide (n = l)) = f n := by simp [e]
      simp only [this]
      omega
theorem sv_rm_lt {x c : Nat} (hx : x < 4096) (h : x.testBit c = true) : sv_wo x c < x := by
  have := sv_wb_rm (fun i => x.testBit i) h 12 (sv_tb_lt hx h)
  rw [sv_wb_x hx] at this
  have p : 0 < 2 ^ c := Nat.two_pow_pos c
  unfold sv_wo
  omega
theorem sv_rm_ct {x c : Nat} (hx : x < 4096) (h : x.testBit c = true) : sv_ct (fun i => x.testBit i) 12 = sv_ct (fun i => (sv_wo x c).testBit i) 12 + 1 := by
  rw [sv_ct_rm (fun i => x.testBit i) h 12 (sv_tb_lt hx h), sv_ct_congr (f := fun i => (sv_wo x c).testBit i) (g := fun i => x.testBit i && !decide (i = c)) 12 (fun k _ => sv_rm_bit hx)]
theorem sv_rm_eq {x c : Nat} (hx : x < 4096) : sv_wo x c = x ↔ x.testBit c = false := by
  constructor
  · intro h
    cases q : x.testBit c
    · rfl
    · have := sv_rm_lt hx q
      omega
  · intro h
    apply Nat.eq_of_testBit_eq
    intro i
    rw [sv_rm_bit hx]
    by_cases e : i = c
    · subst e; simp [h]
    · simp [e]
/-- the list goes once by each of the set -/
def sv_pm (L : List Nat) (x : Nat) : Prop := L.Nodup ∧ ∀ i, i ∈ L ↔ x.testBit i = true
theorem sv_pm_cons {o : Nat} {L : List Nat} {x : Nat} (hx : x < 4096) : sv_pm (o :: L) x ↔ x.testBit o = true ∧ sv_pm L (sv_wo x o) := by
  unfold sv_pm
  rw [List.nodup_cons]
  constructor
  · rintro ⟨⟨h1, h2⟩, h3⟩
    refine ⟨(h3 o).mp (List.mem_cons_self ..), h2, fun i => ?_⟩
    rw [sv_rm_bit hx]
    constructor
    · intro hi
      have e : i ≠ o := fun z => h1 (z ▸ hi)
      simp [(h3 i).mp (List.mem_cons_of_mem _ hi), e]
    · intro hi
      simp at hi
      rcases List.mem_cons.mp ((h3 i).mpr hi.1) with z | z
      · exact absurd z hi.2
      · exact z
  · rintro ⟨h1, h2, h3⟩
    refine ⟨⟨fun z => ?_, h2⟩, fun i => ?_⟩
    · have := (h3 o).mp z
      rw [sv_rm_bit hx] at this
      simp at this
    · rw [List.mem_cons]
      constructor
      · rintro (rfl | z)
        · exact h1
        · have := (h3 i).mp z
          rw [sv_rm_bit hx] at this
          simp at this
          exact this.1
      · intro hi
        by_cases e : i = o
        · exact Or.inl e
        · right
          rw [h3, sv_rm_bit hx]
          simp [hi, e]
theorem sv_pm_0 {L : List Nat} : sv_pm L 0 ↔ L = [] := by
  constructor
  · rintro ⟨_, h⟩
    cases L with
    | nil => rfl
    | cons a L => have := (h a).mp (List.mem_cons_self ..); simp at this
  · rintro rfl
    exact ⟨List.nodup_nil, fun i => by simp⟩
theorem sv_pm_n {x : Nat} (h : sv_pm [] x) : x = 0 := by
  apply Nat.eq_of_testBit_eq
  intro i
  cases q : x.testBit i
  · simp
  · exact absurd ((h.2 i).mpr q) (by simp)
def sv_pc : Nat → List Nat → Nat
  | _, [] => 0
  | c, o :: L => sv_ds c o + sv_pc o L
def sv_qc (st : Nat → Nat) (c : Nat) : List Nat → Nat
  | [] => 0
  | [l] => sv_ds c (st l)
  | l :: i :: L => sv_qc st c (i :: L) + sv_ds (st i) (st l)
theorem sv_pc_2 (a b : Nat) : ∀ (X : List Nat) (c : Nat), sv_pc c (X ++ [a] ++ [b]) = sv_pc c (X ++ [a]) + sv_ds a b := by
  intro X
  induction X with
  | nil => intro c; simp [sv_pc]
  | cons o X ih =>
    intro c
    have := ih o
    simp only [List.cons_append, sv_pc] at this ⊢
    omega
theorem sv_qc_pc (st : Nat → Nat) (c : Nat) : ∀ L : List Nat, sv_qc st c L = sv_pc c (L.map st).reverse := by
  intro L
  induction L with
  | nil => rfl
  | cons l L ih =>
    cases L with
    | nil => simp [sv_qc, sv_pc]
    | cons i L =>
      simp only [sv_qc]
      rw [ih]
      simp only [List.map_cons, List.reverse_cons]
      rw [sv_pc_2]
theorem sv_nd_rev {L : List Nat} : L.reverse.Nodup ↔ L.Nodup := by
  unfold List.Nodup
  rw [List.pairwise_reverse]
  constructor <;> exact fun h => h.imp (fun z => Ne.symm z)
/-- orders of places and orders of cots -/
theorem sv_ord {x n c v : Nat} {st rk : Nat → Nat} (hn : n ≤ 6) (h1 : ∀ k, k < n → x.testBit (st k) = true ∧ rk (st k) = k) (h2 : ∀ c, x.testBit c = true → rk c < n ∧ st (rk c) = c) : (∃ L, sv_pm L (2 ^ n - 1) ∧ sv_qc st c L ≤ v) ↔ ∃ M, sv_pm M x ∧ sv_pc c M ≤ v := by
  have hb : ∀ i, (2 ^ n - 1).testBit i = true ↔ i < n := fun i => by rw [Nat.testBit_two_pow_sub_one]; simp
  constructor
  · rintro ⟨L, ⟨l1, l2⟩, l3⟩
    refine ⟨(L.map st).reverse, ⟨?_, fun i => ?_⟩, by rw [← sv_qc_pc]; exact l3⟩
    · rw [sv_nd_rev]
      unfold List.Nodup
      rw [List.pairwise_map]
      refine List.Pairwise.imp_of_mem ?_ l1
      intro a b ha hb' hab z
      have ra := (h1 a ((hb a).mp ((l2 a).mp ha))).2
      have rb := (h1 b ((hb b).mp ((l2 b).mp hb'))).2
      exact hab (by rw [← ra, ← rb, z])
    · rw [List.mem_reverse, List.mem_map]
      constructor
      · rintro ⟨k, hk, rfl⟩
        exact (h1 k ((hb k).mp ((l2 k).mp hk))).1
      · intro hi
        have := h2 i hi
        exact ⟨rk i, (l2 _).mpr ((hb _).mpr this.1), this.2⟩
  · rintro ⟨M, ⟨m1, m2⟩, m3⟩
    have e : ((M.reverse.map rk).map st).reverse = M := by
      rw [List.map_map, List.map_congr_left (f := st ∘ rk) (g := id) (fun a ha => (h2 a ((m2 a).mp (List.mem_reverse.mp ha))).2), List.map_id, List.reverse_reverse]
    refine ⟨M.reverse.map rk, ⟨?_, fun k => ?_⟩, by rw [sv_qc_pc, e]; exact m3⟩
    · unfold List.Nodup
      rw [List.pairwise_map]
      refine List.Pairwise.imp_of_mem ?_ (sv_nd_rev.mpr m1)
      intro a b ha hb' hab z
      have ra := (h2 a ((m2 a).mp (List.mem_reverse.mp ha))).2
      have rb := (h2 b ((m2 b).mp (List.mem_reverse.mp hb'))).2
      exact hab (by rw [← ra, ← rb, z])
    · rw [List.mem_map, hb]
      constructor
      · rintro ⟨a, ha, rfl⟩
        exact (h2 a ((m2 a).mp (List.mem_reverse.mp ha))).1
      · intro hk
        have := h1 k hk
        exact ⟨st k, List.mem_reverse.mpr ((m2 _).mpr this.1), this.2⟩
/-- the least of what a property allows, far above if there is none -/
def sv_lst (P : Nat → Prop) (e : Nat) : Prop := e ≤ 1000000 ∧ ∀ w, w < 1000000 → (e ≤ w ↔ P w)
theorem sv_lst_eq {P Q : Nat → Prop} {e f : Nat} (h : sv_lst P e) (g : sv_lst Q f) (hq : ∀ w, P w ↔ Q w) : e = f := by
  rcases Nat.lt_trichotomy e f with q | q | q
  · have h1 := (g.2 e (by have := g.1; omega)).mpr ((hq e).mp ((h.2 e (by have := g.1; omega)).mp (Nat.le_refl _)))
    omega
  · exact q
  · have h1 := (h.2 f (by have := h.1; omega)).mpr ((hq f).mpr ((g.2 f (by have := h.1; omega)).mp (Nat.le_refl _)))
    omega
