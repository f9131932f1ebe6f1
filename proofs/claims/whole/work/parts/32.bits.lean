/-! bits as sets of small numbers -/
theorem sv_or (a b : Nat) : nI a ||| nI b = nI (a ||| b) := by
  apply Int32.toBitVec_inj.mp
  show BitVec.ofNat 32 a ||| BitVec.ofNat 32 b = BitVec.ofNat 32 (a ||| b)
  apply BitVec.eq_of_getLsbD_eq
  intro i hi
  simp [BitVec.getLsbD_ofNat, hi, Nat.testBit_or]
theorem sv_and (a b : Nat) : nI a &&& nI b = nI (a &&& b) := by
  apply Int32.toBitVec_inj.mp
  show BitVec.ofNat 32 a &&& BitVec.ofNat 32 b = BitVec.ofNat 32 (a &&& b)
  apply BitVec.eq_of_getLsbD_eq
  intro i hi
  simp [BitVec.getLsbD_ofNat, hi, Nat.testBit_and]
theorem sv_xor (a b : Nat) : nI a ^^^ nI b = nI (a ^^^ b) := by
  apply Int32.toBitVec_inj.mp
  show BitVec.ofNat 32 a ^^^ BitVec.ofNat 32 b = BitVec.ofNat 32 (a ^^^ b)
  apply BitVec.eq_of_getLsbD_eq
  intro i hi
  simp [BitVec.getLsbD_ofNat, hi, Nat.testBit_xor]
theorem sv_shl : ∀ k, k < 31 → (1 : Int32) <<< (nI k &&& 31) = nI (2 ^ k) := by decide +kernel
def sv_wb (f : Nat → Bool) : Nat → Nat
  | 0 => 0
  | k + 1 => sv_wb f k + (if f k then 2 ^ k else 0)
def sv_ct (f : Nat → Bool) : Nat → Nat
  | 0 => 0
  | k + 1 => sv_ct f k + (if f k then 1 else 0)
theorem sv_ct_le (f : Nat → Bool) : ∀ n, sv_ct f n ≤ n := by
  intro n
  induction n with
  | zero => exact Nat.le_refl _
  | succ n ih =>
    simp only [sv_ct]
    split <;> omega
theorem sv_ct_congr {f g : Nat → Bool} : ∀ n, (∀ k, k < n → f k = g k) → sv_ct f n = sv_ct g n := by
  intro n
  induction n with
  | zero => intro _; rfl
  | succ n ih => intro h; simp only [sv_ct]; rw [ih (fun k hk => h k (by omega)), h n (by omega)]
theorem sv_wb_congr {f g : Nat → Bool} : ∀ n, (∀ k, k < n → f k = g k) → sv_wb f n = sv_wb g n := by
  intro n
  induction n with
  | zero => intro _; rfl
  | succ n ih => intro h; simp only [sv_wb]; rw [ih (fun k hk => h k (by omega)), h n (by omega)]
theorem sv_wb_lt (f : Nat → Bool) : ∀ n, sv_wb f n < 2 ^ n := by
  intro n
  induction n with
  | zero => exact Nat.one_pos
  | succ n ih =>
    simp only [sv_wb, Nat.pow_succ]
    split <;> omega
theorem sv_wb_bit (f : Nat → Bool) (i : Nat) : ∀ n, (sv_wb f n).testBit i = (decide (i < n) && f i) := by
  intro n
  induction n with
  | zero => simp [sv_wb]
  | succ n ih =>
    have hlt := sv_wb_lt f n
    simp only [sv_wb]
    by_cases hf : f n = true
    · rw [if_pos hf, Nat.add_comm]
      by_cases hi : i = n
      · subst hi
        rw [Nat.testBit_two_pow_add_eq, Nat.testBit_lt_two_pow hlt]
        simp [hf]
      · by_cases hl : i < n
        · rw [Nat.testBit_two_pow_add_gt hl, ih]
          simp [hl, show i < n + 1 by omega]
        · have h2 : 2 ^ n + sv_wb f n < 2 ^ (n + 1) := by rw [Nat.pow_succ]; omega
          rw [Nat.testBit_lt_two_pow (Nat.lt_of_lt_of_le h2 (Nat.pow_le_pow_right (by decide) (by omega)))]
          simp [show ¬ i < n + 1 by omega]
    · rw [if_neg hf, Nat.add_zero, ih]
      by_cases hi : i = n
      · subst hi
        simp at hf
        simp [hf]
      · simp [show (i < n + 1) ↔ (i < n) by omega]
theorem sv_wb_or (f : Nat → Bool) (n c : Nat) (hc : c < n) : sv_wb f n ||| 2 ^ c = sv_wb (fun i => f i || decide (i = c)) n := by
  apply Nat.eq_of_testBit_eq
  intro i
  rw [Nat.testBit_or, sv_wb_bit, sv_wb_bit, Nat.testBit_two_pow]
  by_cases hi : i = c
  · subst hi; simp [hc]
  · simp [hi, show ¬ c = i from fun e => hi e.symm]
theorem sv_wb_add (f : Nat → Bool) (n : Nat) (h : f n = true) : sv_wb f n ||| 2 ^ n = sv_wb f (n + 1) := by
  simp only [sv_wb]
  rw [if_pos h]
  apply Nat.eq_of_testBit_eq
  intro i
  have hlt := sv_wb_lt f n
  have e := sv_wb_bit f i (n + 1)
  simp only [sv_wb] at e
  rw [if_pos h] at e
  rw [e, Nat.testBit_or, sv_wb_bit, Nat.testBit_two_pow]
  by_cases hi : i = n
  · subst hi; simp [h]
  · simp [show ¬ n = i from fun z => hi z.symm, show (i < n + 1) ↔ (i < n) by omega]
theorem sv_wb_un (f : Nat → Bool) (n : Nat) : ∀ m, sv_ct (fun i => (sv_wb f n).testBit i) m = sv_ct (fun i => decide (i < n) && f i) m := by
  intro m
  exact sv_ct_congr m (fun k _ => sv_wb_bit f k n)
/-! how many bits -/
def sv_bc (p0 : Int32) : Int32 :=
  let x1 := p0 - (((p0.toUInt32 >>> ((1 : Int32).toUInt32 &&& Int32.toUInt32 31)).toInt32) &&& (1431655765 : Int32))
  let x2 := (x1 &&& (858993459 : Int32)) + (((x1.toUInt32 >>> ((2 : Int32).toUInt32 &&& Int32.toUInt32 31)).toInt32) &&& (858993459 : Int32))
  let x3 := (x2 + ((x2.toUInt32 >>> ((4 : Int32).toUInt32 &&& Int32.toUInt32 31)).toInt32)) &&& (252645135 : Int32)
  let x4 := x3 + ((x3.toUInt32 >>> ((8 : Int32).toUInt32 &&& Int32.toUInt32 31)).toInt32)
  let x5 := x4 + ((x4.toUInt32 >>> ((16 : Int32).toUInt32 &&& Int32.toUInt32 31)).toInt32)
  x5 &&& (63 : Int32)
theorem sv_bc_64 : ∀ a, a < 64 → ∀ b, b < 64 → sv_bc (nI (64 * a + b)) = nI (sv_ct (fun i => (64 * a + b).testBit i) 12) := by decide +kernel
theorem sv_bc_ct (x : Nat) (hx : x < 4096) : sv_bc (nI x) = nI (sv_ct (fun i => x.testBit i) 12) := by
  have := sv_bc_64 (x / 64) (by omega) (x % 64) (by omega)
  rwa [Nat.div_add_mod] at this
theorem sv_s31 : ∀ n, n < 32 → ((nI n &&& 31).toBitVec.smod 32).toNat = n := by decide +kernel
/-- a bit of a small number -/
theorem sv_bit {x k : Nat} (hx : x < 2 ^ 31) (hk : k < 31) : (nI x >>> (nI k &&& 31)) &&& 1 = nI (if x.testBit k then 1 else 0) := by
  rw [pk_shrN hx _ k (sv_s31 k (by omega)), pk_andN (Nat.lt_of_le_of_lt (Nat.div_le_self _ _) (by omega)) (m := 1) 1 (by decide)]
  congr 1
  rw [Nat.testBit_eq_decide_div_mod_eq]
  have := Nat.mod_two_eq_zero_or_one (x / 2 ^ k)
  rcases this with h | h <;> simp [h]
theorem e6_bc (N : Nat) {x : Nat} (hx : x < 4096) (S : sw_St) : fJ6_bitCount_0f7a4 N (nI x) S = some (nI (sv_ct (fun i => x.testBit i) 12), S) := by
  rw [← sv_bc_ct x hx]
  rfl
theorem e9_bitsOf (N : Nat) (hN : 20 ≤ N) {x : Nat} (hx : x < 4096) (S : sw_St) : fX9_bitsOf N (nI x) S = some (nI (sv_ct (fun i => x.testBit i) 12), S) := by
  unfold fX9_bitsOf
  refine sv_fr2 (Q := fun t => t = some (nI (sv_ct (fun i => x.testBit i) 12), S)) (fun k a b T => a = nI (sv_ct (fun i => x.testBit i) k) ∧ b = nI k ∧ T = S) 12 ?_ ?_ N _ _ S (by omega) ⟨rfl, rfl, rfl⟩
  · rintro k a b T rec hk ⟨rfl, rfl, rfl⟩
    left
    rw [if_neg (show ¬ nI k ≥ (12 : Int32) from nI_ge hk (by decide)), sv_li, sv_bit (by omega) (by omega)]
    exact ⟨_, _, _, ⟨by rw [nI_add]; rfl, nI_1 k, rfl⟩, rfl⟩
  · rintro a b T rec ⟨rfl, rfl, rfl⟩
    rw [if_pos (show (12 : Int32) ≤ nI 12 from Int32.le_refl _)]
