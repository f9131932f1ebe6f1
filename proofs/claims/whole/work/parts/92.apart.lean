/-! lines: the most cots apart -/
def sv_E : List (Nat × Nat) := [(1, 0), (2, 1), (3, 2), (4, 3), (5, 4), (7, 6), (8, 7), (9, 8), (10, 9), (11, 10), (6, 0), (7, 1), (8, 2), (9, 3), (10, 4), (11, 5)]
def sv_apf (x : Int32) : Bool := decide ((x &&& (x >>> ((6 : Int32) &&& 31))) = 0) && decide (((x &&& (x >>> ((1 : Int32) &&& 31))) &&& ((32 : Int32) ^^^ (-1 : Int32))) = 0)
theorem sv_apf_64 : ∀ a, a < 64 → ∀ b, b < 64 → sv_apf (nI (64 * a + b)) = sv_E.all (fun e => !((64 * a + b).testBit e.1 && (64 * a + b).testBit e.2)) := by decide +kernel
theorem sv_E_bes : ∀ c, c < 12 → ∀ o, o < c → (sv_bes.getD c 0).testBit o = sv_E.any (fun e => e.1 == c && e.2 == o) := by decide +kernel
theorem sv_E_ok : ∀ e, e ∈ sv_E → e.1 < 12 ∧ e.2 < e.1 ∧ (sv_bes.getD e.1 0).testBit e.2 = true := by decide +kernel
