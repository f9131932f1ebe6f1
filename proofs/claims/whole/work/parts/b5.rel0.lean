/-! what holds between calls holds behind the constructors -/
theorem sc_rel : sv_rel sc_S0 := by
  have z : ∀ i, sc_cd i = 0 → ∀ k, sc_S0.1 i k = 0 := fun i h k => by rw [sc_z h]
  refine ⟨(0, fun _ _ => 0, fun j => if j = 1 then 10 else 0), fun a b c d e f => sv_k20 ((((a + (3 : Int32) * d) - b / (20 : Int32)) - (8 : Int32) * e) - (2 : Int32)), 0, ?_, ?_, ?_, ?_, ?_, ?_, ?_, ?_, ?_, ?_⟩
  · exact ⟨Nat.zero_le _, fun s h => absurd h (Nat.not_lt_zero s), fun s t h => absurd h (Nat.not_lt_zero s), by decide, by decide, by decide, fun _ _ => Nat.zero_le _, fun _ _ _ _ => rfl⟩
  · refine ⟨by decide +kernel, fun k s hk hs => ?_, fun j hj => ?_, fun c hc => ?_⟩
    · exact (show ∀ k, k < 5 → ∀ s, s < 10 → sc_S0.1 (1 + (1 + k)) s = nI 0 by decide +kernel) k hk s hs
    · exact (show ∀ j, j < 3 → sc_S0.1 1 (1 + j) = nI (if j = 1 then 10 else 0) by decide +kernel) j hj
    · rw [sv_lie_no (fun s h => absurd h (Nat.not_lt_zero s))]
      exact (show ∀ c, c < 12 → sc_S0.1 (1 + 6) c = -1 by decide +kernel) c hc
  · refine ⟨by decide +kernel, fun k s hk hs => ?_, fun j hj => ?_⟩
    · exact (show ∀ k, k < 5 → ∀ s, s < 10 → sc_S0.1 106 (10 * k + s) = nI 0 by decide +kernel) k hk s hs
    · exact (show ∀ j, j < 3 → sc_S0.1 106 (50 + j) = nI (if j = 1 then 10 else 0) by decide +kernel) j hj
  · intro T e1 e2 e3 N hN a b c d e f
    refine ⟨T, ?_, sv_ag_rf⟩
    unfold fX3_growth fX8_heldWithin
    rw [e1, show sc_S0.1 11 0 = 0 by decide +kernel, if_pos rfl, sv_bd, sv_k20_mx]
  · exact Or.inl ⟨by decide +kernel, fun _ _ _ _ _ _ => rfl⟩
  · exact ⟨0, 0, Nat.le_refl _, Nat.zero_le _, by decide +kernel, by decide +kernel, by decide +kernel, by decide +kernel, fun k hk => absurd hk (Nat.not_lt_zero k)⟩
  · exact ⟨0, Nat.zero_le _, by decide +kernel, by decide +kernel, fun k _ => ⟨by rw [z 110 (by decide +kernel), z 22 (by decide +kernel)], 0, Nat.zero_le _, by rw [z 22 (by decide +kernel)]; rfl⟩⟩
  · exact ⟨fun k _ => by rw [z 119 (by decide +kernel), z 85 (by decide +kernel)], Or.inl ⟨by decide +kernel, by decide +kernel⟩⟩
  · exact ⟨Nat.zero_le _, by decide +kernel, by decide +kernel, fun k hk => absurd hk (Nat.not_lt_zero k), 0, Nat.zero_le _, by decide +kernel, by decide +kernel, fun k _ hk => absurd hk (Nat.not_lt_zero k)⟩
  · intro d hd
    exact Or.inl ((show ∀ d, d < 6 → sc_S0.1 (93 + 2 * d) 4 = 0 ∧ sc_S0.1 124 d = -1 by decide +kernel) d hd)
