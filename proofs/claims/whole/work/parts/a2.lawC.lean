/-! the law's own rows: its script, its ends -/
abbrev sw_SL : Nat := 3749
/-- what the law's walk comes to, where its start is as the claim has it -/
def sw_hy (G : sw_G) (b L : Nat) (xs : Nat → Int32) (v : Int32) (s : State) (args : Array Value) : Prop := args = #[Value.ref b] ∧ va_X b L xs s s.heap ∧ b < s.heap.size ∧ s.heap.size = sw_B G ∧ v = 1
def sw_Zl (G : sw_G) (b L : Nat) (xs : Nat → Int32) : Int32 → sw_St → State → Array Value → List Frame → State → Prop := fun v _ s args below t => sw_hy G b L xs v s args → lw_Z below args s t
theorem sw_fit_l {n : Nat} (h : n ≤ 21) : sw_fit room_1 128 sw_SL n 1000 := by
  refine ⟨Nat.le_of_ble_eq_true rfl, ?_, Nat.le_of_ble_eq_true rfl, Nat.le_of_ble_eq_true rfl⟩
  show 19 + n + 40 * 1000 ≤ 84000
  omega
theorem sw_nfr {G : sw_G} {b n : Nat} (h1 : b < n) (h2 : n = sw_B G) : ¬ sw_fr G b := by
  unfold sw_fr
  omega
section SWM
variable {G : sw_G} {own : String} {cc : ByteArray} {nL : Nat} {rt : Option FieldType} {R : Room} {ce sl b L : Nat} {xs : Nat → Int32} {pc np : Nat} {lv : List (Option Value)} {st : List Value} {S : sw_St} {tg : Option (Int32 × sw_St)}
theorem sw_sld {i : Int32} (hd : decode cc pc = .ok (.iaload, 1)) (hn : pc + 1 = np) (k : sw_Rn G own cc nL rt R ce sl (sw_Zl G b L xs) np lv (.int (xs i.toNatClampNeg) :: st) S tg) : sw_Rn G own cc nL rt R ce sl (sw_Zl G b L xs) pc lv (.int i :: .ref b :: st) S (sw_gd (sw_in i L) tg) := by
  subst hn
  intro x hx p e s m args below meth c C H locs ls hP hS hl
  obtain ⟨h1, h2⟩ := sw_gd_some hx
  by_cases hyp : sw_hy G b L xs x.1 s args
  · exact va_sld C.1 C.2.1 hyp.2.1 hyp.2.2.1 (sw_nfr hyp.2.2.1 hyp.2.2.2.1) hS (sw_in_vp h1) hd (k x h2 p e s m args below meth c C H locs ls hP hS hl)
  · intro T hT X
    exact ⟨_, Steps.refl _, fun z => absurd z hyp⟩
theorem sw_slen (hd : decode cc pc = .ok (.arraylength, 1)) (hn : pc + 1 = np) (k : sw_Rn G own cc nL rt R ce sl (sw_Zl G b L xs) np lv (.int (Int32.ofNat L) :: st) S tg) : sw_Rn G own cc nL rt R ce sl (sw_Zl G b L xs) pc lv (.ref b :: st) S tg := by
  subst hn
  intro x hx p e s m args below meth c C H locs ls hP hS hl
  by_cases hyp : sw_hy G b L xs x.1 s args
  · exact va_slen C.1 C.2.1 hyp.2.1 hyp.2.2.1 (sw_nfr hyp.2.2.1 hyp.2.2.2.1) hS hd (k x hx p e s m args below meth c C H locs ls hP hS hl)
  · intro T hT X
    exact ⟨_, Steps.refl _, fun z => absurd z hyp⟩
theorem sw_ret0 (hd : decode cc pc = .ok (.ireturn, 1)) : sw_Rn G own cc nL rt R ce sl (sw_Zl G b L xs) pc lv [.int (0 : Int32)] S (some ((0 : Int32), S)) := by
  intro x hx p e s m args below meth c C H locs ls hP hS hl
  cases hx
  intro T hT X
  exact ⟨_, Steps.refl _, fun z => absurd z.2.2.2.2 (show ¬ (0 : Int32) = 1 by decide)⟩
theorem sw_ret1 (hd : decode cL_law pc = .ok (.ireturn, 1)) : sw_Rn G own cL_law nL ret room_1 128 sw_SL (sw_Zl G b L xs) pc lv [.int (1 : Int32)] S (some ((1 : Int32), S)) := by
  intro x hx p e s m args below meth c C H locs ls hP hS hl
  cases hx
  by_cases hyp : sw_hy G b L xs 1 s args
  · obtain ⟨ha, -, -, hB, -⟩ := id hyp
    subst ha
    have hW : W p (sw_l G) e room_1 s m #[Value.ref b] below meth c H locs 128 sw_SL (lw_Z below #[Value.ref b] s) (F0 m pc ls [.int 1]) := by
      refine va_forget (fun q hq => ?_) ?_
      · have := hS.2.2 q hq
        unfold sw_fr at this
        rw [hB]
        exact this.1
      · refine W.widen (k := 600000) (n := 7302249) (Nat.le_of_ble_eq_true rfl) (Nat.le_of_ble_eq_true rfl) ?_
        exact lw_ret C.1 C.2.1 C.2.2.1 C.2.2.2.2.2.2.1 hd
    intro T hT X
    obtain ⟨t, a, q⟩ := hW T hT X
    exact ⟨t, a, fun _ => q⟩
  · intro T hT X
    exact ⟨_, Steps.refl _, fun z => absurd z hyp⟩
end SWM
