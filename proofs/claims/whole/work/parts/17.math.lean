/-! Math.max, min and abs -/
def sw_mx (a b : Int32) : Int32 := if a < b then b else a
def sw_mn (a b : Int32) : Int32 := if b < a then b else a
def sw_ab (a : Int32) : Int32 := if 0 ≤ a then a else 0 - a
def sw_mth (y : MethodName) (cc : ByteArray) (n : Nat) : Prop := Cond.static y ∈ sw_wd ∧ Cond.initialized "java/lang/Math" ∈ sw_wd ∧ Cond.code y cc n (some .int) ∈ sw_wd
section SW7
variable {α : Type} {G : sw_G} {own : String} {cc : ByteArray} {nL : Nat} {rt : Option FieldType} {R : Room} {ce sl : Nat} {Zf : α → sw_St → State → Array Value → List Frame → State → Prop} {pc np : Nat} {lv : List (Option Value)} {st : List Value} {S : sw_St} {tg : Option (α × sw_St)}
theorem sw_mmax {a b : Int32} {index : Nat} (hm : sw_mth Lib.Math.max.name Lib.Math.max.code 2) (hw : Cond.methodLink own index Lib.Math.max.name ∈ sw_wd) (hfr : 1 ≤ R.frames) (hlo : (st.map fun v => v.category).sum + 18 ≤ R.locals) (hc : ce ≤ R.cells) (hs : sl ≤ R.slots) (hd : decode cc pc = .ok (.invokestatic index, 3)) (hn : pc + 3 = np) (k : sw_Rn G own cc nL rt R ce sl Zf np lv (.int (sw_mx a b) :: st) S tg) : sw_Rn G own cc nL rt R ce sl Zf pc lv (.int b :: .int a :: st) S tg := by
  subst hn
  intro x hx p e s m args below meth c C H locs ls hP hS hl
  have hw' := C.2.2.2.2.2.1
  exact va_mmax C.1 C.2.1 (C.2.2.2.1.trans hl.1.symm) C.2.2.2.2.1 (hw' _ hw) (hw' _ hm.1) (hw' _ hm.2.1) (hw' _ hm.2.2) hfr (by omega) hc hs hd (k x hx p e s m args below meth c C H locs ls hP hS hl)
theorem sw_mmin {a b : Int32} {index : Nat} (hm : sw_mth Lib.Math.min.name Lib.Math.min.code 2) (hw : Cond.methodLink own index Lib.Math.min.name ∈ sw_wd) (hfr : 1 ≤ R.frames) (hlo : (st.map fun v => v.category).sum + 18 ≤ R.locals) (hc : ce ≤ R.cells) (hs : sl ≤ R.slots) (hd : decode cc pc = .ok (.invokestatic index, 3)) (hn : pc + 3 = np) (k : sw_Rn G own cc nL rt R ce sl Zf np lv (.int (sw_mn a b) :: st) S tg) : sw_Rn G own cc nL rt R ce sl Zf pc lv (.int b :: .int a :: st) S tg := by
  subst hn
  intro x hx p e s m args below meth c C H locs ls hP hS hl
  have hw' := C.2.2.2.2.2.1
  exact va_mmin C.1 C.2.1 (C.2.2.2.1.trans hl.1.symm) C.2.2.2.2.1 (hw' _ hw) (hw' _ hm.1) (hw' _ hm.2.1) (hw' _ hm.2.2) hfr (by omega) hc hs hd (k x hx p e s m args below meth c C H locs ls hP hS hl)
theorem sw_mabs {a : Int32} {index : Nat} (hm : sw_mth Lib.Math.abs.name Lib.Math.abs.code 1) (hw : Cond.methodLink own index Lib.Math.abs.name ∈ sw_wd) (hfr : 1 ≤ R.frames) (hlo : (st.map fun v => v.category).sum + 18 ≤ R.locals) (hc : ce ≤ R.cells) (hs : sl ≤ R.slots) (hd : decode cc pc = .ok (.invokestatic index, 3)) (hn : pc + 3 = np) (k : sw_Rn G own cc nL rt R ce sl Zf np lv (.int (sw_ab a) :: st) S tg) : sw_Rn G own cc nL rt R ce sl Zf pc lv (.int a :: st) S tg := by
  subst hn
  intro x hx p e s m args below meth c C H locs ls hP hS hl
  have hw' := C.2.2.2.2.2.1
  exact va_mabs C.1 C.2.1 (C.2.2.2.1.trans hl.1.symm) C.2.2.2.2.1 (hw' _ hw) (hw' _ hm.1) (hw' _ hm.2.1) (hw' _ hm.2.2) hfr (by omega) hc hs hd (k x hx p e s m args below meth c C H locs ls hP hS hl)
end SW7
