section SW2
variable {α : Type} {G : sw_G} {own : String} {cc : ByteArray} {nL : Nat} {rt : Option FieldType} {R : Room} {ce sl : Nat} {Zf : α → sw_St → State → Array Value → List Frame → State → Prop} {pc np : Nat} {lv lv' : List (Option Value)} {st : List Value} {S : sw_St} {tg tg2 : Option (α × sw_St)}
theorem sw_iadd {a b : Int32} (hd : decode cc pc = .ok (.iadd, 1)) (hn : pc + 1 = np) (k : sw_Rn G own cc nL rt R ce sl Zf np lv (.int (a + b) :: st) S tg) : sw_Rn G own cc nL rt R ce sl Zf pc lv (.int b :: .int a :: st) S tg := by
  subst hn
  intro x hx p e s m args below meth c C H locs ls hP hS hl
  exact lv_iadd C.1 C.2.1 hd (k x hx p e s m args below meth c C H locs ls hP hS hl)
theorem sw_isub {a b : Int32} (hd : decode cc pc = .ok (.isub, 1)) (hn : pc + 1 = np) (k : sw_Rn G own cc nL rt R ce sl Zf np lv (.int (a - b) :: st) S tg) : sw_Rn G own cc nL rt R ce sl Zf pc lv (.int b :: .int a :: st) S tg := by
  subst hn
  intro x hx p e s m args below meth c C H locs ls hP hS hl
  exact lv_isub C.1 C.2.1 hd (k x hx p e s m args below meth c C H locs ls hP hS hl)
theorem sw_imul {a b : Int32} (hd : decode cc pc = .ok (.imul, 1)) (hn : pc + 1 = np) (k : sw_Rn G own cc nL rt R ce sl Zf np lv (.int (a * b) :: st) S tg) : sw_Rn G own cc nL rt R ce sl Zf pc lv (.int b :: .int a :: st) S tg := by
  subst hn
  intro x hx p e s m args below meth c C H locs ls hP hS hl
  exact lv_imul C.1 C.2.1 hd (k x hx p e s m args below meth c C H locs ls hP hS hl)
theorem sw_iand {a b : Int32} (hd : decode cc pc = .ok (.iand, 1)) (hn : pc + 1 = np) (k : sw_Rn G own cc nL rt R ce sl Zf np lv (.int (a &&& b) :: st) S tg) : sw_Rn G own cc nL rt R ce sl Zf pc lv (.int b :: .int a :: st) S tg := by
  subst hn
  intro x hx p e s m args below meth c C H locs ls hP hS hl
  exact lv_iand C.1 C.2.1 hd (k x hx p e s m args below meth c C H locs ls hP hS hl)
theorem sw_ior {a b : Int32} (hd : decode cc pc = .ok (.ior, 1)) (hn : pc + 1 = np) (k : sw_Rn G own cc nL rt R ce sl Zf np lv (.int (a ||| b) :: st) S tg) : sw_Rn G own cc nL rt R ce sl Zf pc lv (.int b :: .int a :: st) S tg := by
  subst hn
  intro x hx p e s m args below meth c C H locs ls hP hS hl
  exact lv_ior C.1 C.2.1 hd (k x hx p e s m args below meth c C H locs ls hP hS hl)
theorem sw_ixor {a b : Int32} (hd : decode cc pc = .ok (.ixor, 1)) (hn : pc + 1 = np) (k : sw_Rn G own cc nL rt R ce sl Zf np lv (.int (a ^^^ b) :: st) S tg) : sw_Rn G own cc nL rt R ce sl Zf pc lv (.int b :: .int a :: st) S tg := by
  subst hn
  intro x hx p e s m args below meth c C H locs ls hP hS hl
  exact lv_ixor C.1 C.2.1 hd (k x hx p e s m args below meth c C H locs ls hP hS hl)
theorem sw_ishl {a b : Int32} (hd : decode cc pc = .ok (.ishl, 1)) (hn : pc + 1 = np) (k : sw_Rn G own cc nL rt R ce sl Zf np lv (.int (a <<< (b &&& 31)) :: st) S tg) : sw_Rn G own cc nL rt R ce sl Zf pc lv (.int b :: .int a :: st) S tg := by
  subst hn
  intro x hx p e s m args below meth c C H locs ls hP hS hl
  exact lv_ishl C.1 C.2.1 hd (k x hx p e s m args below meth c C H locs ls hP hS hl)
theorem sw_ishr {a b : Int32} (hd : decode cc pc = .ok (.ishr, 1)) (hn : pc + 1 = np) (k : sw_Rn G own cc nL rt R ce sl Zf np lv (.int (a >>> (b &&& 31)) :: st) S tg) : sw_Rn G own cc nL rt R ce sl Zf pc lv (.int b :: .int a :: st) S tg := by
  subst hn
  intro x hx p e s m args below meth c C H locs ls hP hS hl
  exact lv_ishr C.1 C.2.1 hd (k x hx p e s m args below meth c C H locs ls hP hS hl)
theorem sw_iushr {a b : Int32} (hd : decode cc pc = .ok (.iushr, 1)) (hn : pc + 1 = np) (k : sw_Rn G own cc nL rt R ce sl Zf np lv (.int ((a.toUInt32 >>> (b.toUInt32 &&& Int32.toUInt32 31)).toInt32) :: st) S tg) : sw_Rn G own cc nL rt R ce sl Zf pc lv (.int b :: .int a :: st) S tg := by
  subst hn
  intro x hx p e s m args below meth c C H locs ls hP hS hl
  exact lv_iushr C.1 C.2.1 hd rfl (k x hx p e s m args below meth c C H locs ls hP hS hl)
theorem sw_ineg {a : Int32} (hd : decode cc pc = .ok (.ineg, 1)) (hn : pc + 1 = np) (k : sw_Rn G own cc nL rt R ce sl Zf np lv (.int (-a) :: st) S tg) : sw_Rn G own cc nL rt R ce sl Zf pc lv (.int a :: st) S tg := by
  subst hn
  intro x hx p e s m args below meth c C H locs ls hP hS hl
  exact lv_ineg C.1 C.2.1 hd (k x hx p e s m args below meth c C H locs ls hP hS hl)
theorem sw_ladd {a b : Int64} (hd : decode cc pc = .ok (.ladd, 1)) (hn : pc + 1 = np) (k : sw_Rn G own cc nL rt R ce sl Zf np lv (.long (a + b) :: st) S tg) : sw_Rn G own cc nL rt R ce sl Zf pc lv (.long b :: .long a :: st) S tg := by
  subst hn
  intro x hx p e s m args below meth c C H locs ls hP hS hl
  exact lv_ladd C.1 C.2.1 hd (k x hx p e s m args below meth c C H locs ls hP hS hl)
theorem sw_land {a b : Int64} (hd : decode cc pc = .ok (.land, 1)) (hn : pc + 1 = np) (k : sw_Rn G own cc nL rt R ce sl Zf np lv (.long (a &&& b) :: st) S tg) : sw_Rn G own cc nL rt R ce sl Zf pc lv (.long b :: .long a :: st) S tg := by
  subst hn
  intro x hx p e s m args below meth c C H locs ls hP hS hl
  exact lv_land C.1 C.2.1 hd (k x hx p e s m args below meth c C H locs ls hP hS hl)
theorem sw_lor {a b : Int64} (hd : decode cc pc = .ok (.lor, 1)) (hn : pc + 1 = np) (k : sw_Rn G own cc nL rt R ce sl Zf np lv (.long (a ||| b) :: st) S tg) : sw_Rn G own cc nL rt R ce sl Zf pc lv (.long b :: .long a :: st) S tg := by
  subst hn
  intro x hx p e s m args below meth c C H locs ls hP hS hl
  exact lv_lor C.1 C.2.1 hd (k x hx p e s m args below meth c C H locs ls hP hS hl)
theorem sw_lshl {a : Int64} {b : Int32} (hd : decode cc pc = .ok (.lshl, 1)) (hn : pc + 1 = np) (k : sw_Rn G own cc nL rt R ce sl Zf np lv (.long (a <<< (b.toInt64 &&& 63)) :: st) S tg) : sw_Rn G own cc nL rt R ce sl Zf pc lv (.int b :: .long a :: st) S tg := by
  subst hn
  intro x hx p e s m args below meth c C H locs ls hP hS hl
  exact lv_lshl C.1 C.2.1 hd rfl (k x hx p e s m args below meth c C H locs ls hP hS hl)
theorem sw_i2l {a : Int32} (hd : decode cc pc = .ok (.i2l, 1)) (hn : pc + 1 = np) (k : sw_Rn G own cc nL rt R ce sl Zf np lv (.long a.toInt64 :: st) S tg) : sw_Rn G own cc nL rt R ce sl Zf pc lv (.int a :: st) S tg := by
  subst hn
  intro x hx p e s m args below meth c C H locs ls hP hS hl
  exact lv_i2l C.1 C.2.1 hd rfl (k x hx p e s m args below meth c C H locs ls hP hS hl)
theorem sw_l2i {a : Int64} (hd : decode cc pc = .ok (.l2i, 1)) (hn : pc + 1 = np) (k : sw_Rn G own cc nL rt R ce sl Zf np lv (.int a.toInt32 :: st) S tg) : sw_Rn G own cc nL rt R ce sl Zf pc lv (.long a :: st) S tg := by
  subst hn
  intro x hx p e s m args below meth c C H locs ls hP hS hl
  exact lv_l2i C.1 C.2.1 hd rfl (k x hx p e s m args below meth c C H locs ls hP hS hl)
theorem sw_i2b {a : Int32} (hd : decode cc pc = .ok (.i2b, 1)) (hn : pc + 1 = np) (k : sw_Rn G own cc nL rt R ce sl Zf np lv (.int a.toInt8.toInt32 :: st) S tg) : sw_Rn G own cc nL rt R ce sl Zf pc lv (.int a :: st) S tg := by
  subst hn
  intro x hx p e s m args below meth c C H locs ls hP hS hl
  exact lv_i2b C.1 C.2.1 hd rfl (k x hx p e s m args below meth c C H locs ls hP hS hl)
theorem sw_i2s {a : Int32} (hd : decode cc pc = .ok (.i2s, 1)) (hn : pc + 1 = np) (k : sw_Rn G own cc nL rt R ce sl Zf np lv (.int a.toInt16.toInt32 :: st) S tg) : sw_Rn G own cc nL rt R ce sl Zf pc lv (.int a :: st) S tg := by
  subst hn
  intro x hx p e s m args below meth c C H locs ls hP hS hl
  exact lv_i2s C.1 C.2.1 hd rfl (k x hx p e s m args below meth c C H locs ls hP hS hl)
theorem sw_lcmp {a b : Int64} (hd : decode cc pc = .ok (.lcmp, 1)) (hn : pc + 1 = np) (k : sw_Rn G own cc nL rt R ce sl Zf np lv (.int (lg_cmp a b) :: st) S tg) : sw_Rn G own cc nL rt R ce sl Zf pc lv (.long b :: .long a :: st) S tg := by
  subst hn
  intro x hx p e s m args below meth c C H locs ls hP hS hl
  exact W.lcmp C.1 C.2.1 hd (k x hx p e s m args below meth c C H locs ls hP hS hl)
theorem sw_pop {v : Value} (hd : decode cc pc = .ok (.pop, 1)) (hv : v.category = 1) (hn : pc + 1 = np) (k : sw_Rn G own cc nL rt R ce sl Zf np lv (st) S tg) : sw_Rn G own cc nL rt R ce sl Zf pc lv (v :: st) S tg := by
  subst hn
  intro x hx p e s m args below meth c C H locs ls hP hS hl
  exact lv_pop C.1 C.2.1 hd hv (k x hx p e s m args below meth c C H locs ls hP hS hl)
theorem sw_dup {v : Value} (hd : decode cc pc = .ok (.dup, 1)) (hv : v.category = 1) (hn : pc + 1 = np) (k : sw_Rn G own cc nL rt R ce sl Zf np lv (v :: v :: st) S tg) : sw_Rn G own cc nL rt R ce sl Zf pc lv (v :: st) S tg := by
  subst hn
  intro x hx p e s m args below meth c C H locs ls hP hS hl
  exact lv_dup C.1 C.2.1 hd hv (k x hx p e s m args below meth c C H locs ls hP hS hl)
theorem sw_dup_x1 {v w : Value} (hd : decode cc pc = .ok (.dup_x1, 1)) (hv : v.category = 1) (hw : w.category = 1) (hn : pc + 1 = np) (k : sw_Rn G own cc nL rt R ce sl Zf np lv (v :: w :: v :: st) S tg) : sw_Rn G own cc nL rt R ce sl Zf pc lv (v :: w :: st) S tg := by
  subst hn
  intro x hx p e s m args below meth c C H locs ls hP hS hl
  exact lv_dup_x1 C.1 C.2.1 hd hv hw (k x hx p e s m args below meth c C H locs ls hP hS hl)
theorem sw_dup2 {v w : Value} (hd : decode cc pc = .ok (.dup2, 1)) (hv : v.category = 1) (hw : w.category = 1) (hn : pc + 1 = np) (k : sw_Rn G own cc nL rt R ce sl Zf np lv (v :: w :: v :: w :: st) S tg) : sw_Rn G own cc nL rt R ce sl Zf pc lv (v :: w :: st) S tg := by
  subst hn
  intro x hx p e s m args below meth c C H locs ls hP hS hl
  exact lv_dup2_11 C.1 C.2.1 hd hv hw (k x hx p e s m args below meth c C H locs ls hP hS hl)
theorem sw_idiv {a b : Int32} (hd : decode cc pc = .ok (.idiv, 1)) (hb : ¬ b = 0) (hn : pc + 1 = np) (k : sw_Rn G own cc nL rt R ce sl Zf np lv (.int (a / b) :: st) S tg) : sw_Rn G own cc nL rt R ce sl Zf pc lv (.int b :: .int a :: st) S tg := by
  subst hn
  intro x hx p e s m args below meth c C H locs ls hP hS hl
  exact lv_idiv C.1 C.2.1 hd hb (k x hx p e s m args below meth c C H locs ls hP hS hl)
theorem sw_irem {a b : Int32} (hd : decode cc pc = .ok (.irem, 1)) (hb : ¬ b = 0) (hn : pc + 1 = np) (k : sw_Rn G own cc nL rt R ce sl Zf np lv (.int (a - a / b * b) :: st) S tg) : sw_Rn G own cc nL rt R ce sl Zf pc lv (.int b :: .int a :: st) S tg := by
  subst hn
  intro x hx p e s m args below meth c C H locs ls hP hS hl
  exact lv_irem C.1 C.2.1 hd hb (k x hx p e s m args below meth c C H locs ls hP hS hl)
theorem sw_idivG {a b : Int32} (hd : decode cc pc = .ok (.idiv, 1)) (hn : pc + 1 = np) (k : sw_Rn G own cc nL rt R ce sl Zf np lv (.int (a / b) :: st) S tg) : sw_Rn G own cc nL rt R ce sl Zf pc lv (.int b :: .int a :: st) S (sw_gd (!decide (b = 0)) tg) := by
  intro x hx
  obtain ⟨h1, h2⟩ := sw_gd_some hx
  have h1 : ¬ b = 0 := by simpa using h1
  exact sw_idiv hd h1 hn k x h2
theorem sw_iremG {a b : Int32} (hd : decode cc pc = .ok (.irem, 1)) (hn : pc + 1 = np) (k : sw_Rn G own cc nL rt R ce sl Zf np lv (.int (a - a / b * b) :: st) S tg) : sw_Rn G own cc nL rt R ce sl Zf pc lv (.int b :: .int a :: st) S (sw_gd (!decide (b = 0)) tg) := by
  intro x hx
  obtain ⟨h1, h2⟩ := sw_gd_some hx
  have h1 : ¬ b = 0 := by simpa using h1
  exact sw_irem hd h1 hn k x h2
theorem sw_if_eq {a : Int32} {off : Int} {tp : Nat} (hd : decode cc pc = .ok (.ifCond .eq off, 3)) (ht : (pc : Int) + off = (tp : Int)) (hn : pc + 3 = np) (kt : sw_Rn G own cc nL rt R ce sl Zf tp lv st S tg) (kf : sw_Rn G own cc nL rt R ce sl Zf np lv st S tg2) : sw_Rn G own cc nL rt R ce sl Zf pc lv (.int a :: st) S (if a = 0 then tg else tg2) := by
  subst hn
  intro x hx p e s m args below meth c C H locs ls hP hS hl
  exact lv_if_eq C.1 C.2.1 hd ht (fun h => kt x (by rw [if_pos h] at hx; exact hx) p e s m args below meth c C H locs ls hP hS hl) (fun h => kf x (by rw [if_neg h] at hx; exact hx) p e s m args below meth c C H locs ls hP hS hl)
theorem sw_if_lt {a : Int32} {off : Int} {tp : Nat} (hd : decode cc pc = .ok (.ifCond .lt off, 3)) (ht : (pc : Int) + off = (tp : Int)) (hn : pc + 3 = np) (kt : sw_Rn G own cc nL rt R ce sl Zf tp lv st S tg) (kf : sw_Rn G own cc nL rt R ce sl Zf np lv st S tg2) : sw_Rn G own cc nL rt R ce sl Zf pc lv (.int a :: st) S (if a < 0 then tg else tg2) := by
  subst hn
  intro x hx p e s m args below meth c C H locs ls hP hS hl
  exact lv_if_lt C.1 C.2.1 hd ht (fun h => kt x (by rw [if_pos h] at hx; exact hx) p e s m args below meth c C H locs ls hP hS hl) (fun h => kf x (by rw [if_neg h] at hx; exact hx) p e s m args below meth c C H locs ls hP hS hl)
theorem sw_if_ge {a : Int32} {off : Int} {tp : Nat} (hd : decode cc pc = .ok (.ifCond .ge off, 3)) (ht : (pc : Int) + off = (tp : Int)) (hn : pc + 3 = np) (kt : sw_Rn G own cc nL rt R ce sl Zf tp lv st S tg) (kf : sw_Rn G own cc nL rt R ce sl Zf np lv st S tg2) : sw_Rn G own cc nL rt R ce sl Zf pc lv (.int a :: st) S (if a ≥ 0 then tg else tg2) := by
  subst hn
  intro x hx p e s m args below meth c C H locs ls hP hS hl
  exact lv_if_ge C.1 C.2.1 hd ht (fun h => kt x (by rw [if_pos h] at hx; exact hx) p e s m args below meth c C H locs ls hP hS hl) (fun h => kf x (by rw [if_neg h] at hx; exact hx) p e s m args below meth c C H locs ls hP hS hl)
theorem sw_if_gt {a : Int32} {off : Int} {tp : Nat} (hd : decode cc pc = .ok (.ifCond .gt off, 3)) (ht : (pc : Int) + off = (tp : Int)) (hn : pc + 3 = np) (kt : sw_Rn G own cc nL rt R ce sl Zf tp lv st S tg) (kf : sw_Rn G own cc nL rt R ce sl Zf np lv st S tg2) : sw_Rn G own cc nL rt R ce sl Zf pc lv (.int a :: st) S (if a > 0 then tg else tg2) := by
  subst hn
  intro x hx p e s m args below meth c C H locs ls hP hS hl
  exact lv_if_gt C.1 C.2.1 hd ht (fun h => kt x (by rw [if_pos h] at hx; exact hx) p e s m args below meth c C H locs ls hP hS hl) (fun h => kf x (by rw [if_neg h] at hx; exact hx) p e s m args below meth c C H locs ls hP hS hl)
theorem sw_if_le {a : Int32} {off : Int} {tp : Nat} (hd : decode cc pc = .ok (.ifCond .le off, 3)) (ht : (pc : Int) + off = (tp : Int)) (hn : pc + 3 = np) (kt : sw_Rn G own cc nL rt R ce sl Zf tp lv st S tg) (kf : sw_Rn G own cc nL rt R ce sl Zf np lv st S tg2) : sw_Rn G own cc nL rt R ce sl Zf pc lv (.int a :: st) S (if a ≤ 0 then tg else tg2) := by
  subst hn
  intro x hx p e s m args below meth c C H locs ls hP hS hl
  exact lv_if_le C.1 C.2.1 hd ht (fun h => kt x (by rw [if_pos h] at hx; exact hx) p e s m args below meth c C H locs ls hP hS hl) (fun h => kf x (by rw [if_neg h] at hx; exact hx) p e s m args below meth c C H locs ls hP hS hl)
theorem sw_icmp_eq {a b : Int32} {off : Int} {tp : Nat} (hd : decode cc pc = .ok (.if_icmp .eq off, 3)) (ht : (pc : Int) + off = (tp : Int)) (hn : pc + 3 = np) (kt : sw_Rn G own cc nL rt R ce sl Zf tp lv st S tg) (kf : sw_Rn G own cc nL rt R ce sl Zf np lv st S tg2) : sw_Rn G own cc nL rt R ce sl Zf pc lv (.int b :: .int a :: st) S (if a = b then tg else tg2) := by
  subst hn
  intro x hx p e s m args below meth c C H locs ls hP hS hl
  exact lv_icmp_eq C.1 C.2.1 hd ht (fun h => kt x (by rw [if_pos h] at hx; exact hx) p e s m args below meth c C H locs ls hP hS hl) (fun h => kf x (by rw [if_neg h] at hx; exact hx) p e s m args below meth c C H locs ls hP hS hl)
theorem sw_icmp_lt {a b : Int32} {off : Int} {tp : Nat} (hd : decode cc pc = .ok (.if_icmp .lt off, 3)) (ht : (pc : Int) + off = (tp : Int)) (hn : pc + 3 = np) (kt : sw_Rn G own cc nL rt R ce sl Zf tp lv st S tg) (kf : sw_Rn G own cc nL rt R ce sl Zf np lv st S tg2) : sw_Rn G own cc nL rt R ce sl Zf pc lv (.int b :: .int a :: st) S (if a < b then tg else tg2) := by
  subst hn
  intro x hx p e s m args below meth c C H locs ls hP hS hl
  exact lv_icmp_lt C.1 C.2.1 hd ht (fun h => kt x (by rw [if_pos h] at hx; exact hx) p e s m args below meth c C H locs ls hP hS hl) (fun h => kf x (by rw [if_neg h] at hx; exact hx) p e s m args below meth c C H locs ls hP hS hl)
theorem sw_icmp_ge {a b : Int32} {off : Int} {tp : Nat} (hd : decode cc pc = .ok (.if_icmp .ge off, 3)) (ht : (pc : Int) + off = (tp : Int)) (hn : pc + 3 = np) (kt : sw_Rn G own cc nL rt R ce sl Zf tp lv st S tg) (kf : sw_Rn G own cc nL rt R ce sl Zf np lv st S tg2) : sw_Rn G own cc nL rt R ce sl Zf pc lv (.int b :: .int a :: st) S (if a ≥ b then tg else tg2) := by
  subst hn
  intro x hx p e s m args below meth c C H locs ls hP hS hl
  exact lv_icmp_ge C.1 C.2.1 hd ht (fun h => kt x (by rw [if_pos h] at hx; exact hx) p e s m args below meth c C H locs ls hP hS hl) (fun h => kf x (by rw [if_neg h] at hx; exact hx) p e s m args below meth c C H locs ls hP hS hl)
theorem sw_icmp_gt {a b : Int32} {off : Int} {tp : Nat} (hd : decode cc pc = .ok (.if_icmp .gt off, 3)) (ht : (pc : Int) + off = (tp : Int)) (hn : pc + 3 = np) (kt : sw_Rn G own cc nL rt R ce sl Zf tp lv st S tg) (kf : sw_Rn G own cc nL rt R ce sl Zf np lv st S tg2) : sw_Rn G own cc nL rt R ce sl Zf pc lv (.int b :: .int a :: st) S (if a > b then tg else tg2) := by
  subst hn
  intro x hx p e s m args below meth c C H locs ls hP hS hl
  exact lv_icmp_gt C.1 C.2.1 hd ht (fun h => kt x (by rw [if_pos h] at hx; exact hx) p e s m args below meth c C H locs ls hP hS hl) (fun h => kf x (by rw [if_neg h] at hx; exact hx) p e s m args below meth c C H locs ls hP hS hl)
theorem sw_icmp_le {a b : Int32} {off : Int} {tp : Nat} (hd : decode cc pc = .ok (.if_icmp .le off, 3)) (ht : (pc : Int) + off = (tp : Int)) (hn : pc + 3 = np) (kt : sw_Rn G own cc nL rt R ce sl Zf tp lv st S tg) (kf : sw_Rn G own cc nL rt R ce sl Zf np lv st S tg2) : sw_Rn G own cc nL rt R ce sl Zf pc lv (.int b :: .int a :: st) S (if a ≤ b then tg else tg2) := by
  subst hn
  intro x hx p e s m args below meth c C H locs ls hP hS hl
  exact lv_icmp_le C.1 C.2.1 hd ht (fun h => kt x (by rw [if_pos h] at hx; exact hx) p e s m args below meth c C H locs ls hP hS hl) (fun h => kf x (by rw [if_neg h] at hx; exact hx) p e s m args below meth c C H locs ls hP hS hl)
theorem sw_if_ne {a : Int32} {off : Int} {tp : Nat} (hd : decode cc pc = .ok (.ifCond .ne off, 3)) (ht : (pc : Int) + off = (tp : Int)) (hn : pc + 3 = np) (kt : sw_Rn G own cc nL rt R ce sl Zf tp lv st S tg) (kf : sw_Rn G own cc nL rt R ce sl Zf np lv st S tg2) : sw_Rn G own cc nL rt R ce sl Zf pc lv (.int a :: st) S (if a = 0 then tg2 else tg) := by
  subst hn
  intro x hx p e s m args below meth c C H locs ls hP hS hl
  exact lv_if_ne C.1 C.2.1 hd ht (fun h => kt x (by rw [if_neg h] at hx; exact hx) p e s m args below meth c C H locs ls hP hS hl) (fun h => kf x (by rw [if_pos h] at hx; exact hx) p e s m args below meth c C H locs ls hP hS hl)
theorem sw_icmp_ne {a b : Int32} {off : Int} {tp : Nat} (hd : decode cc pc = .ok (.if_icmp .ne off, 3)) (ht : (pc : Int) + off = (tp : Int)) (hn : pc + 3 = np) (kt : sw_Rn G own cc nL rt R ce sl Zf tp lv st S tg) (kf : sw_Rn G own cc nL rt R ce sl Zf np lv st S tg2) : sw_Rn G own cc nL rt R ce sl Zf pc lv (.int b :: .int a :: st) S (if a = b then tg2 else tg) := by
  subst hn
  intro x hx p e s m args below meth c C H locs ls hP hS hl
  exact lv_icmp_ne C.1 C.2.1 hd ht (fun h => kt x (by rw [if_neg h] at hx; exact hx) p e s m args below meth c C H locs ls hP hS hl) (fun h => kf x (by rw [if_pos h] at hx; exact hx) p e s m args below meth c C H locs ls hP hS hl)
theorem sw_goto {off : Int} {tp : Nat} (hd : decode cc pc = .ok (.goto off, 3)) (ht : (pc : Int) + off = (tp : Int)) (k : sw_Rn G own cc nL rt R ce sl Zf tp lv st S tg) : sw_Rn G own cc nL rt R ce sl Zf pc lv st S tg := by
  intro x hx p e s m args below meth c C H locs ls hP hS hl
  exact lv_goto C.1 C.2.1 hd ht (k x hx p e s m args below meth c C H locs ls hP hS hl)
theorem sw_tabIn {dflt lo hi off : Int} {offs : Array Int} {len tp : Nat} {a : Int32} (hd : decode cc pc = .ok (.tableswitch dflt lo hi offs, len)) (h1 : ¬ a.toInt < lo) (h2 : ¬ hi < a.toInt) (ho : offs[(a.toInt - lo).toNat]? = some off) (ht : (pc : Int) + off = (tp : Int)) (k : sw_Rn G own cc nL rt R ce sl Zf tp lv st S tg) : sw_Rn G own cc nL rt R ce sl Zf pc lv (.int a :: st) S tg := by
  intro x hx p e s m args below meth c C H locs ls hP hS hl
  exact lv_tableIn C.1 C.2.1 hd h1 h2 ho ht (k x hx p e s m args below meth c C H locs ls hP hS hl)
theorem sw_tabOut {dflt lo hi : Int} {offs : Array Int} {len tp : Nat} {a : Int32} (hd : decode cc pc = .ok (.tableswitch dflt lo hi offs, len)) (h : a.toInt < lo ∨ hi < a.toInt) (ht : (pc : Int) + dflt = (tp : Int)) (k : sw_Rn G own cc nL rt R ce sl Zf tp lv st S tg) : sw_Rn G own cc nL rt R ce sl Zf pc lv (.int a :: st) S tg := by
  intro x hx p e s m args below meth c C H locs ls hP hS hl
  exact lv_tableOut C.1 C.2.1 hd h ht (k x hx p e s m args below meth c C H locs ls hP hS hl)
theorem sw_look {dflt off : Int} {ps : Array (Int × Int)} {len tp : Nat} {a : Int32} (hd : decode cc pc = .ok (.lookupswitch dflt ps, len)) (hp : (ps.toList.zip (ps.toList.drop 1)).all (fun (a, next) => a.1 < next.1) = true) (ho : Op.lookupswitch.offset ps.toList dflt a.toInt = off) (ht : (pc : Int) + off = (tp : Int)) (k : sw_Rn G own cc nL rt R ce sl Zf tp lv st S tg) : sw_Rn G own cc nL rt R ce sl Zf pc lv (.int a :: st) S tg := by
  intro x hx p e s m args below meth c C H locs ls hP hS hl
  exact lv_lookup C.1 C.2.1 hd hp ho ht (k x hx p e s m args below meth c C H locs ls hP hS hl)
/-- what is known of a class: its fields' words among the tables -/
def sw_kc (c : Nat) (C : String) (T : u_T) (N : Nat) : Prop := sw_cl[c]? = some (C, T, N) ∧ (∀ w ∈ u_ws C T N, w ∈ sw_wd) ∧ c < 10 ∧ (sw_fl c).length = N
theorem sw_wE_obj {o c : Nat} (h : sw_kd o = c) (hc : c < 10) : sw_wE G S o = .inr (c, sw_fs G S o (sw_fl c) 0) := by
  unfold sw_wE
  rw [h]
  split
  all_goals first | omega | rfl
theorem sw_wE_int {o : Nat} (h : sw_kd o = 10) : sw_wE G S o = .inl (sw_cI G, sw_ln o, .inl (S.1 o)) := by
  unfold sw_wE
  rw [h]
  rfl
theorem sw_wE_long {o : Nat} (h : sw_kd o = 11) : sw_wE G S o = .inl (sw_cJ G, sw_ln o, .inr (.inl (S.2 o))) := by
  unfold sw_wE
  rw [h]
  rfl
theorem sw_wE_ngt {o : Nat} (h : sw_kd o = 12) : sw_wE G S o = .inl (sw_cN G, sw_ln o, .inr (.inr (.inr (.inr (fun k => some (sw_B G + sw_rf o k)))))) := by
  unfold sw_wE
  rw [h]
  rfl
theorem sw_wE_shf {o : Nat} (h : sw_kd o = 13) : sw_wE G S o = .inl (sw_cS G, sw_ln o, .inr (.inr (.inr (.inr (fun k => some (sw_B G + sw_rf o k)))))) := by
  unfold sw_wE
  rw [h]
  rfl
theorem sw_wL_obj {o c : Nat} (h : sw_kd o = c) (hc : c < 10) : o < 128 ∧ (sw_wL G S)[o]? = some (sw_B G + o, .inr (c, sw_fs G S o (sw_fl c) 0)) := by
  have h1 := sw_kd_lt (i := o) (by omega)
  exact ⟨h1, by rw [sw_wL_get G S h1, sw_wE_obj h hc]⟩
theorem sw_getI {o c k index : Nat} {C ref : String} {T : u_T} {N : Nat} (hk : sw_kc c C T N) (ho : sw_kd o = c) (hb : (sw_fl c)[k]? = some false) (hr : ref = (T k).1) (hw : Cond.fieldLink own index ref (T k).2.1 (T k).2.2.1 ∈ sw_wd) (hd : decode cc pc = .ok (.getfield index, 3)) (hn : pc + 3 = np) (kk : sw_Rn G own cc nL rt R ce sl Zf np lv (.int (S.1 o k) :: st) S tg) : sw_Rn G own cc nL rt R ce sl Zf pc lv (sw_vr G o :: st) S tg := by
  subst hn
  subst hr
  intro x hx p e s m args below meth c' Ck H locs ls hP hS hl
  obtain ⟨h1, h2, h3, h4⟩ := hk
  obtain ⟨h5, h6⟩ := sw_wL_obj (G := G) (S := S) ho h3
  have hkN : k < N := by rw [← h4]; exact (List.getElem?_eq_some_iff.mp hb).1
  refine va_get Ck.1 Ck.2.1 Ck.2.2.2.2.2.1 h2 Ck.2.2.2.2.1 Ck.2.2.2.2.2.2.2.1 hP o h6 h1 k hkN (Ck.2.2.2.2.2.1 _ hw) (fun _ h9 => h9) (v := .int (S.1 o k)) ?_ hd (kk x hx p e s m args below meth c' Ck H locs ls hP hS hl)
  rw [sw_fs_get G S o (sw_fl c) 0 k false hb, Nat.zero_add]
theorem sw_getR {o c k q index : Nat} {C ref : String} {T : u_T} {N : Nat} (hk : sw_kc c C T N) (ho : sw_kd o = c) (hb : (sw_fl c)[k]? = some true) (hq : sw_rf o k = q) (hr : ref = (T k).1) (hw : Cond.fieldLink own index ref (T k).2.1 (T k).2.2.1 ∈ sw_wd) (hd : decode cc pc = .ok (.getfield index, 3)) (hn : pc + 3 = np) (kk : sw_Rn G own cc nL rt R ce sl Zf np lv (sw_vr G q :: st) S tg) : sw_Rn G own cc nL rt R ce sl Zf pc lv (sw_vr G o :: st) S tg := by
  subst hn
  subst hr
  subst hq
  intro x hx p e s m args below meth c' Ck H locs ls hP hS hl
  obtain ⟨h1, h2, h3, h4⟩ := hk
  obtain ⟨h5, h6⟩ := sw_wL_obj (G := G) (S := S) ho h3
  have hkN : k < N := by rw [← h4]; exact (List.getElem?_eq_some_iff.mp hb).1
  refine va_get Ck.1 Ck.2.1 Ck.2.2.2.2.2.1 h2 Ck.2.2.2.2.1 Ck.2.2.2.2.2.2.2.1 hP o h6 h1 k hkN (Ck.2.2.2.2.2.1 _ hw) (fun _ h9 => h9) (v := sw_vr G (sw_rf o k)) ?_ hd (kk x hx p e s m args below meth c' Ck H locs ls hP hS hl)
  rw [sw_fs_get G S o (sw_fl c) 0 k true hb, Nat.zero_add]
theorem sw_putI {o c k index : Nat} {v : Int32} {C ref : String} {T : u_T} {N : Nat} {ty0 : Nat → FieldType} {ty : FieldType} (hk : sw_kc c C T N) (hty : ∀ k, k < N → parseFieldDescriptor (T k).2.2.1 = some (ty0 k)) (hnm : ∀ a, a < N → ∀ b, b < N → a ≠ b → (T a).2.1 ≠ (T b).2.1) (ho : sw_kd o = c) (hb : (sw_fl c)[k]? = some false) (hf : (T k).2.2.2 = false) (hy : ty0 k = ty) (hnw : narrow ty (.int v) = .int v) (hft : fits ty (.int v) = true) (hr : ref = (T k).1) (hw : Cond.fieldLink own index ref (T k).2.1 (T k).2.2.1 ∈ sw_wd) (hd : decode cc pc = .ok (.putfield index, 3)) (hn : pc + 3 = np) (kk : sw_Rn G own cc nL rt R ce sl Zf np lv st (sw_si S o k v) tg) : sw_Rn G own cc nL rt R ce sl Zf pc lv (.int v :: sw_vr G o :: st) S tg := by
  subst hn
  subst hr
  subst hy
  intro x hx p e s m args below meth c' Ck H locs ls hP hS hl
  obtain ⟨h1, h2, h3, h4⟩ := hk
  obtain ⟨h5, h6⟩ := sw_wL_obj (G := G) (S := S) ho h3
  have hkN : k < N := by rw [← h4]; exact (List.getElem?_eq_some_iff.mp hb).1
  refine va_put Ck.1 Ck.2.1 Ck.2.2.2.2.2.1 h2 ty0 hty hnm Ck.2.2.2.2.1 Ck.2.2.2.2.2.2.2.1 hP (sw_wD G S) hS o h6 h1 k hkN (Ck.2.2.2.2.2.1 _ hw) (fun _ h9 => h9) hf (hty k hkN) hnw hft (by rw [sw_fs_len, h4]; exact hkN) hd (fun H1 locs1 hP1 _ hS1 => ?_)
  rw [sw_fs_set G S o v (sw_fl c) 0 k hb, Nat.zero_add] at hP1
  rw [sw_wL_set (T := sw_si S o k v) h5 (sw_wE_obj ho h3) (sw_si_ne S o k v) (fun _ _ => rfl)] at hP1
  exact kk x hx p e s m args below meth c' Ck H1 locs1 ls hP1 hS1 hl
theorem sw_iald {o n : Nat} {i : Int32} (ho : sw_kd o = 10) (hl0 : sw_ln o = n) (hd : decode cc pc = .ok (.iaload, 1)) (hn : pc + 1 = np) (kk : sw_Rn G own cc nL rt R ce sl Zf np lv (.int (S.1 o i.toNatClampNeg) :: st) S tg) : sw_Rn G own cc nL rt R ce sl Zf pc lv (.int i :: sw_vr G o :: st) S (sw_gd (sw_in i n) tg) := by
  subst hn
  subst hl0
  intro x hx p e s m args below meth c' Ck H locs ls hP hS hl
  obtain ⟨h1, h2⟩ := sw_gd_some hx
  have h5 := sw_kd_lt (i := o) (by omega)
  exact va_iald Ck.1 Ck.2.1 Ck.2.2.2.2.2.2.2.1 hP o 0 (by rw [sw_wL_get G S h5, sw_wE_int ho]) rfl (sw_in_vp h1) hd (kk x h2 p e s m args below meth c' Ck H locs ls hP hS hl)
theorem sw_lald {o n : Nat} {i : Int32} (ho : sw_kd o = 11) (hl0 : sw_ln o = n) (hd : decode cc pc = .ok (.laload, 1)) (hn : pc + 1 = np) (kk : sw_Rn G own cc nL rt R ce sl Zf np lv (.long (S.2 o i.toNatClampNeg) :: st) S tg) : sw_Rn G own cc nL rt R ce sl Zf pc lv (.int i :: sw_vr G o :: st) S (sw_gd (sw_in i n) tg) := by
  subst hn
  subst hl0
  intro x hx p e s m args below meth c' Ck H locs ls hP hS hl
  obtain ⟨h1, h2⟩ := sw_gd_some hx
  have h5 := sw_kd_lt (i := o) (by omega)
  exact va_lald Ck.1 Ck.2.1 Ck.2.2.2.2.2.2.2.1 hP o 1 (by rw [sw_wL_get G S h5, sw_wE_long ho]) rfl (sw_in_vp h1) hd (kk x h2 p e s m args below meth c' Ck H locs ls hP hS hl)
theorem sw_iast {o n : Nat} {i v : Int32} (ho : sw_kd o = 10) (hl0 : sw_ln o = n) (hd : decode cc pc = .ok (.iastore, 1)) (hn : pc + 1 = np) (kk : sw_Rn G own cc nL rt R ce sl Zf np lv st (sw_si S o i.toNatClampNeg v) tg) : sw_Rn G own cc nL rt R ce sl Zf pc lv (.int v :: .int i :: sw_vr G o :: st) S (sw_gd (sw_in i n) tg) := by
  subst hn
  subst hl0
  intro x hx p e s m args below meth c' Ck H locs ls hP hS hl
  obtain ⟨h1, h2⟩ := sw_gd_some hx
  have h5 := sw_kd_lt (i := o) (by omega)
  refine va_iast Ck.1 Ck.2.1 Ck.2.2.2.2.2.2.2.1 hP (sw_wD G S) hS o 0 (by rw [sw_wL_get G S h5, sw_wE_int ho]) rfl (sw_in_vp h1) hd (fun H1 locs1 hP1 _ hS1 => ?_)
  rw [sw_wL_set (T := sw_si S o i.toNatClampNeg v) h5 (by rw [sw_wE_int ho, sw_si_at]) (sw_si_ne S o _ v) (fun _ _ => rfl)] at hP1
  exact kk x h2 p e s m args below meth c' Ck H1 locs1 ls hP1 hS1 hl
theorem sw_last {o n : Nat} {i : Int32} {v : Int64} (ho : sw_kd o = 11) (hl0 : sw_ln o = n) (hd : decode cc pc = .ok (.lastore, 1)) (hn : pc + 1 = np) (kk : sw_Rn G own cc nL rt R ce sl Zf np lv st (sw_sj S o i.toNatClampNeg v) tg) : sw_Rn G own cc nL rt R ce sl Zf pc lv (.long v :: .int i :: sw_vr G o :: st) S (sw_gd (sw_in i n) tg) := by
  subst hn
  subst hl0
  intro x hx p e s m args below meth c' Ck H locs ls hP hS hl
  obtain ⟨h1, h2⟩ := sw_gd_some hx
  have h5 := sw_kd_lt (i := o) (by omega)
  refine va_last Ck.1 Ck.2.1 Ck.2.2.2.2.2.2.2.1 hP (sw_wD G S) hS o 1 (by rw [sw_wL_get G S h5, sw_wE_long ho]) rfl (sw_in_vp h1) hd (fun H1 locs1 hP1 _ hS1 => ?_)
  rw [sw_wL_set (S := S) (T := sw_sj S o i.toNatClampNeg v) h5 (by rw [sw_wE_long ho]; simp [sw_sj]) (fun _ _ => rfl) (fun a h => by simp [sw_sj, h])] at hP1
  exact kk x h2 p e s m args below meth c' Ck H1 locs1 ls hP1 hS1 hl
theorem sw_aldN {i : Int32} (hd : decode cc pc = .ok (.aaload, 1)) (hn : pc + 1 = np) (kk : sw_kd (29 + 10 * i.toNatClampNeg) = 4 → sw_Rn G own cc nL rt R ce sl Zf np lv (sw_vr G (29 + 10 * i.toNatClampNeg) :: st) S tg) : sw_Rn G own cc nL rt R ce sl Zf pc lv (.int i :: sw_vr G 25 :: st) S (sw_gd (sw_in i 5) tg) := by
  subst hn
  intro x hx p e s m args below meth c' Ck H locs ls hP hS hl
  obtain ⟨h1, h2⟩ := sw_gd_some hx
  have hlt : i.toNatClampNeg < 5 := Nat.not_le.mp fun q => (sw_in_vp h1) (Or.inr q)
  refine va_aldq Ck.1 Ck.2.1 Ck.2.2.2.2.2.2.2.1 hP 25 2 (f := fun k => some (sw_B G + sw_rf 25 k)) (n := 5) (by rw [sw_wL_get G S (by decide), sw_wE_ngt (by decide +kernel)]; rfl) rfl (sw_in_vp h1) hd ?_
  have := kk (sw_kd_25 _ hlt) x h2 p e s m args below meth c' Ck H locs ls hP hS hl
  rw [← sw_rf_25 _ hlt] at this
  exact this
theorem sw_aldS {i : Int32} (hd : decode cc pc = .ok (.aaload, 1)) (hn : pc + 1 = np) (kk : sw_kd (93 + 2 * i.toNatClampNeg) = 5 → sw_Rn G own cc nL rt R ce sl Zf np lv (sw_vr G (93 + 2 * i.toNatClampNeg) :: st) S tg) : sw_Rn G own cc nL rt R ce sl Zf pc lv (.int i :: sw_vr G 92 :: st) S (sw_gd (sw_in i 6) tg) := by
  subst hn
  intro x hx p e s m args below meth c' Ck H locs ls hP hS hl
  obtain ⟨h1, h2⟩ := sw_gd_some hx
  have hlt : i.toNatClampNeg < 6 := Nat.not_le.mp fun q => (sw_in_vp h1) (Or.inr q)
  refine va_aldq Ck.1 Ck.2.1 Ck.2.2.2.2.2.2.2.1 hP 92 3 (f := fun k => some (sw_B G + sw_rf 92 k)) (n := 6) (by rw [sw_wL_get G S (by decide), sw_wE_shf (by decide +kernel)]; rfl) rfl (sw_in_vp h1) hd ?_
  have := kk (sw_kd_92 _ hlt) x h2 p e s m args below meth c' Ck H locs ls hP hS hl
  rw [← sw_rf_92 _ hlt] at this
  exact this
end SW2
