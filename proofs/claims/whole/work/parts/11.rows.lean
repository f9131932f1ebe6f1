/-! a method's body, at a place, comes to the end that its picture tells -/
/-- the tables' words that stay, whatever runs -/
def sw_wd : List Cond := lw_tbl.filter goodWord
def sw_as : Nat → List (Option Value) → List (Nat × Value)
  | _, [] => []
  | i, none :: t => sw_as (i + 1) t
  | i, some v :: t => (i, v) :: sw_as (i + 1) t
def sw_tb (k : Nat) : List Int32 := match k with
  | 0 => [11, 9, 99, 99, 1, 11, 50, 11]
  | 1 => [66, 133, 266, 532, 1064, 2064, 129, 322, 644, 1288, 2576, 1056]
  | 2 => [-1, 0, 0, 2, 1, 3, 0, 4]
  | _ => [1, 10, 11, 2, 20, 0, 0, 0, 0, 30, 0, 0, 0, 41, 40, 0, 0, 0, 50, 0, 0, 0, 0, 60, 70, 0, 0, 0, 0, 80, 0, 81]
/-- a static array of ints, as it stands -/
def sw_s1 (G : sw_G) (U : State) (H : Heap) (C n : String) (k N : Nat) : Prop := va_Z C n "[I" (.ref (sw_ta G k)) (sw_fr G) U H ∧ va_T .int (sw_ta G k) N (fun j => .int ((sw_tb k).getD j 0)) (sw_fr G) U H
/-- the tables' words on nest mates -/
def sw_nf : List (String × Nat × String × String) := [(RX4, 106, RX8, "BESIDE"), (RX7, 155, RX8, "GREATEST")]
def sw_nm : List (String × Nat × MethodName) := [(RX4, 65, yX8_isCot), (RX4, 69, yX8_within), (RX6, 41, yX8_within), (RX3, 36, yX8_heldWithin), (RX3, 46, yX8_within), (RX5, 32, yX8_isCot), (RX4, 124, yX8_heldWithin), (RX7, 145, yX8_steps), (RX4, 142, yX8_steps), (RX0, 29, yX8_within)]
def sw_nst (U : State) : Prop := (∀ q ∈ sw_nf, va_Nw (.fieldLinkNest q.1 q.2.1 q.2.2.1 q.2.2.2 "[I" "SwordAttic") U) ∧ ∀ q ∈ sw_nm, va_Nw (.methodLinkNest q.1 q.2.1 q.2.2 "SwordAttic") U
theorem sw_nst_warm {s U : State} (hW : s.WarmedH U.vm) (h : sw_nst s) : sw_nst U := ⟨fun q hq => va_Nw.warmF hW (h.1 q hq), fun q hq => va_Nw.warmM hW (h.2 q hq)⟩
theorem sw_nst_same {s U : State} (hW : s.vm = U.vm) (h : sw_nst s) : sw_nst U := ⟨fun q hq => va_Nw.same rfl hW (h.1 q hq), fun q hq => va_Nw.same rfl hW (h.2 q hq)⟩
def sw_sta (G : sw_G) (U : State) (H : Heap) : Prop := sw_s1 G U H RX8 "GREATEST" 0 8 ∧ sw_s1 G U H RX8 "BESIDE" 1 12 ∧ sw_s1 G U H RX0 "ABOVE" 2 8 ∧ sw_s1 G U H RX0 "BODY_OF" 3 32 ∧ sw_nst U
theorem sw_s1_moved {G : sw_G} {u U : State} {H : Heap} {C n : String} {k N : Nat} (hvm : u.vm.Alike U.vm) (h : sw_s1 G u H C n k N) : sw_s1 G U H C n k N := ⟨h.1.moved hvm, h.2.moved hvm⟩
theorem sw_s1_kept {G : sw_G} {U : State} {H H1 : Heap} {C n : String} {k N : Nat} (h : sw_s1 G U H C n k N) (hq : ∀ a : Nat, a < H.size → ¬ sw_fr G a → H1[a]? = H[a]?) : sw_s1 G U H1 C n k N := ⟨h.1.kept hq, h.2.kept hq⟩
theorem sw_sta_warm {G : sw_G} {s U : State} {H : Heap} (hW : s.WarmedH U.vm) (h : sw_sta G s H) : sw_sta G U H := ⟨sw_s1_moved hW.alike h.1, sw_s1_moved hW.alike h.2.1, sw_s1_moved hW.alike h.2.2.1, sw_s1_moved hW.alike h.2.2.2.1, sw_nst_warm hW h.2.2.2.2⟩
theorem sw_sta_same {G : sw_G} {s U : State} {H : Heap} (hW : s.vm = U.vm) (h : sw_sta G s H) : sw_sta G U H := ⟨sw_s1_moved (hW ▸ Vm.Alike.refl s.vm) h.1, sw_s1_moved (hW ▸ Vm.Alike.refl s.vm) h.2.1, sw_s1_moved (hW ▸ Vm.Alike.refl s.vm) h.2.2.1, sw_s1_moved (hW ▸ Vm.Alike.refl s.vm) h.2.2.2.1, sw_nst_same hW h.2.2.2.2⟩
theorem sw_sta_kept {G : sw_G} {U : State} {H H1 : Heap} (h : sw_sta G U H) (hq : ∀ a : Nat, a < H.size → ¬ sw_fr G a → H1[a]? = H[a]?) : sw_sta G U H1 := ⟨sw_s1_kept h.1 hq, sw_s1_kept h.2.1 hq, sw_s1_kept h.2.2.1 hq, sw_s1_kept h.2.2.2.1 hq, h.2.2.2.2⟩
def sw_Ck (G : sw_G) (own : String) (cc : ByteArray) (nL : Nat) (rt : Option FieldType) (p : Program) (s : State) (m : MethodId) (args : Array Value) (meth : Method) (c : Code) : Prop :=
  p.tables.exec = Jvm.exec ∧ c.code = cc ∧ meth.sig.returnType = rt ∧ c.maxLocals = nL ∧ s.vm.findClass own = some m.cls ∧ (∀ w ∈ sw_wd, w.before args s = true) ∧ meth.locks = false ∧ va_K (sw_D G) sw_cl (sw_ty G) s ∧ sw_sta G s s.heap
def sw_Rn {α : Type} (G : sw_G) (own : String) (cc : ByteArray) (nL : Nat) (rt : Option FieldType) (R : Room) (ce sl : Nat) (Zf : α → sw_St → State → Array Value → List Frame → State → Prop) (pc : Nat) (lv : List (Option Value)) (st : List Value) (S : sw_St) (tg : Option (α × sw_St)) : Prop :=
  ∀ (x : α × sw_St), tg = some x → ∀ (p : Program) (e : Env) (s : State) (m : MethodId) (args : Array Value) (below : List Frame) (meth : Method) (c : Code), sw_Ck G own cc nL rt p s m args meth c →
    ∀ (H : Heap) (locs : List Loc) (ls : Array Slot), va_P (sw_D G) sw_cl (sw_wL G S) H → va_S (sw_fr G) s.heap H locs → lv_has ls nL (sw_as 0 lv) →
      W p (sw_l G) e R s m args below meth c H locs ce sl (Zf x.1 x.2 s args below) (F0 m pc ls st)
theorem sw_as_mem : ∀ (lv : List (Option Value)) (k i : Nat) (v : Value), lv[i]? = some (some v) → (k + i, v) ∈ sw_as k lv := by
  intro lv
  induction lv with
  | nil => intro k i v h; simp at h
  | cons a t ih =>
    intro k i v h
    cases i with
    | zero =>
      simp only [List.getElem?_cons_zero, Option.some.injEq] at h
      subst h
      exact List.mem_cons_self
    | succ i =>
      simp only [List.getElem?_cons_succ] at h
      have := ih (k + 1) i v h
      rw [show k + 1 + i = k + (i + 1) by omega] at this
      cases a with
      | none => exact this
      | some w => exact List.mem_cons_of_mem _ this
theorem sw_as_of : ∀ (lv : List (Option Value)) (k : Nat) (q : Nat × Value), q ∈ sw_as k lv → ∃ i, q.1 = k + i ∧ lv[i]? = some (some q.2) := by
  intro lv
  induction lv with
  | nil => intro k q h; cases h
  | cons a t ih =>
    intro k q h
    have go : q ∈ sw_as (k + 1) t → ∃ i, q.1 = k + i ∧ (a :: t)[i]? = some (some q.2) := by
      intro h
      obtain ⟨i, h1, h2⟩ := ih (k + 1) q h
      exact ⟨i + 1, by omega, by simpa using h2⟩
    cases a with
    | none => exact go h
    | some w =>
      rcases List.mem_cons.mp h with rfl | h
      · exact ⟨0, rfl, rfl⟩
      · exact go h
def sw_c2 (o : Option Value) : Bool := match o with
  | some v => v.category == 2
  | none => false
/-- the locals behind a store of a value of one word -/
theorem sw_has_set {ls : Array Slot} {nL i : Nat} {v : Value} {lv lv' : List (Option Value)} (h : lv_has ls nL ((i, v) :: (sw_as 0 lv).filter (fun q => !(q.1 == i) && !(q.1 + 1 == i && q.2.category == 2)))) (hset : lv.set i (some v) = lv') (hc : ∀ j, j + 1 = i → sw_c2 (lv.getD j none) = false) : lv_has ls nL (sw_as 0 lv') := by
  subst hset
  refine ⟨h.1, h.2.1, fun q hq => h.2.2 q ?_⟩
  obtain ⟨j, h1, h2⟩ := sw_as_of _ _ _ hq
  obtain ⟨q1, q2⟩ := q
  simp only [Nat.zero_add] at h1 h2
  subst h1
  by_cases hj : q1 = i
  · subst hj
    have hlt : q1 < lv.length := by
      have := (List.getElem?_eq_some_iff.mp h2).1
      simpa using this
    rw [List.getElem?_set_self hlt] at h2
    simp only [Option.some.injEq] at h2
    subst h2
    exact List.mem_cons_self
  · rw [List.getElem?_set_ne (fun q => hj q.symm)] at h2
    refine List.mem_cons_of_mem _ (List.mem_filter.mpr ⟨by have := sw_as_mem lv 0 q1 q2 h2; simpa using this, ?_⟩)
    simp only [Bool.and_eq_true, Bool.not_eq_true', beq_eq_false_iff_ne, ne_eq, hj, not_false_eq_true, true_and]
    by_cases h3 : q1 + 1 = i
    · have := hc q1 h3
      rw [List.getD_eq_getElem?_getD, h2] at this
      simp only [sw_c2, Option.getD_some] at this
      simp [h3, this]
    · simp [h3]
section SW
variable {α : Type} {G : sw_G} {own : String} {cc : ByteArray} {nL : Nat} {rt : Option FieldType} {R : Room} {ce sl : Nat} {Zf : α → sw_St → State → Array Value → List Frame → State → Prop} {pc np : Nat} {lv lv' : List (Option Value)} {st : List Value} {S : sw_St} {tg tg2 : Option (α × sw_St)}
theorem sw_none : sw_Rn G own cc nL rt R ce sl Zf pc lv st S (none : Option (α × sw_St)) := fun _ h => by cases h
theorem sw_dr (h : ∀ (i : Nat) (v : Value), lv'[i]? = some (some v) → lv[i]? = some (some v)) (k : sw_Rn G own cc nL rt R ce sl Zf pc lv' st S tg) : sw_Rn G own cc nL rt R ce sl Zf pc lv st S tg := by
  intro x hx p e s m args below meth c C H locs ls hP hS hl
  refine k x hx p e s m args below meth c C H locs ls hP hS ⟨hl.1, hl.2.1, fun q hq => hl.2.2 q ?_⟩
  obtain ⟨j, h1, h2⟩ := sw_as_of _ _ _ hq
  have := sw_as_mem lv 0 j q.2 (h _ _ h2)
  rw [← h1] at this
  exact this
theorem sw_ite {P : Prop} {dP : Decidable P} (kt : P → sw_Rn G own cc nL rt R ce sl Zf pc lv st S tg) (kf : ¬ P → sw_Rn G own cc nL rt R ce sl Zf pc lv st S tg2) : sw_Rn G own cc nL rt R ce sl Zf pc lv st S (if P then tg else tg2) := by
  by_cases h : P
  · rw [if_pos h]; exact kt h
  · rw [if_neg h]; exact kf h
-- constants
theorem sw_iconst {n : Int} {v : Int32} (hd : decode cc pc = .ok (.iconst n, 1)) (hv : Int32.ofInt n = v) (hn : pc + 1 = np) (k : sw_Rn G own cc nL rt R ce sl Zf np lv (.int v :: st) S tg) : sw_Rn G own cc nL rt R ce sl Zf pc lv st S tg := by
  subst hn
  intro x hx p e s m args below meth c C H locs ls hP hS hl
  exact lv_iconst C.1 C.2.1 hd hv (k x hx p e s m args below meth c C H locs ls hP hS hl)
theorem sw_bipush {n : Int} {v : Int32} (hd : decode cc pc = .ok (.bipush n, 2)) (hv : (Int8.ofInt n).toInt32 = v) (hn : pc + 2 = np) (k : sw_Rn G own cc nL rt R ce sl Zf np lv (.int v :: st) S tg) : sw_Rn G own cc nL rt R ce sl Zf pc lv st S tg := by
  subst hn
  intro x hx p e s m args below meth c C H locs ls hP hS hl
  exact lv_bipush C.1 C.2.1 hd hv (k x hx p e s m args below meth c C H locs ls hP hS hl)
theorem sw_sipush {n : Int} {v : Int32} (hd : decode cc pc = .ok (.sipush n, 3)) (hv : (Int16.ofInt n).toInt32 = v) (hn : pc + 3 = np) (k : sw_Rn G own cc nL rt R ce sl Zf np lv (.int v :: st) S tg) : sw_Rn G own cc nL rt R ce sl Zf pc lv st S tg := by
  subst hn
  intro x hx p e s m args below meth c C H locs ls hP hS hl
  exact lv_sipush C.1 C.2.1 hd hv (k x hx p e s m args below meth c C H locs ls hP hS hl)
theorem sw_lconst {n : Fin 2} {v : Int64} (hd : decode cc pc = .ok (.lconst n, 1)) (hv : Int64.ofNat (n : Nat) = v) (hn : pc + 1 = np) (k : sw_Rn G own cc nL rt R ce sl Zf np lv (.long v :: st) S tg) : sw_Rn G own cc nL rt R ce sl Zf pc lv st S tg := by
  subst hn
  intro x hx p e s m args below meth c C H locs ls hP hS hl
  exact lv_lconst C.1 C.2.1 hd hv (k x hx p e s m args below meth c C H locs ls hP hS hl)
theorem sw_ldc {index : Nat} {v : Int32} (hw : Cond.constant own index v ∈ sw_wd) (hd : decode cc pc = .ok (.ldc index, 2)) (hn : pc + 2 = np) (k : sw_Rn G own cc nL rt R ce sl Zf np lv (.int v :: st) S tg) : sw_Rn G own cc nL rt R ce sl Zf pc lv st S tg := by
  subst hn
  intro x hx p e s m args below meth c C H locs ls hP hS hl
  exact lv_ldc C.1 C.2.1 C.2.2.2.2.1 (C.2.2.2.2.2.1 _ hw) hd (k x hx p e s m args below meth c C H locs ls hP hS hl)
theorem sw_ldcw {index : Nat} {v : Int32} (hw : Cond.constant own index v ∈ sw_wd) (hd : decode cc pc = .ok (.ldc_w index, 3)) (hn : pc + 3 = np) (k : sw_Rn G own cc nL rt R ce sl Zf np lv (.int v :: st) S tg) : sw_Rn G own cc nL rt R ce sl Zf pc lv st S tg := by
  subst hn
  intro x hx p e s m args below meth c C H locs ls hP hS hl
  exact lv_ldcw C.1 C.2.1 C.2.2.2.2.1 (C.2.2.2.2.2.1 _ hw) hd (k x hx p e s m args below meth c C H locs ls hP hS hl)
theorem sw_ldc2 {index : Nat} {v : Int64} (hw : Cond.constantLong own index v ∈ sw_wd) (hd : decode cc pc = .ok (.ldc2_w index, 3)) (hn : pc + 3 = np) (k : sw_Rn G own cc nL rt R ce sl Zf np lv (.long v :: st) S tg) : sw_Rn G own cc nL rt R ce sl Zf pc lv st S tg := by
  subst hn
  intro x hx p e s m args below meth c C H locs ls hP hS hl
  exact lv_ldc2 C.1 C.2.1 C.2.2.2.2.1 (C.2.2.2.2.2.1 _ hw) hd (k x hx p e s m args below meth c C H locs ls hP hS hl)
-- locals
theorem sw_iload_n {i : Fin 4} {j : Nat} {v : Int32} (hd : decode cc pc = .ok (.iload_n i, 1)) (hi : (i : Nat) = j) (hl : lv[j]? = some (some (.int v))) (hn : pc + 1 = np) (k : sw_Rn G own cc nL rt R ce sl Zf np lv (.int v :: st) S tg) : sw_Rn G own cc nL rt R ce sl Zf pc lv st S tg := by
  subst hn
  intro x hx p e s m args below meth c C H locs ls hP hS h
  have := h.2.2 _ (sw_as_mem lv 0 j _ hl)
  rw [Nat.zero_add] at this
  exact lv_iload_n C.1 C.2.1 hd hi this (k x hx p e s m args below meth c C H locs ls hP hS h)
theorem sw_iload {j : Nat} {v : Int32} (hd : decode cc pc = .ok (.iload j, 2)) (hl : lv[j]? = some (some (.int v))) (hn : pc + 2 = np) (k : sw_Rn G own cc nL rt R ce sl Zf np lv (.int v :: st) S tg) : sw_Rn G own cc nL rt R ce sl Zf pc lv st S tg := by
  subst hn
  intro x hx p e s m args below meth c C H locs ls hP hS h
  have := h.2.2 _ (sw_as_mem lv 0 j _ hl)
  rw [Nat.zero_add] at this
  exact lv_iload C.1 C.2.1 hd this (k x hx p e s m args below meth c C H locs ls hP hS h)
theorem sw_lload_n {i : Fin 4} {j : Nat} {v : Int64} (hd : decode cc pc = .ok (.lload_n i, 1)) (hi : (i : Nat) = j) (hl : lv[j]? = some (some (.long v))) (hn : pc + 1 = np) (k : sw_Rn G own cc nL rt R ce sl Zf np lv (.long v :: st) S tg) : sw_Rn G own cc nL rt R ce sl Zf pc lv st S tg := by
  subst hn
  intro x hx p e s m args below meth c C H locs ls hP hS h
  have := h.2.2 _ (sw_as_mem lv 0 j _ hl)
  rw [Nat.zero_add] at this
  exact lv_lload_n C.1 C.2.1 hd hi this (k x hx p e s m args below meth c C H locs ls hP hS h)
theorem sw_lload {j : Nat} {v : Int64} (hd : decode cc pc = .ok (.lload j, 2)) (hl : lv[j]? = some (some (.long v))) (hn : pc + 2 = np) (k : sw_Rn G own cc nL rt R ce sl Zf np lv (.long v :: st) S tg) : sw_Rn G own cc nL rt R ce sl Zf pc lv st S tg := by
  subst hn
  intro x hx p e s m args below meth c C H locs ls hP hS h
  have := h.2.2 _ (sw_as_mem lv 0 j _ hl)
  rw [Nat.zero_add] at this
  exact lv_lload C.1 C.2.1 hd this (k x hx p e s m args below meth c C H locs ls hP hS h)
theorem sw_aload_n {i : Fin 4} {j : Nat} {v : Nat} (hd : decode cc pc = .ok (.aload_n i, 1)) (hi : (i : Nat) = j) (hl : lv[j]? = some (some (.ref v))) (hn : pc + 1 = np) (k : sw_Rn G own cc nL rt R ce sl Zf np lv (.ref v :: st) S tg) : sw_Rn G own cc nL rt R ce sl Zf pc lv st S tg := by
  subst hn
  intro x hx p e s m args below meth c C H locs ls hP hS h
  have := h.2.2 _ (sw_as_mem lv 0 j _ hl)
  rw [Nat.zero_add] at this
  exact lv_aload_n C.1 C.2.1 hd hi this (k x hx p e s m args below meth c C H locs ls hP hS h)
theorem sw_aload {j : Nat} {v : Nat} (hd : decode cc pc = .ok (.aload j, 2)) (hl : lv[j]? = some (some (.ref v))) (hn : pc + 2 = np) (k : sw_Rn G own cc nL rt R ce sl Zf np lv (.ref v :: st) S tg) : sw_Rn G own cc nL rt R ce sl Zf pc lv st S tg := by
  subst hn
  intro x hx p e s m args below meth c C H locs ls hP hS h
  have := h.2.2 _ (sw_as_mem lv 0 j _ hl)
  rw [Nat.zero_add] at this
  exact lv_aload C.1 C.2.1 hd this (k x hx p e s m args below meth c C H locs ls hP hS h)
theorem sw_istore_n {i : Fin 4} {j : Nat} {v : Int32} (hd : decode cc pc = .ok (.istore_n i, 1)) (hi : (i : Nat) = j) (hj : j < nL) (hs : lv.set j (some (.int v)) = lv') (hc : ∀ q, q + 1 = j → sw_c2 (lv.getD q none) = false) (hn : pc + 1 = np) (k : sw_Rn G own cc nL rt R ce sl Zf np lv' st S tg) : sw_Rn G own cc nL rt R ce sl Zf pc lv (.int v :: st) S tg := by
  subst hn
  intro x hx p e s m args below meth c C H locs ls hP hS h
  exact lv_istore_n C.1 C.2.1 hd hi h hj rfl (fun ls' h' => k x hx p e s m args below meth c C H locs ls' hP hS (sw_has_set h' hs hc))
theorem sw_istore {j : Nat} {v : Int32} (hd : decode cc pc = .ok (.istore j, 2)) (hj : j < nL) (hs : lv.set j (some (.int v)) = lv') (hc : ∀ q, q + 1 = j → sw_c2 (lv.getD q none) = false) (hn : pc + 2 = np) (k : sw_Rn G own cc nL rt R ce sl Zf np lv' st S tg) : sw_Rn G own cc nL rt R ce sl Zf pc lv (.int v :: st) S tg := by
  subst hn
  intro x hx p e s m args below meth c C H locs ls hP hS h
  exact lv_istore C.1 C.2.1 hd h hj rfl (fun ls' h' => k x hx p e s m args below meth c C H locs ls' hP hS (sw_has_set h' hs hc))
theorem sw_astore_n {i : Fin 4} {j : Nat} {v : Nat} (hd : decode cc pc = .ok (.astore_n i, 1)) (hi : (i : Nat) = j) (hj : j < nL) (hs : lv.set j (some (.ref v)) = lv') (hc : ∀ q, q + 1 = j → sw_c2 (lv.getD q none) = false) (hn : pc + 1 = np) (k : sw_Rn G own cc nL rt R ce sl Zf np lv' st S tg) : sw_Rn G own cc nL rt R ce sl Zf pc lv (.ref v :: st) S tg := by
  subst hn
  intro x hx p e s m args below meth c C H locs ls hP hS h
  exact lv_astore_n C.1 C.2.1 hd hi h hj rfl (fun ls' h' => k x hx p e s m args below meth c C H locs ls' hP hS (sw_has_set h' hs hc))
theorem sw_astore {j : Nat} {v : Nat} (hd : decode cc pc = .ok (.astore j, 2)) (hj : j < nL) (hs : lv.set j (some (.ref v)) = lv') (hc : ∀ q, q + 1 = j → sw_c2 (lv.getD q none) = false) (hn : pc + 2 = np) (k : sw_Rn G own cc nL rt R ce sl Zf np lv' st S tg) : sw_Rn G own cc nL rt R ce sl Zf pc lv (.ref v :: st) S tg := by
  subst hn
  intro x hx p e s m args below meth c C H locs ls hP hS h
  exact lv_astore C.1 C.2.1 hd h hj rfl (fun ls' h' => k x hx p e s m args below meth c C H locs ls' hP hS (sw_has_set h' hs hc))
theorem sw_iinc {j : Nat} {n : Int} {v w : Int32} (hd : decode cc pc = .ok (.iinc j n, 3)) (hg : lv[j]? = some (some (.int v))) (hv : v + Int32.ofInt n = w) (hj : j < nL) (hs : lv.set j (some (.int w)) = lv') (hc : ∀ q, q + 1 = j → sw_c2 (lv.getD q none) = false) (hn : pc + 3 = np) (k : sw_Rn G own cc nL rt R ce sl Zf np lv' st S tg) : sw_Rn G own cc nL rt R ce sl Zf pc lv st S tg := by
  subst hn
  intro x hx p e s m args below meth c C H locs ls hP hS h
  have hm := sw_as_mem lv 0 j _ hg
  rw [Nat.zero_add] at hm
  obtain ⟨q, hq⟩ := List.getElem?_of_mem hm
  exact lv_iinc C.1 C.2.1 hd h hq hv hj rfl (fun ls' h' => k x hx p e s m args below meth c C H locs ls' hP hS (sw_has_set h' hs hc))
end SW
