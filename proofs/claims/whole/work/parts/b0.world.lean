/-! the constructors: a world of cells that grows -/
def sc_fr (G : sw_G) : Nat → Prop := fun q => sw_B G ≤ q
def sc_wL (G : sw_G) (n : Nat) (f : Nat → va_E) : va_W := (List.range n).map (fun i => (sw_B G + i, f i))
theorem sc_wL_len (G : sw_G) (n : Nat) (f : Nat → va_E) : (sc_wL G n f).length = n := by simp [sc_wL]
theorem sc_wL_get (G : sw_G) (f : Nat → va_E) {n i : Nat} (h : i < n) : (sc_wL G n f)[i]? = some (sw_B G + i, f i) := by
  simp [sc_wL, List.getElem?_range, h]
theorem sc_wL_congr {G : sw_G} {n : Nat} {f g : Nat → va_E} (h : ∀ i, i < n → f i = g i) : sc_wL G n f = sc_wL G n g := by
  unfold sc_wL
  refine List.map_congr_left (fun i hi => ?_)
  rw [h i (List.mem_range.mp hi)]
theorem sc_wL_set {G : sw_G} {n i : Nat} {f : Nat → va_E} {e : va_E} : (sc_wL G n f).set i (sw_B G + i, e) = sc_wL G n (va_up f i e) := by
  apply List.ext_getElem?
  intro k
  by_cases hk : k < n
  · rw [sc_wL_get G (va_up f i e) hk]
    by_cases hki : k = i
    · subst hki
      rw [List.getElem?_set_self (by rw [sc_wL_len]; exact hk), va_up_self]
    · rw [List.getElem?_set_ne (fun q => hki q.symm), sc_wL_get G f hk, va_up_ne _ _ hki]
  · rw [List.getElem?_eq_none (by rw [List.length_set, sc_wL_len]; omega), List.getElem?_eq_none (by rw [sc_wL_len]; omega)]
theorem sc_wL_push {G : sw_G} {n : Nat} {f : Nat → va_E} {e : va_E} : sc_wL G n f ++ [(sw_B G + n, e)] = sc_wL G (n + 1) (va_up f n e) := by
  unfold sc_wL
  rw [List.range_succ, List.map_append]
  congr 1
  · refine List.map_congr_left (fun i hi => ?_)
    rw [va_up_ne _ _ (Nat.ne_of_lt (List.mem_range.mp hi))]
  · simp [va_up_self]
theorem sc_wL_at {G : sw_G} {n k : Nat} {f : Nat → va_E} {q : Nat × va_E} (h : (sc_wL G n f)[k]? = some q) : k < n ∧ q.1 = sw_B G + k := by
  by_cases hk : k < n
  · rw [sc_wL_get G f hk] at h
    exact ⟨hk, by rw [← Option.some.inj h]⟩
  · rw [List.getElem?_eq_none (by rw [sc_wL_len]; omega)] at h
    cases h
theorem sc_wD {G : sw_G} {n : Nat} {f : Nat → va_E} : va_D (sc_fr G) (sc_wL G n f) := by
  constructor
  · intro i j p q hi hj e
    have a := sc_wL_at hi
    have b := sc_wL_at hj
    omega
  · intro k q h
    have a := sc_wL_at h
    unfold sc_fr
    omega
theorem sc_addr {G : sw_G} {n z : Nat} {f : Nat → va_E} {q : Nat} {e : va_E} {H : Heap} (hP : va_P (sw_D G) sw_cl (sc_wL G n f ++ [(q, e)]) H) (hD : va_D (sc_fr G) (sc_wL G n f ++ [(q, e)])) (hz : z = sw_B G + n) (hb : H.size ≤ z + 1) : q = sw_B G + n := by
  have hg : (sc_wL G n f ++ [(q, e)])[n]? = some (q, e) := by
    rw [List.getElem?_append_right (by rw [sc_wL_len]; exact Nat.le_refl _), sc_wL_len]
    simp
  have h1 : q < H.size := (hP n _ hg).lt
  have h2 : sw_B G ≤ q := hD.2 n _ hg
  have h3 : ¬ q < sw_B G + n := by
    intro hq
    have hi : (sc_wL G n f ++ [(q, e)])[q - sw_B G]? = some (sw_B G + (q - sw_B G), f (q - sw_B G)) := by
      rw [List.getElem?_append_left (by rw [sc_wL_len]; omega)]
      exact sc_wL_get G f (by omega)
    have := hD.1 n (q - sw_B G) _ _ hg hi (by show q = sw_B G + (q - sw_B G); omega)
    omega
  omega
theorem sc_low {G : sw_G} {n : Nat} {f : Nat → va_E} {H : Heap} (hP : va_P (sw_D G) sw_cl (sc_wL G n f) H) (h0 : 0 < n) : sw_B G + n ≤ H.size := by
  have := (hP (n - 1) _ (sc_wL_get G f (by omega))).lt
  simp only at this
  omega
/-- the tables' words on the constructors of nest mates, and on arrays of references -/
def sc_nc : List (String × Nat × MethodName) := [(RX8, 18, yX3_init), (RX8, 25, yX6_init), (RX8, 41, yX1_init), (RX8, 48, yX2_init), (RX8, 55, yX0_init), (RX8, 66, yX5_init), (RX6, 15, yX3_init)]
def sc_xt (U : State) : Prop := (∀ q ∈ sc_nc, va_Nw (.methodLinkNest q.1 q.2.1 q.2.2 "SwordAttic") U) ∧ va_AO RX4 U ∧ va_AO RX5 U
theorem sc_xt_warm {s U : State} (hW : s.WarmedH U.vm) (h : sc_xt s) : sc_xt U := ⟨fun q hq => va_Nw.warmM hW (h.1 q hq), h.2.1.moved hW.alike, h.2.2.moved hW.alike⟩
theorem sc_xt_same {s U : State} (hW : s.vm = U.vm) (h : sc_xt s) : sc_xt U := ⟨fun q hq => va_Nw.same rfl hW (h.1 q hq), h.2.1.moved (hW ▸ Vm.Alike.refl s.vm), h.2.2.moved (hW ▸ Vm.Alike.refl s.vm)⟩
def sc_Ck (G : sw_G) (own : String) (cc : ByteArray) (nL : Nat) (rt : Option FieldType) (p : Program) (s : State) (m : MethodId) (args : Array Value) (meth : Method) (c : Code) : Prop :=
  p.tables.exec = Jvm.exec ∧ c.code = cc ∧ meth.sig.returnType = rt ∧ c.maxLocals = nL ∧ s.vm.findClass own = some m.cls ∧ (∀ w ∈ sw_wd, w.before args s = true) ∧ meth.locks = false ∧ va_K (sw_D G) sw_cl (sw_ty G) s ∧ sc_xt s ∧ (own ≠ RL → meth.name = "<init>") ∧ sw_B G ≤ s.heap.size
def sc_Rn (G : sw_G) (own : String) (cc : ByteArray) (nL : Nat) (rt : Option FieldType) (R : Room) (ce sl : Nat) (Zf : State → Array Value → List Frame → State → Prop) (pc : Nat) (lv : List (Option Value)) (st : List Value) (n : Nat) (f : Nat → va_E) : Prop :=
  ∀ (p : Program) (e : Env) (s : State) (m : MethodId) (args : Array Value) (below : List Frame) (meth : Method) (c : Code), sc_Ck G own cc nL rt p s m args meth c → s.heap.size + ce = sw_B G + n →
    ∀ (H : Heap) (locs : List Loc) (ls : Array Slot), va_P (sw_D G) sw_cl (sc_wL G n f) H → va_S (sc_fr G) s.heap H locs → lv_has ls nL (sw_as 0 lv) →
      W p (sw_l G) e R s m args below meth c H locs ce sl (Zf s args below) (F0 m pc ls st)
/-- no more cells than were counted -/
theorem sc_bd {p : Program} {l : Launch} {e : Env} {R : Room} {s : State} {m : MethodId} {args : Array Value} {below : List Frame} {meth : Method} {c : Code} {H : Heap} {locs : List Loc} {cells slots : Nat} {Q : State → Prop} {g : JFrame} (k : H.size ≤ s.heap.size + cells → W p l e R s m args below meth c H locs cells slots Q g) : W p l e R s m args below meth c H locs cells slots Q g := by
  intro T hT X
  refine k ?_ T hT X
  rw [← hT]
  exact X.same.2.2.1
section SC
variable {G : sw_G} {own : String} {cc : ByteArray} {nL : Nat} {rt : Option FieldType} {R : Room} {ce sl ce1 sl1 : Nat} {Zf : State → Array Value → List Frame → State → Prop} {pc np : Nat} {lv lv' : List (Option Value)} {st : List Value} {n n1 : Nat} {f f' : Nat → va_E}
theorem sc_cg (h : ∀ i, i < n → f i = f' i) (k : sc_Rn G own cc nL rt R ce sl Zf pc lv st n f') : sc_Rn G own cc nL rt R ce sl Zf pc lv st n f := by
  intro p e s m args below meth c C hz H locs ls hP hS hl
  rw [sc_wL_congr h] at hP
  exact k p e s m args below meth c C hz H locs ls hP hS hl
theorem sc_iconst {i : Int} {v : Int32} (hd : decode cc pc = .ok (.iconst i, 1)) (hv : Int32.ofInt i = v) (hn : pc + 1 = np) (k : sc_Rn G own cc nL rt R ce sl Zf np lv (.int v :: st) n f) : sc_Rn G own cc nL rt R ce sl Zf pc lv st n f := by
  subst hn
  intro p e s m args below meth c C hz H locs ls hP hS hl
  exact lv_iconst C.1 C.2.1 hd hv (k p e s m args below meth c C hz H locs ls hP hS hl)
theorem sc_bipush {i : Int} {v : Int32} (hd : decode cc pc = .ok (.bipush i, 2)) (hv : (Int8.ofInt i).toInt32 = v) (hn : pc + 2 = np) (k : sc_Rn G own cc nL rt R ce sl Zf np lv (.int v :: st) n f) : sc_Rn G own cc nL rt R ce sl Zf pc lv st n f := by
  subst hn
  intro p e s m args below meth c C hz H locs ls hP hS hl
  exact lv_bipush C.1 C.2.1 hd hv (k p e s m args below meth c C hz H locs ls hP hS hl)
theorem sc_sipush {i : Int} {v : Int32} (hd : decode cc pc = .ok (.sipush i, 3)) (hv : (Int16.ofInt i).toInt32 = v) (hn : pc + 3 = np) (k : sc_Rn G own cc nL rt R ce sl Zf np lv (.int v :: st) n f) : sc_Rn G own cc nL rt R ce sl Zf pc lv st n f := by
  subst hn
  intro p e s m args below meth c C hz H locs ls hP hS hl
  exact lv_sipush C.1 C.2.1 hd hv (k p e s m args below meth c C hz H locs ls hP hS hl)
theorem sc_iload_n {i : Fin 4} {j : Nat} {v : Int32} (hd : decode cc pc = .ok (.iload_n i, 1)) (hi : (i : Nat) = j) (hl : lv[j]? = some (some (.int v))) (hn : pc + 1 = np) (k : sc_Rn G own cc nL rt R ce sl Zf np lv (.int v :: st) n f) : sc_Rn G own cc nL rt R ce sl Zf pc lv st n f := by
  subst hn
  intro p e s m args below meth c C hz H locs ls hP hS h
  have := h.2.2 _ (sw_as_mem lv 0 j _ hl)
  rw [Nat.zero_add] at this
  exact lv_iload_n C.1 C.2.1 hd hi this (k p e s m args below meth c C hz H locs ls hP hS h)
theorem sc_aload_n {i : Fin 4} {j : Nat} {v : Nat} (hd : decode cc pc = .ok (.aload_n i, 1)) (hi : (i : Nat) = j) (hl : lv[j]? = some (some (.ref v))) (hn : pc + 1 = np) (k : sc_Rn G own cc nL rt R ce sl Zf np lv (.ref v :: st) n f) : sc_Rn G own cc nL rt R ce sl Zf pc lv st n f := by
  subst hn
  intro p e s m args below meth c C hz H locs ls hP hS h
  have := h.2.2 _ (sw_as_mem lv 0 j _ hl)
  rw [Nat.zero_add] at this
  exact lv_aload_n C.1 C.2.1 hd hi this (k p e s m args below meth c C hz H locs ls hP hS h)
theorem sc_istore_n {i : Fin 4} {j : Nat} {v : Int32} (hd : decode cc pc = .ok (.istore_n i, 1)) (hi : (i : Nat) = j) (hj : j < nL) (hs : lv.set j (some (.int v)) = lv') (hc : ∀ q, q + 1 = j → sw_c2 (lv.getD q none) = false) (hn : pc + 1 = np) (k : sc_Rn G own cc nL rt R ce sl Zf np lv' st n f) : sc_Rn G own cc nL rt R ce sl Zf pc lv (.int v :: st) n f := by
  subst hn
  intro p e s m args below meth c C hz H locs ls hP hS h
  exact lv_istore_n C.1 C.2.1 hd hi h hj rfl (fun ls' h' => k p e s m args below meth c C hz H locs ls' hP hS (sw_has_set h' hs hc))
theorem sc_astore_n {i : Fin 4} {j : Nat} {v : Nat} (hd : decode cc pc = .ok (.astore_n i, 1)) (hi : (i : Nat) = j) (hj : j < nL) (hs : lv.set j (some (.ref v)) = lv') (hc : ∀ q, q + 1 = j → sw_c2 (lv.getD q none) = false) (hn : pc + 1 = np) (k : sc_Rn G own cc nL rt R ce sl Zf np lv' st n f) : sc_Rn G own cc nL rt R ce sl Zf pc lv (.ref v :: st) n f := by
  subst hn
  intro p e s m args below meth c C hz H locs ls hP hS h
  exact lv_astore_n C.1 C.2.1 hd hi h hj rfl (fun ls' h' => k p e s m args below meth c C hz H locs ls' hP hS (sw_has_set h' hs hc))
theorem sc_iinc {j : Nat} {i : Int} {v w : Int32} (hd : decode cc pc = .ok (.iinc j i, 3)) (hg : lv[j]? = some (some (.int v))) (hv : v + Int32.ofInt i = w) (hj : j < nL) (hs : lv.set j (some (.int w)) = lv') (hc : ∀ q, q + 1 = j → sw_c2 (lv.getD q none) = false) (hn : pc + 3 = np) (k : sc_Rn G own cc nL rt R ce sl Zf np lv' st n f) : sc_Rn G own cc nL rt R ce sl Zf pc lv st n f := by
  subst hn
  intro p e s m args below meth c C hz H locs ls hP hS h
  have hm := sw_as_mem lv 0 j _ hg
  rw [Nat.zero_add] at hm
  obtain ⟨q, hq⟩ := List.getElem?_of_mem hm
  exact lv_iinc C.1 C.2.1 hd h hq hv hj rfl (fun ls' h' => k p e s m args below meth c C hz H locs ls' hP hS (sw_has_set h' hs hc))
theorem sc_dup {v : Value} (hd : decode cc pc = .ok (.dup, 1)) (hv : v.category = 1) (hn : pc + 1 = np) (k : sc_Rn G own cc nL rt R ce sl Zf np lv (v :: v :: st) n f) : sc_Rn G own cc nL rt R ce sl Zf pc lv (v :: st) n f := by
  subst hn
  intro p e s m args below meth c C hz H locs ls hP hS hl
  exact lv_dup C.1 C.2.1 hd hv (k p e s m args below meth c C hz H locs ls hP hS hl)
theorem sc_goto {off : Int} {tp : Nat} (hd : decode cc pc = .ok (.goto off, 3)) (ht : (pc : Int) + off = (tp : Int)) (k : sc_Rn G own cc nL rt R ce sl Zf tp lv st n f) : sc_Rn G own cc nL rt R ce sl Zf pc lv st n f := by
  intro p e s m args below meth c C hz H locs ls hP hS hl
  exact lv_goto C.1 C.2.1 hd ht (k p e s m args below meth c C hz H locs ls hP hS hl)
theorem sc_ge1 {x y : Int32} {off : Int} {tp : Nat} (hd : decode cc pc = .ok (.if_icmp .ge off, 3)) (ht : (pc : Int) + off = (tp : Int)) (hc : y ≤ x) (k : sc_Rn G own cc nL rt R ce sl Zf tp lv st n f) : sc_Rn G own cc nL rt R ce sl Zf pc lv (.int y :: .int x :: st) n f := by
  intro p e s m args below meth c C hz H locs ls hP hS hl
  exact lv_icmp_ge C.1 C.2.1 hd ht (fun _ => k p e s m args below meth c C hz H locs ls hP hS hl) (fun z => absurd hc z)
theorem sc_ge0 {x y : Int32} {off : Int} {tp : Nat} (hd : decode cc pc = .ok (.if_icmp .ge off, 3)) (ht : (pc : Int) + off = (tp : Int)) (hc : ¬ y ≤ x) (hn : pc + 3 = np) (k : sc_Rn G own cc nL rt R ce sl Zf np lv st n f) : sc_Rn G own cc nL rt R ce sl Zf pc lv (.int y :: .int x :: st) n f := by
  subst hn
  intro p e s m args below meth c C hz H locs ls hP hS hl
  exact lv_icmp_ge C.1 C.2.1 hd ht (fun z => absurd z hc) (fun _ => k p e s m args below meth c C hz H locs ls hP hS hl)
theorem sc_gt1 {x y : Int32} {off : Int} {tp : Nat} (hd : decode cc pc = .ok (.if_icmp .gt off, 3)) (ht : (pc : Int) + off = (tp : Int)) (hc : y < x) (k : sc_Rn G own cc nL rt R ce sl Zf tp lv st n f) : sc_Rn G own cc nL rt R ce sl Zf pc lv (.int y :: .int x :: st) n f := by
  intro p e s m args below meth c C hz H locs ls hP hS hl
  exact lv_icmp_gt C.1 C.2.1 hd ht (fun _ => k p e s m args below meth c C hz H locs ls hP hS hl) (fun z => absurd hc z)
theorem sc_gt0 {x y : Int32} {off : Int} {tp : Nat} (hd : decode cc pc = .ok (.if_icmp .gt off, 3)) (ht : (pc : Int) + off = (tp : Int)) (hc : ¬ y < x) (hn : pc + 3 = np) (k : sc_Rn G own cc nL rt R ce sl Zf np lv st n f) : sc_Rn G own cc nL rt R ce sl Zf pc lv (.int y :: .int x :: st) n f := by
  subst hn
  intro p e s m args below meth c C hz H locs ls hP hS hl
  exact lv_icmp_gt C.1 C.2.1 hd ht (fun z => absurd z hc) (fun _ => k p e s m args below meth c C hz H locs ls hP hS hl)
-- the constructor of Object
def sc_ow : Prop := Cond.instanceMethod objectInit ∈ sw_wd ∧ Cond.code objectInit ⟨#[0xb1]⟩ 1 none ∈ sw_wd
theorem sc_oi {o idx : Nat} (hw : Cond.methodLink own idx objectInit ∈ sw_wd) (ho : sc_ow) (hfr : 1 ≤ R.frames) (hlo : 12 ≤ R.locals) (hd : decode cc pc = .ok (.invokespecial idx, 3)) (hn : pc + 3 = np) (k : sc_Rn G own cc nL rt R ce sl Zf np lv [] n f) : sc_Rn G own cc nL rt R ce sl Zf pc lv [sw_vr G o] n f := by
  subst hn
  intro p e s m args below meth c C hz H locs ls hP hS hl
  have hw5 := C.2.2.2.2.2.1
  exact W.objInit C.1 C.2.1 C.2.2.2.2.1 (hw5 _ hw) (hw5 _ ho.1) (hw5 _ ho.2) rfl (hl.1.trans C.2.2.2.1.symm) rfl hd hfr (show 2 * 0 + 0 + 12 ≤ R.locals from hlo) (k p e s m args below meth c C hz H locs ls hP hS hl)
-- fields
theorem sc_get {o k index ci N : Nat} {C : String} {T : u_T} {fs : List Value} {v : Value} (hk : sw_kc ci C T N) (ho : o < n) (he : f o = .inr (ci, fs)) (hkN : k < N) (hdc : (T k).1 = C) (hw : Cond.fieldLink own index C (T k).2.1 (T k).2.2.1 ∈ sw_wd) (hv : fs[k]? = some v) (hd : decode cc pc = .ok (.getfield index, 3)) (hn : pc + 3 = np) (kk : sc_Rn G own cc nL rt R ce sl Zf np lv (v :: st) n f) : sc_Rn G own cc nL rt R ce sl Zf pc lv (sw_vr G o :: st) n f := by
  subst hn
  intro p e s m args below meth c C' hz H locs ls hP hS hl
  have hw5 := C'.2.2.2.2.2.1
  exact va_get C'.1 C'.2.1 hw5 hk.2.1 C'.2.2.2.2.1 C'.2.2.2.2.2.2.2.1 hP o (by rw [sc_wL_get G f ho, he]) hk.1 k hkN (hw5 _ hw) (fun x h => by rw [hdc] at h; exact h) hv hd (kk p e s m args below meth c C' hz H locs ls hP hS hl)
theorem sc_put {o k index ci N : Nat} {T : u_T} {ty0 : Nat → FieldType} {fs fs' : List Value} {v : Value} (hk : sw_kc ci own T N) (hty : ∀ k, k < N → parseFieldDescriptor (T k).2.2.1 = some (ty0 k)) (hnm : ∀ a, a < N → ∀ b, b < N → a ≠ b → (T a).2.1 ≠ (T b).2.1) (ho : o < n) (he : f o = .inr (ci, fs)) (hlen : fs.length = N) (hkN : k < N) (hdc : (T k).1 = own) (hw : Cond.fieldLink own index own (T k).2.1 (T k).2.2.1 ∈ sw_wd) (hfin : (T k).2.2.2 = false) (hnr : narrow (ty0 k) v = v) (hfit : fits (ty0 k) v = true) (hd : decode cc pc = .ok (.putfield index, 3)) (hn : pc + 3 = np) (hs : fs.set k v = fs') (hf : va_up f o (.inr (ci, fs')) = f') (kk : sc_Rn G own cc nL rt R ce sl Zf np lv st n f') : sc_Rn G own cc nL rt R ce sl Zf pc lv (v :: sw_vr G o :: st) n f := by
  subst hn
  subst hf
  subst hs
  intro p e s m args below meth c C' hz H locs ls hP hS hl
  have hw5 := C'.2.2.2.2.2.1
  refine va_put C'.1 C'.2.1 hw5 hk.2.1 ty0 hty hnm C'.2.2.2.2.1 C'.2.2.2.2.2.2.2.1 hP sc_wD hS o (by rw [sc_wL_get G f ho, he]) hk.1 k hkN (hw5 _ hw) (fun x h => by rw [hdc] at h; exact h) hfin (hty k hkN) hnr hfit (by rw [hlen]; exact hkN) hd (fun H1 locs1 hP1 _ hS1 => ?_)
  rw [sc_wL_set] at hP1
  exact kk p e s m args below meth c C' hz H1 locs1 ls hP1 hS1 hl
theorem sc_putF {o k index ci N : Nat} {T : u_T} {ty0 : Nat → FieldType} {fs fs' : List Value} {v : Value} (hk : sw_kc ci own T N) (hty : ∀ k, k < N → parseFieldDescriptor (T k).2.2.1 = some (ty0 k)) (hnm : ∀ a, a < N → ∀ b, b < N → a ≠ b → (T a).2.1 ≠ (T b).2.1) (ho : o < n) (he : f o = .inr (ci, fs)) (hlen : fs.length = N) (hkN : k < N) (hdc : (T k).1 = own) (hw : Cond.fieldLink own index own (T k).2.1 (T k).2.2.1 ∈ sw_wd) (hfin : (T k).2.2.2 = true) (hrl : own ≠ RL) (hnr : narrow (ty0 k) v = v) (hfit : fits (ty0 k) v = true) (hd : decode cc pc = .ok (.putfield index, 3)) (hn : pc + 3 = np) (hs : fs.set k v = fs') (hf : va_up f o (.inr (ci, fs')) = f') (kk : sc_Rn G own cc nL rt R ce sl Zf np lv st n f') : sc_Rn G own cc nL rt R ce sl Zf pc lv (v :: sw_vr G o :: st) n f := by
  subst hn
  subst hf
  subst hs
  intro p e s m args below meth c C' hz H locs ls hP hS hl
  have hw5 := C'.2.2.2.2.2.1
  refine va_putF C'.1 C'.2.1 hw5 hk.2.1 ty0 hty hnm C'.2.2.2.2.1 C'.2.2.2.2.2.2.2.1 hP sc_wD hS o (by rw [sc_wL_get G f ho, he]) hk.1 k hkN (hw5 _ hw) (fun x h => by rw [hdc] at h; exact h) hfin (C'.2.2.2.2.2.2.2.2.2.1 hrl) hdc (hty k hkN) hnr hfit (by rw [hlen]; exact hkN) hd (fun H1 locs1 hP1 _ hS1 => ?_)
  rw [sc_wL_set] at hP1
  exact kk p e s m args below meth c C' hz H1 locs1 ls hP1 hS1 hl
-- new cells
theorem sc_newI {v : Int32} {N : Nat} (ha : Cond.arrayClass .int ∈ sw_wd) (hv : ¬ v < 0) (hN : v.toNatClampNeg = N) (hby : N * componentBytes .int ≤ 536870912) (hc : ce + 1 ≤ R.cells) (hs : sl + N ≤ R.slots) (hd : decode cc pc = .ok (.newarray .int, 2)) (hn : pc + 2 = np) (hn1 : n + 1 = n1) (hce : ce + 1 = ce1) (hsl : sl + N = sl1) (hf : va_up f n (.inl (sw_cI G, N, .inl (fun _ => 0))) = f') (kk : sc_Rn G own cc nL rt R ce1 sl1 Zf np lv (sw_vr G n :: st) n1 f') : sc_Rn G own cc nL rt R ce sl Zf pc lv (.int v :: st) n f := by
  subst hn
  subst hn1
  subst hce
  subst hsl
  subst hf
  intro p e s m args below meth c C' hz H locs ls hP hS hl
  refine va_newa (atype := .int) (a0 := (N, .inl (fun _ => 0))) C'.1 C'.2.1 (C'.2.2.2.2.2.1 _ ha) rfl C'.2.2.2.2.2.2.2.1 hP sc_wD hS (fun q h => Nat.le_trans C'.2.2.2.2.2.2.2.2.2.2 h) (fun cA => rfl) hv hN hby hc hs hd (fun q cA H1 hK1 hP1 hD1 hS1 => ?_)
  have hcA : cA = sw_cI G := by
    have h1 : s.vm.findClass ("[" ++ (FieldType.int).toString) = some cA := (hK1.2 4 (cA, .int) rfl).2
    have h2 : s.vm.findClass ("[" ++ (FieldType.int).toString) = some (sw_cI G) := (C'.2.2.2.2.2.2.2.1.2 0 (sw_cI G, .int) rfl).2
    exact Option.some.inj (h1.symm.trans h2)
  subst hcA
  refine sc_bd (fun hb => ?_)
  have hq := sc_addr hP1 hD1 hz (by omega)
  subst hq
  rw [sc_wL_push] at hP1
  exact kk p e s m args below meth c C' (by omega) H1 locs ls hP1 hS1 hl
theorem sc_newJ {v : Int32} {N : Nat} (ha : Cond.arrayClass .long ∈ sw_wd) (hv : ¬ v < 0) (hN : v.toNatClampNeg = N) (hby : N * componentBytes .long ≤ 536870912) (hc : ce + 1 ≤ R.cells) (hs : sl + N ≤ R.slots) (hd : decode cc pc = .ok (.newarray .long, 2)) (hn : pc + 2 = np) (hn1 : n + 1 = n1) (hce : ce + 1 = ce1) (hsl : sl + N = sl1) (hf : va_up f n (.inl (sw_cJ G, N, .inr (.inl (fun _ => 0)))) = f') (kk : sc_Rn G own cc nL rt R ce1 sl1 Zf np lv (sw_vr G n :: st) n1 f') : sc_Rn G own cc nL rt R ce sl Zf pc lv (.int v :: st) n f := by
  subst hn
  subst hn1
  subst hce
  subst hsl
  subst hf
  intro p e s m args below meth c C' hz H locs ls hP hS hl
  refine va_newa (atype := .long) (a0 := (N, .inr (.inl (fun _ => 0)))) C'.1 C'.2.1 (C'.2.2.2.2.2.1 _ ha) rfl C'.2.2.2.2.2.2.2.1 hP sc_wD hS (fun q h => Nat.le_trans C'.2.2.2.2.2.2.2.2.2.2 h) (fun cA => rfl) hv hN hby hc hs hd (fun q cA H1 hK1 hP1 hD1 hS1 => ?_)
  have hcA : cA = sw_cJ G := by
    have h1 : s.vm.findClass ("[" ++ (FieldType.long).toString) = some cA := (hK1.2 4 (cA, .long) rfl).2
    have h2 : s.vm.findClass ("[" ++ (FieldType.long).toString) = some (sw_cJ G) := (C'.2.2.2.2.2.2.2.1.2 1 (sw_cJ G, .long) rfl).2
    exact Option.some.inj (h1.symm.trans h2)
  subst hcA
  refine sc_bd (fun hb => ?_)
  have hq := sc_addr hP1 hD1 hz (by omega)
  subst hq
  rw [sc_wL_push] at hP1
  exact kk p e s m args below meth c C' (by omega) H1 locs ls hP1 hS1 hl
theorem sc_newQ {v : Int32} {N index t0 : Nat} {C : String} {cA0 : ClassId} (hcl : Cond.classLink own index C ∈ sw_wd) (hao : ∀ U, sc_xt U → va_AO C U) (ht : (sw_ty G)[t0]? = some (cA0, .object C)) (hv : ¬ v < 0) (hN : v.toNatClampNeg = N) (hby : N * 4 ≤ 536870912) (hc : ce + 1 ≤ R.cells) (hs : sl + N ≤ R.slots) (hd : decode cc pc = .ok (.anewarray index, 3)) (hn : pc + 3 = np) (hn1 : n + 1 = n1) (hce : ce + 1 = ce1) (hsl : sl + N = sl1) (hf : va_up f n (.inl (cA0, N, .inr (.inr (.inr (.inr (fun _ => none)))))) = f') (kk : sc_Rn G own cc nL rt R ce1 sl1 Zf np lv (sw_vr G n :: st) n1 f') : sc_Rn G own cc nL rt R ce sl Zf pc lv (.int v :: st) n f := by
  subst hn
  subst hn1
  subst hce
  subst hsl
  subst hf
  intro p e s m args below meth c C' hz H locs ls hP hS hl
  refine va_newq C'.1 C'.2.1 C'.2.2.2.2.1 (C'.2.2.2.2.2.1 _ hcl) (hao _ C'.2.2.2.2.2.2.2.2.1) C'.2.2.2.2.2.2.2.1 hP sc_wD hS (fun q h => Nat.le_trans C'.2.2.2.2.2.2.2.2.2.2 h) hv hN hby hc hs hd (fun q cA H1 hK1 hP1 hD1 hS1 => ?_)
  have hcA : cA = cA0 := by
    obtain ⟨_, _, -, -, -, h1⟩ := (hK1.2 4 (cA, .object C) rfl).2
    obtain ⟨_, _, -, -, -, h2⟩ := (C'.2.2.2.2.2.2.2.1.2 t0 (cA0, .object C) ht).2
    exact Option.some.inj (h1.symm.trans h2)
  subst hcA
  refine sc_bd (fun hb => ?_)
  have hq := sc_addr hP1 hD1 hz (by omega)
  subst hq
  rw [sc_wL_push] at hP1
  exact kk p e s m args below meth c C' (by omega) H1 locs ls hP1 hS1 hl
theorem sc_new {index ci N : Nat} {C : String} {T : u_T} {ty0 : Nat → FieldType} {fs : List Value} (hk : sw_kc ci C T N) (hty : ∀ k, k < N → parseFieldDescriptor (T k).2.2.1 = some (ty0 k)) (hcl : Cond.classLink own index C ∈ sw_wd) (hins : Cond.instantiable C N ∈ sw_wd) (hini : Cond.initialized C ∈ sw_wd) (hfs : ∀ j, j < N → defaultValue (ty0 j) = vp_V fs j) (hc : ce + 1 ≤ R.cells) (hs : sl + N ≤ R.slots) (hd : decode cc pc = .ok (.new index, 3)) (hn : pc + 3 = np) (hn1 : n + 1 = n1) (hce : ce + 1 = ce1) (hsl : sl + N = sl1) (kk : sc_Rn G own cc nL rt R ce1 sl1 Zf np lv (sw_vr G n :: st) n1 (va_up f n (.inr (ci, fs)))) : sc_Rn G own cc nL rt R ce sl Zf pc lv st n f := by
  subst hn
  subst hn1
  subst hce
  subst hsl
  intro p e s m args below meth c C' hz H locs ls hP hS hl
  have hw5 := C'.2.2.2.2.2.1
  refine va_new (ci := ci) (fs := fs) C'.1 C'.2.1 hw5 hk.2.1 ty0 hty C'.2.2.2.2.1 (hw5 _ hcl) (hw5 _ hins) (hw5 _ hini) C'.2.2.2.2.2.2.2.1 hP sc_wD hS (fun q h => Nat.le_trans C'.2.2.2.2.2.2.2.2.2.2 h) hk.1 hfs hc hs hd (fun q H1 hP1 hD1 hS1 => ?_)
  refine sc_bd (fun hb => ?_)
  have hq := sc_addr hP1 hD1 hz (by omega)
  subst hq
  rw [sc_wL_push] at hP1
  exact kk p e s m args below meth c C' (by omega) H1 locs ls hP1 hS1 hl
-- stores into arrays
theorem sc_iast {b N : Nat} {g g' : Nat → Int32} {i x : Int32} (hb : b < n) (he : f b = .inl (sw_cI G, N, .inl g)) (hi : sw_in i N = true) (hd : decode cc pc = .ok (.iastore, 1)) (hn : pc + 1 = np) (hg : upd g i.toNatClampNeg x = g') (hf : va_up f b (.inl (sw_cI G, N, .inl g')) = f') (kk : sc_Rn G own cc nL rt R ce sl Zf np lv st n f') : sc_Rn G own cc nL rt R ce sl Zf pc lv (.int x :: .int i :: sw_vr G b :: st) n f := by
  subst hn
  subst hf
  subst hg
  intro p e s m args below meth c C' hz H locs ls hP hS hl
  refine va_iast C'.1 C'.2.1 C'.2.2.2.2.2.2.2.1 hP sc_wD hS b 0 (by rw [sc_wL_get G f hb, he]) rfl (sw_in_vp hi) hd (fun H1 locs1 hP1 _ hS1 => ?_)
  rw [sc_wL_set] at hP1
  exact kk p e s m args below meth c C' hz H1 locs1 ls hP1 hS1 hl
theorem sc_aast {b j N t0 ci M : Nat} {cA0 : ClassId} {C : String} {T : u_T} {vs : List Value} {g g' : Nat → Option Nat} {i : Int32} (hb : b < n) (he : f b = .inl (cA0, N, .inr (.inr (.inr (.inr g))))) (ht : (sw_ty G)[t0]? = some (cA0, .object C)) (hj : j < n) (hv : f j = .inr (ci, vs)) (hk : sw_kc ci C T M) (hi : sw_in i N = true) (hd : decode cc pc = .ok (.aastore, 1)) (hn : pc + 1 = np) (hg : va_up g i.toNatClampNeg (some (sw_B G + j)) = g') (hf : va_up f b (.inl (cA0, N, .inr (.inr (.inr (.inr g'))))) = f') (kk : sc_Rn G own cc nL rt R ce sl Zf np lv st n f') : sc_Rn G own cc nL rt R ce sl Zf pc lv (sw_vr G j :: .int i :: sw_vr G b :: st) n f := by
  subst hn
  subst hf
  subst hg
  intro p e s m args below meth c C' hz H locs ls hP hS hl
  refine va_astq (r := (C, T, M)) C'.1 C'.2.1 C'.2.2.2.2.2.2.2.1 hP sc_wD hS b t0 j ci (by rw [sc_wL_get G f hb, he]) ht (by rw [sc_wL_get G f hj, hv]) hk.1 (sw_in_vp hi) hd (fun H1 locs1 hP1 _ hS1 => ?_)
  rw [sc_wL_set] at hP1
  exact kk p e s m args below meth c C' hz H1 locs1 ls hP1 hS1 hl
/-- an array of references: what lies beyond its end doesn't count -/
theorem sc_fixq {b N : Nat} {cA0 : ClassId} {g g' : Nat → Option Nat} (hb : b < n) (he : f b = .inl (cA0, N, .inr (.inr (.inr (.inr g))))) (hg : ∀ k, k < N → g k = g' k) (hf : va_up f b (.inl (cA0, N, .inr (.inr (.inr (.inr g'))))) = f') (kk : sc_Rn G own cc nL rt R ce sl Zf pc lv st n f') : sc_Rn G own cc nL rt R ce sl Zf pc lv st n f := by
  subst hf
  intro p e s m args below meth c C' hz H locs ls hP hS hl
  refine kk p e s m args below meth c C' hz H locs ls (fun k q hk => ?_) hS hl
  obtain ⟨h1, h2⟩ := sc_wL_at hk
  rw [sc_wL_get G _ h1] at hk
  have hq := Option.some.inj hk
  subst hq
  have hP1 := hP k _ (sc_wL_get G f h1)
  by_cases hkb : k = b
  · subst hkb
    rw [he] at hP1
    rw [va_up_self]
    have hP2 : H[sw_B G + k]? = some (vp_cell cA0 (N, .inr (.inr (.inr (.inr g))))) := hP1
    show H[sw_B G + k]? = some (vp_cell cA0 (N, .inr (.inr (.inr (.inr g')))))
    rw [hP2, vp_cell_q, vp_cell_q]
    unfold arrV
    congr 3
    funext j
    show va_rf (g j.val) = va_rf (g' j.val)
    rw [hg j.val j.isLt]
  · rw [va_up_ne _ _ hkb]
    exact hP1
end SC
/-! a constructor's contract -/
def sc_rm (d mc ms : Nat) : Room := { frames := d, cells := mc, slots := ms, locals := 40 * d }
def sc_Qc (G : sw_G) (n : Nat) (f : Nat → va_E) : Array Value → State → Outcome → State → Prop := fun _ st oc t => oc = .returned none ∧ va_P (sw_D G) sw_cl (sc_wL G n f) t.heap ∧ va_F (sc_fr G) st t
def sc_Zm (G : sw_G) (n : Nat) (f : Nat → va_E) (mc ms : Nat) : State → Array Value → List Frame → State → Prop := fun s args below => MQ below (sc_Qc G n f) args s mc ms (sc_fr G)
def sc_Pc (G : sw_G) (n : Nat) (f : Nat → va_E) (U : State) : Prop := U.heap.size = sw_B G + n ∧ va_P (sw_D G) sw_cl (sc_wL G n f) U.heap ∧ va_K (sw_D G) sw_cl (sw_ty G) U ∧ sc_xt U
def sc_Ev (G : sw_G) (y : MethodName) (cc : ByteArray) (nL d mc ms : Nat) (As : List Value) (n : Nat) (f : Nat → va_E) (n' : Nat) (f' : Nat → va_E) : Prop :=
  Met (sw_l G) y (.code y cc nL none :: sw_wd) (sc_rm d mc ms) (va_Pc As (sc_Pc G n f)) (sc_Qc G n' f') mc ms (sc_fr G)
theorem sc_Ev_of {G : sw_G} {y : MethodName} {own : String} {cc : ByteArray} {nL d mc ms n n' : Nat} {As : List Value} {f f' : Nat → va_E} {lv0 : List (Option Value)} (hy : plainName y.cls = true) (ho : y.cls = own) (hnm : y.name = "<init>") (hlen : (lg_sl As).length ≤ nL) (hlv : lv_args 0 As = sw_as 0 lv0) (k : sc_Rn G own cc nL none (sc_rm d mc ms) 0 0 (sc_Zm G n' f' mc ms) 0 lv0 [] n f) : sc_Ev G y cc nL d mc ms As n f n' f' := by
  subst ho
  refine Met.ofW (cc := cc) (maxL := nL) (ret := none) hy rfl ?_
  intro p e s m args below meth c s₁ B hml hv
  obtain ⟨rfl, hz, hP, hK, hX⟩ := hv
  have hts := atoms_spec (ws := .code y cc nL none :: sw_wd) B.pre
  rw [lg_entry_eq]
  exact k p e s m _ below meth c ⟨B.exec, B.bytes, B.returns, hml, findClass_of_methodNamed B.named, fun w hw => hts w (List.mem_cons_of_mem _ hw), B.notSynchronized, hK, hX, fun _ => (name_of_methodNamed B.named B.method).1.trans hnm, by omega⟩ hz s.heap [] _ hP va_S.rf (by rw [← hlv]; exact lv_entry As hlen)
theorem sc_ret {G : sw_G} {own : String} {cc : ByteArray} {nL : Nat} {R : Room} {mc ms pc n : Nat} {lv : List (Option Value)} {f f' : Nat → va_E} (hd : decode cc pc = .ok (.return_, 1)) (hf : ∀ i, i < n → f i = f' i) : sc_Rn G own cc nL none R mc ms (sc_Zm G n f' mc ms) pc lv [] n f := by
  intro p e s m args below meth c C hz H locs ls hP hS hl
  rw [sc_wL_congr hf] at hP
  exact W.vret C.1 C.2.1 C.2.2.1 (fun t ht hW => ⟨rfl, by rw [ht]; exact hP, hS.F ht⟩) hS.2.2 hd C.2.2.2.2.2.2.1
theorem sc_blind {G : sw_G} {n : Nat} {f : Nat → va_E} {As : List Value} : FrameBlind (va_Pc As (sc_Pc G n f)) := by
  intro a U g mk q
  obtain ⟨q0, qz, qP, qK, qZ⟩ := q
  exact ⟨q0, qz, qP, va_K.moved (u := U) (U := U.calling g mk a) (Vm.Alike.refl U.vm) qK, sc_xt_same (s := U) (U := U.calling g mk a) rfl qZ⟩
section SC2
variable {G : sw_G} {own : String} {cc : ByteArray} {nL : Nat} {rt : Option FieldType} {R : Room} {ce sl ce1 sl1 : Nat} {Zf : State → Array Value → List Frame → State → Prop} {pc np : Nat} {lv lv' : List (Option Value)} {st : List Value} {n n1 : Nat} {f f' f'' : Nat → va_E}
theorem sc_runW {p : Program} {e : Env} {s : State} {m : MethodId} {args : Array Value} {below : List Frame} {meth : Method} {c : Code} {H : Heap} {locs : List Loc} {ls : Array Slot} {st0 rest : List Value} {a : Array Value} {Q : State → Prop} {mc ms : Nat} (hr : va_Run p (sw_l G) e R s m args below meth c H locs ce sl mc ms (F0 m pc ls st0) rest (sc_Qc G n f a) (sc_fr G)) (hS : va_S (sc_fr G) s.heap H locs)
    (kk : ∀ (H1 : Heap) (locs1 : List Loc), va_P (sw_D G) sw_cl (sc_wL G n f) H1 → va_S (sc_fr G) s.heap H1 locs1 → W p (sw_l G) e R s m args below meth c H1 locs1 (ce + mc) (sl + ms) Q (F0 m (pc + 3) ls rest)) : W p (sw_l G) e R s m args below meth c H locs ce sl Q (F0 m pc ls st0) := by
  intro T hT X
  obtain ⟨v, st₀, t, T', L, h0, X', hL, e1, e2, ⟨hv, hPt, hz, hk⟩, st⟩ := hr T hT X
  cases hv
  rw [h0] at hz hk
  obtain ⟨t2, a1, b1⟩ := kk T'.heap (locs ++ L) (by rw [e1]; exact hPt) ⟨Nat.le_trans hS.1 (by rw [e1]; exact hz), fun q h1 h2 => by rw [e1, hk q (Nat.lt_of_lt_of_le h1 hS.1) h2]; exact hS.2.1 q h1 h2, fun q hq => (List.mem_append.mp hq).elim (hS.2.2 q) (hL q)⟩ T' rfl X'
  exact ⟨t2, st t2 a1, b1⟩
theorem sc_init {y : MethodName} {cc2 : ByteArray} {nL2 d mc ms o2 index : Nat} {As rest : List Value} (hE : sc_Ev G y cc2 nL2 d mc ms (sw_vr G o2 :: As) n f n1 f'') (hm : sw_mw y cc2 nL2 none As.length) (hy1 : y.name = "<init>") (hi : Cond.instanceMethod y ∈ sw_wd) (hl : Cond.methodLink own index y ∈ sw_wd) (hd : decode cc pc = .ok (.invokespecial index, 3)) (hfr : d + 1 ≤ R.frames) (hlo : 19 + nL2 + 40 * d ≤ R.locals) (hst : st = As.reverse ++ sw_vr G o2 :: rest) (hre : (rest.map fun v => v.category).sum ≤ 8) (hn : pc + 3 = np) (h0 : 0 < n) (hn1 : n + mc = n1) (hce : ce + mc = ce1) (hsl : sl + ms = sl1) (hcc : ce1 ≤ R.cells) (hss : sl1 ≤ R.slots) (hf : ∀ i, i < n1 → f'' i = f' i) (k : sc_Rn G own cc nL rt R ce1 sl1 Zf np lv rest n1 f') : sc_Rn G own cc nL rt R ce sl Zf pc lv st n f := by
  subst hn
  subst hn1
  subst hce
  subst hsl
  intro p e s m args below meth c C H0 H locs ls hP hS hl'
  have hw := C.2.2.2.2.2.1
  refine sc_bd (fun hb => ?_)
  have hlow := sc_low hP h0
  have hsz : H.size = sw_B G + n := by omega
  refine sc_runW (va_runI (b := sw_B G + o2) (As := As) (rest := rest) ⟨C.1, C.2.1, C.2.2.2.1, C.2.2.2.2.1, hw⟩ hE (cwI As.length hw (sw_goodIn hm) rfl rfl rfl (hw _ hm.2.1) (hw _ hl) (hw _ hi) hy1 hm.2.2 ⟨hfr, by show 8 + (nL2 + 11) + 40 * d ≤ _; omega⟩) ⟨sc_blind, fun U hU hW => ⟨rfl, by rw [hU]; exact hsz, by rw [hU]; exact hP, va_K.moved hW.alike C.2.2.2.2.2.2.2.1, sc_xt_warm hW C.2.2.2.2.2.2.2.2.1⟩⟩ rfl rfl hl'.1 hst (lv_room hre) hd ⟨hcc, hss⟩) hS (fun H1 locs1 hP1 hS1 => ?_)
  rw [sc_wL_congr hf] at hP1
  exact k p e s m args below meth c C (by omega) H1 locs1 ls hP1 hS1 hl'
theorem sc_initN {y : MethodName} {cc2 : ByteArray} {nL2 d mc ms o2 index : Nat} {As rest : List Value} (hE : sc_Ev G y cc2 nL2 d mc ms (sw_vr G o2 :: As) n f n1 f'') (hm : sw_mw y cc2 nL2 none As.length) (hy1 : y.name = "<init>") (hi : Cond.instanceMethod y ∈ sw_wd) (hl : (own, index, y) ∈ sc_nc) (hd : decode cc pc = .ok (.invokespecial index, 3)) (hfr : d + 1 ≤ R.frames) (hlo : 19 + nL2 + 40 * d ≤ R.locals) (hst : st = As.reverse ++ sw_vr G o2 :: rest) (hre : (rest.map fun v => v.category).sum ≤ 8) (hn : pc + 3 = np) (h0 : 0 < n) (hn1 : n + mc = n1) (hce : ce + mc = ce1) (hsl : sl + ms = sl1) (hcc : ce1 ≤ R.cells) (hss : sl1 ≤ R.slots) (hf : ∀ i, i < n1 → f'' i = f' i) (k : sc_Rn G own cc nL rt R ce1 sl1 Zf np lv rest n1 f') : sc_Rn G own cc nL rt R ce sl Zf pc lv st n f := by
  subst hn
  subst hn1
  subst hce
  subst hsl
  intro p e s m args below meth c C H0 H locs ls hP hS hl'
  have hw := C.2.2.2.2.2.1
  refine sc_bd (fun hb => ?_)
  have hlow := sc_low hP h0
  have hsz : H.size = sw_B G + n := by omega
  refine sc_runW (va_runIN (b := sw_B G + o2) (As := As) (rest := rest) ⟨C.1, C.2.1, C.2.2.2.1, C.2.2.2.2.1, hw⟩ hE ⟨va_cnB As.length hw (sw_goodIn hm) rfl rfl rfl (C.2.2.2.2.2.2.2.2.1.1 _ hl) (hw _ hm.2.1) hm.2.2 ⟨hfr, by show 8 + (nL2 + 11) + 40 * d ≤ _; omega⟩, hy1, hw _ hi⟩ ⟨sc_blind, fun U hU hW => ⟨rfl, by rw [hU]; exact hsz, by rw [hU]; exact hP, va_K.moved hW.alike C.2.2.2.2.2.2.2.1, sc_xt_warm hW C.2.2.2.2.2.2.2.2.1⟩⟩ rfl rfl hl'.1 hst (lv_room hre) hd ⟨hcc, hss⟩) hS (fun H1 locs1 hP1 hS1 => ?_)
  rw [sc_wL_congr hf] at hP1
  exact k p e s m args below meth c C (by omega) H1 locs1 ls hP1 hS1 hl'
end SC2
/-! the state behind both constructors, and the worlds on the way there -/
def sc_gm (i : Nat) : Nat → Int32 := fun k => if k < i then -1 else 0
theorem sc_gm_up (i : Nat) : upd (sc_gm i) i (-1) = sc_gm (i + 1) := by
  funext k
  by_cases h : k = i
  · subst h; simp [upd, sc_gm]
  · by_cases h2 : k < i
    · have : k < i + 1 := by omega
      simp [upd, sc_gm, h, h2, this]
    · have : ¬ k < i + 1 := by omega
      simp [upd, sc_gm, h, h2, this]
theorem sc_gm_0 : sc_gm 0 = fun _ => 0 := by funext k; simp [sc_gm]
def sc_cd (i : Nat) : Nat := if sw_kd i = 4 then 1 else if sw_kd (i - 6) = 4 then 2 else if i = 16 then 3 else if i = 105 then 4 else if i = 124 then 5 else if i = 106 then 6 else 0
def sc_S0 : sw_St := (fun i k => match sc_cd i with
  | 0 => 0
  | 1 => if k = 2 then 10 else 0
  | 2 => sc_gm 12 k
  | 3 => if k = 4 then -1 else 0
  | 4 => if k = 10 then -1 else 0
  | 5 => sc_gm 6 k
  | _ => if k = 51 then 10 else 0, fun _ _ => 0)
theorem sc_z {i : Nat} (h : sc_cd i = 0) : sc_S0.1 i = fun _ => 0 := by
  funext k
  simp only [sc_S0, h]
theorem sc_z2 {i : Nat} (h : sc_cd i = 2) : sc_S0.1 i = sc_gm 12 := by
  funext k
  simp only [sc_S0, h]
theorem sc_z5 {i : Nat} (h : sc_cd i = 5) : sc_S0.1 i = sc_gm 6 := by
  funext k
  simp only [sc_S0, h]
theorem sc_z6 {i : Nat} (h : sc_cd i = 6) : sc_S0.1 i = upd (fun _ => 0) 51 10 := by
  funext k
  simp only [sc_S0, h, upd]
abbrev sc_E (G : sw_G) (i : Nat) : va_E := sw_wE G sc_S0 i
theorem sc_ai {G : sw_G} {i N : Nat} (h0 : sw_kd i = 10) (h1 : sw_ln i = N) (h2 : sc_cd i = 0) : sc_E G i = .inl (sw_cI G, N, .inl (fun _ => 0)) := by
  unfold sc_E
  rw [sw_wE_int h0, h1, sc_z h2]
theorem sc_aj {G : sw_G} {i N : Nat} (h0 : sw_kd i = 11) (h1 : sw_ln i = N) : sc_E G i = .inl (sw_cJ G, N, .inr (.inl (fun _ => 0))) := by
  unfold sc_E
  rw [sw_wE_long h0, h1]
  rfl
def sc_t (G : sw_G) (o : Nat) (f0 : Nat → va_E) : Nat → va_E := fun i => if i < o then f0 i else sc_E G i
def sc_g (G : sw_G) (o : Nat) (f0 : Nat → va_E) (E : va_E) : Nat → va_E := fun i => if i < o then f0 i else if i = o then E else sc_E G i
def sc_f (G : sw_G) (o : Nat) (f0 : Nat → va_E) (E : va_E) (b : Nat) (EB : va_E) : Nat → va_E := fun i => if i < o then f0 i else if i = o then E else if i = b then EB else sc_E G i
section SC3
variable {G : sw_G} {o b n : Nat} {f0 : Nat → va_E} {E E' EB EB' : va_E}
theorem sc_ent {f : Nat → va_E} (h : f o = E) : ∀ i, i < o + 1 → f i = sc_g G o f E i := by
  intro i hi
  by_cases h1 : i < o
  · simp [sc_g, h1]
  · have : i = o := by omega
    subst this
    simp [sc_g, h]
theorem sc_g_at : sc_g G o f0 E o = E := by simp [sc_g]
theorem sc_f_at : sc_f G o f0 E b EB o = E := by simp [sc_f]
theorem sc_f_atb (h : o < b) : sc_f G o f0 E b EB b = EB := by
  have h1 : ¬ b < o := by omega
  have h2 : ¬ b = o := by omega
  simp [sc_f, h1, h2]
theorem sc_g_up : va_up (sc_g G o f0 E) o E' = sc_g G o f0 E' := by
  funext i
  by_cases h : i = o
  · subst h; rw [va_up_self, sc_g_at]
  · rw [va_up_ne _ _ h]; simp [sc_g, h]
theorem sc_f_up : va_up (sc_f G o f0 E b EB) o E' = sc_f G o f0 E' b EB := by
  funext i
  by_cases h : i = o
  · subst h; rw [va_up_self, sc_f_at]
  · rw [va_up_ne _ _ h]; simp [sc_f, h]
theorem sc_f_upb (hb : o < b) : va_up (sc_f G o f0 E b EB) b EB' = sc_f G o f0 E b EB' := by
  funext i
  by_cases h : i = b
  · subst h; rw [va_up_self, sc_f_atb hb]
  · rw [va_up_ne _ _ h]; simp [sc_f, h]
theorem sc_g_new (h : o < n) (he : sc_E G n = EB) : va_up (sc_g G o f0 E) n EB = sc_g G o f0 E := by
  funext i
  by_cases hi : i = n
  · subst hi
    have h1 : ¬ i < o := by omega
    have h2 : ¬ i = o := by omega
    rw [va_up_self]
    simp [sc_g, h1, h2, he]
  · rw [va_up_ne _ _ hi]
theorem sc_f_new (h : o < n) (hb : b < n) (he : sc_E G n = EB') : va_up (sc_f G o f0 E b EB) n EB' = sc_f G o f0 E b EB := by
  funext i
  by_cases hi : i = n
  · subst hi
    have h1 : ¬ i < o := by omega
    have h2 : ¬ i = o := by omega
    have h3 : ¬ i = b := by omega
    rw [va_up_self]
    simp [sc_f, h1, h2, h3, he]
  · rw [va_up_ne _ _ hi]
theorem sc_g_newb (h : o < b) : va_up (sc_g G o f0 E) b EB = sc_f G o f0 E b EB := by
  funext i
  by_cases hi : i = b
  · subst hi
    rw [va_up_self, sc_f_atb h]
  · rw [va_up_ne _ _ hi]
    simp [sc_f, sc_g, hi]
theorem sc_f_done (he : sc_E G b = EB) : sc_f G o f0 E b EB = sc_g G o f0 E := by
  funext i
  by_cases hi : i = b
  · subst hi
    simp [sc_f, sc_g, he]
  · simp [sc_f, sc_g, hi]
theorem sc_g_open (h : o < b) (he : sc_E G b = EB) : sc_g G o f0 E = sc_f G o f0 E b EB := (sc_f_done he).symm
theorem sc_g_end (he : sc_E G o = E) : ∀ i, i < n → sc_g G o f0 E i = sc_t G o f0 i := by
  intro i _
  by_cases h1 : i < o
  · simp [sc_g, sc_t, h1]
  · by_cases h2 : i = o
    · subst h2
      simp [sc_g, sc_t, he]
    · simp [sc_g, sc_t, h1, h2]
theorem sc_g_back {q m : Nat} (h : o < q) : ∀ i, i < m → sc_t G q (va_up (sc_g G o f0 E) q E') i = sc_g G o f0 E i := by
  intro i _
  by_cases h1 : i < q
  · have h2 : i ≠ q := by omega
    simp only [sc_t, h1, if_true]
    rw [va_up_ne _ _ h2]
  · have h2 : ¬ i < o := by omega
    have h3 : ¬ i = o := by omega
    simp [sc_t, sc_g, h1, h2, h3]
theorem sc_f_back {q m : Nat} (h : o < q) (hb : b < q) : ∀ i, i < m → sc_t G q (va_up (sc_f G o f0 E b EB) q E') i = sc_f G o f0 E b EB i := by
  intro i _
  by_cases h1 : i < q
  · have h2 : i ≠ q := by omega
    simp only [sc_t, h1, if_true]
    rw [va_up_ne _ _ h2]
  · have h2 : ¬ i < o := by omega
    have h3 : ¬ i = o := by omega
    have h4 : ¬ i = b := by omega
    simp [sc_t, sc_f, h1, h2, h3, h4]
theorem sc_g_hi (h : o < n) : sc_g G o f0 E n = sc_E G n := by
  have h1 : ¬ n < o := by omega
  have h2 : ¬ n = o := by omega
  simp [sc_g, h1, h2]
theorem sc_f_hi (h : o < n) (hb : ¬ n = b) : sc_f G o f0 E b EB n = sc_E G n := by
  have h1 : ¬ n < o := by omega
  have h2 : ¬ n = o := by omega
  simp [sc_f, h1, h2, hb]
end SC3
