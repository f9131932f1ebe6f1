/-! a method's contract out of its picture; the ends, the calls, loops and joints -/
def sw_rm (d : Nat) : Room := { frames := d, cells := 0, slots := 0, locals := 40 * d }
def sw_Qc (G : sw_G) (o : Option Value) (S : sw_St) : Array Value → State → Outcome → State → Prop := fun _ st oc t => oc = .returned o ∧ va_P (sw_D G) sw_cl (sw_wL G S) t.heap ∧ va_F (sw_fr G) st t
def sw_Zm {α : Type} (G : sw_G) (ev : α → Option Value) : α → sw_St → State → Array Value → List Frame → State → Prop := fun r S s args below => MQ below (sw_Qc G (ev r) S) args s 0 0 (sw_fr G)
def sw_Pc (G : sw_G) (S : sw_St) (U : State) : Prop := va_P (sw_D G) sw_cl (sw_wL G S) U.heap ∧ va_K (sw_D G) sw_cl (sw_ty G) U ∧ sw_sta G U U.heap
def sw_Ev {α : Type} (G : sw_G) (y : MethodName) (cc : ByteArray) (nL : Nat) (rt : Option FieldType) (d : Nat) (ev : α → Option Value) (As : List Value) (S : sw_St) (tg : Option (α × sw_St)) : Prop :=
  ∀ (x : α × sw_St), tg = some x → Met (sw_l G) y (.code y cc nL rt :: sw_wd) (sw_rm d) (va_Pc As (sw_Pc G S)) (sw_Qc G (ev x.1) x.2) 0 0 (sw_fr G)
abbrev sw_ei : Int32 → Option Value := fun r => some (.int r)
abbrev sw_ev : Unit → Option Value := fun _ => none
abbrev sw_el : Int64 → Option Value := fun r => some (.long r)
abbrev sw_er (G : sw_G) : Nat → Option Value := fun r => some (sw_vr G r)
theorem sw_good : sw_wd.all goodWord = true := List.all_eq_true.mpr (fun _ h => (List.mem_filter.mp h).2)
theorem sw_wm {w : Cond} (h : w ∈ lw_tbl) (hg : goodWord w = true) : w ∈ sw_wd := List.mem_filter.mpr ⟨h, hg⟩
theorem sw_wt {w : Cond} {i : Nat} (h : tables_1[i]? = some w) (hg : goodWord w = true) : w ∈ sw_wd := sw_wm (List.mem_append_right _ (List.mem_of_getElem? h)) hg
theorem sw_wp {q : MethodName × Nat} {i : Nat} (h : lw_privs[i]? = some q) (hg : goodWord (Cond.selects q.1.cls q.1 q.1) = true) : Cond.selects q.1.cls q.1 q.1 ∈ sw_wd := sw_wm (List.mem_append_left _ (List.mem_map.mpr ⟨q, List.mem_of_getElem? h, rfl⟩)) hg
theorem sw_Ev_of {α : Type} {G : sw_G} {y : MethodName} {own : String} {cc : ByteArray} {nL : Nat} {rt : Option FieldType} {d : Nat} {ev : α → Option Value} {As : List Value} {S : sw_St} {tg : Option (α × sw_St)} {lv0 : List (Option Value)} (hy : plainName y.cls = true) (ho : y.cls = own) (hlen : (lg_sl As).length ≤ nL) (hlv : lv_args 0 As = sw_as 0 lv0) (k : sw_Rn G own cc nL rt (sw_rm d) 0 0 (sw_Zm G ev) 0 lv0 [] S tg) : sw_Ev G y cc nL rt d ev As S tg := by
  subst ho
  intro x hx
  refine Met.ofW (cc := cc) (maxL := nL) (ret := rt) hy rfl ?_
  intro p e s m args below meth c s₁ B hml hv
  obtain ⟨rfl, hP, hK, hZ⟩ := hv
  have hts := atoms_spec (ws := .code y cc nL rt :: sw_wd) B.pre
  rw [lg_entry_eq]
  exact k x hx p e s m _ below meth c ⟨B.exec, B.bytes, B.returns, hml, findClass_of_methodNamed B.named, fun w hw => hts w (List.mem_cons_of_mem _ hw), B.notSynchronized, hK, hZ⟩ s.heap [] _ hP va_S.rf (by rw [← hlv]; exact lv_entry As hlen)
section SW3
variable {α β : Type} {G : sw_G} {own : String} {cc : ByteArray} {nL : Nat} {rt : Option FieldType} {R : Room} {ce sl : Nat} {Zf : α → sw_St → State → Array Value → List Frame → State → Prop} {pc np : Nat} {lv lv' : List (Option Value)} {st : List Value} {S : sw_St} {tg tg2 : Option (α × sw_St)}
-- ends
theorem sw_iret {v : Int32} (hd : decode cc pc = .ok (.ireturn, 1)) : sw_Rn G own cc nL (some .int) R 0 0 (sw_Zm G sw_ei) pc lv [.int v] S (some (v, S)) := by
  intro x hx p e s m args below meth c C H locs ls hP hS hl
  cases hx
  exact W.iret C.1 C.2.1 C.2.2.1 (fun t ht hW => ⟨rfl, by rw [ht]; exact hP, hS.F ht⟩) hS.2.2 hd C.2.2.2.2.2.2.1
theorem sw_lret {v : Int64} (hd : decode cc pc = .ok (.lreturn, 1)) : sw_Rn G own cc nL (some .long) R 0 0 (sw_Zm G sw_el) pc lv [.long v] S (some (v, S)) := by
  intro x hx p e s m args below meth c C H locs ls hP hS hl
  cases hx
  exact W.lret C.1 C.2.1 C.2.2.1 (fun t ht hW => ⟨rfl, by rw [ht]; exact hP, hS.F ht⟩) hS.2.2 hd C.2.2.2.2.2.2.1
theorem sw_vret (hd : decode cc pc = .ok (.return_, 1)) : sw_Rn G own cc nL none R 0 0 (sw_Zm G sw_ev) pc lv [] S (some ((), S)) := by
  intro x hx p e s m args below meth c C H locs ls hP hS hl
  cases hx
  exact W.vret C.1 C.2.1 C.2.2.1 (fun t ht hW => ⟨rfl, by rw [ht]; exact hP, hS.F ht⟩) hS.2.2 hd C.2.2.2.2.2.2.1
theorem sw_aret {o : Nat} {n : String} (hd : decode cc pc = .ok (.areturn, 1)) : sw_Rn G own cc nL (some (.object n)) R 0 0 (sw_Zm G (sw_er G)) pc lv [sw_vr G o] S (some (o, S)) := by
  intro x hx p e s m args below meth c C H locs ls hP hS hl
  cases hx
  exact W.aret C.1 C.2.1 C.2.2.1 (Or.inl ⟨n, rfl⟩) (Or.inr ⟨_, rfl⟩) (fun t ht hW => ⟨rfl, by rw [ht]; exact hP, hS.F ht⟩) hS.2.2 hd C.2.2.2.2.2.2.1
theorem sw_zret {v : Int32} (hd : decode cc pc = .ok (.ireturn, 1)) : sw_Rn G own cc nL (some .boolean) R 0 0 (sw_Zm G sw_ei) pc lv [.int v] S (some (vp_nar .boolean v, S)) := by
  intro x hx p e s m args below meth c C H locs ls hP hS hl
  cases hx
  obtain ⟨hexec, hb, hr, -, -, -, hlocks, -⟩ := C
  have hn : narrow .boolean (.int v) = .int (vp_nar .boolean v) := rfl
  intro T hT X
  obtain ⟨fs, hret, hrun, hended, hW, hframe⟩ := X.leave (v := some (.int (vp_nar .boolean v))) (fun h => by rw [hr] at h; cases h)
  have hmeth' : T.vm.method? m = some meth := X.method'
  refine ⟨T.setFrames fs, ?_, .returned (some (.int (vp_nar .boolean v))), hrun, hended, ⟨rfl, by show va_P _ _ _ T.heap; rw [hT]; exact hP, hS.F hT⟩, locs, ⟨⟨_, rfl⟩, hW, hframe⟩, hS.2.2⟩
  jvm_step X.here [X.here.top, hexec, hb, hd, hmeth', hr, hn]
  (try refine ⟨rfl, ?_⟩); (try refine ⟨rfl, ?_⟩)
  first | (intro acts; rw [hret _ acts rfl rfl rfl]) | rw [hret _ _ rfl rfl rfl]
  exact Steps.refl _
-- static arrays
theorem sw_gets {index k N : Nat} {C n ref : String} (hk : ∀ U H, sw_sta G U H → sw_s1 G U H C n k N) (hr : ref = C) (hw : Cond.fieldLink own index ref n "[I" ∈ sw_wd) (hd : decode cc pc = .ok (.getstatic index, 3)) (hn : pc + 3 = np) (kk : sw_Rn G own cc nL rt R ce sl Zf np lv (.ref (sw_ta G k) :: st) S tg) : sw_Rn G own cc nL rt R ce sl Zf pc lv st S tg := by
  subst hn
  subst hr
  intro x hx p e s m args below meth c C' H locs ls hP hS hl
  exact va_gets C'.1 C'.2.1 (hk _ _ C'.2.2.2.2.2.2.2.2).1 hS C'.2.2.2.2.1 (C'.2.2.2.2.2.1 _ hw) (fun _ h9 => h9) hd (kk x hx p e s m args below meth c C' H locs ls hP hS hl)
theorem sw_getsN {index k N : Nat} {C n ref : String} (hk : ∀ U H, sw_sta G U H → sw_s1 G U H C n k N) (hr : ref = C) (hw : (own, index, ref, n) ∈ sw_nf) (hd : decode cc pc = .ok (.getstatic index, 3)) (hn : pc + 3 = np) (kk : sw_Rn G own cc nL rt R ce sl Zf np lv (.ref (sw_ta G k) :: st) S tg) : sw_Rn G own cc nL rt R ce sl Zf pc lv st S tg := by
  subst hn
  subst hr
  intro x hx p e s m args below meth c C' H locs ls hP hS hl
  exact va_getsN C'.1 C'.2.1 (hk _ _ C'.2.2.2.2.2.2.2.2).1 hS C'.2.2.2.2.1 (va_Nw.use rfl (C'.2.2.2.2.2.2.2.2.2.2.2.2.1 _ hw)) (fun _ h9 => h9) hd (kk x hx p e s m args below meth c C' H locs ls hP hS hl)
theorem sw_tald {k N : Nat} {C n : String} {i : Int32} (hk : ∀ U H, sw_sta G U H → sw_s1 G U H C n k N) (hd : decode cc pc = .ok (.iaload, 1)) (hn : pc + 1 = np) (kk : sw_Rn G own cc nL rt R ce sl Zf np lv (.int ((sw_tb k).getD i.toNatClampNeg 0) :: st) S tg) : sw_Rn G own cc nL rt R ce sl Zf pc lv (.int i :: .ref (sw_ta G k) :: st) S (sw_gd (sw_in i N) tg) := by
  subst hn
  intro x hx p e s m args below meth c C' H locs ls hP hS hl
  obtain ⟨h1, h2⟩ := sw_gd_some hx
  exact va_ti C'.1 C'.2.1 (hk _ _ C'.2.2.2.2.2.2.2.2).2 hS (sw_in_vp h1) rfl hd (kk x h2 p e s m args below meth c C' H locs ls hP hS hl)
-- the copying of a stretch
theorem sw_cg_all {sp dp n : Int32} {n0 n1 : Nat} (h : sw_cg sp dp n n0 n1 = true) : ¬ sp < 0 ∧ ¬ dp < 0 ∧ ¬ n < 0 ∧ sp.toNatClampNeg + n.toNatClampNeg ≤ n0 ∧ dp.toNatClampNeg + n.toNatClampNeg ≤ n1 := by
  unfold sw_cg at h
  simpa only [Bool.and_eq_true, Bool.not_eq_true', decide_eq_false_iff_not, decide_eq_true_eq] using h
def sw_acw : Prop := Cond.native arraycopyName ∈ sw_wd ∧ Cond.static arraycopyName ∈ sw_wd ∧ Cond.initialized "java/lang/System" ∈ sw_wd
theorem sw_cpyI {o q n0 n1 index : Nat} {sp dp n : Int32} (ha : sw_acw) (ho : sw_kd o = 10) (hq : sw_kd q = 10) (hl0 : sw_ln o = n0) (hl1 : sw_ln q = n1) (hw : Cond.methodLink own index arraycopyName ∈ sw_wd) (hfr : 1 ≤ R.frames) (hlo : (st.map fun v => v.category).sum + 18 ≤ R.locals) (hd : decode cc pc = .ok (.invokestatic index, 3)) (hn : pc + 3 = np) (kk : sw_Rn G own cc nL rt R ce sl Zf np lv st (sw_ci S o q sp.toNatClampNeg dp.toNatClampNeg n.toNatClampNeg) tg) : sw_Rn G own cc nL rt R ce sl Zf pc lv (.int n :: .int dp :: sw_vr G q :: .int sp :: sw_vr G o :: st) S (sw_gd (sw_cg sp dp n n0 n1) tg) := by
  subst hn
  subst hl0
  subst hl1
  intro x hx p e s m args below meth c C H locs ls hP hS hl
  obtain ⟨h1, h2⟩ := sw_gd_some hx
  obtain ⟨g1, g2, g3, g4, g5⟩ := sw_cg_all h1
  have ho5 := sw_kd_lt (i := o) (by omega)
  have hq5 := sw_kd_lt (i := q) (by omega)
  refine va_copyi C.1 C.2.1 (C.2.2.2.1.trans hl.1.symm) C.2.2.2.2.1 (C.2.2.2.2.2.1 _ hw) (C.2.2.2.2.2.1 _ ha.1) (C.2.2.2.2.2.1 _ ha.2.1) (C.2.2.2.2.2.1 _ ha.2.2) C.2.2.2.2.2.2.2.1 hP (sw_wD G S) hS o q 0 0 (by rw [sw_wL_get G S ho5, sw_wE_int ho]) (by rw [sw_wL_get G S hq5, sw_wE_int hq]) rfl rfl rfl g1 g2 g3 g4 g5 (fun _ _ => rfl) hfr hlo hd (fun H1 locs1 hP1 _ hS1 => ?_)
  rw [sw_wL_set (S := S) (T := sw_ci S o q sp.toNatClampNeg dp.toNatClampNeg n.toNatClampNeg) hq5 (by rw [sw_wE_int hq]; simp [sw_ci]) (fun a h => by simp [sw_ci, h]) (fun _ _ => rfl)] at hP1
  exact kk x h2 p e s m args below meth c C H1 locs1 ls hP1 hS1 hl
theorem sw_cpyJ {o q n0 n1 index : Nat} {sp dp n : Int32} (ha : sw_acw) (ho : sw_kd o = 11) (hq : sw_kd q = 11) (hl0 : sw_ln o = n0) (hl1 : sw_ln q = n1) (hw : Cond.methodLink own index arraycopyName ∈ sw_wd) (hfr : 1 ≤ R.frames) (hlo : (st.map fun v => v.category).sum + 18 ≤ R.locals) (hd : decode cc pc = .ok (.invokestatic index, 3)) (hn : pc + 3 = np) (kk : sw_Rn G own cc nL rt R ce sl Zf np lv st (sw_cj S o q sp.toNatClampNeg dp.toNatClampNeg n.toNatClampNeg) tg) : sw_Rn G own cc nL rt R ce sl Zf pc lv (.int n :: .int dp :: sw_vr G q :: .int sp :: sw_vr G o :: st) S (sw_gd (sw_cg sp dp n n0 n1) tg) := by
  subst hn
  subst hl0
  subst hl1
  intro x hx p e s m args below meth c C H locs ls hP hS hl
  obtain ⟨h1, h2⟩ := sw_gd_some hx
  obtain ⟨g1, g2, g3, g4, g5⟩ := sw_cg_all h1
  have ho5 := sw_kd_lt (i := o) (by omega)
  have hq5 := sw_kd_lt (i := q) (by omega)
  refine va_copyl C.1 C.2.1 (C.2.2.2.1.trans hl.1.symm) C.2.2.2.2.1 (C.2.2.2.2.2.1 _ hw) (C.2.2.2.2.2.1 _ ha.1) (C.2.2.2.2.2.1 _ ha.2.1) (C.2.2.2.2.2.1 _ ha.2.2) C.2.2.2.2.2.2.2.1 hP (sw_wD G S) hS o q 1 1 (by rw [sw_wL_get G S ho5, sw_wE_long ho]) (by rw [sw_wL_get G S hq5, sw_wE_long hq]) rfl rfl rfl g1 g2 g3 g4 g5 (fun _ _ => rfl) hfr hlo hd (fun H1 locs1 hP1 _ hS1 => ?_)
  rw [sw_wL_set (S := S) (T := sw_cj S o q sp.toNatClampNeg dp.toNatClampNeg n.toNatClampNeg) hq5 (by rw [sw_wE_long hq]; simp [sw_cj]) (fun _ _ => rfl) (fun a h => by simp [sw_cj, h])] at hP1
  exact kk x h2 p e s m args below meth c C H1 locs1 ls hP1 hS1 hl
-- calls
def sw_fit (R : Room) (ce sl nL d : Nat) : Prop := d + 1 ≤ R.frames ∧ 19 + nL + 40 * d ≤ R.locals ∧ ce ≤ R.cells ∧ sl ≤ R.slots
theorem sw_fit_rm {d e n : Nat} (h : d < e) (hn : n ≤ 21) : sw_fit (sw_rm e) 0 0 n d := by
  unfold sw_fit sw_rm
  refine ⟨?_, ?_, Nat.zero_le _, Nat.zero_le _⟩
  · show d + 1 ≤ e
    omega
  · show 19 + n + 40 * d ≤ 40 * e
    omega
/-- a method's words: its code, its class initialised, its name -/
def sw_mw (y : MethodName) (cc : ByteArray) (nL : Nat) (rt : Option FieldType) (n : Nat) : Prop := Cond.code y cc nL rt ∈ sw_wd ∧ Cond.initialized y.cls ∈ sw_wd ∧ (y.cls ≠ "java/lang/invoke/MethodHandle" ∧ y.cls ≠ "java/lang/invoke/VarHandle" ∧ (parseMethodDescriptor y.desc).map (fun d => d.parameters.length) = some n)
theorem sw_goodIn {y : MethodName} {cc : ByteArray} {nL : Nat} {rt : Option FieldType} {n : Nat} (h : sw_mw y cc nL rt n) : GoodIn sw_wd (.code y cc nL rt :: sw_wd) := by
  intro w hw
  rcases List.mem_cons.mp hw with rfl | hw
  · exact ⟨h.1, good_of_word (List.all_eq_true.mp sw_good _ h.1)⟩
  · exact ⟨hw, good_of_word (List.all_eq_true.mp sw_good _ hw)⟩
theorem sw_blind {As : List Value} : FrameBlind (va_Pc As (sw_Pc G S)) := by
  intro a U g mk q
  obtain ⟨q0, qP, qK, qZ⟩ := q
  exact ⟨q0, qP, va_K.moved (u := U) (U := U.calling g mk a) (Vm.Alike.refl U.vm) qK, sw_sta_same (s := U) (U := U.calling g mk a) rfl qZ⟩
theorem sw_runW {p : Program} {e : Env} {s : State} {m : MethodId} {args : Array Value} {below : List Frame} {meth : Method} {c : Code} {H : Heap} {locs : List Loc} {ls : Array Slot} {st0 rest : List Value} {a : Array Value} {o : Option Value} {Q : State → Prop} (hr : va_Run p (sw_l G) e R s m args below meth c H locs ce sl 0 0 (F0 m pc ls st0) rest (sw_Qc G o S a) (sw_fr G)) (hS : va_S (sw_fr G) s.heap H locs)
    (kk : ∀ (H1 : Heap) (locs1 : List Loc), va_P (sw_D G) sw_cl (sw_wL G S) H1 → va_S (sw_fr G) s.heap H1 locs1 → W p (sw_l G) e R s m args below meth c H1 locs1 ce sl Q (F0 m (pc + 3) ls (o.toList ++ rest))) : W p (sw_l G) e R s m args below meth c H locs ce sl Q (F0 m pc ls st0) := by
  intro T hT X
  obtain ⟨v, st₀, t, T', L, h0, X', hL, e1, e2, ⟨hv, hPt, hz, hk⟩, st⟩ := hr T hT X
  cases hv
  rw [h0] at hz hk
  obtain ⟨t2, a1, b1⟩ := kk T'.heap (locs ++ L) (by rw [e1]; exact hPt) ⟨Nat.le_trans hS.1 (by rw [e1]; exact hz), fun q h1 h2 => by rw [e1, hk q (Nat.lt_of_lt_of_le h1 hS.1) h2]; exact hS.2.1 q h1 h2, fun q hq => (List.mem_append.mp hq).elim (hS.2.2 q) (hL q)⟩ T' rfl X'
  exact ⟨t2, st t2 a1, b1⟩
theorem sw_callV {y : MethodName} {cc2 : ByteArray} {nL2 : Nat} {rt2 : Option FieldType} {d o c N index : Nat} {T : u_T} {ev : β → Option Value} {As rest : List Value} {tgc : Option (β × sw_St)} {K : β → sw_St → Option (α × sw_St)} (hE : sw_Ev G y cc2 nL2 rt2 d ev (sw_vr G o :: As) S tgc) (hk : sw_kc c y.cls T N) (ho : sw_kd o = c) (hm : sw_mw y cc2 nL2 rt2 As.length) (hi : Cond.instanceMethod y ∈ sw_wd) (hs : Cond.selects y.cls y y ∈ sw_wd) (hl : Cond.methodLink own index y ∈ sw_wd) (hd : decode cc pc = .ok (.invokevirtual index, 3)) (hf : sw_fit R ce sl nL2 d) (hst : st = As.reverse ++ sw_vr G o :: rest) (hre : (rest.map fun v => v.category).sum ≤ 8) (hn : pc + 3 = np)
    (k : ∀ (r : β) (S' : sw_St), sw_Rn G own cc nL rt R ce sl Zf np lv ((ev r).toList ++ rest) S' (K r S')) : sw_Rn G own cc nL rt R ce sl Zf pc lv st S (sw_bd tgc K) := by
  subst hn
  intro x hx p e s m args below meth c' C H locs ls hP hS hl'
  obtain ⟨q, hq, hx2⟩ := sw_bd_some hx
  obtain ⟨f1, f2, f3, f4⟩ := hf
  have hw := C.2.2.2.2.2.1
  obtain ⟨g5, g6⟩ := sw_wL_obj (G := G) (S := S) ho hk.2.2.1
  refine sw_runW (va_runV (b := sw_B G + o) (As := As) (rest := rest) ⟨C.1, C.2.1, C.2.2.2.1, C.2.2.2.2.1, hw⟩ (hE q hq) ⟨callB_of As.length hw (sw_goodIn hm) rfl rfl rfl (hw _ hm.2.1) (hw _ hl) hm.2.2 ⟨f1, by show 8 + (nL2 + 11) + 40 * d ≤ _; omega⟩, hw _ hi, hw _ hs⟩ ⟨sw_blind, va_recv C.2.2.2.2.2.2.2.1 hP hk.1 g6, fun U hU hW => ⟨rfl, by rw [hU]; exact hP, va_K.moved hW.alike C.2.2.2.2.2.2.2.1, by rw [hU]; exact sw_sta_warm hW (sw_sta_kept C.2.2.2.2.2.2.2.2 (fun a h1 h2 => hS.2.1 a h1 h2))⟩⟩ rfl rfl hl'.1 hst (lv_room hre) hd ⟨f3, f4⟩) hS (fun H1 locs1 hP1 hS1 => k q.1 q.2 x hx2 p e s m args below meth c' C H1 locs1 ls hP1 hS1 hl')
theorem sw_callS {y : MethodName} {cc2 : ByteArray} {nL2 : Nat} {rt2 : Option FieldType} {d index : Nat} {ev : β → Option Value} {As rest : List Value} {tgc : Option (β × sw_St)} {K : β → sw_St → Option (α × sw_St)} (hE : sw_Ev G y cc2 nL2 rt2 d ev As S tgc) (hm : sw_mw y cc2 nL2 rt2 As.length) (hi : Cond.static y ∈ sw_wd) (hl : Cond.methodLink own index y ∈ sw_wd) (hd : decode cc pc = .ok (.invokestatic index, 3)) (hf : sw_fit R ce sl nL2 d) (hst : st = As.reverse ++ rest) (hre : (rest.map fun v => v.category).sum ≤ 8) (hn : pc + 3 = np)
    (k : ∀ (r : β) (S' : sw_St), sw_Rn G own cc nL rt R ce sl Zf np lv ((ev r).toList ++ rest) S' (K r S')) : sw_Rn G own cc nL rt R ce sl Zf pc lv st S (sw_bd tgc K) := by
  subst hn
  intro x hx p e s m args below meth c' C H locs ls hP hS hl'
  obtain ⟨q, hq, hx2⟩ := sw_bd_some hx
  obtain ⟨f1, f2, f3, f4⟩ := hf
  have hw := C.2.2.2.2.2.1
  refine sw_runW (va_runS (As := As) (rest := rest) ⟨C.1, C.2.1, C.2.2.2.1, C.2.2.2.2.1, hw⟩ (hE q hq) ⟨callB_of As.length hw (sw_goodIn hm) rfl rfl rfl (hw _ hm.2.1) (hw _ hl) hm.2.2 ⟨f1, by show 8 + (nL2 + 11) + 40 * d ≤ _; omega⟩, hw _ hi⟩ ⟨sw_blind, fun U hU hW => ⟨rfl, by rw [hU]; exact hP, va_K.moved hW.alike C.2.2.2.2.2.2.2.1, by rw [hU]; exact sw_sta_warm hW (sw_sta_kept C.2.2.2.2.2.2.2.2 (fun a h1 h2 => hS.2.1 a h1 h2))⟩⟩ rfl rfl hl'.1 hst (lv_room hre) hd ⟨f3, f4⟩) hS (fun H1 locs1 hP1 hS1 => k q.1 q.2 x hx2 p e s m args below meth c' C H1 locs1 ls hP1 hS1 hl')
theorem sw_callSN {y : MethodName} {cc2 : ByteArray} {nL2 : Nat} {rt2 : Option FieldType} {d index : Nat} {ev : β → Option Value} {As rest : List Value} {tgc : Option (β × sw_St)} {K : β → sw_St → Option (α × sw_St)} (hE : sw_Ev G y cc2 nL2 rt2 d ev As S tgc) (hm : sw_mw y cc2 nL2 rt2 As.length) (hi : Cond.static y ∈ sw_wd) (hl : (own, index, y) ∈ sw_nm) (hd : decode cc pc = .ok (.invokestatic index, 3)) (hf : sw_fit R ce sl nL2 d) (hst : st = As.reverse ++ rest) (hre : (rest.map fun v => v.category).sum ≤ 8) (hn : pc + 3 = np)
    (k : ∀ (r : β) (S' : sw_St), sw_Rn G own cc nL rt R ce sl Zf np lv ((ev r).toList ++ rest) S' (K r S')) : sw_Rn G own cc nL rt R ce sl Zf pc lv st S (sw_bd tgc K) := by
  subst hn
  intro x hx p e s m args below meth c' C H locs ls hP hS hl'
  obtain ⟨q, hq, hx2⟩ := sw_bd_some hx
  obtain ⟨f1, f2, f3, f4⟩ := hf
  have hw := C.2.2.2.2.2.1
  refine sw_runW (va_runSN (As := As) (rest := rest) ⟨C.1, C.2.1, C.2.2.2.1, C.2.2.2.2.1, hw⟩ (hE q hq) ⟨va_cnB As.length hw (sw_goodIn hm) rfl rfl rfl (C.2.2.2.2.2.2.2.2.2.2.2.2.2 _ hl) (hw _ hm.2.1) hm.2.2 ⟨f1, by show 8 + (nL2 + 11) + 40 * d ≤ _; omega⟩, hw _ hi, trivial⟩ ⟨sw_blind, fun U hU hW => ⟨rfl, by rw [hU]; exact hP, va_K.moved hW.alike C.2.2.2.2.2.2.2.1, by rw [hU]; exact sw_sta_warm hW (sw_sta_kept C.2.2.2.2.2.2.2.2 (fun a h1 h2 => hS.2.1 a h1 h2))⟩⟩ rfl rfl hl'.1 hst (lv_room hre) hd ⟨f3, f4⟩) hS (fun H1 locs1 hP1 hS1 => k q.1 q.2 x hx2 p e s m args below meth c' C H1 locs1 ls hP1 hS1 hl')
end SW3
