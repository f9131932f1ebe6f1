/-! the law's start: the tables' words, the classes, the static rows -/
theorem sx_c_RL_10 : Cond.classLink RL 10 RX9 ∈ sw_wd := sw_wu5 (i := 16) (by decide +kernel) rfl
theorem sx_c_RL_7 : Cond.classLink RL 7 RX8 ∈ sw_wd := sw_wu1 (i := 14) (by decide +kernel) rfl
theorem sx_i_8 : Cond.instantiable RX8 8 ∈ sw_wd := sw_wu1 (i := 15) (by decide +kernel) rfl
theorem sx_i_9 : Cond.instantiable RX9 42 ∈ sw_wd := sw_wu5 (i := 17) (by decide +kernel) rfl
theorem sx_im_8 : Cond.instanceMethod yX8_init ∈ sw_wd := sw_wu1 (i := 17) (by decide +kernel) rfl
theorem sx_im_9 : Cond.instanceMethod yX9_init ∈ sw_wd := sw_wu5 (i := 19) (by decide +kernel) rfl
theorem sx_m_RL_12 : Cond.methodLink RL 12 yX9_init ∈ sw_wd := sw_wu5 (i := 18) (by decide +kernel) rfl
theorem sx_m_RL_9 : Cond.methodLink RL 9 yX8_init ∈ sw_wd := sw_wu1 (i := 16) (by decide +kernel) rfl
theorem sx_mw_8 : sw_mw yX8_init cX8_init 2 none 0 := ⟨sw_wu1 (i := 18) (by decide +kernel) rfl, sw_wu1 (i := 1) (by decide +kernel) rfl, by decide, by decide, by decide +kernel⟩
theorem sx_mw_9 : sw_mw yX9_init cX9_init 2 none 0 := ⟨sw_wu5 (i := 20) (by decide +kernel) rfl, sw_wu1 (i := 10) (by decide +kernel) rfl, by decide, by decide, by decide +kernel⟩
theorem sx_z_8 : Cond.initialized RX8 ∈ sw_wd := sw_wu1 (i := 1) (by decide +kernel) rfl
theorem sx_z_9 : Cond.initialized RX9 ∈ sw_wd := sw_wu1 (i := 10) (by decide +kernel) rfl
theorem sz_u1 {w : Cond} {i : Nat} (h : tables_1_1[i]? = some w) : w ∈ lw_tbl := List.mem_append_right _ (by unfold tables_1; exact (List.mem_append_left _ (List.mem_of_getElem? h)))
theorem sz_u2 {w : Cond} {i : Nat} (h : tables_1_2[i]? = some w) : w ∈ lw_tbl := List.mem_append_right _ (by unfold tables_1; exact (List.mem_append_right _ (List.mem_append_left _ (List.mem_of_getElem? h))))
theorem sz_u3 {w : Cond} {i : Nat} (h : tables_1_3[i]? = some w) : w ∈ lw_tbl := List.mem_append_right _ (by unfold tables_1; exact (List.mem_append_right _ (List.mem_append_right _ (List.mem_append_left _ (List.mem_of_getElem? h)))))
theorem sz_u4 {w : Cond} {i : Nat} (h : tables_1_4[i]? = some w) : w ∈ lw_tbl := List.mem_append_right _ (by unfold tables_1; exact (List.mem_append_right _ (List.mem_append_right _ (List.mem_append_right _ (List.mem_append_left _ (List.mem_of_getElem? h))))))
theorem sz_u5 {w : Cond} {i : Nat} (h : tables_1_5[i]? = some w) : w ∈ lw_tbl := List.mem_append_right _ (by unfold tables_1; exact (List.mem_append_right _ (List.mem_append_right _ (List.mem_append_right _ (List.mem_append_right _ (List.mem_append_left _ (List.mem_of_getElem? h)))))))
theorem sz_u6 {w : Cond} {i : Nat} (h : tables_1_6[i]? = some w) : w ∈ lw_tbl := List.mem_append_right _ (by unfold tables_1; exact (List.mem_append_right _ (List.mem_append_right _ (List.mem_append_right _ (List.mem_append_right _ (List.mem_append_right _ (List.mem_append_left _ (List.mem_of_getElem? h))))))))
theorem sz_u7 {w : Cond} {i : Nat} (h : tables_1_7[i]? = some w) : w ∈ lw_tbl := List.mem_append_right _ (by unfold tables_1; exact (List.mem_append_right _ (List.mem_append_right _ (List.mem_append_right _ (List.mem_append_right _ (List.mem_append_right _ (List.mem_append_right _ (List.mem_of_getElem? h))))))))
theorem sz_cls {s : State} {args : Array Value} (hw : ∀ w ∈ sw_wd, w.before args s = true) : ∃ D : va_G, ∀ (c : Nat) (q : vw_C), sw_cl[c]? = some q → u_Kn s q.1 q.2.1 q.2.2 (D.1 c) (D.2 c) := by
  obtain ⟨c0, i0, k0⟩ := u_known (C := RX0) (T := TX0) (N := 5) (n := 5) hw sw_kc_0.2.1 (hw _ sx_i_0)
  obtain ⟨c1, i1, k1⟩ := u_known (C := RX1) (T := TX1) (N := 6) (n := 6) hw sw_kc_1.2.1 (hw _ sx_i_1)
  obtain ⟨c2, i2, k2⟩ := u_known (C := RX2) (T := TX2) (N := 8) (n := 8) hw sw_kc_2.2.1 (hw _ sx_i_2)
  obtain ⟨c3, i3, k3⟩ := u_known (C := RX3) (T := TX3) (N := 6) (n := 6) hw sw_kc_3.2.1 (hw _ sx_i_3)
  obtain ⟨c4, i4, k4⟩ := u_known (C := RX4) (T := TX4) (N := 14) (n := 14) hw sw_kc_4.2.1 (hw _ sx_i_4)
  obtain ⟨c5, i5, k5⟩ := u_known (C := RX5) (T := TX5) (N := 5) (n := 5) hw sw_kc_5.2.1 (hw _ sx_i_5)
  obtain ⟨c6, i6, k6⟩ := u_known (C := RX6) (T := TX6) (N := 5) (n := 5) hw sw_kc_6.2.1 (hw _ sx_i_6)
  obtain ⟨c7, i7, k7⟩ := u_known (C := RX7) (T := TX7) (N := 13) (n := 13) hw sw_kc_7.2.1 (hw _ sx_i_7)
  obtain ⟨c8, i8, k8⟩ := u_known (C := RX8) (T := TX8) (N := 8) (n := 8) hw sw_kc_8.2.1 (hw _ sx_i_8)
  obtain ⟨c9, i9, k9⟩ := u_known (C := RX9) (T := TX9) (N := 42) (n := 42) hw sw_kc_9.2.1 (hw _ sx_i_9)
  refine ⟨(fun k => if k = 0 then c0 else if k = 1 then c1 else if k = 2 then c2 else if k = 3 then c3 else if k = 4 then c4 else if k = 5 then c5 else if k = 6 then c6 else if k = 7 then c7 else if k = 8 then c8 else c9, fun k => if k = 0 then i0 else if k = 1 then i1 else if k = 2 then i2 else if k = 3 then i3 else if k = 4 then i4 else if k = 5 then i5 else if k = 6 then i6 else if k = 7 then i7 else if k = 8 then i8 else i9), ?_⟩
  intro c q hq
  match c, hq with
  | 0, hq => cases hq; exact k0
  | 1, hq => cases hq; exact k1
  | 2, hq => cases hq; exact k2
  | 3, hq => cases hq; exact k3
  | 4, hq => cases hq; exact k4
  | 5, hq => cases hq; exact k5
  | 6, hq => cases hq; exact k6
  | 7, hq => cases hq; exact k7
  | 8, hq => cases hq; exact k8
  | 9, hq => cases hq; exact k9
  | k + 10, hq => simp at hq
theorem sz_pr {s : State} {args : Array Value} {ty : FieldType} (h : (Cond.arrayClass ty).before args s = true) : ∃ cA, ArrOfT s cA ty ∧ s.vm.findClass ("[" ++ ty.toString) = some cA := by
  obtain ⟨cA, k, comp, a1, a2, a3⟩ := Cond.arrayClass_spec h
  exact ⟨cA, fun n z => ⟨(fun k h => by cases h), k, a2, comp, a3⟩, a1⟩
theorem sz_ov {s : State} {C : String} (h : va_AO C s) : ∃ cA, ArrOfT s cA (.object C) ∧ va_RA s cA (.object C) := by
  obtain ⟨comp, cA, k, b1, -, b3, b4, b5⟩ := Cond.arrayOver_spec (args := #[]) (first := s) (o := none) (idx := []) h
  exact ⟨cA, fun n z => ⟨(fun k h => by cases h), k, b3, comp, b4⟩, k, comp, b3, b4, b1, b5⟩
theorem sz_T {s : State} {args : Array Value} (hgv : (Jvm.Cond.and given_1 narrow_1).before args s = true) {C n : String} {k N : Nat} {A : Nat → Prop} (hN : N < 2 ^ 31) (h1 : Cond.arrayOf (.static C n "[I") .int ∈ flatC (Jvm.Cond.and given_1 narrow_1)) (h2 : Cond.eq (.length (.static C n "[I")) (.int (Int32.ofNat N)) ∈ flatC (Jvm.Cond.and given_1 narrow_1)) (h3 : ∀ j, j < N → Cond.eq (.elem (.static C n "[I") (.int (Int32.ofNat j))) (.int ((sw_tb k).getD j 0)) ∈ flatC (Jvm.Cond.and given_1 narrow_1)) (hl : (Cond.laysStatic C n "[I").before args s = true) (hi : (Cond.initialized C).before args s = true) (hA : ∀ a : Nat, a < s.heap.size → ¬ A a) : ∃ t : Nat, va_Z C n "[I" (.ref t) A s s.heap ∧ va_T .int t N (fun j => .int ((sw_tb k).getD j 0)) A s s.heap := by
  have hs := flat_of_before _ hgv
  obtain ⟨t, e1, e2⟩ := va_Tof (f := fun j => .int ((sw_tb k).getD j 0)) hN (hs _ h1) (va_eqt (hs _ h2)) (fun j hj => va_eqt (hs _ (h3 j hj))) hA
  exact ⟨t, va_Zref hl hi e1 hA, e2⟩
theorem sz_T0 {s : State} {args : Array Value} (hts : ∀ w ∈ lw_tbl, w.before args s = true) (hgv : (Jvm.Cond.and given_1 narrow_1).before args s = true) {A : Nat → Prop} (hA : ∀ a : Nat, a < s.heap.size → ¬ A a) : ∃ t : Nat, va_Z RX8 "GREATEST" "[I" (.ref t) A s s.heap ∧ va_T .int t 8 (fun j => .int ((sw_tb 0).getD j 0)) A s s.heap :=
  sz_T hgv (by decide) (by decide +kernel) (by decide +kernel) (by decide +kernel) (hts _ (sz_u2 (i := 156) (by decide +kernel))) (hts _ (sz_u1 (i := 1) (by decide +kernel))) hA
theorem sz_T1 {s : State} {args : Array Value} (hts : ∀ w ∈ lw_tbl, w.before args s = true) (hgv : (Jvm.Cond.and given_1 narrow_1).before args s = true) {A : Nat → Prop} (hA : ∀ a : Nat, a < s.heap.size → ¬ A a) : ∃ t : Nat, va_Z RX8 "BESIDE" "[I" (.ref t) A s s.heap ∧ va_T .int t 12 (fun j => .int ((sw_tb 1).getD j 0)) A s s.heap :=
  sz_T hgv (by decide) (by decide +kernel) (by decide +kernel) (by decide +kernel) (hts _ (sz_u3 (i := 43) (by decide +kernel))) (hts _ (sz_u1 (i := 1) (by decide +kernel))) hA
theorem sz_T2 {s : State} {args : Array Value} (hts : ∀ w ∈ lw_tbl, w.before args s = true) (hgv : (Jvm.Cond.and given_1 narrow_1).before args s = true) {A : Nat → Prop} (hA : ∀ a : Nat, a < s.heap.size → ¬ A a) : ∃ t : Nat, va_Z RX0 "ABOVE" "[I" (.ref t) A s s.heap ∧ va_T .int t 8 (fun j => .int ((sw_tb 2).getD j 0)) A s s.heap :=
  sz_T hgv (by decide) (by decide +kernel) (by decide +kernel) (by decide +kernel) (hts _ (sz_u4 (i := 189) (by decide +kernel))) (hts _ (sz_u1 (i := 8) (by decide +kernel))) hA
theorem sz_T3 {s : State} {args : Array Value} (hts : ∀ w ∈ lw_tbl, w.before args s = true) (hgv : (Jvm.Cond.and given_1 narrow_1).before args s = true) {A : Nat → Prop} (hA : ∀ a : Nat, a < s.heap.size → ¬ A a) : ∃ t : Nat, va_Z RX0 "BODY_OF" "[I" (.ref t) A s s.heap ∧ va_T .int t 32 (fun j => .int ((sw_tb 3).getD j 0)) A s s.heap :=
  sz_T hgv (by decide) (by decide +kernel) (by decide +kernel) (by decide +kernel) (hts _ (sz_u4 (i := 175) (by decide +kernel))) (hts _ (sz_u1 (i := 8) (by decide +kernel))) hA
theorem sz_nst {s : State} {args : Array Value} (hts : ∀ w ∈ lw_tbl, w.before args s = true) : sw_nst s := by
  refine ⟨fun q hq => ?_, fun q hq => ?_⟩
  · simp only [sw_nf, List.mem_cons, List.not_mem_nil, or_false] at hq
    rcases hq with rfl | rfl
    · exact va_Nw.of rfl (hts _ (sz_u3 (i := 42) (by decide +kernel)))
    · exact va_Nw.of rfl (hts _ (sz_u4 (i := 27) (by decide +kernel)))
  · simp only [sw_nm, List.mem_cons, List.not_mem_nil, or_false] at hq
    rcases hq with rfl | rfl | rfl | rfl | rfl | rfl | rfl | rfl | rfl | rfl
    · exact va_Nw.of rfl (hts _ (sz_u2 (i := 102) (by decide +kernel)))
    · exact va_Nw.of rfl (hts _ (sz_u2 (i := 108) (by decide +kernel)))
    · exact va_Nw.of rfl (hts _ (sz_u2 (i := 237) (by decide +kernel)))
    · exact va_Nw.of rfl (hts _ (sz_u3 (i := 54) (by decide +kernel)))
    · exact va_Nw.of rfl (hts _ (sz_u3 (i := 67) (by decide +kernel)))
    · exact va_Nw.of rfl (hts _ (sz_u3 (i := 101) (by decide +kernel)))
    · exact va_Nw.of rfl (hts _ (sz_u3 (i := 112) (by decide +kernel)))
    · exact va_Nw.of rfl (hts _ (sz_u3 (i := 224) (by decide +kernel)))
    · exact va_Nw.of rfl (hts _ (sz_u3 (i := 238) (by decide +kernel)))
    · exact va_Nw.of rfl (hts _ (sz_u4 (i := 169) (by decide +kernel)))
theorem sz_xt {s : State} {args : Array Value} (hts : ∀ w ∈ lw_tbl, w.before args s = true) : sc_xt s := by
  refine ⟨fun q hq => ?_, va_AO.of (A := args) (hts _ (sz_u1 (i := 146) (by decide +kernel))), va_AO.of (A := args) (hts _ (sz_u2 (i := 42) (by decide +kernel)))⟩
  simp only [sc_nc, List.mem_cons, List.not_mem_nil, or_false] at hq
  rcases hq with rfl | rfl | rfl | rfl | rfl | rfl | rfl
  · exact va_Nw.of rfl (hts _ (sz_u1 (i := 88) (by decide +kernel)))
  · exact va_Nw.of rfl (hts _ (sz_u1 (i := 115) (by decide +kernel)))
  · exact va_Nw.of rfl (hts _ (sz_u1 (i := 197) (by decide +kernel)))
  · exact va_Nw.of rfl (hts _ (sz_u1 (i := 224) (by decide +kernel)))
  · exact va_Nw.of rfl (hts _ (sz_u2 (i := 17) (by decide +kernel)))
  · exact va_Nw.of rfl (hts _ (sz_u2 (i := 44) (by decide +kernel)))
  · exact va_Nw.of rfl (hts _ (sz_u1 (i := 120) (by decide +kernel)))
