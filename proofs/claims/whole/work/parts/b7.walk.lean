/-! the law's walk: both constructors, then the loop -/
def sz_Z (G : sw_G) (b L : Nat) (xs : Nat → Int32) : State → Array Value → List Frame → State → Prop := fun s args below t => (sw_hy G b L xs 1 s args ∧ sw_sta G s s.heap) → lw_Z below args s t
set_option maxRecDepth 100000 in
set_option maxHeartbeats 4000000 in
theorem hL_start {G : sw_G} {b L : Nat} {xs : Nat → Int32} (hL : L ≤ 3072) {f : Nat → va_E} : sc_Rn G RL cL_law 4 ret room_1 0 0 (sz_Z G b L xs) 0 [some (.ref b), none, none, none] [] 0 f := by
  refine sc_new (ci := 8) (fs := [.null, .null, .null, .null, .null, .null, .null, .null]) (np := 3) (n1 := 1) (ce1 := 1) (sl1 := 8) sw_kc_8 tyX8_ok sx_c_RL_7 sx_i_8 sx_z_8 (by decide) (Nat.le_of_ble_eq_true rfl) (Nat.le_of_ble_eq_true rfl) dL_law_0 rfl rfl rfl rfl ?_
  refine sc_dup (np := 4) dL_law_3 rfl rfl ?_
  refine sc_init (As := []) (rest := [sw_vr G 0]) (np := 7) (n1 := 105) (ce1 := 105) (sl1 := 2666) (f' := sc_E G) (hc_X8 (va_up_self _ _ _)) sx_mw_8 rfl sx_im_8 sx_m_RL_9 dL_law_4 (Nat.le_of_ble_eq_true rfl) (Nat.le_of_ble_eq_true rfl) rfl (Nat.le_of_ble_eq_true rfl) rfl (by omega) rfl rfl rfl (Nat.le_of_ble_eq_true rfl) (Nat.le_of_ble_eq_true rfl) (fun i _ => by simp [sc_t]) ?_
  refine sc_astore_n (np := 8) (lv' := [some (.ref b), some (sw_vr G 0), none, none]) dL_law_7 rfl (by decide) rfl (fun q hq => by rw [show q = 0 by omega]; rfl) rfl ?_
  refine sc_new (ci := 9) (fs := [.null, .null, .null, .null, .int 0, .int 0, .int 0, .null, .int 0, .null, .int 0, .int 0, .int 0, .int 0, .int 0, .int 0, .null, .null, .null, .int 0, .int 0, .null, .null, .null, .null, .int 0, .int 0, .null, .int 0, .int 0, .null, .null, .int 0, .null, .null, .int 0, .int 0, .int 0, .null, .null, .null, .null]) (np := 11) (n1 := 106) (ce1 := 106) (sl1 := 2708) sw_kc_9 tyX9_ok sx_c_RL_10 sx_i_9 sx_z_9 (by decide) (Nat.le_of_ble_eq_true rfl) (Nat.le_of_ble_eq_true rfl) dL_law_8 rfl rfl rfl rfl ?_
  refine sc_dup (np := 12) dL_law_11 rfl rfl ?_
  refine sc_init (As := []) (rest := [sw_vr G 105]) (np := 15) (n1 := 128) (ce1 := 128) (sl1 := sw_SL) (f' := sc_E G) (hc_X9 (va_up_self _ _ _)) sx_mw_9 rfl sx_im_9 sx_m_RL_12 dL_law_12 (Nat.le_of_ble_eq_true rfl) (Nat.le_of_ble_eq_true rfl) rfl (Nat.le_of_ble_eq_true rfl) rfl (by omega) rfl rfl rfl (Nat.le_of_ble_eq_true rfl) (Nat.le_of_ble_eq_true rfl) (fun i _ => ?_) ?_
  · by_cases h : i < 105
    · simp only [sc_t, h, if_true]
      rw [va_up_ne _ _ (Nat.ne_of_lt h)]
    · simp [sc_t, h]
  refine sc_astore_n (np := 16) (lv' := [some (.ref b), some (sw_vr G 0), some (sw_vr G 105), none]) dL_law_15 rfl (by decide) rfl (fun q hq => by rw [show q = 1 by omega]; rfl) rfl ?_
  refine sc_iconst (np := 17) (v := (0 : Int32)) dL_law_16 (by decide) rfl ?_
  refine sc_istore_n (np := 18) (lv' := [some (.ref b), some (sw_vr G 0), some (sw_vr G 105), some (.int (0 : Int32))]) dL_law_17 rfl (by decide) rfl (fun q hq => by rw [show q = 2 by omega]; rfl) rfl ?_
  intro p e s m args below meth c C hz H locs ls hP hS hl
  by_cases hyp : sw_hy G b L xs 1 s args ∧ sw_sta G s s.heap
  · have hB : s.heap.size = sw_B G := hyp.1.2.2.2.1
    have hP' : va_P (sw_D G) sw_cl (sw_wL G sc_S0) H := hP
    obtain ⟨T, hT⟩ := pL_law (xs := xs) (N := 5000) (Nat.le_refl _) hL sc_rel
    have hW := hL_law (G := G) (b := b) (L := L) (N := 5000) (xs := xs) (i := 0) (S := sc_S0) (1, T) hT p e s m args below meth c ⟨C.1, C.2.1, C.2.2.1, C.2.2.2.1, C.2.2.2.2.1, C.2.2.2.2.2.1, C.2.2.2.2.2.2.1, C.2.2.2.2.2.2.2.1, hyp.2⟩ H [] ls hP' ⟨hS.1, fun q h1 h2 => hS.2.1 q h1 (fun z => by have z' : sw_B G ≤ q := z; omega), fun q hq => by cases hq⟩ hl
    refine va_forget (fun q hq => ?_) ?_
    · have z : sw_B G ≤ q.base := hS.2.2 q hq
      omega
    · intro T' hT' X
      obtain ⟨t, a, q⟩ := hW T' hT' X
      exact ⟨t, a, fun _ => q hyp.1⟩
  · intro T hT X
    exact ⟨_, Steps.refl _, fun z => absurd z hyp⟩
theorem whole_G {p : Program} {e : Env} {s : State} {m : MethodId} {below : List Frame} {meth : Method} {c : Code} {b L : Nat} {xs : Nat → Int32} (G : sw_G) (hB : sw_B G = s.heap.size) (hL : L ≤ 3072) (C0 : lw_At p s m meth c b L xs) (hK : va_K (sw_D G) sw_cl (sw_ty G) s) (hX5 : sc_xt s) (hsta : sw_sta G s s.heap) : W p (sw_l G) e room_1 s m #[Value.ref b] below meth c s.heap [] 0 0 (lw_Z below #[Value.ref b] s) (entryFrame m ([Value.ref b] : List Value).toArray 4) := by
  obtain ⟨hx, hb, hr, hml, hown, hts, hX, hbl, hlk, hgv⟩ := id C0
  have hw : ∀ w ∈ sw_wd, w.before #[Value.ref b] s = true := fun w h => hts w (List.mem_filter.mp h).1
  rw [lg_entry_eq]
  have h := hL_start (G := G) (b := b) (L := L) (xs := xs) hL (f := fun _ => .inr (0, [])) p e s m #[Value.ref b] below meth c ⟨hx, hb, hr, hml, hown, hw, hlk, hK, hX5, fun z => absurd rfl z, by omega⟩ (by omega) s.heap [] _ (fun k q h => by simp [sc_wL] at h) va_S.rf (lv_entry [.ref b] (Nat.le_of_ble_eq_true rfl))
  intro T hT X
  obtain ⟨t, a, q⟩ := h T hT X
  exact ⟨t, a, q ⟨⟨rfl, hX, hbl, hB.symm, rfl⟩, hsta⟩⟩
theorem whole_start {p : Program} {e : Env} {s : State} {m : MethodId} {below : List Frame} {meth : Method} {c : Code} (l : Launch) (hflags : l.flags = flags0) {b L : Nat} {xs : Nat → Int32} (hL : L ≤ 3072) (C0 : lw_At p s m meth c b L xs) : W p l e room_1 s m #[Value.ref b] below meth c s.heap [] 0 0 (lw_Z below #[Value.ref b] s) (entryFrame m ([Value.ref b] : List Value).toArray 4) := by
  obtain ⟨hx, hb, hr, hml, hown, hts, hX, hbl, hlk, hgv⟩ := id C0
  have hw : ∀ w ∈ sw_wd, w.before #[Value.ref b] s = true := fun w h => hts w (List.mem_filter.mp h).1
  have hxt := sz_xt hts
  obtain ⟨D, hD⟩ := sz_cls hw
  obtain ⟨cI, hI1, hI2⟩ := sz_pr (hw _ sx_aI)
  obtain ⟨cJ, hJ1, hJ2⟩ := sz_pr (hw _ sx_aJ)
  obtain ⟨cN, hN1, hN2⟩ := sz_ov hxt.2.1
  obtain ⟨cS, hS1, hS2⟩ := sz_ov hxt.2.2
  have hA : ∀ a : Nat, a < s.heap.size → ¬ (fun q : Nat => s.heap.size ≤ q ∧ q < s.heap.size + 128) a := fun a h z => Nat.not_le.mpr h z.1
  obtain ⟨t0, g0⟩ := sz_T0 hts hgv hA
  obtain ⟨t1, g1⟩ := sz_T1 hts hgv hA
  obtain ⟨t2, g2⟩ := sz_T2 hts hgv hA
  obtain ⟨t3, g3⟩ := sz_T3 hts hgv hA
  refine whole_G (l, s.heap.size, D, cI, cJ, cN, cS, fun k => if k = 0 then t0 else if k = 1 then t1 else if k = 2 then t2 else t3) rfl hL C0 ⟨hD, fun k q hq => ?_⟩ hxt ⟨g0, g1, g2, g3, sz_nst hts⟩
  match k, hq with
  | 0, hq => cases hq; exact ⟨hI1, hI2⟩
  | 1, hq => cases hq; exact ⟨hJ1, hJ2⟩
  | 2, hq => cases hq; exact ⟨hN1, hN2⟩
  | 3, hq => cases hq; exact ⟨hS1, hS2⟩
  | k + 4, hq => simp at hq
