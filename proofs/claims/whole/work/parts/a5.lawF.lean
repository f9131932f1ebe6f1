/-! the law's loop answers true -/
theorem sw_inx {x : Int32} {i L k : Nat} (hx : x = nI i) (hk : k < 6) (h : i + 6 ≤ L) (hL : L ≤ 3072) {w : Int32} (hw : w = nI k) : sw_in (x + w) L = true := by
  rw [hx, hw, nI_add]
  exact sv_in (by omega) (by omega)
theorem pL_c0 {xs : Nat → Int32} {L N : Nat} (hN : 5000 ≤ N) (hL : L ≤ 3072) (rec1 : Int32 → sw_St → Option (Int32 × sw_St)) {x : Int32} {i : Nat} (hi : x = nI i) (h : i + 6 ≤ L) {S : sw_St} (hS : sv_rel S) : ∃ T, sv_rel T ∧ fL_c0 xs L N rec1 x S = rec1 (nI (i + 6)) T := by
  unfold fL_c0
  have e6 : x + (6 : Int32) = nI (i + 6) := by rw [hi]; exact nI_add i 6
  have g1 : sw_in (x + (1 : Int32)) L = true := sw_inx hi (k := 1) (by decide) h hL rfl
  have g2 : sw_in (x + (2 : Int32)) L = true := sw_inx hi (k := 2) (by decide) h hL rfl
  obtain ⟨r, S1, S2, h1, h2, h3⟩ := op_sword N hN hS _ _
  simp only [g1, g2, sv_gt]
  rw [h1, sv_bd, h2, sv_bd, if_pos rfl, e6]
  exact ⟨S2, h3, rfl⟩
theorem pL_c1 {xs : Nat → Int32} {L N : Nat} (hN : 5000 ≤ N) (hL : L ≤ 3072) (rec1 : Int32 → sw_St → Option (Int32 × sw_St)) {x : Int32} {i : Nat} (hi : x = nI i) (h : i + 6 ≤ L) {S : sw_St} (hS : sv_rel S) : ∃ T, sv_rel T ∧ fL_c1 xs L N rec1 x S = rec1 (nI (i + 6)) T := by
  unfold fL_c1
  have e6 : x + (6 : Int32) = nI (i + 6) := by rw [hi]; exact nI_add i 6
  have g1 : sw_in (x + (1 : Int32)) L = true := sw_inx hi (k := 1) (by decide) h hL rfl
  have g2 : sw_in (x + (2 : Int32)) L = true := sw_inx hi (k := 2) (by decide) h hL rfl
  have g3 : sw_in (x + (3 : Int32)) L = true := sw_inx hi (k := 3) (by decide) h hL rfl
  obtain ⟨r, S1, S2, h1, h2, h3⟩ := op_swords N hN hS _ _ _
  simp only [g1, g2, g3, sv_gt]
  rw [h1, sv_bd, h2, sv_bd, if_pos rfl, e6]
  exact ⟨S2, h3, rfl⟩
theorem pL_c2 {xs : Nat → Int32} {L N : Nat} (hN : 5000 ≤ N) (hL : L ≤ 3072) (rec1 : Int32 → sw_St → Option (Int32 × sw_St)) {x : Int32} {i : Nat} (hi : x = nI i) (h : i + 6 ≤ L) {S : sw_St} (hS : sv_rel S) : ∃ T, sv_rel T ∧ fL_c2 xs L N rec1 x S = rec1 (nI (i + 6)) T := by
  unfold fL_c2
  have e6 : x + (6 : Int32) = nI (i + 6) := by rw [hi]; exact nI_add i 6
  have g1 : sw_in (x + (1 : Int32)) L = true := sw_inx hi (k := 1) (by decide) h hL rfl
  have g2 : sw_in (x + (2 : Int32)) L = true := sw_inx hi (k := 2) (by decide) h hL rfl
  have g3 : sw_in (x + (3 : Int32)) L = true := sw_inx hi (k := 3) (by decide) h hL rfl
  obtain ⟨r, S1, S2, h1, h2, h3⟩ := op_mend N hN hS _ _ _
  simp only [g1, g2, g3, sv_gt]
  rw [h1, sv_bd, h2, sv_bd, if_pos rfl, e6]
  exact ⟨S2, h3, rfl⟩
theorem pL_c3 {xs : Nat → Int32} {L N : Nat} (hN : 5000 ≤ N) (hL : L ≤ 3072) (rec1 : Int32 → sw_St → Option (Int32 × sw_St)) {x : Int32} {i : Nat} (hi : x = nI i) (h : i + 6 ≤ L) {S : sw_St} (hS : sv_rel S) : ∃ T, sv_rel T ∧ fL_c3 xs L N rec1 x S = rec1 (nI (i + 6)) T := by
  unfold fL_c3
  have e6 : x + (6 : Int32) = nI (i + 6) := by rw [hi]; exact nI_add i 6
  have g1 : sw_in (x + (1 : Int32)) L = true := sw_inx hi (k := 1) (by decide) h hL rfl
  have g2 : sw_in (x + (2 : Int32)) L = true := sw_inx hi (k := 2) (by decide) h hL rfl
  obtain ⟨r, S1, S2, h1, h2, h3⟩ := op_of N hN hS _ _
  simp only [g1, g2, sv_gt]
  rw [h1, sv_bd, h2, sv_bd, if_pos rfl, e6]
  exact ⟨S2, h3, rfl⟩
theorem pL_c4 {xs : Nat → Int32} {L N : Nat} (hN : 5000 ≤ N) (hL : L ≤ 3072) (rec1 : Int32 → sw_St → Option (Int32 × sw_St)) {x : Int32} {i : Nat} (hi : x = nI i) (h : i + 6 ≤ L) {S : sw_St} (hS : sv_rel S) : ∃ T, sv_rel T ∧ fL_c4 xs L N rec1 x S = rec1 (nI (i + 6)) T := by
  unfold fL_c4
  have e6 : x + (6 : Int32) = nI (i + 6) := by rw [hi]; exact nI_add i 6
  have g1 : sw_in (x + (1 : Int32)) L = true := sw_inx hi (k := 1) (by decide) h hL rfl
  obtain ⟨r, S1, S2, h1, h2, h3⟩ := op_feed N hN hS _
  simp only [g1, sv_gt]
  rw [h1, sv_bd, h2, sv_bd, if_pos rfl, e6]
  exact ⟨S2, h3, rfl⟩
theorem pL_c5 {xs : Nat → Int32} {L N : Nat} (hN : 5000 ≤ N) (hL : L ≤ 3072) (rec1 : Int32 → sw_St → Option (Int32 × sw_St)) {x : Int32} {i : Nat} (hi : x = nI i) (h : i + 6 ≤ L) {S : sw_St} (hS : sv_rel S) : ∃ T, sv_rel T ∧ fL_c5 xs L N rec1 x S = rec1 (nI (i + 6)) T := by
  unfold fL_c5
  have e6 : x + (6 : Int32) = nI (i + 6) := by rw [hi]; exact nI_add i 6
  obtain ⟨r, S1, S2, h1, h2, h3⟩ := op_law N hN hS
  rw [h1, sv_bd, h2, sv_bd, if_pos rfl, e6]
  exact ⟨S2, h3, rfl⟩
theorem pL_c6 {xs : Nat → Int32} {L N : Nat} (hN : 5000 ≤ N) (hL : L ≤ 3072) (rec1 : Int32 → sw_St → Option (Int32 × sw_St)) {x : Int32} {i : Nat} (hi : x = nI i) (h : i + 6 ≤ L) {S : sw_St} (hS : sv_rel S) : ∃ T, sv_rel T ∧ fL_c6 xs L N rec1 x S = rec1 (nI (i + 6)) T := by
  unfold fL_c6
  have e6 : x + (6 : Int32) = nI (i + 6) := by rw [hi]; exact nI_add i 6
  have g1 : sw_in (x + (1 : Int32)) L = true := sw_inx hi (k := 1) (by decide) h hL rfl
  obtain ⟨r, S1, S2, h1, h2, h3⟩ := op_grows N hN hS _
  simp only [g1, sv_gt]
  rw [h1, sv_bd, h2, sv_bd, if_pos rfl, e6]
  exact ⟨S2, h3, rfl⟩
theorem pL_c7 {xs : Nat → Int32} {L N : Nat} (hN : 5000 ≤ N) (hL : L ≤ 3072) (rec1 : Int32 → sw_St → Option (Int32 × sw_St)) {x : Int32} {i : Nat} (hi : x = nI i) (h : i + 6 ≤ L) {S : sw_St} (hS : sv_rel S) : ∃ T, sv_rel T ∧ fL_c7 xs L N rec1 x S = rec1 (nI (i + 6)) T := by
  unfold fL_c7
  have e6 : x + (6 : Int32) = nI (i + 6) := by rw [hi]; exact nI_add i 6
  have g1 : sw_in (x + (1 : Int32)) L = true := sw_inx hi (k := 1) (by decide) h hL rfl
  have g2 : sw_in (x + (2 : Int32)) L = true := sw_inx hi (k := 2) (by decide) h hL rfl
  have g3 : sw_in (x + (3 : Int32)) L = true := sw_inx hi (k := 3) (by decide) h hL rfl
  obtain ⟨r, S1, S2, h1, h2, h3⟩ := op_later N hN hS _ _ _
  simp only [g1, g2, g3, sv_gt]
  rw [h1, sv_bd, h2, sv_bd, if_pos rfl, e6]
  exact ⟨S2, h3, rfl⟩
theorem pL_c8 {xs : Nat → Int32} {L N : Nat} (hN : 5000 ≤ N) (hL : L ≤ 3072) (rec1 : Int32 → sw_St → Option (Int32 × sw_St)) {x : Int32} {i : Nat} (hi : x = nI i) (h : i + 6 ≤ L) {S : sw_St} (hS : sv_rel S) : ∃ T, sv_rel T ∧ fL_c8 xs L N rec1 x S = rec1 (nI (i + 6)) T := by
  unfold fL_c8
  have e6 : x + (6 : Int32) = nI (i + 6) := by rw [hi]; exact nI_add i 6
  have g1 : sw_in (x + (1 : Int32)) L = true := sw_inx hi (k := 1) (by decide) h hL rfl
  have g2 : sw_in (x + (2 : Int32)) L = true := sw_inx hi (k := 2) (by decide) h hL rfl
  have g3 : sw_in (x + (3 : Int32)) L = true := sw_inx hi (k := 3) (by decide) h hL rfl
  obtain ⟨r, S1, S2, h1, h2, h3⟩ := op_awake N hN hS _ _ _
  simp only [g1, g2, g3, sv_gt]
  rw [h1, sv_bd, h2, sv_bd, if_pos rfl, e6]
  exact ⟨S2, h3, rfl⟩
theorem pL_c9 {xs : Nat → Int32} {L N : Nat} (hN : 5000 ≤ N) (hL : L ≤ 3072) (rec1 : Int32 → sw_St → Option (Int32 × sw_St)) {x : Int32} {i : Nat} (hi : x = nI i) (h : i + 6 ≤ L) {S : sw_St} (hS : sv_rel S) : ∃ T, sv_rel T ∧ fL_c9 xs L N rec1 x S = rec1 (nI (i + 6)) T := by
  unfold fL_c9
  have e6 : x + (6 : Int32) = nI (i + 6) := by rw [hi]; exact nI_add i 6
  have g1 : sw_in (x + (1 : Int32)) L = true := sw_inx hi (k := 1) (by decide) h hL rfl
  have g2 : sw_in (x + (2 : Int32)) L = true := sw_inx hi (k := 2) (by decide) h hL rfl
  have g3 : sw_in (x + (3 : Int32)) L = true := sw_inx hi (k := 3) (by decide) h hL rfl
  obtain ⟨r, S1, S2, h1, h2, h3⟩ := op_cries N hN hS _ _ _
  simp only [g1, g2, g3, sv_gt]
  rw [h1, sv_bd, h2, sv_bd, if_pos rfl, e6]
  exact ⟨S2, h3, rfl⟩
theorem pL_c10 {xs : Nat → Int32} {L N : Nat} (hN : 5000 ≤ N) (hL : L ≤ 3072) (rec1 : Int32 → sw_St → Option (Int32 × sw_St)) {x : Int32} {i : Nat} (hi : x = nI i) (h : i + 6 ≤ L) {S : sw_St} (hS : sv_rel S) : ∃ T, sv_rel T ∧ fL_c10 xs L N rec1 x S = rec1 (nI (i + 6)) T := by
  unfold fL_c10
  have e6 : x + (6 : Int32) = nI (i + 6) := by rw [hi]; exact nI_add i 6
  have g1 : sw_in (x + (1 : Int32)) L = true := sw_inx hi (k := 1) (by decide) h hL rfl
  obtain ⟨r, S1, S2, h1, h2, h3⟩ := op_asleep N hN hS _
  simp only [g1, sv_gt]
  rw [h1, sv_bd, h2, sv_bd, if_pos rfl, e6]
  exact ⟨S2, h3, rfl⟩
theorem pL_c11 {xs : Nat → Int32} {L N : Nat} (hN : 5000 ≤ N) (hL : L ≤ 3072) (rec1 : Int32 → sw_St → Option (Int32 × sw_St)) {x : Int32} {i : Nat} (hi : x = nI i) (h : i + 6 ≤ L) {S : sw_St} (hS : sv_rel S) : ∃ T, sv_rel T ∧ fL_c11 xs L N rec1 x S = rec1 (nI (i + 6)) T := by
  unfold fL_c11
  have e6 : x + (6 : Int32) = nI (i + 6) := by rw [hi]; exact nI_add i 6
  have g1 : sw_in (x + (1 : Int32)) L = true := sw_inx hi (k := 1) (by decide) h hL rfl
  have g2 : sw_in (x + (2 : Int32)) L = true := sw_inx hi (k := 2) (by decide) h hL rfl
  obtain ⟨r, S1, S2, h1, h2, h3⟩ := op_bestRound N hN hS _ _
  simp only [g1, g2, sv_gt]
  rw [h1, sv_bd, h2, sv_bd, if_pos rfl, e6]
  exact ⟨S2, h3, rfl⟩
theorem pL_c12 {xs : Nat → Int32} {L N : Nat} (hN : 5000 ≤ N) (hL : L ≤ 3072) (rec1 : Int32 → sw_St → Option (Int32 × sw_St)) {x : Int32} {i : Nat} (hi : x = nI i) (h : i + 6 ≤ L) {S : sw_St} (hS : sv_rel S) : ∃ T, sv_rel T ∧ fL_c12 xs L N rec1 x S = rec1 (nI (i + 6)) T := by
  unfold fL_c12
  have e6 : x + (6 : Int32) = nI (i + 6) := by rw [hi]; exact nI_add i 6
  have g1 : sw_in (x + (1 : Int32)) L = true := sw_inx hi (k := 1) (by decide) h hL rfl
  obtain ⟨r, S1, S2, h1, h2, h3⟩ := op_told N hN hS _
  simp only [g1, sv_gt]
  rw [h1, sv_bd, h2, sv_bd, if_pos rfl, e6]
  exact ⟨S2, h3, rfl⟩
theorem pL_c13 {xs : Nat → Int32} {L N : Nat} (hN : 5000 ≤ N) (hL : L ≤ 3072) (rec1 : Int32 → sw_St → Option (Int32 × sw_St)) {x : Int32} {i : Nat} (hi : x = nI i) (h : i + 6 ≤ L) {S : sw_St} (hS : sv_rel S) : ∃ T, sv_rel T ∧ fL_c13 xs L N rec1 x S = rec1 (nI (i + 6)) T := by
  unfold fL_c13
  have e6 : x + (6 : Int32) = nI (i + 6) := by rw [hi]; exact nI_add i 6
  have g1 : sw_in (x + (1 : Int32)) L = true := sw_inx hi (k := 1) (by decide) h hL rfl
  have g2 : sw_in (x + (2 : Int32)) L = true := sw_inx hi (k := 2) (by decide) h hL rfl
  obtain ⟨r, S1, S2, h1, h2, h3⟩ := op_woken N hN hS _ _
  simp only [g1, g2, sv_gt]
  rw [h1, sv_bd, h2, sv_bd, if_pos rfl, e6]
  exact ⟨S2, h3, rfl⟩
theorem pL_c14 {xs : Nat → Int32} {L N : Nat} (hN : 5000 ≤ N) (hL : L ≤ 3072) (rec1 : Int32 → sw_St → Option (Int32 × sw_St)) {x : Int32} {i : Nat} (hi : x = nI i) (h : i + 6 ≤ L) {S : sw_St} (hS : sv_rel S) : ∃ T, sv_rel T ∧ fL_c14 xs L N rec1 x S = rec1 (nI (i + 6)) T := by
  unfold fL_c14
  have e6 : x + (6 : Int32) = nI (i + 6) := by rw [hi]; exact nI_add i 6
  have g1 : sw_in (x + (1 : Int32)) L = true := sw_inx hi (k := 1) (by decide) h hL rfl
  obtain ⟨r, S1, S2, h1, h2, h3⟩ := op_walk N hN hS _
  simp only [g1, sv_gt]
  rw [h1, sv_bd, h2, sv_bd, if_pos rfl, e6]
  exact ⟨S2, h3, rfl⟩
theorem pL_c15 {xs : Nat → Int32} {L N : Nat} (hN : 5000 ≤ N) (hL : L ≤ 3072) (rec1 : Int32 → sw_St → Option (Int32 × sw_St)) {x : Int32} {i : Nat} (hi : x = nI i) (h : i + 6 ≤ L) {S : sw_St} (hS : sv_rel S) : ∃ T, sv_rel T ∧ fL_c15 xs L N rec1 x S = rec1 (nI (i + 6)) T := by
  unfold fL_c15
  have e6 : x + (6 : Int32) = nI (i + 6) := by rw [hi]; exact nI_add i 6
  have g1 : sw_in (x + (1 : Int32)) L = true := sw_inx hi (k := 1) (by decide) h hL rfl
  have g2 : sw_in (x + (2 : Int32)) L = true := sw_inx hi (k := 2) (by decide) h hL rfl
  obtain ⟨r, S1, S2, h1, h2, h3⟩ := op_judge N hN hS _ _
  simp only [g1, g2, sv_gt]
  rw [h1, sv_bd, h2, sv_bd, if_pos rfl, e6]
  exact ⟨S2, h3, rfl⟩
theorem pL_c16 {xs : Nat → Int32} {L N : Nat} (hN : 5000 ≤ N) (hL : L ≤ 3072) (rec1 : Int32 → sw_St → Option (Int32 × sw_St)) {x : Int32} {i : Nat} (hi : x = nI i) (h : i + 6 ≤ L) {S : sw_St} (hS : sv_rel S) : ∃ T, sv_rel T ∧ fL_c16 xs L N rec1 x S = rec1 (nI (i + 6)) T := by
  unfold fL_c16
  have e6 : x + (6 : Int32) = nI (i + 6) := by rw [hi]; exact nI_add i 6
  have g1 : sw_in (x + (1 : Int32)) L = true := sw_inx hi (k := 1) (by decide) h hL rfl
  have g2 : sw_in (x + (2 : Int32)) L = true := sw_inx hi (k := 2) (by decide) h hL rfl
  have g3 : sw_in (x + (3 : Int32)) L = true := sw_inx hi (k := 3) (by decide) h hL rfl
  obtain ⟨r, S1, S2, h1, h2, h3⟩ := op_fits N hN hS _ _ _
  simp only [g1, g2, g3, sv_gt]
  rw [h1, sv_bd, h2, sv_bd, if_pos rfl, e6]
  exact ⟨S2, h3, rfl⟩
theorem pL_c17 {xs : Nat → Int32} {L N : Nat} (hN : 5000 ≤ N) (hL : L ≤ 3072) (rec1 : Int32 → sw_St → Option (Int32 × sw_St)) {x : Int32} {i : Nat} (hi : x = nI i) (h : i + 6 ≤ L) {S : sw_St} (hS : sv_rel S) : ∃ T, sv_rel T ∧ fL_c17 xs L N rec1 x S = rec1 (nI (i + 6)) T := by
  unfold fL_c17
  have e6 : x + (6 : Int32) = nI (i + 6) := by rw [hi]; exact nI_add i 6
  have g1 : sw_in (x + (1 : Int32)) L = true := sw_inx hi (k := 1) (by decide) h hL rfl
  obtain ⟨r, S1, S2, h1, h2, h3⟩ := op_dealt N hN hS _
  simp only [g1, sv_gt]
  rw [h1, sv_bd, h2, sv_bd, if_pos rfl, e6]
  exact ⟨S2, h3, rfl⟩
theorem pL_c18 {xs : Nat → Int32} {L N : Nat} (hN : 5000 ≤ N) (hL : L ≤ 3072) (rec1 : Int32 → sw_St → Option (Int32 × sw_St)) {x : Int32} {i : Nat} (hi : x = nI i) (h : i + 6 ≤ L) {S : sw_St} (hS : sv_rel S) : ∃ T, sv_rel T ∧ fL_c18 xs L N rec1 x S = rec1 (nI (i + 6)) T := by
  unfold fL_c18
  have e6 : x + (6 : Int32) = nI (i + 6) := by rw [hi]; exact nI_add i 6
  have g1 : sw_in (x + (1 : Int32)) L = true := sw_inx hi (k := 1) (by decide) h hL rfl
  obtain ⟨r, S1, S2, h1, h2, h3⟩ := op_lines N hN hS _
  simp only [g1, sv_gt]
  rw [h1, sv_bd, h2, sv_bd, if_pos rfl, e6]
  exact ⟨S2, h3, rfl⟩
theorem pL_c19 {xs : Nat → Int32} {L N : Nat} (hN : 5000 ≤ N) (hL : L ≤ 3072) (rec1 : Int32 → sw_St → Option (Int32 × sw_St)) {x : Int32} {i : Nat} (hi : x = nI i) (h : i + 6 ≤ L) {S : sw_St} (hS : sv_rel S) : ∃ T, sv_rel T ∧ fL_c19 xs L N rec1 x S = rec1 (nI (i + 6)) T := by
  unfold fL_c19
  have e6 : x + (6 : Int32) = nI (i + 6) := by rw [hi]; exact nI_add i 6
  have g1 : sw_in (x + (1 : Int32)) L = true := sw_inx hi (k := 1) (by decide) h hL rfl
  have g2 : sw_in (x + (2 : Int32)) L = true := sw_inx hi (k := 2) (by decide) h hL rfl
  obtain ⟨r, S1, S2, h1, h2, h3⟩ := op_byTurns N hN hS _ _
  simp only [g1, g2, sv_gt]
  rw [h1, sv_bd, h2, sv_bd, if_pos rfl, e6]
  exact ⟨S2, h3, rfl⟩
theorem pL_c20 {xs : Nat → Int32} {L N : Nat} (hN : 5000 ≤ N) (hL : L ≤ 3072) (rec1 : Int32 → sw_St → Option (Int32 × sw_St)) {x : Int32} {i : Nat} (hi : x = nI i) (h : i + 6 ≤ L) {S : sw_St} (hS : sv_rel S) : ∃ T, sv_rel T ∧ fL_c20 xs L N rec1 x S = rec1 (nI (i + 6)) T := by
  unfold fL_c20
  have e6 : x + (6 : Int32) = nI (i + 6) := by rw [hi]; exact nI_add i 6
  have g1 : sw_in (x + (1 : Int32)) L = true := sw_inx hi (k := 1) (by decide) h hL rfl
  have g2 : sw_in (x + (2 : Int32)) L = true := sw_inx hi (k := 2) (by decide) h hL rfl
  have g3 : sw_in (x + (3 : Int32)) L = true := sw_inx hi (k := 3) (by decide) h hL rfl
  obtain ⟨r, S1, S2, h1, h2, h3⟩ := op_drawn N hN hS _ _ _
  simp only [g1, g2, g3, sv_gt]
  rw [h1, sv_bd, h2, sv_bd, if_pos rfl, e6]
  exact ⟨S2, h3, rfl⟩
theorem pL_c21 {xs : Nat → Int32} {L N : Nat} (hN : 5000 ≤ N) (hL : L ≤ 3072) (rec1 : Int32 → sw_St → Option (Int32 × sw_St)) {x : Int32} {i : Nat} (hi : x = nI i) (h : i + 6 ≤ L) {S : sw_St} (hS : sv_rel S) : ∃ T, sv_rel T ∧ fL_c21 xs L N rec1 x S = rec1 (nI (i + 6)) T := by
  unfold fL_c21
  have e6 : x + (6 : Int32) = nI (i + 6) := by rw [hi]; exact nI_add i 6
  have g1 : sw_in (x + (1 : Int32)) L = true := sw_inx hi (k := 1) (by decide) h hL rfl
  obtain ⟨r, S1, S2, h1, h2, h3⟩ := op_hour N hN hS _
  simp only [g1, sv_gt]
  rw [h1, sv_bd, h2, sv_bd, if_pos rfl, e6]
  exact ⟨S2, h3, rfl⟩
theorem pL_c22 {xs : Nat → Int32} {L N : Nat} (hN : 5000 ≤ N) (hL : L ≤ 3072) (rec1 : Int32 → sw_St → Option (Int32 × sw_St)) {x : Int32} {i : Nat} (hi : x = nI i) (h : i + 6 ≤ L) {S : sw_St} (hS : sv_rel S) : ∃ T, sv_rel T ∧ fL_c22 xs L N rec1 x S = rec1 (nI (i + 6)) T := by
  unfold fL_c22
  have e6 : x + (6 : Int32) = nI (i + 6) := by rw [hi]; exact nI_add i 6
  have g1 : sw_in (x + (1 : Int32)) L = true := sw_inx hi (k := 1) (by decide) h hL rfl
  have g2 : sw_in (x + (2 : Int32)) L = true := sw_inx hi (k := 2) (by decide) h hL rfl
  obtain ⟨r, S1, S2, h1, h2, h3⟩ := op_telling N hN hS _ _
  simp only [g1, g2, sv_gt]
  rw [h1, sv_bd, h2, sv_bd, if_pos rfl, e6]
  exact ⟨S2, h3, rfl⟩
theorem pL_c23 {xs : Nat → Int32} {L N : Nat} (hN : 5000 ≤ N) (hL : L ≤ 3072) (rec1 : Int32 → sw_St → Option (Int32 × sw_St)) {x : Int32} {i : Nat} (hi : x = nI i) (h : i + 6 ≤ L) {S : sw_St} (hS : sv_rel S) : ∃ T, sv_rel T ∧ fL_c23 xs L N rec1 x S = rec1 (nI (i + 6)) T := by
  unfold fL_c23
  have e6 : x + (6 : Int32) = nI (i + 6) := by rw [hi]; exact nI_add i 6
  have g1 : sw_in (x + (1 : Int32)) L = true := sw_inx hi (k := 1) (by decide) h hL rfl
  obtain ⟨r, S1, S2, h1, h2, h3⟩ := op_touch N hN hS _
  simp only [g1, sv_gt]
  rw [h1, sv_bd, h2, sv_bd, if_pos rfl, e6]
  exact ⟨S2, h3, rfl⟩
theorem pL_c24 {xs : Nat → Int32} {L N : Nat} (hN : 5000 ≤ N) (hL : L ≤ 3072) (rec1 : Int32 → sw_St → Option (Int32 × sw_St)) {x : Int32} {i : Nat} (hi : x = nI i) (h : i + 6 ≤ L) {S : sw_St} (hS : sv_rel S) : ∃ T, sv_rel T ∧ fL_c24 xs L N rec1 x S = rec1 (nI (i + 6)) T := by
  unfold fL_c24
  have e6 : x + (6 : Int32) = nI (i + 6) := by rw [hi]; exact nI_add i 6
  have g1 : sw_in (x + (1 : Int32)) L = true := sw_inx hi (k := 1) (by decide) h hL rfl
  have g2 : sw_in (x + (2 : Int32)) L = true := sw_inx hi (k := 2) (by decide) h hL rfl
  obtain ⟨r, S1, S2, h1, h2, h3⟩ := op_hold N hN hS _ _
  simp only [g1, g2, sv_gt]
  rw [h1, sv_bd, h2, sv_bd, if_pos rfl, e6]
  exact ⟨S2, h3, rfl⟩
theorem pL_c25 {xs : Nat → Int32} {L N : Nat} (hN : 5000 ≤ N) (hL : L ≤ 3072) (rec1 : Int32 → sw_St → Option (Int32 × sw_St)) {x : Int32} {i : Nat} (hi : x = nI i) (h : i + 6 ≤ L) {S : sw_St} (hS : sv_rel S) : ∃ T, sv_rel T ∧ fL_c25 xs L N rec1 x S = rec1 (nI (i + 6)) T := by
  unfold fL_c25
  have e6 : x + (6 : Int32) = nI (i + 6) := by rw [hi]; exact nI_add i 6
  have g1 : sw_in (x + (1 : Int32)) L = true := sw_inx hi (k := 1) (by decide) h hL rfl
  obtain ⟨r, S1, S2, h1, h2, h3⟩ := op_led N hN hS _
  simp only [g1, sv_gt]
  rw [h1, sv_bd, h2, sv_bd, if_pos rfl, e6]
  exact ⟨S2, h3, rfl⟩
theorem pL_c26 {xs : Nat → Int32} {L N : Nat} (hN : 5000 ≤ N) (hL : L ≤ 3072) (rec1 : Int32 → sw_St → Option (Int32 × sw_St)) {x : Int32} {i : Nat} (hi : x = nI i) (h : i + 6 ≤ L) {S : sw_St} (hS : sv_rel S) : ∃ T, sv_rel T ∧ fL_c26 xs L N rec1 x S = rec1 (nI (i + 6)) T := by
  unfold fL_c26
  have e6 : x + (6 : Int32) = nI (i + 6) := by rw [hi]; exact nI_add i 6
  obtain ⟨r, S1, S2, h1, h2, h3⟩ := op_image N hN hS
  rw [h1, sv_bd, h2, sv_bd, if_pos rfl, e6]
  exact ⟨S2, h3, rfl⟩
theorem pL_c27 {xs : Nat → Int32} {L N : Nat} (hN : 5000 ≤ N) (hL : L ≤ 3072) (rec1 : Int32 → sw_St → Option (Int32 × sw_St)) {x : Int32} {i : Nat} (hi : x = nI i) (h : i + 6 ≤ L) {S : sw_St} (hS : sv_rel S) : ∃ T, sv_rel T ∧ fL_c27 xs L N rec1 x S = rec1 (nI (i + 6)) T := by
  unfold fL_c27
  have e6 : x + (6 : Int32) = nI (i + 6) := by rw [hi]; exact nI_add i 6
  obtain ⟨r, S1, S2, h1, h2, h3⟩ := op_back N hN hS
  rw [h1, sv_bd, h2, sv_bd, if_pos rfl, e6]
  exact ⟨S2, h3, rfl⟩
theorem pL_c28 {xs : Nat → Int32} {L N : Nat} (hN : 5000 ≤ N) (hL : L ≤ 3072) (rec1 : Int32 → sw_St → Option (Int32 × sw_St)) {x : Int32} {i : Nat} (hi : x = nI i) (h : i + 6 ≤ L) {S : sw_St} (hS : sv_rel S) : ∃ T, sv_rel T ∧ fL_c28 xs L N rec1 x S = rec1 (nI (i + 6)) T := by
  unfold fL_c28
  have e6 : x + (6 : Int32) = nI (i + 6) := by rw [hi]; exact nI_add i 6
  obtain ⟨r, S1, S2, h1, h2, h3⟩ := op_undo N hN hS
  rw [h1, sv_bd, h2, sv_bd, if_pos rfl, e6]
  exact ⟨S2, h3, rfl⟩
theorem pL_c29 {xs : Nat → Int32} {L N : Nat} (hN : 5000 ≤ N) (hL : L ≤ 3072) (rec1 : Int32 → sw_St → Option (Int32 × sw_St)) {x : Int32} {i : Nat} (hi : x = nI i) (h : i + 6 ≤ L) {S : sw_St} (hS : sv_rel S) : ∃ T, sv_rel T ∧ fL_c29 xs L N rec1 x S = rec1 (nI (i + 6)) T := by
  unfold fL_c29
  have e6 : x + (6 : Int32) = nI (i + 6) := by rw [hi]; exact nI_add i 6
  obtain ⟨r, S1, S2, h1, h2, h3⟩ := op_redo N hN hS
  rw [h1, sv_bd, h2, sv_bd, if_pos rfl, e6]
  exact ⟨S2, h3, rfl⟩
theorem pL_c30 {xs : Nat → Int32} {L N : Nat} (hN : 5000 ≤ N) (hL : L ≤ 3072) (rec1 : Int32 → sw_St → Option (Int32 × sw_St)) {x : Int32} {i : Nat} (hi : x = nI i) (h : i + 6 ≤ L) {S : sw_St} (hS : sv_rel S) : ∃ T, sv_rel T ∧ fL_c30 xs L N rec1 x S = rec1 (nI (i + 6)) T := by
  unfold fL_c30
  have e6 : x + (6 : Int32) = nI (i + 6) := by rw [hi]; exact nI_add i 6
  have g1 : sw_in (x + (1 : Int32)) L = true := sw_inx hi (k := 1) (by decide) h hL rfl
  obtain ⟨r, S1, S2, h1, h2, h3⟩ := op_body N hN hS _
  simp only [g1, sv_gt]
  rw [h1, sv_bd, h2, sv_bd, if_pos rfl, e6]
  exact ⟨S2, h3, rfl⟩
theorem pL_c31 {xs : Nat → Int32} {L N : Nat} (hN : 5000 ≤ N) (hL : L ≤ 3072) (rec1 : Int32 → sw_St → Option (Int32 × sw_St)) {x : Int32} {i : Nat} (hi : x = nI i) (h : i + 6 ≤ L) {S : sw_St} (hS : sv_rel S) : ∃ T, sv_rel T ∧ fL_c31 xs L N rec1 x S = rec1 (nI (i + 6)) T := by
  unfold fL_c31
  have e6 : x + (6 : Int32) = nI (i + 6) := by rw [hi]; exact nI_add i 6
  have g1 : sw_in (x + (1 : Int32)) L = true := sw_inx hi (k := 1) (by decide) h hL rfl
  have g2 : sw_in (x + (2 : Int32)) L = true := sw_inx hi (k := 2) (by decide) h hL rfl
  have g3 : sw_in (x + (3 : Int32)) L = true := sw_inx hi (k := 3) (by decide) h hL rfl
  obtain ⟨r, S1, S2, h1, h2, h3⟩ := op_act N hN hS _ _ _
  simp only [g1, g2, g3, sv_gt]
  rw [h1, sv_bd, h2, sv_bd, if_pos rfl, e6]
  exact ⟨S2, h3, rfl⟩
theorem pL_c32 {xs : Nat → Int32} {L N : Nat} (hN : 5000 ≤ N) (hL : L ≤ 3072) (rec1 : Int32 → sw_St → Option (Int32 × sw_St)) {x : Int32} {i : Nat} (hi : x = nI i) (h : i + 6 ≤ L) {S : sw_St} (hS : sv_rel S) : ∃ T, sv_rel T ∧ fL_c32 xs L N rec1 x S = rec1 (nI (i + 6)) T := by
  unfold fL_c32
  have e6 : x + (6 : Int32) = nI (i + 6) := by rw [hi]; exact nI_add i 6
  have g1 : sw_in (x + (1 : Int32)) L = true := sw_inx hi (k := 1) (by decide) h hL rfl
  obtain ⟨r, S1, S2, h1, h2, h3⟩ := op_trace N hN hS _
  simp only [g1, sv_gt]
  rw [h1, sv_bd, h2, sv_bd, if_pos rfl, e6]
  exact ⟨S2, h3, rfl⟩
theorem pL_c33 {xs : Nat → Int32} {L N : Nat} (hN : 5000 ≤ N) (hL : L ≤ 3072) (rec1 : Int32 → sw_St → Option (Int32 × sw_St)) {x : Int32} {i : Nat} (hi : x = nI i) (h : i + 6 ≤ L) {S : sw_St} (hS : sv_rel S) : ∃ T, sv_rel T ∧ fL_c33 xs L N rec1 x S = rec1 (nI (i + 6)) T := by
  unfold fL_c33
  have e6 : x + (6 : Int32) = nI (i + 6) := by rw [hi]; exact nI_add i 6
  have g1 : sw_in (x + (1 : Int32)) L = true := sw_inx hi (k := 1) (by decide) h hL rfl
  have g2 : sw_in (x + (2 : Int32)) L = true := sw_inx hi (k := 2) (by decide) h hL rfl
  obtain ⟨r, S1, S2, h1, h2, h3⟩ := op_keep N hN hS _ _
  simp only [g1, g2, sv_gt]
  rw [h1, sv_bd, h2, sv_bd, if_pos rfl, e6]
  exact ⟨S2, h3, rfl⟩
theorem pL_c34 {xs : Nat → Int32} {L N : Nat} (hN : 5000 ≤ N) (hL : L ≤ 3072) (rec1 : Int32 → sw_St → Option (Int32 × sw_St)) {x : Int32} {i : Nat} (hi : x = nI i) (h : i + 6 ≤ L) {S : sw_St} (hS : sv_rel S) : ∃ T, sv_rel T ∧ fL_c34 xs L N rec1 x S = rec1 (nI (i + 6)) T := by
  unfold fL_c34
  have e6 : x + (6 : Int32) = nI (i + 6) := by rw [hi]; exact nI_add i 6
  have g1 : sw_in (x + (1 : Int32)) L = true := sw_inx hi (k := 1) (by decide) h hL rfl
  have g2 : sw_in (x + (2 : Int32)) L = true := sw_inx hi (k := 2) (by decide) h hL rfl
  have g3 : sw_in (x + (3 : Int32)) L = true := sw_inx hi (k := 3) (by decide) h hL rfl
  obtain ⟨r, S1, S2, h1, h2, h3⟩ := op_row N hN hS _ _ _
  simp only [g1, g2, g3, sv_gt]
  rw [h1, sv_bd, h2, sv_bd, if_pos rfl, e6]
  exact ⟨S2, h3, rfl⟩
theorem pL_c35 {xs : Nat → Int32} {L N : Nat} (hN : 5000 ≤ N) (hL : L ≤ 3072) (rec1 : Int32 → sw_St → Option (Int32 × sw_St)) {x : Int32} {i : Nat} (hi : x = nI i) (h : i + 6 ≤ L) {S : sw_St} (hS : sv_rel S) : ∃ T, sv_rel T ∧ fL_c35 xs L N rec1 x S = rec1 (nI (i + 6)) T := by
  unfold fL_c35
  have e6 : x + (6 : Int32) = nI (i + 6) := by rw [hi]; exact nI_add i 6
  have g1 : sw_in (x + (1 : Int32)) L = true := sw_inx hi (k := 1) (by decide) h hL rfl
  have g2 : sw_in (x + (2 : Int32)) L = true := sw_inx hi (k := 2) (by decide) h hL rfl
  have g3 : sw_in (x + (3 : Int32)) L = true := sw_inx hi (k := 3) (by decide) h hL rfl
  have g4 : sw_in (x + (4 : Int32)) L = true := sw_inx hi (k := 4) (by decide) h hL rfl
  obtain ⟨r, S1, S2, h1, h2, h3⟩ := op_put N hN hS _ _ _
  simp only [g1, g2, g3, g4, sv_gt]
  rw [h1, sv_bd, h2, sv_bd, if_pos rfl, e6]
  exact ⟨S2, h3, rfl⟩
theorem pL_c36 {xs : Nat → Int32} {L N : Nat} (hN : 5000 ≤ N) (hL : L ≤ 3072) (rec1 : Int32 → sw_St → Option (Int32 × sw_St)) {x : Int32} {i : Nat} (hi : x = nI i) (h : i + 6 ≤ L) {S : sw_St} (hS : sv_rel S) : ∃ T, sv_rel T ∧ fL_c36 xs L N rec1 x S = rec1 (nI (i + 6)) T := by
  unfold fL_c36
  have e6 : x + (6 : Int32) = nI (i + 6) := by rw [hi]; exact nI_add i 6
  have g1 : sw_in (x + (1 : Int32)) L = true := sw_inx hi (k := 1) (by decide) h hL rfl
  have g2 : sw_in (x + (2 : Int32)) L = true := sw_inx hi (k := 2) (by decide) h hL rfl
  obtain ⟨r, S1, S2, h1, h2, h3⟩ := op_element N hN hS _ _
  simp only [g1, g2, sv_gt]
  rw [h1, sv_bd, h2, sv_bd, e6]
  simp only [lg_cmp]
  refine ⟨S2, h3, ?_⟩
  simp
theorem pL_c37 {xs : Nat → Int32} {L N : Nat} (hN : 5000 ≤ N) (hL : L ≤ 3072) (rec1 : Int32 → sw_St → Option (Int32 × sw_St)) {x : Int32} {i : Nat} (hi : x = nI i) (h : i + 6 ≤ L) {S : sw_St} (hS : sv_rel S) : ∃ T, sv_rel T ∧ fL_c37 xs L N rec1 x S = rec1 (nI (i + 6)) T := by
  unfold fL_c37
  have e6 : x + (6 : Int32) = nI (i + 6) := by rw [hi]; exact nI_add i 6
  have g1 : sw_in (x + (1 : Int32)) L = true := sw_inx hi (k := 1) (by decide) h hL rfl
  have g2 : sw_in (x + (2 : Int32)) L = true := sw_inx hi (k := 2) (by decide) h hL rfl
  have g3 : sw_in (x + (3 : Int32)) L = true := sw_inx hi (k := 3) (by decide) h hL rfl
  have g4 : sw_in (x + (4 : Int32)) L = true := sw_inx hi (k := 4) (by decide) h hL rfl
  have g5 : sw_in (x + (5 : Int32)) L = true := sw_inx hi (k := 5) (by decide) h hL rfl
  obtain ⟨r, S1, S2, h1, h2, h3⟩ := op_shift N hN hS _ _ _ _ _
  simp only [g1, g2, g3, g4, g5, sv_gt]
  rw [h1, sv_bd, h2, sv_bd, if_pos rfl, e6]
  exact ⟨S2, h3, rfl⟩
theorem pL_c38 {xs : Nat → Int32} {L N : Nat} (hN : 5000 ≤ N) (hL : L ≤ 3072) (rec1 : Int32 → sw_St → Option (Int32 × sw_St)) {x : Int32} {i : Nat} (hi : x = nI i) (h : i + 6 ≤ L) {S : sw_St} (hS : sv_rel S) : ∃ T, sv_rel T ∧ fL_c38 xs L N rec1 x S = rec1 (nI (i + 6)) T := by
  unfold fL_c38
  have e6 : x + (6 : Int32) = nI (i + 6) := by rw [hi]; exact nI_add i 6
  have g1 : sw_in (x + (1 : Int32)) L = true := sw_inx hi (k := 1) (by decide) h hL rfl
  have g2 : sw_in (x + (2 : Int32)) L = true := sw_inx hi (k := 2) (by decide) h hL rfl
  obtain ⟨r, S1, S2, h1, h2, h3⟩ := op_taken N hN hS _ _
  simp only [g1, g2, sv_gt]
  rw [h1, sv_bd, h2, sv_bd, if_pos rfl, e6]
  exact ⟨S2, h3, rfl⟩
theorem pL_c39 {xs : Nat → Int32} {L N : Nat} (hN : 5000 ≤ N) (hL : L ≤ 3072) (rec1 : Int32 → sw_St → Option (Int32 × sw_St)) {x : Int32} {i : Nat} (hi : x = nI i) (h : i + 6 ≤ L) {S : sw_St} (hS : sv_rel S) : ∃ T, sv_rel T ∧ fL_c39 xs L N rec1 x S = rec1 (nI (i + 6)) T := by
  unfold fL_c39
  have e6 : x + (6 : Int32) = nI (i + 6) := by rw [hi]; exact nI_add i 6
  have g1 : sw_in (x + (1 : Int32)) L = true := sw_inx hi (k := 1) (by decide) h hL rfl
  obtain ⟨r, S1, S2, h1, h2, h3⟩ := op_count N hN hS _
  simp only [g1, sv_gt]
  rw [h1, sv_bd, h2, sv_bd, if_pos rfl, e6]
  exact ⟨S2, h3, rfl⟩
theorem pL_law {xs : Nat → Int32} {L N : Nat} (hN : 5000 ≤ N) (hL : L ≤ 3072) {S : sw_St} (hS : sv_rel S) : ∃ T, fL_law xs L N (0 : Int32) S = some ((1 : Int32), T) := by
  have key : ∀ (d i m : Nat) (S : sw_St), L - i ≤ d → d < m → i ≤ L + 6 → sv_rel S → ∃ T, fL_law xs L m (nI i) S = some ((1 : Int32), T) := by
    intro d
    sorry
  exact key L 0 N S (by omega) (by omega) (by omega) hS
