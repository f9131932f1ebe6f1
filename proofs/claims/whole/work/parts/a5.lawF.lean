/-! the law's loop answers true -/
theorem sw_inx {x : Int32} {i L k : Nat} (hx : x = nI i) (hk : k < 6) (h : i + 6 ≤ L) (hL : L ≤ 3072) {w : Int32} (hw : w = nI k) : sw_in (x + w) L = true := by
  rw [hx, hw, nI_add]
  exact sv_in (by omega) (by omega)
theorem pL_c0 {xs : Nat → Int32} {L N : Nat} (hN : 5000 ≤ N) (hL : L ≤ 3072) (rec1 : Int32 → sw_St → Option (Int32 × sw_St)) {x : Int32} {i : Nat} (hi : x = nI i) (h : i + 6 ≤ L) {S : sw_St} (hS : sv_rel S) : ∃ T, sv_rel T ∧ fL_c0 xs L N rec1 x S = rec1 (nI (i + 6)) T := by
  unfold fL_c0
  have e6 : x + (6 : Int32) = nI (i + 6) := by rw [hi]; exact nI_add i 6
  have g1 : sw_in (x + (1 : Int32)) L = true := sw_inx hi (k := 1) (by decide) h hL rfl
  have g2 : sw_in (x + (2 : Int32)) L = true := sw_inx hi (k := 2) (by decide) h hL rfl
  obtain ⟨r, S1, S2, h1, h2, h3⟩ := op_sword N hN hS _ _
  simp only [g1, g2, sv_gt]
  rw [h1, sv_bd, h2, sv_bd, if_pos rfl, e6]
  exact ⟨S2, h3, rfl⟩
theorem pL_c1 {xs : Nat → Int32} {L N : Nat} (hN : 5000 ≤ N) (hL : L ≤ 3072) (rec1 : Int32 → sw_St → Option (Int32 × sw_St)) {x : Int32} {i : Nat} (hi : x = nI i) (h : i + 6 ≤ L) {S : sw_St} (hS : sv_rel S) : ∃ T, sv_rel T ∧ fL_c1 xs L N rec1 x S = rec1 (nI (i + 6)) T := by
  unfold fL_c1
  have e6 : x + (6 : Int32) = nI (i + 6) := by rw [hi]; exact nI_add i 6
  have g1 : sw_in (x + (1 : Int32)) L = true := sw_inx hi (k := 1) (by decide) h hL rfl
  have g2 : sw_in (x + (2 : Int32)) L = true := sw_inx hi (k := 2) (by decide) h hL rfl
  have g3 : sw_in (x + (3 : Int32)) L = true := sw_inx hi (k := 3) (by decide) h hL rfl
  obtain ⟨r, S1, S2, h1, h2, h3⟩ := op_swords N hN hS _ _ _
  simp only [g1, g2, g3, sv_gt]
  rw [h1, sv_bd, h2, sv_bd, if_pos rfl, e6]
  exact ⟨S2, h3, rfl⟩
theorem pL_c2 {xs : Nat → Int32} {L N : Nat} (hN : 5000 ≤ N) (hL : L ≤ 3072) (rec1 : Int32 → sw_St → Option (Int32 × sw_St)) {x : Int32} {i : Nat} (hi : x = nI i) (h : i + 6 ≤ L) {S : sw_St} (hS : sv_rel S) : ∃ T, sv_rel T ∧ fL_c2 xs L N rec1 x S = rec1 (nI (i + 6)) T := by
  unfold fL_c2
  have e6 : x + (6 : Int32) = nI (i + 6) := by rw [hi]; exact nI_add i 6
  have g1 : sw_in (x + (1 : Int32)) L = true := sw_inx hi (k := 1) (by decide) h hL rfl
  have g2 : sw_in (x + (2 : Int32)) L = true := sw_inx hi (k := 2) (by decide) h hL rfl
  have g3 : sw_in (x + (3 : Int32)) L = true := sw_inx hi (k := 3) (by decide) h hL rfl
  obtain ⟨r, S1, S2, h1, h2, h3⟩ := op_mend N hN hS _ _ _
  simp only [g1, g2, g3, sv_gt]
  rw [h1, sv_bd, h2, sv_bd, if_pos rfl, e6]
  exact ⟨S2, h3, rfl⟩
theorem pL_c3 {xs : Nat → Int32} {L N : Nat} (hN : 5000 ≤ N) (hL : L ≤ 3072) (rec1 : Int32 → sw_St → Option (Int32 × sw_St)) {x : Int32} {i : Nat} (hi : x = nI i) (h : i + 6 ≤ L) {S : sw_St} (hS : sv_rel S) : ∃ T, sv_rel T ∧ fL_c3 xs L N rec1 x S = rec1 (nI (i + 6)) T := by
  unfold fL_c3
  have e6 : x + (6 : Int32) = nI (i + 6) := by rw [hi]; exact nI_add i 6
  have g1 : sw_in (x + (1 : Int32)) L = true := sw_inx hi (k := 1) (by decide) h hL rfl
  have g2 : sw_in (x + (2 : Int32)) L = true := sw_inx hi (k := 2) (by decide) h hL rfl
  obtain ⟨r, S1, S2, h1, h2, h3⟩ := op_of N hN hS _ _
  simp only [g1, g2, sv_gt]
  rw [h1, sv_bd, h2, sv_bd, if_pos rfl, e6]
  exact ⟨S2, h3, rfl⟩
theorem pL_c4 {xs : Nat → Int32} {L N : Nat} (hN : 5000 ≤ N) (hL : L ≤ 3072) (rec1 : Int32 → sw_St → Option (Int32 × sw_St)) {x : Int32} {i : Nat} (hi : x = nI i) (h : i + 6 ≤ L) {S : sw_St} (hS : sv_rel S) : ∃ T, sv_rel T ∧ fL_c4 xs L N rec1 x S = rec1 (nI (i + 6)) T := by
  unfold fL_c4
  have e6 : x + (6 : Int32) = nI (i + 6) := by rw [hi]; exact nI_add i 6
  have g1 : sw_in (x + (1 : Int32)) L = true := sw_inx hi (k := 1) (by decide) h hL rfl
  obtain ⟨r, S1, S2, h1, h2, h3⟩ := op_feed N hN hS _
  simp only [g1, sv_gt]
  rw [h1, sv_bd, h2, sv_bd, if_pos rfl, e6]
  exact ⟨S2, h3, rfl⟩
theorem pL_c5 {xs : Nat → Int32} {L N : Nat} (hN : 5000 ≤ N) (hL : L ≤ 3072) (rec1 : Int32 → sw_St → Option (Int32 × sw_St)) {x : Int32} {i : Nat} (hi : x = nI i) (h : i + 6 ≤ L) {S : sw_St} (hS : sv_rel S) : ∃ T, sv_rel T ∧ fL_c5 xs L N rec1 x S = rec1 (nI (i + 6)) T := by
  unfold fL_c5
  have e6 : x + (6 : Int32) = nI (i + 6) := by rw [hi]; exact nI_add i 6
  obtain ⟨r, S1, S2, h1, h2, h3⟩ := op_law N hN hS
  rw [h1, sv_bd, h2, sv_bd, if_pos rfl, e6]
  exact ⟨S2, h3, rfl⟩
theorem pL_c6 {xs : Nat → Int32} {L N : Nat} (hN : 5000 ≤ N) (hL : L ≤ 3072) (rec1 : Int32 → sw_St → Option (Int32 × sw_St)) {x : Int32} {i : Nat} (hi : x = nI i) (h : i + 6 ≤ L) {S : sw_St} (hS : sv_rel S) : ∃ T, sv_rel T ∧ fL_c6 xs L N rec1 x S = rec1 (nI (i + 6)) T := by
  unfold fL_c6
  have e6 : x + (6 : Int32) = nI (i + 6) := by rw [hi]; exact nI_add i 6
  have g1 : sw_in (x + (1 : Int32)) L = true := sw_inx hi (k := 1) (by decide) h hL rfl
  obtain ⟨r, S1, S2, h1, h2, h3⟩ := op_grows N hN hS _
  simp only [g1, sv_gt]
  rw [h1, sv_bd, h2, sv_bd, if_pos rfl, e6]
  exact ⟨S2, h3, rfl⟩
theorem pL_c7 {xs : Nat → Int32} {L N : Nat} (hN : 5000 ≤ N) (hL : L ≤ 3072) (rec1 : Int32 → sw_St → Option (Int32 × sw_St)) {x : Int32} {i : Nat} (hi : x = nI i) (h : i + 6 ≤ L) {S : sw_St} (hS : sv_rel S) : ∃ T, sv_rel T ∧ fL_c7 xs L N rec1 x S = rec1 (nI (i + 6)) T := by
  unfold fL_c7
  have e6 : x + (6 : Int32) = nI (i + 6) := by rw [hi]; exact nI_add i 6
  have g1 : sw_in (x + (1 : Int32)) L = true := sw_inx hi (k := 1) (by decide) h hL rfl
  have g2 : sw_in (x + (2 : Int32)) L = true := sw_inx hi (k := 2) (by decide) h hL rfl
  have g3 : sw_in (x + (3 : Int32)) L = true := sw_inx hi (k := 3) (by decide) h hL rfl
  obtain ⟨r, S1, S2, h1, h2, h3⟩ := op_later N hN hS _ _ _
  simp only [g1, g2, g3, sv_gt]
  rw [h1, sv_bd, h2, sv_bd, if_pos rfl, e6]
  exact ⟨S2, h3, rfl⟩
theorem pL_c8 {xs : Nat → Int32} {L N : Nat} (hN : 5000 ≤ N) (hL : L ≤ 3072) (rec1 : Int32 → sw_St → Option (Int32 × sw_St)) {x : Int32} {i : Nat} (hi : x = nI i) (h : i + 6 ≤ L) {S : sw_St} (hS : sv_rel S) : ∃ T, sv_rel T ∧ fL_c8 xs L N rec1 x S = rec1 (nI (i + 6)) T := by
  unfold fL_c8
  have e6 : x + (6 : Int32) = nI (i + 6) := by rw [hi]; exact nI_add i 6
  have g1 : sw_in (x + (1 : Int32)) L = true := sw_inx hi (k := 1) (by decide) h hL rfl
  have g2 : sw_in (x + (2 : Int32)) L = true := sw_inx hi (k := 2) (by decide) h hL rfl
  have g3 : sw_in (x + (3 : Int32)) L = true := sw_inx hi (k := 3) (by decide) h hL rfl
  obtain ⟨r, S1, S2, h1, h2, h3⟩ := op_awake N hN hS _ _ _
  simp only [g1, g2, g3, sv_gt]
  rw [h1, sv_bd, h2, sv_bd, if_pos rfl, e6]
  exact ⟨S2, h3, rfl⟩
theorem pL_c9 {xs : Nat → Int32} {L N : Nat} (hN : 5000 ≤ N) (hL : L ≤ 3072) (rec1 : Int32 → sw_St → Option (Int32 × sw_St)) {x : Int32} {i : Nat} (hi : x = nI i) (h : i + 6 ≤ L) {S : sw_St} (hS : sv_rel S) : ∃ T, sv_rel T ∧ fL_c9 xs L N rec1 x S = rec1 (nI (i + 6)) T := by
  unfold fL_c9
  have e6 : x + (6 : Int32) = nI (i + 6) := by rw [hi]; exact nI_add i 6
  have g1 : sw_in (x + (1 : Int32)) L = true := sw_inx hi (k := 1) (by decide) h hL rfl
  have g2 : sw_in (x + (2 : Int32)) L = true := sw_inx hi (k := 2) (by decide) h hL rfl
  have g3 : sw_in (x + (3 : Int32)) L = true := sw_inx hi (k := 3) (by decide) h hL rfl
  obtain ⟨r, S1, S2, h1, h2, h3⟩ := op_cries N hN hS _ _ _
  simp only [g1, g2, g3, sv_gt]
  rw [h1, sv_bd, h2, sv_bd, if_pos rfl, e6]
  exact ⟨S2, h3, rfl⟩
theorem pL_c10 {xs : Nat → Int32} {L N : Nat} (hN : 5000 ≤ N) (hL : L ≤ 3072) (rec1 : Int32 → sw_St → Option (Int32 × sw_St)) {x : Int32} {i : Nat} (hi : x = nI i) (h : i + 6 ≤ L) {S : sw_St} (hS : sv_rel S) : ∃ T, sv_rel T ∧ fL_c10 xs L N rec1 x S = rec1 (nI (i + 6)) T := by
  unfold fL_c10
  have e6 : x + (6 : Int32) = nI (i + 6) := by rw [hi]; exact nI_add i 6
  have g1 : sw_in (x + (1 : Int32)) L = true := sw_inx hi (k := 1) (by decide) h hL rfl
  obtain ⟨r, S1, S2, h1, h2, h3⟩ := op_asleep N hN hS _
  simp only [g1, sv_gt]
  rw [h1, sv_bd, h2, sv_bd, if_pos rfl, e6]
  exact ⟨S2, h3, rfl⟩
theorem pL_c11 {xs : Nat → Int32} {L N : Nat} (hN : 5000 ≤ N) (hL : L ≤ 3072) (rec1 : Int32 → sw_St → Option (Int32 × sw_St)) {x : Int32} {i : Nat} (hi : x = nI i) (h : i + 6 ≤ L) {S : sw_St} (hS : sv_rel S) : ∃ T, sv_rel T ∧ fL_c11 xs L N rec1 x S = rec1 (nI (i + 6)) T := by
  unfold fL_c11
  have e6 : x + (6 : Int32) = nI (i + 6) := by rw [hi]; exact nI_add i 6
  have g1 : sw_in (x + (1 : Int32)) L = true := sw_inx hi (k := 1) (by decide) h hL rfl
  have g2 : sw_in (x + (2 : Int32)) L = true := sw_inx hi (k := 2) (by decide) h hL rfl
  obtain ⟨r, S1, S2, h1, h2, h3⟩ := op_bestRound N hN hS _ _
  simp only [g1, g2, sv_gt]
  rw [h1, sv_bd, h2, sv_bd, if_pos rfl, e6]
  exact ⟨S2, h3, rfl⟩
theorem pL_c12 {xs : Nat → Int32} {L N : Nat} (hN : 5000 ≤ N) (hL : L ≤ 3072) (rec1 : Int32 → sw_St → Option (Int32 × sw_St)) {x : Int32} {i : Nat} (hi : x = nI i) (h : i + 6 ≤ L) {S : sw_St} (hS : sv_rel S) : ∃ T, sv_rel T ∧ fL_c12 xs L N rec1 x S = rec1 (nI (i + 6)) T := by
  unfold fL_c12
  have e6 : x + (6 : Int32) = nI (i + 6) := by rw [hi]; exact nI_add i 6
  have g1 : sw_in (x + (1 : Int32)) L = true := sw_inx hi (k := 1) (by decide) h hL rfl
  obtain ⟨r, S1, S2, h1, h2, h3⟩ := op_told N hN hS _
  simp only [g1, sv_gt]
  rw [h1, sv_bd, h2, sv_bd, if_pos rfl, e6]
  exact ⟨S2, h3, rfl⟩
theorem pL_c13 {xs : Nat → Int32} {L N : Nat} (hN : 5000 ≤ N) (hL : L ≤ 3072) (rec1 : Int32 → sw_St → Option (Int32 × sw_St)) {x : Int32} {i : Nat} (hi : x = nI i) (h : i + 6 ≤ L) {S : sw_St} (hS : sv_rel S) : ∃ T, sv_rel T ∧ fL_c13 xs L N rec1 x S = rec1 (nI (i + 6)) T := by
  unfold fL_c13
  have e6 : x + (6 : Int32) = nI (i + 6) := by rw [hi]; exact nI_add i 6
  have g1 : sw_in (x + (1 : Int32)) L = true := sw_inx hi (k := 1) (by decide) h hL rfl
  have g2 : sw_in (x + (2 : Int32)) L = true := sw_inx hi (k := 2) (by decide) h hL rfl
  obtain ⟨r, S1, S2, h1, h2, h3⟩ := op_woken N hN hS _ _
  simp only [g1, g2, sv_gt]
  rw [h1, sv_bd, h2, sv_bd, if_pos rfl, e6]
  exact ⟨S2, h3, rfl⟩
theorem pL_c14 {xs : Nat → Int32} {L N : Nat} (hN : 5000 ≤ N) (hL : L ≤ 3072) (rec1 : Int32 → sw_St → Option (Int32 × sw_St)) {x : Int32} {i : Nat} (hi : x = nI i) (h : i + 6 ≤ L) {S : sw_St} (hS : sv_rel S) : ∃ T, sv_rel T ∧ fL_c14 xs L N rec1 x S = rec1 (nI (i + 6)) T := by
  unfold fL_c14
  have e6 : x + (6 : Int32) = nI (i + 6) := by rw [hi]; exact nI_add i 6
  have g1 : sw_in (x + (1 : Int32)) L = true := sw_inx hi (k := 1) (by decide) h hL rfl
  obtain ⟨r, S1, S2, h1, h2, h3⟩ := op_walk N hN hS _
  simp only [g1, sv_gt]
  rw [h1, sv_bd, h2, sv_bd, if_pos rfl, e6]
  exact ⟨S2, h3, rfl⟩
theorem pL_c15 {xs : Nat → Int32} {L N : Nat} (hN : 5000 ≤ N) (hL : L ≤ 3072) (rec1 : Int32 → sw_St → Option (Int32 × sw_St)) {x : Int32} {i : Nat} (hi : x = nI i) (h : i + 6 ≤ L) {S : sw_St} (hS : sv_rel S) : ∃ T, sv_rel T ∧ fL_c15 xs L N rec1 x S = rec1 (nI (i + 6)) T := by
  unfold fL_c15
  have e6 : x + (6 : Int32) = nI (i + 6) := by rw [hi]; exact nI_add i 6
  have g1 : sw_in (x + (1 : Int32)) L = true := sw_inx hi (k := 1) (by decide) h hL rfl
  have g2 : sw_in (x + (2 : Int32)) L = true := sw_inx hi (k := 2) (by decide) h hL rfl
  obtain ⟨r, S1, S2, h1, h2, h3⟩ := op_judge N hN hS _ _
  simp only [g1, g2, sv_gt]
  rw [h1, sv_bd, h2, sv_bd, if_pos rfl, e6]
  exact ⟨S2, h3, rfl⟩
theorem pL_c16 {xs : Nat → Int32} {L N : Nat} (hN : 5000 ≤ N) (hL : L ≤ 3072) (rec1 : Int32 → sw_St → Option (Int32 × sw_St)) {x : Int32} {i : Nat} (hi : x = nI i) (h : i + 6 ≤ L) {S : sw_St} (hS : sv_rel S) : ∃ T, sv_rel T ∧ fL_c16 xs L N rec1 x S = rec1 (nI (i + 6)) T := by
  unfold fL_c16
  have e6 : x + (6 : Int32) = nI (i + 6) := by rw [hi]; exact nI_add i 6
  have g1 : sw_in (x + (1 : Int32)) L = true := sw_inx hi (k := 1) (by decide) h hL rfl
  have g2 : sw_in (x + (2 : Int32)) L = true := sw_inx hi (k := 2) (by decide) h hL rfl
  have g3 : sw_in (x + (3 : Int32)) L = true := sw_inx hi (k := 3) (by decide) h hL rfl
  obtain ⟨r, S1, S2, h1, h2, h3⟩ := op_fits N hN hS _ _ _
  simp only [g1, g2, g3, sv_gt]
  rw [h1, sv_bd, h2, sv_bd, if_pos rfl, e6]
  exact ⟨S2, h3, rfl⟩
theorem pL_c17 {xs : Nat → Int32} {L N : Nat} (hN : 5000 ≤ N) (hL : L ≤ 3072) (rec1 : Int32 → sw_St → Option (Int32 × sw_St)) {x : Int32} {i : Nat} (hi : x = nI i) (h : i + 6 ≤ L) {S : sw_St} (hS : sv_rel S) : ∃ T, sv_rel T ∧ fL_c17 xs L N rec1 x S = rec1 (nI (i + 6)) T := by
  unfold fL_c17
  have e6 : x + (6 : Int32) = nI (i + 6) := by rw [hi]; exact nI_add i 6
  have g1 : sw_in (x + (1 : Int32)) L = true := sw_inx hi (k := 1) (by decide) h hL rfl
  obtain ⟨r, S1, S2, h1, h2, h3⟩ := op_dealt N hN hS _
  simp only [g1, sv_gt]
  rw [h1, sv_bd, h2, sv_bd, if_pos rfl, e6]
  exact ⟨S2, h3, rfl⟩
theorem pL_c18 {xs : Nat → Int32} {L N : Nat} (hN : 5000 ≤ N) (hL : L ≤ 3072) (rec1 : Int32 → sw_St → Option (Int32 × sw_St)) {x : Int32} {i : Nat} (hi : x = nI i) (h : i + 6 ≤ L) {S : sw_St} (hS : sv_rel S) : ∃ T, sv_rel T ∧ fL_c18 xs L N rec1 x S = rec1 (nI (i + 6)) T := by
  unfold fL_c18
  have e6 : x + (6 : Int32) = nI (i + 6) := by rw [hi]; exact nI_add i 6
  have g1 : sw_in (x + (1 : Int32)) L = true := sw_inx hi (k := 1) (by decide) h hL rfl
  obtain ⟨r, S1, S2, h1, h2, h3⟩ := op_lines N hN hS _
  simp only [g1, sv_gt]
  rw [h1, sv_bd, h2, sv_bd, if_pos rfl, e6]
  exact ⟨S2, h3, rfl⟩
theorem pL_c19 {xs : Nat → Int32} {L N : Nat} (hN : 5000 ≤ N) (hL : L ≤ 3072) (rec1 : Int32 → sw_St → Option (Int32 × sw_St)) {x : Int32} {i : Nat} (hi : x = nI i) (h : i + 6 ≤ L) {S : sw_St} (hS : sv_rel S) : ∃ T, sv_rel T ∧ fL_c19 xs L N rec1 x S = rec1 (nI (i + 6)) T := by
  unfold fL_c19
  have e6 : x + (6 : Int32) = nI (i + 6) := by rw [hi]; exact nI_add i 6
  have g1 : sw_in (x + (1 : Int32)) L = true := sw_inx hi (k := 1) (by decide) h hL rfl
  have g2 : sw_in (x + (2 : Int32)) L = true := sw_inx hi (k := 2) (by decide) h hL rfl
  obtain ⟨r, S1, S2, h1, h2, h3⟩ := op_byTurns N hN hS _ _
  simp only [g1, g2, sv_gt]
  rw [h1, sv_bd, h2, sv_bd, if_pos rfl, e6]
  exact ⟨S2, h3, rfl⟩
theorem pL_c20 {xs : Nat → Int32} {L N : Nat} (hN : 5000 ≤ N) (hL : L ≤ 3072) (rec1 : Int32 → sw_St → Option (Int32 × sw_St)) {x : Int32} {i : Nat} (hi : x = nI i) (h : i + 6 ≤ L) {S : sw_St} (hS : sv_rel S) : ∃ T, sv_rel T ∧ fL_c20 xs L N rec1 x S = rec1 (nI (i + 6)) T := by
  unfold fL_c20
  have e6 : x + (6 : Int32) = nI (i + 6) := by rw [hi]; exact nI_add i 6
  have g1 : sw_in (x + (1 : Int32)) L = true := sw_inx hi (k := 1) (by decide) h hL rfl
  have g2 : sw_in (x + (2 : Int32)) L = true := sw_inx hi (k := 2) (by decide) h hL rfl
  have g3 : sw_in (x + (3 : Int32)) L = true := sw_inx hi (k := 3) (by decide) h hL rfl
  obtain ⟨r, S1, S2, h1, h2, h3⟩ := op_drawn N hN hS _ _ _
  simp only [g1, g2, g3, sv_gt]
  rw [h1, sv_bd, h2, sv_bd, if_pos rfl, e6]
  exact ⟨S2, h3, rfl⟩
theorem pL_c21 {xs : Nat → Int32} {L N : Nat} (hN : 5000 ≤ N) (hL : L ≤ 3072) (rec1 : Int32 → sw_St → Option (Int32 × sw_St)) {x : Int32} {i : Nat} (hi : x = nI i) (h : i + 6 ≤ L) {S : sw_St} (hS : sv_rel S) : ∃ T, sv_rel T ∧ fL_c21 xs L N rec1 x S = rec1 (nI (i + 6)) T := by
  unfold fL_c21
  have e6 : x + (6 : Int32) = nI (i + 6) := by rw [hi]; exact nI_add i 6
  have g1 : sw_in (x + (1 : Int32)) L = true := sw_inx hi (k := 1) (by decide) h hL rfl
  obtain ⟨r, S1, S2, h1, h2, h3⟩ := op_hour N hN hS _
  simp only [g1, sv_gt]
  rw [h1, sv_bd, h2, sv_bd, if_pos rfl, e6]
  exact ⟨S2, h3, rfl⟩
theorem pL_c22 {xs : Nat → Int32} {L N : Nat} (hN : 5000 ≤ N) (hL : L ≤ 3072) (rec1 : Int32 → sw_St → Option (Int32 × sw_St)) {x : Int32} {i : Nat} (hi : x = nI i) (h : i + 6 ≤ L) {S : sw_St} (hS : sv_rel S) : ∃ T, sv_rel T ∧ fL_c22 xs L N rec1 x S = rec1 (nI (i + 6)) T := by
  unfold fL_c22
  have e6 : x + (6 : Int32) = nI (i + 6) := by rw [hi]; exact nI_add i 6
  have g1 : sw_in (x + (1 : Int32)) L = true := sw_inx hi (k := 1) (by decide) h hL rfl
  have g2 : sw_in (x + (2 : Int32)) L = true := sw_inx hi (k := 2) (by decide) h hL rfl
  obtain ⟨r, S1, S2, h1, h2, h3⟩ := op_telling N hN hS _ _
  simp only [g1, g2, sv_gt]
  rw [h1, sv_bd, h2, sv_bd, if_pos rfl, e6]
  exact ⟨S2, h3, rfl⟩
theorem pL_c23 {xs : Nat → Int32} {L N : Nat} (hN : 5000 ≤ N) (hL : L ≤ 3072) (rec1 : Int32 → sw_St → Option (Int32 × sw_St)) {x : Int32} {i : Nat} (hi : x = nI i) (h : i + 6 ≤ L) {S : sw_St} (hS : sv_rel S) : ∃ T, sv_rel T ∧ fL_c23 xs L N rec1 x S = rec1 (nI (i + 6)) T := by
  unfold fL_c23
  have e6 : x + (6 : Int32) = nI (i + 6) := by rw [hi]; exact nI_add i 6
  have g1 : sw_in (x + (1 : Int32)) L = true := sw_inx hi (k := 1) (by decide) h hL rfl
  obtain ⟨r, S1, S2, h1, h2, h3⟩ := op_touch N hN hS _
  simp only [g1, sv_gt]
  rw [h1, sv_bd, h2, sv_bd, if_pos rfl, e6]
  exact ⟨S2, h3, rfl⟩
theorem pL_c24 {xs : Nat → Int32} {L N : Nat} (hN : 5000 ≤ N) (hL : L ≤ 3072) (rec1 : Int32 → sw_St → Option (Int32 × sw_St)) {x : Int32} {i : Nat} (hi : x = nI i) (h : i + 6 ≤ L) {S : sw_St} (hS : sv_rel S) : ∃ T, sv_rel T ∧ fL_c24 xs L N rec1 x S = rec1 (nI (i + 6)) T := by
  unfold fL_c24
  have e6 : x + (6 : Int32) = nI (i + 6) := by rw [hi]; exact nI_add i 6
  have g1 : sw_in (x + (1 : Int32)) L = true := sw_inx hi (k := 1) (by decide) h hL rfl
  have g2 : sw_in (x + (2 : Int32)) L = true := sw_inx hi (k := 2) (by decide) h hL rfl
  obtain ⟨r, S1, S2, h1, h2, h3⟩ := op_hold N hN hS _ _
  simp only [g1, g2, sv_gt]
  rw [h1, sv_bd, h2, sv_bd, if_pos rfl, e6]
  exact ⟨S2, h3, rfl⟩
theorem pL_c25 {xs : Nat → Int32} {L N : Nat} (hN : 5000 ≤ N) (hL : L ≤ 3072) (rec1 : Int32 → sw_St → Option (Int32 × sw_St)) {x : Int32} {i : Nat} (hi : x = nI i) (h : i + 6 ≤ L) {S : sw_St} (hS : sv_rel S) : ∃ T, sv_rel T ∧ fL_c25 xs L N rec1 x S = rec1 (nI (i + 6)) T := by
  unfold fL_c25
  have e6 : x + (6 : Int32) = nI (i + 6) := by rw [hi]; exact nI_add i 6
  have g1 : sw_in (x + (1 : Int32)) L = true := sw_inx hi (k := 1) (by decide) h hL rfl
  obtain ⟨r, S1, S2, h1, h2, h3⟩ := op_led N hN hS _
  simp only [g1, sv_gt]
  rw [h1, sv_bd, h2, sv_bd, if_pos rfl, e6]
  exact ⟨S2, h3, rfl⟩
theorem pL_c26 {xs : Nat → Int32} {L N : Nat} (hN : 5000 ≤ N) (hL : L ≤ 3072) (rec1 : Int32 → sw_St → Option (Int32 × sw_St)) {x : Int32} {i : Nat} (hi : x = nI i) (h : i + 6 ≤ L) {S : sw_St} (hS : sv_rel S) : ∃ T, sv_rel T ∧ fL_c26 xs L N rec1 x S = rec1 (nI (i + 6)) T := by
  unfold fL_c26
  have e6 : x + (6 : Int32) = nI (i + 6) := by rw [hi]; exact nI_add i 6
  obtain ⟨r, S1, S2, h1, h2, h3⟩ := op_image N hN hS
  rw [h1, sv_bd, h2, sv_bd, if_pos rfl, e6]
  exact ⟨S2, h3, rfl⟩
theorem pL_c27 {xs : Nat → Int32} {L N : Nat} (hN : 5000 ≤ N) (hL : L ≤ 3072) (rec1 : Int32 → sw_St → Option (Int32 × sw_St)) {x : Int32} {i : Nat} (hi : x = nI i) (h : i + 6 ≤ L) {S : sw_St} (hS : sv_rel S) : ∃ T, sv_rel T ∧ fL_c27 xs L N rec1 x S = rec1 (nI (i + 6)) T := by
  unfold fL_c27
  have e6 : x + (6 : Int32) = nI (i + 6) := by rw [hi]; exact nI_add i 6
  obtain ⟨r, S1, S2, h1, h2, h3⟩ := op_back N hN hS
  rw [h1, sv_bd, h2, sv_bd, if_pos rfl, e6]
  exact ⟨S2, h3, rfl⟩
theorem pL_c28 {xs : Nat → Int32} {L N : Nat} (hN : 5000 ≤ N) (hL : L ≤ 3072) (rec1 : Int32 → sw_St → Option (Int32 × sw_St)) {x : Int32} {i : Nat} (hi : x = nI i) (h : i + 6 ≤ L) {S : sw_St} (hS : sv_rel S) : ∃ T, sv_rel T ∧ fL_c28 xs L N rec1 x S = rec1 (nI (i + 6)) T := by
  unfold fL_c28
  have e6 : x + (6 : Int32) = nI (i + 6) := by rw [hi]; exact nI_add i 6
  obtain ⟨r, S1, S2, h1, h2, h3⟩ := op_undo N hN hS
  rw [h1, sv_bd, h2, sv_bd, if_pos rfl, e6]
  exact ⟨S2, h3, rfl⟩
theorem pL_c29 {xs : Nat → Int32} {L N : Nat} (hN : 5000 ≤ N) (hL : L ≤ 3072) (rec1 : Int32 → sw_St → Option (Int32 × sw_St)) {x : Int32} {i : Nat} (hi : x = nI i) (h : i + 6 ≤ L) {S : sw_St} (hS : sv_rel S) : ∃ T, sv_rel T ∧ fL_c29 xs L N rec1 x S = rec1 (nI (i + 6)) T := by
  unfold fL_c29
  have e6 : x + (6 : Int32) = nI (i + 6) := by rw [hi]; exact nI_add i 6
  obtain ⟨r, S1, S2, h1, h2, h3⟩ := op_redo N hN hS
  rw [h1, sv_bd, h2, sv_bd, if_pos rfl, e6]
  exact ⟨S2, h3, rfl⟩
theorem pL_c30 {xs : Nat → Int32} {L N : Nat} (hN : 5000 ≤ N) (hL : L ≤ 3072) (rec1 : Int32 → sw_St → Option (Int32 × sw_St)) {x : Int32} {i : Nat} (hi : x = nI i) (h : i + 6 ≤ L) {S : sw_St} (hS : sv_rel S) : ∃ T, sv_rel T ∧ fL_c30 xs L N rec1 x S = rec1 (nI (i + 6)) T := by
  unfold fL_c30
  have e6 : x + (6 : Int32) = nI (i + 6) := by rw [hi]; exact nI_add i 6
  have g1 : sw_in (x + (1 : Int32)) L = true := sw_inx hi (k := 1) (by decide) h hL rfl
  obtain ⟨r, S1, S2, h1, h2, h3⟩ := op_body N hN hS _
  simp only [g1, sv_gt]
  rw [h1, sv_bd, h2, sv_bd, if_pos rfl, e6]
  exact ⟨S2, h3, rfl⟩
theorem pL_c31 {xs : Nat → Int32} {L N : Nat} (hN : 5000 ≤ N) (hL : L ≤ 3072) (rec1 : Int32 → sw_St → Option (Int32 × sw_St)) {x : Int32} {i : Nat} (hi : x = nI i) (h : i + 6 ≤ L) {S : sw_St} (hS : sv_rel S) : ∃ T, sv_rel T ∧ fL_c31 xs L N rec1 x S = rec1 (nI (i + 6)) T := by
  unfold fL_c31
  have e6 : x + (6 : Int32) = nI (i + 6) := by rw [hi]; exact nI_add i 6
  have g1 : sw_in (x + (1 : Int32)) L = true := sw_inx hi (k := 1) (by decide) h hL rfl
  have g2 : sw_in (x + (2 : Int32)) L = true := sw_inx hi (k := 2) (by decide) h hL rfl
  have g3 : sw_in (x + (3 : Int32)) L = true := sw_inx hi (k := 3) (by decide) h hL rfl
  obtain ⟨r, S1, S2, h1, h2, h3⟩ := op_act N hN hS _ _ _
  simp only [g1, g2, g3, sv_gt]
  rw [h1, sv_bd, h2, sv_bd, if_pos rfl, e6]
  exact ⟨S2, h3, rfl⟩
theorem pL_c32 {xs : Nat → Int32} {L N : Nat} (hN : 5000 ≤ N) (hL : L ≤ 3072) (rec1 : Int32 → sw_St → Option (Int32 × sw_St)) {x : Int32} {i : Nat} (hi : x = nI i) (h : i + 6 ≤ L) {S : sw_St} (hS : sv_rel S) : ∃ T, sv_rel T ∧ fL_c32 xs L N rec1 x S = rec1 (nI (i + 6)) T := by
  unfold fL_c32
  have e6 : x + (6 : Int32) = nI (i + 6) := by rw [hi]; exact nI_add i 6
  have g1 : sw_in (x + (1 : Int32)) L = true := sw_inx hi (k := 1) (by decide) h hL rfl
  obtain ⟨r, S1, S2, h1, h2, h3⟩ := op_trace N hN hS _
  simp only [g1, sv_gt]
  rw [h1, sv_bd, h2, sv_bd, if_pos rfl, e6]
  exact ⟨S2, h3, rfl⟩
theorem pL_c33 {xs : Nat → Int32} {L N : Nat} (hN : 5000 ≤ N) (hL : L ≤ 3072) (rec1 : Int32 → sw_St → Option (Int32 × sw_St)) {x : Int32} {i : Nat} (hi : x = nI i) (h : i + 6 ≤ L) {S : sw_St} (hS : sv_rel S) : ∃ T, sv_rel T ∧ fL_c33 xs L N rec1 x S = rec1 (nI (i + 6)) T := by
  unfold fL_c33
  have e6 : x + (6 : Int32) = nI (i + 6) := by rw [hi]; exact nI_add i 6
  have g1 : sw_in (x + (1 : Int32)) L = true := sw_inx hi (k := 1) (by decide) h hL rfl
  have g2 : sw_in (x + (2 : Int32)) L = true := sw_inx hi (k := 2) (by decide) h hL rfl
  obtain ⟨r, S1, S2, h1, h2, h3⟩ := op_keep N hN hS _ _
  simp only [g1, g2, sv_gt]
  rw [h1, sv_bd, h2, sv_bd, if_pos rfl, e6]
  exact ⟨S2, h3, rfl⟩
theorem pL_c34 {xs : Nat → Int32} {L N : Nat} (hN : 5000 ≤ N) (hL : L ≤ 3072) (rec1 : Int32 → sw_St → Option (Int32 × sw_St)) {x : Int32} {i : Nat} (hi : x = nI i) (h : i + 6 ≤ L) {S : sw_St} (hS : sv_rel S) : ∃ T, sv_rel T ∧ fL_c34 xs L N rec1 x S = rec1 (nI (i + 6)) T := by
  unfold fL_c34
  have e6 : x + (6 : Int32) = nI (i + 6) := by rw [hi]; exact nI_add i 6
  have g1 : sw_in (x + (1 : Int32)) L = true := sw_inx hi (k := 1) (by decide) h hL rfl
  have g2 : sw_in (x + (2 : Int32)) L = true := sw_inx hi (k := 2) (by decide) h hL rfl
  have g3 : sw_in (x + (3 : Int32)) L = true := sw_inx hi (k := 3) (by decide) h hL rfl
  obtain ⟨r, S1, S2, h1, h2, h3⟩ := op_row N hN hS _ _ _
  simp only [g1, g2, g3, sv_gt]
  rw [h1, sv_bd, h2, sv_bd, if_pos rfl, e6]
  exact ⟨S2, h3, rfl⟩
theorem pL_c35 {xs : Nat → Int32} {L N : Nat} (hN : 5000 ≤ N) (hL : L ≤ 3072) (rec1 : Int32 → sw_St → Option (Int32 × sw_St)) {x : Int32} {i : Nat} (hi : x = nI i) (h : i + 6 ≤ L) {S : sw_St} (hS : sv_rel S) : ∃ T, sv_rel T ∧ fL_c35 xs L N rec1 x S = rec1 (nI (i + 6)) T := by
  unfold fL_c35
  have e6 : x + (6 : Int32) = nI (i + 6) := by rw [hi]; exact nI_add i 6
  have g1 : sw_in (x + (1 : Int32)) L = true := sw_inx hi (k := 1) (by decide) h hL rfl
  have g2 : sw_in (x + (2 : Int32)) L = true := sw_inx hi (k := 2) (by decide) h hL rfl
  have g3 : sw_in (x + (3 : Int32)) L = true := sw_inx hi (k := 3) (by decide) h hL rfl
  have g4 : sw_in (x + (4 : Int32)) L = true := sw_inx hi (k := 4) (by decide) h hL rfl
  obtain ⟨r, S1, S2, h1, h2, h3⟩ := op_put N hN hS _ _ _
  simp only [g1, g2, g3, g4, sv_gt]
  rw [h1, sv_bd, h2, sv_bd, if_pos rfl, e6]
  exact ⟨S2, h3, rfl⟩
theorem pL_c36 {xs : Nat → Int32} {L N : Nat} (hN : 5000 ≤ N) (hL : L ≤ 3072) (rec1 : Int32 → sw_St → Option (Int32 × sw_St)) {x : Int32} {i : Nat} (hi : x = nI i) (h : i + 6 ≤ L) {S : sw_St} (hS : sv_rel S) : ∃ T, sv_rel T ∧ fL_c36 xs L N rec1 x S = rec1 (nI (i + 6)) T := by
  unfold fL_c36
  have e6 : x + (6 : Int32) = nI (i + 6) := by rw [hi]; exact nI_add i 6
  have g1 : sw_in (x + (1 : Int32)) L = true := sw_inx hi (k := 1) (by decide) h hL rfl
  have g2 : sw_in (x + (2 : Int32)) L = true := sw_inx hi (k := 2) (by decide) h hL rfl
  obtain ⟨r, S1, S2, h1, h2, h3⟩ := op_element N hN hS _ _
  simp only [g1, g2, sv_gt]
  rw [h1, sv_bd, h2, sv_bd, e6]
  simp only [lg_cmp]
  refine ⟨S2, h3, ?_⟩
  simp
theorem pL_c37 {xs : Nat → Int32} {L N : Nat} (hN : 5000 ≤ N) (hL : L ≤ 3072) (rec1 : Int32 → sw_St → Option (Int32 × sw_St)) {x : Int32} {i : Nat} (hi : x = nI i) (h : i + 6 ≤ L) {S : sw_St} (hS : sv_rel S) : ∃ T, sv_rel T ∧ fL_c37 xs L N rec1 x S = rec1 (nI (i + 6)) T := by
  unfold fL_c37
  have e6 : x + (6 : Int32) = nI (i + 6) := by rw [hi]; exact nI_add i 6
  have g1 : sw_in (x + (1 : Int32)) L = true := sw_inx hi (k := 1) (by decide) h hL rfl
  have g2 : sw_in (x + (2 : Int32)) L = true := sw_inx hi (k := 2) (by decide) h hL rfl
  have g3 : sw_in (x + (3 : Int32)) L = true := sw_inx hi (k := 3) (by decide) h hL rfl
  have g4 : sw_in (x + (4 : Int32)) L = true := sw_inx hi (k := 4) (by decide) h hL rfl
  have g5 : sw_in (x + (5 : Int32)) L = true := sw_inx hi (k := 5) (by decide) h hL rfl
  obtain ⟨r, S1, S2, h1, h2, h3⟩ := op_shift N hN hS _ _ _ _ _
  simp only [g1, g2, g3, g4, g5, sv_gt]
  rw [h1, sv_bd, h2, sv_bd, if_pos rfl, e6]
  exact ⟨S2, h3, rfl⟩
theorem pL_c38 {xs : Nat → Int32} {L N : Nat} (hN : 5000 ≤ N) (hL : L ≤ 3072) (rec1 : Int32 → sw_St → Option (Int32 × sw_St)) {x : Int32} {i : Nat} (hi : x = nI i) (h : i + 6 ≤ L) {S : sw_St} (hS : sv_rel S) : ∃ T, sv_rel T ∧ fL_c38 xs L N rec1 x S = rec1 (nI (i + 6)) T := by
  unfold fL_c38
  have e6 : x + (6 : Int32) = nI (i + 6) := by rw [hi]; exact nI_add i 6
  have g1 : sw_in (x + (1 : Int32)) L = true := sw_inx hi (k := 1) (by decide) h hL rfl
  have g2 : sw_in (x + (2 : Int32)) L = true := sw_inx hi (k := 2) (by decide) h hL rfl
  obtain ⟨r, S1, S2, h1, h2, h3⟩ := op_taken N hN hS _ _
  simp only [g1, g2, sv_gt]
  rw [h1, sv_bd, h2, sv_bd, if_pos rfl, e6]
  exact ⟨S2, h3, rfl⟩
theorem pL_c39 {xs : Nat → Int32} {L N : Nat} (hN : 5000 ≤ N) (hL : L ≤ 3072) (rec1 : Int32 → sw_St → Option (Int32 × sw_St)) {x : Int32} {i : Nat} (hi : x = nI i) (h : i + 6 ≤ L) {S : sw_St} (hS : sv_rel S) : ∃ T, sv_rel T ∧ fL_c39 xs L N rec1 x S = rec1 (nI (i + 6)) T := by
  unfold fL_c39
  have e6 : x + (6 : Int32) = nI (i + 6) := by rw [hi]; exact nI_add i 6
  have g1 : sw_in (x + (1 : Int32)) L = true := sw_inx hi (k := 1) (by decide) h hL rfl
  obtain ⟨r, S1, S2, h1, h2, h3⟩ := op_count N hN hS _
  simp only [g1, sv_gt]
  rw [h1, sv_bd, h2, sv_bd, if_pos rfl, e6]
  exact ⟨S2, h3, rfl⟩
theorem pL_sub {L : Nat} (hL : L ≤ 3072) : ((Int32.ofNat L) - (6 : Int32)).toInt = (L : Int) - 6 := by
  rw [Int32.toInt_sub, show (Int32.ofNat L).toInt = (L : Int) from nI_toInt (by omega), show ((6 : Int32)).toInt = 6 by decide]
  exact Int.bmod_eq_of_le (by omega) (by omega)
theorem pL_gt {L i : Nat} (hL : L ≤ 3072) (hi : i ≤ 4000) : nI i > (Int32.ofNat L) - (6 : Int32) ↔ L < i + 6 := by
  show (Int32.ofNat L) - (6 : Int32) < nI i ↔ _
  rw [Int32.lt_iff_toInt_lt, pL_sub hL, nI_toInt (by omega)]
  omega
set_option maxHeartbeats 4000000 in
theorem pL_step {xs : Nat → Int32} {L N : Nat} (hN : 5000 ≤ N) (hL : L ≤ 3072) (rec1 : Int32 → sw_St → Option (Int32 × sw_St)) {x3_1 : Int32} {i : Nat} (hi : x3_1 = nI i) (h : i + 6 ≤ L) {S1 : sw_St} (hS : sv_rel S1) : ∃ T, sv_rel T ∧ (if ((xs x3_1.toNatClampNeg) &&& (63 : Int32)) = (0 : Int32) then (fL_c0 xs L N rec1 x3_1 S1) else (if ((xs x3_1.toNatClampNeg) &&& (63 : Int32)) = (1 : Int32) then (fL_c1 xs L N rec1 x3_1 S1) else (if ((xs x3_1.toNatClampNeg) &&& (63 : Int32)) = (2 : Int32) then (fL_c2 xs L N rec1 x3_1 S1) else (if ((xs x3_1.toNatClampNeg) &&& (63 : Int32)) = (3 : Int32) then (fL_c3 xs L N rec1 x3_1 S1) else (if ((xs x3_1.toNatClampNeg) &&& (63 : Int32)) = (4 : Int32) then (fL_c4 xs L N rec1 x3_1 S1) else (if ((xs x3_1.toNatClampNeg) &&& (63 : Int32)) = (5 : Int32) then (fL_c5 xs L N rec1 x3_1 S1) else (if ((xs x3_1.toNatClampNeg) &&& (63 : Int32)) = (6 : Int32) then (fL_c6 xs L N rec1 x3_1 S1) else (if ((xs x3_1.toNatClampNeg) &&& (63 : Int32)) = (7 : Int32) then (fL_c7 xs L N rec1 x3_1 S1) else (if ((xs x3_1.toNatClampNeg) &&& (63 : Int32)) = (8 : Int32) then (fL_c8 xs L N rec1 x3_1 S1) else (if ((xs x3_1.toNatClampNeg) &&& (63 : Int32)) = (9 : Int32) then (fL_c9 xs L N rec1 x3_1 S1) else (if ((xs x3_1.toNatClampNeg) &&& (63 : Int32)) = (10 : Int32) then (fL_c10 xs L N rec1 x3_1 S1) else (if ((xs x3_1.toNatClampNeg) &&& (63 : Int32)) = (11 : Int32) then (fL_c11 xs L N rec1 x3_1 S1) else (if ((xs x3_1.toNatClampNeg) &&& (63 : Int32)) = (12 : Int32) then (fL_c12 xs L N rec1 x3_1 S1) else (if ((xs x3_1.toNatClampNeg) &&& (63 : Int32)) = (13 : Int32) then (fL_c13 xs L N rec1 x3_1 S1) else (if ((xs x3_1.toNatClampNeg) &&& (63 : Int32)) = (14 : Int32) then (fL_c14 xs L N rec1 x3_1 S1) else (if ((xs x3_1.toNatClampNeg) &&& (63 : Int32)) = (15 : Int32) then (fL_c15 xs L N rec1 x3_1 S1) else (if ((xs x3_1.toNatClampNeg) &&& (63 : Int32)) = (16 : Int32) then (fL_c16 xs L N rec1 x3_1 S1) else (if ((xs x3_1.toNatClampNeg) &&& (63 : Int32)) = (17 : Int32) then (fL_c17 xs L N rec1 x3_1 S1) else (if ((xs x3_1.toNatClampNeg) &&& (63 : Int32)) = (18 : Int32) then (fL_c18 xs L N rec1 x3_1 S1) else (if ((xs x3_1.toNatClampNeg) &&& (63 : Int32)) = (19 : Int32) then (fL_c19 xs L N rec1 x3_1 S1) else (if ((xs x3_1.toNatClampNeg) &&& (63 : Int32)) = (20 : Int32) then (fL_c20 xs L N rec1 x3_1 S1) else (if ((xs x3_1.toNatClampNeg) &&& (63 : Int32)) = (21 : Int32) then (fL_c21 xs L N rec1 x3_1 S1) else (if ((xs x3_1.toNatClampNeg) &&& (63 : Int32)) = (22 : Int32) then (fL_c22 xs L N rec1 x3_1 S1) else (if ((xs x3_1.toNatClampNeg) &&& (63 : Int32)) = (23 : Int32) then (fL_c23 xs L N rec1 x3_1 S1) else (if ((xs x3_1.toNatClampNeg) &&& (63 : Int32)) = (24 : Int32) then (fL_c24 xs L N rec1 x3_1 S1) else (if ((xs x3_1.toNatClampNeg) &&& (63 : Int32)) = (25 : Int32) then (fL_c25 xs L N rec1 x3_1 S1) else (if ((xs x3_1.toNatClampNeg) &&& (63 : Int32)) = (26 : Int32) then (fL_c26 xs L N rec1 x3_1 S1) else (if ((xs x3_1.toNatClampNeg) &&& (63 : Int32)) = (27 : Int32) then (fL_c27 xs L N rec1 x3_1 S1) else (if ((xs x3_1.toNatClampNeg) &&& (63 : Int32)) = (28 : Int32) then (fL_c28 xs L N rec1 x3_1 S1) else (if ((xs x3_1.toNatClampNeg) &&& (63 : Int32)) = (29 : Int32) then (fL_c29 xs L N rec1 x3_1 S1) else (if ((xs x3_1.toNatClampNeg) &&& (63 : Int32)) = (30 : Int32) then (fL_c30 xs L N rec1 x3_1 S1) else (if ((xs x3_1.toNatClampNeg) &&& (63 : Int32)) = (31 : Int32) then (fL_c31 xs L N rec1 x3_1 S1) else (if ((xs x3_1.toNatClampNeg) &&& (63 : Int32)) = (32 : Int32) then (fL_c32 xs L N rec1 x3_1 S1) else (if ((xs x3_1.toNatClampNeg) &&& (63 : Int32)) = (33 : Int32) then (fL_c33 xs L N rec1 x3_1 S1) else (if ((xs x3_1.toNatClampNeg) &&& (63 : Int32)) = (34 : Int32) then (fL_c34 xs L N rec1 x3_1 S1) else (if ((xs x3_1.toNatClampNeg) &&& (63 : Int32)) = (35 : Int32) then (fL_c35 xs L N rec1 x3_1 S1) else (if ((xs x3_1.toNatClampNeg) &&& (63 : Int32)) = (36 : Int32) then (fL_c36 xs L N rec1 x3_1 S1) else (if ((xs x3_1.toNatClampNeg) &&& (63 : Int32)) = (37 : Int32) then (fL_c37 xs L N rec1 x3_1 S1) else (if ((xs x3_1.toNatClampNeg) &&& (63 : Int32)) = (38 : Int32) then (fL_c38 xs L N rec1 x3_1 S1) else (if ((xs x3_1.toNatClampNeg) &&& (63 : Int32)) = (39 : Int32) then (fL_c39 xs L N rec1 x3_1 S1) else (rec1 (x3_1 + (6 : Int32)) S1))))))))))))))))))))))))))))))))))))))))) = rec1 (nI (i + 6)) T := by
  by_cases h0 : ((xs x3_1.toNatClampNeg) &&& (63 : Int32)) = (0 : Int32)
  · rw [if_pos h0]; exact pL_c0 hN hL rec1 hi h hS
  rw [if_neg h0]
  by_cases h1 : ((xs x3_1.toNatClampNeg) &&& (63 : Int32)) = (1 : Int32)
  · rw [if_pos h1]; exact pL_c1 hN hL rec1 hi h hS
  rw [if_neg h1]
  by_cases h2 : ((xs x3_1.toNatClampNeg) &&& (63 : Int32)) = (2 : Int32)
  · rw [if_pos h2]; exact pL_c2 hN hL rec1 hi h hS
  rw [if_neg h2]
  by_cases h3 : ((xs x3_1.toNatClampNeg) &&& (63 : Int32)) = (3 : Int32)
  · rw [if_pos h3]; exact pL_c3 hN hL rec1 hi h hS
  rw [if_neg h3]
  by_cases h4 : ((xs x3_1.toNatClampNeg) &&& (63 : Int32)) = (4 : Int32)
  · rw [if_pos h4]; exact pL_c4 hN hL rec1 hi h hS
  rw [if_neg h4]
  by_cases h5 : ((xs x3_1.toNatClampNeg) &&& (63 : Int32)) = (5 : Int32)
  · rw [if_pos h5]; exact pL_c5 hN hL rec1 hi h hS
  rw [if_neg h5]
  by_cases h6 : ((xs x3_1.toNatClampNeg) &&& (63 : Int32)) = (6 : Int32)
  · rw [if_pos h6]; exact pL_c6 hN hL rec1 hi h hS
  rw [if_neg h6]
  by_cases h7 : ((xs x3_1.toNatClampNeg) &&& (63 : Int32)) = (7 : Int32)
  · rw [if_pos h7]; exact pL_c7 hN hL rec1 hi h hS
  rw [if_neg h7]
  by_cases h8 : ((xs x3_1.toNatClampNeg) &&& (63 : Int32)) = (8 : Int32)
  · rw [if_pos h8]; exact pL_c8 hN hL rec1 hi h hS
  rw [if_neg h8]
  by_cases h9 : ((xs x3_1.toNatClampNeg) &&& (63 : Int32)) = (9 : Int32)
  · rw [if_pos h9]; exact pL_c9 hN hL rec1 hi h hS
  rw [if_neg h9]
  by_cases h10 : ((xs x3_1.toNatClampNeg) &&& (63 : Int32)) = (10 : Int32)
  · rw [if_pos h10]; exact pL_c10 hN hL rec1 hi h hS
  rw [if_neg h10]
  by_cases h11 : ((xs x3_1.toNatClampNeg) &&& (63 : Int32)) = (11 : Int32)
  · rw [if_pos h11]; exact pL_c11 hN hL rec1 hi h hS
  rw [if_neg h11]
  by_cases h12 : ((xs x3_1.toNatClampNeg) &&& (63 : Int32)) = (12 : Int32)
  · rw [if_pos h12]; exact pL_c12 hN hL rec1 hi h hS
  rw [if_neg h12]
  by_cases h13 : ((xs x3_1.toNatClampNeg) &&& (63 : Int32)) = (13 : Int32)
  · rw [if_pos h13]; exact pL_c13 hN hL rec1 hi h hS
  rw [if_neg h13]
  by_cases h14 : ((xs x3_1.toNatClampNeg) &&& (63 : Int32)) = (14 : Int32)
  · rw [if_pos h14]; exact pL_c14 hN hL rec1 hi h hS
  rw [if_neg h14]
  by_cases h15 : ((xs x3_1.toNatClampNeg) &&& (63 : Int32)) = (15 : Int32)
  · rw [if_pos h15]; exact pL_c15 hN hL rec1 hi h hS
  rw [if_neg h15]
  by_cases h16 : ((xs x3_1.toNatClampNeg) &&& (63 : Int32)) = (16 : Int32)
  · rw [if_pos h16]; exact pL_c16 hN hL rec1 hi h hS
  rw [if_neg h16]
  by_cases h17 : ((xs x3_1.toNatClampNeg) &&& (63 : Int32)) = (17 : Int32)
  · rw [if_pos h17]; exact pL_c17 hN hL rec1 hi h hS
  rw [if_neg h17]
  by_cases h18 : ((xs x3_1.toNatClampNeg) &&& (63 : Int32)) = (18 : Int32)
  · rw [if_pos h18]; exact pL_c18 hN hL rec1 hi h hS
  rw [if_neg h18]
  by_cases h19 : ((xs x3_1.toNatClampNeg) &&& (63 : Int32)) = (19 : Int32)
  · rw [if_pos h19]; exact pL_c19 hN hL rec1 hi h hS
  rw [if_neg h19]
  by_cases h20 : ((xs x3_1.toNatClampNeg) &&& (63 : Int32)) = (20 : Int32)
  · rw [if_pos h20]; exact pL_c20 hN hL rec1 hi h hS
  rw [if_neg h20]
  by_cases h21 : ((xs x3_1.toNatClampNeg) &&& (63 : Int32)) = (21 : Int32)
  · rw [if_pos h21]; exact pL_c21 hN hL rec1 hi h hS
  rw [if_neg h21]
  by_cases h22 : ((xs x3_1.toNatClampNeg) &&& (63 : Int32)) = (22 : Int32)
  · rw [if_pos h22]; exact pL_c22 hN hL rec1 hi h hS
  rw [if_neg h22]
  by_cases h23 : ((xs x3_1.toNatClampNeg) &&& (63 : Int32)) = (23 : Int32)
  · rw [if_pos h23]; exact pL_c23 hN hL rec1 hi h hS
  rw [if_neg h23]
  by_cases h24 : ((xs x3_1.toNatClampNeg) &&& (63 : Int32)) = (24 : Int32)
  · rw [if_pos h24]; exact pL_c24 hN hL rec1 hi h hS
  rw [if_neg h24]
  by_cases h25 : ((xs x3_1.toNatClampNeg) &&& (63 : Int32)) = (25 : Int32)
  · rw [if_pos h25]; exact pL_c25 hN hL rec1 hi h hS
  rw [if_neg h25]
  by_cases h26 : ((xs x3_1.toNatClampNeg) &&& (63 : Int32)) = (26 : Int32)
  · rw [if_pos h26]; exact pL_c26 hN hL rec1 hi h hS
  rw [if_neg h26]
  by_cases h27 : ((xs x3_1.toNatClampNeg) &&& (63 : Int32)) = (27 : Int32)
  · rw [if_pos h27]; exact pL_c27 hN hL rec1 hi h hS
  rw [if_neg h27]
  by_cases h28 : ((xs x3_1.toNatClampNeg) &&& (63 : Int32)) = (28 : Int32)
  · rw [if_pos h28]; exact pL_c28 hN hL rec1 hi h hS
  rw [if_neg h28]
  by_cases h29 : ((xs x3_1.toNatClampNeg) &&& (63 : Int32)) = (29 : Int32)
  · rw [if_pos h29]; exact pL_c29 hN hL rec1 hi h hS
  rw [if_neg h29]
  by_cases h30 : ((xs x3_1.toNatClampNeg) &&& (63 : Int32)) = (30 : Int32)
  · rw [if_pos h30]; exact pL_c30 hN hL rec1 hi h hS
  rw [if_neg h30]
  by_cases h31 : ((xs x3_1.toNatClampNeg) &&& (63 : Int32)) = (31 : Int32)
  · rw [if_pos h31]; exact pL_c31 hN hL rec1 hi h hS
  rw [if_neg h31]
  by_cases h32 : ((xs x3_1.toNatClampNeg) &&& (63 : Int32)) = (32 : Int32)
  · rw [if_pos h32]; exact pL_c32 hN hL rec1 hi h hS
  rw [if_neg h32]
  by_cases h33 : ((xs x3_1.toNatClampNeg) &&& (63 : Int32)) = (33 : Int32)
  · rw [if_pos h33]; exact pL_c33 hN hL rec1 hi h hS
  rw [if_neg h33]
  by_cases h34 : ((xs x3_1.toNatClampNeg) &&& (63 : Int32)) = (34 : Int32)
  · rw [if_pos h34]; exact pL_c34 hN hL rec1 hi h hS
  rw [if_neg h34]
  by_cases h35 : ((xs x3_1.toNatClampNeg) &&& (63 : Int32)) = (35 : Int32)
  · rw [if_pos h35]; exact pL_c35 hN hL rec1 hi h hS
  rw [if_neg h35]
  by_cases h36 : ((xs x3_1.toNatClampNeg) &&& (63 : Int32)) = (36 : Int32)
  · rw [if_pos h36]; exact pL_c36 hN hL rec1 hi h hS
  rw [if_neg h36]
  by_cases h37 : ((xs x3_1.toNatClampNeg) &&& (63 : Int32)) = (37 : Int32)
  · rw [if_pos h37]; exact pL_c37 hN hL rec1 hi h hS
  rw [if_neg h37]
  by_cases h38 : ((xs x3_1.toNatClampNeg) &&& (63 : Int32)) = (38 : Int32)
  · rw [if_pos h38]; exact pL_c38 hN hL rec1 hi h hS
  rw [if_neg h38]
  by_cases h39 : ((xs x3_1.toNatClampNeg) &&& (63 : Int32)) = (39 : Int32)
  · rw [if_pos h39]; exact pL_c39 hN hL rec1 hi h hS
  rw [if_neg h39]
  exact ⟨S1, hS, by rw [show x3_1 + (6 : Int32) = nI (i + 6) by rw [hi]; exact nI_add i 6]⟩
theorem pL_law {xs : Nat → Int32} {L N : Nat} (hN : 5000 ≤ N) (hL : L ≤ 3072) {S : sw_St} (hS : sv_rel S) : ∃ T, fL_law xs L N (0 : Int32) S = some ((1 : Int32), T) := by
  unfold fL_law
  refine sv_fr1 (Q := fun r => ∃ T, r = some ((1 : Int32), T)) (fun k a T => a = nI (6 * k) ∧ sv_rel T) (L / 6) ?_ ?_ N 0 S (by omega) ⟨rfl, hS⟩
  · intro k a T rec hk hI
    obtain ⟨h1, h2⟩ := hI
    have h6 : 6 * k + 6 ≤ L := by omega
    left
    obtain ⟨T2, g1, g2⟩ := pL_step (xs := xs) hN hL rec h1 h6 h2
    refine ⟨nI (6 * k + 6), T2, ⟨by rw [show 6 * (k + 1) = 6 * k + 6 by omega], g1⟩, ?_⟩
    have hng : ¬ a > (Int32.ofNat L) - (6 : Int32) := by rw [h1, pL_gt hL (by omega)]; omega
    have hin : sw_in a L = true := by rw [h1]; exact sv_in (by omega) (by omega)
    rw [if_neg hng, hin, sv_gt]
    exact g2
  · intro a T rec hI
    obtain ⟨h1, h2⟩ := hI
    have hg : a > (Int32.ofNat L) - (6 : Int32) := by rw [h1, pL_gt hL (by omega)]; omega
    rw [if_pos hg]
    exact ⟨T, rfl⟩
