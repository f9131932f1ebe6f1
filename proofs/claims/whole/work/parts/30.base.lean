/-! rules for the pictures: loops by a count, small rows -/
theorem sv_fr0 {ρ : Type} {body : (sw_St → Option ρ) → sw_St → Option ρ} {Q : Option ρ → Prop} (I : Nat → sw_St → Prop) (m : Nat) (hs : ∀ k (S : sw_St) (rec : sw_St → Option ρ), k < m → I k  S → (∃ (T : sw_St), I (k + 1)  T ∧ body rec  S = rec  T) ∨ Q (body rec  S)) (he : ∀ (S : sw_St) (rec : sw_St → Option ρ), I m  S → Q (body rec  S)) : ∀ (n : Nat) (S : sw_St), m < n → I 0  S → Q (sw_fx0 body n  S) := by
  have go : ∀ (j k : Nat), k + j = m → ∀ (n : Nat) (S : sw_St), j < n → I k  S → Q (sw_fx0 body n  S) := by
    intro j
    induction j with
    | zero =>
      intro k hk n  S hn hI
      obtain ⟨n, rfl⟩ : ∃ q, n = q + 1 := ⟨n - 1, by omega⟩
      have hk : k = m := by omega
      subst hk
      exact he  S _ hI
    | succ j ih =>
      intro k hk n  S hn hI
      obtain ⟨n, rfl⟩ : ∃ q, n = q + 1 := ⟨n - 1, by omega⟩
      rcases hs k  S (sw_fx0 body n) (by omega) hI with ⟨T, h1, h2⟩ | h
      · show Q (body (sw_fx0 body n)  S)
        rw [h2]
        exact ih (k + 1) (by omega) n  _ (by omega) h1
      · exact h
  exact fun n  S hn hI => go m 0 (by omega) n  S hn hI
theorem sv_fr1 {ρ : Type} {body : (Int32 → sw_St → Option ρ) → Int32 → sw_St → Option ρ} {Q : Option ρ → Prop} (I : Nat → Int32 → sw_St → Prop) (m : Nat) (hs : ∀ k (a0 : Int32) (S : sw_St) (rec : Int32 → sw_St → Option ρ), k < m → I k a0 S → (∃ (b0 : Int32) (T : sw_St), I (k + 1) b0 T ∧ body rec a0 S = rec b0 T) ∨ Q (body rec a0 S)) (he : ∀ (a0 : Int32) (S : sw_St) (rec : Int32 → sw_St → Option ρ), I m a0 S → Q (body rec a0 S)) : ∀ (n : Nat) (a0 : Int32) (S : sw_St), m < n → I 0 a0 S → Q (sw_fx1 body n a0 S) := by
  have go : ∀ (j k : Nat), k + j = m → ∀ (n : Nat) (a0 : Int32) (S : sw_St), j < n → I k a0 S → Q (sw_fx1 body n a0 S) := by
    intro j
    induction j with
    | zero =>
      intro k hk n a0 S hn hI
      obtain ⟨n, rfl⟩ : ∃ q, n = q + 1 := ⟨n - 1, by omega⟩
      have hk : k = m := by omega
      subst hk
      exact he a0 S _ hI
    | succ j ih =>
      intro k hk n a0 S hn hI
      obtain ⟨n, rfl⟩ : ∃ q, n = q + 1 := ⟨n - 1, by omega⟩
      rcases hs k a0 S (sw_fx1 body n) (by omega) hI with ⟨b0, T, h1, h2⟩ | h
      · show Q (body (sw_fx1 body n) a0 S)
        rw [h2]
        exact ih (k + 1) (by omega) n b0 _ (by omega) h1
      · exact h
  exact fun n a0 S hn hI => go m 0 (by omega) n a0 S hn hI
theorem sv_fr2 {ρ : Type} {body : (Int32 → Int32 → sw_St → Option ρ) → Int32 → Int32 → sw_St → Option ρ} {Q : Option ρ → Prop} (I : Nat → Int32 → Int32 → sw_St → Prop) (m : Nat) (hs : ∀ k (a0 a1 : Int32) (S : sw_St) (rec : Int32 → Int32 → sw_St → Option ρ), k < m → I k a0 a1 S → (∃ (b0 b1 : Int32) (T : sw_St), I (k + 1) b0 b1 T ∧ body rec a0 a1 S = rec b0 b1 T) ∨ Q (body rec a0 a1 S)) (he : ∀ (a0 a1 : Int32) (S : sw_St) (rec : Int32 → Int32 → sw_St → Option ρ), I m a0 a1 S → Q (body rec a0 a1 S)) : ∀ (n : Nat) (a0 a1 : Int32) (S : sw_St), m < n → I 0 a0 a1 S → Q (sw_fx2 body n a0 a1 S) := by
  have go : ∀ (j k : Nat), k + j = m → ∀ (n : Nat) (a0 a1 : Int32) (S : sw_St), j < n → I k a0 a1 S → Q (sw_fx2 body n a0 a1 S) := by
    intro j
    induction j with
    | zero =>
      intro k hk n a0 a1 S hn hI
      obtain ⟨n, rfl⟩ : ∃ q, n = q + 1 := ⟨n - 1, by omega⟩
      have hk : k = m := by omega
      subst hk
      exact he a0 a1 S _ hI
    | succ j ih =>
      intro k hk n a0 a1 S hn hI
      obtain ⟨n, rfl⟩ : ∃ q, n = q + 1 := ⟨n - 1, by omega⟩
      rcases hs k a0 a1 S (sw_fx2 body n) (by omega) hI with ⟨b0, b1, T, h1, h2⟩ | h
      · show Q (body (sw_fx2 body n) a0 a1 S)
        rw [h2]
        exact ih (k + 1) (by omega) n b0 b1 _ (by omega) h1
      · exact h
  exact fun n a0 a1 S hn hI => go m 0 (by omega) n a0 a1 S hn hI
theorem sv_fr3 {ρ : Type} {body : (Int32 → Int32 → Int32 → sw_St → Option ρ) → Int32 → Int32 → Int32 → sw_St → Option ρ} {Q : Option ρ → Prop} (I : Nat → Int32 → Int32 → Int32 → sw_St → Prop) (m : Nat) (hs : ∀ k (a0 a1 a2 : Int32) (S : sw_St) (rec : Int32 → Int32 → Int32 → sw_St → Option ρ), k < m → I k a0 a1 a2 S → (∃ (b0 b1 b2 : Int32) (T : sw_St), I (k + 1) b0 b1 b2 T ∧ body rec a0 a1 a2 S = rec b0 b1 b2 T) ∨ Q (body rec a0 a1 a2 S)) (he : ∀ (a0 a1 a2 : Int32) (S : sw_St) (rec : Int32 → Int32 → Int32 → sw_St → Option ρ), I m a0 a1 a2 S → Q (body rec a0 a1 a2 S)) : ∀ (n : Nat) (a0 a1 a2 : Int32) (S : sw_St), m < n → I 0 a0 a1 a2 S → Q (sw_fx3 body n a0 a1 a2 S) := by
  have go : ∀ (j k : Nat), k + j = m → ∀ (n : Nat) (a0 a1 a2 : Int32) (S : sw_St), j < n → I k a0 a1 a2 S → Q (sw_fx3 body n a0 a1 a2 S) := by
    intro j
    induction j with
    | zero =>
      intro k hk n a0 a1 a2 S hn hI
      obtain ⟨n, rfl⟩ : ∃ q, n = q + 1 := ⟨n - 1, by omega⟩
      have hk : k = m := by omega
      subst hk
      exact he a0 a1 a2 S _ hI
    | succ j ih =>
      intro k hk n a0 a1 a2 S hn hI
      obtain ⟨n, rfl⟩ : ∃ q, n = q + 1 := ⟨n - 1, by omega⟩
      rcases hs k a0 a1 a2 S (sw_fx3 body n) (by omega) hI with ⟨b0, b1, b2, T, h1, h2⟩ | h
      · show Q (body (sw_fx3 body n) a0 a1 a2 S)
        rw [h2]
        exact ih (k + 1) (by omega) n b0 b1 b2 _ (by omega) h1
      · exact h
  exact fun n a0 a1 a2 S hn hI => go m 0 (by omega) n a0 a1 a2 S hn hI
theorem sv_fr4 {ρ : Type} {body : (Int32 → Int32 → Int32 → Int32 → sw_St → Option ρ) → Int32 → Int32 → Int32 → Int32 → sw_St → Option ρ} {Q : Option ρ → Prop} (I : Nat → Int32 → Int32 → Int32 → Int32 → sw_St → Prop) (m : Nat) (hs : ∀ k (a0 a1 a2 a3 : Int32) (S : sw_St) (rec : Int32 → Int32 → Int32 → Int32 → sw_St → Option ρ), k < m → I k a0 a1 a2 a3 S → (∃ (b0 b1 b2 b3 : Int32) (T : sw_St), I (k + 1) b0 b1 b2 b3 T ∧ body rec a0 a1 a2 a3 S = rec b0 b1 b2 b3 T) ∨ Q (body rec a0 a1 a2 a3 S)) (he : ∀ (a0 a1 a2 a3 : Int32) (S : sw_St) (rec : Int32 → Int32 → Int32 → Int32 → sw_St → Option ρ), I m a0 a1 a2 a3 S → Q (body rec a0 a1 a2 a3 S)) : ∀ (n : Nat) (a0 a1 a2 a3 : Int32) (S : sw_St), m < n → I 0 a0 a1 a2 a3 S → Q (sw_fx4 body n a0 a1 a2 a3 S) := by
  have go : ∀ (j k : Nat), k + j = m → ∀ (n : Nat) (a0 a1 a2 a3 : Int32) (S : sw_St), j < n → I k a0 a1 a2 a3 S → Q (sw_fx4 body n a0 a1 a2 a3 S) := by
    intro j
    induction j with
    | zero =>
      intro k hk n a0 a1 a2 a3 S hn hI
      obtain ⟨n, rfl⟩ : ∃ q, n = q + 1 := ⟨n - 1, by omega⟩
      have hk : k = m := by omega
      subst hk
      exact he a0 a1 a2 a3 S _ hI
    | succ j ih =>
      intro k hk n a0 a1 a2 a3 S hn hI
      obtain ⟨n, rfl⟩ : ∃ q, n = q + 1 := ⟨n - 1, by omega⟩
      rcases hs k a0 a1 a2 a3 S (sw_fx4 body n) (by omega) hI with ⟨b0, b1, b2, b3, T, h1, h2⟩ | h
      · show Q (body (sw_fx4 body n) a0 a1 a2 a3 S)
        rw [h2]
        exact ih (k + 1) (by omega) n b0 b1 b2 b3 _ (by omega) h1
      · exact h
  exact fun n a0 a1 a2 a3 S hn hI => go m 0 (by omega) n a0 a1 a2 a3 S hn hI
theorem sv_fr5 {ρ : Type} {body : (Int32 → Int32 → Int32 → Int32 → Int32 → sw_St → Option ρ) → Int32 → Int32 → Int32 → Int32 → Int32 → sw_St → Option ρ} {Q : Option ρ → Prop} (I : Nat → Int32 → Int32 → Int32 → Int32 → Int32 → sw_St → Prop) (m : Nat) (hs : ∀ k (a0 a1 a2 a3 a4 : Int32) (S : sw_St) (rec : Int32 → Int32 → Int32 → Int32 → Int32 → sw_St → Option ρ), k < m → I k a0 a1 a2 a3 a4 S → (∃ (b0 b1 b2 b3 b4 : Int32) (T : sw_St), I (k + 1) b0 b1 b2 b3 b4 T ∧ body rec a0 a1 a2 a3 a4 S = rec b0 b1 b2 b3 b4 T) ∨ Q (body rec a0 a1 a2 a3 a4 S)) (he : ∀ (a0 a1 a2 a3 a4 : Int32) (S : sw_St) (rec : Int32 → Int32 → Int32 → Int32 → Int32 → sw_St → Option ρ), I m a0 a1 a2 a3 a4 S → Q (body rec a0 a1 a2 a3 a4 S)) : ∀ (n : Nat) (a0 a1 a2 a3 a4 : Int32) (S : sw_St), m < n → I 0 a0 a1 a2 a3 a4 S → Q (sw_fx5 body n a0 a1 a2 a3 a4 S) := by
  have go : ∀ (j k : Nat), k + j = m → ∀ (n : Nat) (a0 a1 a2 a3 a4 : Int32) (S : sw_St), j < n → I k a0 a1 a2 a3 a4 S → Q (sw_fx5 body n a0 a1 a2 a3 a4 S) := by
    intro j
    induction j with
    | zero =>
      intro k hk n a0 a1 a2 a3 a4 S hn hI
      obtain ⟨n, rfl⟩ : ∃ q, n = q + 1 := ⟨n - 1, by omega⟩
      have hk : k = m := by omega
      subst hk
      exact he a0 a1 a2 a3 a4 S _ hI
    | succ j ih =>
      intro k hk n a0 a1 a2 a3 a4 S hn hI
      obtain ⟨n, rfl⟩ : ∃ q, n = q + 1 := ⟨n - 1, by omega⟩
      rcases hs k a0 a1 a2 a3 a4 S (sw_fx5 body n) (by omega) hI with ⟨b0, b1, b2, b3, b4, T, h1, h2⟩ | h
      · show Q (body (sw_fx5 body n) a0 a1 a2 a3 a4 S)
        rw [h2]
        exact ih (k + 1) (by omega) n b0 b1 b2 b3 b4 _ (by omega) h1
      · exact h
  exact fun n a0 a1 a2 a3 a4 S hn hI => go m 0 (by omega) n a0 a1 a2 a3 a4 S hn hI
theorem sv_fr6 {ρ : Type} {body : (Int32 → Int32 → Int32 → Int32 → Int32 → Int32 → sw_St → Option ρ) → Int32 → Int32 → Int32 → Int32 → Int32 → Int32 → sw_St → Option ρ} {Q : Option ρ → Prop} (I : Nat → Int32 → Int32 → Int32 → Int32 → Int32 → Int32 → sw_St → Prop) (m : Nat) (hs : ∀ k (a0 a1 a2 a3 a4 a5 : Int32) (S : sw_St) (rec : Int32 → Int32 → Int32 → Int32 → Int32 → Int32 → sw_St → Option ρ), k < m → I k a0 a1 a2 a3 a4 a5 S → (∃ (b0 b1 b2 b3 b4 b5 : Int32) (T : sw_St), I (k + 1) b0 b1 b2 b3 b4 b5 T ∧ body rec a0 a1 a2 a3 a4 a5 S = rec b0 b1 b2 b3 b4 b5 T) ∨ Q (body rec a0 a1 a2 a3 a4 a5 S)) (he : ∀ (a0 a1 a2 a3 a4 a5 : Int32) (S : sw_St) (rec : Int32 → Int32 → Int32 → Int32 → Int32 → Int32 → sw_St → Option ρ), I m a0 a1 a2 a3 a4 a5 S → Q (body rec a0 a1 a2 a3 a4 a5 S)) : ∀ (n : Nat) (a0 a1 a2 a3 a4 a5 : Int32) (S : sw_St), m < n → I 0 a0 a1 a2 a3 a4 a5 S → Q (sw_fx6 body n a0 a1 a2 a3 a4 a5 S) := by
  have go : ∀ (j k : Nat), k + j = m → ∀ (n : Nat) (a0 a1 a2 a3 a4 a5 : Int32) (S : sw_St), j < n → I k a0 a1 a2 a3 a4 a5 S → Q (sw_fx6 body n a0 a1 a2 a3 a4 a5 S) := by
    intro j
    induction j with
    | zero =>
      intro k hk n a0 a1 a2 a3 a4 a5 S hn hI
      obtain ⟨n, rfl⟩ : ∃ q, n = q + 1 := ⟨n - 1, by omega⟩
      have hk : k = m := by omega
      subst hk
      exact he a0 a1 a2 a3 a4 a5 S _ hI
    | succ j ih =>
      intro k hk n a0 a1 a2 a3 a4 a5 S hn hI
      obtain ⟨n, rfl⟩ : ∃ q, n = q + 1 := ⟨n - 1, by omega⟩
      rcases hs k a0 a1 a2 a3 a4 a5 S (sw_fx6 body n) (by omega) hI with ⟨b0, b1, b2, b3, b4, b5, T, h1, h2⟩ | h
      · show Q (body (sw_fx6 body n) a0 a1 a2 a3 a4 a5 S)
        rw [h2]
        exact ih (k + 1) (by omega) n b0 b1 b2 b3 b4 b5 _ (by omega) h1
      · exact h
  exact fun n a0 a1 a2 a3 a4 a5 S hn hI => go m 0 (by omega) n a0 a1 a2 a3 a4 a5 S hn hI
theorem sv_bd {α β : Type} (r : α) (S : sw_St) (K : α → sw_St → Option β) : sw_bd (some (r, S)) K = K r S := rfl
theorem sv_gt {β : Type} (t : Option β) : sw_gd true t = t := rfl
theorem sv_ls {ρ : Type} (S : sw_St) (K : sw_St → Option ρ) : sw_ls S K = K S := rfl
theorem sv_li {ρ : Type} (v : Int32) (K : Int32 → Option ρ) : sw_li v K = K v := rfl
theorem sv_lit (n : Nat) : (OfNat.ofNat n : Int32) = nI (OfNat.ofNat n) := rfl
theorem sv_in {k n : Nat} (h : k < n) (hn : n < 2 ^ 31) : sw_in (nI k) n = true := by
  unfold sw_in
  rw [nI_clamp (by omega)]
  simp only [Bool.and_eq_true, Bool.not_eq_true', decide_eq_false_iff_not, decide_eq_true_eq]
  exact ⟨nI_pos (by omega), h⟩
theorem sv_gi {β : Type} {k n : Nat} (h : k < n) (hn : n < 2 ^ 31) (t : Option β) : sw_gd (sw_in (nI k) n) t = t := by rw [sv_in h hn]; rfl
theorem sv_si (S : sw_St) (o k : Nat) (v : Int32) (a b : Nat) : (sw_si S o k v).1 a b = if a = o ∧ b = k then v else S.1 a b := by
  unfold sw_si upd
  by_cases ha : a = o
  · subst ha
    by_cases hb : b = k <;> simp [hb]
  · simp [ha]
theorem sv_si2 (S : sw_St) (o k : Nat) (v : Int32) : (sw_si S o k v).2 = S.2 := rfl
theorem sv_sj (S : sw_St) (o k : Nat) (v : Int64) (a b : Nat) : (sw_sj S o k v).2 a b = if a = o ∧ b = k then v else S.2 a b := by
  unfold sw_sj vp_updL
  by_cases ha : a = o
  · subst ha
    by_cases hb : b = k <;> simp [hb]
  · simp [ha]
theorem sv_sj1 (S : sw_St) (o k : Nat) (v : Int64) : (sw_sj S o k v).1 = S.1 := rfl
theorem sv_ci (S : sw_St) (o q sp dp n : Nat) (a b : Nat) : (sw_ci S o q sp dp n).1 a b = if a = q ∧ dp ≤ b ∧ b < dp + n then S.1 o (sp + (b - dp)) else S.1 a b := by
  unfold sw_ci va_cpy
  by_cases ha : a = q
  · subst ha
    by_cases hb : dp ≤ b ∧ b < dp + n <;> simp [hb]
  · simp [ha]
theorem sv_ci2 (S : sw_St) (o q sp dp n : Nat) : (sw_ci S o q sp dp n).2 = S.2 := rfl
theorem sv_cj (S : sw_St) (o q sp dp n : Nat) (a b : Nat) : (sw_cj S o q sp dp n).2 a b = if a = q ∧ dp ≤ b ∧ b < dp + n then S.2 o (sp + (b - dp)) else S.2 a b := by
  unfold sw_cj va_cpy
  by_cases ha : a = q
  · subst ha
    by_cases hb : dp ≤ b ∧ b < dp + n <;> simp [hb]
  · simp [ha]
theorem sv_cj1 (S : sw_St) (o q sp dp n : Nat) : (sw_cj S o q sp dp n).1 = S.1 := rfl
theorem sv_cg {sp dp n n0 n1 : Nat} (h0 : sp + n ≤ n0) (h1 : dp + n ≤ n1) (hn0 : n0 < 2 ^ 31) (hn1 : n1 < 2 ^ 31) : sw_cg (nI sp) (nI dp) (nI n) n0 n1 = true := by
  unfold sw_cg
  rw [nI_clamp (by omega), nI_clamp (by omega), nI_clamp (by omega)]
  simp only [Bool.and_eq_true, Bool.not_eq_true', decide_eq_false_iff_not, decide_eq_true_eq]
  exact ⟨nI_pos (by omega), nI_pos (by omega), nI_pos (by omega), h0, h1⟩
/-- two states agree but at the cells of P -/
def sv_ag (P : Nat → Prop) (S T : sw_St) : Prop := ∀ a, ¬ P a → T.1 a = S.1 a ∧ T.2 a = S.2 a
theorem sv_ag_rf {P : Nat → Prop} {S : sw_St} : sv_ag P S S := fun _ _ => ⟨rfl, rfl⟩
theorem sv_ag_tr {P : Nat → Prop} {S T U : sw_St} (h : sv_ag P S T) (g : sv_ag P T U) : sv_ag P S U := fun a ha => ⟨(g a ha).1.trans (h a ha).1, (g a ha).2.trans (h a ha).2⟩
theorem sv_ag_wk {P Q : Nat → Prop} {S T : sw_St} (h : sv_ag P S T) (hq : ∀ a, P a → Q a) : sv_ag Q S T := fun a ha => h a (fun z => ha (hq a z))
theorem sv_ag_si {P : Nat → Prop} (S : sw_St) (o k : Nat) (v : Int32) (h : P o) : sv_ag P S (sw_si S o k v) := fun a ha => ⟨by unfold sw_si; simp [show ¬ a = o from fun e => ha (e ▸ h)], rfl⟩
theorem sv_ag_sj {P : Nat → Prop} (S : sw_St) (o k : Nat) (v : Int64) (h : P o) : sv_ag P S (sw_sj S o k v) := fun a ha => ⟨rfl, by unfold sw_sj; simp [show ¬ a = o from fun e => ha (e ▸ h)]⟩
theorem sv_ag_ci {P : Nat → Prop} (S : sw_St) (o q sp dp n : Nat) (h : P q) : sv_ag P S (sw_ci S o q sp dp n) := fun a ha => ⟨by unfold sw_ci; simp [show ¬ a = q from fun e => ha (e ▸ h)], rfl⟩
theorem sv_ag_cj {P : Nat → Prop} (S : sw_St) (o q sp dp n : Nat) (h : P q) : sv_ag P S (sw_cj S o q sp dp n) := fun a ha => ⟨rfl, by unfold sw_cj; simp [show ¬ a = q from fun e => ha (e ▸ h)]⟩
theorem sv_nz : ¬ ((1 : Int32) = 0) := by decide
theorem sv_b0 : vp_nar .boolean 0 = 0 := rfl
theorem sv_b1 : vp_nar .boolean 1 = 1 := rfl
