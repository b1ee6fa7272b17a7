/-! PURE 0: loops -/
theorem lp1u {ρ : Type} {B : (Int32 → Option ρ) → Int32 → Option ρ} (I : Nat → Prop) (O : Option ρ → Prop) (N : Nat) (hN : N < 20000)
    (hs : ∀ (r : Int32 → Option ρ) (k : Nat), k < N → I k → (B r (nI k) = r (nI (k + 1)) ∧ I (k + 1)) ∨ O (B r (nI k)))
    (he : ∀ (r : Int32 → Option ρ), I N → O (B r (nI N))) (k0 : Nat) (hk : k0 ≤ N) (h0 : I k0) : O (fuel1 B FU (nI k0)) := by
  have key : ∀ (d k n : Nat), k + d = N → d < n → I k → O (fuel1 B n (nI k)) := by
    intro d
    induction d with
    | zero =>
      intro k n h1 h2 h3
      obtain ⟨n, rfl⟩ : ∃ q, n = q + 1 := ⟨n - 1, by omega⟩
      obtain rfl : k = N := by omega
      exact he (fuel1 B n) h3
    | succ d ih =>
      intro k n h1 h2 h3
      obtain ⟨n, rfl⟩ : ∃ q, n = q + 1 := ⟨n - 1, by omega⟩
      rcases hs (fuel1 B n) k (by omega) h3 with ⟨e, h⟩ | h
      · show O (B (fuel1 B n) (nI k))
        rw [e]
        exact ih (k + 1) n (by omega) (by omega) h
      · exact h
  exact key (N - k0) k0 FU (by omega) (by unfold FU; omega) h0
theorem lpA {α ρ : Type} {B : (Int32 → α → Option ρ) → Int32 → α → Option ρ} (I : Nat → α → Prop) (O : Option ρ → Prop) (N : Nat) (hN : N < 20000)
    (hs : ∀ (r : Int32 → α → Option ρ) (k : Nat) (a : α), k < N → I k a → (∃ a', B r (nI k) a = r (nI (k + 1)) a' ∧ I (k + 1) a') ∨ O (B r (nI k) a))
    (he : ∀ (r : Int32 → α → Option ρ) (a : α), I N a → O (B r (nI N) a)) (k0 : Nat) (hk : k0 ≤ N) (a0 : α) (h0 : I k0 a0) : O (fuel2 B FU (nI k0) a0) := by
  have key : ∀ (d k n : Nat) (a : α), k + d = N → d < n → I k a → O (fuel2 B n (nI k) a) := by
    intro d
    induction d with
    | zero =>
      intro k n a h1 h2 h3
      obtain ⟨n, rfl⟩ : ∃ q, n = q + 1 := ⟨n - 1, by omega⟩
      obtain rfl : k = N := by omega
      exact he (fuel2 B n) a h3
    | succ d ih =>
      intro k n a h1 h2 h3
      obtain ⟨n, rfl⟩ : ∃ q, n = q + 1 := ⟨n - 1, by omega⟩
      rcases hs (fuel2 B n) k a (by omega) h3 with ⟨a', e, h⟩ | h
      · show O (B (fuel2 B n) (nI k) a)
        rw [e]
        exact ih (k + 1) n a' (by omega) (by omega) h
      · exact h
  exact key (N - k0) k0 FU a0 (by omega) (by unfold FU; omega) h0
theorem lpB {α ρ : Type} {B : (α → Int32 → Option ρ) → α → Int32 → Option ρ} (I : Nat → α → Prop) (O : Option ρ → Prop) (N : Nat) (hN : N < 20000)
    (hs : ∀ (r : α → Int32 → Option ρ) (k : Nat) (a : α), k < N → I k a → (∃ a', B r a (nI k) = r a' (nI (k + 1)) ∧ I (k + 1) a') ∨ O (B r a (nI k)))
    (he : ∀ (r : α → Int32 → Option ρ) (a : α), I N a → O (B r a (nI N))) (k0 : Nat) (hk : k0 ≤ N) (a0 : α) (h0 : I k0 a0) : O (fuel2 B FU a0 (nI k0)) := by
  have key : ∀ (d k n : Nat) (a : α), k + d = N → d < n → I k a → O (fuel2 B n a (nI k)) := by
    intro d
    induction d with
    | zero =>
      intro k n a h1 h2 h3
      obtain ⟨n, rfl⟩ : ∃ q, n = q + 1 := ⟨n - 1, by omega⟩
      obtain rfl : k = N := by omega
      exact he (fuel2 B n) a h3
    | succ d ih =>
      intro k n a h1 h2 h3
      obtain ⟨n, rfl⟩ : ∃ q, n = q + 1 := ⟨n - 1, by omega⟩
      rcases hs (fuel2 B n) k a (by omega) h3 with ⟨a', e, h⟩ | h
      · show O (B (fuel2 B n) a (nI k))
        rw [e]
        exact ih (k + 1) n a' (by omega) (by omega) h
      · exact h
  exact key (N - k0) k0 FU a0 (by omega) (by unfold FU; omega) h0
/-- number, place, state -/
theorem lpC {α β ρ : Type} {B : (β → Int32 → α → Option ρ) → β → Int32 → α → Option ρ} (I : Nat → β → α → Prop) (O : Option ρ → Prop) (N : Nat) (hN : N < 20000)
    (hs : ∀ (r : β → Int32 → α → Option ρ) (k : Nat) (b : β) (a : α), k < N → I k b a → (∃ b' a', B r b (nI k) a = r b' (nI (k + 1)) a' ∧ I (k + 1) b' a') ∨ O (B r b (nI k) a))
    (he : ∀ (r : β → Int32 → α → Option ρ) (b : β) (a : α), I N b a → O (B r b (nI N) a)) (k0 : Nat) (hk : k0 ≤ N) (b0 : β) (a0 : α) (h0 : I k0 b0 a0) : O (fuel3 B FU b0 (nI k0) a0) := by
  have key : ∀ (d k n : Nat) (b : β) (a : α), k + d = N → d < n → I k b a → O (fuel3 B n b (nI k) a) := by
    intro d
    induction d with
    | zero =>
      intro k n b a h1 h2 h3
      obtain ⟨n, rfl⟩ : ∃ q, n = q + 1 := ⟨n - 1, by omega⟩
      obtain rfl : k = N := by omega
      exact he (fuel3 B n) b a h3
    | succ d ih =>
      intro k n b a h1 h2 h3
      obtain ⟨n, rfl⟩ : ∃ q, n = q + 1 := ⟨n - 1, by omega⟩
      rcases hs (fuel3 B n) k b a (by omega) h3 with ⟨b', a', e, h⟩ | h
      · show O (B (fuel3 B n) b (nI k) a)
        rw [e]
        exact ih (k + 1) n b' a' (by omega) (by omega) h
      · exact h
  exact key (N - k0) k0 FU b0 a0 (by omega) (by unfold FU; omega) h0
/-- two numbers, then the place -/
theorem lpD {β γ ρ : Type} {B : (β → γ → Int32 → Option ρ) → β → γ → Int32 → Option ρ} (I : Nat → β → γ → Prop) (O : Option ρ → Prop) (N : Nat) (hN : N < 20000)
    (hs : ∀ (r : β → γ → Int32 → Option ρ) (k : Nat) (b : β) (a : γ), k < N → I k b a → (∃ b' a', B r b a (nI k) = r b' a' (nI (k + 1)) ∧ I (k + 1) b' a') ∨ O (B r b a (nI k)))
    (he : ∀ (r : β → γ → Int32 → Option ρ) (b : β) (a : γ), I N b a → O (B r b a (nI N))) (k0 : Nat) (hk : k0 ≤ N) (b0 : β) (a0 : γ) (h0 : I k0 b0 a0) : O (fuel3 B FU b0 a0 (nI k0)) := by
  have key : ∀ (d k n : Nat) (b : β) (a : γ), k + d = N → d < n → I k b a → O (fuel3 B n b a (nI k)) := by
    intro d
    induction d with
    | zero =>
      intro k n b a h1 h2 h3
      obtain ⟨n, rfl⟩ : ∃ q, n = q + 1 := ⟨n - 1, by omega⟩
      obtain rfl : k = N := by omega
      exact he (fuel3 B n) b a h3
    | succ d ih =>
      intro k n b a h1 h2 h3
      obtain ⟨n, rfl⟩ : ∃ q, n = q + 1 := ⟨n - 1, by omega⟩
      rcases hs (fuel3 B n) k b a (by omega) h3 with ⟨b', a', e, h⟩ | h
      · show O (B (fuel3 B n) b a (nI k))
        rw [e]
        exact ih (k + 1) n b' a' (by omega) (by omega) h
      · exact h
  exact key (N - k0) k0 FU b0 a0 (by omega) (by unfold FU; omega) h0
theorem nI_zero : (0 : Int32) = nI 0 := by decide +kernel
/-- a place is at its end, or not -/
theorem at_end {x : Int32} {n : Nat} (h : x = nI n) (hn : n < 2 ^ 31) : x ≤ nI n := by rw [h]; exact nI_le (Nat.le_refl n) hn
theorem at_not {x : Int32} {k n : Nat} (h : x = nI n) (hk : k < n) (hn : n < 2 ^ 31) : ¬ x ≤ nI k := by rw [h]; exact nI_ge hk hn
