/-! PURE 12: rows of places (for tables) -/
def cntF (F : Nat → Bool) : Nat → Nat
  | 0 => 0
  | k + 1 => if F k = true then cntF F k + 1 else cntF F k
theorem cntF_s (F : Nat → Bool) (k : Nat) : cntF F (k + 1) = if F k = true then cntF F k + 1 else cntF F k := rfl
def gF (F : Nat → Bool) : Nat → Nat → Nat
  | 0, _ => 0
  | k + 1, i => if F k = true ∧ i = cntF F k then k else gF F k i
theorem gF_s (F : Nat → Bool) (k i : Nat) : gF F (k + 1) i = if F k = true ∧ i = cntF F k then k else gF F k i := rfl
theorem cntF_mono (F : Nat → Bool) : ∀ {a b : Nat}, a ≤ b → cntF F a ≤ cntF F b
  | a, 0, h => by rw [show a = 0 from by omega]; exact Nat.le_refl _
  | a, b + 1, h => by
    by_cases e : a = b + 1
    · rw [e]; exact Nat.le_refl _
    · have := cntF_mono F (a := a) (b := b) (by omega)
      rw [cntF_s]
      split <;> omega
theorem cntF_lt (F : Nat → Bool) {q k : Nat} (h : q < k) (hF : F q = true) : cntF F q < cntF F k := by
  have := cntF_mono F (a := q + 1) (b := k) (by omega)
  rw [cntF_s, if_pos hF] at this
  omega
theorem gF_in (F : Nat → Bool) : ∀ {k i : Nat}, i < cntF F k → gF F k i < k ∧ F (gF F k i) = true ∧ cntF F (gF F k i) = i
  | 0, i, h => absurd h (Nat.not_lt_zero _)
  | k + 1, i, h => by
    rw [gF_s]
    by_cases q : F k = true ∧ i = cntF F k
    · rw [if_pos q]
      exact ⟨by omega, q.1, q.2.symm⟩
    · rw [if_neg q]
      have hi : i < cntF F k := by
        rw [cntF_s] at h
        by_cases f : F k = true
        · rw [if_pos f] at h
          have : ¬ i = cntF F k := fun e => q ⟨f, e⟩
          omega
        · rw [if_neg f] at h; exact h
      obtain ⟨a, b, d⟩ := gF_in F hi
      exact ⟨by omega, b, d⟩
theorem gF_at (F : Nat → Bool) : ∀ {k q : Nat}, q < k → F q = true → gF F k (cntF F q) = q
  | 0, q, h, _ => absurd h (Nat.not_lt_zero _)
  | k + 1, q, h, hF => by
    rw [gF_s]
    by_cases e : q = k
    · subst e
      rw [if_pos ⟨hF, rfl⟩]
    · have hl := cntF_lt F (q := q) (k := k) (by omega) hF
      rw [if_neg (fun x => by have := x.2; omega)]
      exact gF_at F (by omega) hF
theorem gF_mono (F : Nat → Bool) {k i j : Nat} (hij : i < j) (hj : j < cntF F k) : gF F k i < gF F k j := by
  obtain ⟨a1, a2, a3⟩ := gF_in F (k := k) (i := i) (by omega)
  obtain ⟨b1, b2, b3⟩ := gF_in F hj
  by_cases q : gF F k i < gF F k j
  · exact q
  · have := cntF_mono F (a := gF F k j) (b := gF F k i) (by omega)
    omega
theorem cntF_c {F G : Nat → Bool} : ∀ {k : Nat}, (∀ i, i < k → F i = G i) → cntF F k = cntF G k
  | 0, _ => rfl
  | k + 1, h => by rw [cntF_s, cntF_s, h k (by omega), cntF_c (fun i hi => h i (by omega))]
theorem cntF_le (F : Nat → Bool) : ∀ k, cntF F k ≤ k
  | 0 => Nat.le_refl _
  | k + 1 => by
    have := cntF_le F k
    rw [cntF_s]
    split <;> omega
/-- a row of strictly growing places, and the set of them -/
def imF (p : Nat → Nat) (n : Nat) (q : Nat) : Bool := anyB (fun a => p a == q) n
theorem imF_iff {p : Nat → Nat} {n q : Nat} : imF p n q = true ↔ ∃ a, a < n ∧ p a = q := by
  unfold imF
  rw [anyB_iff]
  constructor
  · rintro ⟨a, h, e⟩; exact ⟨a, h, beq_iff_eq.mp e⟩
  · rintro ⟨a, h, e⟩; exact ⟨a, h, beq_iff_eq.mpr e⟩
theorem im_cnt {p : Nat → Nat} {n : Nat} (hp : ∀ a b, a < b → b < n → p a < p b) : ∀ k, cntF (imF p n) k ≤ n ∧ (∀ a, a < cntF (imF p n) k → p a < k) ∧ (∀ a, cntF (imF p n) k ≤ a → a < n → k ≤ p a)
  | 0 => ⟨Nat.zero_le _, fun a h => absurd h (Nat.not_lt_zero _), fun a _ _ => Nat.zero_le _⟩
  | k + 1 => by
    obtain ⟨h1, h2, h3⟩ := im_cnt hp k
    rw [cntF_s]
    by_cases f : imF p n k = true
    · rw [if_pos f]
      obtain ⟨a, ha, e⟩ := imF_iff.mp f
      have hac : a = cntF (imF p n) k := by
        by_cases l : a < cntF (imF p n) k
        · have := h2 a l; omega
        · by_cases g : cntF (imF p n) k < a
          · have := hp _ _ g ha
            have := h3 _ (Nat.le_refl _) (by omega)
            omega
          · omega
      refine ⟨by omega, fun b hb => ?_, fun b hb hbn => ?_⟩
      · by_cases l : b < cntF (imF p n) k
        · have := h2 b l; omega
        · rw [show b = a from by omega, e]; omega
      · have := hp a b (by omega) hbn
        omega
    · rw [if_neg f]
      refine ⟨h1, fun b hb => by have := h2 b hb; omega, fun b hb hbn => ?_⟩
      have := h3 b hb hbn
      by_cases e : p b = k
      · exact absurd (imF_iff.mpr ⟨b, hbn, e⟩) f
      · omega
theorem im_all {p : Nat → Nat} {n K : Nat} (hp : ∀ a b, a < b → b < n → p a < p b) (hK : ∀ a, a < n → p a < K) : cntF (imF p n) K = n ∧ ∀ a, a < n → gF (imF p n) K a = p a := by
  obtain ⟨h1, h2, h3⟩ := im_cnt hp K
  have e : cntF (imF p n) K = n := by
    by_cases q : cntF (imF p n) K < n
    · have := h3 _ (Nat.le_refl _) q
      have := hK _ q
      omega
    · omega
  refine ⟨e, fun a ha => ?_⟩
  obtain ⟨g1, g2, g3⟩ := im_cnt hp (p a)
  have ea : cntF (imF p n) (p a) = a := by
    by_cases l : a < cntF (imF p n) (p a)
    · have := g2 a l; omega
    · by_cases g : cntF (imF p n) (p a) < a
      · have := hp _ _ g ha
        have := g3 _ (Nat.le_refl _) (by omega)
        omega
      · omega
  have := gF_at (imF p n) (hK a ha) (imF_iff.mpr ⟨a, ha, rfl⟩)
  rw [ea] at this
  exact this
/-- numbers by figures -/
def tnx (e : Nat → Nat) : Nat → Nat
  | 0 => 0
  | n + 1 => 10 * tnx e n + e n
theorem tnx_s (e : Nat → Nat) (n : Nat) : tnx e (n + 1) = 10 * tnx e n + e n := rfl
def dgr (n r a : Nat) : Nat := r / 10 ^ (n - 1 - a) % 10
theorem tnx_c {e f : Nat → Nat} : ∀ {n : Nat}, (∀ a, a < n → e a = f a) → tnx e n = tnx f n
  | 0, _ => rfl
  | n + 1, h => by rw [tnx_s, tnx_s, tnx_c (fun a ha => h a (by omega)), h n (by omega)]
theorem tnx_lt {e : Nat → Nat} : ∀ {n : Nat}, (∀ a, a < n → e a < 10) → tnx e n < 10 ^ n
  | 0, _ => Nat.lt_succ_self 0
  | n + 1, h => by
    have h1 := tnx_lt (e := e) (n := n) (fun a ha => h a (by omega))
    have h2 := h n (by omega)
    rw [tnx_s, Nat.pow_succ]
    omega
theorem dgr_tnx {e : Nat → Nat} : ∀ {n : Nat}, (∀ a, a < n → e a < 10) → ∀ a, a < n → dgr n (tnx e n) a = e a
  | 0, _, a, ha => absurd ha (Nat.not_lt_zero _)
  | n + 1, h, a, ha => by
    have h2 := h n (by omega)
    unfold dgr
    rw [tnx_s]
    by_cases q : a = n
    · subst q
      rw [show a + 1 - 1 - a = 0 from by omega, Nat.pow_zero, Nat.div_one]
      omega
    · rw [show n + 1 - 1 - a = (n - 1 - a) + 1 from by omega, Nat.pow_succ, Nat.mul_comm (10 ^ (n - 1 - a)) 10, ← Nat.div_div_eq_div_mul, show (10 * tnx e n + e n) / 10 = tnx e n from by omega]
      exact dgr_tnx (n := n) (fun a ha => h a (by omega)) a (by omega)
theorem tnx_dgr : ∀ {n r : Nat}, r < 10 ^ n → tnx (dgr n r) n = r
  | 0, r, h => by rw [Nat.pow_zero] at h; show 0 = r; omega
  | n + 1, r, h => by
    have e1 : tnx (dgr (n + 1) r) n = tnx (dgr n (r / 10)) n := tnx_c fun a ha => by
      unfold dgr
      rw [show n + 1 - 1 - a = (n - 1 - a) + 1 from by omega, Nat.pow_succ, Nat.mul_comm (10 ^ (n - 1 - a)) 10, ← Nat.div_div_eq_div_mul]
    have e2 : dgr (n + 1) r n = r % 10 := by
      unfold dgr
      rw [show n + 1 - 1 - n = 0 from by omega, Nat.pow_zero, Nat.div_one]
    rw [Nat.pow_succ] at h
    rw [tnx_s, e1, e2, tnx_dgr (n := n) (r := r / 10) (by omega)]
    omega
theorem tnx_mono {g : Nat → Nat} {C : Nat} (hg : ∀ i j, i < j → j < C → g i < g j) (hg10 : ∀ i, i < C → g i < 10) : ∀ {n : Nat} {e f : Nat → Nat}, (∀ a, a < n → e a < C ∧ e a < 10) → (∀ a, a < n → f a < C ∧ f a < 10) → tnx e n < tnx f n → tnx (fun a => g (e a)) n < tnx (fun a => g (f a)) n
  | 0, e, f, _, _, h => absurd h (Nat.lt_irrefl _)
  | n + 1, e, f, he, hf, h => by
    rw [tnx_s, tnx_s] at h
    rw [tnx_s, tnx_s]
    obtain ⟨a1, a2⟩ := he n (by omega)
    obtain ⟨b1, b2⟩ := hf n (by omega)
    have g1 := hg10 _ a1
    have g2 := hg10 _ b1
    by_cases q : tnx e n < tnx f n
    · have := tnx_mono hg hg10 (n := n) (fun a ha => he a (by omega)) (fun a ha => hf a (by omega)) q
      omega
    · by_cases q2 : tnx f n < tnx e n
      · omega
      · have e3 : tnx e n = tnx f n := by omega
        have l : e n < f n := by omega
        have l2 := hg _ _ l b1
        have e4 : tnx (fun a => g (e a)) n = tnx (fun a => g (f a)) n := by
          refine tnx_c fun a ha => ?_
          have d1 := dgr_tnx (e := e) (n := n) (fun a ha => (he a (by omega)).2) a ha
          have d2 := dgr_tnx (e := f) (n := n) (fun a ha => (hf a (by omega)).2) a ha
          rw [← d1, ← d2, e3]
        rw [e4]
        omega
/-- sets of ten places as bits -/
def bts (m q : Nat) : Bool := m.testBit (9 - q)
def mB (F : Nat → Bool) : Nat → Nat
  | 0 => 0
  | k + 1 => 2 * mB F k + (if F k = true then 1 else 0)
theorem mB_lt (F : Nat → Bool) : ∀ k, mB F k < 2 ^ k
  | 0 => Nat.lt_succ_self 0
  | k + 1 => by
    have := mB_lt F k
    show 2 * mB F k + (if F k = true then 1 else 0) < 2 ^ (k + 1)
    rw [Nat.pow_succ]
    split <;> omega
theorem mB_bit (F : Nat → Bool) : ∀ {k q : Nat}, q < k → (mB F k).testBit (k - 1 - q) = F q
  | 0, q, h => absurd h (Nat.not_lt_zero _)
  | k + 1, q, h => by
    show (2 * mB F k + (if F k = true then 1 else 0)).testBit (k + 1 - 1 - q) = F q
    by_cases e : q = k
    · subst e
      rw [show q + 1 - 1 - q = 0 from by omega, Nat.testBit_zero]
      cases F q with
      | true => rw [if_pos rfl, show (2 * mB F q + 1) % 2 = 1 from by omega]; rfl
      | false => rw [if_neg ft, show (2 * mB F q + 0) % 2 = 0 from by omega]; rfl
    · rw [show k + 1 - 1 - q = (k - 1 - q) + 1 from by omega, Nat.testBit_succ, show (2 * mB F k + (if F k = true then 1 else 0)) / 2 = mB F k from by split <;> omega]
      exact mB_bit F (by omega)
theorem mB_bts (F : Nat → Bool) {q : Nat} (h : q < 10) : bts (mB F 10) q = F q := by
  have := mB_bit F (k := 10) h
  exact this
theorem mB_c {F G : Nat → Bool} : ∀ {k : Nat}, (∀ i, i < k → F i = G i) → mB F k = mB G k
  | 0, _ => rfl
  | k + 1, h => by
    show 2 * mB F k + (if F k = true then 1 else 0) = 2 * mB G k + (if G k = true then 1 else 0)
    rw [h k (by omega), mB_c (fun i hi => h i (by omega))]
theorem bts_mB : ∀ m, m < 1024 → mB (bts m) 10 = m := by decide +kernel
theorem bts_cnt : ∀ m, m < 1024 → f_J6_bitCount_0f7a4 (nI m) = some (nI (cntF (bts m) 10)) := by decide +kernel
/-- of greater sets of n the row is less -/
def chk (n : Nat) : Nat → Nat → Bool
  | 0, _ => true
  | m + 1, l => if cntF (bts (m + 1)) 10 = n then (if l ≤ tnx (gF (bts (m + 1)) 10) n then chk n m (tnx (gF (bts (m + 1)) 10) n + 1) else false) else chk n m l
theorem chk_ge (n : Nat) : ∀ (m l : Nat), chk n m l = true → ∀ k, 1 ≤ k → k ≤ m → cntF (bts k) 10 = n → l ≤ tnx (gF (bts k) 10) n
  | 0, l, h, k, h1, h2, _ => by omega
  | m + 1, l, h, k, h1, h2, hc => by
    unfold chk at h
    by_cases q : cntF (bts (m + 1)) 10 = n
    · rw [if_pos q] at h
      by_cases p : l ≤ tnx (gF (bts (m + 1)) 10) n
      · rw [if_pos p] at h
        by_cases e : k = m + 1
        · rw [e]; exact p
        · have := chk_ge n m _ h k h1 (by omega) hc
          omega
      · rw [if_neg p] at h; cases h
    · rw [if_neg q] at h
      by_cases e : k = m + 1
      · rw [e] at hc; exact absurd hc q
      · exact chk_ge n m l h k h1 (by omega) hc
theorem chk_lt (n : Nat) : ∀ (m l : Nat), chk n m l = true → ∀ k k', 1 ≤ k → k < k' → k' ≤ m → cntF (bts k) 10 = n → cntF (bts k') 10 = n → tnx (gF (bts k') 10) n < tnx (gF (bts k) 10) n
  | 0, l, h, k, k', h1, h2, h3, _, _ => by omega
  | m + 1, l, h, k, k', h1, h2, h3, hc, hc' => by
    unfold chk at h
    by_cases q : cntF (bts (m + 1)) 10 = n
    · rw [if_pos q] at h
      by_cases p : l ≤ tnx (gF (bts (m + 1)) 10) n
      · rw [if_pos p] at h
        by_cases e : k' = m + 1
        · have := chk_ge n m _ h k h1 (by omega) hc
          rw [e]
          omega
        · exact chk_lt n m _ h k k' h1 h2 (by omega) hc hc'
      · rw [if_neg p] at h; cases h
    · rw [if_neg q] at h
      by_cases e : k' = m + 1
      · rw [e] at hc'; exact absurd hc' q
      · exact chk_lt n m l h k k' h1 h2 (by omega) hc hc'
theorem chk_all : ∀ n, n < 5 → chk n 1023 0 = true := by decide +kernel
