/-! PURE 11: chances -/
def nP (f : Nat → Bool → Nat) : Nat → Nat → Nat
  | 0, _ => 1
  | j + 1, s => nP f j s * f j (s.testBit j)
theorem nP_s (f : Nat → Bool → Nat) (j s : Nat) : nP f (j + 1) s = nP f j s * f j (s.testBit j) := rfl
def nS (g : Nat → Nat) : Nat → Nat
  | 0 => 0
  | m + 1 => nS g m + g m
theorem nS_s (g : Nat → Nat) (m : Nat) : nS g (m + 1) = nS g m + g m := rfl
def nQ (f : Nat → Bool → Nat) : Nat → Nat
  | 0 => 1
  | j + 1 => nQ f j * (f j false + f j true)
theorem nS_c {g h : Nat → Nat} : ∀ {n : Nat}, (∀ i, i < n → g i = h i) → nS g n = nS h n
  | 0, _ => rfl
  | n + 1, e => by rw [nS_s, nS_s, nS_c (fun i hi => e i (by omega)), e n (by omega)]
theorem nS_add (g : Nat → Nat) (a : Nat) : ∀ b, nS g (a + b) = nS g a + nS (fun i => g (a + i)) b
  | 0 => rfl
  | b + 1 => by
    rw [← Nat.add_assoc, nS_s, nS_s, nS_add g a b, Nat.add_assoc]
theorem nS_mul (g : Nat → Nat) (k : Nat) : ∀ n, nS (fun i => g i * k) n = nS g n * k
  | 0 => (Nat.zero_mul k).symm
  | n + 1 => by rw [nS_s, nS_s, nS_mul g k n, Nat.add_mul]
theorem nS_le {g h : Nat → Nat} : ∀ {n : Nat}, (∀ i, i < n → g i ≤ h i) → nS g n ≤ nS h n
  | 0, _ => Nat.le_refl _
  | n + 1, e => by
    rw [nS_s, nS_s]
    exact Nat.add_le_add (nS_le (fun i hi => e i (by omega))) (e n (by omega))
theorem nS_head (g : Nat → Nat) : ∀ n, nS g (n + 1) = g 0 + nS (fun i => g (i + 1)) n
  | 0 => by show 0 + g 0 = g 0 + 0; omega
  | n + 1 => by rw [nS_s g (n + 1), nS_head g n, nS_s]; omega
theorem nS_rev (g : Nat → Nat) : ∀ n, nS (fun i => g (n - 1 - i)) n = nS g n
  | 0 => rfl
  | n + 1 => by
    rw [nS_head (fun i => g (n + 1 - 1 - i)) n, nS_s g n, ← nS_rev g n, Nat.add_comm]
    have : nS (fun i => g (n + 1 - 1 - (i + 1))) n = nS (fun i => g (n - 1 - i)) n := nS_c fun i hi => by
      show g (n + 1 - 1 - (i + 1)) = g (n - 1 - i)
      congr 1
      omega
    rw [this]
    show _ + g (n + 1 - 1 - 0) = _
    congr 1
theorem nP_c {f : Nat → Bool → Nat} {s t : Nat} : ∀ {j : Nat}, (∀ i, i < j → s.testBit i = t.testBit i) → nP f j s = nP f j t
  | 0, _ => rfl
  | j + 1, e => by rw [nP_s, nP_s, nP_c (fun i hi => e i (by omega)), e j (by omega)]
theorem nP_all (f : Nat → Bool → Nat) : ∀ j, nS (nP f j) (2 ^ j) = nQ f j
  | 0 => rfl
  | j + 1 => by
    have e2 : 2 ^ (j + 1) = 2 ^ j + 2 ^ j := by rw [Nat.pow_succ]; omega
    have h0 : nS (nP f (j + 1)) (2 ^ j) = nS (nP f j) (2 ^ j) * f j false := by
      rw [← nS_mul]
      exact nS_c fun i hi => by rw [nP_s, Nat.testBit_lt_two_pow hi]
    have h1 : nS (fun i => nP f (j + 1) (2 ^ j + i)) (2 ^ j) = nS (nP f j) (2 ^ j) * f j true := by
      rw [← nS_mul]
      refine nS_c fun i hi => ?_
      have hb : (2 ^ j + i).testBit j = true := by
        rw [Nat.testBit_two_pow_add_eq, Nat.testBit_lt_two_pow hi]
        rfl
      rw [nP_s, hb, nP_c (s := 2 ^ j + i) (t := i) (fun k hk => Nat.testBit_two_pow_add_gt hk i)]
    rw [e2, nS_add, h0, h1, nP_all f j]
    show _ = nQ f j * (f j false + f j true)
    rw [Nat.mul_add]
def fM (r x o : Nat) (b : Bool) : Nat := if o = r then 1 else if b = true then x else 10 - x
def fR (r x o : Nat) (b : Bool) : Nat := if o = r then (if b = true then 1 else 0) else if b = true then x else 10 - x
def fC (r x o : Nat) (b : Bool) : Nat := if o = r then 1 else if b = true then 10 - x else x
theorem fR_P (r x s : Nat) : ∀ j, nP (fR r x) j s = if r < j then (if s.testBit r = true then nP (fM r x) j s else 0) else nP (fM r x) j s
  | 0 => by rw [if_neg (by omega)]; rfl
  | j + 1 => by
    rw [nP_s, fR_P r x s j]
    by_cases a : j = r
    · subst a
      rw [if_neg (by omega), if_pos (by omega), nP_s]
      unfold fR fM
      rw [if_pos rfl, if_pos rfl]
      split
      · rfl
      · rw [Nat.mul_zero]
    · have ef : fR r x j (s.testBit j) = fM r x j (s.testBit j) := by unfold fR fM; rw [if_neg a, if_neg a]
      by_cases b : r < j
      · rw [if_pos b, if_pos (show r < j + 1 by omega), nP_s, ef]
        split
        · rfl
        · rw [Nat.zero_mul]
      · rw [if_neg b, if_neg (show ¬ r < j + 1 by omega), nP_s, ef]
def nA (r : Nat) : Nat → Nat
  | 0 => 1
  | j + 1 => nA r j * (if j = r then 1 else 10)
theorem nA_s (r j : Nat) : nA r (j + 1) = nA r j * (if j = r then 1 else 10) := rfl
theorem nQ_A {r x : Nat} (hx : x ≤ 10) : ∀ j, nQ (fR r x) j = nA r j
  | 0 => rfl
  | j + 1 => by
    show nQ (fR r x) j * (fR r x j false + fR r x j true) = nA r j * (if j = r then 1 else 10)
    rw [nQ_A hx j]
    unfold fR
    by_cases a : j = r
    · rw [if_pos a, if_pos a, if_pos a]; rfl
    · rw [if_neg a, if_neg a, if_neg a, if_neg ft, if_pos rfl]
      congr 1
      omega
theorem nA_le (r : Nat) : ∀ j, 1 ≤ nA r j ∧ nA r j ≤ 10 ^ j
  | 0 => ⟨Nat.le_refl _, Nat.le_refl _⟩
  | j + 1 => by
    obtain ⟨h1, h2⟩ := nA_le r j
    rw [nA_s, Nat.pow_succ]
    split
    · omega
    · omega
theorem tb_1 : ∀ m, m < 256 → ∀ i, i < 8 → decide (((nI m >>> (nI i &&& 31)) &&& 1) = 1) = m.testBit i := by decide +kernel
theorem tb_0 : ∀ m, m < 256 → ∀ i, i < 8 → decide (((nI m >>> (nI i &&& 31)) &&& 1) = 0) = !(m.testBit i) := by decide +kernel
theorem ten_x : ∀ x, x < 11 → (10 : Int32) - nI x = nI (10 - x) := by decide +kernel
theorem x_weight {z1 : Ob} {n : Nat} (hn : n ≤ 8) (h6 : z1.1 6 = nI n) {m r x : Nat} (hm : m < 256) (hr : r < 8) (hx : x ≤ 10) : f_X6_weightOf z1 (nI m) (nI r) (nI x) = some (lN (nP (fC r x) n m)) := by
  refine lpB (B := b_X6_weightOf_6 z1 (nI m) (nI r) (nI x)) (fun i a => a = lN (nP (fC r x) i m)) (fun o => o = some (lN (nP (fC r x) n m))) n (by omega) (fun q i a hi ha => Or.inl ⟨_, ?_, rfl⟩) (fun q a ha => ?_) 0 (Nat.zero_le _) 1 rfl
  · subst ha
    have t := tb_1 m hm i (by omega)
    unfold b_X6_weightOf_6 j_X6_weightOf_46 j_X6_weightOf_49
    rw [if_neg (at_not h6 hi (by omega)), ten_x x (by omega), nI_l (by omega), nI_l (by omega)]
    simp only [bn, nI_1, lN_mul]
    rw [nP_s]
    unfold fC
    by_cases a : i = r
    · rw [if_pos (by rw [a]), if_pos a, Nat.mul_one]
    · rw [if_neg (fun e => a ((nI_eq (by omega) (by omega)).mp e)), if_neg a, ← t]
      by_cases b : ((nI m >>> (nI i &&& 31)) &&& 1) = 1
      · rw [if_pos b, if_pos (decide_eq_true b)]
      · rw [if_neg b, if_neg (by rw [decide_eq_false b]; exact ft)]
  · subst ha
    unfold b_X6_weightOf_6
    rw [if_pos (at_end h6 (by omega))]
theorem lg_0 {b : Nat} (hb : b < 2 ^ 63) : lg_cmp (lN b) 0 = 0 ↔ b = 0 := by
  have e0 : (0 : Int64) = lN 0 := rfl
  unfold lg_cmp
  by_cases q : b = 0
  · subst q
    rw [if_neg (by rw [e0]; exact fun h => absurd ((pk_lLT (a := 0) (b := 0) (by decide) (by decide)).mp h) (by omega)), if_pos e0.symm]
    exact ⟨fun _ => rfl, fun _ => rfl⟩
  · rw [if_pos (by rw [e0]; exact (pk_lLT (a := 0) (b := b) (by decide) hb).mpr (by omega))]
    exact ⟨fun h => absurd h (show ¬ (1 : Int32) = 0 by decide), fun h => absurd h q⟩
theorem mod_half {b r : Nat} (h0 : 0 < r) (h : r < b) : 2 * (b % r) < b := by
  have h1 := Nat.mod_lt b h0
  have h2 := Nat.div_add_mod b r
  have h3 : 1 ≤ b / r := (Nat.le_div_iff_mul_le h0).mpr (by omega)
  have h4 : r * 1 ≤ r * (b / r) := Nat.mul_le_mul_left r h3
  omega
theorem x_gcd {p q : Int64} : ∀ (k a b i n : Nat), b < 2 ^ k → a < 2 ^ 62 → b < 2 ^ 62 → i + 2 * k + 1 < 100 → 2 * k + 1 < n → fuel3 (b_X6_commonDivisor_9 p q) n (lN a) (lN b) (nI i) = some (lN (Nat.gcd a b))
  | 0, a, b, i, n, hb, ha, hb2, hi, hn => by
    obtain ⟨n, rfl⟩ : ∃ m, n = m + 1 := ⟨n - 1, by omega⟩
    have hb0 : b = 0 := by simpa using hb
    subst hb0
    show b_X6_commonDivisor_9 p q (fuel3 _ n) _ _ _ = _
    unfold b_X6_commonDivisor_9
    rw [if_neg (show ¬ (100 : Int32) ≤ nI i from at_not (n := 100) rfl (by omega) (by decide)), if_pos ((lg_0 (by omega)).mpr rfl), Nat.gcd_zero_right]
  | k + 1, a, b, i, n, hb, ha, hb2, hi, hn => by
    obtain ⟨n, rfl⟩ : ∃ m, n = m + 2 := ⟨n - 2, by omega⟩
    show b_X6_commonDivisor_9 p q (fuel3 _ (n + 1)) _ _ _ = _
    have ee : ∀ (r : Int64 → Int64 → Int32 → Option Int64) (a b i : Nat), a < 2 ^ 62 → b < 2 ^ 62 → i < 100 → b_X6_commonDivisor_9 p q r (lN a) (lN b) (nI i) = if b = 0 then some (lN a) else r (lN b) (lN (a % b)) (nI (i + 1)) := by
      intro r a b i ha hb hi
      unfold b_X6_commonDivisor_9
      rw [if_neg (show ¬ (100 : Int32) ≤ nI i from at_not (n := 100) rfl (by omega) (by decide))]
      by_cases qz : b = 0
      · rw [if_pos qz, if_pos ((lg_0 (by omega)).mpr qz)]
      · rw [if_neg qz, if_neg (fun h => qz ((lg_0 (by omega)).mp h)), if_neg (show ¬ lN b = 0 from fun h => qz ((pk_lEQ (b := 0) (by omega) (by decide)).mp h)), pk_lRem (by omega) (by omega) (by omega)]
        simp only [bn, nI_1]
    rw [ee _ a b i ha hb2 (by omega)]
    by_cases qz : b = 0
    · rw [if_pos qz, qz, Nat.gcd_zero_right]
    · have hm : a % b < b := Nat.mod_lt a (by omega)
      rw [if_neg qz]
      show b_X6_commonDivisor_9 p q (fuel3 _ n) _ _ _ = _
      rw [ee _ b (a % b) (i + 1) hb2 (by omega) (by omega), ← Nat.gcd_comm b a, Nat.gcd_rec b a]
      by_cases q2 : a % b = 0
      · rw [if_pos q2, q2, Nat.gcd_zero_left]
      · have hh := mod_half (b := b) (r := a % b) (by omega) hm
        rw [if_neg q2, x_gcd k (a % b) (b % (a % b)) (i + 1 + 1) n (by rw [Nat.pow_succ] at hb; omega) (by omega) (by omega) (by omega) (by omega), Nat.gcd_comm, ← Nat.gcd_rec]
theorem m_gcd {p q : Int64} : ∀ (k a b n : Nat), b < 2 ^ k → a < 2 ^ 62 → b < 2 ^ 62 → 2 * k + 1 < n → fuel2 (b_X7_divisor_6 p q) n (lN a) (lN b) = some (lN (Nat.gcd a b))
  | 0, a, b, n, hb, ha, hb2, hn => by
    obtain ⟨n, rfl⟩ : ∃ m, n = m + 1 := ⟨n - 1, by omega⟩
    have hb0 : b = 0 := by simpa using hb
    subst hb0
    show b_X7_divisor_6 p q (fuel2 _ n) _ _ = _
    unfold b_X7_divisor_6
    rw [if_pos ((lg_0 (by omega)).mpr rfl), Nat.gcd_zero_right]
  | k + 1, a, b, n, hb, ha, hb2, hn => by
    obtain ⟨n, rfl⟩ : ∃ m, n = m + 2 := ⟨n - 2, by omega⟩
    show b_X7_divisor_6 p q (fuel2 _ (n + 1)) _ _ = _
    have ee : ∀ (r : Int64 → Int64 → Option Int64) (a b : Nat), a < 2 ^ 62 → b < 2 ^ 62 → b_X7_divisor_6 p q r (lN a) (lN b) = if b = 0 then some (lN a) else r (lN b) (lN (a % b)) := by
      intro r a b ha hb
      unfold b_X7_divisor_6
      by_cases qz : b = 0
      · rw [if_pos qz, if_pos ((lg_0 (by omega)).mpr qz)]
      · rw [if_neg qz, if_neg (fun h => qz ((lg_0 (by omega)).mp h)), if_neg (show ¬ lN b = 0 from fun h => qz ((pk_lEQ (b := 0) (by omega) (by decide)).mp h)), pk_lRem (by omega) (by omega) (by omega)]
        simp only [bn]
    rw [ee _ a b ha hb2]
    by_cases qz : b = 0
    · rw [if_pos qz, qz, Nat.gcd_zero_right]
    · have hm : a % b < b := Nat.mod_lt a (by omega)
      rw [if_neg qz]
      show b_X7_divisor_6 p q (fuel2 _ n) _ _ = _
      rw [ee _ b (a % b) hb2 (by omega), ← Nat.gcd_comm b a, Nat.gcd_rec b a]
      by_cases q2 : a % b = 0
      · rw [if_pos q2, q2, Nat.gcd_zero_left]
      · have hh := mod_half (b := b) (r := a % b) (by omega) hm
        rw [if_neg q2, m_gcd k (a % b) (b % (a % b)) n (by rw [Nat.pow_succ] at hb; omega) (by omega) (by omega) (by omega), Nat.gcd_comm, ← Nat.gcd_rec]
/-- those of these bits speak -/
def cSp (c : Cr) (s : Nat) : Cr := ((cN c, fun i => s.testBit i), c.2)
theorem sp_ok {c : Cr} (hc : cOK c) (s : Nat) : cOK (cSp c s) := hc
theorem not_bit {n m : Nat} (h : m < 2 ^ n) {i : Nat} (hi : i < n) : (2 ^ n - 1 - m).testBit i = !(m.testBit i) := by
  rw [show 2 ^ n - 1 - m = 2 ^ n - (m + 1) from by omega, Nat.testBit_two_pow_sub_succ h, decide_eq_true hi, Bool.true_and]
theorem rX_sp {w : Ob} {c : Cr} (h : rX w c) {m : Nat} (hm : m < 2 ^ cN c) : rX (sI w 11 (nI m)) (cSp c (2 ^ cN c - 1 - m)) := by
  obtain ⟨h1, h2, h3, h4, h5, h6, h7⟩ := h
  have h256 : 2 ^ cN c ≤ 256 := Nat.pow_le_pow_right (n := 2) (by decide) h2
  refine ⟨?_, h2, h3, ?_, ?_, ?_, fun i hi => ?_⟩
  · rw [sI_n (by decide)]; exact h1
  · rw [sI_n (by decide)]; exact h4
  · rw [sI_n (by decide)]; exact h5
  · rw [sI_n (by decide)]; exact h6
  · have hi' : i < cN c := hi
    have t := tb_1 m (by omega) i (by omega)
    rw [sI_e]
    show (2 ^ cN c - 1 - m).testBit i = _
    rw [not_bit hm hi', ← t, decide_not]
theorem rM_sp {w : Ob} {c : Cr} (h : rM w c) {s : Nat} (hs : s < 256) : rM (sI w 34 (nI s)) (cSp c s) := by
  obtain ⟨h1, h2, h3, h4, h5, h6, h7⟩ := h
  refine ⟨?_, h2, h3, ?_, ?_, ?_, fun i hi => ?_⟩
  · rw [sI_n (by decide)]; exact h1
  · rw [sI_n (by decide)]; exact h4
  · rw [sI_n (by decide)]; exact h5
  · rw [sI_n (by decide)]; exact h6
  · have hi' : i < cN c := hi
    rw [sI_e]
    exact (tb_1 s hs i (by omega)).symm
theorem C_M {n r x m : Nat} (hm : m < 2 ^ n) : nP (fC r x) n m = nP (fM r x) n (2 ^ n - 1 - m) := by
  have key : ∀ j, j ≤ n → nP (fC r x) j m = nP (fM r x) j (2 ^ n - 1 - m) := by
    intro j
    induction j with
    | zero => intro _; rfl
    | succ j ih =>
      intro hj
      rw [nP_s, nP_s, ih (by omega), not_bit hm (by omega)]
      congr 1
      unfold fC fM
      cases m.testBit j <;> rfl
  exact key n (Nat.le_refl n)
def g_all (r x n s : Nat) : Nat := if s.testBit r = true then nP (fM r x) n s else 0
def g_hrd (c : Cr) (r x s : Nat) : Nat := if s.testBit r = true then (if s_hears (cSp c s) r = true then nP (fM r x) (cN c) s else 0) else 0
theorem sI_k {a w : Ob} {k : Nat} {v u : Int32} (h : ∀ v, sI w k v = sI a k v) : sI (sI w k u) k v = sI a k v := by rw [sI_sI]; exact h v
theorem g_tot {r x n : Nat} (hr : r < n) (hx : x ≤ 10) : nS (g_all r x n) (2 ^ n) = nA r n := by
  rw [← nQ_A hx n, ← nP_all]
  exact nS_c fun s _ => by
    rw [fR_P, if_pos hr]
    rfl
theorem g_le (c : Cr) {r x : Nat} (hr : r < cN c) (hx : x ≤ 10) : nS (g_hrd c r x) (2 ^ cN c) ≤ nA r (cN c) := by
  rw [← g_tot hr hx]
  refine nS_le fun s _ => ?_
  unfold g_hrd g_all
  split
  · split
    · exact Nat.le_refl _
    · exact Nat.zero_le _
  · exact Nat.le_refl _
theorem A_lt {r n : Nat} (hn : n ≤ 8) : 1 ≤ nA r n ∧ nA r n < 2 ^ 27 := by
  obtain ⟨h1, h2⟩ := nA_le r n
  have : 10 ^ n ≤ 10 ^ 8 := Nat.pow_le_pow_right (by decide) hn
  exact ⟨h1, by omega⟩
def s_chance (c : Cr) (r x : Nat) (p : Int32) : Int64 := if p = 0 then lN (nA r (cN c) / Nat.gcd (nS (g_hrd c r x) (2 ^ cN c)) (nA r (cN c))) else lN (nS (g_hrd c r x) (2 ^ cN c) / Nat.gcd (nS (g_hrd c r x) (2 ^ cN c)) (nA r (cN c)))
theorem x_chance {z1 z2 z9 : Ob} {c : Cr} (h : RQ z1 z9 c) {r x : Nat} (hr : r < cN c) (hx : x ≤ 10) (p : Int32) : ∃ w, f_X6_chance z1 z2 (nI r) (nI x) p = some (s_chance c r x p, w) := by
  obtain ⟨hX, h11, hn9, hc⟩ := id h
  have h8 := hX.2.1
  have h256 : 2 ^ cN c ≤ 256 := Nat.pow_le_pow_right (n := 2) (by decide) h8
  obtain ⟨a, ea, ra, -⟩ := h.copy z2
  have esh : (1 : Int32) <<< ((z1.1 6) &&& 31) = nI (2 ^ cN c) := by rw [hX.1]; exact shl_n _ (by omega)
  have hA := A_lt (r := r) h8
  have hH := g_le c hr hx
  unfold f_X6_chance
  rw [(x_hasR hX.rR _).1 (by unfold inR; rw [nI_toInt (by omega)]; omega), ob, if_neg (show ¬ (1 : Int32) = 0 by decide), if_neg (nI_pos (by omega)), if_pos (show nI x ≤ 10 from nI_le (a := x) (b := 10) hx (by decide)), ea, ob]
  refine lpE (B := b_X6_chance_49 z1 (nI r) (nI x) p) (fun m b g w => b = lN (nS (fun m => g_hrd c r x (2 ^ cN c - 1 - m)) m) ∧ g = lN (nS (fun m => g_all r x (cN c) (2 ^ cN c - 1 - m)) m) ∧ ∀ v, sI w 11 v = sI a 11 v) (fun o => ∃ w, o = some (s_chance c r x p, w)) (2 ^ cN c) (by omega) (fun q m b g w hm hI => Or.inl ?_) (fun q b g w hI => ?_) 0 (Nat.zero_le _) 0 0 a ⟨rfl, rfl, fun _ => rfl⟩
  · obtain ⟨rfl, rfl, hw⟩ := hI
    have t0 := tb_0 m (by omega) r (by omega)
    have nb := not_bit hm hr
    have hx2 := rX_sp ra hm
    have hh := x_hears hx2 (sp_ok hc _) (i := r) hr
    have eC := C_M (r := r) (x := x) hm
    have step : b_X6_chance_49 z1 (nI r) (nI x) p q (lN (nS (fun m => g_hrd c r x (2 ^ cN c - 1 - m)) m)) (lN (nS (fun m => g_all r x (cN c) (2 ^ cN c - 1 - m)) m)) (nI m) w = q (lN (nS (fun m => g_hrd c r x (2 ^ cN c - 1 - m)) (m + 1))) (lN (nS (fun m => g_all r x (cN c) (2 ^ cN c - 1 - m)) (m + 1))) (nI (m + 1)) (if m.testBit r = true then w else sI a 11 (nI m)) := by
      unfold b_X6_chance_49 j_X6_chance_117 j_X6_chance_120
      rw [esh, if_neg (nI_ge hm (by omega)), nS_s, nS_s]
      show _ = q (lN (_ + g_hrd c r x (2 ^ cN c - 1 - m))) (lN (_ + g_all r x (cN c) (2 ^ cN c - 1 - m))) _ _
      unfold g_hrd g_all
      rw [nb, hw, x_weight h8 hX.1 (by omega) (by omega) hx, eC]
      simp only [bn, nI_1, ob, hh]
      cases hb : m.testBit r with
      | true =>
        rw [hb] at t0
        rw [if_neg (fun e => by rw [decide_eq_true e] at t0; cases t0)]
        rfl
      | false =>
        rw [hb] at t0
        rw [if_pos (decide_eq_true_eq.mp t0), lN_add, if_neg ft]
        cases s_hears (cSp c (2 ^ cN c - 1 - m)) r with
        | true => rw [if_neg (show ¬ b32 true = 0 by decide), lN_add]; rfl
        | false =>
          rw [if_pos (show b32 false = 0 from rfl), show (0 : Int64) = lN 0 from rfl, lN_add]
          rfl
    refine ⟨_, _, _, step, rfl, rfl, ?_⟩
    split
    · exact hw
    · intro v; exact sI_sI
  · obtain ⟨rfl, rfl, hw⟩ := hI
    refine ⟨w, ?_⟩
    rw [nS_rev (g_hrd c r x), nS_rev (g_all r x (cN c)), g_tot hr hx]
    have hg := x_gcd (p := lN (nA r (cN c))) (q := lN (nS (g_hrd c r x) (2 ^ cN c))) 27 (nA r (cN c)) (nS (g_hrd c r x) (2 ^ cN c)) 0 FU (by omega) (by omega) (by omega) (by decide) (by unfold FU; omega)
    have hgp : 0 < Nat.gcd (nS (g_hrd c r x) (2 ^ cN c)) (nA r (cN c)) := Nat.gcd_pos_of_pos_right _ (by omega)
    have hgl : Nat.gcd (nS (g_hrd c r x) (2 ^ cN c)) (nA r (cN c)) ≤ nA r (cN c) := Nat.gcd_le_right _ (by omega)
    have hz : ¬ lN (Nat.gcd (nS (g_hrd c r x) (2 ^ cN c)) (nA r (cN c))) = 0 := fun e => by
      have := (pk_lEQ (b := 0) (by omega) (by decide)).mp e
      omega
    unfold b_X6_chance_49 f_X6_commonDivisor
    rw [esh, if_pos (nI_le (Nat.le_refl _) (by omega)), show (0 : Int32) = nI 0 from nI_zero, hg, Nat.gcd_comm, ob, bn, if_neg (show ¬ lN (Nat.gcd (nS (g_hrd c r x) (2 ^ cN c)) (nA r (cN c))) < 1 from fun e => by
      have := (pk_lLT (b := 1) (by omega) (by decide)).mp e
      omega), if_neg (show ¬ lN (Nat.gcd (nS (g_hrd c r x) (2 ^ cN c)) (nA r (cN c))) = 0 from fun e => by
      have := (pk_lEQ (b := 0) (by omega) (by decide)).mp e
      omega), pk_lDiv (by omega) hgp (by omega), pk_lDiv (by omega) hgp (by omega)]
    unfold s_chance
    by_cases e : p = 0
    · rw [if_pos e, if_pos (show p = nI 0 from e)]
    · rw [if_neg (show ¬ p = nI 0 from e), if_neg e, if_neg hz]
theorem m_chance {z9 w : Ob} {c : Cr} (hn : rN w c) (hc : cOK c) (cw : cz z9 w) (hm : rM w c) {r x : Nat} (hr : r < cN c) (hx : x ≤ 10) (p : Int32) : ∃ u, fuel2 (b_X7_chance_46 (nI r) (nI x) p 0 w) FU 1 0 = some (s_chance c r x p, u) ∧ cz z9 u := by
  have h8 := hn.2.1
  have h256 : 2 ^ cN c ≤ 256 := Nat.pow_le_pow_right (n := 2) (by decide) h8
  have hA := A_lt (r := r) h8
  have hH := g_le c hr hx
  refine lpB (B := b_X7_chance_46 (nI r) (nI x) p 0 w) (fun i a => a = lN (nA r i)) (fun o => ∃ u, o = some (s_chance c r x p, u) ∧ cz z9 u) (cN c) (by omega) (fun q i a hi ha => Or.inl ⟨_, ?_, rfl⟩) (fun q a ha => ?_) 0 (Nat.zero_le _) 1 rfl
  · subst ha
    unfold b_X7_chance_46 j_X7_chance_70
    rw [if_neg (at_not hn.1 hi (by omega)), nA_s, show (10 : Int64) = lN 10 from rfl, show (1 : Int64) = lN 1 from rfl]
    simp only [bn, nI_1, lN_mul]
    by_cases e : i = r
    · rw [if_pos (by rw [e]), if_pos e]
    · rw [if_neg (fun x => e ((nI_eq (by omega) (by omega)).mp x)), if_neg e]
  · subst ha
    unfold b_X7_chance_46
    rw [if_pos (at_end hn.1 (by omega))]
    refine lpC (B := b_X7_chance_82 (nI r) (nI x) p (lN (nA r (cN c)))) (fun s b u => b = lN (nS (g_hrd c r x) s) ∧ cz z9 u ∧ cz w u ∧ ∀ v, sI u 34 v = sI w 34 v) (fun o => ∃ u, o = some (s_chance c r x p, u) ∧ cz z9 u) (2 ^ cN c) (by omega) (fun q s b u hs hI => Or.inl ?_) (fun q b u hI => ?_) 0 (Nat.zero_le _) 0 w ⟨rfl, cw, cz.rfl', fun _ => rfl⟩
    · obtain ⟨rfl, cu, cwu, hu⟩ := hI
      have u4 : u.1 4 = nI (cN c) := by rw [cwu.1 4 (by decide) (by decide)]; exact hn.1
      have esh : (1 : Int32) <<< ((u.1 4) &&& 31) = nI (2 ^ cN c) := by rw [u4]; exact shl_n _ (by omega)
      have t1 := tb_1 s (by omega) r (by omega)
      have hh := m_hears (rM_sp hm (show s < 256 by omega)) (sp_ok hc s) (i := r) hr
      have inner : fuel2 (b_X7_chance_108 (nI r) (nI x) p q (lN (nA r (cN c))) (lN (nS (g_hrd c r x) s)) (nI s) u) FU 1 0 = q (lN (nS (g_hrd c r x) s + (if s_hears (cSp c s) r = true then nP (fM r x) (cN c) s else 0))) (nI (s + 1)) (sI w 34 (nI s)) := by
        refine lpB (B := b_X7_chance_108 (nI r) (nI x) p q (lN (nA r (cN c))) (lN (nS (g_hrd c r x) s)) (nI s) u) (fun i a => a = lN (nP (fM r x) i s)) (fun o => o = q (lN (nS (g_hrd c r x) s + (if s_hears (cSp c s) r = true then nP (fM r x) (cN c) s else 0))) (nI (s + 1)) (sI w 34 (nI s))) (cN c) (by omega) (fun q' i a hi ha => Or.inl ⟨_, ?_, rfl⟩) (fun q' a ha => ?_) 0 (Nat.zero_le _) 1 rfl
        · subst ha
          have ti := tb_1 s (by omega) i (by omega)
          unfold b_X7_chance_108 j_X7_chance_149
          rw [u4, if_neg (nI_ge hi (by omega)), nP_s, m_has, ti, ten_x x (by omega), nI_l (by omega), nI_l (by omega), show (1 : Int64) = lN 1 from rfl]
          simp only [bn, nI_1, ob, lN_mul]
          unfold fM
          by_cases e : i = r
          · rw [if_pos (by rw [e]), if_pos e]
          · rw [if_neg (fun x => e ((nI_eq (by omega) (by omega)).mp x)), if_neg e]
            cases s.testBit i <;> rfl
        · subst ha
          unfold b_X7_chance_108 j_X7_chance_180 j_X7_chance_183
          rw [u4, if_pos (nI_le (Nat.le_refl _) (by omega)), hu, show (0 : Int64) = lN 0 from rfl]
          simp only [bn, nI_1, hh, ob, lN_add]
          cases s_hears (cSp c s) r <;> rfl
      have step : b_X7_chance_82 (nI r) (nI x) p (lN (nA r (cN c))) q (lN (nS (g_hrd c r x) s)) (nI s) u = q (lN (nS (g_hrd c r x) (s + 1))) (nI (s + 1)) (if s.testBit r = true then sI w 34 (nI s) else u) := by
        unfold b_X7_chance_82
        rw [esh, if_neg (nI_ge hs (by omega)), m_has, t1, ob, inner, nS_s]
        unfold j_X7_chance_183
        simp only [bn, nI_1]
        show _ = q (lN (_ + g_hrd c r x s)) _ _
        unfold g_hrd
        cases s.testBit r <;> rfl
      refine ⟨_, _, step, rfl, ?_⟩
      split
      · exact ⟨cw.sI (Or.inl (by decide)), cz.rfl'.sI (Or.inl (by decide)), fun v => sI_sI⟩
      · exact ⟨cu, cwu, hu⟩
    · obtain ⟨rfl, cu, cwu, hu⟩ := hI
      have u4 : u.1 4 = nI (cN c) := by rw [cwu.1 4 (by decide) (by decide)]; exact hn.1
      have esh : (1 : Int32) <<< ((u.1 4) &&& 31) = nI (2 ^ cN c) := by rw [u4]; exact shl_n _ (by omega)
      have hg := m_gcd (p := lN (nS (g_hrd c r x) (2 ^ cN c))) (q := lN (nA r (cN c))) 27 (nS (g_hrd c r x) (2 ^ cN c)) (nA r (cN c)) FU (by omega) (by omega) (by omega) (by unfold FU; omega)
      have hgp : 0 < Nat.gcd (nS (g_hrd c r x) (2 ^ cN c)) (nA r (cN c)) := Nat.gcd_pos_of_pos_right _ (by omega)
      have hgl : Nat.gcd (nS (g_hrd c r x) (2 ^ cN c)) (nA r (cN c)) ≤ nA r (cN c) := Nat.gcd_le_right _ (by omega)
      have hz : ¬ lN (Nat.gcd (nS (g_hrd c r x) (2 ^ cN c)) (nA r (cN c))) = 0 := fun e => by
        have := (pk_lEQ (b := 0) (by omega) (by decide)).mp e
        omega
      refine ⟨u, ?_, cu⟩
      unfold b_X7_chance_82 f_X7_divisor
      rw [esh, if_pos (nI_le (Nat.le_refl _) (by omega)), hg, ob, if_neg (show ¬ lN (Nat.gcd (nS (g_hrd c r x) (2 ^ cN c)) (nA r (cN c))) = 0 from fun e => by
        have := (pk_lEQ (b := 0) (by omega) (by decide)).mp e
        omega), pk_lDiv (by omega) hgp (by omega), pk_lDiv (by omega) hgp (by omega)]
      unfold s_chance
      by_cases e : p = 0
      · rw [if_pos e, if_pos e]
      · rw [if_neg e, if_neg e, if_neg hz]
theorem T_chance {z1 z9 : Ob} {c : Cr} (h : RQ z1 z9 c) (z2 : Ob) (p q s : Int32) : ∃ r z2' w, f_X6_chance z1 z2 p q s = some (r, z2') ∧ f_X7_chance z9 p q s = some (r, w) ∧ cz z9 w := by
  obtain ⟨hX, h11, hn9, hc⟩ := id h
  have h8 := hX.2.1
  have c1 : cz z9 (sI z9 0 0) := cz_th
  have hn1 := c1.rN hn9
  have f10 : (10 : Int32).toInt = 10 := rfl
  have rq := m_rngI q 0 10 0 10 rfl rfl
  by_cases hp : inR c p
  · obtain ⟨k, hk, rfl⟩ := i_nat hp.1 hp.2 (by omega)
    by_cases hq : 0 ≤ q.toInt ∧ q.toInt ≤ 10
    · obtain ⟨x, hx, rfl⟩ := i_nat (n := 11) hq.1 (by omega) (by decide)
      obtain ⟨a, ea⟩ := x_chance (z2 := z2) h hk (show x ≤ 10 by omega) s
      obtain ⟨w, ew, cw, hr⟩ := m_begin hn1 hc
      obtain ⟨u, eu, cu⟩ := m_chance ((c1.trans cw).rN hn9) hc (c1.trans cw) hr hk (show x ≤ 10 by omega) s
      refine ⟨_, a, u, ea, ?_, cu⟩
      unfold f_X7_chance
      rw [bn, (m_noRing hn1 _).1 hp, ob, if_pos rfl, rq.1 hq, ob, if_neg (show ¬ (1 : Int32) = 0 by decide), ew, ob]
      exact eu
    · refine ⟨-2, z2, sI z9 0 0, ?_, ?_, c1⟩
      · unfold f_X6_chance
        rw [(x_hasR hX.rR _).1 hp, ob, if_neg (show ¬ (1 : Int32) = 0 by decide)]
        by_cases a : q < 0
        · rw [if_pos a]
        · rw [if_neg a, if_neg (by rw [leT, f10]; rw [lt0] at a; omega)]
      · unfold f_X7_chance
        rw [bn, (m_noRing hn1 _).1 hp, ob, if_pos rfl, rq.2 hq, ob, if_pos rfl]
  · refine ⟨-1, z2, sI z9 0 0, ?_, ?_, c1⟩
    · unfold f_X6_chance
      rw [(x_hasR hX.rR p).2 hp]
      rfl
    · unfold f_X7_chance
      rw [bn, (m_noRing hn1 p).2 hp]
      rfl
