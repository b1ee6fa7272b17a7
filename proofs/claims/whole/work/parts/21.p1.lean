/-! PURE 1: crowds as values, and what the Java Crowd answers of them -/
/-- a crowd: how many, who speaks; numbers (0 eats, 1 music, 2 follows), rows (0 kind, 1 cell, 2 people, 3 voice, 4 age) -/
abbrev Cr : Type := (Nat × (Nat → Bool)) × ((Nat → Int32) × (Nat → Nat → Int32))
abbrev cN (c : Cr) : Nat := c.1.1
abbrev cS (c : Cr) : Nat → Bool := c.1.2
abbrev cI (c : Cr) (k : Nat) : Int32 := c.2.1 k
abbrev cA (c : Cr) (k i : Nat) : Int32 := c.2.2 k i
def s_sum (f : Nat → Int32) : Nat → Int32
  | 0 => 0
  | n + 1 => s_sum f n + f n
theorem s_sum_c {f g : Nat → Int32} : ∀ {n : Nat}, (∀ i, i < n → f i = g i) → s_sum f n = s_sum g n
  | 0, _ => rfl
  | n + 1, h => by
    show s_sum f n + f n = s_sum g n + g n
    rw [s_sum_c (fun i hi => h i (by omega)), h n (by omega)]
def s_loud (c : Cr) (i : Nat) : Int32 := if cA c 2 i = 1 then 0 else if cS c i = true then (1 : Int32) <<< (cA c 3 i &&& 31) else 0
def s_loudAll (c : Cr) : Int32 := s_sum (s_loud c) (cN c)
def s_loudM (m : Int32) : Int32 := if m = 0 then 0 else (1 : Int32) <<< (m &&& 31)
def s_echo (c : Cr) : Int32 := ((s_loudAll c + s_loudM (cI c 1)) * (10 - cI c 0)) / 10
def s_far (a b : Int32) : Int32 := ((a - a / 10 * 10) - (b - b / 10 * 10)) * ((a - a / 10 * 10) - (b - b / 10 * 10)) + ((a / 10) - (b / 10)) * ((a / 10) - (b / 10))
def s_from (c : Cr) (i : Nat) (x : Int32) : Int32 := if cA c 1 i = x then 0 else (4 * s_loud c i) / s_far (cA c 1 i) x
def s_noise (c : Cr) (x : Int32) : Int32 := s_echo c + s_sum (fun i => s_from c i x) (cN c)
def s_by (c : Cr) (i : Nat) : Int32 := if cA c 0 i = 3 then (if cA c 2 i ≤ 3 then 1 else cA c 2 i - 2) else cA c 2 i
def s_sound (c : Cr) (i : Nat) (loud : Int32) : Int32 := (8 * loud) / s_by c i
def s_any (c : Cr) (i : Nat) : Bool := decide (cA c 2 i = 1) || decide (cA c 0 i = 4)
def s_hby (c : Cr) (i : Nat) (sound noise : Int32) : Bool := decide (¬ 10 * sound < noise * (10 + cA c 4 i))
def s_would (c : Cr) (i : Nat) (sound noise : Int32) : Bool := s_any c i || s_hby c i sound noise
def s_hears (c : Cr) (i : Nat) : Bool := s_would c i (s_sound c i (s_loud c i)) (s_noise c (cA c 1 i))
def s_allTo (c : Cr) : Nat → Bool
  | 0 => true
  | n + 1 => s_allTo c n && s_hears c n
def s_allHear (c : Cr) : Bool := s_allTo c (cN c)
def s_up (c : Cr) (i : Nat) : Int32 := if (cA c 3 i + if cA c 0 i = 2 then 2 else 1) ≤ 9 then (cA c 3 i + if cA c 0 i = 2 then 2 else 1) else 9
def s_voice (c : Cr) (i : Nat) : Int32 :=
  if s_any c i = true then cA c 3 i
  else if s_hby c i (s_sound c i (s_loud c i)) (s_noise c (cA c 1 i)) = true then
    (if cA c 3 i ≤ 1 then cA c 3 i else if s_hby c i (s_sound c i ((1 : Int32) <<< ((cA c 3 i - 1) &&& 31))) (s_noise c (cA c 1 i)) = true then cA c 3 i - 1 else cA c 3 i)
  else if cA c 0 i = 1 ∧ s_hby c i (2 * s_sound c i (s_loud c i)) (s_noise c (cA c 1 i)) = true then cA c 3 i
  else s_up c i
def s_music (c : Cr) : Int32 :=
  if cI c 2 = 0 then cI c 1
  else if s_echo c = s_loudM (cI c 1) then cI c 1
  else if s_echo c ≤ s_loudM (cI c 1) then (if cI c 1 ≤ 0 then 0 else cI c 1 - 1) else (if 9 ≤ cI c 1 then 9 else cI c 1 + 1)
/-- a minute later -/
def s_next (c : Cr) : Cr := (c.1, (pI c.2.1 1 (s_music c), pI c.2.2 3 (fun i => s_voice c i)))
def b32 (b : Bool) : Int32 := if b = true then 1 else 0
/-- what a crowd may be -/
def cOK (c : Cr) : Prop := cN c ≤ 8 ∧ (∀ i, i < cN c → (∃ k, k < 5 ∧ cA c 0 i = nI k) ∧ (∃ k, k < 100 ∧ cA c 1 i = nI k) ∧ (∃ k, 1 ≤ k ∧ k < 10 ∧ cA c 2 i = nI k) ∧ (∃ k, 1 ≤ k ∧ k < 10 ∧ cA c 3 i = nI k) ∧ (∃ k, k < 10 ∧ cA c 4 i = nI k)) ∧ (∃ k, k < 10 ∧ cI c 0 = nI k) ∧ (∃ k, k < 10 ∧ cI c 1 = nI k) ∧ (cI c 2 = 0 ∨ cI c 2 = 1)
/-- the Java Crowd z holds the crowd c -/
def rX (z : Ob) (c : Cr) : Prop := z.1 6 = nI (cN c) ∧ cN c ≤ 8 ∧ (∀ k, k < 5 → ∀ i, i < cN c → z.2 k i = cA c k i) ∧ z.1 7 = cI c 0 ∧ z.1 8 = cI c 1 ∧ z.1 10 = cI c 2 ∧ (∀ i, i < cN c → cS c i = decide (¬ ((z.1 11 >>> (nI i &&& 31)) &&& 1) = 1))
theorem inb_nI {k n : Nat} (h : k < n) (hn : n < 2 ^ 31) : inb (nI k) n = true := by
  unfold inb
  rw [nI_toInt (by omega), Bool.and_eq_true, decide_eq_true_eq, decide_eq_true_eq]
  omega
theorem cl_nI {k : Nat} (h : k < 2 ^ 31) : (nI k).toNatClampNeg = k := nI_clamp h
theorem nI_lit (k : Nat) : nI k = Int32.ofNat k := rfl
def sqd (x y : Nat) : Nat := (x - y) * (x - y) + (y - x) * (y - x)
def farN (a b : Nat) : Nat := sqd (a % 10) (b % 10) + sqd (a / 10) (b / 10)
theorem p_sqd : ∀ x, x < 10 → ∀ y, y < 10 → (nI x - nI y) * (nI x - nI y) = nI (sqd x y) ∧ (sqd x y = 0 ↔ x = y) ∧ sqd x y < 100 ∧ sqd x y = sqd y x := by decide +kernel
theorem p_farN {a b : Nat} (ha : a < 100) (hb : b < 100) : s_far (nI a) (nI b) = nI (farN a b) := by
  have e10 : (10 : Int32) = nI 10 := by decide +kernel
  unfold s_far farN
  rw [e10, pk_rem (by omega) (by decide) (by decide), pk_rem (by omega) (by decide) (by decide), pk_div (by omega) (by decide) (by decide), pk_div (by omega) (by decide) (by decide)]
  rw [(p_sqd (a % 10) (by omega) (b % 10) (by omega)).1, (p_sqd (a / 10) (by omega) (b / 10) (by omega)).1, nI_add]
theorem p_far0 {a b : Nat} (ha : a < 100) (hb : b < 100) : farN a b = 0 ↔ a = b := by
  have h1 := (p_sqd (a % 10) (by omega) (b % 10) (by omega)).2.1
  have h2 := (p_sqd (a / 10) (by omega) (b / 10) (by omega)).2.1
  unfold farN
  omega
theorem p_farlt {a b : Nat} (ha : a < 100) (hb : b < 100) : farN a b < 200 := by
  have h1 := (p_sqd (a % 10) (by omega) (b % 10) (by omega)).2.2.1
  have h2 := (p_sqd (a / 10) (by omega) (b / 10) (by omega)).2.2.1
  unfold farN
  omega
theorem p_farsym {a b : Nat} (ha : a < 100) (hb : b < 100) : farN a b = farN b a := by
  have h1 := (p_sqd (a % 10) (by omega) (b % 10) (by omega)).2.2.2
  have h2 := (p_sqd (a / 10) (by omega) (b / 10) (by omega)).2.2.2
  unfold farN
  omega
theorem p_far {a b : Nat} (ha : a < 100) (hb : b < 100) : s_far (nI a) (nI b) = 0 ↔ a = b := by
  rw [p_farN ha hb, ← nI_0, nI_eq (by have := p_farlt ha hb; omega) (by decide), p_far0 ha hb]
theorem x_square (a b : Int32) : f_X6_squareApart a b = some (s_far a b) := rfl
theorem x_loudOf {z : Ob} {c : Cr} (h : rX z c) {i : Nat} (hi : i < cN c) : f_X1_loudOf z (nI i) = some (s_loud c i) := by
  obtain ⟨h1, h2, h3, h4, h5, h6, h7⟩ := h
  have hb : inb (nI i) 8 = true := inb_nI (by omega) (by decide)
  unfold f_X1_loudOf j_X1_loudOf_22 s_loud
  rw [if_pos hb, cl_nI (by omega), h3 2 (by omega) i hi, h3 3 (by omega) i hi, h7 i hi]
  by_cases a : cA c 2 i = 1
  · rw [if_pos a, if_pos a]
  · rw [if_neg a, if_neg a]
    by_cases b : ((z.1 11 >>> (nI i &&& 31)) &&& 1) = 1
    · rw [if_pos b, if_neg (by simp [b])]
    · rw [if_neg b, if_pos hb, if_pos (by simp [b])]
theorem x_loudAll {z : Ob} {c : Cr} (h : rX z c) : f_X1_loudAll z = some (s_loudAll c) := by
  have hn := h.2.1
  refine lpB (B := b_X1_loudAll_4 z) (fun k a => a = s_sum (s_loud c) k) (fun o => o = some (s_loudAll c)) (cN c) (by omega) (fun r k a hk ha => Or.inl ⟨s_sum (s_loud c) (k + 1), ?_, rfl⟩) (fun r a ha => ?_) 0 (Nat.zero_le _) 0 rfl
  · subst ha
    unfold b_X1_loudAll_4
    rw [if_neg (at_not h.1 hk (by omega)), x_loudOf h hk, ← nI_1]
    rfl
  · subst ha
    unfold b_X1_loudAll_4
    rw [if_pos (at_end h.1 (by omega))]
    rfl
theorem x_loudM {z : Ob} {c : Cr} (h : rX z c) : f_X1_loudMusic z = some (s_loudM (cI c 1)) := by
  unfold f_X1_loudMusic s_loudM
  rw [h.2.2.2.2.1]
  split <;> rfl
theorem eat_max : ∀ k, k < 10 → (if (0 : Int32) < (10 : Int32) - nI k then (10 : Int32) - nI k else 0) = 10 - nI k := by decide +kernel
theorem x_echo {z : Ob} {c : Cr} (h : rX z c) (hc : cOK c) : f_X1_echoing z = some (s_echo c) := by
  obtain ⟨k, hk, ek⟩ := hc.2.2.1
  unfold f_X1_echoing
  rw [x_loudAll h, x_loudM h, h.2.2.2.1]
  show some (((s_loudAll c + s_loudM (cI c 1)) * (if (0 : Int32) < 10 - cI c 0 then 10 - cI c 0 else 0)) / 10) = _
  rw [ek, eat_max k hk]
  unfold s_echo
  rw [ek]
theorem x_from {z : Ob} {c : Cr} (h : rX z c) (hc : cOK c) {i : Nat} (hi : i < cN c) {x : Nat} (hx : x < 100) : f_X1_fromRing z (nI i) (nI x) = some (s_from c i (nI x)) := by
  have hn := h.2.1
  have hb : inb (nI i) 8 = true := inb_nI (by omega) (by decide)
  obtain ⟨y, hy, ey⟩ := (hc.2.1 i hi).2.1
  unfold f_X1_fromRing s_from
  rw [if_pos hb, cl_nI (by omega), h.2.2.1 1 (by omega) i hi, x_square, ey]
  show (if s_far (nI x) (nI y) = 0 then some (0 : Int32) else _) = _
  by_cases a : x = y
  · subst a
    rw [if_pos ((p_far hx hx).mpr rfl), if_pos rfl]
  · have n1 : ¬ s_far (nI x) (nI y) = 0 := fun q => a ((p_far hx hy).mp q)
    have n2 : ¬ nI y = nI x := fun q => a ((nI_eq (by omega) (by omega)).mp q).symm
    rw [if_neg n1, if_neg n2, x_loudOf h hi]
    show (if s_far (nI x) (nI y) = 0 then none else some ((s_loud c i * 4) / s_far (nI x) (nI y))) = _
    rw [if_neg n1, Int32.mul_comm, p_farN hx hy, p_farN hy hx, p_farsym hx hy]
theorem x_fromAll {z : Ob} {c : Cr} (h : rX z c) (hc : cOK c) {x : Nat} (hx : x < 100) : f_X1_fromAll z (nI x) = some (s_sum (fun i => s_from c i (nI x)) (cN c)) := by
  have hn := h.2.1
  refine lpB (B := b_X1_fromAll_4 z (nI x)) (fun k a => a = s_sum (fun i => s_from c i (nI x)) k) (fun o => o = some (s_sum (fun i => s_from c i (nI x)) (cN c))) (cN c) (by omega) (fun r k a hk ha => Or.inl ⟨s_sum (fun i => s_from c i (nI x)) (k + 1), ?_, rfl⟩) (fun r a ha => ?_) 0 (Nat.zero_le _) 0 rfl
  · subst ha
    unfold b_X1_fromAll_4
    rw [if_neg (at_not h.1 hk (by omega)), x_from h hc hk hx, ← nI_1]
    rfl
  · subst ha
    unfold b_X1_fromAll_4
    rw [if_pos (at_end h.1 (by omega))]
theorem x_noise {z : Ob} {c : Cr} (h : rX z c) (hc : cOK c) {x : Nat} (hx : x < 100) : f_X1_noiseAt z (nI x) = some (s_noise c (nI x)) := by
  unfold f_X1_noiseAt
  rw [x_echo h hc, x_fromAll h hc hx]
  rfl
theorem by_max : ∀ k, 1 ≤ k ∧ k < 10 → (if (1 : Int32) < nI k then nI k else 1) = nI k ∧ (if (1 : Int32) < nI k - 2 then nI k - 2 else 1) = (if nI k ≤ 3 then 1 else nI k - 2) ∧ ¬ nI k = 0 ∧ ¬ (if nI k ≤ 3 then (1 : Int32) else nI k - 2) = 0 := by
  intro k hk
  have h : ∀ k, k < 10 → (1 ≤ k → (if (1 : Int32) < nI k then nI k else 1) = nI k ∧ (if (1 : Int32) < nI k - 2 then nI k - 2 else 1) = (if nI k ≤ 3 then 1 else nI k - 2) ∧ ¬ nI k = 0 ∧ ¬ (if nI k ≤ 3 then (1 : Int32) else nI k - 2) = 0) := by decide +kernel
  exact h k hk.2 hk.1
theorem s_by_ne {c : Cr} (hc : cOK c) {i : Nat} (hi : i < cN c) : ¬ s_by c i = 0 := by
  obtain ⟨k, hk1, hk2, ek⟩ := (hc.2.1 i hi).2.2.1
  obtain ⟨-, -, e3, e4⟩ := by_max k ⟨hk1, hk2⟩
  unfold s_by
  rw [ek]
  split
  · exact e4
  · exact e3
theorem x_sound {z : Ob} {c : Cr} (h : rX z c) (hc : cOK c) {i : Nat} (hi : i < cN c) (p : Int32) : f_X1_soundBy z (nI i) p = some (s_sound c i p) := by
  have hn := h.2.1
  have hb : inb (nI i) 8 = true := inb_nI (by omega) (by decide)
  have hne := s_by_ne hc hi
  obtain ⟨k, hk1, hk2, ek⟩ := (hc.2.1 i hi).2.2.1
  obtain ⟨e1, e2, e3, e4⟩ := by_max k ⟨hk1, hk2⟩
  unfold f_X1_soundBy j_X1_soundBy_27 s_sound
  unfold s_by at hne ⊢
  rw [cl_nI (by omega), h.2.2.1 0 (by omega) i hi, h.2.2.1 2 (by omega) i hi, ek] at *
  simp only [hb, if_true]
  by_cases a : cA c 0 i = 3
  · rw [if_pos a, if_pos a, e2, if_neg e4, Int32.mul_comm]
  · rw [if_neg a, if_neg a, e1, if_neg e3, Int32.mul_comm]
theorem x_any {z : Ob} {c : Cr} (h : rX z c) {i : Nat} (hi : i < cN c) : f_X1_hearsAnyway z (nI i) = some (b32 (s_any c i)) := by
  have hn := h.2.1
  have hb : inb (nI i) 8 = true := inb_nI (by omega) (by decide)
  unfold f_X1_hearsAnyway j_X1_hearsAnyway_20 s_any b32
  rw [cl_nI (by omega), h.2.2.1 0 (by omega) i hi, h.2.2.1 2 (by omega) i hi]
  simp only [hb, if_true]
  by_cases a : cA c 0 i = 4 <;> by_cases b : cA c 2 i = 1 <;> simp [a, b]
theorem x_hby {z : Ob} {c : Cr} (h : rX z c) {i : Nat} (hi : i < cN c) (p q : Int32) : f_X1_hearsBy z (nI i) p q = some (b32 (s_hby c i p q)) := by
  have hn := h.2.1
  have hb : inb (nI i) 8 = true := inb_nI (by omega) (by decide)
  unfold f_X1_hearsBy s_hby b32
  rw [cl_nI (by omega), h.2.2.1 4 (by omega) i hi]
  simp only [hb, if_true]
  by_cases a : 10 * p < q * (10 + cA c 4 i) <;> simp [a]
theorem b32_0 {b : Bool} : b32 b = 0 ↔ b = false := by cases b <;> decide
theorem x_hears {z : Ob} {c : Cr} (h : rX z c) (hc : cOK c) {i : Nat} (hi : i < cN c) : f_X1_hears z (nI i) = some (b32 (s_hears c i)) := by
  have hn := h.2.1
  have hb : inb (nI i) 8 = true := inb_nI (by omega) (by decide)
  obtain ⟨y, hy, ey⟩ := (hc.2.1 i hi).2.1
  unfold f_X1_hears j_X1_hears_36 s_hears s_would
  rw [x_any h hi, x_loudOf h hi, cl_nI (by omega), h.2.2.1 1 (by omega) i hi]
  cases ha : s_any c i with
  | true => rfl
  | false =>
    show (f_X1_soundBy z (nI i) (s_loud c i)).bind _ = _
    rw [x_sound h hc hi]
    show (if inb (nI i) 8 = true then _ else _) = _
    rw [if_pos hb, ey, x_noise h hc hy]
    show (f_X1_hearsBy z (nI i) (s_sound c i (s_loud c i)) (s_noise c (nI y))).bind _ = _
    rw [x_hby h hi]
    cases s_hby c i (s_sound c i (s_loud c i)) (s_noise c (nI y)) <;> rfl
