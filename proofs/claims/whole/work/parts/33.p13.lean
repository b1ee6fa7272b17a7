/-! PURE 13: the least square of a set of places -/
/-- two numbers, place, state, state: number number number place state -/
theorem lpF {β γ δ α ρ : Type} {B : (β → γ → δ → Int32 → α → Option ρ) → β → γ → δ → Int32 → α → Option ρ} (I : Nat → β → γ → δ → α → Prop) (O : Option ρ → Prop) (N : Nat) (hN : N < 20000)
    (hs : ∀ (r : β → γ → δ → Int32 → α → Option ρ) (k : Nat) (b : β) (g : γ) (d : δ) (a : α), k < N → I k b g d a → (∃ b' g' d' a', B r b g d (nI k) a = r b' g' d' (nI (k + 1)) a' ∧ I (k + 1) b' g' d' a') ∨ O (B r b g d (nI k) a))
    (he : ∀ (r : β → γ → δ → Int32 → α → Option ρ) (b : β) (g : γ) (d : δ) (a : α), I N b g d a → O (B r b g d (nI N) a)) (k0 : Nat) (hk : k0 ≤ N) (b0 : β) (g0 : γ) (d0 : δ) (a0 : α) (h0 : I k0 b0 g0 d0 a0) : O (fuel5 B FU b0 g0 d0 (nI k0) a0) := by
  have key : ∀ (j k n : Nat) (b : β) (g : γ) (d : δ) (a : α), k + j = N → j < n → I k b g d a → O (fuel5 B n b g d (nI k) a) := by
    intro j
    induction j with
    | zero =>
      intro k n b g d a h1 h2 h3
      obtain ⟨n, rfl⟩ : ∃ q, n = q + 1 := ⟨n - 1, by omega⟩
      obtain rfl : k = N := by omega
      exact he (fuel5 B n) b g d a h3
    | succ j ih =>
      intro k n b g d a h1 h2 h3
      obtain ⟨n, rfl⟩ : ∃ q, n = q + 1 := ⟨n - 1, by omega⟩
      rcases hs (fuel5 B n) k b g d a (by omega) h3 with ⟨b', g', d', a', e, h⟩ | h
      · show O (B (fuel5 B n) b g d (nI k) a)
        rw [e]
        exact ih (k + 1) n b' g' d' a' (by omega) (by omega) h
      · exact h
  exact key (N - k0) k0 FU b0 g0 d0 a0 (by omega) (by unfold FU; omega) h0
def yc (c : Cr) (i : Nat) : Nat := (cA c 1 i).toNatClampNeg
theorem yc_e {c : Cr} (hc : cOK c) {i : Nat} (hi : i < cN c) : cA c 1 i = nI (yc c i) ∧ yc c i < 100 := by
  obtain ⟨y, hy, ey⟩ := (hc.2.1 i hi).2.1
  have : yc c i = y := by unfold yc; rw [ey, cl_nI (by omega)]
  rw [this]
  exact ⟨ey, hy⟩
theorem mn_l {a b : Nat} (ha : a < 2 ^ 31) (hb : b < 2 ^ 31) : (if nI a < nI b then nI a else nI b) = nI (min a b) := by
  by_cases q : a < b
  · rw [if_pos (nI_lt q hb), Nat.min_eq_left (by omega)]
  · rw [if_neg (nI_nlt (by omega) ha), Nat.min_eq_right (by omega)]
theorem le_mn {x a b : Nat} : x ≤ min a b ↔ x ≤ a ∧ x ≤ b := Nat.le_min
/-- x is no more than the square from y to a ring -/
def toR (c : Cr) (y x : Nat) : Prop := ∀ i, i < cN c → x ≤ farN y (yc c i)
theorem x_toR {z : Ob} {c : Cr} (h : rX z c) (hc : cOK c) {y : Nat} (hy : y < 100) : ∃ v, f_X1_squareToRings z (nI y) = some (nI v) ∧ ∀ x, x ≤ v ↔ x ≤ 1000 ∧ toR c y x := by
  have hn := h.2.1
  refine lpB (B := b_X1_squareToRings_6 z (nI y)) (fun k a => ∃ v, a = nI v ∧ ∀ x, x ≤ v ↔ x ≤ 1000 ∧ ∀ i, i < k → x ≤ farN y (yc c i)) (fun o => ∃ v, o = some (nI v) ∧ ∀ x, x ≤ v ↔ x ≤ 1000 ∧ toR c y x) (cN c) (by omega) (fun r k a hk ha => Or.inl ?_) (fun r a ha => ?_) 0 (Nat.zero_le _) 1000 ⟨1000, rfl, fun x => ⟨fun e => ⟨e, fun i hi => absurd hi (Nat.not_lt_zero _)⟩, fun e => e.1⟩⟩
  · obtain ⟨v, rfl, hv⟩ := ha
    obtain ⟨ey, hy2⟩ := yc_e hc hk
    have hb : inb (nI k) 8 = true := inb_nI (by omega) (by decide)
    have v1000 := ((hv v).mp (Nat.le_refl _)).1
    have f200 := p_farlt hy hy2
    refine ⟨nI (min (farN y (yc c k)) v), ?_, _, rfl, fun x => ?_⟩
    · unfold b_X1_squareToRings_6
      rw [if_neg (at_not h.1 hk (by omega)), if_pos hb, cl_nI (by omega), h.2.2.1 1 (by omega) k hk, ey, x_square, p_farN hy hy2, ob, mn_l (by omega) (by omega)]
      simp only [bn, nI_1]
    · rw [le_mn, hv]
      constructor
      · rintro ⟨a, b, d⟩
        refine ⟨b, fun i hi => ?_⟩
        by_cases q : i = k
        · rw [q]; exact a
        · exact d i (by omega)
      · rintro ⟨a, b⟩
        exact ⟨b k (by omega), a, fun i hi => b i (by omega)⟩
  · obtain ⟨v, rfl, hv⟩ := ha
    refine ⟨v, ?_, hv⟩
    unfold b_X1_squareToRings_6
    rw [if_pos (at_end h.1 (by omega))]
/-- the cell of a place in a row (a column) -/
def clN (col : Int32) (l q : Nat) : Nat := if col = 0 then 10 * l + q else 10 * q + l
theorem clN_lt {col : Int32} {l q : Nat} (hl : l < 10) (hq : q < 10) : clN col l q < 100 := by
  unfold clN
  split <;> omega
theorem x_line {col : Int32} {l q : Nat} : f_X6_cellInLine col (nI l) (nI q) = some (nI (clN col l q)) := by
  unfold f_X6_cellInLine clN
  split
  · rw [ten_nI]
  · rw [ten_nI]
theorem far_line : ∀ l, l < 10 → ∀ a, a < 10 → ∀ b, b < 10 → (a < b → farN (10 * l + b) (10 * l + a) = (b - a) * (b - a) ∧ farN (10 * b + l) (10 * a + l) = (b - a) * (b - a)) := by decide +kernel
theorem far_cl {col : Int32} {l a b : Nat} (hl : l < 10) (hb : b < 10) (h : a < b) : farN (clN col l b) (clN col l a) = (b - a) * (b - a) := by
  obtain ⟨e1, e2⟩ := far_line l hl a (by omega) b hb h
  unfold clN
  split
  · exact e1
  · exact e2
/-- no square is less than x: by a set of places; by a row of places -/
def isL (c : Cr) (col : Int32) (l : Nat) (F : Nat → Bool) (x : Nat) : Prop := x ≤ 1000 ∧ ∀ q, q < 10 → F q = true → toR c (clN col l q) x ∧ ∀ u, u < 10 → F u = true → q < u → x ≤ (u - q) * (u - q)
theorem bit_in : ∀ m, m < 1024 → ∀ q, q < 10 → f_X6_isIn (nI m) (nI q) = some (b32 (bts m q)) := by
  intro m hm q hq
  have h : ∀ m, m < 1024 → ∀ q, q < 10 → decide (((nI m >>> (((9 : Int32) - nI q) &&& 31)) &&& 1) = 1) = bts m q := by decide +kernel
  have e := h m hm q hq
  unfold f_X6_isIn
  rw [← e]
  by_cases a : ((nI m >>> (((9 : Int32) - nI q) &&& 31)) &&& 1) = 1
  · rw [if_pos a, decide_eq_true a]; rfl
  · rw [if_neg a, decide_eq_false a]; rfl
theorem x_least {z : Ob} {c : Cr} (h : rX z c) (hc : cOK c) {m : Nat} (hm : m < 1024) (col : Int32) {l : Nat} (hl : l < 10) : ∃ v, f_X6_leastSquare z (nI m) col (nI l) = some (nI v) ∧ ∀ x, x ≤ v ↔ isL c col l (bts m) x := by
  have e10 : (10 : Int32) = nI 10 := rfl
  refine lpB (B := b_X6_leastSquare_8 z (nI m) col (nI l)) (fun k a => ∃ v, a = nI v ∧ ∀ x, x ≤ v ↔ x ≤ 1000 ∧ ∀ q, q < k → bts m q = true → toR c (clN col l q) x ∧ ∀ u, u < 10 → bts m u = true → q < u → x ≤ (u - q) * (u - q)) (fun o => ∃ v, o = some (nI v) ∧ ∀ x, x ≤ v ↔ isL c col l (bts m) x) 10 (by omega) (fun r k a hk ha => Or.inl ?_) (fun r a ha => ?_) 0 (Nat.zero_le _) 1000 ⟨1000, rfl, fun x => ⟨fun e => ⟨e, fun i hi => absurd hi (Nat.not_lt_zero _)⟩, fun e => e.1⟩⟩
  · obtain ⟨v, rfl, hv⟩ := ha
    have v1000 := ((hv v).mp (Nat.le_refl _)).1
    cases hb : bts m k with
    | false =>
      refine ⟨nI v, ?_, v, rfl, fun x => ?_⟩
      · unfold b_X6_leastSquare_8 j_X6_leastSquare_91
        rw [if_neg (show ¬ (10 : Int32) ≤ nI k from at_not (n := 10) rfl hk (by decide)), bit_in m hm k hk, hb, ob, if_pos (show b32 false = 0 from rfl), bn, nI_1]
      · rw [hv]
        constructor
        · rintro ⟨a, b⟩
          refine ⟨a, fun q hq hqb => ?_⟩
          by_cases e : q = k
          · rw [e, hb] at hqb; cases hqb
          · exact b q (by omega) hqb
        · rintro ⟨a, b⟩
          exact ⟨a, fun q hq => b q (by omega)⟩
    | true =>
      obtain ⟨s, es, hs⟩ := x_toR h hc (clN_lt (col := col) hl hk)
      have s1000 := ((hs s).mp (Nat.le_refl _)).1
      have st0 : b_X6_leastSquare_8 z (nI m) col (nI l) r (nI v) (nI k) = fuel2 (b_X6_leastSquare_51 z (nI m) col (nI l) r (nI k)) FU (nI (min s v)) (nI (k + 1)) := by
        unfold b_X6_leastSquare_8
        rw [if_neg (show ¬ (10 : Int32) ≤ nI k from at_not (n := 10) rfl hk (by decide)), bit_in m hm k hk, hb, ob, if_neg (show ¬ b32 true = 0 by decide), x_line, ob, es, ob, mn_l (by omega) (by omega)]
        simp only [bn, nI_1]
      rw [st0]
      refine lpB (B := b_X6_leastSquare_51 z (nI m) col (nI l) r (nI k)) (fun u a => k < u ∧ ∃ v', a = nI v' ∧ ∀ x, x ≤ v' ↔ x ≤ min s v ∧ ∀ t, t < u → bts m t = true → k < t → x ≤ (t - k) * (t - k)) (fun o => ∃ a', o = r a' (nI (k + 1)) ∧ ∃ v, a' = nI v ∧ ∀ x, x ≤ v ↔ x ≤ 1000 ∧ ∀ q, q < k + 1 → bts m q = true → toR c (clN col l q) x ∧ ∀ u, u < 10 → bts m u = true → q < u → x ≤ (u - q) * (u - q)) 10 (by omega) (fun r' u a hu ha => Or.inl ?_) (fun r' a ha => ?_) (k + 1) (by omega) _ ⟨by omega, _, rfl, fun x => ⟨fun e => ⟨e, fun t ht _ hkt => by omega⟩, fun e => e.1⟩⟩
      · obtain ⟨hku, v', rfl, hv'⟩ := ha
        have hm' := ((hv' v').mp (Nat.le_refl _)).1
        rw [le_mn] at hm'
        have esq : (nI u - nI k) * (nI u - nI k) = nI ((u - k) * (u - k)) := by rw [pk_sub (by omega), pk_mul]
        have hsq : (u - k) * (u - k) ≤ 10 * 10 := Nat.mul_le_mul (by omega) (by omega)
        cases hbu : bts m u with
        | false =>
          refine ⟨nI v', ?_, by omega, v', rfl, fun x => ?_⟩
          · unfold b_X6_leastSquare_51 j_X6_leastSquare_85
            rw [if_neg (show ¬ (10 : Int32) ≤ nI u from at_not (n := 10) rfl hu (by decide)), bit_in m hm u hu, hbu, ob, if_pos (show b32 false = 0 from rfl), bn, nI_1]
          · rw [hv']
            constructor
            · rintro ⟨a, b⟩
              refine ⟨a, fun t ht htb hkt => ?_⟩
              by_cases e : t = u
              · rw [e, hbu] at htb; cases htb
              · exact b t (by omega) htb hkt
            · rintro ⟨a, b⟩
              exact ⟨a, fun t ht => b t (by omega)⟩
        | true =>
          refine ⟨nI (min ((u - k) * (u - k)) v'), ?_, by omega, _, rfl, fun x => ?_⟩
          · unfold b_X6_leastSquare_51 j_X6_leastSquare_85
            rw [if_neg (show ¬ (10 : Int32) ≤ nI u from at_not (n := 10) rfl hu (by decide)), bit_in m hm u hu, hbu, ob, if_neg (show ¬ b32 true = 0 by decide), esq, mn_l (by omega) (by omega)]
            simp only [bn, nI_1]
          · rw [le_mn, hv']
            constructor
            · rintro ⟨d, a, b⟩
              refine ⟨a, fun t ht htb hkt => ?_⟩
              by_cases e : t = u
              · rw [e]; exact d
              · exact b t (by omega) htb hkt
            · rintro ⟨a, b⟩
              exact ⟨b u (by omega) hbu hku, a, fun t ht => b t (by omega)⟩
      · obtain ⟨hku, v', rfl, hv'⟩ := ha
        refine ⟨nI v', ?_, v', rfl, fun x => ?_⟩
        · unfold b_X6_leastSquare_51 j_X6_leastSquare_91
          rw [if_pos (show (10 : Int32) ≤ nI 10 by decide), bn, nI_1]
        · rw [hv', le_mn, hs, hv]
          constructor
          · rintro ⟨⟨⟨a, b⟩, a', d⟩, e⟩
            refine ⟨a, fun q hq hqb => ?_⟩
            by_cases f : q = k
            · rw [f]
              exact ⟨b, fun u hu hub hku => e u hu hub hku⟩
            · exact d q (by omega) hqb
          · rintro ⟨a, b⟩
            refine ⟨⟨⟨a, (b k (by omega) hb).1⟩, a, fun q hq => b q (by omega)⟩, fun t ht htb hkt => (b k (by omega) hb).2 t ht htb hkt⟩
  · obtain ⟨v, rfl, hv⟩ := ha
    refine ⟨v, ?_, hv⟩
    unfold b_X6_leastSquare_8
    rw [if_pos (show (10 : Int32) ≤ nI 10 by decide)]
/-- by a row of places -/
theorem isL_row {c : Cr} {col : Int32} {l : Nat} (hl : l < 10) {p : Nat → Nat} {n : Nat} (hp : ∀ a b, a < b → b < n → p a < p b) (h10 : ∀ a, a < n → p a < 10) (x : Nat) : isL c col l (imF p n) x ↔ x ≤ 1000 ∧ ∀ a, a < n → (∀ b, b < a → x ≤ farN (clN col l (p a)) (clN col l (p b))) ∧ toR c (clN col l (p a)) x := by
  unfold isL
  constructor
  · rintro ⟨h1, h2⟩
    refine ⟨h1, fun a ha => ⟨fun b hb => ?_, (h2 (p a) (h10 a ha) (imF_iff.mpr ⟨a, ha, rfl⟩)).1⟩⟩
    rw [far_cl hl (h10 a ha) (hp b a hb ha)]
    exact (h2 (p b) (h10 b (by omega)) (imF_iff.mpr ⟨b, by omega, rfl⟩)).2 (p a) (h10 a ha) (imF_iff.mpr ⟨a, ha, rfl⟩) (hp b a hb ha)
  · rintro ⟨h1, h2⟩
    refine ⟨h1, fun q hq hqF => ?_⟩
    obtain ⟨a, ha, rfl⟩ := imF_iff.mp hqF
    refine ⟨(h2 a ha).2, fun u hu huF hqu => ?_⟩
    obtain ⟨b, hb, rfl⟩ := imF_iff.mp huF
    have hab : a < b := by
      by_cases g : a < b
      · exact g
      · by_cases e : a = b
        · rw [e] at hqu; omega
        · have := hp b a (by omega) ha
          omega
    rw [← far_cl (col := col) hl (h10 b hb) hqu]
    exact (h2 b hb).1 a hab
theorem mn_m {a b : Nat} (ha : a < 2 ^ 31) (hb : b < 2 ^ 31) : (if nI a ≤ nI b then nI a else nI b) = nI (min b a) := by
  by_cases q : a ≤ b
  · rw [if_pos (nI_le q hb), Nat.min_eq_right q]
  · rw [if_neg (nI_ge (by omega) ha), Nat.min_eq_left (by omega)]
theorem m_apart {z : Ob} {c : Cr} (h : rN z c) (hc : cOK c) {n : Nat} (hn : n ≤ 4) {s : Nat → Nat} (hs : ∀ a, a < n → z.2 38 a = nI (s a) ∧ s a < 100) : ∃ v, f_X7_apart z (nI n) = some (nI v) ∧ ∀ x, x ≤ v ↔ x ≤ 1000 ∧ ∀ a, a < n → (∀ b, b < a → x ≤ farN (s a) (s b)) ∧ toR c (s a) x := by
  have h8 := h.2.1
  refine lpB (B := b_X7_apart_6 z (nI n)) (fun k a => ∃ v, a = nI v ∧ ∀ x, x ≤ v ↔ x ≤ 1000 ∧ ∀ a, a < k → (∀ b, b < a → x ≤ farN (s a) (s b)) ∧ toR c (s a) x) (fun o => ∃ v, o = some (nI v) ∧ ∀ x, x ≤ v ↔ x ≤ 1000 ∧ ∀ a, a < n → (∀ b, b < a → x ≤ farN (s a) (s b)) ∧ toR c (s a) x) n (by omega) (fun r k a hk ha => Or.inl ?_) (fun r a ha => ?_) 0 (Nat.zero_le _) 1000 ⟨1000, rfl, fun x => ⟨fun e => ⟨e, fun i hi => absurd hi (Nat.not_lt_zero _)⟩, fun e => e.1⟩⟩
  · obtain ⟨v, rfl, hv⟩ := ha
    have v1000 := ((hv v).mp (Nat.le_refl _)).1
    have hk4 : inb (nI k) 4 = true := inb_nI (by omega) (by decide)
    obtain ⟨ek, lk⟩ := hs k hk
    have st0 : b_X7_apart_6 z (nI n) r (nI v) (nI k) = fuel2 (b_X7_apart_14 z (nI n) r (nI k)) FU (nI v) 0 := by
      unfold b_X7_apart_6
      rw [if_neg (nI_ge hk (by omega))]
    rw [st0]
    refine lpB (B := b_X7_apart_14 z (nI n) r (nI k)) (fun j a => ∃ v', a = nI v' ∧ ∀ x, x ≤ v' ↔ x ≤ v ∧ ∀ b, b < j → x ≤ farN (s k) (s b)) (fun o => ∃ a', o = r a' (nI (k + 1)) ∧ ∃ v, a' = nI v ∧ ∀ x, x ≤ v ↔ x ≤ 1000 ∧ ∀ a, a < k + 1 → (∀ b, b < a → x ≤ farN (s a) (s b)) ∧ toR c (s a) x) k (by omega) (fun r' j a hj ha => Or.inl ?_) (fun r' a ha => ?_) 0 (Nat.zero_le _) _ ⟨v, rfl, fun x => ⟨fun e => ⟨e, fun i hi => absurd hi (Nat.not_lt_zero _)⟩, fun e => e.1⟩⟩
    · obtain ⟨v', rfl, hv'⟩ := ha
      have v1 := ((hv' v').mp (Nat.le_refl _)).1
      have hj4 : inb (nI j) 4 = true := inb_nI (by omega) (by decide)
      obtain ⟨ej, lj⟩ := hs j (by omega)
      have f200 := p_farlt lk lj
      refine ⟨nI (min (farN (s k) (s j)) v'), ?_, _, rfl, fun x => ?_⟩
      · unfold b_X7_apart_14 j_X7_apart_60
        rw [if_neg (nI_ge hj (by omega))]
        simp only [hk4, hj4, if_true, cl_nI (show k < 2 ^ 31 by omega), cl_nI (show j < 2 ^ 31 by omega), ek, ej, m_far, p_farN lk lj, ob, bn, nI_1]
        rw [← mn_m (a := v') (b := farN (s k) (s j)) (by omega) (by omega)]
        split <;> rfl
      · rw [le_mn, hv']
        constructor
        · rintro ⟨d, a, b⟩
          refine ⟨a, fun t ht => ?_⟩
          by_cases e : t = j
          · rw [e]; exact d
          · exact b t (by omega)
        · rintro ⟨a, b⟩
          exact ⟨b j (by omega), a, fun t ht => b t (by omega)⟩
    · obtain ⟨v', rfl, hv'⟩ := ha
      have v1 := ((hv' v').mp (Nat.le_refl _)).1
      have st1 : b_X7_apart_14 z (nI n) r (nI k) r' (nI v') (nI k) = fuel2 (b_X7_apart_70 z (nI n) r (nI k)) FU (nI v') 0 := by
        unfold b_X7_apart_14
        rw [if_pos (nI_le (Nat.le_refl _) (by omega))]
      rw [st1]
      refine lpB (B := b_X7_apart_70 z (nI n) r (nI k)) (fun i a => ∃ w, a = nI w ∧ ∀ x, x ≤ w ↔ x ≤ v' ∧ ∀ b, b < i → x ≤ farN (s k) (yc c b)) (fun o => ∃ a', o = r a' (nI (k + 1)) ∧ ∃ v, a' = nI v ∧ ∀ x, x ≤ v ↔ x ≤ 1000 ∧ ∀ a, a < k + 1 → (∀ b, b < a → x ≤ farN (s a) (s b)) ∧ toR c (s a) x) (cN c) (by omega) (fun r'' i a hi ha => Or.inl ?_) (fun r'' a ha => ?_) 0 (Nat.zero_le _) _ ⟨v', rfl, fun x => ⟨fun e => ⟨e, fun i hi => absurd hi (Nat.not_lt_zero _)⟩, fun e => e.1⟩⟩
      · obtain ⟨w, rfl, hw⟩ := ha
        have w1 := ((hw w).mp (Nat.le_refl _)).1
        have hi8 : inb (nI i) 8 = true := inb_nI (by omega) (by decide)
        obtain ⟨ey, ly⟩ := yc_e hc hi
        have e6 : z.2 6 i = nI (yc c i) := by rw [(h.2.2.1 i hi).2.1]; exact ey
        have f200 := p_farlt lk ly
        refine ⟨nI (min (farN (s k) (yc c i)) w), ?_, _, rfl, fun x => ?_⟩
        · unfold b_X7_apart_70 j_X7_apart_119
          rw [if_neg (at_not h.1 hi (by omega))]
          simp only [hk4, hi8, if_true, cl_nI (show k < 2 ^ 31 by omega), cl_nI (show i < 2 ^ 31 by omega), ek, e6, m_far, p_farN lk ly, ob, bn, nI_1]
          rw [← mn_m (a := w) (b := farN (s k) (yc c i)) (by omega) (by omega)]
          split <;> rfl
        · rw [le_mn, hw]
          constructor
          · rintro ⟨d, a, b⟩
            refine ⟨a, fun t ht => ?_⟩
            by_cases e : t = i
            · rw [e]; exact d
            · exact b t (by omega)
          · rintro ⟨a, b⟩
            exact ⟨b i (by omega), a, fun t ht => b t (by omega)⟩
      · obtain ⟨w, rfl, hw⟩ := ha
        refine ⟨nI w, ?_, w, rfl, fun x => ?_⟩
        · unfold b_X7_apart_70
          rw [if_pos (at_end h.1 (by omega)), bn, nI_1]
        · rw [hw, hv', hv]
          constructor
          · rintro ⟨⟨⟨a, b⟩, d⟩, e⟩
            refine ⟨a, fun t ht => ?_⟩
            by_cases q : t = k
            · rw [q]; exact ⟨d, e⟩
            · exact b t (by omega)
          · rintro ⟨a, b⟩
            exact ⟨⟨⟨a, fun t ht => b t (by omega)⟩, (b k (by omega)).1⟩, (b k (by omega)).2⟩
  · obtain ⟨v, rfl, hv⟩ := ha
    refine ⟨v, ?_, hv⟩
    unfold b_X7_apart_6
    rw [if_pos (nI_le (Nat.le_refl _) (by omega))]
