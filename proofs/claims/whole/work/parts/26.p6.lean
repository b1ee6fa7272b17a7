/-! PURE 6: what is asked of the room as it is -/
/-- how it is now, in both -/
def RQ (z1 z9 : Ob) (c : Cr) : Prop := rX z1 c ∧ z1.1 11 = 0 ∧ rN z9 c ∧ cOK c
def inR (c : Cr) (p : Int32) : Prop := 0 ≤ p.toInt ∧ p.toInt < (cN c : Int)
theorem m_rng (p : Int32) (a b : Int64) : f_X7_in p.toInt64 a b = some (b32 (decide (a.toInt ≤ p.toInt) && decide (p.toInt ≤ b.toInt))) := by
  rw [m_in, Int32.toInt_toInt64]
theorem n_less : ∀ n, n < 9 → (nI n - 1).toInt64.toInt = (n : Int) - 1 := by decide +kernel
theorem m_noRing {z : Ob} {c : Cr} (h : rN z c) (p : Int32) : (inR c p → f_X7_noRing z p = some 0) ∧ (¬ inR c p → f_X7_noRing z p = some 1) := by
  have hn := h.2.1
  have e0 : (0 : Int64).toInt = 0 := rfl
  unfold f_X7_noRing inR
  rw [m_rng, h.1, n_less _ (by omega), e0]
  constructor
  · rintro ⟨a, b⟩
    rw [decide_eq_true a, decide_eq_true (show p.toInt ≤ (cN c : Int) - 1 by omega)]
    rfl
  · intro q
    have hb : (decide (0 ≤ p.toInt) && decide (p.toInt ≤ (cN c : Int) - 1)) = false := by
      rw [Bool.and_eq_false_iff, decide_eq_false_iff_not, decide_eq_false_iff_not]
      omega
    rw [hb]
    rfl
theorem x_hasR {z : Ob} {c : Cr} (h : rR z c) (p : Int32) : (inR c p → f_X1_has z p = some 1) ∧ (¬ inR c p → f_X1_has z p = some 0) := by
  rw [x_has h]
  unfold inR
  constructor
  · intro q; rw [decide_eq_true q]; rfl
  · intro q; rw [decide_eq_false q]; rfl
theorem cz_th {z : Ob} : cz z (sI z 0 0) := cz.rfl'.sI (Or.inr rfl)
/-- the scalars that both hold -/
def RS (z0 z3 : Ob) (z5 : AS) (z6 z9 : Ob) : Prop := z3.1 2 = z9.1 13 ∧ z5.1 = z9.1 23 ∧ z6.1 2 = z9.1 26 ∧ z0.1 1 = z9.1 2
theorem T_about {z0 z1 z3 z6 z9 : Ob} {z5 : AS} {c : Cr} (h : RQ z1 z9 c) (hs : RS z0 z3 z5 z6 z9) (p : Int32) : ∃ r w, f_X6_about z0 z1 z3 z5 z6 p = some r ∧ f_X7_about z9 p = some (r, w) ∧ cz z9 w := by
  obtain ⟨hx, h11, hn, hc⟩ := h
  obtain ⟨s1, s2, s3, s4⟩ := hs
  have h8 := hx.2.1
  have c1 : cz z9 (sI z9 0 0) := cz_th
  obtain ⟨w, ew, cw, hr⟩ := m_begin (c1.rN hn) hc
  have cw := c1.trans cw
  have hn2 := cw.rN hn
  unfold f_X7_about
  simp only [bnd]
  rw [ew]
  show ∃ r w', _ ∧ fuel3 (b_X7_about_16 p w) FU 0 0 0 = some (r, w') ∧ cz z9 w'
  refine lpD (B := b_X7_about_16 p w) (fun k a b => a = s_sum (cA c 2) k ∧ b = s_or (s_hears c) k) (fun o => ∃ r w', f_X6_about z0 z1 z3 z5 z6 p = some r ∧ o = some (r, w') ∧ cz z9 w') (cN c) (by omega) (fun r k a b hk hab => ?_) (fun r a b hab => ?_) 0 (Nat.zero_le _) 0 0 ⟨rfl, rfl⟩
  · obtain ⟨rfl, rfl⟩ := hab
    have hb : inb (nI k) 8 = true := inb_nI (by omega) (by decide)
    refine Or.inl ⟨s_sum (cA c 2) (k + 1), s_or (s_hears c) (k + 1), ?_, rfl, rfl⟩
    unfold b_X7_about_16 j_X7_about_53
    rw [if_neg (at_not hn2.1 hk (by omega)), if_pos hb, cl_nI (by omega), (hr.2.2.1 k hk).2.2.1]
    simp only [bnd]
    rw [m_hears hr hc hk, ← nI_1, s_or_s]
    cases s_hears c k with
    | true => rfl
    | false =>
      show r _ (s_or (s_hears c) k ||| 0) _ = _
      rw [Int32.or_zero]
      rfl
  · obtain ⟨rfl, rfl⟩ := hab
    have e4 : w.1 4 = nI (cN c) := hn2.1
    unfold b_X7_about_16 f_X6_about
    rw [if_pos (at_end e4 (by omega)), m_echo hr hc, m_loudAll hr hc, x_people hx, x_echo hx hc, x_loudAll hx, x_hearing hx hc, e4, hx.1, hn2.2.2.2.1, hn2.2.2.2.2.1, hx.2.2.2.1, hx.2.2.2.2.1, cw.1 13 (by decide) (by decide), cw.1 23 (by decide) (by decide), cw.1 26 (by decide) (by decide), cw.1 2 (by decide) (by decide), s1, s2, s3, s4]
    by_cases q0 : p = 0
    · exact ⟨_, w, by rw [if_pos q0], by rw [if_pos q0], cw⟩
    rw [if_neg q0, if_neg q0]
    by_cases q1 : p = 1
    · exact ⟨_, w, by rw [if_pos q1]; rfl, by rw [if_pos q1], cw⟩
    rw [if_neg q1, if_neg q1]
    by_cases q2 : p = 2
    · exact ⟨_, w, by rw [if_pos q2], by rw [if_pos q2], cw⟩
    rw [if_neg q2, if_neg q2]
    by_cases q3 : p = 3
    · exact ⟨_, w, by rw [if_pos q3], by rw [if_pos q3], cw⟩
    rw [if_neg q3, if_neg q3]
    by_cases q4 : p = 4
    · exact ⟨_, w, by rw [if_pos q4]; rfl, by rw [if_pos q4]; rfl, cw⟩
    rw [if_neg q4, if_neg q4]
    by_cases q5 : p = 5
    · exact ⟨_, w, by rw [if_pos q5]; rfl, by rw [if_pos q5]; rfl, cw⟩
    rw [if_neg q5, if_neg q5]
    by_cases q6 : p = 6
    · exact ⟨_, w, by rw [if_pos q6]; rfl, by rw [if_pos q6], cw⟩
    rw [if_neg q6, if_neg q6]
    by_cases q7 : p = 7
    · exact ⟨_, w, by rw [if_pos q7], by rw [if_pos q7], cw⟩
    rw [if_neg q7, if_neg q7]
    by_cases q8 : p = 8
    · exact ⟨_, w, by rw [if_pos q8], by rw [if_pos q8], cw⟩
    rw [if_neg q8, if_neg q8]
    by_cases q9 : p = 9
    · exact ⟨_, w, by rw [if_pos q9], by rw [if_pos q9], cw⟩
    rw [if_neg q9, if_neg q9]
    by_cases q10 : p = 10
    · exact ⟨_, w, by rw [if_pos q10], by rw [if_pos q10], cw⟩
    rw [if_neg q10, if_neg q10]
    exact ⟨_, w, rfl, rfl, cw⟩
theorem T_ring {z1 z9 : Ob} {c : Cr} (h : RQ z1 z9 c) (p q : Int32) : ∃ r w, f_X6_ring z1 p q = some r ∧ f_X7_ring z9 p q = some (r, w) ∧ cz z9 w := by
  obtain ⟨hx, h11, hn, hc⟩ := h
  have h8 := hx.2.1
  have c1 : cz z9 (sI z9 0 0) := cz_th
  have hn1 := c1.rN hn
  unfold f_X6_ring f_X7_ring
  simp only [bnd]
  by_cases hp : inR c p
  · rw [(x_hasR hx.rR p).1 hp, (m_noRing hn1 p).1 hp]
    obtain ⟨k, hk, rfl⟩ := i_nat hp.1 hp.2 (by omega)
    have hb : inb (nI k) 8 = true := inb_nI (by omega) (by decide)
    obtain ⟨w, ew, cw, hr⟩ := m_begin hn1 hc
    have cw := c1.trans cw
    have hn2 := cw.rN hn
    obtain ⟨y, hy, ey⟩ := (hc.2.1 k hk).2.1
    obtain ⟨g0, g1, g2, g3, g4⟩ := hn2.2.2.1 k hk
    rw [ew]
    show ∃ r w', (if q = 0 then _ else _) = some r ∧ (if q = 0 then _ else _) = some (r, w') ∧ cz z9 w'
    rw [cl_nI (by omega), hx.2.2.1 0 (by omega) k hk, hx.2.2.1 1 (by omega) k hk, hx.2.2.1 2 (by omega) k hk, hx.2.2.1 3 (by omega) k hk, hx.2.2.1 4 (by omega) k hk, g0, g1, g2, g3, g4, x_loudOf hx hk, m_loudOf hr hc hk, ey, x_noise hx hc hy, m_noise hr hc hy, x_hears hx hc hk, m_hears hr hc hk]
    simp only [hb, if_true]
    by_cases q0 : q = 0
    · exact ⟨_, w, by rw [if_pos q0], by rw [if_pos q0], cw⟩
    rw [if_neg q0, if_neg q0]
    by_cases q1 : q = 1
    · exact ⟨_, w, by rw [if_pos q1], by rw [if_pos q1], cw⟩
    rw [if_neg q1, if_neg q1]
    by_cases q2 : q = 2
    · exact ⟨_, w, by rw [if_pos q2], by rw [if_pos q2], cw⟩
    rw [if_neg q2, if_neg q2]
    by_cases q3 : q = 3
    · exact ⟨_, w, by rw [if_pos q3], by rw [if_pos q3], cw⟩
    rw [if_neg q3, if_neg q3]
    by_cases q4 : q = 4
    · exact ⟨_, w, by rw [if_pos q4], by rw [if_pos q4], cw⟩
    rw [if_neg q4, if_neg q4]
    by_cases q5 : q = 5
    · exact ⟨_, w, by rw [if_pos q5]; rfl, by rw [if_pos q5]; rfl, cw⟩
    rw [if_neg q5, if_neg q5]
    by_cases q6 : q = 6
    · refine ⟨s_sound c k (s_loud c k), w, ?_, ?_, cw⟩
      · rw [if_pos q6]
        show (f_X1_soundBy z1 (nI k) (s_loud c k)).bind _ = _
        rw [x_sound hx hc hk]
        rfl
      · rw [if_pos q6]
        show (f_X7_soundOf w (nI k) (s_loud c k)).bind _ = _
        rw [m_sound hr hc hk]
        rfl
    rw [if_neg q6, if_neg q6]
    by_cases q7 : q = 7
    · exact ⟨_, w, by rw [if_pos q7]; rfl, by rw [if_pos q7]; rfl, cw⟩
    rw [if_neg q7, if_neg q7]
    by_cases q8 : q = 8
    · refine ⟨b32 (s_hears c k), w, ?_, ?_, cw⟩
      · rw [if_pos q8]; cases s_hears c k <;> rfl
      · rw [if_pos q8]; cases s_hears c k <;> rfl
    rw [if_neg q8, if_neg q8]
    exact ⟨_, w, rfl, rfl, cw⟩
  · rw [(x_hasR hx.rR p).2 hp, (m_noRing hn1 p).2 hp]
    exact ⟨-1, _, rfl, rfl, c1⟩
/-- a cell told by x and y -/
def isC (x y : Int32) : Prop := (0 ≤ x.toInt ∧ x.toInt < 10) ∧ 0 ≤ y.toInt ∧ y.toInt < 10
theorem lt0 {x : Int32} : x < 0 ↔ x.toInt < 0 := by rw [Int32.lt_iff_toInt_lt]; rfl
theorem leT {x y : Int32} : x ≤ y ↔ x.toInt ≤ y.toInt := Int32.le_iff_toInt_le
theorem x_isCell (x y : Int32) : (isC x y → f_X6_isCell x y = some 1) ∧ (¬ isC x y → f_X6_isCell x y = some 0) := by
  have e10 : (10 : Int32).toInt = 10 := rfl
  unfold f_X6_isCell isC
  constructor
  · rintro ⟨⟨a, b⟩, d, e⟩
    rw [if_neg (by rw [lt0]; omega), if_neg (by rw [leT, e10]; omega), if_neg (by rw [lt0]; omega), if_neg (by rw [leT, e10]; omega)]
  · intro h
    by_cases a : x < 0
    · rw [if_pos a]
    · rw [if_neg a]
      by_cases b : (10 : Int32) ≤ x
      · rw [if_pos b]
      · rw [if_neg b]
        by_cases d : y < 0
        · rw [if_pos d]
        · rw [if_neg d]
          by_cases e : (10 : Int32) ≤ y
          · rw [if_pos e]
          · rw [lt0] at a d
            rw [leT, e10] at b e
            exact absurd ⟨⟨by omega, by omega⟩, by omega, by omega⟩ h
theorem m_09 (x : Int32) : (0 ≤ x.toInt ∧ x.toInt < 10 → f_X7_in x.toInt64 0 9 = some 1) ∧ (¬ (0 ≤ x.toInt ∧ x.toInt < 10) → f_X7_in x.toInt64 0 9 = some 0) := by
  have e0 : (0 : Int64).toInt = 0 := rfl
  have e9 : (9 : Int64).toInt = 9 := rfl
  rw [m_rng, e0, e9]
  constructor
  · rintro ⟨a, b⟩
    rw [decide_eq_true a, decide_eq_true (show x.toInt ≤ 9 by omega)]
    rfl
  · intro h
    have hb : (decide (0 ≤ x.toInt) && decide (x.toInt ≤ 9)) = false := by
      rw [Bool.and_eq_false_iff, decide_eq_false_iff_not, decide_eq_false_iff_not]
      omega
    rw [hb]
    rfl
theorem ten_nI (a b : Nat) : (10 : Int32) * nI a + nI b = nI (10 * a + b) := by
  rw [show (10 : Int32) = nI 10 from by decide +kernel, pk_mul, nI_add]
theorem T_noise {z1 z9 : Ob} {c : Cr} (h : RQ z1 z9 c) (x y : Int32) : ∃ r w, f_X6_noise z1 x y = some r ∧ f_X7_noise z9 x y = some (r, w) ∧ cz z9 w := by
  obtain ⟨hx, h11, hn, hc⟩ := h
  have c1 : cz z9 (sI z9 0 0) := cz_th
  have hn1 := c1.rN hn
  unfold f_X6_noise f_X7_noise
  simp only [bnd]
  by_cases hp : isC x y
  · rw [(x_isCell x y).1 hp, (m_09 x).1 hp.1]
    obtain ⟨⟨a1, a2⟩, b1, b2⟩ := hp
    obtain ⟨a, ha, rfl⟩ := i_nat (n := 10) a1 a2 (by decide)
    obtain ⟨b, hb, rfl⟩ := i_nat (n := 10) b1 b2 (by decide)
    obtain ⟨w, ew, cw, hr⟩ := m_begin hn1 hc
    refine ⟨s_noise c (nI (10 * b + a)), w, ?_, ?_, c1.trans cw⟩
    · show (f_X1_noiseAt z1 (10 * nI b + nI a)).bind _ = _
      rw [ten_nI, x_noise hx hc (by omega)]
      rfl
    · show (f_X7_in (nI b).toInt64 0 9).bind _ = _
      rw [(m_09 (nI b)).1 ⟨b1, b2⟩]
      show (f_X7_begin (sI z9 0 0)).bind _ = _
      rw [ew]
      show (f_X7_noiseAt w (10 * nI b + nI a)).bind _ = _
      rw [ten_nI, m_noise hr hc (by omega)]
      rfl
  · rw [(x_isCell x y).2 hp]
    refine ⟨-2, sI z9 0 0, rfl, ?_, c1⟩
    by_cases q : 0 ≤ x.toInt ∧ x.toInt < 10
    · rw [(m_09 x).1 q]
      show (f_X7_in y.toInt64 0 9).bind _ = _
      rw [(m_09 y).2 (fun d => hp ⟨q, d⟩)]
      rfl
    · rw [(m_09 x).2 q]
      rfl
theorem T_from {z1 z9 : Ob} {c : Cr} (h : RQ z1 z9 c) (p x y : Int32) : ∃ r w, f_X6_from z1 p x y = some r ∧ f_X7_from z9 p x y = some (r, w) ∧ cz z9 w := by
  obtain ⟨hx, h11, hn, hc⟩ := h
  have h8 := hx.2.1
  have c1 : cz z9 (sI z9 0 0) := cz_th
  have hn1 := c1.rN hn
  unfold f_X6_from f_X7_from
  simp only [bnd]
  by_cases hr : inR c p
  · rw [(x_hasR hx.rR p).1 hr, (m_noRing hn1 p).1 hr]
    obtain ⟨k, hk, rfl⟩ := i_nat hr.1 hr.2 (by omega)
    show ∃ r w, (f_X6_isCell x y).bind _ = some r ∧ (f_X7_in x.toInt64 0 9).bind _ = some (r, w) ∧ cz z9 w
    by_cases hp : isC x y
    · rw [(x_isCell x y).1 hp, (m_09 x).1 hp.1]
      obtain ⟨⟨a1, a2⟩, b1, b2⟩ := hp
      obtain ⟨a, ha, rfl⟩ := i_nat (n := 10) a1 a2 (by decide)
      obtain ⟨b, hb, rfl⟩ := i_nat (n := 10) b1 b2 (by decide)
      obtain ⟨w, ew, cw, hr⟩ := m_begin hn1 hc
      refine ⟨s_from c k (nI (10 * b + a)), w, ?_, ?_, c1.trans cw⟩
      · show (f_X1_fromRing z1 (nI k) (10 * nI b + nI a)).bind _ = _
        rw [ten_nI, x_from hx hc hk (by omega)]
        rfl
      · show (f_X7_in (nI b).toInt64 0 9).bind _ = _
        rw [(m_09 (nI b)).1 ⟨b1, b2⟩]
        show (f_X7_begin (sI z9 0 0)).bind _ = _
        rw [ew]
        show (f_X7_fromAt w (nI k) (10 * nI b + nI a)).bind _ = _
        rw [ten_nI, m_from hr hc hk (by omega)]
        rfl
    · rw [(x_isCell x y).2 hp]
      refine ⟨-2, sI z9 0 0, rfl, ?_, c1⟩
      by_cases q : 0 ≤ x.toInt ∧ x.toInt < 10
      · rw [(m_09 x).1 q]
        show (f_X7_in y.toInt64 0 9).bind _ = _
        rw [(m_09 y).2 (fun d => hp ⟨q, d⟩)]
        rfl
      · rw [(m_09 x).2 q]
        rfl
  · rw [(x_hasR hx.rR p).2 hr, (m_noRing hn1 p).2 hr]
    exact ⟨-1, _, rfl, rfl, c1⟩
