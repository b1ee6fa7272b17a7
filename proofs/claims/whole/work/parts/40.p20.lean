/-! PURE 20: the text, and how it is read -/
def RT (z0 z9 : Ob) (n : Nat) (T : Nat → Nat) : Prop := n ≤ 80 ∧ z0.1 1 = nI n ∧ z9.1 2 = nI n ∧ ∀ i, i < n → T i < 256 ∧ (z0.2 0 i) &&& 255 = nI (T i) ∧ z9.2 1 i = nI (T i)
/-- the Java text at place a, with this fault -/
def tS (n : Nat) (T : Nat → Nat) (w : Ob) (a : Nat) (q : Int32) : Prop := n ≤ 80 ∧ w.1 1 = nI n ∧ w.1 2 = nI a ∧ w.1 3 = q ∧ ∀ i, i < n → T i < 256 ∧ (w.2 0 i) &&& 255 = nI (T i)
/-- the reference at place a -/
def mS (n : Nat) (T : Nat → Nat) (w : Ob) (a : Nat) : Prop := n ≤ 80 ∧ w.1 2 = nI n ∧ w.1 3 = nI a ∧ ∀ i, i < n → T i < 256 ∧ w.2 1 i = nI (T i)
theorem tS.at {n : Nat} {T : Nat → Nat} {w : Ob} {a : Nat} {q : Int32} (h : tS n T w a q) (b : Nat) : tS n T (sI w 2 (nI b)) b q := ⟨h.1, by rw [sI_n (by decide)]; exact h.2.1, sI_e, by rw [sI_n (by decide)]; exact h.2.2.2.1, h.2.2.2.2⟩
theorem tS.bad {n : Nat} {T : Nat → Nat} {w : Ob} {a : Nat} {q : Int32} (h : tS n T w a q) (q' : Int32) : tS n T (sI w 3 q') a q' := ⟨h.1, by rw [sI_n (by decide)]; exact h.2.1, by rw [sI_n (by decide)]; exact h.2.2.1, sI_e, h.2.2.2.2⟩
theorem mS.at {n : Nat} {T : Nat → Nat} {w : Ob} {a : Nat} (h : mS n T w a) (b : Nat) : mS n T (sI w 3 (nI b)) b := ⟨h.1, by rw [sI_n (by decide)]; exact h.2.1, sI_e, h.2.2.2⟩
theorem x_byte {n : Nat} {T : Nat → Nat} {w : Ob} {a : Nat} {q : Int32} (h : tS n T w a q) (ha : a ≤ n) : f_X4_byteHere w = some (if a < n then nI (T a) else -9) := by
  obtain ⟨h1, h2, h3, h4, h5⟩ := h
  unfold f_X4_byteHere
  rw [h2, h3, if_neg (nI_pos (by omega))]
  by_cases e : a < n
  · rw [if_neg (nI_ge e (by omega)), if_pos (inb_nI (by omega) (by decide)), cl_nI (by omega), (h5 a e).2, if_pos e]
  · rw [if_pos (nI_le (by omega) (by omega)), if_neg e]
theorem x_letterW {w : Ob} (h : ¬ w.1 3 = -9) (l : Int32) : f_X4_readLetter w l = some w := by
  unfold f_X4_readLetter
  rw [if_neg h]
theorem x_digitW {w : Ob} (h : ¬ w.1 3 = -9) (l m : Int32) : f_X4_readDigit w l m = some (l, w) := by
  unfold f_X4_readDigit
  rw [if_neg h]
theorem x_letter {n : Nat} {T : Nat → Nat} {w : Ob} {a l : Nat} (h : tS n T w a (-9)) (ha : a ≤ n) (hl : l < 256) : (a < n ∧ T a = l → f_X4_readLetter w (nI l) = some (sI w 2 (nI (a + 1)))) ∧ (¬ (a < n ∧ T a = l) → f_X4_readLetter w (nI l) = some (sI w 3 (nI a))) := by
  unfold f_X4_readLetter
  rw [h.2.2.2.1, if_pos rfl, x_byte h ha, ob, h.2.2.1, nI_1]
  simp only [bn]
  constructor
  · rintro ⟨a1, a2⟩
    rw [if_pos a1, if_pos (by rw [a2])]
  · intro x
    by_cases e : a < n
    · have hT := (h.2.2.2.2 a e).1
      rw [if_pos e, if_neg (fun y => x ⟨e, (nI_eq (by omega) (by omega)).mp y⟩)]
    · rw [if_neg e, if_neg (fun y => n9_100 l (by omega) y.symm)]
def okD (n : Nat) (T : Nat → Nat) (a lo hi : Nat) : Prop := a < n ∧ 48 + lo ≤ T a ∧ T a ≤ 48 + hi
theorem dig_i (t : Nat) (ht : t < 256) : (nI t - 48).toInt = (t : Int) - 48 := by
  rw [show (48 : Int32) = nI 48 from rfl, pk_sub_toInt (by omega) (by decide)]
  rfl
theorem x_digit {n : Nat} {T : Nat → Nat} {w : Ob} {a lo hi : Nat} (h : tS n T w a (-9)) (ha : a ≤ n) (hlo : lo < 10) (hhi : hi < 10) : (okD n T a lo hi → f_X4_readDigit w (nI lo) (nI hi) = some (nI (T a - 48), sI w 2 (nI (a + 1)))) ∧ (¬ okD n T a lo hi → f_X4_readDigit w (nI lo) (nI hi) = some (nI lo, sI w 3 (nI a))) := by
  unfold f_X4_readDigit j_X4_readDigit_29
  rw [h.2.2.2.1, if_pos rfl, x_byte h ha, ob, h.2.2.1, nI_1]
  simp only [bn]
  unfold okD
  constructor
  · rintro ⟨a1, a2, a3⟩
    have hT := (h.2.2.2.2 a a1).1
    rw [if_pos a1, show (48 : Int32) = nI 48 from rfl, pk_sub (by omega), if_neg (nI_nlt (by omega) (by omega)), if_pos (nI_le (by omega) (by omega))]
  · intro x
    by_cases e : a < n
    · have hT := (h.2.2.2.2 a e).1
      rw [if_pos e]
      by_cases l : nI (T a) - 48 < nI lo
      · rw [if_pos l]
      · rw [if_neg l, if_neg ?_]
        intro g
        rw [Int32.lt_iff_toInt_lt, dig_i _ hT, nI_toInt (by omega)] at l
        rw [leT, dig_i _ hT, nI_toInt (by omega)] at g
        exact x ⟨e, by omega, by omega⟩
    · rw [if_neg e, if_pos ?_]
      rw [Int32.lt_iff_toInt_lt, nI_toInt (by omega)]
      have : ((-9 : Int32) - 48).toInt = -57 := by decide
      omega
theorem m_figure {n : Nat} {T : Nat → Nat} {w : Ob} {a lo hi : Nat} (h : mS n T w a) (ha : a ≤ n) (hlo : lo < 10) (hhi : hi < 10) : (okD n T a lo hi → f_X7_figure w (nI lo) (nI hi) = some (nI (T a - 48), sI w 3 (nI (a + 1)))) ∧ (¬ okD n T a lo hi → f_X7_figure w (nI lo) (nI hi) = some (-9, w)) := by
  obtain ⟨h1, h2, h3, h4⟩ := h
  unfold f_X7_figure okD
  rw [h2, h3]
  by_cases e : a < n
  · obtain ⟨hT, eT⟩ := h4 a e
    have r := m_rngI (nI (T a) - 48) (nI lo).toInt64 (nI hi).toInt64 lo hi (by rw [Int32.toInt_toInt64, nI_toInt (by omega)]) (by rw [Int32.toInt_toInt64, nI_toInt (by omega)])
    rw [dig_i _ hT] at r
    rw [if_neg (fun x => by have := (nI_eq (by omega) (by omega)).mp x; omega), if_pos (inb_nI (by omega) (by decide)), cl_nI (by omega), eT]
    simp only [bn, nI_1, sI_e, nI_pred, if_pos (inb_nI (show a < 80 by omega) (show 80 < 2 ^ 31 by decide)), cl_nI (show a < 2 ^ 31 by omega), sI_2, eT]
    constructor
    · rintro ⟨-, a2, a3⟩
      rw [r.1 (by omega), ob, if_neg (show ¬ (1 : Int32) = 0 by decide), show (48 : Int32) = nI 48 from rfl, pk_sub (by omega)]
    · intro x
      rw [r.2 (fun y => x ⟨e, by omega, by omega⟩), ob, if_pos rfl]
  · rw [if_pos (by rw [show a = n from by omega])]
    exact ⟨fun x => absurd x.1 e, fun _ => rfl⟩
theorem x_dig09 {n : Nat} {T : Nat → Nat} {w : Ob} {a : Nat} (h : tS n T w a (-9)) (ha : a ≤ n) : (okD n T a 0 9 → f_X4_readDigit w 0 9 = some (nI (T a - 48), sI w 2 (nI (a + 1)))) ∧ (¬ okD n T a 0 9 → f_X4_readDigit w 0 9 = some (0, sI w 3 (nI a))) := x_digit h ha (by decide) (by decide)
theorem m_fig09 {n : Nat} {T : Nat → Nat} {w : Ob} {a : Nat} (h : mS n T w a) (ha : a ≤ n) : (okD n T a 0 9 → f_X7_figure w 0 9 = some (nI (T a - 48), sI w 3 (nI (a + 1)))) ∧ (¬ okD n T a 0 9 → f_X7_figure w 0 9 = some (-9, w)) := m_figure h ha (by decide) (by decide)
theorem x_dig19 {n : Nat} {T : Nat → Nat} {w : Ob} {a : Nat} (h : tS n T w a (-9)) (ha : a ≤ n) : (okD n T a 1 9 → f_X4_readDigit w 1 9 = some (nI (T a - 48), sI w 2 (nI (a + 1)))) ∧ (¬ okD n T a 1 9 → f_X4_readDigit w 1 9 = some (1, sI w 3 (nI a))) := x_digit h ha (by decide) (by decide)
theorem m_fig19 {n : Nat} {T : Nat → Nat} {w : Ob} {a : Nat} (h : mS n T w a) (ha : a ≤ n) : (okD n T a 1 9 → f_X7_figure w 1 9 = some (nI (T a - 48), sI w 3 (nI (a + 1)))) ∧ (¬ okD n T a 1 9 → f_X7_figure w 1 9 = some (-9, w)) := m_figure h ha (by decide) (by decide)
theorem x_dig04 {n : Nat} {T : Nat → Nat} {w : Ob} {a : Nat} (h : tS n T w a (-9)) (ha : a ≤ n) : (okD n T a 0 4 → f_X4_readDigit w 0 4 = some (nI (T a - 48), sI w 2 (nI (a + 1)))) ∧ (¬ okD n T a 0 4 → f_X4_readDigit w 0 4 = some (0, sI w 3 (nI a))) := x_digit h ha (by decide) (by decide)
theorem m_fig04 {n : Nat} {T : Nat → Nat} {w : Ob} {a : Nat} (h : mS n T w a) (ha : a ≤ n) : (okD n T a 0 4 → f_X7_figure w 0 4 = some (nI (T a - 48), sI w 3 (nI (a + 1)))) ∧ (¬ okD n T a 0 4 → f_X7_figure w 0 4 = some (-9, w)) := m_figure h ha (by decide) (by decide)
/-- what is read so far, in both -/
def RdI (n : Nat) (T : Nat → Nat) (z9 : Ob) (a : Nat) (w0 w1 w2 w9 : Ob) (g : Cr) (s : Nat) : Prop :=
  a ≤ n ∧ tS n T w0 a (-9) ∧ mS n T w9 a ∧ cf [0, 3, 16, 17, 18, 19] [20, 21] z9 w9 ∧
  rR w1 g ∧ w1.1 7 = cI g 0 ∧ w1.1 10 = 0 ∧ w1.1 11 = 0 ∧ cOK g ∧ cI g 2 = 0 ∧ (∀ i, cS g i = true) ∧
  w9.1 16 = nI (cN g) ∧ (∀ i, i < cN g → w9.2 20 (5 * i) = cA g 0 i ∧ w9.2 20 (5 * i + 1) = cA g 1 i ∧ w9.2 20 (5 * i + 2) = cA g 2 i ∧ w9.2 20 (5 * i + 3) = cA g 3 i ∧ w9.2 20 (5 * i + 4) = cA g 4 i) ∧
  w9.1 18 = cI g 0 ∧ w9.1 19 = cI g 1 ∧
  s ≤ 5 ∧ w2.1 2 = nI s ∧ w9.1 17 = nI s ∧ (∀ i, i < s → w2.2 0 i = w9.2 21 (2 * i) ∧ w2.2 1 i = w9.2 21 (2 * i + 1) ∧ (∃ k, k < 10 ∧ w9.2 21 (2 * i) = nI k) ∧ (∃ k, k < 10 ∧ w9.2 21 (2 * i + 1) = nI k))
/-- a fault is found, in both -/
def RdF (n : Nat) (T : Nat → Nat) (z9 : Ob) (q : Nat) (w0 w9 : Ob) : Prop := q ≤ n ∧ (∃ a, tS n T w0 a (nI q)) ∧ mS n T w9 q ∧ cf [0, 3, 16, 17, 18, 19] [20, 21] z9 w9
theorem m_told {n : Nat} {T : Nat → Nat} {w : Ob} {a : Nat} {g : Cr} (h : mS n T w a) (h16 : w.1 16 = nI (cN g)) (h8 : cN g ≤ 8) (h20 : ∀ i, i < cN g → w.2 20 (5 * i + 1) = cA g 1 i) (x : Int32) : f_X7_isTold w x = some (b32 (s_taken g x)) := by
  refine lpB (B := b_X7_isTold_4 w x) (fun i a => a = b32 (anyB (fun i => decide (cA g 1 i = x)) i)) (fun o => o = some (b32 (s_taken g x))) (cN g) (by omega) (fun r i a hi ha => Or.inl ⟨b32 (anyB (fun i => decide (cA g 1 i = x)) (i + 1)), ?_, rfl⟩) (fun r a ha => ?_) 0 (Nat.zero_le _) 0 rfl
  · subst ha
    have hb : inb (nI (5 * i + 1)) 40 = true := inb_nI (by omega) (by decide)
    have e5 : (5 : Int32) * nI i + 1 = nI (5 * i + 1) := by rw [show (5 : Int32) = nI 5 from rfl, pk_mul, nI_1]
    unfold b_X7_isTold_4 j_X7_isTold_30 j_X7_isTold_35
    rw [h16, if_neg (nI_ge hi (by omega)), e5, if_pos hb, cl_nI (by omega), h20 i hi]
    simp only [bn]
    rw [← nI_1]
    show _ = r (b32 (anyB (fun i => decide (cA g 1 i = x)) i || decide (cA g 1 i = x))) _
    cases anyB (fun i => decide (cA g 1 i = x)) i with
    | true => rfl
    | false =>
      by_cases q : cA g 1 i = x
      · rw [if_pos q, decide_eq_true q]; rfl
      · rw [if_neg q, decide_eq_false q]; rfl
  · subst ha
    unfold b_X7_isTold_4
    rw [h16, if_pos (nI_le (Nat.le_refl _) (by omega)), if_pos (b32_isb _)]
    rfl
theorem cell_d {t x : Nat} (h1 : 48 ≤ t) (h2 : t ≤ 57) : (10 : Int32) * (nI t - 48) + nI x = nI (10 * (t - 48) + x) := by
  rw [show (48 : Int32) = nI 48 from rfl, pk_sub (by omega), ten_nI]
/-- when a ring is not read: the places behind it matter no more -/
theorem x_ringW {w0 w1 : Ob} (h : ¬ w0.1 3 = -9) (y2 y5 : Int32) : j_X4_readRing_69 y2 y5 w0 w1 = some (w0, w1) := by
  unfold j_X4_readRing_69
  rw [x_digitW h, b2, x_digitW h, b2, x_digitW h, b2, if_neg h]
theorem bad_w {n : Nat} {T : Nat → Nat} {w : Ob} {a q : Nat} (h : tS n T w a (nI q)) (hq : q ≤ n) : ¬ w.1 3 = -9 := by
  have := h.1
  rw [h.2.2.2.1]
  exact n9_100 q (by omega)
def vR (k x y m v g : Nat) : Nat → Int32 := fun j => if j = 0 then nI k else if j = 1 then nI (10 * y + x) else if j = 2 then nI m else if j = 3 then nI v else nI g
/-- the last three figures of a ring -/
theorem ring_end {n : Nat} {T : Nat → Nat} {z9 : Ob} {a0 : Nat} {w0 w1 w2 w9 : Ob} {g : Cr} {s k x y : Nat} (h : RdI n T z9 a0 w0 w1 w2 w9 g s) (hg : cN g < 8) (hk : k < 5) (hx : x < 10) (hy : y < 10) : (∃ a' w0' w1' w9' g', j_X4_readRing_69 (nI k) (nI (10 * y + x)) w0 w1 = some (w0', w1') ∧ j_X7_readRing_79 (nI k) (nI x) (nI y) w9 = some (1, w9') ∧ a0 < a' ∧ RdI n T z9 a' w0' w1' w2 w9' g' s) ∨ (∃ q w0' w1' w9', j_X4_readRing_69 (nI k) (nI (10 * y + x)) w0 w1 = some (w0', w1') ∧ j_X7_readRing_79 (nI k) (nI x) (nI y) w9 = some (0, w9') ∧ RdF n T z9 q w0' w9') := by
  obtain ⟨ha, t0, m0, cw, hr, r7, r10, r11, hok, g2, gs, m16, m20, m18, m19, hs, w22, m17, m21⟩ := id h
  have hn80 := t0.1
  have ne9 : ∀ k, k < 2000 → ¬ nI k = -9 := n9_100
  unfold j_X4_readRing_69 j_X7_readRing_79
  rw [if_neg (ne9 y (by omega))]
  have D1 := x_dig19 t0 ha
  have F1 := m_fig19 m0 ha
  by_cases ok1 : okD n T a0 1 9
  · rw [D1.1 ok1, F1.1 ok1, b2, b2]
    have t1 := t0.at (a0 + 1)
    have m1 := m0.at (a0 + 1)
    have c1 := cw.sI (k := 3) (v := nI (a0 + 1)) (Or.inr (by decide))
    have ha1 : a0 + 1 ≤ n := ok1.1
    have D2 := x_dig19 t1 ha1
    have F2 := m_fig19 m1 ha1
    have hT1 := ok1.2
    unfold j_X7_readRing_98
    rw [if_neg (ne9 _ (by omega))]
    by_cases ok2 : okD n T (a0 + 1) 1 9
    · rw [D2.1 ok2, F2.1 ok2, b2, b2]
      have t2 := t1.at (a0 + 1 + 1)
      have m2 := m1.at (a0 + 1 + 1)
      have c2 := c1.sI (k := 3) (v := nI (a0 + 1 + 1)) (Or.inr (by decide))
      have ha2 : a0 + 1 + 1 ≤ n := ok2.1
      have D3 := x_dig09 t2 ha2
      have F3 := m_fig09 m2 ha2
      have hT2 := ok2.2
      unfold j_X7_readRing_119
      rw [if_neg (ne9 _ (by omega))]
      by_cases ok3 : okD n T (a0 + 1 + 1) 0 9
      · refine Or.inl ?_
        rw [D3.1 ok3, F3.1 ok3, b2, b2]
        have t3 := t2.at (a0 + 1 + 1 + 1)
        have m3 := m2.at (a0 + 1 + 1 + 1)
        have c3 := c2.sI (k := 3) (v := nI (a0 + 1 + 1 + 1)) (Or.inr (by decide))
        have hT3 := ok3.2
        have ha3 : a0 + 1 + 1 + 1 ≤ n := ok3.1
        obtain ⟨u, eu, ru, hu⟩ := x_add hr hg (vR k x y (T a0 - 48) (T (a0 + 1) - 48) (T (a0 + 1 + 1) - 48))
        have eu' : f_X1_add w1 (nI k) (nI (10 * y + x)) (nI (T a0 - 48)) (nI (T (a0 + 1) - 48)) (nI (T (a0 + 1 + 1) - 48)) = some u := eu
        rw [t3.2.2.2.1, if_pos rfl, eu', ob]
        unfold j_X7_readRing_140
        rw [if_neg (ne9 _ (by omega))]
        have e16 : (sI (sI (sI w9 3 (nI (a0 + 1))) 3 (nI (a0 + 1 + 1))) 3 (nI (a0 + 1 + 1 + 1))).1 16 = nI (cN g) := by rw [sI_n (by decide), sI_n (by decide), sI_n (by decide)]; exact m16
        rw [bn, e16]
        have e5 : (5 : Int32) * nI (cN g) = nI (5 * cN g) := by rw [show (5 : Int32) = nI 5 from rfl, pk_mul]
        rw [e5, ten_nI]
        simp only [show (1 : Int32) = nI 1 from rfl, show (2 : Int32) = nI 2 from rfl, show (3 : Int32) = nI 3 from rfl, show (4 : Int32) = nI 4 from rfl, nI_add, bn, if_pos (inb_nI (show 5 * cN g < 40 by omega) (show 40 < 2 ^ 31 by decide)), if_pos (inb_nI (show 5 * cN g + 1 < 40 by omega) (show 40 < 2 ^ 31 by decide)), if_pos (inb_nI (show 5 * cN g + 2 < 40 by omega) (show 40 < 2 ^ 31 by decide)), if_pos (inb_nI (show 5 * cN g + 3 < 40 by omega) (show 40 < 2 ^ 31 by decide)), if_pos (inb_nI (show 5 * cN g + 4 < 40 by omega) (show 40 < 2 ^ 31 by decide)), cl_nI (show 5 * cN g < 2 ^ 31 by omega), cl_nI (show 5 * cN g + 1 < 2 ^ 31 by omega), cl_nI (show 5 * cN g + 2 < 2 ^ 31 by omega), cl_nI (show 5 * cN g + 3 < 2 ^ 31 by omega), cl_nI (show 5 * cN g + 4 < 2 ^ 31 by omega), sA_e, sA_1, e16, sI_2]
        refine ⟨a0 + 1 + 1 + 1, _, u, _, cAdd g (vR k x y (T a0 - 48) (T (a0 + 1) - 48) (T (a0 + 1 + 1) - 48)), rfl, rfl, by omega, ha3, t3, ?_, ?_, ru, by rw [hu 7 (by decide)]; exact r7, by rw [hu 10 (by decide)]; exact r10, by rw [hu 11 (by decide)]; exact r11, ?_, g2, gs, sI_e, fun i hi => ?_, ?_, ?_, hs, w22, ?_, fun i hi => ?_⟩
        · refine ⟨m3.1, ?_, ?_, ?_⟩
          · rw [sI_n (by decide)]; exact m3.2.1
          · rw [sI_n (by decide)]; exact m3.2.2.1
          · rw [sI_2, sA_n (by decide), sA_n (by decide), sA_n (by decide), sA_n (by decide), sA_n (by decide)]
            exact m3.2.2.2
        · exact (((((c3.sA (Or.inr (by decide))).sA (Or.inr (by decide))).sA (Or.inr (by decide))).sA (Or.inr (by decide))).sA (Or.inr (by decide))).sI (Or.inr (by decide))
        · exact add_ok hok hg ⟨⟨k, hk, rfl⟩, ⟨10 * y + x, by omega, rfl⟩, ⟨T a0 - 48, by omega, by omega, rfl⟩, ⟨T (a0 + 1) - 48, by omega, by omega, rfl⟩, ⟨T (a0 + 1 + 1) - 48, by omega, rfl⟩⟩
        · have hi' : i < cN g + 1 := hi
          rw [sI_2, sA_e]
          show _ = (if i = cN g then _ else cA g 0 i) ∧ _ = (if i = cN g then _ else cA g 1 i) ∧ _ = (if i = cN g then _ else cA g 2 i) ∧ _ = (if i = cN g then _ else cA g 3 i) ∧ _ = (if i = cN g then _ else cA g 4 i)
          simp only [upd_if]
          by_cases e : i = cN g
          · subst e
            simp only [if_pos rfl]
            refine ⟨?_, ?_, ?_, ?_, ?_⟩
            · rw [if_neg (by omega), if_neg (by omega), if_neg (by omega), if_neg (by omega)]; rfl
            · rw [if_neg (by omega), if_neg (by omega), if_neg (by omega)]; rfl
            · rw [if_neg (by omega), if_neg (by omega)]; rfl
            · rw [if_neg (by omega)]; rfl
            · rfl
          · simp only [if_neg e]
            obtain ⟨i0, i1, i2, i3, i4⟩ := m20 i (by omega)
            refine ⟨?_, ?_, ?_, ?_, ?_⟩
            · rw [if_neg (by omega), if_neg (by omega), if_neg (by omega), if_neg (by omega), if_neg (by omega)]; exact i0
            · rw [if_neg (by omega), if_neg (by omega), if_neg (by omega), if_neg (by omega), if_neg (by omega)]; exact i1
            · rw [if_neg (by omega), if_neg (by omega), if_neg (by omega), if_neg (by omega), if_neg (by omega)]; exact i2
            · rw [if_neg (by omega), if_neg (by omega), if_neg (by omega), if_neg (by omega), if_neg (by omega)]; exact i3
            · rw [if_neg (by omega), if_neg (by omega), if_neg (by omega), if_neg (by omega), if_neg (by omega)]; exact i4
        · rw [sI_n (by decide)]; exact m18
        · rw [sI_n (by decide)]; exact m19
        · rw [sI_n (by decide)]; exact m17
        · rw [sI_2, sA_n (by decide), sA_n (by decide), sA_n (by decide), sA_n (by decide), sA_n (by decide)]
          exact m21 i hi
      · refine Or.inr ⟨a0 + 1 + 1, _, w1, _, ?_, ?_, ha2, ⟨_, t2.bad _⟩, m2, c2⟩
        · rw [D3.2 ok3, b2, if_neg (bad_w (t2.bad _) ha2)]
        · rw [F3.2 ok3, b2]
          rfl
    · refine Or.inr ⟨a0 + 1, _, w1, _, ?_, ?_, ha1, ⟨_, t1.bad _⟩, m1, c1⟩
      · rw [D2.2 ok2, b2, x_digitW (bad_w (t1.bad _) ha1), b2, if_neg (bad_w (t1.bad _) ha1)]
      · rw [F2.2 ok2, b2]
        rfl
  · refine Or.inr ⟨a0, _, w1, _, ?_, ?_, ha, ⟨_, t0.bad _⟩, m0, cw⟩
    · rw [D1.2 ok1, b2, x_digitW (bad_w (t0.bad _) ha), b2, x_digitW (bad_w (t0.bad _) ha), b2, if_neg (bad_w (t0.bad _) ha)]
    · rw [F1.2 ok1, b2]
      rfl
