/-! PURE 8: bounds; who overhears whom, the quietest place; meters -/
theorem ft : ¬ (false = true) := by decide
theorem sh_9 : ∀ k, k < 10 → ∃ j, j ≤ 512 ∧ (1 : Int32) <<< (nI k &&& 31) = nI j := by
  intro k hk
  have h : ∀ k, k < 10 → (1 : Int32) <<< (nI k &&& 31) = nI (2 ^ k) ∧ 2 ^ k ≤ 512 := by decide +kernel
  exact ⟨_, (h k hk).2, (h k hk).1⟩
theorem bd_loud {c : Cr} (hc : cOK c) {i : Nat} (hi : i < cN c) : ∃ j, j ≤ 512 ∧ s_loud c i = nI j := by
  obtain ⟨v, -, hv, ev⟩ := (hc.2.1 i hi).2.2.2.1
  unfold s_loud
  split
  · exact ⟨0, by omega, rfl⟩
  · split
    · rw [ev]; exact sh_9 v hv
    · exact ⟨0, by omega, rfl⟩
theorem bd_sum {f : Nat → Int32} {B : Nat} : ∀ {n : Nat}, (∀ i, i < n → ∃ j, j ≤ B ∧ f i = nI j) → ∃ j, j ≤ n * B ∧ s_sum f n = nI j
  | 0, _ => ⟨0, by omega, rfl⟩
  | n + 1, h => by
    obtain ⟨a, ha, ea⟩ := bd_sum (n := n) (fun i hi => h i (by omega))
    obtain ⟨b, hb, eb⟩ := h n (by omega)
    refine ⟨a + b, ?_, ?_⟩
    · rw [Nat.add_mul]; omega
    · show s_sum f n + f n = _
      rw [ea, eb, nI_add]
theorem bd_all {c : Cr} (hc : cOK c) : ∃ j, j ≤ 4096 ∧ s_loudAll c = nI j := by
  obtain ⟨j, hj, e⟩ := bd_sum (B := 512) (fun i hi => bd_loud hc hi)
  have := hc.1
  exact ⟨j, by omega, e⟩
theorem bd_mus {c : Cr} (hc : cOK c) : ∃ j, j ≤ 512 ∧ s_loudM (cI c 1) = nI j := by
  obtain ⟨v, hv, ev⟩ := hc.2.2.2.1
  unfold s_loudM
  split
  · exact ⟨0, by omega, rfl⟩
  · rw [ev]; exact sh_9 v hv
theorem ten_less : ∀ k, k < 10 → (10 : Int32) - nI k = nI (10 - k) := by decide +kernel
theorem bd_echo {c : Cr} (hc : cOK c) : ∃ j, j ≤ 4608 ∧ s_echo c = nI j := by
  obtain ⟨a, ha, ea⟩ := bd_all hc
  obtain ⟨b, hb, eb⟩ := bd_mus hc
  obtain ⟨k, hk, ek⟩ := hc.2.2.1
  have hm : (a + b) * (10 - k) ≤ (a + b) * 10 := Nat.mul_le_mul_left _ (by omega)
  unfold s_echo
  rw [ea, eb, ek, ten_less k hk, nI_add, pk_mul, show (10 : Int32) = nI 10 from by decide +kernel, pk_div (by omega) (by decide) (by decide)]
  exact ⟨_, by omega, rfl⟩
theorem bd_from {c : Cr} (hc : cOK c) {i : Nat} (hi : i < cN c) {x : Nat} (hx : x < 100) : ∃ j, j ≤ 2048 ∧ s_from c i (nI x) = nI j := by
  obtain ⟨y, hy, ey⟩ := (hc.2.1 i hi).2.1
  obtain ⟨a, ha, ea⟩ := bd_loud hc hi
  unfold s_from
  rw [ey]
  by_cases q : y = x
  · rw [if_pos (by rw [q])]
    exact ⟨0, by omega, rfl⟩
  · rw [if_neg (fun e => q ((nI_eq (by omega) (by omega)).mp e)), ea, p_farN hy hx, show (4 : Int32) = nI 4 from by decide +kernel, pk_mul]
    have h0 : 0 < farN y x := by
      have := p_far0 hy hx
      omega
    rw [pk_div (by omega) h0 (by have := p_farlt hy hx; omega)]
    exact ⟨_, Nat.le_trans (Nat.div_le_self _ _) (by omega), rfl⟩
theorem bd_noise {c : Cr} (hc : cOK c) {x : Nat} (hx : x < 100) : ∃ j, j < 30000 ∧ s_noise c (nI x) = nI j := by
  obtain ⟨a, ha, ea⟩ := bd_echo hc
  obtain ⟨b, hb, eb⟩ := bd_sum (B := 2048) (n := cN c) (f := fun i => s_from c i (nI x)) (fun i hi => bd_from hc hi hx)
  have := hc.1
  unfold s_noise
  rw [ea, eb, nI_add]
  exact ⟨_, by omega, rfl⟩
theorem lt1_le0 (v : Int32) : v < 1 ↔ v ≤ 0 := by
  rw [Int32.lt_iff_toInt_lt, Int32.le_iff_toInt_le]
  have e0 : (0 : Int32).toInt = 0 := rfl
  have e1 : (1 : Int32).toInt = 1 := rfl
  omega
def s_over (c : Cr) (y : Int32) (i : Nat) : Bool := decide (¬ s_from c i y ≤ 0) && decide (¬ s_from c i y < s_noise c y - s_from c i y)
theorem T_overhears {z1 z9 : Ob} {c : Cr} (h : RQ z1 z9 c) (p : Int32) : ∃ r w, f_X6_overhears z1 p = some r ∧ f_X7_overhears z9 p = some (r, w) ∧ cz z9 w := by
  obtain ⟨hx, h11, hn, hc⟩ := id h
  have h8 := hx.2.1
  have c1 : cz z9 (sI z9 0 0) := cz_th
  have hn1 := c1.rN hn
  by_cases hp : inR c p
  · obtain ⟨k, hk, rfl⟩ := i_nat hp.1 hp.2 (by omega)
    have hb : inb (nI k) 8 = true := inb_nI (by omega) (by decide)
    obtain ⟨y, hy, ey⟩ := (hc.2.1 k hk).2.1
    obtain ⟨w, ew, cw, hr⟩ := m_begin hn1 hc
    have cw := c1.trans cw
    have hn2 := cw.rN hn
    have hX : f_X6_overhears z1 (nI k) = some (s_or (s_over c (nI y)) (cN c)) := by
      unfold f_X6_overhears
      rw [(x_hasR hx.rR _).1 hp, ob, if_neg (by decide), if_pos hb, cl_nI (by omega), hx.2.2.1 1 (by omega) k hk, ey, bn, x_noise hx hc hy, ob]
      refine lpB (B := b_X6_overhears_38 z1 (nI k) (nI y) (s_noise c (nI y))) (fun i a => a = s_or (s_over c (nI y)) i) (fun o => o = some (s_or (s_over c (nI y)) (cN c))) (cN c) (by omega) (fun r i a hi ha => Or.inl ⟨_, ?_, rfl⟩) (fun r a ha => ?_) 0 (Nat.zero_le _) 0 rfl
      · subst ha
        unfold b_X6_overhears_38 j_X6_overhears_86
        rw [if_neg (at_not hx.1 hi (by omega)), x_from hx hc hi hy, ob]
        simp only [bn]
        rw [← nI_1, s_or_s]
        unfold s_over
        by_cases a : s_from c i (nI y) ≤ 0
        · rw [if_pos ((lt1_le0 _).mpr a), decide_eq_false (fun q => q a)]
          rfl
        · rw [if_neg (fun q => a ((lt1_le0 _).mp q)), decide_eq_true a]
          by_cases b : s_from c i (nI y) < s_noise c (nI y) - s_from c i (nI y)
          · rw [if_pos b, decide_eq_false (fun q => q b)]
            rfl
          · rw [if_neg b, decide_eq_true b]
            rfl
      · subst ha
        unfold b_X6_overhears_38
        rw [if_pos (at_end hx.1 (by omega))]
    refine ⟨_, w, hX, ?_, cw⟩
    unfold f_X7_overhears
    rw [bn, (m_noRing hn1 _).1 hp, ob, if_pos rfl, ew, ob]
    refine lpB (B := b_X7_overhears_23 (nI k) w) (fun i a => a = s_or (s_over c (nI y)) i) (fun o => o = some (s_or (s_over c (nI y)) (cN c), w)) (cN c) (by omega) (fun r i a hi ha => Or.inl ⟨_, ?_, rfl⟩) (fun r a ha => ?_) 0 (Nat.zero_le _) 0 rfl
    · subst ha
      have g1 : w.2 6 k = nI y := by rw [(hn2.2.2.1 k hk).2.1]; exact ey
      unfold b_X7_overhears_23 j_X7_overhears_74 j_X7_overhears_75
      rw [if_neg (at_not hn2.1 hi (by omega)), if_pos hb, cl_nI (by omega), g1, m_from hr hc hi hy, ob, m_noise hr hc hy]
      simp only [bn, ob, hb, if_true]
      rw [← nI_1, s_or_s]
      unfold s_over
      by_cases a : s_from c i (nI y) ≤ 0
      · rw [if_pos a, decide_eq_false (fun q => q a), Int32.or_zero]
        rfl
      · rw [if_neg a, decide_eq_true a]
        by_cases b : s_from c i (nI y) < s_noise c (nI y) - s_from c i (nI y)
        · rw [if_pos b, decide_eq_false (fun q => q b), Int32.or_zero]
          rfl
        · rw [if_neg b, decide_eq_true b]
          rfl
    · subst ha
      unfold b_X7_overhears_23
      rw [if_pos (at_end hn2.1 (by omega))]
  · refine ⟨-1, sI z9 0 0, ?_, ?_, c1⟩
    · unfold f_X6_overhears
      rw [(x_hasR hx.rR p).2 hp]
      rfl
    · unfold f_X7_overhears
      rw [bn, (m_noRing hn1 p).2 hp]
      rfl
theorem m_taken {z : Ob} {c : Cr} (h : rN z c) (x : Int32) : f_X7_isTaken z x = some (b32 (s_taken c x)) := by
  have hn := h.2.1
  refine lpB (B := b_X7_isTaken_4 z x) (fun i a => a = b32 (anyB (fun i => decide (cA c 1 i = x)) i)) (fun o => o = some (b32 (s_taken c x))) (cN c) (by omega) (fun r i a hi ha => Or.inl ⟨b32 (anyB (fun i => decide (cA c 1 i = x)) (i + 1)), ?_, rfl⟩) (fun r a ha => ?_) 0 (Nat.zero_le _) 0 rfl
  · subst ha
    have hb : inb (nI i) 8 = true := inb_nI (by omega) (by decide)
    unfold b_X7_isTaken_4 j_X7_isTaken_26 j_X7_isTaken_31
    rw [if_neg (at_not h.1 hi (by omega)), if_pos hb, cl_nI (by omega), (h.2.2.1 i hi).2.1]
    simp only [bn]
    rw [← nI_1]
    show _ = r (b32 (anyB (fun i => decide (cA c 1 i = x)) i || decide (cA c 1 i = x))) _
    cases anyB (fun i => decide (cA c 1 i = x)) i with
    | true => rfl
    | false =>
      by_cases q : cA c 1 i = x
      · rw [if_pos q, decide_eq_true q]; rfl
      · rw [if_neg q, decide_eq_false q]; rfl
  · subst ha
    unfold b_X7_isTaken_4
    rw [if_pos (at_end h.1 (by omega)), if_pos (b32_isb _)]
    rfl
def q_st (c : Cr) : Nat → Int32 × Int32
  | 0 => (-9, 999999)
  | k + 1 => if s_taken c (nI k) = true then q_st c k else if (q_st c k).2 ≤ s_noise c (nI k) then q_st c k else (nI k, s_noise c (nI k))
theorem q_st_s (c : Cr) (k : Nat) : q_st c (k + 1) = if s_taken c (nI k) = true then q_st c k else if (q_st c k).2 ≤ s_noise c (nI k) then q_st c k else (nI k, s_noise c (nI k)) := rfl
theorem n9_100 : ∀ k, k < 2000 → ¬ nI k = -9 := by
  intro k hk e
  have h1 : (nI k).toInt = (-9 : Int32).toInt := by rw [e]
  rw [nI_toInt (by omega)] at h1
  have h2 : (-9 : Int32).toInt = -9 := rfl
  omega
theorem big_not {j : Nat} (h : j < 30000) : ¬ (999999 : Int32) ≤ nI j := nI_ge (a := j) (b := 999999) (by omega) (by decide)
theorem T_quietest {z1 z9 : Ob} {c : Cr} (h : RQ z1 z9 c) : ∃ r w, f_X6_quietest z1 = some r ∧ f_X7_quietest z9 = some (r, w) ∧ cz z9 w := by
  obtain ⟨hx, h11, hn, hc⟩ := id h
  have h8 := hx.2.1
  have c1 : cz z9 (sI z9 0 0) := cz_th
  have hn1 := c1.rN hn
  obtain ⟨w, ew, cw, hr⟩ := m_begin hn1 hc
  have cw := c1.trans cw
  have hn2 := cw.rN hn
  refine ⟨(q_st c 100).1, w, ?_, ?_, cw⟩
  · unfold f_X6_quietest
    refine lpD (B := b_X6_quietest_7 z1) (fun k a b => a = (q_st c k).1 ∧ (((q_st c k).1 = -9 ∧ (q_st c k).2 = 999999) ∨ ((¬ (q_st c k).1 = -9) ∧ b = (q_st c k).2))) (fun o => o = some (q_st c 100).1) 100 (by omega) (fun r k a b hk hab => Or.inl ?_) (fun r a b hab => ?_) 0 (Nat.zero_le _) (-9) 0 ⟨rfl, Or.inl ⟨rfl, rfl⟩⟩
    · obtain ⟨ea, hab⟩ := hab
      obtain ⟨v, ev, hv⟩ := x_ringIn hx.rR (nI k)
      obtain ⟨j, hj, ej⟩ := bd_noise hc hk
      have nk := n9_100 k (by omega)
      have step : b_X6_quietest_7 z1 r a b (nI k) = if s_taken c (nI k) = true then r a b (nI (k + 1)) else if a = -9 then r (nI k) (s_noise c (nI k)) (nI (k + 1)) else if b ≤ s_noise c (nI k) then r a b (nI (k + 1)) else r (nI k) (s_noise c (nI k)) (nI (k + 1)) := by
        unfold b_X6_quietest_7 j_X6_quietest_48 j_X6_quietest_53
        rw [if_neg (show ¬ (100 : Int32) ≤ nI k from at_not (n := 100) rfl hk (by decide)), ev, ob, x_noise hx hc hk]
        simp only [bn, ob]
        rw [← nI_1]
        cases ht : s_taken c (nI k) with
        | true =>
          rw [ht] at hv
          rw [if_neg (fun q => by have := hv.mp q; cases this), if_pos rfl]
        | false =>
          rw [if_pos (hv.mpr ht), if_neg ft]
      rw [step, q_st_s]
      cases ht : s_taken c (nI k) with
      | true => exact ⟨a, b, by rw [if_pos rfl], by rw [if_pos rfl]; exact ⟨ea, hab⟩⟩
      | false =>
        simp only [if_neg ft]
        rcases hab with ⟨h1, h2⟩ | ⟨h1, h2⟩
        · rw [if_pos (by rw [ea]; exact h1), h2, ej, if_neg (big_not hj)]
          exact ⟨_, _, rfl, rfl, Or.inr ⟨nk, rfl⟩⟩
        · rw [if_neg (by rw [ea]; exact h1), h2]
          by_cases q : (q_st c k).2 ≤ s_noise c (nI k)
          · rw [if_pos q, if_pos q]
            exact ⟨_, _, rfl, ea, Or.inr ⟨h1, rfl⟩⟩
          · rw [if_neg q, if_neg q]
            exact ⟨_, _, rfl, rfl, Or.inr ⟨nk, rfl⟩⟩
    · unfold b_X6_quietest_7
      rw [if_pos (show (100 : Int32) ≤ nI 100 by decide), hab.1]
  · unfold f_X7_quietest
    rw [bn, ew, ob]
    refine lpD (B := b_X7_quietest_17 w) (fun k a b => a = (q_st c k).1 ∧ b = (q_st c k).2) (fun o => o = some ((q_st c 100).1, w)) 100 (by omega) (fun r k a b hk hab => Or.inl ?_) (fun r a b hab => ?_) 0 (Nat.zero_le _) (-9) 999999 ⟨rfl, rfl⟩
    · obtain ⟨rfl, rfl⟩ := hab
      have step : b_X7_quietest_17 w r (q_st c k).1 (q_st c k).2 (nI k) = r (q_st c (k + 1)).1 (q_st c (k + 1)).2 (nI (k + 1)) := by
        unfold b_X7_quietest_17 j_X7_quietest_48
        rw [if_neg (show ¬ (100 : Int32) ≤ nI k from at_not (n := 100) rfl hk (by decide)), m_taken hn2, ob, m_noise hr hc hk]
        simp only [bn, ob]
        rw [← nI_1, q_st_s]
        cases s_taken c (nI k) with
        | true => rfl
        | false =>
          rw [if_pos (show b32 false = 0 from rfl), if_neg ft]
          by_cases q : (q_st c k).2 ≤ s_noise c (nI k)
          · rw [if_pos q, if_pos q]
          · rw [if_neg q, if_neg q]
      exact ⟨_, _, step, rfl, rfl⟩
    · unfold b_X7_quietest_17
      rw [if_pos (show (100 : Int32) ≤ nI 100 by decide), hab.1]
/-- STUFFS -/
def RW (z3 z9 : Ob) : Prop := ∃ n, n ≤ 5 ∧ z3.1 2 = nI n ∧ z9.1 13 = nI n ∧ ∀ i, i < n → z3.2 0 i = z9.2 14 i ∧ z3.2 1 i = z9.2 15 i ∧ (∃ k, k < 10 ∧ z9.2 14 i = nI k) ∧ (∃ k, k < 10 ∧ z9.2 15 i = nI k)
theorem cz.rW {z3 z w : Ob} (e : cz z w) (h : RW z3 z) : RW z3 w := by
  obtain ⟨n, h1, h2, h3, h4⟩ := h
  refine ⟨n, h1, h2, by rw [e.1 13 (by decide) (by decide)]; exact h3, ?_⟩
  rw [e.2 14 (by decide), e.2 15 (by decide)]
  exact h4
theorem T_stuff {z3 z9 : Ob} (h : RW z3 z9) (p q : Int32) : ∃ r w, f_X6_stuff z3 p q = some r ∧ f_X7_stuff z9 p q = some (r, w) ∧ cz z9 w := by
  have c1 : cz z9 (sI z9 0 0) := cz_th
  obtain ⟨n, h1, h2, h3, h4⟩ := c1.rW h
  have e0 : (0 : Int64).toInt = 0 := rfl
  unfold f_X6_stuff f_X7_stuff
  rw [bn, m_rng, h3, h2, n_less _ (by omega), e0]
  by_cases hp : 0 ≤ p.toInt ∧ p.toInt < (n : Int)
  · rw [decide_eq_true hp.1, decide_eq_true (show p.toInt ≤ (n : Int) - 1 by omega), if_neg (by rw [lt0]; omega)]
    obtain ⟨k, hk, rfl⟩ := i_nat hp.1 hp.2 (by omega)
    have hb : inb (nI k) 5 = true := inb_nI (by omega) (by decide)
    rw [if_pos (nI_lt hk (by omega)), cl_nI (by omega), (h4 k hk).1, (h4 k hk).2.1]
    simp only [hb, if_true, ob, b32, Bool.and_self]
    rw [if_neg (show ¬ (1 : Int32) = 0 by decide)]
    by_cases a : q = 0
    · rw [if_pos a, if_pos a]
      exact ⟨_, _, rfl, rfl, c1⟩
    · rw [if_neg a, if_neg a]
      by_cases b : q = 1
      · rw [if_pos b, if_pos b]
        exact ⟨_, _, rfl, rfl, c1⟩
      · rw [if_neg b, if_neg b]
        exact ⟨_, _, rfl, rfl, c1⟩
  · have hb : (decide (0 ≤ p.toInt) && decide (p.toInt ≤ (n : Int) - 1)) = false := by
      rw [Bool.and_eq_false_iff, decide_eq_false_iff_not, decide_eq_false_iff_not]
      omega
    rw [hb]
    refine ⟨-1, _, ?_, rfl, c1⟩
    by_cases a : p < 0
    · rw [if_pos a]
    · rw [if_neg a, if_neg (by rw [Int32.lt_iff_toInt_lt, nI_toInt (by omega)]; rw [lt0] at a; omega)]
/-- METERS -/
def RMt (z6 z9 : Ob) : Prop := ∃ n, n ≤ 6 ∧ z6.1 2 = nI n ∧ z9.1 26 = nI n ∧ ∀ i, i < n → z6.2 0 i = z9.2 27 i ∧ z6.2 1 i = z9.2 28 i ∧ (∃ k, k < 10000 ∧ z9.2 28 i = nI k)
theorem cz.rMt {z6 z w : Ob} (e : cz z w) (h : RMt z6 z) : RMt z6 w := by
  obtain ⟨n, h1, h2, h3, h4⟩ := h
  refine ⟨n, h1, h2, by rw [e.1 26 (by decide) (by decide)]; exact h3, ?_⟩
  rw [e.2 27 (by decide), e.2 28 (by decide)]
  exact h4
/-- but the METERS, all is as it was -/
def czM (z w : Ob) : Prop := (∀ k, k < 31 → k ≠ 0 → k ≠ 26 → w.1 k = z.1 k) ∧ ∀ k, k < 27 → w.2 k = z.2 k
theorem cz.toM {z w : Ob} (h : cz z w) : czM z w := ⟨fun k a b _ => h.1 k (Or.inl a) b, fun k a => h.2 k (by omega)⟩
theorem T_unmeter {z6 z9 : Ob} (h : RMt z6 z9) : ∃ r w6 w, f_X6_unmeter z6 = some (r, w6) ∧ f_X7_unmeter z9 = some (r, w) ∧ czM z9 w ∧ RMt w6 w := by
  have c1 : cz z9 (sI z9 0 0) := cz_th
  obtain ⟨n, h1, h2, h3, h4⟩ := c1.rMt h
  refine ⟨nI n, sI z6 2 0, sI (sI z9 0 0) 26 0, ?_, ?_, ⟨fun k a b d => ?_, fun k a => rfl⟩, 0, by omega, sI_e, sI_e, fun i hi => absurd hi (Nat.not_lt_zero _)⟩
  · unfold f_X6_unmeter f_X2_clear
    rw [h2]
    rfl
  · unfold f_X7_unmeter
    rw [bn, h3]
    rfl
  · rw [sI_n d]; exact c1.1 k (Or.inl a) b
theorem m_rngI (x : Int32) (a b : Int64) (A B : Int) (ea : a.toInt = A) (eb : b.toInt = B) : (A ≤ x.toInt ∧ x.toInt ≤ B → f_X7_in x.toInt64 a b = some 1) ∧ (¬ (A ≤ x.toInt ∧ x.toInt ≤ B) → f_X7_in x.toInt64 a b = some 0) := by
  rw [m_rng, ea, eb]
  constructor
  · rintro ⟨p, q⟩
    rw [decide_eq_true p, decide_eq_true q]
    rfl
  · intro h
    have hb : (decide (A ≤ x.toInt) && decide (x.toInt ≤ B)) = false := by
      rw [Bool.and_eq_false_iff, decide_eq_false_iff_not, decide_eq_false_iff_not]
      omega
    rw [hb]
    rfl
theorem T_meter {z6 z9 : Ob} (h : RMt z6 z9) (p q : Int32) : ∃ r w6 w, f_X6_meter z6 p q = some (r, w6) ∧ f_X7_meter z9 p q = some (r, w) ∧ czM z9 w ∧ RMt w6 w := by
  have c1 : cz z9 (sI z9 0 0) := cz_th
  have hh := c1.rMt h
  obtain ⟨n, h1, h2, h3, h4⟩ := id hh
  have f40 : (40 : Int32).toInt = 40 := rfl
  have f99 : (9999 : Int32).toInt = 9999 := rfl
  have rp := m_rngI p 0 40 0 40 rfl rfl
  have rq := m_rngI q 0 9999 0 9999 rfl rfl
  unfold f_X6_meter f_X7_meter
  rw [bn]
  by_cases hp : 0 ≤ p.toInt ∧ p.toInt ≤ 40
  · rw [if_neg (by rw [lt0]; omega), if_neg (by rw [Int32.lt_iff_toInt_lt, f40]; omega), rp.1 hp, ob, if_neg (show ¬ (1 : Int32) = 0 by decide)]
    by_cases hq : 0 ≤ q.toInt ∧ q.toInt ≤ 9999
    · rw [if_neg (by rw [lt0]; omega), if_pos (by rw [leT, f99]; omega), rq.1 hq, ob, if_neg (show ¬ (1 : Int32) = 0 by decide), h3]
      unfold f_X2_add
      rw [h2]
      by_cases q6 : n = 6
      · subst q6
        refine ⟨-4, z6, sI z9 0 0, ?_, ?_, c1.toM, hh⟩
        · rw [if_neg (by decide)]
          rfl
        · rw [if_pos (show nI 6 = 6 from rfl)]
      · have hb : inb (nI n) 6 = true := inb_nI (by omega) (by decide)
        have hne : ¬ nI n = (6 : Int32) := fun e => q6 ((nI_eq (a := n) (b := 6) (by omega) (by decide)).mp e)
        rw [if_pos (show nI n < 6 from nI_lt (a := n) (b := 6) (by omega) (by decide)), if_neg hne]
        simp only [hb, if_true, bn, sA_1, h2, h3, cl_nI (show n < 2 ^ 31 by omega), b2, nI_1, sI_e]
        refine ⟨nI (n + 1), _, _, rfl, rfl, ⟨fun k a b d => ?_, fun k a => ?_⟩, n + 1, by omega, sI_e, sI_e, fun i hi => ?_⟩
        · rw [sI_n d]; exact c1.1 k (Or.inl a) b
        · rw [sI_2, sA_n (by omega), sA_n (by omega)]
          exact c1.2 k (by omega)
        · rw [sI_2, sI_2, sA_n (by decide), sA_e, sA_e, sA_e, sA_n (by decide), sA_e, sA_n (by decide), sA_n (by decide)]
          by_cases e : i = n
          · rw [e, pk_us, pk_us, pk_us, pk_us]
            exact ⟨rfl, rfl, i_nat (n := 10000) hq.1 (by omega) (by decide)⟩
          · rw [pk_un e, pk_un e, pk_un e, pk_un e]
            exact h4 i (by omega)
    · rw [rq.2 hq, ob, if_pos rfl]
      refine ⟨-2, z6, sI z9 0 0, ?_, rfl, c1.toM, hh⟩
      by_cases a : q < 0
      · rw [if_pos a]
      · rw [if_neg a, if_neg (by rw [leT, f99]; rw [lt0] at a; omega)]
  · rw [rp.2 hp, ob, if_pos rfl]
    refine ⟨-2, z6, sI z9 0 0, ?_, rfl, c1.toM, hh⟩
    by_cases a : p < 0
    · rw [if_pos a]
    · rw [if_neg a, if_pos (by rw [Int32.lt_iff_toInt_lt, f40]; rw [lt0] at a; omega)]
