/-! PURE 10: how many came -/
def s_fit (n : Nat) (mi ec : Nat → Int32) (k : Int32) (e : Int32) : Nat → Bool
  | 0 => true
  | i + 1 => s_fit n mi ec k e i && (decide (¬ mi i = k) || decide (((ec i).toInt - 3 ≤ e.toInt) ∧ e.toInt ≤ (ec i).toInt + 3))
theorem s_fit_s (n : Nat) (mi ec : Nat → Int32) (k e : Int32) (i : Nat) : s_fit n mi ec k e (i + 1) = (s_fit n mi ec k e i && (decide (¬ mi i = k) || decide (((ec i).toInt - 3 ≤ e.toInt) ∧ e.toInt ≤ (ec i).toInt + 3))) := rfl
theorem s_fit_all (n : Nat) (mi ec : Nat → Int32) (k e : Int32) : ∀ {m : Nat}, s_fit n mi ec k e m = true ↔ ∀ i, i < m → (decide (¬ mi i = k) || decide (((ec i).toInt - 3 ≤ e.toInt) ∧ e.toInt ≤ (ec i).toInt + 3)) = true
  | 0 => ⟨fun _ i hi => absurd hi (Nat.not_lt_zero _), fun _ => rfl⟩
  | m + 1 => by
    rw [s_fit_s, Bool.and_eq_true, s_fit_all n mi ec k e]
    constructor
    · rintro ⟨a, b⟩ i hi
      by_cases q : i = m
      · rw [q]; exact b
      · exact a i (by omega)
    · intro h
      exact ⟨fun i hi => h i (by omega), h m (by omega)⟩
theorem abs_3 {a b : Nat} (ha : a < 10000) (hb : b ≤ 4608) : ((if 0 ≤ (nI a - nI b) then (nI a - nI b) else 0 - (nI a - nI b)) ≤ (3 : Int32)) ↔ ((nI a).toInt - 3 ≤ (nI b).toInt ∧ (nI b).toInt ≤ (nI a).toInt + 3) := by
  have e3 : (3 : Int32).toInt = 3 := rfl
  rw [nI_toInt (by omega), nI_toInt (by omega)]
  by_cases q : b ≤ a
  · rw [pk_sub q, if_pos (nI_pos' (by omega)), leT, e3, nI_toInt (by omega)]
    omega
  · have hneg := pk_sneg (a := a) (b := b) (by omega) (by omega)
    have e : nI a - nI b = -(nI (b - a)) := by
      rw [← pk_sub (a := b) (b := a) (by omega), Int32.neg_sub]
    rw [if_neg (by rw [leT]; rw [lt0] at hneg; have e0 : (0 : Int32).toInt = 0 := rfl; omega), Int32.zero_sub, e, Int32.neg_neg, leT, e3, nI_toInt (by omega)]
    omega
theorem x_fit {z6 : Ob} {n : Nat} (hn : n ≤ 6) (h2 : z6.1 2 = nI n) (hr : ∀ i, i < n → ∃ k, k < 10000 ∧ z6.2 1 i = nI k) {k : Int32} {e : Nat} (he : e ≤ 4608) : f_X2_fit z6 k (nI e) = some (b32 (s_fit n (z6.2 0) (z6.2 1) k (nI e) n)) := by
  refine lp1u (B := b_X2_fit_2 z6 k (nI e)) (fun i => s_fit n (z6.2 0) (z6.2 1) k (nI e) i = true) (fun o => o = some (b32 (s_fit n (z6.2 0) (z6.2 1) k (nI e) n))) n (by omega) (fun r i hi hI => ?_) (fun r hI => ?_) 0 (Nat.zero_le _) rfl
  · have hb : inb (nI i) 6 = true := inb_nI (by omega) (by decide)
    obtain ⟨a, ha, ea⟩ := hr i hi
    have a3 := abs_3 ha he
    have step : b_X2_fit_2 z6 k (nI e) r (nI i) = if (decide (¬ z6.2 0 i = k) || decide (((z6.2 1 i).toInt - 3 ≤ (nI e).toInt) ∧ (nI e).toInt ≤ (z6.2 1 i).toInt + 3)) = true then r (nI (i + 1)) else some 0 := by
      unfold b_X2_fit_2 j_X2_fit_37
      rw [if_neg (at_not h2 hi (by omega)), if_pos hb, if_pos hb, cl_nI (by omega), ea]
      simp only [bn, nI_1]
      by_cases q : z6.2 0 i = k
      · rw [if_pos q, decide_eq_false (fun x => x q), Bool.false_or]
        by_cases p : (nI a).toInt - 3 ≤ (nI e).toInt ∧ (nI e).toInt ≤ (nI a).toInt + 3
        · rw [if_pos (a3.mpr p), if_pos (decide_eq_true p)]
        · rw [if_neg (fun x => p (a3.mp x)), if_neg (by rw [decide_eq_false p]; exact ft)]
      · rw [if_neg q, decide_eq_true q, Bool.true_or, if_pos rfl]
    by_cases g : (decide (¬ z6.2 0 i = k) || decide (((z6.2 1 i).toInt - 3 ≤ (nI e).toInt) ∧ (nI e).toInt ≤ (z6.2 1 i).toInt + 3)) = true
    · exact Or.inl ⟨by rw [step, if_pos g], by rw [s_fit_s, hI, g]; rfl⟩
    · refine Or.inr ?_
      have hf : s_fit n (z6.2 0) (z6.2 1) k (nI e) n = false := by
        cases hq : s_fit n (z6.2 0) (z6.2 1) k (nI e) n with
        | false => rfl
        | true => exact absurd ((s_fit_all n _ _ _ _).mp hq i hi) g
      rw [step, if_neg g, hf]
      rfl
  · unfold b_X2_fit_2
    rw [if_pos (at_end h2 (by omega)), hI]
    rfl
def s_fits (n : Nat) (mi ec : Nat → Int32) : Nat → Nat → Cr → Bool
  | 0, _, _ => true
  | d + 1, k, c => s_fit n mi ec (nI k) (s_echo c) n && s_fits n mi ec d (k + 1) (s_next c)
theorem s_fits_s (n : Nat) (mi ec : Nat → Int32) (d k : Nat) (c : Cr) : s_fits n mi ec (d + 1) k c = (s_fit n mi ec (nI k) (s_echo c) n && s_fits n mi ec d (k + 1) (s_next c)) := rfl
theorem x_fits {z6 w : Ob} {n : Nat} {c : Cr} (hn : n ≤ 6) (h2 : z6.1 2 = nI n) (hr : ∀ i, i < n → ∃ k, k < 10000 ∧ z6.2 1 i = nI k) (hx : rX w c) (hc : cOK c) : ∃ w', f_X6_trialFitsMeters w z6 = some (b32 (s_fits n (z6.2 0) (z6.2 1) 41 0 c), w') := by
  unfold f_X6_trialFitsMeters
  refine lpA (B := b_X6_trialFitsMeters_2 z6) (fun k w => ∃ d, cOK d ∧ rX w d ∧ s_fits n (z6.2 0) (z6.2 1) (41 - k) k d = s_fits n (z6.2 0) (z6.2 1) 41 0 c) (fun o => ∃ w', o = some (b32 (s_fits n (z6.2 0) (z6.2 1) 41 0 c), w')) 41 (by omega) (fun r k w hk hI => ?_) (fun r w hI => ?_) 0 (Nat.zero_le _) w ⟨c, hc, hx, rfl⟩
  · obtain ⟨d, hd, hw, e⟩ := hI
    obtain ⟨u, eu, ru⟩ := x_look' hw hd
    obtain ⟨v, ev, rv⟩ := x_take ru
    obtain ⟨j, hj, ej⟩ := bd_echo hd
    have q : 41 - k = (41 - (k + 1)) + 1 := by omega
    rw [q, s_fits_s] at e
    have step : b_X6_trialFitsMeters_2 z6 r (nI k) w = if s_fit n (z6.2 0) (z6.2 1) (nI k) (s_echo d) n = true then r (nI (k + 1)) v else some (0, w) := by
      unfold b_X6_trialFitsMeters_2
      rw [if_neg (lt_41' k hk), x_echo hw hd, ob, ej, x_fit hn h2 hr hj, ob]
      simp only [eu, ev, ob, bn, nI_1]
      cases s_fit n (z6.2 0) (z6.2 1) (nI k) (nI j) n <;> rfl
    by_cases a : s_fit n (z6.2 0) (z6.2 1) (nI k) (s_echo d) n = true
    · rw [a, Bool.true_and] at e
      exact Or.inl ⟨v, by rw [step, if_pos a], _, next_ok hd, rv, e⟩
    · rw [Bool.not_eq_true] at a
      rw [a, Bool.false_and] at e
      refine Or.inr ⟨w, ?_⟩
      rw [step, if_neg (by rw [a]; exact ft), ← e]
      rfl
  · obtain ⟨d, hd, hw, e⟩ := hI
    refine ⟨w, ?_⟩
    unfold b_X6_trialFitsMeters_2
    rw [if_pos (by decide), ← e]
    rfl
theorem x_came {z1 z2 z6 z9 : Ob} {c : Cr} (h : RQ z1 z9 c) {n : Nat} (hn : n ≤ 6) (h2 : z6.1 2 = nI n) (hr : ∀ i, i < n → ∃ k, k < 10000 ∧ z6.2 1 i = nI k) : ∃ w, f_X6_came z1 z2 z6 = some (s_or (fun k => s_fits n (z6.2 0) (z6.2 1) 41 0 (s_one c k)) (cN c + 1), w) := by
  obtain ⟨hx, h11, hn9, hc⟩ := id h
  have h8 := hx.2.1
  unfold f_X6_came
  refine lpC (B := b_X6_came_4 z1 z6) (fun k a w => a = s_or (fun k => s_fits n (z6.2 0) (z6.2 1) 41 0 (s_one c k)) k) (fun o => ∃ w, o = some (s_or (fun k => s_fits n (z6.2 0) (z6.2 1) 41 0 (s_one c k)) (cN c + 1), w)) (cN c + 1) (by omega) (fun r k a w hk hab => Or.inl ?_) (fun r a w hab => ?_) 0 (Nat.zero_le _) 0 z2 rfl
  · subst hab
    obtain ⟨u, eu, ru⟩ := x_tryFirst h w (show k ≤ cN c by omega)
    obtain ⟨v, ev⟩ := x_fits hn h2 hr ru (one_ok hc (show k ≤ cN c by omega))
    refine ⟨s_or (fun k => s_fits n (z6.2 0) (z6.2 1) 41 0 (s_one c k)) (k + 1), v, ?_, rfl⟩
    unfold b_X6_came_4 j_X6_came_33
    rw [hx.1, if_neg (nI_nlt (by omega) (by omega)), eu, ob, ev, b2, s_or_s]
    simp only [bn, nI_1]
    cases s_fits n (z6.2 0) (z6.2 1) 41 0 (s_one c k) <;> rfl
  · subst hab
    refine ⟨w, ?_⟩
    unfold b_X6_came_4
    rw [hx.1, if_pos (nI_lt (by omega) (by omega))]
theorem l_add3 : ∀ (a : Nat), a < 10000 → (nI a - 3).toInt64.toInt = (nI a).toInt - 3 ∧ (nI a + 3).toInt64.toInt = (nI a).toInt + 3 := by
  intro a ha
  rw [Int32.toInt_toInt64, Int32.toInt_toInt64, Int32.toInt_sub, Int32.toInt_add, nI_toInt (by omega)]
  have e3 : (3 : Int32).toInt = 3 := rfl
  rw [e3]
  constructor
  · exact Int.bmod_eq_of_le (by omega) (by omega)
  · exact Int.bmod_eq_of_le (by omega) (by omega)
/-- one minute's meters, in the reference -/
theorem m_fit {r9 r36 : Int32 → Int32 → Ob → Option (Int32 × Ob)} {y1 y2 : Int32} {w : Ob} {n : Nat} {c : Cr} (hn : n ≤ 6) (h26 : w.1 26 = nI n) (hr : ∀ i, i < n → ∃ k, k < 10000 ∧ w.2 28 i = nI k) (hm : rM w c) (hc : cOK c) (k : Nat) (b : Bool) : fuel2 (b_X7_came_46 r9 r36 y1 y2 (nI k) w) FU (b32 b) 0 = bd2 (f_X7_go w) (fun _ g => r36 (b32 (b && s_fit n (w.2 27) (w.2 28) (nI k) (s_echo c) n)) (nI (k + 1)) g) := by
  refine lpB (B := b_X7_came_46 r9 r36 y1 y2 (nI k) w) (fun i a => a = b32 (b && s_fit n (w.2 27) (w.2 28) (nI k) (s_echo c) i)) (fun o => o = bd2 (f_X7_go w) (fun _ g => r36 (b32 (b && s_fit n (w.2 27) (w.2 28) (nI k) (s_echo c) n)) (nI (k + 1)) g)) n (by omega) (fun r i a hi ha => Or.inl ⟨b32 (b && s_fit n (w.2 27) (w.2 28) (nI k) (s_echo c) (i + 1)), ?_, rfl⟩) (fun r a ha => ?_) 0 (Nat.zero_le _) (b32 b) (by show b32 b = b32 (b && true); rw [Bool.and_true])
  · subst ha
    have hb : inb (nI i) 6 = true := inb_nI (by omega) (by decide)
    obtain ⟨a, ha, ea⟩ := hr i hi
    obtain ⟨l1, l2⟩ := l_add3 a ha
    have rr := m_rngI (s_echo c) (nI a - 3).toInt64 (nI a + 3).toInt64 _ _ l1 l2
    unfold b_X7_came_46 j_X7_came_106 j_X7_came_102 j_X7_came_107
    rw [h26, if_neg (nI_ge hi (by omega)), s_fit_s, ← Bool.and_assoc, m_echo hm hc]
    simp only [bn, ob, nI_1, hb, if_true, cl_nI (show i < 2 ^ 31 by omega), ea]
    cases (b && s_fit n (w.2 27) (w.2 28) (nI k) (s_echo c) i) with
    | false => rfl
    | true =>
      rw [if_neg (show ¬ b32 true = 0 by decide), Bool.true_and]
      by_cases q : w.2 27 i = nI k
      · rw [if_pos q, decide_eq_false (fun x => x q), Bool.false_or]
        by_cases p : (nI a).toInt - 3 ≤ (s_echo c).toInt ∧ (s_echo c).toInt ≤ (nI a).toInt + 3
        · rw [rr.1 p, decide_eq_true p]
          rfl
        · rw [rr.2 p, decide_eq_false p]
          rfl
      · rw [if_neg q, decide_eq_true q, Bool.true_or]
        rfl
  · subst ha
    unfold b_X7_came_46
    rw [h26, if_pos (nI_le (Nat.le_refl _) (by omega))]
    simp only [bn, nI_1]
theorem T_came {z1 z6 z9 : Ob} {c : Cr} (h : RQ z1 z9 c) (hm : RMt z6 z9) (z2 : Ob) : ∃ r z2' w, f_X6_came z1 z2 z6 = some (r, z2') ∧ f_X7_came z9 = some (r, w) ∧ cz z9 w := by
  obtain ⟨hx, h11, hn9, hc⟩ := id h
  have h8 := hx.2.1
  have c1 : cz z9 (sI z9 0 0) := cz_th
  obtain ⟨n, hn, e6, e26, ha⟩ := id hm
  have hr6 : ∀ i, i < n → ∃ k, k < 10000 ∧ z6.2 1 i = nI k := fun i hi => by rw [(ha i hi).2.1]; exact (ha i hi).2.2
  obtain ⟨a, ea⟩ := x_came (z2 := z2) h hn e6 hr6
  let F : Nat → Bool := fun k => s_fits n (z9.2 27) (z9.2 28) 41 0 (s_one c k)
  have fitc : ∀ (k e : Int32) (m : Nat), m ≤ n → s_fit n (z6.2 0) (z6.2 1) k e m = s_fit n (z9.2 27) (z9.2 28) k e m := by
    intro k e m
    induction m with
    | zero => intro _; rfl
    | succ m ih =>
      intro hm
      rw [s_fit_s, s_fit_s, ih (by omega), (ha m (by omega)).1, (ha m (by omega)).2.1]
  have fitsc : ∀ (d k : Nat) (x : Cr), s_fits n (z6.2 0) (z6.2 1) d k x = s_fits n (z9.2 27) (z9.2 28) d k x := by
    intro d
    induction d with
    | zero => intro k x; rfl
    | succ d ih =>
      intro k x
      rw [s_fits_s, s_fits_s, ih, fitc _ _ n (Nat.le_refl n)]
  have eF : s_or (fun k => s_fits n (z6.2 0) (z6.2 1) 41 0 (s_one c k)) (cN c + 1) = s_or F (cN c + 1) := s_or_c fun i _ => fitsc 41 0 (s_one c i)
  rw [eF] at ea
  have hM : ∃ w, f_X7_came z9 = some (s_or F (cN c + 1), w) ∧ cz z9 w := by
    unfold f_X7_came
    rw [bn]
    refine lpC (B := b_X7_came_9) (fun k a w => a = s_or F k ∧ cz z9 w) (fun o => ∃ w, o = some (s_or F (cN c + 1), w) ∧ cz z9 w) (cN c + 1) (by omega) (fun r k a w hk hab => Or.inl ?_) (fun r a w hab => ?_) 0 (Nat.zero_le _) 0 (sI z9 0 0) ⟨rfl, c1⟩
    · obtain ⟨rfl, cw⟩ := hab
      obtain ⟨u, v, eu, ev, cv, rv⟩ := m_one (cw.rN hn9) hc (show k ≤ cN c by omega)
      have st0 : b_X7_came_9 r (s_or F k) (nI k) w = fuel3 (b_X7_came_36 r (s_or F k) (nI k)) FU 1 0 (sI v 32 (nI k)) := by
        unfold b_X7_came_9
        rw [(cw.rN hn9).1, if_neg (nI_nlt (by omega) (by omega)), eu, ob, ev, ob, bn]
      rw [st0]
      refine lpC (B := b_X7_came_36 r (s_or F k) (nI k)) (fun i a w' => cz z9 w' ∧ ∃ (b : Bool) (d : Cr), a = b32 b ∧ cOK d ∧ rM w' d ∧ (b && s_fits n (z9.2 27) (z9.2 28) (41 - i) i d) = F k) (fun o => ∃ b' a', o = r b' (nI (k + 1)) a' ∧ b' = s_or F (k + 1) ∧ cz z9 a') 41 (by omega) (fun r' i a w' hi hI => Or.inl ?_) (fun r' a w' hI => ?_) 0 (Nat.zero_le _) 1 (sI v 32 (nI k)) ⟨cw.trans cv, true, s_one c k, rfl, one_ok hc (by omega), rv, rfl⟩
      · obtain ⟨cw', b, d, rfl, hd, rd, e⟩ := hI
        obtain ⟨g, eg, cg, rg, -⟩ := m_go rd hd
        have a26 : w'.1 26 = nI n := by rw [cw'.1 26 (by decide) (by decide)]; exact e26
        have a27 : w'.2 27 = z9.2 27 := cw'.2 27 (by decide)
        have a28 : w'.2 28 = z9.2 28 := cw'.2 28 (by decide)
        have q : 41 - i = (41 - (i + 1)) + 1 := by omega
        rw [q, s_fits_s, ← Bool.and_assoc] at e
        refine ⟨_, g, ?_, cw'.trans cg, (b && s_fit n (z9.2 27) (z9.2 28) (nI i) (s_echo d) n), _, rfl, next_ok hd, rg, e⟩
        unfold b_X7_came_36
        rw [if_neg (lt_41' i hi), m_fit hn a26 (by rw [a28]; exact fun i hi => (ha i hi).2.2) rd hd i b, eg, b2, a27, a28]
      · obtain ⟨cw', b, d, rfl, hd, rd, e⟩ := hI
        have eb : b = F k := by
          have e' : (b && true) = F k := e
          rw [Bool.and_true] at e'
          exact e'
        refine ⟨s_or F (k + 1), w', ?_, rfl, cw'⟩
        unfold b_X7_came_36 j_X7_came_137
        rw [if_pos (by decide), eb, s_or_s]
        simp only [bn, nI_1]
        cases F k with
        | true => rfl
        | false =>
          show r (s_or F k ||| 0) _ _ = _
          rw [Int32.or_zero]
          rfl
    · obtain ⟨rfl, cw⟩ := hab
      refine ⟨w, ?_, cw⟩
      unfold b_X7_came_9
      rw [(cw.rN hn9).1, if_pos (nI_lt (by omega) (by omega))]
  obtain ⟨w, ew, cw⟩ := hM
  exact ⟨_, a, w, ea, ew, cw⟩
