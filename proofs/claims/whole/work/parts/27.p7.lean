/-! PURE 7: at rest -/
theorem ob {α β : Type} {a : α} {f : α → Option β} : (some a).bind f = f a := rfl
theorem bn {α β : Type} {a : α} {f : α → Option β} : bnd a f = f a := rfl
theorem b2 {α β γ : Type} {a : α} {b : β} {f : α → β → Option γ} : bd2 (some (a, b)) f = f a b := rfl
/-- loops whose places go by a told row of numbers -/
theorem lpAx {α ρ : Type} (ix : Nat → Int32) {B : (Int32 → α → Option ρ) → Int32 → α → Option ρ} (I : Nat → α → Prop) (O : Option ρ → Prop) (N : Nat) (hN : N < 20000)
    (hs : ∀ (r : Int32 → α → Option ρ) (k : Nat) (a : α), k < N → I k a → (∃ a', B r (ix k) a = r (ix (k + 1)) a' ∧ I (k + 1) a') ∨ O (B r (ix k) a))
    (he : ∀ (r : Int32 → α → Option ρ) (a : α), I N a → O (B r (ix N) a)) (a0 : α) (h0 : I 0 a0) : O (fuel2 B FU (ix 0) a0) := by
  have key : ∀ (d k n : Nat) (a : α), k + d = N → d < n → I k a → O (fuel2 B n (ix k) a) := by
    intro d
    induction d with
    | zero =>
      intro k n a h1 h2 h3
      obtain ⟨n, rfl⟩ : ∃ q, n = q + 1 := ⟨n - 1, by omega⟩
      obtain rfl : k = N := by omega
      exact he (fuel2 B n) a h3
    | succ d ih =>
      intro k n a h1 h2 h3
      obtain ⟨n, rfl⟩ : ∃ q, n = q + 1 := ⟨n - 1, by omega⟩
      rcases hs (fuel2 B n) k a (by omega) h3 with ⟨a', e, h⟩ | h
      · show O (B (fuel2 B n) (ix k) a)
        rw [e]
        exact ih (k + 1) n a' (by omega) (by omega) h
      · exact h
  exact key N 0 FU a0 (by omega) (by unfold FU; omega) h0
theorem rest_end {z1 w2 u : Ob} {d : Cr} (hx : rX w2 d) (hm : rM u d) (hd : cOK d) (p q : Int32) : ∃ r z2 w, j_X6_rest_55 z1 p q w2 = some (r, z2) ∧ j_X7_rest_43 p q u = some (r, w) ∧ cz u w := by
  have h1 := x_settle hx hd
  have h2 := m_goRest hm hd
  unfold j_X6_rest_55 j_X7_rest_43 j_X7_rest_58 bd2
  unfold endsX at h1
  unfold endsM at h2
  cases hq : s_rest d with
  | none =>
    rw [hq] at h1 h2
    obtain ⟨a, ea⟩ := h1
    obtain ⟨b, eb, cb⟩ := h2
    rw [ea, eb]
    exact ⟨-9, a, b, rfl, rfl, cb⟩
  | some kc =>
    obtain ⟨k, c'⟩ := kc
    rw [hq] at h1 h2
    obtain ⟨a, ea, ra⟩ := h1
    obtain ⟨b, eb, cb, rb⟩ := h2
    have hok := s_settle_ok 41 0 d hd _ hq
    have n9 := nI_n9 k (by have := hok.2.2.2; simpa using this)
    rw [ea, eb]
    show ∃ r z2 w, (if nI k = (-9 : Int32) then _ else _) = some (r, z2) ∧ (if nI k = (-9 : Int32) then _ else _) = some (r, w) ∧ cz u w
    rw [if_neg n9, if_neg n9]
    by_cases e : q = 0
    · rw [if_pos e, if_pos e]
      refine ⟨s_loudAll c', a, b, ?_, ?_, cb⟩
      · show (f_X1_loudAll a).bind _ = _
        rw [x_loudAll ra]
        rfl
      · show (f_X7_loudAll b).bind _ = _
        rw [m_loudAll rb hok.1]
        rfl
    · rw [if_neg e, if_neg e]
      exact ⟨nI k, a, b, rfl, rfl, cb⟩
theorem RQ.copy {z1 z9 : Ob} {c : Cr} (h : RQ z1 z9 c) (z2 : Ob) : ∃ w, f_X1_copyFrom z2 z1 = some w ∧ rX w c ∧ w.1 11 = 0 := by
  obtain ⟨hx, h11, hn, hc⟩ := h
  exact x_copyFrom hx.rR hx.2.2.2.1 hx.2.2.2.2.2.1 hc.2.2.2.2 hn.2.2.2.2.2.2
theorem by_rings {z w : Ob} {n : Nat} (h : z.1 4 = nI n) (c : cz z w) : w.1 4 = nI n := by rw [c.1 4 (by decide) (by decide)]; exact h
theorem T_rest {z1 z9 : Ob} {c : Cr} (h : RQ z1 z9 c) (z2 : Ob) (p q : Int32) : ∃ r z2' w, f_X6_rest z1 z2 p q = some (r, z2') ∧ f_X7_rest z9 p q = some (r, w) ∧ cz z9 w := by
  have hcp := h.copy z2
  obtain ⟨hx, h11, hn, hc⟩ := h
  have c1 : cz z9 (sI z9 0 0) := cz_th
  have hn1 := c1.rN hn
  have e0 : (0 : Int64).toInt = 0 := rfl
  have e2 : (2 : Int64).toInt = 2 := rfl
  have f2 : (2 : Int32).toInt = 2 := rfl
  unfold f_X6_rest f_X7_rest
  simp only [bnd]
  rw [m_rng, e0, e2]
  by_cases hp : 0 ≤ p.toInt ∧ p.toInt ≤ 2
  · rw [if_neg (by rw [lt0]; omega), if_pos (by rw [leT, f2]; omega), decide_eq_true hp.1, decide_eq_true hp.2]
    obtain ⟨a, ea, ra, -⟩ := hcp
    obtain ⟨w, ew, cw, hr⟩ := m_begin hn1 hc
    have cw' := c1.trans cw
    rw [ea]
    simp only [ob, bn, b32, Bool.and_self, if_true]
    rw [ew]
    simp only [ob, bn]
    obtain ⟨k, hk, rfl⟩ := i_nat (n := 3) hp.1 (by omega) (by decide)
    have hN := by_rings hn.1 cw'
    rcases (show k = 0 ∨ k = 1 ∨ k = 2 by omega) with rfl | rfl | rfl
    · obtain ⟨r, z2', w', g1, g2, g3⟩ := rest_end (z1 := z1) ra hr hc (nI 0) q
      exact ⟨r, z2', w', g1, g2, cw'.trans g3⟩
    · obtain ⟨b, eb, rb, -⟩ := x_speakAll ra 1
      obtain ⟨u, eu, cu, ru, -⟩ := m_allBy hr hN hn.2.1 (Nat.le_refl _) 1
      obtain ⟨r, z2', w', g1, g2, g3⟩ := rest_end (z1 := z1) rb ru (by_ok hc (k := 1) (by decide) (by decide)) (nI 1) q
      refine ⟨r, z2', w', ?_, ?_, (cw'.trans cu).trans g3⟩
      · rw [if_pos (show nI 1 = 1 from rfl)]
        unfold bd2
        rw [eb]
        exact g1
      · rw [if_neg (show ¬ (1 : Int32) = 0 by decide), if_neg (show ¬ nI 1 ≤ 0 by decide), if_pos (show nI 1 = 1 from rfl)]
        unfold j_X7_rest_40
        rw [eu]
        exact g2
    · obtain ⟨b, eb, rb, -⟩ := x_speakAll ra 9
      obtain ⟨u, eu, cu, ru, -⟩ := m_allBy hr hN hn.2.1 (Nat.le_refl _) 9
      obtain ⟨r, z2', w', g1, g2, g3⟩ := rest_end (z1 := z1) rb ru (by_ok hc (k := 9) (by decide) (by decide)) (nI 2) q
      refine ⟨r, z2', w', ?_, ?_, (cw'.trans cu).trans g3⟩
      · rw [if_neg (by decide), if_pos (show nI 2 = 2 from rfl)]
        unfold bd2
        rw [eb]
        exact g1
      · rw [if_neg (show ¬ (1 : Int32) = 0 by decide), if_neg (show ¬ nI 2 ≤ 0 by decide), if_neg (show ¬ nI 2 = 1 by decide)]
        unfold j_X7_rest_40
        rw [eu]
        exact g2
  · have hb : (decide (0 ≤ p.toInt) && decide (p.toInt ≤ 2)) = false := by
      rw [Bool.and_eq_false_iff, decide_eq_false_iff_not, decide_eq_false_iff_not]
      omega
    rw [hb]
    refine ⟨-2, z2, sI z9 0 0, ?_, rfl, c1⟩
    by_cases a : p < 0
    · rw [if_pos a]
    · rw [if_neg a, if_neg (by rw [leT, f2]; rw [lt0] at a; omega)]
/-- the first of some numbers for which it holds -/
def s_first (f : Nat → Bool) : Nat → Nat → Int32
  | 0, _ => -9
  | d + 1, k => if f k = true then nI k else s_first f d (k + 1)
theorem s_first_s (f : Nat → Bool) (d k : Nat) : s_first f (d + 1) k = if f k = true then nI k else s_first f d (k + 1) := rfl
def s_one (c : Cr) (k : Nat) : Cr := cBy (cTo c k) 1
theorem one_ok {c : Cr} (hc : cOK c) {k : Nat} (hk : k ≤ cN c) : cOK (s_one c k) := by_ok (to_ok hc hk) (k := 1) (by decide) (by decide)
theorem rX_to {w : Ob} {c : Cr} (h : rX w c) {k : Nat} (hk : k ≤ cN c) : rX (sI w 6 (nI k)) (cTo c k) := by
  obtain ⟨h1, h2, h3, h4, h5, h6, h7⟩ := h
  refine ⟨sI_e, by show k ≤ 8; omega, fun j hj i hi => h3 j hj i (by have : i < k := hi; omega), ?_, ?_, ?_, fun i hi => ?_⟩
  · rw [sI_n (by decide)]; exact h4
  · rw [sI_n (by decide)]; exact h5
  · rw [sI_n (by decide)]; exact h6
  · rw [sI_n (by decide)]; exact h7 i (by have : i < k := hi; omega)
theorem rM_to {w : Ob} {c : Cr} (h : rM w c) {k : Nat} (hk : k ≤ cN c) : rM (sI w 32 (nI k)) (cTo c k) := by
  obtain ⟨h1, h2, h3, h4, h5, h6, h7⟩ := h
  refine ⟨sI_e, by show k ≤ 8; omega, fun i hi => h3 i (by have : i < k := hi; omega), ?_, ?_, ?_, fun i hi => ?_⟩
  · rw [sI_n (by decide)]; exact h4
  · rw [sI_n (by decide)]; exact h5
  · rw [sI_n (by decide)]; exact h6
  · rw [sI_n (by decide)]; exact h7 i (by have : i < k := hi; omega)
theorem x_tryFirst {z1 z9 : Ob} {c : Cr} (h : RQ z1 z9 c) (z2 : Ob) {k : Nat} (hk : k ≤ cN c) : ∃ w, f_X6_tryFirst z1 z2 (nI k) = some w ∧ rX w (s_one c k) := by
  obtain ⟨w, e, r, -⟩ := h.copy z2
  have h8 := h.1.2.1
  have hmin : (if z1.1 6 < nI k then z1.1 6 else nI k) = nI k := by
    rw [h.1.1]
    by_cases q : nI (cN c) < nI k
    · exact absurd q (nI_nlt hk (by omega))
    · rw [if_neg q]
  obtain ⟨u, eu, ru, -⟩ := x_speakAll (rX_to r hk) 1
  refine ⟨u, ?_, ru⟩
  unfold f_X6_tryFirst
  rw [e, hmin]
  simp only [ob, bn, eu, b2]
/-- music with nobody there comes to rest -/
def z_step (ea fo m : Int32) : Int32 := if fo = 0 then m else if ((0 + s_loudM m) * (10 - ea)) / 10 = s_loudM m then m else if ((0 + s_loudM m) * (10 - ea)) / 10 ≤ s_loudM m then (if m ≤ 0 then 0 else m - 1) else (if 9 ≤ m then 9 else m + 1)
def z_rest (ea fo : Int32) : Nat → Int32 → Bool
  | 0, _ => false
  | d + 1, m => if z_step ea fo m = m then true else z_rest ea fo d (z_step ea fo m)
theorem z_all : ∀ ea, ea < 10 → ∀ fo, fo < 2 → ∀ m, m < 10 → z_rest (nI ea) (nI fo) 41 (nI m) = true := by decide +kernel
theorem z_music {c : Cr} (h : cN c = 0) : s_music c = z_step (cI c 0) (cI c 2) (cI c 1) := by
  have e : s_echo c = ((0 + s_loudM (cI c 1)) * (10 - cI c 0)) / 10 := by
    unfold s_echo s_loudAll
    rw [h]
    rfl
  unfold s_music z_step
  rw [e]
theorem z_settle : ∀ (d k : Nat) (c : Cr), cN c = 0 → z_rest (cI c 0) (cI c 2) d (cI c 1) = true → ∃ q, s_settle d k c = some q ∧ cN q.2 = 0
  | 0, _, _, _, h => by cases h
  | d + 1, k, c, h0, h => by
    unfold z_rest at h
    unfold s_settle s_still
    rw [z_music h0, h0]
    by_cases a : z_step (cI c 0) (cI c 2) (cI c 1) = cI c 1
    · exact ⟨(k, c), by rw [if_pos (by rw [decide_eq_true a]; rfl)], h0⟩
    · rw [if_neg a] at h
      rw [if_neg (by rw [decide_eq_false a]; exact fun q => by cases q)]
      refine z_settle d (k + 1) (s_next c) h0 ?_
      rw [cI_next, cI_next, cI_next, if_neg (by decide), if_neg (by decide), if_pos rfl, z_music h0]
      exact h
theorem zero_rests {c : Cr} (hc : cOK c) (h0 : cN c = 0) : s_restsH c = true := by
  obtain ⟨-, -, ⟨ea, h1, e1⟩, ⟨m, h2, e2⟩, hf⟩ := hc
  have hz : z_rest (cI c 0) (cI c 2) 41 (cI c 1) = true := by
    rw [e1, e2]
    rcases hf with q | q
    · rw [q]; exact z_all ea h1 0 (by decide) m h2
    · rw [q]; exact z_all ea h1 1 (by decide) m h2
  obtain ⟨q, e, hq⟩ := z_settle 41 0 c h0 hz
  unfold s_restsH s_rest
  rw [e]
  show s_allHear q.2 = true
  unfold s_allHear
  rw [hq]
  rfl
theorem m_one {z9 : Ob} {c : Cr} (hn : rN z9 c) (hc : cOK c) {k : Nat} (hk : k ≤ cN c) : ∃ w v, f_X7_begin z9 = some w ∧ f_X7_allBy w 1 = some v ∧ cz z9 (sI v 32 (nI k)) ∧ rM (sI v 32 (nI k)) (s_one c k) := by
  obtain ⟨w, ew, cw, rw'⟩ := m_begin hn hc
  obtain ⟨v, ev, cv, rv, -⟩ := m_allBy rw' (by_rings hn.1 cw) hn.2.1 (Nat.le_refl _) 1
  exact ⟨w, v, ew, ev, (cw.trans cv).sI (Or.inl (by decide)), rM_to rv hk⟩
/-- does what is tried, in the reference, rest and all hear -/
theorem m_restsH {z : Ob} {d : Cr} (hm : rM z d) (hd : cOK d) : (s_restsH d = true ∧ ∃ k w, f_X7_goRest z = some (nI k, w) ∧ k < 41 ∧ cz z w ∧ f_X7_allHear w = some 1) ∨ (s_restsH d = false ∧ ((∃ w, f_X7_goRest z = some (-9, w) ∧ cz z w) ∨ ∃ k w, f_X7_goRest z = some (nI k, w) ∧ k < 41 ∧ cz z w ∧ f_X7_allHear w = some 0)) := by
  have h2 := m_goRest hm hd
  unfold endsM at h2
  unfold s_restsH
  cases hq : s_rest d with
  | none =>
    rw [hq] at h2
    exact Or.inr ⟨rfl, Or.inl h2⟩
  | some kc =>
    obtain ⟨k, c'⟩ := kc
    rw [hq] at h2
    obtain ⟨b, eb, cb, rb⟩ := h2
    have hok := s_settle_ok 41 0 d hd _ hq
    have hk : k < 41 := by have := hok.2.2.2; simpa using this
    have ha := m_allHear rb hok.1
    show (s_allHear c' = true ∧ _) ∨ (s_allHear c' = false ∧ _)
    cases hh : s_allHear c' with
    | true => rw [hh] at ha; exact Or.inl ⟨rfl, k, b, eb, hk, cb, ha⟩
    | false => rw [hh] at ha; exact Or.inr ⟨rfl, Or.inr ⟨k, b, eb, hk, cb, ha⟩⟩
theorem T_tooMany {z1 z9 : Ob} {c : Cr} (h : RQ z1 z9 c) (z2 : Ob) : ∃ r z2' w, f_X6_tooMany z1 z2 = some (r, z2') ∧ f_X7_tooMany z9 = some (r, w) ∧ cz z9 w := by
  obtain ⟨hx, h11, hn, hc⟩ := id h
  have h8 := hx.2.1
  have c1 : cz z9 (sI z9 0 0) := cz_th
  let f : Nat → Bool := fun k => !s_restsH (s_one c k)
  have hX : ∃ z2', f_X6_tooMany z1 z2 = some (s_first f (cN c + 1) 0, z2') := by
    refine lpA (B := b_X6_tooMany_2 z1) (fun k w => s_first f (cN c + 1 - k) k = s_first f (cN c + 1) 0) (fun o => ∃ z2', o = some (s_first f (cN c + 1) 0, z2')) (cN c + 1) (by omega) (fun r k w hk hI => ?_) (fun r w hI => ?_) 0 (Nat.zero_le _) z2 rfl
    · obtain ⟨u, eu, ru⟩ := x_tryFirst h w (show k ≤ cN c by omega)
      obtain ⟨u2, e2⟩ := x_restsH ru (one_ok hc (show k ≤ cN c by omega))
      have e : cN c + 1 - k = (cN c + 1 - (k + 1)) + 1 := by omega
      rw [e, s_first_s] at hI
      have step : b_X6_tooMany_2 z1 r (nI k) w = if s_restsH (s_one c k) = true then r (nI (k + 1)) u2 else some (nI k, u2) := by
        unfold b_X6_tooMany_2
        rw [hx.1, if_neg (nI_nlt (by omega) (by omega)), eu]
        simp only [ob, bn, e2, b2]
        rw [← nI_1]
        cases s_restsH (s_one c k) <;> rfl
      by_cases q : s_restsH (s_one c k) = true
      · rw [if_neg (by show ¬ (!s_restsH (s_one c k)) = true; rw [q]; decide)] at hI
        exact Or.inl ⟨u2, by rw [step, if_pos q], hI⟩
      · rw [if_pos (by show (!s_restsH (s_one c k)) = true; simpa using q)] at hI
        exact Or.inr ⟨u2, by rw [step, if_neg q, ← hI]⟩
    · rw [Nat.sub_self] at hI
      refine ⟨w, ?_⟩
      unfold b_X6_tooMany_2
      rw [hx.1, if_pos (nI_lt (by omega) (by omega)), ← hI]
      rfl
  have hM : ∃ w, f_X7_tooMany z9 = some (s_first f (cN c) 1, w) ∧ cz z9 w := by
    unfold f_X7_tooMany bnd
    refine lpA (B := b_X7_tooMany_7) (fun k w => cz z9 w ∧ s_first f (cN c + 1 - k) k = s_first f (cN c) 1) (fun o => ∃ w, o = some (s_first f (cN c) 1, w) ∧ cz z9 w) (cN c + 1) (by omega) (fun r k w hk hI => ?_) (fun r w hI => ?_) 1 (by omega) (sI z9 0 0) ⟨c1, by rw [Nat.add_sub_cancel]⟩
    · obtain ⟨cw, hI⟩ := hI
      have hnw := cw.rN hn
      obtain ⟨a, b, ea, eb, cb, rb⟩ := m_one hnw hc (show k ≤ cN c by omega)
      have e : cN c + 1 - k = (cN c + 1 - (k + 1)) + 1 := by omega
      rw [e, s_first_s] at hI
      have pre : b_X7_tooMany_7 r (nI k) w = bd2 (f_X7_goRest (sI b 32 (nI k))) (fun v5 g6 => (if v5 = (-9 : Int32) then some (nI k, g6) else (f_X7_allHear g6).bind (fun v7 => (if v7 = 0 then some (nI k, g6) else bnd (nI k + (1 : Int32)) (fun x8 => r x8 g6))))) := by
        unfold b_X7_tooMany_7
        rw [hnw.1, if_neg (nI_nlt (by omega) (by omega)), ea]
        show (f_X7_allBy a 1).bind _ = _
        rw [eb]
        rfl
      rcases m_restsH rb (one_ok hc (show k ≤ cN c by omega)) with ⟨q, k2, u, eu, hk2, cu, hu⟩ | ⟨q, ⟨u, eu, cu⟩ | ⟨k2, u, eu, hk2, cu, hu⟩⟩
      · rw [if_neg (by show ¬ (!s_restsH (s_one c k)) = true; rw [q]; decide)] at hI
        refine Or.inl ⟨u, ?_, (cw.trans cb).trans cu, hI⟩
        rw [pre]
        unfold bd2
        rw [eu]
        show (if nI k2 = (-9 : Int32) then _ else _) = _
        rw [if_neg (nI_n9 k2 hk2), hu, ← nI_1]
        rfl
      · rw [if_pos (by show (!s_restsH (s_one c k)) = true; rw [q]; decide)] at hI
        refine Or.inr ⟨u, ?_, (cw.trans cb).trans cu⟩
        rw [pre, ← hI]
        unfold bd2
        rw [eu]
        rfl
      · rw [if_pos (by show (!s_restsH (s_one c k)) = true; rw [q]; decide)] at hI
        refine Or.inr ⟨u, ?_, (cw.trans cb).trans cu⟩
        rw [pre, ← hI]
        unfold bd2
        rw [eu]
        show (if nI k2 = (-9 : Int32) then _ else _) = _
        rw [if_neg (nI_n9 k2 hk2), hu]
        rfl
    · obtain ⟨cw, hI⟩ := hI
      rw [Nat.sub_self] at hI
      refine ⟨w, ?_, cw⟩
      unfold b_X7_tooMany_7
      rw [(cw.rN hn).1, if_pos (nI_lt (by omega) (by omega)), ← hI]
      rfl
  obtain ⟨z2', eX⟩ := hX
  obtain ⟨w, eM, cw⟩ := hM
  have h0 : f 0 = false := by
    show (!s_restsH (s_one c 0)) = false
    rw [zero_rests (one_ok hc (Nat.zero_le _)) rfl]
    rfl
  rw [s_first_s, if_neg (by rw [h0]; decide)] at eX
  exact ⟨_, z2', w, eX, eM, cw⟩
def s_lasts (b : Int32) : Nat → Nat → Cr → Int32
  | 0, _, _ => -9
  | d + 1, k, c => if s_loudAll c < b then s_lasts b d (k + 1) (s_next c) else nI k
theorem s_lasts_s (b : Int32) (d k : Nat) (c : Cr) : s_lasts b (d + 1) k c = if s_loudAll c < b then s_lasts b d (k + 1) (s_next c) else nI k := rfl
theorem lt_41' : ∀ k, k < 41 → ¬ (40 : Int32) < nI k := by decide +kernel
theorem s_lasts_x {z1 : Ob} (b : Int32) {c : Cr} (hc : cOK c) {w : Ob} (h : rX w c) : ∃ w', fuel2 (b_X6_lasts_30 z1 b) FU 0 w = some (s_lasts b 41 0 c, w') := by
  refine lpA (B := b_X6_lasts_30 z1 b) (fun k w => ∃ d, cOK d ∧ rX w d ∧ s_lasts b (41 - k) k d = s_lasts b 41 0 c) (fun o => ∃ w', o = some (s_lasts b 41 0 c, w')) 41 (by omega) (fun r k w hk hI => ?_) (fun r w hI => ?_) 0 (Nat.zero_le _) w ⟨c, hc, h, rfl⟩
  · obtain ⟨d, hd, hw, e⟩ := hI
    obtain ⟨u, eu, ru⟩ := x_look' hw hd
    obtain ⟨v, ev, rv⟩ := x_take ru
    have q : 41 - k = (41 - (k + 1)) + 1 := by omega
    rw [q, s_lasts_s] at e
    have step : b_X6_lasts_30 z1 b r (nI k) w = if s_loudAll d < b then r (nI (k + 1)) v else some (nI k, w) := by
      unfold b_X6_lasts_30
      rw [if_neg (lt_41' k hk), x_loudAll hw, ← nI_1]
      simp only [ob, bn, eu, ev]
    by_cases a : s_loudAll d < b
    · rw [if_pos a] at e
      exact Or.inl ⟨v, by rw [step, if_pos a], _, next_ok hd, rv, e⟩
    · rw [if_neg a] at e
      exact Or.inr ⟨w, by rw [step, if_neg a, e]⟩
  · obtain ⟨d, hd, hw, e⟩ := hI
    refine ⟨w, ?_⟩
    unfold b_X6_lasts_30
    rw [if_pos (by decide), ← e]
    rfl
theorem s_lasts_m (b : Int32) {c : Cr} (hc : cOK c) {w : Ob} (h : rM w c) : ∃ w', fuel2 (b_X7_lasts_21 b) FU 0 w = some (s_lasts b 41 0 c, w') ∧ cz w w' := by
  refine lpA (B := b_X7_lasts_21 b) (fun k v => cz w v ∧ ∃ d, cOK d ∧ rM v d ∧ s_lasts b (41 - k) k d = s_lasts b 41 0 c) (fun o => ∃ w', o = some (s_lasts b 41 0 c, w') ∧ cz w w') 41 (by omega) (fun r k v hk hI => ?_) (fun r v hI => ?_) 0 (Nat.zero_le _) w ⟨cz.rfl', c, hc, h, rfl⟩
  · obtain ⟨cv, d, hd, hw, e⟩ := hI
    obtain ⟨u, eu, cu, ru, -⟩ := m_go hw hd
    have q : 41 - k = (41 - (k + 1)) + 1 := by omega
    rw [q, s_lasts_s] at e
    have step : b_X7_lasts_21 b r (nI k) v = if s_loudAll d < b then r (nI (k + 1)) u else some (nI k, v) := by
      unfold b_X7_lasts_21
      rw [if_neg (lt_41' k hk), m_loudAll hw hd, ← nI_1]
      simp only [ob, bn, eu, b2]
    by_cases a : s_loudAll d < b
    · rw [if_pos a] at e
      exact Or.inl ⟨u, by rw [step, if_pos a], cv.trans cu, _, next_ok hd, ru, e⟩
    · rw [if_neg a] at e
      exact Or.inr ⟨v, by rw [step, if_neg a, e], cv⟩
  · obtain ⟨cv, d, hd, hw, e⟩ := hI
    refine ⟨v, ?_, cv⟩
    unfold b_X7_lasts_21
    rw [if_pos (by decide), ← e]
    rfl
theorem T_lasts {z1 z9 : Ob} {c : Cr} (h : RQ z1 z9 c) (z2 : Ob) : ∃ r z2' w, f_X6_lasts z1 z2 = some (r, z2') ∧ f_X7_lasts z9 = some (r, w) ∧ cz z9 w := by
  have hcp := h.copy z2
  obtain ⟨hx, h11, hn, hc⟩ := id h
  have c1 : cz z9 (sI z9 0 0) := cz_th
  have h1ok := by_ok hc (k := 1) (by decide) (by decide)
  obtain ⟨a, ea, ra, -⟩ := hcp
  obtain ⟨b, eb, rb, -⟩ := x_speakAll ra 1
  obtain ⟨u, eu, cu, ru⟩ := m_begin (c1.rN hn) hc
  have cu' := c1.trans cu
  obtain ⟨v, ev, cv, rv, -⟩ := m_allBy ru (by_rings hn.1 cu') hn.2.1 (Nat.le_refl _) 1
  obtain ⟨x, ex⟩ := s_lasts_x (z1 := z1) (s_loudAll c) h1ok rb
  obtain ⟨y, ey, cy⟩ := s_lasts_m (s_loudAll c) h1ok rv
  refine ⟨s_lasts (s_loudAll c) 41 0 (cBy c 1), x, y, ?_, ?_, (cu'.trans cv).trans cy⟩
  · unfold f_X6_lasts
    simp only [x_loudAll hx, ob, bn, ea, eb, b2]
    exact ex
  · unfold f_X7_lasts
    simp only [bn, eu, ob, m_loudAll ru hc, ev]
    exact ey
theorem int_le0 : ∀ k, k < 11 → ((9 : Int32) - nI k < 0 ↔ k = 10) := by decide +kernel
theorem dn_1 : ∀ k, k < 10 → (9 : Int32) - nI k + (-1 : Int32) = 9 - nI (k + 1) ∧ (∃ j, j < 10 ∧ (9 : Int32) - nI k = nI j) := by
  intro k hk
  have h : ∀ k, k < 10 → (9 : Int32) - nI k + (-1 : Int32) = 9 - nI (k + 1) ∧ (9 : Int32) - nI k = nI (9 - k) := by decide +kernel
  exact ⟨(h k hk).1, 9 - k, by omega, (h k hk).2⟩
/-- MUSIC kept so -/
def cMus (c : Cr) (m : Int32) : Cr := cWith (cWith c 1 m) 2 0
theorem mus_ok {c : Cr} (hc : cOK c) {m : Int32} (hm : ∃ j, j < 10 ∧ m = nI j) : cOK (cMus c m) := by
  obtain ⟨h1, h2, h3, h4, h5⟩ := hc
  refine ⟨h1, h2, ?_, ?_, ?_⟩
  · show ∃ k, k < 10 ∧ cI (cWith (cWith c 1 m) 2 0) 0 = nI k
    rw [cI_with, cI_with, if_neg (by decide), if_neg (by decide)]
    exact h3
  · show ∃ k, k < 10 ∧ cI (cWith (cWith c 1 m) 2 0) 1 = nI k
    rw [cI_with, cI_with, if_neg (by decide), if_pos rfl]
    exact hm
  · show cI (cWith (cWith c 1 m) 2 0) 2 = 0 ∨ _
    rw [cI_with, if_pos rfl]
    exact Or.inl rfl
theorem rX_mus {w : Ob} {c : Cr} (h : rX w c) (m : Int32) : rX (sI (sI w 8 m) 10 0) (cMus c m) := by
  obtain ⟨h1, h2, h3, h4, h5, h6, h7⟩ := h
  refine ⟨?_, h2, h3, ?_, ?_, ?_, ?_⟩
  · rw [sI_n (by decide), sI_n (by decide)]; exact h1
  · show _ = cI (cWith (cWith c 1 m) 2 0) 0
    rw [sI_n (by decide), sI_n (by decide), cI_with, cI_with, if_neg (by decide), if_neg (by decide)]; exact h4
  · show _ = cI (cWith (cWith c 1 m) 2 0) 1
    rw [sI_n (by decide), sI_e, cI_with, cI_with, if_neg (by decide), if_pos rfl]
  · show _ = cI (cWith (cWith c 1 m) 2 0) 2
    rw [sI_e, cI_with, if_pos rfl]
  · intro i hi
    rw [sI_n (by decide), sI_n (by decide)]
    exact h7 i hi
theorem rM_mus {w : Ob} {c : Cr} (h : rM w c) (m : Int32) : rM (sI (sI w 31 m) 35 0) (cMus c m) := by
  obtain ⟨h1, h2, h3, h4, h5, h6, h7⟩ := h
  refine ⟨?_, h2, h3, ?_, ?_, ?_, ?_⟩
  · rw [sI_n (by decide), sI_n (by decide)]; exact h1
  · show _ = cI (cWith (cWith c 1 m) 2 0) 0
    rw [sI_n (by decide), sI_n (by decide), cI_with, cI_with, if_neg (by decide), if_neg (by decide)]; exact h4
  · show _ = cI (cWith (cWith c 1 m) 2 0) 1
    rw [sI_n (by decide), sI_e, cI_with, cI_with, if_neg (by decide), if_pos rfl]
  · show _ = cI (cWith (cWith c 1 m) 2 0) 2
    rw [sI_e, cI_with, if_pos rfl]
  · intro i hi
    rw [sI_n (by decide), sI_n (by decide)]
    exact h7 i hi
/-- the first of some numbers, in a row of one's own -/
def s_firstX (f : Nat → Bool) (v : Nat → Int32) : Nat → Nat → Int32
  | 0, _ => -9
  | d + 1, k => if f k = true then v k else s_firstX f v d (k + 1)
theorem s_firstX_s (f : Nat → Bool) (v : Nat → Int32) (d k : Nat) : s_firstX f v (d + 1) k = if f k = true then v k else s_firstX f v d (k + 1) := rfl
def s_loudest (c : Cr) : Int32 := s_firstX (fun k => s_restsH (cMus c (9 - nI k))) (fun k => 9 - nI k) 10 0
theorem T_loudest {z1 z9 : Ob} {c : Cr} (h : RQ z1 z9 c) (z2 : Ob) : ∃ r z2' w, f_X6_loudest z1 z2 = some (r, z2') ∧ f_X7_loudest z9 = some (r, w) ∧ cz z9 w := by
  obtain ⟨hx, h11, hn, hc⟩ := id h
  have c1 : cz z9 (sI z9 0 0) := cz_th
  have hX : ∃ z2', f_X6_loudest z1 z2 = some (s_loudest c, z2') := by
    refine lpAx (fun k => 9 - nI k) (B := b_X6_loudest_3 z1) (fun k w => s_firstX (fun k => s_restsH (cMus c (9 - nI k))) (fun k => 9 - nI k) (10 - k) k = s_loudest c) (fun o => ∃ z2', o = some (s_loudest c, z2')) 10 (by omega) (fun r k w hk hI => ?_) (fun r w hI => ?_) z2 rfl
    · obtain ⟨d1, d2⟩ := dn_1 k hk
      obtain ⟨u, eu, ru, -⟩ := h.copy w
      obtain ⟨u2, e2⟩ := x_restsH (rX_mus ru (9 - nI k)) (mus_ok hc d2)
      have q : 10 - k = (10 - (k + 1)) + 1 := by omega
      rw [q, s_firstX_s] at hI
      have step : b_X6_loudest_3 z1 r (9 - nI k) w = if s_restsH (cMus c (9 - nI k)) = true then some (9 - nI k, u2) else r (9 - nI (k + 1)) u2 := by
        unfold b_X6_loudest_3
        rw [if_neg (fun a => by have := (int_le0 k (by omega)).mp a; omega)]
        simp only [eu, ob, bn, e2, b2]
        rw [d1]
        cases s_restsH (cMus c (9 - nI k)) <;> rfl
      by_cases a : s_restsH (cMus c (9 - nI k)) = true
      · rw [if_pos a] at hI
        exact Or.inr ⟨u2, by rw [step, if_pos a, ← hI]⟩
      · rw [if_neg a] at hI
        exact Or.inl ⟨u2, by rw [step, if_neg a], hI⟩
    · refine ⟨w, ?_⟩
      unfold b_X6_loudest_3
      rw [if_pos (by decide), ← hI]
      rfl
  have hM : ∃ w, f_X7_loudest z9 = some (s_loudest c, w) ∧ cz z9 w := by
    unfold f_X7_loudest bnd
    refine lpAx (fun k => 9 - nI k) (B := b_X7_loudest_8) (fun k w => cz z9 w ∧ s_firstX (fun k => s_restsH (cMus c (9 - nI k))) (fun k => 9 - nI k) (10 - k) k = s_loudest c) (fun o => ∃ w, o = some (s_loudest c, w) ∧ cz z9 w) 10 (by omega) (fun r k w hk hI => ?_) (fun r w hI => ?_) (sI z9 0 0) ⟨c1, rfl⟩
    · obtain ⟨cw, hI⟩ := hI
      obtain ⟨d1, d2⟩ := dn_1 k hk
      obtain ⟨u, eu, cu, ru⟩ := m_begin (cw.rN hn) hc
      have cu2 : cz z9 (sI (sI u 31 (9 - nI k)) 35 0) := ((cw.trans cu).sI (Or.inl (by decide))).sI (Or.inl (by decide))
      have q : 10 - k = (10 - (k + 1)) + 1 := by omega
      rw [q, s_firstX_s] at hI
      have pre : b_X7_loudest_8 r (9 - nI k) w = bd2 (f_X7_goRest (sI (sI u 31 (9 - nI k)) 35 0)) (fun v6 g7 => (if v6 = (-9 : Int32) then j_X7_loudest_44 r (9 - nI k) g7 else (f_X7_allHear g7).bind (fun v8 => (if v8 = 0 then j_X7_loudest_44 r (9 - nI k) g7 else some (9 - nI k, g7))))) := by
        unfold b_X7_loudest_8
        rw [if_neg (fun a => by have := (int_le0 k (by omega)).mp a; omega)]
        simp only [eu, ob, bn]
      have jj : ∀ v, j_X7_loudest_44 r (9 - nI k) v = r (9 - nI (k + 1)) v := fun v => by
        unfold j_X7_loudest_44 bnd
        rw [d1]
      rcases m_restsH (rM_mus ru (9 - nI k)) (mus_ok hc d2) with ⟨q, k2, v, ev, hk2, cv, hv⟩ | ⟨q, ⟨v, ev, cv⟩ | ⟨k2, v, ev, hk2, cv, hv⟩⟩
      · rw [if_pos q] at hI
        refine Or.inr ⟨v, ?_, cu2.trans cv⟩
        rw [pre, ev, b2, if_neg (nI_n9 k2 hk2), hv, ob, ← hI]
        rfl
      · rw [if_neg (by rw [q]; decide)] at hI
        refine Or.inl ⟨v, ?_, cu2.trans cv, hI⟩
        rw [pre, ev, b2, if_pos rfl, jj]
      · rw [if_neg (by rw [q]; decide)] at hI
        refine Or.inl ⟨v, ?_, cu2.trans cv, hI⟩
        rw [pre, ev, b2, if_neg (nI_n9 k2 hk2), hv, ob, if_pos rfl, jj]
    · obtain ⟨cw, hI⟩ := hI
      refine ⟨w, ?_, cw⟩
      unfold b_X7_loudest_8
      rw [if_pos (by decide), ← hI]
      rfl
  obtain ⟨z2', eX⟩ := hX
  obtain ⟨w, eM, cw⟩ := hM
  exact ⟨_, z2', w, eX, eM, cw⟩
theorem by_by (c : Cr) (v w : Int32) : cBy (cBy c v) w = cBy c w := by
  unfold cBy
  show (c.1, (c.2.1, pI (pI c.2.2 3 (fun _ => v)) 3 (fun _ => w))) = _
  have : pI (pI c.2.2 3 (fun _ => v)) 3 (fun _ => w) = pI c.2.2 3 (fun _ => w) := by
    funext k
    by_cases q : k = 3
    · rw [q, pI_eq, pI_eq]
    · rw [pI_ne q, pI_ne q, pI_ne q]
  rw [this]
theorem T_softer {z1 z9 : Ob} {c : Cr} (h : RQ z1 z9 c) (z2 : Ob) : ∃ r z2' w, f_X6_softer z1 z2 = some (r, z2') ∧ f_X7_softer z9 = some (r, w) ∧ cz z9 w := by
  obtain ⟨hx, h11, hn, hc⟩ := id h
  have c1 : cz z9 (sI z9 0 0) := cz_th
  let f : Nat → Bool := fun k => s_allHear (cBy c (nI k))
  have n9 : ∀ k, k < 10 → ¬ (9 : Int32) < nI k := by decide +kernel
  have n10 : ∀ k, k < 10 → ¬ (10 : Int32) ≤ nI k := by decide +kernel
  have hX : ∃ z2', f_X6_softer z1 z2 = some (s_first f 9 1, z2') := by
    obtain ⟨a, ea, ra, -⟩ := h.copy z2
    unfold f_X6_softer
    rw [ea, ob]
    refine lpA (B := b_X6_softer_13 z1) (fun k w => (∃ d, rX w d ∧ ∀ v, cBy d v = cBy c v) ∧ s_first f (10 - k) k = s_first f 9 1 ∧ 1 ≤ k) (fun o => ∃ z2', o = some (s_first f 9 1, z2')) 10 (by omega) (fun r k w hk hI => ?_) (fun r w hI => ?_) 1 (by omega) a ⟨⟨c, ra, fun _ => rfl⟩, rfl, Nat.le_refl 1⟩
    · obtain ⟨⟨d, rw', hd⟩, hI, hk1⟩ := hI
      obtain ⟨u, eu, ru, -⟩ := x_speakAll rw' (nI k)
      rw [hd] at ru
      have ha := x_allHear ru (by_ok hc hk1 hk)
      have q : 10 - k = (10 - (k + 1)) + 1 := by omega
      rw [q, s_first_s] at hI
      have step : b_X6_softer_13 z1 r (nI k) w = if f k = true then some (nI k, u) else r (nI (k + 1)) u := by
        unfold b_X6_softer_13
        rw [if_neg (n9 k hk), eu, b2, ha, ob, ← nI_1]
        show _ = if s_allHear (cBy c (nI k)) = true then _ else _
        cases s_allHear (cBy c (nI k)) <;> rfl
      by_cases g : f k = true
      · rw [if_pos g] at hI
        exact Or.inr ⟨u, by rw [step, if_pos g, hI]⟩
      · rw [if_neg g] at hI
        exact Or.inl ⟨u, by rw [step, if_neg g], ⟨_, ru, fun v => by_by c (nI k) v⟩, hI, by omega⟩
    · refine ⟨w, ?_⟩
      unfold b_X6_softer_13
      rw [if_pos (by decide), ← hI.2.1]
      rfl
  have hM : ∃ w, f_X7_softer z9 = some (s_first f 9 1, w) ∧ cz z9 w := by
    obtain ⟨a, ea, ca, ra⟩ := m_begin (c1.rN hn) hc
    unfold f_X7_softer
    rw [bn, ea, ob]
    refine lpA (B := b_X7_softer_11) (fun k w => (∃ d, rM w d ∧ cN d = cN c ∧ ∀ v, cBy d v = cBy c v) ∧ s_first f (10 - k) k = s_first f 9 1 ∧ 1 ≤ k ∧ cz z9 w) (fun o => ∃ w, o = some (s_first f 9 1, w) ∧ cz z9 w) 10 (by omega) (fun r k w hk hI => ?_) (fun r w hI => ?_) 1 (by omega) a ⟨⟨c, ra, rfl, fun _ => rfl⟩, rfl, Nat.le_refl 1, c1.trans ca⟩
    · obtain ⟨⟨d, rw', hdn, hd⟩, hI, hk1, cw⟩ := hI
      obtain ⟨u, eu, cu, ru, -⟩ := m_allBy rw' (by_rings hn.1 cw) hn.2.1 (by rw [hdn]; exact Nat.le_refl _) (nI k)
      rw [hd] at ru
      have ha := m_allHear ru (by_ok hc hk1 hk)
      have q : 10 - k = (10 - (k + 1)) + 1 := by omega
      rw [q, s_first_s] at hI
      have step : b_X7_softer_11 r (nI k) w = if f k = true then some (nI k, u) else r (nI (k + 1)) u := by
        unfold b_X7_softer_11
        rw [if_neg (n10 k hk), eu, ob, ha, ob, ← nI_1]
        show _ = if s_allHear (cBy c (nI k)) = true then _ else _
        cases s_allHear (cBy c (nI k)) <;> rfl
      by_cases g : f k = true
      · rw [if_pos g] at hI
        exact Or.inr ⟨u, by rw [step, if_pos g, hI], cw.trans cu⟩
      · rw [if_neg g] at hI
        exact Or.inl ⟨u, by rw [step, if_neg g], ⟨_, ru, rfl, fun v => by_by c (nI k) v⟩, hI, by omega, cw.trans cu⟩
    · refine ⟨w, ?_, hI.2.2.2⟩
      unfold b_X7_softer_11
      rw [if_pos (by decide), ← hI.2.1]
      rfl
  obtain ⟨z2', eX⟩ := hX
  obtain ⟨w, eM, cw⟩ := hM
  exact ⟨_, z2', w, eX, eM, cw⟩
