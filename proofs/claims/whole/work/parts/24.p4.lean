/-! PURE 4: the reference: begin, all by one voice, a minute, a rest -/
/-- nothing but what is tried is otherwise -/
def cz (z w : Ob) : Prop := (∀ k, k < 31 ∨ 36 ≤ k → k ≠ 0 → w.1 k = z.1 k) ∧ ∀ k, k < 29 → w.2 k = z.2 k
theorem cz.rfl' {z : Ob} : cz z z := ⟨fun _ _ _ => rfl, fun _ _ => rfl⟩
theorem cz.trans {x y z : Ob} (h : cz x y) (h2 : cz y z) : cz x z := ⟨fun k a b => (h2.1 k a b).trans (h.1 k a b), fun k a => (h2.2 k a).trans (h.2 k a)⟩
theorem cz.sI {z w : Ob} (h : cz z w) {k : Nat} {v : Int32} (hk : (31 ≤ k ∧ k < 36) ∨ k = 0) : cz z (sI w k v) := ⟨fun j a b => by rw [sI_n (by omega)]; exact h.1 j a b, h.2⟩
theorem cz.sA {z w : Ob} (h : cz z w) {k : Nat} {g : Nat → Int32} (hk : 29 ≤ k) : cz z (sA w k g) := ⟨h.1, fun j a => by rw [sA_n (by omega)]; exact h.2 j a⟩
/-- how it is now, in the reference -/
def rN (z : Ob) (c : Cr) : Prop := z.1 4 = nI (cN c) ∧ cN c ≤ 8 ∧ (∀ i, i < cN c → z.2 5 i = cA c 0 i ∧ z.2 6 i = cA c 1 i ∧ z.2 7 i = cA c 2 i ∧ z.2 8 i = cA c 3 i ∧ z.2 9 i = cA c 4 i) ∧ z.1 10 = cI c 0 ∧ z.1 11 = cI c 1 ∧ z.1 12 = cI c 2 ∧ (∀ i, cS c i = true)
theorem cz.rN {z w : Ob} {c : Cr} (e : cz z w) (h : rN z c) : rN w c := by
  obtain ⟨h1, h2, h3, h4, h5, h6, h7⟩ := h
  refine ⟨by rw [e.1 4 (by decide) (by decide)]; exact h1, h2, fun i hi => ?_, by rw [e.1 10 (by decide) (by decide)]; exact h4, by rw [e.1 11 (by decide) (by decide)]; exact h5, by rw [e.1 12 (by decide) (by decide)]; exact h6, h7⟩
  rw [e.2 5 (by decide), e.2 6 (by decide), e.2 7 (by decide), e.2 8 (by decide), e.2 9 (by decide)]
  exact h3 i hi
theorem bit_255 : ∀ i, i < 8 → (((255 : Int32) >>> (nI i &&& 31)) &&& 1) = 1 := by decide +kernel
theorem m_begin {z : Ob} {c : Cr} (h : rN z c) (hc : cOK c) : ∃ w, f_X7_begin z = some w ∧ cz z w ∧ rM w c := by
  obtain ⟨h1, h2, h3, h4, h5, h6, h7⟩ := id h
  have hbool := hc.2.2.2.2
  refine lpA (B := b_X7_begin_2) (fun k w => cz z w ∧ ∀ i, i < k → w.2 29 i = cA c 3 i) (fun o => ∃ w, o = some w ∧ cz z w ∧ rM w c) (cN c) (by omega) (fun r k w hk hw => ?_) (fun r w hw => ?_) 0 (Nat.zero_le _) z ⟨cz.rfl', fun i hi => absurd hi (Nat.not_lt_zero _)⟩
  · obtain ⟨e, hv⟩ := hw
    have hb : inb (nI k) 8 = true := inb_nI (by omega) (by decide)
    refine Or.inl ⟨sA w 29 (upd (w.2 29) k (cA c 3 k)), ?_, e.sA (by decide), fun i hi => ?_⟩
    · unfold b_X7_begin_2
      rw [if_neg (at_not (by rw [e.1 4 (by decide) (by decide)]; exact h1) hk (by omega)), if_pos hb, if_pos hb, cl_nI (by omega), e.2 8 (by decide), (h3 k hk).2.2.2.1, ← nI_1]
      rfl
    · rw [sA_e]
      by_cases q : i = k
      · rw [q]; exact pk_us
      · rw [pk_un q]; exact hv i (by omega)
  · obtain ⟨e, hv⟩ := hw
    refine ⟨sI (sI (sI (sI (sI w 31 (cI c 1)) 32 (nI (cN c))) 33 (cI c 0)) 34 255) 35 (cI c 2), ?_, ?_, ?_⟩
    · unfold b_X7_begin_2
      have e4 : w.1 4 = nI (cN c) := by rw [e.1 4 (by decide) (by decide)]; exact h1
      have e10 : w.1 10 = cI c 0 := by rw [e.1 10 (by decide) (by decide)]; exact h4
      have e11 : w.1 11 = cI c 1 := by rw [e.1 11 (by decide) (by decide)]; exact h5
      have e12 : w.1 12 = cI c 2 := by rw [e.1 12 (by decide) (by decide)]; exact h6
      rw [if_pos (at_end e4 (by omega))]
      simp only [bnd]
      rw [sI_n (by decide), sI_n (by decide), sI_n (by decide), sI_n (by decide), sI_n (by decide), sI_n (by decide), sI_n (by decide), e4, e10, e11, e12, if_pos (by rcases hbool with q | q <;> rw [q] <;> decide)]
    · exact ((((e.sI (by decide)).sI (by decide)).sI (by decide)).sI (by decide)).sI (by decide)
    · refine ⟨?_, h2, fun i hi => ?_, ?_, ?_, ?_, fun i hi => ?_⟩
      · rw [sI_n (by decide), sI_n (by decide), sI_n (by decide), sI_e]
      · simp only [sI_2]
        rw [e.2 5 (by decide), e.2 6 (by decide), e.2 7 (by decide), e.2 9 (by decide)]
        obtain ⟨g0, g1, g2, g3, g4⟩ := h3 i hi
        exact ⟨g0, g1, g2, hv i hi, g4⟩
      · rw [sI_n (by decide), sI_n (by decide), sI_e]
      · rw [sI_n (by decide), sI_n (by decide), sI_n (by decide), sI_n (by decide), sI_e]
      · rw [sI_e]
      · rw [sI_n (by decide), sI_e, h7 i, bit_255 i (by omega)]
        rfl
/-- all speak by this voice; so many of them -/
def cBy (c : Cr) (v : Int32) : Cr := (c.1, (c.2.1, pI c.2.2 3 (fun _ => v)))
def cTo (c : Cr) (n : Nat) : Cr := ((n, c.1.2), c.2)
def cWith (c : Cr) (k : Nat) (v : Int32) : Cr := (c.1, (pI c.2.1 k v, c.2.2))
theorem cA_by {c : Cr} {v : Int32} {k i : Nat} : cA (cBy c v) k i = if k = 3 then v else cA c k i := by
  show pI c.2.2 3 (fun _ => v) k i = _
  by_cases h : k = 3
  · rw [h, pI_eq, if_pos rfl]
  · rw [pI_ne h, if_neg h]
theorem cI_with {c : Cr} {j : Nat} {v : Int32} {k : Nat} : cI (cWith c j v) k = if k = j then v else cI c k := by
  show pI c.2.1 j v k = _
  by_cases h : k = j
  · rw [h, pI_eq, if_pos rfl]
  · rw [pI_ne h, if_neg h]
theorem by_ok {c : Cr} (hc : cOK c) {k : Nat} (h1 : 1 ≤ k) (h2 : k < 10) : cOK (cBy c (nI k)) := by
  obtain ⟨g1, g2, g3⟩ := hc
  refine ⟨g1, fun i hi => ?_, g3⟩
  obtain ⟨a0, a1, a2, a3, a4⟩ := g2 i hi
  rw [cA_by, cA_by, cA_by, cA_by, cA_by]
  exact ⟨a0, a1, a2, ⟨k, h1, h2, rfl⟩, a4⟩
theorem to_ok {c : Cr} (hc : cOK c) {n : Nat} (h : n ≤ cN c) : cOK (cTo c n) := ⟨by have := hc.1; show n ≤ 8; omega, fun i hi => hc.2.1 i (by have : i < n := hi; omega), hc.2.2⟩
theorem m_allBy {z : Ob} {c : Cr} (h : rM z c) {N : Nat} (hN : z.1 4 = nI N) (hN8 : N ≤ 8) (hle : cN c ≤ N) (v : Int32) : ∃ w, f_X7_allBy z v = some w ∧ cz z w ∧ rM w (cBy c v) ∧ w.1 = z.1 := by
  refine lpA (B := b_X7_allBy_2 v) (fun k w => w.1 = z.1 ∧ (∀ j, j ≠ 29 → w.2 j = z.2 j) ∧ ∀ i, i < k → w.2 29 i = v) (fun o => ∃ w, o = some w ∧ cz z w ∧ rM w (cBy c v) ∧ w.1 = z.1) N (by omega) (fun r k w hk hw => ?_) (fun r w hw => ?_) 0 (Nat.zero_le _) z ⟨rfl, fun _ _ => rfl, fun i hi => absurd hi (Nat.not_lt_zero _)⟩
  · obtain ⟨e1, e2, hv⟩ := hw
    have hb : inb (nI k) 8 = true := inb_nI (by omega) (by decide)
    refine Or.inl ⟨sA w 29 (upd (w.2 29) k v), ?_, e1, fun j hj => by rw [sA_n hj]; exact e2 j hj, fun i hi => ?_⟩
    · unfold b_X7_allBy_2
      rw [if_neg (at_not (by rw [e1]; exact hN) hk (by omega)), if_pos hb, cl_nI (by omega), ← nI_1]
      rfl
    · rw [sA_e]
      by_cases q : i = k
      · rw [q]; exact pk_us
      · rw [pk_un q]; exact hv i (by omega)
  · obtain ⟨e1, e2, hv⟩ := hw
    obtain ⟨h1, h2, h3, h4, h5, h6, h7⟩ := h
    refine ⟨w, ?_, ⟨fun k _ _ => by rw [e1], fun k hk => e2 k (by omega)⟩, ⟨by rw [e1]; exact h1, h2, fun i hi => ?_, by rw [e1]; exact h4, by rw [e1]; exact h5, by rw [e1]; exact h6, by rw [e1]; exact h7⟩, e1⟩
    · unfold b_X7_allBy_2
      rw [if_pos (at_end (by rw [e1]; exact hN) (by omega))]
    · obtain ⟨g0, g1, g2, g3, g4⟩ := h3 i hi
      have hi' : i < cN c := hi
      rw [e2 5 (by decide), e2 6 (by decide), e2 7 (by decide), e2 9 (by decide), hv i (by omega), cA_by, cA_by, cA_by, cA_by, cA_by]
      exact ⟨g0, g1, g2, rfl, g4⟩
def s_goN (c : Cr) : Int32 := if s_cnt (s_moved c) (cN c) = 0 ∧ ¬ s_music c = cI c 1 then -1 else s_cnt (s_moved c) (cN c)
theorem m_go {z : Ob} {c : Cr} (h : rM z c) (hc : cOK c) : ∃ w, f_X7_go z = some (s_goN c, w) ∧ cz z w ∧ rM w (s_next c) ∧ w.1 32 = z.1 32 := by
  obtain ⟨h1, h2, h3, h4, h5, h6, h7⟩ := id h
  unfold f_X7_go
  rw [m_music h hc]
  refine lpA (B := b_X7_go_9 0 (s_music c)) (fun k w => w.1 = z.1 ∧ (∀ j, j ≠ 30 → w.2 j = z.2 j) ∧ ∀ i, i < k → w.2 30 i = s_voice c i) (fun o => ∃ w, o = some (s_goN c, w) ∧ cz z w ∧ rM w (s_next c) ∧ w.1 32 = z.1 32) (cN c) (by omega) (fun r k w hk hw => ?_) (fun r w hw => ?_) 0 (Nat.zero_le _) z ⟨rfl, fun _ _ => rfl, fun i hi => absurd hi (Nat.not_lt_zero _)⟩
  · obtain ⟨e1, e2, hv⟩ := hw
    have hb : inb (nI k) 8 = true := inb_nI (by omega) (by decide)
    have hr : rM w c := ⟨by rw [e1]; exact h1, h2, fun i hi => by rw [e2 5 (by decide), e2 6 (by decide), e2 7 (by decide), e2 9 (by decide), e2 29 (by decide)]; exact h3 i hi, by rw [e1]; exact h4, by rw [e1]; exact h5, by rw [e1]; exact h6, by rw [e1]; exact h7⟩
    refine Or.inl ⟨sA w 30 (upd (w.2 30) k (s_voice c k)), ?_, e1, fun j hj => by rw [sA_n hj]; exact e2 j hj, fun i hi => ?_⟩
    · unfold b_X7_go_9
      rw [if_neg (at_not hr.1 hk (by omega)), m_voice hr hc hk]
      show (if inb (nI k) 8 = true then _ else _) = _
      rw [if_pos hb, cl_nI (by omega), ← nI_1]
      rfl
    · rw [sA_e]
      by_cases q : i = k
      · rw [q]; exact pk_us
      · rw [pk_un q]; exact hv i (by omega)
  · obtain ⟨e1, e2, hv⟩ := hw
    unfold b_X7_go_9
    rw [if_pos (at_end (by rw [e1]; exact h1) (by omega))]
    refine lpC (B := b_X7_go_36 (s_music c)) (fun k b u => b = s_cnt (s_moved c) k ∧ u.1 = z.1 ∧ (∀ j, j ≠ 30 → j ≠ 29 → u.2 j = z.2 j) ∧ (∀ i, i < cN c → u.2 30 i = s_voice c i) ∧ (∀ i, i < k → u.2 29 i = s_voice c i) ∧ (∀ i, k ≤ i → u.2 29 i = z.2 29 i)) (fun o => ∃ w, o = some (s_goN c, w) ∧ cz z w ∧ rM w (s_next c) ∧ w.1 32 = z.1 32) (cN c) (by omega) (fun r k b u hk hu => ?_) (fun r b u hu => ?_) 0 (Nat.zero_le _) 0 w ⟨rfl, e1, fun j a b => e2 j a, hv, fun i hi => absurd hi (Nat.not_lt_zero _), fun i _ => by rw [e2 29 (by decide)]⟩
    · obtain ⟨rfl, g1, g2, g3, g4, g5⟩ := hu
      have hb : inb (nI k) 8 = true := inb_nI (by omega) (by decide)
      refine Or.inl ⟨s_cnt (s_moved c) (k + 1), sA u 29 (upd (u.2 29) k (s_voice c k)), ?_, rfl, g1, fun j a b => by rw [sA_n b]; exact g2 j a b, fun i hi => by rw [sA_n (by decide)]; exact g3 i hi, fun i hi => ?_, fun i hi => ?_⟩
      · unfold b_X7_go_36 j_X7_go_65
        rw [if_neg (at_not (by rw [g1]; exact h1) hk (by omega)), if_pos hb, if_pos hb, cl_nI (by omega), g3 k hk, g5 k (Nat.le_refl k), (h3 k hk).2.2.2.1, ← nI_1, s_cnt_s]
        unfold s_moved
        by_cases a : s_voice c k = cA c 3 k
        · rw [if_pos a]
          simp only [bnd, hb, if_true]
          rw [decide_eq_false (by rw [a]; exact fun q => q rfl)]
          rfl
        · rw [if_neg a]
          simp only [bnd, hb, if_true]
          rw [decide_eq_true (show ¬ cA c 3 k = s_voice c k from fun q => a q.symm)]
          rfl
      · rw [sA_e]
        by_cases q : i = k
        · rw [q]; exact pk_us
        · rw [pk_un q]; exact g4 i (by omega)
      · rw [sA_e, pk_un (by omega)]
        exact g5 i (by omega)
    · obtain ⟨rfl, g1, g2, g3, g4, g5⟩ := hu
      refine ⟨sI u 31 (s_music c), ?_, ?_, ?_, ?_⟩
      · unfold b_X7_go_36 j_X7_go_101 j_X7_go_102 s_goN
        rw [if_pos (at_end (by rw [g1]; exact h1) (by omega)), g1, h5]
        simp only [bnd]
        by_cases a : s_cnt (s_moved c) (cN c) = 0 <;> by_cases b : s_music c = cI c 1 <;> simp [a, b]
      · exact (show cz z u from ⟨fun k _ _ => by rw [g1], fun k hk => g2 k (by omega) (by omega)⟩).sI (by decide)
      · refine ⟨by rw [sI_n (by decide), g1]; exact h1, h2, fun i hi => ?_, ?_, ?_, ?_, fun i hi => ?_⟩
        · rw [sI_2, g2 5 (by decide) (by decide), g2 6 (by decide) (by decide), g2 7 (by decide) (by decide), g2 9 (by decide) (by decide), g4 i hi, cA_next, cA_next, cA_next, cA_next, cA_next]
          obtain ⟨q0, q1, q2, q3, q4⟩ := h3 i hi
          exact ⟨q0, q1, q2, rfl, q4⟩
        · rw [sI_n (by decide), g1, cI_next]; exact h4
        · rw [sI_e, cI_next]; rfl
        · rw [sI_n (by decide), g1, cI_next]; exact h6
        · rw [sI_n (by decide), g1]; exact h7 i hi
      · rw [sI_n (by decide), g1]
theorem s_cnt_n (f : Nat → Bool) : ∀ {n : Nat}, n < 100 → ∃ k, k ≤ n ∧ s_cnt f n = nI k ∧ (k = 0 → ∀ i, i < n → f i = false)
  | 0, _ => ⟨0, Nat.le_refl 0, nI_0.symm, fun _ i hi => absurd hi (Nat.not_lt_zero _)⟩
  | n + 1, h => by
    obtain ⟨k, h1, h2, h3⟩ := s_cnt_n f (n := n) (by omega)
    rw [s_cnt_s, h2]
    cases hf : f n with
    | true => exact ⟨k + 1, by omega, nI_1 k, fun q => by omega⟩
    | false =>
      refine ⟨k, by omega, Int32.add_zero _, fun q i hi => ?_⟩
      by_cases e : i = n
      · rw [e]; exact hf
      · exact h3 q i (by omega)
theorem s_cnt_0 {f : Nat → Bool} {n : Nat} (hn : n < 100) (h : s_cnt f n = 0) : ∀ i, i < n → f i = false := by
  obtain ⟨k, h1, h2, h3⟩ := s_cnt_n f hn
  rw [h2, ← nI_0, nI_eq (by omega) (by decide)] at h
  exact h3 h
theorem goN_0 {c : Cr} (hc : cOK c) : s_goN c = 0 ↔ s_still c = true := by
  have hn := hc.1
  unfold s_goN s_still
  by_cases a : s_cnt (s_moved c) (cN c) = 0 <;> by_cases b : s_music c = cI c 1 <;> simp [a, b]
theorem still_rM {w : Ob} {c : Cr} (hc : cOK c) (hs : s_still c = true) (h : rM w (s_next c)) : rM w c := by
  have hn := hc.1
  unfold s_still at hs
  rw [Bool.and_eq_true, decide_eq_true_eq, decide_eq_true_eq] at hs
  have hv := s_cnt_0 (by omega) hs.1
  obtain ⟨h1, h2, h3, h4, h5, h6, h7⟩ := h
  refine ⟨h1, h2, fun i hi => ?_, ?_, ?_, ?_, h7⟩
  · have h := h3 i hi
    rw [cA_next, cA_next, cA_next, cA_next, cA_next] at h
    have e := hv i hi
    unfold s_moved at e
    have e2 : cA c 3 i = s_voice c i := by simpa using e
    rw [e2]
    exact h
  · rw [cI_next] at h4; exact h4
  · rw [cI_next] at h5; rw [← hs.2]; exact h5
  · rw [cI_next] at h6; exact h6
/-- where a goRest() ends -/
def endsM (z : Ob) (c : Cr) (o : Option (Int32 × Ob)) : Prop := match s_rest c with
  | some (k, c') => ∃ w, o = some (nI k, w) ∧ cz z w ∧ rM w c'
  | none => ∃ w, o = some (-9, w) ∧ cz z w
theorem m_goRest {z : Ob} {c : Cr} (h : rM z c) (hc : cOK c) : endsM z c (f_X7_goRest z) := by
  refine lpA (B := b_X7_goRest_2) (fun k w => ∃ d, cz z w ∧ rM w d ∧ cOK d ∧ s_settle (41 - k) k d = s_rest c) (endsM z c) 41 (by decide) (fun r k w hk hw => ?_) (fun r w hw => ?_) 0 (Nat.zero_le _) z ⟨c, cz.rfl', h, hc, rfl⟩
  · obtain ⟨d, he, hr, hd, hs⟩ := hw
    obtain ⟨w2, e2, c2, r2, -⟩ := m_go hr hd
    have e41 : 41 - k = (41 - (k + 1)) + 1 := by omega
    rw [e41] at hs
    unfold s_settle at hs
    have step : b_X7_goRest_2 r (nI k) w = if s_goN d = 0 then some (nI k, w2) else r (nI (k + 1)) w2 := by
      unfold b_X7_goRest_2 bd2
      rw [if_neg (lt_41 k hk), e2, ← nI_1]
      rfl
    by_cases q : s_still d = true
    · refine Or.inr ?_
      rw [step, if_pos ((goN_0 hd).mpr q)]
      rw [if_pos q] at hs
      unfold endsM
      rw [← hs]
      exact ⟨w2, rfl, he.trans c2, still_rM hd q r2⟩
    · refine Or.inl ⟨w2, by rw [step, if_neg (fun x => q ((goN_0 hd).mp x))], s_next d, he.trans c2, r2, next_ok hd, ?_⟩
      rw [if_neg q] at hs
      exact hs
  · obtain ⟨d, he, hr, hd, hs⟩ := hw
    unfold endsM
    rw [← hs]
    exact ⟨w, by unfold b_X7_goRest_2; rw [if_pos (by decide)], he⟩
