/-! PURE 5: what else a Java Crowd does -/
def st5 (w : Ob) (k : Nat) (v : Nat → Int32) : Ob := sA (sA (sA (sA (sA w 0 (upd (w.2 0) k (v 0))) 1 (upd (w.2 1) k (v 1))) 2 (upd (w.2 2) k (v 2))) 3 (upd (w.2 3) k (v 3))) 4 (upd (w.2 4) k (v 4))
theorem st5_lt {w : Ob} {k : Nat} {v : Nat → Int32} {j : Nat} (hj : j < 5) (i : Nat) : (st5 w k v).2 j i = if i = k then v j else w.2 j i := by
  rcases (show j = 0 ∨ j = 1 ∨ j = 2 ∨ j = 3 ∨ j = 4 by omega) with rfl | rfl | rfl | rfl | rfl <;> rfl
theorem st5_1 {w : Ob} {k : Nat} {v : Nat → Int32} : (st5 w k v).1 = w.1 := rfl
/-- RINGS and how loud MUSIC is -/
def rR (z : Ob) (g : Cr) : Prop := z.1 6 = nI (cN g) ∧ cN g ≤ 8 ∧ (∀ k, k < 5 → ∀ i, i < cN g → z.2 k i = cA g k i) ∧ z.1 8 = cI g 1
theorem x_copyRings {z0 z1 : Ob} {g : Cr} (h : rR z1 g) : ∃ w, f_X1_copyRings z0 z1 = some w ∧ rR w g ∧ w.1 11 = 0 ∧ (∀ k, k ≠ 6 → k ≠ 8 → k ≠ 11 → w.1 k = z0.1 k) := by
  obtain ⟨h1, h2, h3, h4⟩ := h
  refine lpA (B := b_X1_copyRings_10 z1) (fun k w => w.1 = (sI z0 6 (z1.1 6)).1 ∧ ∀ j, j < 5 → ∀ i, i < k → w.2 j i = z1.2 j i) (fun o => ∃ w, o = some w ∧ rR w g ∧ w.1 11 = 0 ∧ (∀ k, k ≠ 6 → k ≠ 8 → k ≠ 11 → w.1 k = z0.1 k)) (cN g) (by omega) (fun r k w hk hw => ?_) (fun r w hw => ?_) 0 (Nat.zero_le _) (sI z0 6 (z1.1 6)) ⟨rfl, fun _ _ i hi => absurd hi (Nat.not_lt_zero _)⟩
  · obtain ⟨e1, e2⟩ := hw
    have hb : inb (nI k) 8 = true := inb_nI (by omega) (by decide)
    have e6 : w.1 6 = nI (cN g) := by rw [e1, sI_e]; exact h1
    refine Or.inl ⟨st5 w k (fun j => z1.2 j k), ?_, e1, fun j hj i hi => ?_⟩
    · unfold b_X1_copyRings_10
      rw [if_neg (at_not e6 hk (by omega)), ← nI_1]
      simp only [hb, if_true, bnd, cl_nI (show k < 2 ^ 31 by omega)]
      rfl
    · rw [st5_lt hj]
      by_cases q : i = k
      · rw [if_pos q, q]
      · rw [if_neg q]; exact e2 j hj i (by omega)
  · obtain ⟨e1, e2⟩ := hw
    have e6 : w.1 6 = nI (cN g) := by rw [e1, sI_e]; exact h1
    refine ⟨sI (sI w 8 (z1.1 8)) 11 0, ?_, ⟨?_, h2, fun k hk i hi => ?_, ?_⟩, sI_e, fun k a b d => ?_⟩
    · unfold b_X1_copyRings_10
      rw [if_pos (at_end e6 (by omega))]
      rfl
    · rw [sI_n (by decide), sI_n (by decide)]; exact e6
    · rw [sI_2, sI_2, e2 k hk i hi]; exact h3 k hk i hi
    · rw [sI_n (by decide), sI_e]; exact h4
    · rw [sI_n d, sI_n b, e1, sI_n a]
theorem rX.rR {z : Ob} {c : Cr} (h : rX z c) : rR z c := ⟨h.1, h.2.1, h.2.2.1, h.2.2.2.2.1⟩
theorem bit_0 : ∀ i, i < 8 → ¬ (((0 : Int32) >>> (nI i &&& 31)) &&& 1) = 1 := by decide +kernel
/-- rings, music as told; eats, follows as they are in it; all speak -/
theorem rX_of {w : Ob} {c : Cr} (h : rR w c) (h7 : w.1 7 = cI c 0) (h10 : w.1 10 = cI c 2) (h11 : w.1 11 = 0) (hs : ∀ i, cS c i = true) : rX w c := by
  refine ⟨h.1, h.2.1, h.2.2.1, h7, h.2.2.2, h10, fun i hi => ?_⟩
  have := h.2.1
  rw [h11, hs i]
  exact (decide_eq_true (bit_0 i (by omega))).symm
theorem x_copyFrom {z0 z1 : Ob} {c : Cr} (h : rR z1 c) (h7 : z1.1 7 = cI c 0) (h10 : z1.1 10 = cI c 2) (hb : cI c 2 = 0 ∨ cI c 2 = 1) (hs : ∀ i, cS c i = true) : ∃ w, f_X1_copyFrom z0 z1 = some w ∧ rX w c ∧ w.1 11 = 0 := by
  obtain ⟨w, e, hr, h11, hk⟩ := x_copyRings (z0 := z0) h
  unfold f_X1_copyFrom
  rw [e]
  refine ⟨sI (sI w 7 (z1.1 7)) 10 (z1.1 10), ?_, rX_of ⟨?_, hr.2.1, hr.2.2.1, ?_⟩ ?_ ?_ ?_ hs, ?_⟩
  · show (if isb (z1.1 10) = true then _ else _) = _
    rw [if_pos (by rw [h10]; rcases hb with q | q <;> rw [q] <;> decide)]
    rfl
  · rw [sI_n (by decide), sI_n (by decide)]; exact hr.1
  · rw [sI_n (by decide), sI_n (by decide)]; exact hr.2.2.2
  · rw [sI_n (by decide), sI_e]; exact h7
  · rw [sI_e]; exact h10
  · rw [sI_n (by decide), sI_n (by decide)]; exact h11
  · rw [sI_n (by decide), sI_n (by decide)]; exact h11
theorem x_speakAll {z : Ob} {c : Cr} (h : rX z c) (v : Int32) : ∃ w, f_X1_speakAll z v = some (s_cnt (fun i => decide (¬ cA c 3 i = v)) (cN c), w) ∧ rX w (cBy c v) ∧ w.1 = z.1 := by
  obtain ⟨h1, h2, h3, h4, h5, h6, h7⟩ := id h
  refine lpC (B := b_X1_speakAll_4 v) (fun k b w => b = s_cnt (fun i => decide (¬ cA c 3 i = v)) k ∧ w.1 = z.1 ∧ (∀ j, j ≠ 3 → w.2 j = z.2 j) ∧ (∀ i, i < k → w.2 3 i = v) ∧ (∀ i, k ≤ i → w.2 3 i = z.2 3 i)) (fun o => ∃ w, o = some (s_cnt (fun i => decide (¬ cA c 3 i = v)) (cN c), w) ∧ rX w (cBy c v) ∧ w.1 = z.1) (cN c) (by omega) (fun r k b w hk hw => ?_) (fun r b w hw => ?_) 0 (Nat.zero_le _) 0 z ⟨rfl, rfl, fun _ _ => rfl, fun i hi => absurd hi (Nat.not_lt_zero _), fun _ _ => rfl⟩
  · obtain ⟨rfl, e1, e2, e3, e4⟩ := hw
    have hb : inb (nI k) 8 = true := inb_nI (by omega) (by decide)
    refine Or.inl ⟨s_cnt (fun i => decide (¬ cA c 3 i = v)) (k + 1), sA w 3 (upd (w.2 3) k v), ?_, rfl, e1, fun j hj => by rw [sA_n hj]; exact e2 j hj, fun i hi => ?_, fun i hi => ?_⟩
    · unfold b_X1_speakAll_4 j_X1_speakAll_25
      rw [if_neg (at_not (by rw [e1]; exact h1) hk (by omega)), if_pos hb, cl_nI (by omega), e4 k (Nat.le_refl k), h3 3 (by omega) k hk, ← nI_1, s_cnt_s]
      simp only [hb, if_true, bnd]
      by_cases a : cA c 3 k = v
      · rw [if_pos a, decide_eq_false (show ¬ ¬ cA c 3 k = v from fun q => q a)]
        show _ = r (s_cnt (fun i => decide (¬ cA c 3 i = v)) k + 0) _ _
        rw [Int32.add_zero]
      · rw [if_neg a, decide_eq_true (show ¬ cA c 3 k = v from a)]
        rfl
    · rw [sA_e]
      by_cases q : i = k
      · rw [q]; exact pk_us
      · rw [pk_un q]; exact e3 i (by omega)
    · rw [sA_e, pk_un (by omega)]; exact e4 i (by omega)
  · obtain ⟨rfl, e1, e2, e3, e4⟩ := hw
    refine ⟨w, ?_, ⟨by rw [e1]; exact h1, h2, fun k hk i hi => ?_, by rw [e1]; exact h4, by rw [e1]; exact h5, by rw [e1]; exact h6, by rw [e1]; exact h7⟩, e1⟩
    · unfold b_X1_speakAll_4
      rw [if_pos (at_end (by rw [e1]; exact h1) (by omega))]
    · rw [cA_by]
      by_cases q : k = 3
      · rw [q, if_pos rfl]; exact e3 i hi
      · rw [if_neg q, e2 k q]; exact h3 k hk i hi
theorem x_people {z : Ob} {c : Cr} (h : rX z c) : f_X1_peopleAll z = some (s_sum (cA c 2) (cN c)) := by
  have hn := h.2.1
  refine lpB (B := b_X1_peopleAll_4 z) (fun k a => a = s_sum (cA c 2) k) (fun o => o = some (s_sum (cA c 2) (cN c))) (cN c) (by omega) (fun r k a hk ha => Or.inl ⟨s_sum (cA c 2) (k + 1), ?_, rfl⟩) (fun r a ha => ?_) 0 (Nat.zero_le _) 0 rfl
  · subst ha
    have hb : inb (nI k) 8 = true := inb_nI (by omega) (by decide)
    unfold b_X1_peopleAll_4
    rw [if_neg (at_not h.1 hk (by omega)), if_pos hb, cl_nI (by omega), h.2.2.1 2 (by omega) k hk, ← nI_1]
    rfl
  · subst ha
    unfold b_X1_peopleAll_4
    rw [if_pos (at_end h.1 (by omega))]
def anyB (f : Nat → Bool) : Nat → Bool
  | 0 => false
  | n + 1 => anyB f n || f n
theorem anyB_iff (f : Nat → Bool) : ∀ {n : Nat}, anyB f n = true ↔ ∃ i, i < n ∧ f i = true
  | 0 => by simp [anyB]
  | n + 1 => by
    unfold anyB
    rw [Bool.or_eq_true, anyB_iff f]
    constructor
    · rintro (⟨i, h1, h2⟩ | h)
      · exact ⟨i, by omega, h2⟩
      · exact ⟨n, by omega, h⟩
    · rintro ⟨i, h1, h2⟩
      by_cases e : i = n
      · exact Or.inr (e ▸ h2)
      · exact Or.inl ⟨i, by omega, h2⟩
theorem anyB_not {f : Nat → Bool} {n : Nat} : anyB f n = false ↔ ∀ i, i < n → f i = false := by
  constructor
  · intro h i hi
    cases hf : f i with
    | false => rfl
    | true => rw [(anyB_iff f).mpr ⟨i, hi, hf⟩] at h; cases h
  · intro h
    cases ha : anyB f n with
    | false => rfl
    | true =>
      obtain ⟨i, h1, h2⟩ := (anyB_iff f).mp ha
      rw [h i h1] at h2
      cases h2
def s_taken (c : Cr) (x : Int32) : Bool := anyB (fun i => decide (cA c 1 i = x)) (cN c)
theorem x_ringIn {z : Ob} {c : Cr} (h : rR z c) (x : Int32) : ∃ v, f_X1_ringIn z x = some v ∧ (v = -9 ↔ s_taken c x = false) := by
  have hn := h.2.1
  refine lp1u (B := b_X1_ringIn_2 z x) (fun k => ∀ i, i < k → ¬ cA c 1 i = x) (fun o => ∃ v, o = some v ∧ (v = -9 ↔ s_taken c x = false)) (cN c) (by omega) (fun r k hk hI => ?_) (fun r hI => ?_) 0 (Nat.zero_le _) (fun i hi => absurd hi (Nat.not_lt_zero _))
  · have hb : inb (nI k) 8 = true := inb_nI (by omega) (by decide)
    have step : b_X1_ringIn_2 z x r (nI k) = if cA c 1 k = x then some (nI k) else r (nI (k + 1)) := by
      unfold b_X1_ringIn_2
      rw [if_neg (at_not h.1 hk (by omega)), if_pos hb, cl_nI (by omega), h.2.2.1 1 (by omega) k hk, ← nI_1]
      rfl
    by_cases a : cA c 1 k = x
    · refine Or.inr ⟨nI k, by rw [step, if_pos a], ?_⟩
      have n9 := nI_n9 k (by omega)
      have ht : s_taken c x = true := (anyB_iff _).mpr ⟨k, hk, decide_eq_true a⟩
      rw [ht]
      exact ⟨fun q => absurd q n9, fun q => by cases q⟩
    · refine Or.inl ⟨by rw [step, if_neg a], fun i hi => ?_⟩
      by_cases q : i = k
      · rw [q]; exact a
      · exact hI i (by omega)
  · refine ⟨-9, by unfold b_X1_ringIn_2; rw [if_pos (at_end h.1 (by omega))], fun _ => ?_, fun _ => rfl⟩
    exact anyB_not.mpr fun i hi => decide_eq_false (hI i hi)
theorem pigeon : ∀ (n : Nat) (f : Nat → Nat), ∃ x, x ≤ n ∧ ∀ i, i < n → f i ≠ x
  | 0, _ => ⟨0, Nat.le_refl 0, fun i hi => absurd hi (Nat.not_lt_zero _)⟩
  | n + 1, f => by
    obtain ⟨x, hx, h⟩ := pigeon n (fun i => if f i < f n then f i else f i - 1)
    by_cases q : x < f n
    · refine ⟨x, by omega, fun i hi e => ?_⟩
      by_cases e2 : i = n
      · rw [e2] at e; omega
      · exact h i (by omega) (by show (if f i < f n then f i else f i - 1) = x; rw [if_pos (by omega)]; exact e)
    · refine ⟨x + 1, by omega, fun i hi e => ?_⟩
      by_cases e2 : i = n
      · rw [e2] at e; omega
      · exact h i (by omega) (by show (if f i < f n then f i else f i - 1) = x; rw [if_neg (by omega)]; omega)
/-- the first cell without a ring -/
theorem free_ex {c : Cr} (hn : cN c ≤ 8) : ∃ x, x < 9 ∧ s_taken c (nI x) = false ∧ ∀ y, y < x → s_taken c (nI y) = true := by
  obtain ⟨x, hx, h⟩ := pigeon (cN c) (fun i => (cA c 1 i).toNatClampNeg)
  have hf : s_taken c (nI x) = false := anyB_not.mpr fun i hi => decide_eq_false fun q => h i hi (by show (cA c 1 i).toNatClampNeg = x; rw [q, cl_nI (by omega)])
  obtain ⟨y, hy, hl⟩ := pk_least (fun y => s_taken c (nI y) = false) ⟨x, hf⟩
  refine ⟨y, ?_, hy, fun u hu => ?_⟩
  · by_cases q : y ≤ x
    · omega
    · exact absurd hf (hl x (by omega))
  · cases hq : s_taken c (nI u) with
    | true => rfl
    | false => exact absurd hq (hl u hu)
theorem x_firstFree {z : Ob} {c : Cr} (h : rR z c) {x : Nat} (hx : x < 9) (h0 : s_taken c (nI x) = false) (hl : ∀ y, y < x → s_taken c (nI y) = true) : f_X1_firstFree z = some (nI x) := by
  refine lp1u (B := b_X1_firstFree_2 z) (fun _ => True) (fun o => o = some (nI x)) x (by omega) (fun r k hk _ => ?_) (fun r _ => ?_) 0 (Nat.zero_le _) trivial
  · obtain ⟨v, e, hv⟩ := x_ringIn h (nI k)
    have nv : ¬ v = -9 := fun q => by rw [hl k hk] at hv; cases hv.mp q
    refine Or.inl ⟨?_, trivial⟩
    unfold b_X1_firstFree_2
    rw [if_neg (show ¬ (100 : Int32) ≤ nI k from at_not (n := 100) rfl (by omega) (by decide)), e, ← nI_1]
    show (if v = (-9 : Int32) then _ else _) = _
    rw [if_neg nv]
    rfl
  · obtain ⟨v, e, hv⟩ := x_ringIn h (nI x)
    unfold b_X1_firstFree_2
    rw [if_neg (show ¬ (100 : Int32) ≤ nI x from at_not (n := 100) rfl (by omega) (by decide)), e]
    show (if v = (-9 : Int32) then _ else _) = _
    rw [if_pos (hv.mpr h0)]
/-- one more; one less -/
def cAdd (c : Cr) (v : Nat → Int32) : Cr := ((cN c + 1, c.1.2), (c.2.1, fun k i => if i = cN c then v k else cA c k i))
def cDrop (c : Cr) (p : Nat) : Cr := ((cN c - 1, c.1.2), (c.2.1, fun k i => if i < p then cA c k i else cA c k (i + 1)))
def cPut (c : Cr) (p : Nat) (v : Int32) : Cr := (c.1, (c.2.1, fun k i => if k = 2 ∧ i = p then v else cA c k i))
theorem x_add {z : Ob} {c : Cr} (h : rR z c) (h8 : cN c < 8) (v : Nat → Int32) : ∃ w, f_X1_add z (v 0) (v 1) (v 2) (v 3) (v 4) = some w ∧ rR w (cAdd c v) ∧ (∀ k, k ≠ 6 → w.1 k = z.1 k) := by
  obtain ⟨h1, h2, h3, h4⟩ := h
  have hb : inb (nI (cN c)) 8 = true := inb_nI h8 (by decide)
  refine ⟨sI (st5 z (cN c) v) 6 (nI (cN c + 1)), ?_, ⟨sI_e, h8, fun k hk i hi => ?_, ?_⟩, fun k hk => ?_⟩
  · unfold f_X1_add
    rw [if_neg (by rw [h1]; exact at_not (n := 8) rfl h8 (by decide))]
    simp only [bnd, sA_1, h1, hb, if_true, cl_nI (show cN c < 2 ^ 31 by omega)]
    rw [nI_1]
    rfl
  · rw [sI_2, st5_lt hk]
    show _ = if i = cN c then v k else cA c k i
    by_cases q : i = cN c
    · rw [if_pos q, if_pos q]
    · have hi' : i < cN c + 1 := hi
      rw [if_neg q, if_neg q]; exact h3 k hk i (by omega)
  · rw [sI_n (by decide)]; exact h4
  · rw [sI_n hk]; rfl
theorem x_remove {z : Ob} {c : Cr} (h : rR z c) {p : Nat} (hp : p < cN c) : ∃ w, f_X1_remove z (nI p) = some w ∧ rR w (cDrop c p) ∧ (∀ k, k ≠ 6 → w.1 k = z.1 k) := by
  obtain ⟨h1, h2, h3, h4⟩ := h
  have hh : f_X1_has z (nI p) = some 1 := by
    unfold f_X1_has
    rw [if_neg (nI_pos (by omega)), if_neg (at_not h1 hp (by omega))]
  have hm1 : nI (cN c) - 1 = nI (cN c - 1) := by
    obtain ⟨q, hq⟩ : ∃ q, cN c = q + 1 := ⟨cN c - 1, by omega⟩
    rw [hq, nI_pred]
    rfl
  have key : ∃ w, fuel2 (b_X1_remove_10 (nI p)) FU (nI p) z = some w ∧ rR w (cDrop c p) ∧ (∀ k, k ≠ 6 → w.1 k = z.1 k) := by
    refine lpA (B := b_X1_remove_10 (nI p)) (fun k w => p ≤ k ∧ w.1 = z.1 ∧ ∀ j, j < 5 → ∀ i, w.2 j i = if p ≤ i ∧ i < k then z.2 j (i + 1) else z.2 j i) (fun o => ∃ w, o = some w ∧ rR w (cDrop c p) ∧ (∀ k, k ≠ 6 → w.1 k = z.1 k)) (cN c - 1) (by omega) (fun r k w hk hw => ?_) (fun r w hw => ?_) p (by omega) z ⟨Nat.le_refl p, rfl, fun j hj i => by rw [if_neg (by omega)]⟩
    · obtain ⟨hpk, e1, e2⟩ := hw
      · have hb : inb (nI k) 8 = true := inb_nI (by omega) (by decide)
        have hb1 : inb (nI (k + 1)) 8 = true := inb_nI (by omega) (by decide)
        refine Or.inl ⟨st5 w k (fun j => w.2 j (k + 1)), ?_, by omega, e1, fun j hj i => ?_⟩
        · unfold b_X1_remove_10
          rw [e1, h1, hm1, if_neg (nI_ge hk (by omega))]
          simp only [nI_1, hb, hb1, if_true, bnd, cl_nI (show k < 2 ^ 31 by omega), cl_nI (show k + 1 < 2 ^ 31 by omega)]
          rfl
        · rw [st5_lt hj]
          by_cases q : i = k
          · rw [if_pos q, if_pos (by omega), e2 j hj, if_neg (by omega), q]
          · rw [if_neg q, e2 j hj]
            by_cases q2 : p ≤ i ∧ i < k
            · rw [if_pos q2, if_pos (by omega)]
            · rw [if_neg q2, if_neg (by omega)]
    · obtain ⟨-, e1, e2⟩ := hw
      refine ⟨sI w 6 (nI (cN c - 1)), ?_, ⟨sI_e, by show cN c - 1 ≤ 8; omega, fun k hk i hi => ?_, ?_⟩, fun k hk => ?_⟩
      · unfold b_X1_remove_10
        rw [e1, h1, hm1, if_pos (nI_le (Nat.le_refl _) (by omega))]
        rfl
      · have hi' : i < cN c - 1 := hi
        rw [sI_2, e2 k hk]
        show _ = if i < p then cA c k i else cA c k (i + 1)
        by_cases q : i < p
        · rw [if_neg (by omega), if_pos q]; exact h3 k hk i (by omega)
        · rw [if_pos (by omega), if_neg q]; exact h3 k hk (i + 1) (by omega)
      · rw [sI_n (by decide), e1]; exact h4
      · rw [sI_n hk, e1]
  unfold f_X1_remove
  rw [hh]
  exact key
theorem cA_with {c : Cr} {j : Nat} {v : Int32} {k i : Nat} : cA (cWith c j v) k i = cA c k i := rfl
theorem x_has {z : Ob} {c : Cr} (h : rR z c) (p : Int32) : f_X1_has z p = some (b32 (decide (0 ≤ p.toInt ∧ p.toInt < (cN c : Int)))) := by
  have hn := h.2.1
  unfold f_X1_has
  rw [h.1]
  by_cases a : p < 0
  · rw [if_pos a, decide_eq_false (by rw [Int32.lt_iff_toInt_lt] at a; have e : (0 : Int32).toInt = 0 := rfl; omega)]
    rfl
  · have ha : 0 ≤ p.toInt := by rw [Int32.lt_iff_toInt_lt] at a; have e : (0 : Int32).toInt = 0 := rfl; omega
    rw [if_neg a]
    by_cases b : nI (cN c) ≤ p
    · rw [if_pos b, decide_eq_false (by rw [Int32.le_iff_toInt_le, nI_toInt (by omega)] at b; omega)]
      rfl
    · rw [if_neg b, decide_eq_true (by rw [Int32.le_iff_toInt_le, nI_toInt (by omega)] at b; omega)]
      rfl
/-- an Int32 in a range of numbers is one of them -/
theorem i_nat {p : Int32} {n : Nat} (h0 : 0 ≤ p.toInt) (h1 : p.toInt < (n : Int)) (hn : n < 2 ^ 31) : ∃ k, k < n ∧ p = nI k := by
  obtain ⟨k, hk, e⟩ := vp_in_of (x := p) (n := n) (vp_in_iff.mpr ⟨h0, h1⟩) hn
  exact ⟨k, hk, e⟩
