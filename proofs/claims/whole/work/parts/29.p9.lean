/-! PURE 9: the least coin of stuffs, how many came -/
/-- number, place, state; two numbers ahead -/
theorem lpE {β γ α ρ : Type} {B : (β → γ → Int32 → α → Option ρ) → β → γ → Int32 → α → Option ρ} (I : Nat → β → γ → α → Prop) (O : Option ρ → Prop) (N : Nat) (hN : N < 20000)
    (hs : ∀ (r : β → γ → Int32 → α → Option ρ) (k : Nat) (b : β) (g : γ) (a : α), k < N → I k b g a → (∃ b' g' a', B r b g (nI k) a = r b' g' (nI (k + 1)) a' ∧ I (k + 1) b' g' a') ∨ O (B r b g (nI k) a))
    (he : ∀ (r : β → γ → Int32 → α → Option ρ) (b : β) (g : γ) (a : α), I N b g a → O (B r b g (nI N) a)) (k0 : Nat) (hk : k0 ≤ N) (b0 : β) (g0 : γ) (a0 : α) (h0 : I k0 b0 g0 a0) : O (fuel4 B FU b0 g0 (nI k0) a0) := by
  have key : ∀ (d k n : Nat) (b : β) (g : γ) (a : α), k + d = N → d < n → I k b g a → O (fuel4 B n b g (nI k) a) := by
    intro d
    induction d with
    | zero =>
      intro k n b g a h1 h2 h3
      obtain ⟨n, rfl⟩ : ∃ q, n = q + 1 := ⟨n - 1, by omega⟩
      obtain rfl : k = N := by omega
      exact he (fuel4 B n) b g a h3
    | succ d ih =>
      intro k n b g a h1 h2 h3
      obtain ⟨n, rfl⟩ : ∃ q, n = q + 1 := ⟨n - 1, by omega⟩
      rcases hs (fuel4 B n) k b g a (by omega) h3 with ⟨b', g', a', e, h⟩ | h
      · show O (B (fuel4 B n) b g (nI k) a)
        rw [e]
        exact ih (k + 1) n b' g' a' (by omega) (by omega) h
      · exact h
  exact key (N - k0) k0 FU b0 g0 a0 (by omega) (by unfold FU; omega) h0
def bitI (s : Int32) (i : Nat) : Bool := decide (((s >>> (nI i &&& 31)) &&& 1) = 1)
def s_pick (s : Int32) (g : Nat → Int32) (n : Nat) : Int32 := s_sum (fun i => if bitI s i = true then g i else 0) n
theorem x_cost {z3 : Ob} {n : Nat} (hn : n ≤ 5) (h : z3.1 2 = nI n) (s : Int32) : f_X5_costOf z3 s = some (s_pick s (z3.2 0) n) := by
  have key : f_X5_sumOf_0 z3 s = some (s_pick s (z3.2 0) n) := by
    refine lpB (B := b_X5_sumOf_0_5 z3 s) (fun i a => a = s_sum (fun i => if bitI s i = true then z3.2 0 i else 0) i) (fun o => o = some (s_pick s (z3.2 0) n)) n (by omega) (fun r i a hi ha => Or.inl ⟨s_sum (fun i => if bitI s i = true then z3.2 0 i else 0) (i + 1), ?_, rfl⟩) (fun r a ha => ?_) 0 (Nat.zero_le _) 0 rfl
    · subst ha
      have hb : inb (nI i) 5 = true := inb_nI (by omega) (by decide)
      unfold b_X5_sumOf_0_5 j_X5_sumOf_0_33
      rw [if_neg (at_not h hi (by omega)), if_pos hb, cl_nI (by omega)]
      simp only [bn]
      rw [← nI_1]
      show _ = r (_ + (if bitI s i = true then z3.2 0 i else 0)) _
      unfold bitI
      by_cases q : ((s >>> (nI i &&& 31)) &&& 1) = 1
      · rw [if_pos q, decide_eq_true q]; rfl
      · rw [if_neg q, decide_eq_false q]; rfl
    · subst ha
      unfold b_X5_sumOf_0_5
      rw [if_pos (at_end h (by omega))]
      rfl
  unfold f_X5_costOf
  rw [key]
  rfl
theorem x_eaten {z3 : Ob} {n : Nat} (hn : n ≤ 5) (h : z3.1 2 = nI n) (s : Int32) : f_X5_eatenBy z3 s = some (s_pick s (z3.2 1) n) := by
  have key : f_X5_sumOf_1 z3 s = some (s_pick s (z3.2 1) n) := by
    refine lpB (B := b_X5_sumOf_1_5 z3 s) (fun i a => a = s_sum (fun i => if bitI s i = true then z3.2 1 i else 0) i) (fun o => o = some (s_pick s (z3.2 1) n)) n (by omega) (fun r i a hi ha => Or.inl ⟨s_sum (fun i => if bitI s i = true then z3.2 1 i else 0) (i + 1), ?_, rfl⟩) (fun r a ha => ?_) 0 (Nat.zero_le _) 0 rfl
    · subst ha
      have hb : inb (nI i) 5 = true := inb_nI (by omega) (by decide)
      unfold b_X5_sumOf_1_5 j_X5_sumOf_1_33
      rw [if_neg (at_not h hi (by omega)), if_pos hb, cl_nI (by omega)]
      simp only [bn]
      rw [← nI_1]
      show _ = r (_ + (if bitI s i = true then z3.2 1 i else 0)) _
      unfold bitI
      by_cases q : ((s >>> (nI i &&& 31)) &&& 1) = 1
      · rw [if_pos q, decide_eq_true q]; rfl
      · rw [if_neg q, decide_eq_false q]; rfl
    · subst ha
      unfold b_X5_sumOf_1_5
      rw [if_pos (at_end h (by omega))]
      rfl
  unfold f_X5_eatenBy
  rw [key]
  rfl
theorem bd_pick {s : Int32} {g : Nat → Int32} {n : Nat} (h : ∀ i, i < n → ∃ k, k < 10 ∧ g i = nI k) : ∃ j, j ≤ n * 9 ∧ s_pick s g n = nI j := by
  refine bd_sum (B := 9) fun i hi => ?_
  obtain ⟨k, hk, e⟩ := h i hi
  show ∃ j, j ≤ 9 ∧ (if bitI s i = true then g i else 0) = nI j
  split
  · exact ⟨k, by omega, e⟩
  · exact ⟨0, by omega, rfl⟩
theorem pick_c {s : Int32} {f g : Nat → Int32} {n : Nat} (h : ∀ i, i < n → f i = g i) : s_pick s f n = s_pick s g n :=
  s_sum_c fun i hi => by show (if bitI s i = true then f i else 0) = (if bitI s i = true then g i else 0); rw [h i hi]
def min9 (x : Int32) : Int32 := if x ≤ 9 then x else 9
theorem min9_ok : ∀ m, m < 60 → (∃ j, j < 10 ∧ min9 (nI m) = nI j) ∧ (if nI m < 9 then nI m else (9 : Int32)) = min9 (nI m) := by
  intro m hm
  have h : ∀ m, m < 60 → min9 (nI m) = nI (min m 9) ∧ (if nI m < 9 then nI m else (9 : Int32)) = min9 (nI m) := by decide +kernel
  exact ⟨⟨min m 9, by omega, (h m hm).1⟩, (h m hm).2⟩
def cEat (c : Cr) (v : Int32) : Cr := cWith c 0 v
theorem eat_ok {c : Cr} (hc : cOK c) {v : Int32} (hv : ∃ j, j < 10 ∧ v = nI j) : cOK (cEat c v) := by
  obtain ⟨h1, h2, h3, h4, h5⟩ := hc
  refine ⟨h1, h2, ?_, ?_, ?_⟩
  · show ∃ k, k < 10 ∧ cI (cWith c 0 v) 0 = nI k
    rw [cI_with, if_pos rfl]; exact hv
  · show ∃ k, k < 10 ∧ cI (cWith c 0 v) 1 = nI k
    rw [cI_with, if_neg (by decide)]; exact h4
  · show cI (cWith c 0 v) 2 = 0 ∨ cI (cWith c 0 v) 2 = 1
    rw [cI_with, if_neg (by decide)]; exact h5
theorem rX_eat {w : Ob} {c : Cr} (h : rX w c) (v : Int32) : rX (sI w 7 v) (cEat c v) := by
  obtain ⟨h1, h2, h3, h4, h5, h6, h7⟩ := h
  refine ⟨?_, h2, h3, ?_, ?_, ?_, ?_⟩
  · rw [sI_n (by decide)]; exact h1
  · show _ = cI (cWith c 0 v) 0
    rw [sI_e, cI_with, if_pos rfl]
  · show _ = cI (cWith c 0 v) 1
    rw [sI_n (by decide), cI_with, if_neg (by decide)]; exact h5
  · show _ = cI (cWith c 0 v) 2
    rw [sI_n (by decide), cI_with, if_neg (by decide)]; exact h6
  · intro i hi
    rw [sI_n (by decide)]
    exact h7 i hi
theorem rM_eat {w : Ob} {c : Cr} (h : rM w c) (v : Int32) : rM (sI w 33 v) (cEat c v) := by
  obtain ⟨h1, h2, h3, h4, h5, h6, h7⟩ := h
  refine ⟨?_, h2, h3, ?_, ?_, ?_, ?_⟩
  · rw [sI_n (by decide)]; exact h1
  · show _ = cI (cWith c 0 v) 0
    rw [sI_e, cI_with, if_pos rfl]
  · show _ = cI (cWith c 0 v) 1
    rw [sI_n (by decide), cI_with, if_neg (by decide)]; exact h5
  · show _ = cI (cWith c 0 v) 2
    rw [sI_n (by decide), cI_with, if_neg (by decide)]; exact h6
  · intro i hi
    rw [sI_n (by decide)]
    exact h7 i hi
/-- with this set of stuffs -/
def s_with (c : Cr) (more : Nat → Int32) (n : Nat) (s : Int32) : Cr := cEat c (min9 (cI c 0 + s_pick s more n))
def t_st (c : Cr) (cost more : Nat → Int32) (n : Nat) : Nat → Int32 × Int32
  | 0 => (-9, -9)
  | k + 1 => if ((t_st c cost more n k).2 = -9 ∨ s_pick (nI k) cost n < (t_st c cost more n k).2) ∧ s_restsH (s_with c more n (nI k)) = true then (nI k, s_pick (nI k) cost n) else t_st c cost more n k
theorem t_st_s (c : Cr) (cost more : Nat → Int32) (n k : Nat) : t_st c cost more n (k + 1) = if ((t_st c cost more n k).2 = -9 ∨ s_pick (nI k) cost n < (t_st c cost more n k).2) ∧ s_restsH (s_with c more n (nI k)) = true then (nI k, s_pick (nI k) cost n) else t_st c cost more n k := rfl
theorem with_ok {c : Cr} (hc : cOK c) {more : Nat → Int32} {n : Nat} (hn : n ≤ 5) (h : ∀ i, i < n → ∃ k, k < 10 ∧ more i = nI k) (s : Int32) : (∃ j, j < 60 ∧ cI c 0 + s_pick s more n = nI j) ∧ cOK (s_with c more n s) := by
  obtain ⟨e, he, ee⟩ := hc.2.2.1
  obtain ⟨j, hj, ej⟩ := bd_pick (s := s) h
  have e2 : cI c 0 + s_pick s more n = nI (e + j) := by rw [ee, ej, nI_add]
  refine ⟨⟨_, by omega, e2⟩, ?_⟩
  unfold s_with
  rw [e2]
  exact eat_ok hc (min9_ok _ (by omega)).1
theorem t_st_9 (c : Cr) {cost more : Nat → Int32} {n : Nat} (hn : n ≤ 5) (h : ∀ i, i < n → ∃ k, k < 10 ∧ cost i = nI k) : ∀ k, k < 2000 → (((t_st c cost more n k).1 = -9 ∧ (t_st c cost more n k).2 = -9) ∨ ((¬ (t_st c cost more n k).1 = -9) ∧ ¬ (t_st c cost more n k).2 = -9))
  | 0, _ => Or.inl ⟨rfl, rfl⟩
  | k + 1, hk => by
    rw [t_st_s]
    split
    · obtain ⟨j, hj, ej⟩ := bd_pick (s := nI k) h
      refine Or.inr ⟨n9_100 k (by omega), ?_⟩
      show ¬ s_pick (nI k) cost n = -9
      rw [ej]
      exact n9_100 j (by omega)
    · exact t_st_9 c hn h k (by omega)
theorem x_stuffs {z1 z2 z3 z9 : Ob} {c : Cr} (h : RQ z1 z9 c) {n : Nat} (hn : n ≤ 5) (hz : z3.1 2 = nI n) (hr : ∀ i, i < n → (∃ k, k < 10 ∧ z3.2 0 i = nI k) ∧ (∃ k, k < 10 ∧ z3.2 1 i = nI k)) (p : Int32) : ∃ w, f_X6_stuffs z1 z2 z3 p = some (if p = 0 then (t_st c (z3.2 0) (z3.2 1) n (2 ^ n)).2 else (t_st c (z3.2 0) (z3.2 1) n (2 ^ n)).1, w) := by
  obtain ⟨hx, h11, hn9, hc⟩ := id h
  have h2n : 2 ^ n ≤ 32 := Nat.pow_le_pow_right (n := 2) (by decide) hn
  have esh : (1 : Int32) <<< ((z3.1 2) &&& 31) = nI (2 ^ n) := by rw [hz]; exact shl_n n (by omega)
  refine lpE (B := b_X6_stuffs_9 z1 z3 p) (fun k a b w => a = (t_st c (z3.2 0) (z3.2 1) n k).1 ∧ b = (t_st c (z3.2 0) (z3.2 1) n k).2) (fun o => ∃ w, o = some (if p = 0 then (t_st c (z3.2 0) (z3.2 1) n (2 ^ n)).2 else (t_st c (z3.2 0) (z3.2 1) n (2 ^ n)).1, w)) (2 ^ n) (by omega) (fun r k a b w hk hab => Or.inl ?_) (fun r a b w hab => ?_) 0 (Nat.zero_le _) (-9) (-9) z2 ⟨rfl, rfl⟩
  · obtain ⟨rfl, rfl⟩ := hab
    obtain ⟨u, eu, ru, -⟩ := h.copy w
    obtain ⟨⟨j, hj, ej⟩, wok⟩ := with_ok hc hn (fun i hi => (hr i hi).2) (nI k)
    have hX := rX_eat ru (min9 (cI c 0 + s_pick (nI k) (z3.2 1) n))
    obtain ⟨v, ev⟩ := x_restsH hX wok
    have ev' : f_X1_restsHearing (sI u 7 (min9 (cI c 0 + s_pick (nI k) (z3.2 1) n))) = some (b32 (s_restsH (s_with c (z3.2 1) n (nI k))), v) := ev
    have h9 := t_st_9 c (cost := z3.2 0) (more := z3.2 1) hn (fun i hi => (hr i hi).1) k (by omega)
    have em : (if cI c 0 + s_pick (nI k) (z3.2 1) n < 9 then cI c 0 + s_pick (nI k) (z3.2 1) n else (9 : Int32)) = min9 (cI c 0 + s_pick (nI k) (z3.2 1) n) := by
      rw [ej]
      exact (min9_ok j hj).2
    have j46 : ∀ a b, j_X6_stuffs_46 z1 z3 p r a b (nI k) (s_pick (nI k) (z3.2 0) n) w = if s_restsH (s_with c (z3.2 1) n (nI k)) = true then r (nI k) (s_pick (nI k) (z3.2 0) n) (nI (k + 1)) v else r a b (nI (k + 1)) v := by
      intro a b
      unfold j_X6_stuffs_46 j_X6_stuffs_102
      simp only [eu, ob, x_eaten hn hz, bn, hx.2.2.2.1, em, ev', b2, nI_1]
      cases s_restsH (s_with c (z3.2 1) n (nI k)) <;> rfl
    have j102 : ∀ a b, j_X6_stuffs_102 z1 z3 p r a b (nI k) w = r a b (nI (k + 1)) w := by
      intro a b
      unfold j_X6_stuffs_102
      rw [bn, nI_1]
    have step : b_X6_stuffs_9 z1 z3 p r (t_st c (z3.2 0) (z3.2 1) n k).1 (t_st c (z3.2 0) (z3.2 1) n k).2 (nI k) w = if (t_st c (z3.2 0) (z3.2 1) n k).1 = -9 then (if s_restsH (s_with c (z3.2 1) n (nI k)) = true then r (nI k) (s_pick (nI k) (z3.2 0) n) (nI (k + 1)) v else r (t_st c (z3.2 0) (z3.2 1) n k).1 (t_st c (z3.2 0) (z3.2 1) n k).2 (nI (k + 1)) v) else if (t_st c (z3.2 0) (z3.2 1) n k).2 ≤ s_pick (nI k) (z3.2 0) n then r (t_st c (z3.2 0) (z3.2 1) n k).1 (t_st c (z3.2 0) (z3.2 1) n k).2 (nI (k + 1)) w else (if s_restsH (s_with c (z3.2 1) n (nI k)) = true then r (nI k) (s_pick (nI k) (z3.2 0) n) (nI (k + 1)) v else r (t_st c (z3.2 0) (z3.2 1) n k).1 (t_st c (z3.2 0) (z3.2 1) n k).2 (nI (k + 1)) v) := by
      unfold b_X6_stuffs_9
      rw [esh, if_neg (nI_ge hk (by omega)), x_cost hn hz, ob, j46, j102]
    rw [step, t_st_s]
    rcases h9 with ⟨g1, g2⟩ | ⟨g1, g2⟩
    · rw [if_pos g1]
      by_cases q : s_restsH (s_with c (z3.2 1) n (nI k)) = true
      · rw [if_pos q, if_pos ⟨Or.inl g2, q⟩]
        exact ⟨_, _, v, rfl, rfl, rfl⟩
      · rw [if_neg q, if_neg (fun x => q x.2)]
        exact ⟨_, _, v, rfl, rfl, rfl⟩
    · rw [if_neg g1]
      by_cases l : (t_st c (z3.2 0) (z3.2 1) n k).2 ≤ s_pick (nI k) (z3.2 0) n
      · rw [if_pos l, if_neg (fun x => by
          rcases x.1 with y | y
          · exact g2 y
          · rw [Int32.lt_iff_toInt_lt] at y; rw [leT] at l; omega)]
        exact ⟨_, _, w, rfl, rfl, rfl⟩
      · rw [if_neg l]
        by_cases q : s_restsH (s_with c (z3.2 1) n (nI k)) = true
        · rw [if_pos q, if_pos ⟨Or.inr (by rw [Int32.lt_iff_toInt_lt]; rw [leT] at l; omega), q⟩]
          exact ⟨_, _, v, rfl, rfl, rfl⟩
        · rw [if_neg q, if_neg (fun x => q x.2)]
          exact ⟨_, _, v, rfl, rfl, rfl⟩
  · obtain ⟨rfl, rfl⟩ := hab
    refine ⟨w, ?_⟩
    unfold b_X6_stuffs_9
    rw [esh, if_pos (nI_le (Nat.le_refl _) (by omega))]
    by_cases q : p = 0
    · rw [if_pos q, if_pos q]
    · rw [if_neg q, if_neg q]
theorem pI_pI {α : Type} {f : Nat → α} {k : Nat} {a b : α} : pI (pI f k a) k b = pI f k b := by
  funext j
  by_cases q : j = k
  · rw [q, pI_eq, pI_eq]
  · rw [pI_ne q, pI_ne q, pI_ne q]
theorem sI_sI {z : Ob} {k : Nat} {a b : Int32} : sI (sI z k a) k b = sI z k b := by
  unfold sI
  rw [pI_pI]
/-- but what is tried, all is as it was -/
def cy (z w : Ob) : Prop := (∀ k, k < 31 → k ≠ 0 → w.1 k = z.1 k) ∧ ∀ k, k < 29 → w.2 k = z.2 k
theorem cz.toy {z w : Ob} (h : cz z w) : cy z w := ⟨fun k a b => h.1 k (Or.inl a) b, h.2⟩
theorem cy.trans {x y z : Ob} (h : cy x y) (h2 : cy y z) : cy x z := ⟨fun k a b => (h2.1 k a b).trans (h.1 k a b), fun k a => (h2.2 k a).trans (h.2 k a)⟩
theorem cy.sI {z w : Ob} (h : cy z w) {k : Nat} {v : Int32} (hk : 31 ≤ k ∨ k = 0) : cy z (sI w k v) := ⟨fun j a b => by rw [sI_n (by omega)]; exact h.1 j a b, h.2⟩
theorem cy.sA {z w : Ob} (h : cy z w) {k : Nat} {g : Nat → Int32} (hk : 29 ≤ k) : cy z (sA w k g) := ⟨h.1, fun j a => by rw [sA_n (by omega)]; exact h.2 j a⟩
theorem cy.rN {z w : Ob} {c : Cr} (e : cy z w) (h : rN z c) : rN w c := by
  obtain ⟨h1, h2, h3, h4, h5, h6, h7⟩ := h
  refine ⟨by rw [e.1 4 (by decide) (by decide)]; exact h1, h2, ?_, by rw [e.1 10 (by decide) (by decide)]; exact h4, by rw [e.1 11 (by decide) (by decide)]; exact h5, by rw [e.1 12 (by decide) (by decide)]; exact h6, h7⟩
  rw [e.2 5 (by decide), e.2 6 (by decide), e.2 7 (by decide), e.2 8 (by decide), e.2 9 (by decide)]
  exact h3
def mInv (c : Cr) (cost more : Nat → Int32) (n : Nat) (z9 : Ob) (k : Nat) (a : Int32) (w : Ob) : Prop := a = (t_st c cost more n k).2 ∧ cy z9 w ∧ (¬ (t_st c cost more n k).2 = -9 → w.1 36 = (t_st c cost more n k).1)
theorem m_stuffs {z9 : Ob} {c : Cr} (hN : rN z9 c) (hc : cOK c) {n : Nat} (hn : n ≤ 5) (hz : z9.1 13 = nI n) (hr : ∀ i, i < n → (∃ k, k < 10 ∧ z9.2 14 i = nI k) ∧ (∃ k, k < 10 ∧ z9.2 15 i = nI k)) : ∃ w, f_X7_findStuffs z9 = some ((t_st c (z9.2 14) (z9.2 15) n (2 ^ n)).2, w) ∧ cy z9 w ∧ (¬ (t_st c (z9.2 14) (z9.2 15) n (2 ^ n)).2 = -9 → w.1 36 = (t_st c (z9.2 14) (z9.2 15) n (2 ^ n)).1) := by
  have h2n : 2 ^ n ≤ 32 := Nat.pow_le_pow_right (n := 2) (by decide) hn
  refine lpC (B := b_X7_findStuffs_5) (mInv c (z9.2 14) (z9.2 15) n z9) (fun o => ∃ w, o = some ((t_st c (z9.2 14) (z9.2 15) n (2 ^ n)).2, w) ∧ cy z9 w ∧ (¬ (t_st c (z9.2 14) (z9.2 15) n (2 ^ n)).2 = -9 → w.1 36 = (t_st c (z9.2 14) (z9.2 15) n (2 ^ n)).1)) (2 ^ n) (by omega) (fun r k a w hk hab => Or.inl ?_) (fun r a w hab => ?_) 0 (Nat.zero_le _) (-9) z9 ⟨rfl, cz.rfl'.toy, fun x => absurd rfl x⟩
  · obtain ⟨rfl, cw, h36⟩ := hab
    have z13 : w.1 13 = nI n := by rw [cw.1 13 (by decide) (by decide)]; exact hz
    have esh : (1 : Int32) <<< ((w.1 13) &&& 31) = nI (2 ^ n) := by rw [z13]; exact shl_n n (by omega)
    obtain ⟨u, eu, cu, ru⟩ := m_begin (cw.rN hN) hc
    obtain ⟨⟨j, hj, ej⟩, wok⟩ := with_ok hc hn (fun i hi => (hr i hi).2) (nI k)
    have h9 := t_st_9 c (cost := z9.2 14) (more := z9.2 15) hn (fun i hi => (hr i hi).1) k (by omega)
    have cyu := cw.trans cu.toy
    have u13 : u.1 13 = nI n := by rw [cyu.1 13 (by decide) (by decide)]; exact hz
    have st0 : b_X7_findStuffs_5 r (t_st c (z9.2 14) (z9.2 15) n k).2 (nI k) w = fuel3 (b_X7_findStuffs_24 r (t_st c (z9.2 14) (z9.2 15) n k).2 (nI k)) FU 0 0 u := by
      unfold b_X7_findStuffs_5
      rw [esh, if_neg (nI_ge hk (by omega)), eu, ob]
    rw [st0]
    refine lpC (B := b_X7_findStuffs_24 r (t_st c (z9.2 14) (z9.2 15) n k).2 (nI k)) (fun i a w' => a = s_pick (nI k) (z9.2 14) i ∧ (∀ v, rM (sI w' 33 v) (cEat c v)) ∧ w'.1 33 = cI c 0 + s_pick (nI k) (z9.2 15) i ∧ cz u w') (fun o => ∃ b' a', o = r b' (nI (k + 1)) a' ∧ mInv c (z9.2 14) (z9.2 15) n z9 (k + 1) b' a') n (by omega) (fun r' i a w' hi hab => Or.inl ?_) (fun r' a w' hab => ?_) 0 (Nat.zero_le _) 0 u ⟨rfl, fun v => rM_eat ru v, ?_, cz.rfl'⟩
    · obtain ⟨rfl, hM, h33, cw'⟩ := hab
      have hb : inb (nI i) 5 = true := inb_nI (by omega) (by decide)
      have w13 : w'.1 13 = nI n := by rw [cw'.1 13 (by decide) (by decide)]; exact u13
      have a14 : w'.2 14 = z9.2 14 := by rw [cw'.2 14 (by decide)]; exact cyu.2 14 (by decide)
      have a15 : w'.2 15 = z9.2 15 := by rw [cw'.2 15 (by decide)]; exact cyu.2 15 (by decide)
      refine ⟨s_pick (nI k) (z9.2 14) (i + 1), sI w' 33 (cI c 0 + s_pick (nI k) (z9.2 15) (i + 1)), ?_, rfl, fun v => by rw [sI_sI]; exact hM v, sI_e, cw'.sI (Or.inl (by decide))⟩
      unfold b_X7_findStuffs_24 j_X7_findStuffs_54 j_X7_findStuffs_81
      rw [w13, if_neg (nI_ge hi (by omega)), m_has]
      simp only [ob, bn, hb, if_true, h33, a14, a15, cl_nI (show i < 2 ^ 31 by omega)]
      rw [nI_1]
      show _ = r' (s_pick (nI k) (z9.2 14) i + (if bitI (nI k) i = true then z9.2 14 i else 0)) _ (sI w' 33 (cI c 0 + (s_pick (nI k) (z9.2 15) i + (if bitI (nI k) i = true then z9.2 15 i else 0))))
      rw [← Int32.add_assoc]
      unfold bitI
      by_cases q : ((nI k >>> (nI i &&& 31)) &&& 1) = 1
      · rw [decide_eq_true q]; rfl
      · rw [decide_eq_false q]; rfl
    · obtain ⟨rfl, hM, h33, cw'⟩ := hab
      have w13 : w'.1 13 = nI n := by rw [cw'.1 13 (by decide) (by decide)]; exact u13
      have e110 : b_X7_findStuffs_24 r (t_st c (z9.2 14) (z9.2 15) n k).2 (nI k) r' (s_pick (nI k) (z9.2 14) n) (nI n) w' = j_X7_findStuffs_110 r (t_st c (z9.2 14) (z9.2 15) n k).2 (nI k) (s_pick (nI k) (z9.2 14) n) (min9 (cI c 0 + s_pick (nI k) (z9.2 15) n)) w' := by
        unfold b_X7_findStuffs_24 min9
        rw [w13, if_pos (nI_le (Nat.le_refl _) (by omega)), h33]
        split <;> rfl
      have rM6 := hM (min9 (cI c 0 + s_pick (nI k) (z9.2 15) n))
      have c6 : cz u (sI w' 33 (min9 (cI c 0 + s_pick (nI k) (z9.2 15) n))) := cw'.sI (Or.inl (by decide))
      have u36 : u.1 36 = w.1 36 := cu.1 36 (Or.inr (by decide)) (by decide)
      have goes : (s_restsH (s_with c (z9.2 15) n (nI k)) = true → ∃ g, j_X7_findStuffs_124 r (t_st c (z9.2 14) (z9.2 15) n k).2 (nI k) (s_pick (nI k) (z9.2 14) n) (sI w' 33 (min9 (cI c 0 + s_pick (nI k) (z9.2 15) n))) = r (s_pick (nI k) (z9.2 14) n) (nI (k + 1)) (sI g 36 (nI k)) ∧ cz u g) ∧ (¬ s_restsH (s_with c (z9.2 15) n (nI k)) = true → ∃ g, j_X7_findStuffs_124 r (t_st c (z9.2 14) (z9.2 15) n k).2 (nI k) (s_pick (nI k) (z9.2 14) n) (sI w' 33 (min9 (cI c 0 + s_pick (nI k) (z9.2 15) n))) = r (t_st c (z9.2 14) (z9.2 15) n k).2 (nI (k + 1)) g ∧ cz u g) := by
        unfold j_X7_findStuffs_124 j_X7_findStuffs_147
        rcases m_restsH rM6 wok with ⟨q, k2, v, ev, hk2, cv, hv⟩ | ⟨q, ⟨v, ev, cv⟩ | ⟨k2, v, ev, hk2, cv, hv⟩⟩
        · refine ⟨fun _ => ⟨v, ?_, c6.trans cv⟩, fun x => absurd q x⟩
          rw [ev, b2, if_neg (nI_n9 k2 hk2), hv, ob, if_neg (show ¬ (1 : Int32) = 0 by decide)]
          simp only [bn, nI_1]
        · refine ⟨fun x => absurd x (by rw [show s_restsH (s_with c (z9.2 15) n (nI k)) = false from q]; exact ft), fun _ => ⟨v, ?_, c6.trans cv⟩⟩
          rw [ev, b2, if_pos rfl]
          simp only [bn, nI_1]
        · refine ⟨fun x => absurd x (by rw [show s_restsH (s_with c (z9.2 15) n (nI k)) = false from q]; exact ft), fun _ => ⟨v, ?_, c6.trans cv⟩⟩
          rw [ev, b2, if_neg (nI_n9 k2 hk2), hv, ob, if_pos rfl]
          simp only [bn, nI_1]
      rw [e110]
      unfold mInv j_X7_findStuffs_110
      rw [bn, t_st_s]
      by_cases q : s_restsH (s_with c (z9.2 15) n (nI k)) = true
      · obtain ⟨g, eg, cg⟩ := goes.1 q
        have cyg : cy z9 (sI g 36 (nI k)) := (cyu.trans cg.toy).sI (Or.inl (by decide))
        by_cases q9 : (t_st c (z9.2 14) (z9.2 15) n k).2 = -9
        · rw [if_pos q9, eg, if_pos ⟨Or.inl q9, q⟩]
          exact ⟨_, _, rfl, rfl, cyg, fun _ => sI_e⟩
        · rw [if_neg q9]
          by_cases l : (t_st c (z9.2 14) (z9.2 15) n k).2 ≤ s_pick (nI k) (z9.2 14) n
          · rw [if_pos l, if_neg (fun x => by
              rcases x.1 with y | y
              · exact q9 y
              · rw [Int32.lt_iff_toInt_lt] at y; rw [leT] at l; omega)]
            unfold j_X7_findStuffs_147
            rw [bn, nI_1]
            exact ⟨_, _, rfl, rfl, cyu.trans c6.toy, fun x => by rw [c6.1 36 (Or.inr (by decide)) (by decide), u36]; exact h36 x⟩
          · rw [if_neg l, eg, if_pos ⟨Or.inr (by rw [Int32.lt_iff_toInt_lt]; rw [leT] at l; omega), q⟩]
            exact ⟨_, _, rfl, rfl, cyg, fun _ => sI_e⟩
      · obtain ⟨g, eg, cg⟩ := goes.2 q
        have cyg : cy z9 g := cyu.trans cg.toy
        have g36 : g.1 36 = w.1 36 := by rw [cg.1 36 (Or.inr (by decide)) (by decide), u36]
        by_cases q9 : (t_st c (z9.2 14) (z9.2 15) n k).2 = -9
        · rw [if_pos q9, eg, if_neg (fun x => q x.2)]
          exact ⟨_, _, rfl, rfl, cyg, fun x => absurd q9 x⟩
        · rw [if_neg q9]
          by_cases l : (t_st c (z9.2 14) (z9.2 15) n k).2 ≤ s_pick (nI k) (z9.2 14) n
          · rw [if_pos l, if_neg (fun x => q x.2)]
            unfold j_X7_findStuffs_147
            rw [bn, nI_1]
            exact ⟨_, _, rfl, rfl, cyu.trans c6.toy, fun x => by rw [c6.1 36 (Or.inr (by decide)) (by decide), u36]; exact h36 x⟩
          · rw [if_neg l, eg, if_neg (fun x => q x.2)]
            exact ⟨_, _, rfl, rfl, cyg, fun x => by rw [g36]; exact h36 x⟩
    · show u.1 33 = cI c 0 + 0
      rw [Int32.add_zero]
      exact ru.2.2.2.1
  · obtain ⟨rfl, cw, h36⟩ := hab
    have z13 : w.1 13 = nI n := by rw [cw.1 13 (by decide) (by decide)]; exact hz
    have esh : (1 : Int32) <<< ((w.1 13) &&& 31) = nI (2 ^ n) := by rw [z13]; exact shl_n n (by omega)
    refine ⟨w, ?_, cw, h36⟩
    unfold b_X7_findStuffs_5
    rw [esh, if_pos (nI_le (Nat.le_refl _) (by omega))]
theorem pick_d {s : Int32} {f g : Nat → Int32} {n : Nat} (h : ∀ i, i < n → f i = g i) : s_pick s f n = s_pick s g n := pick_c h
theorem t_st_c (c : Cr) {f g f' g' : Nat → Int32} {n : Nat} (h : ∀ i, i < n → f i = f' i) (h' : ∀ i, i < n → g i = g' i) : ∀ k, t_st c f g n k = t_st c f' g' n k
  | 0 => rfl
  | k + 1 => by
    rw [t_st_s, t_st_s, t_st_c c h h' k]
    unfold s_with
    rw [pick_c h, pick_c h']
theorem T_stuffs {z1 z3 z9 : Ob} {c : Cr} (h : RQ z1 z9 c) (hw : RW z3 z9) (z2 : Ob) (p : Int32) : ∃ r z2' w, f_X6_stuffs z1 z2 z3 p = some (r, z2') ∧ f_X7_stuffs z9 p = some (r, w) ∧ cy z9 w := by
  obtain ⟨hx, h11, hn9, hc⟩ := id h
  have c1 : cz z9 (sI z9 0 0) := cz_th
  obtain ⟨n, hn, e3, e13, ha⟩ := id hw
  have hr3 : ∀ i, i < n → (∃ k, k < 10 ∧ z3.2 0 i = nI k) ∧ (∃ k, k < 10 ∧ z3.2 1 i = nI k) := fun i hi => by
    obtain ⟨a, b, d, e⟩ := ha i hi
    rw [a, b]
    exact ⟨d, e⟩
  obtain ⟨a, ea⟩ := x_stuffs (z2 := z2) h hn e3 hr3 p
  obtain ⟨w, ew, cw, w36⟩ := m_stuffs (z9 := sI z9 0 0) (c1.rN hn9) hc hn e13 (fun i hi => ⟨(ha i hi).2.2.1, (ha i hi).2.2.2⟩)
  have ec := t_st_c c (n := n) (fun i hi => (ha i hi).1) (fun i hi => (ha i hi).2.1) (2 ^ n)
  rw [ec] at ea
  have h9 := t_st_9 c (cost := z9.2 14) (more := z9.2 15) hn (fun i hi => (ha i hi).2.2.1) (2 ^ n) (by have : 2 ^ n ≤ 32 := Nat.pow_le_pow_right (n := 2) (by decide) hn; omega)
  refine ⟨_, a, w, ea, ?_, c1.toy.trans cw⟩
  unfold f_X7_stuffs j_X7_stuffs_20
  have ew' : f_X7_findStuffs (sI z9 0 0) = some ((t_st c (z9.2 14) (z9.2 15) n (2 ^ n)).2, w) := ew
  have w36' : ¬ (t_st c (z9.2 14) (z9.2 15) n (2 ^ n)).2 = -9 → w.1 36 = (t_st c (z9.2 14) (z9.2 15) n (2 ^ n)).1 := w36
  rw [bn, ew', b2]
  rcases h9 with ⟨g1, g2⟩ | ⟨g1, g2⟩
  · rw [if_pos g2, g1, g2]
    split <;> rfl
  · rw [if_neg g2, w36' g2]
    by_cases q : p = 0
    · rw [if_pos q, if_pos q]
    · rw [if_neg q, if_neg q]
