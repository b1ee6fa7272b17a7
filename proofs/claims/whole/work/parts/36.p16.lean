/-! PURE 16: acts and pages -/
theorem upd_if {f : Nat → Int32} {k j : Nat} {x : Int32} : upd f k x j = if j = k then x else f j := by
  by_cases q : j = k
  · rw [q, pk_us, if_pos rfl]
  · rw [pk_un q, if_neg q]
theorem l8 : (8 : Int32) = nI 8 := rfl
theorem l16 : (16 : Int32) = nI 16 := rfl
theorem l24 : (24 : Int32) = nI 24 := rfl
theorem l32 : (32 : Int32) = nI 32 := rfl
theorem l40 : (40 : Int32) = nI 40 := rfl
theorem l41 : (41 : Int32) = nI 41 := rfl
theorem l42 : (42 : Int32) = nI 42 := rfl
theorem l43 : (43 : Int32) = nI 43 := rfl
theorem l45 : (45 : Int32) = nI 45 := rfl
/-- but these all is as it was -/
def cf (S A : List Nat) (z w : Ob) : Prop := (∀ k, k < 31 → k ∉ S → w.1 k = z.1 k) ∧ ∀ k, k < 29 → k ∉ A → w.2 k = z.2 k
theorem cf.rfl' {S A : List Nat} {z : Ob} : cf S A z z := ⟨fun _ _ _ => rfl, fun _ _ _ => rfl⟩
theorem cf.trans {S A : List Nat} {x y z : Ob} (h : cf S A x y) (h2 : cf S A y z) : cf S A x z := ⟨fun k a b => (h2.1 k a b).trans (h.1 k a b), fun k a b => (h2.2 k a b).trans (h.2 k a b)⟩
theorem cf.sI {S A : List Nat} {z w : Ob} (h : cf S A z w) {k : Nat} {v : Int32} (hk : 31 ≤ k ∨ k ∈ S) : cf S A z (sI w k v) := ⟨fun j a b => by
  rw [sI_n (fun e => by rcases hk with q | q; omega; exact b (e ▸ q))]
  exact h.1 j a b, h.2⟩
theorem cf.sA {S A : List Nat} {z w : Ob} (h : cf S A z w) {k : Nat} {g : Nat → Int32} (hk : 29 ≤ k ∨ k ∈ A) : cf S A z (sA w k g) := ⟨h.1, fun j a b => by
  rw [sA_n (fun e => by rcases hk with q | q; omega; exact b (e ▸ q))]
  exact h.2 j a b⟩
theorem cf.mono {S A S' A' : List Nat} {z w : Ob} (h : cf S A z w) (hS : ∀ k, k ∈ S → k ∈ S') (hA : ∀ k, k ∈ A → k ∈ A') : cf S' A' z w := ⟨fun k a b => h.1 k a (fun q => b (hS k q)), fun k a b => h.2 k a (fun q => b (hA k q))⟩
theorem cz.cf {S A : List Nat} {z w : Ob} (h : cz z w) (h0 : 0 ∈ S) : cf S A z w := ⟨fun k a b => h.1 k (Or.inl a) (fun e => b (e ▸ h0)), fun k a _ => h.2 k a⟩
theorem cy.cf {S A : List Nat} {z w : Ob} (h : cy z w) (h0 : 0 ∈ S) : cf S A z w := ⟨fun k a b => h.1 k a (fun e => b (e ▸ h0)), fun k a _ => h.2 k a⟩
theorem cf.rN {S A : List Nat} {z w : Ob} {c : Cr} (e : cf S A z w) (h : rN z c) (hS : 4 ∉ S ∧ 10 ∉ S ∧ 11 ∉ S ∧ 12 ∉ S) (hA : 5 ∉ A ∧ 6 ∉ A ∧ 7 ∉ A ∧ 8 ∉ A ∧ 9 ∉ A) : rN w c := by
  obtain ⟨h1, h2, h3, h4, h5, h6, h7⟩ := h
  refine ⟨by rw [e.1 4 (by decide) hS.1]; exact h1, h2, ?_, by rw [e.1 10 (by decide) hS.2.1]; exact h4, by rw [e.1 11 (by decide) hS.2.2.1]; exact h5, by rw [e.1 12 (by decide) hS.2.2.2]; exact h6, h7⟩
  rw [e.2 5 (by decide) hA.1, e.2 6 (by decide) hA.2.1, e.2 7 (by decide) hA.2.2.1, e.2 8 (by decide) hA.2.2.2.1, e.2 9 (by decide) hA.2.2.2.2]
  exact h3
/-- rings and music are what they may be -/
def gOK (c : Cr) : Prop := cN c ≤ 8 ∧ (∀ i, i < cN c → (∃ k, k < 5 ∧ cA c 0 i = nI k) ∧ (∃ k, k < 100 ∧ cA c 1 i = nI k) ∧ (∃ k, 1 ≤ k ∧ k < 10 ∧ cA c 2 i = nI k) ∧ (∃ k, 1 ≤ k ∧ k < 10 ∧ cA c 3 i = nI k) ∧ (∃ k, k < 10 ∧ cA c 4 i = nI k)) ∧ (∃ k, k < 10 ∧ cI c 1 = nI k)
theorem cOK.g {c : Cr} (h : cOK c) : gOK c := ⟨h.1, h.2.1, h.2.2.2.1⟩
/-- a page of a book holds rings and music -/
def rP (B : Nat → Int32) (b : Nat) (g : Cr) : Prop := B (b + 40) = nI (cN g) ∧ B (b + 41) = cI g 1 ∧ ∀ i, i < cN g → B (b + i) = cA g 0 i ∧ B (b + 8 + i) = cA g 1 i ∧ B (b + 16 + i) = cA g 2 i ∧ B (b + 24 + i) = cA g 3 i ∧ B (b + 32 + i) = cA g 4 i
theorem rP_c {B B' : Nat → Int32} {b : Nat} {g : Cr} (hg : cN g ≤ 8) (h : rP B b g) (e : ∀ j, b ≤ j → j < b + 42 → B' j = B j) : rP B' b g := by
  obtain ⟨h1, h2, h3⟩ := h
  refine ⟨by rw [e _ (by omega) (by omega)]; exact h1, by rw [e _ (by omega) (by omega)]; exact h2, fun i hi => ?_⟩
  rw [e _ (by omega) (by omega), e _ (by omega) (by omega), e _ (by omega) (by omega), e _ (by omega) (by omega), e _ (by omega) (by omega)]
  exact h3 i hi
/-- the same, elsewhere -/
theorem rP_m {B B' : Nat → Int32} {b b' : Nat} {g : Cr} (hg : cN g ≤ 8) (h : rP B b g) (e : ∀ j, j < 42 → B' (b' + j) = B (b + j)) : rP B' b' g := by
  obtain ⟨h1, h2, h3⟩ := h
  refine ⟨by rw [e _ (by omega)]; exact h1, by rw [e _ (by omega)]; exact h2, fun i hi => ?_⟩
  rw [e _ (by omega), Nat.add_assoc b' 8, e _ (by omega), Nat.add_assoc b' 16, e _ (by omega), Nat.add_assoc b' 24, e _ (by omega), Nat.add_assoc b' 32, e _ (by omega), ← Nat.add_assoc, ← Nat.add_assoc, ← Nat.add_assoc, ← Nat.add_assoc]
  exact h3 i hi
/-- rings and music in the reference -/
def rG (z : Ob) (c : Cr) : Prop := z.1 4 = nI (cN c) ∧ cN c ≤ 8 ∧ (∀ i, i < cN c → z.2 5 i = cA c 0 i ∧ z.2 6 i = cA c 1 i ∧ z.2 7 i = cA c 2 i ∧ z.2 8 i = cA c 3 i ∧ z.2 9 i = cA c 4 i) ∧ z.1 11 = cI c 1
theorem rN.g {z : Ob} {c : Cr} (h : rN z c) : rG z c := ⟨h.1, h.2.1, h.2.2.1, h.2.2.2.2.1⟩
theorem m_lay22 {z : Ob} {c : Cr} (h : rG z c) {b : Nat} (hb : b + 42 ≤ 420) : ∃ w, f_X7_layPage_22 z (nI b) = some w ∧ cf [] [22] z w ∧ rP (w.2 22) b c ∧ ∀ j, j < b ∨ b + 42 ≤ j → w.2 22 j = z.2 22 j := by
  obtain ⟨h1, h2, h3, h4⟩ := h
  refine lpA (B := b_X7_layPage_22_2 (nI b)) (fun i w => cf [] [22] z w ∧ (∀ j, j < b ∨ b + 42 ≤ j → w.2 22 j = z.2 22 j) ∧ ∀ k, k < i → w.2 22 (b + k) = z.2 5 k ∧ w.2 22 (b + 8 + k) = z.2 6 k ∧ w.2 22 (b + 16 + k) = z.2 7 k ∧ w.2 22 (b + 24 + k) = z.2 8 k ∧ w.2 22 (b + 32 + k) = z.2 9 k) (fun o => ∃ w, o = some w ∧ cf [] [22] z w ∧ rP (w.2 22) b c ∧ ∀ j, j < b ∨ b + 42 ≤ j → w.2 22 j = z.2 22 j) 8 (by omega) (fun r i w hi hI => Or.inl ?_) (fun r w hI => ?_) 0 (Nat.zero_le _) z ⟨cf.rfl', fun _ _ => rfl, fun k hk => absurd hk (Nat.not_lt_zero _)⟩
  · obtain ⟨cw, ho, hk⟩ := hI
    have i8 : inb (nI i) 8 = true := inb_nI hi (by decide)
    refine ⟨sA w 22 (upd (upd (upd (upd (upd (w.2 22) (b + i) (z.2 5 i)) (b + 8 + i) (z.2 6 i)) (b + 16 + i) (z.2 7 i)) (b + 24 + i) (z.2 8 i)) (b + 32 + i) (z.2 9 i)), ?_, cw.sA (Or.inr (by decide)), fun j hj => ?_, fun k hk' => ?_⟩
    · unfold b_X7_layPage_22_2
      rw [if_neg (show ¬ (8 : Int32) ≤ nI i from at_not (n := 8) rfl hi (by decide))]
      simp only [l16, l24, l32, show (8 : Int32) = nI 8 from rfl, nI_add, bn, i8, if_true, inb_nI (show b + i < 420 by omega) (by decide), inb_nI (show b + 8 + i < 420 by omega) (by decide), inb_nI (show b + 16 + i < 420 by omega) (by decide), inb_nI (show b + 24 + i < 420 by omega) (by decide), inb_nI (show b + 32 + i < 420 by omega) (by decide), cl_nI (show i < 2 ^ 31 by omega), cl_nI (show b + i < 2 ^ 31 by omega), cl_nI (show b + 8 + i < 2 ^ 31 by omega), cl_nI (show b + 16 + i < 2 ^ 31 by omega), cl_nI (show b + 24 + i < 2 ^ 31 by omega), cl_nI (show b + 32 + i < 2 ^ 31 by omega), nI_1]
      rw [sA_e, sA_e, sA_e, sA_e, sA_n (by decide), sA_n (by decide), sA_n (by decide), sA_n (by decide), sA_n (by decide), sA_n (by decide), sA_n (by decide), sA_n (by decide), sA_n (by decide), sA_n (by decide), cw.2 5 (by decide) (by decide), cw.2 6 (by decide) (by decide), cw.2 7 (by decide) (by decide), cw.2 8 (by decide) (by decide), cw.2 9 (by decide) (by decide)]
      congr 1
      unfold sA
      rw [pI_pI, pI_pI, pI_pI, pI_pI]
    · rw [sA_e]
      simp only [upd_if]
      rw [if_neg (by omega), if_neg (by omega), if_neg (by omega), if_neg (by omega), if_neg (by omega)]
      exact ho j hj
    · rw [sA_e]
      simp only [upd_if]
      by_cases q : k = i
      · subst q
        refine ⟨?_, ?_, ?_, ?_, ?_⟩
        · rw [if_neg (by omega), if_neg (by omega), if_neg (by omega), if_neg (by omega), if_pos rfl]
        · rw [if_neg (by omega), if_neg (by omega), if_neg (by omega), if_pos rfl]
        · rw [if_neg (by omega), if_neg (by omega), if_pos rfl]
        · rw [if_neg (by omega), if_pos rfl]
        · rw [if_pos rfl]
      · obtain ⟨k1, k2, k3, k4, k5⟩ := hk k (by omega)
        refine ⟨?_, ?_, ?_, ?_, ?_⟩
        · rw [if_neg (by omega), if_neg (by omega), if_neg (by omega), if_neg (by omega), if_neg (by omega)]; exact k1
        · rw [if_neg (by omega), if_neg (by omega), if_neg (by omega), if_neg (by omega), if_neg (by omega)]; exact k2
        · rw [if_neg (by omega), if_neg (by omega), if_neg (by omega), if_neg (by omega), if_neg (by omega)]; exact k3
        · rw [if_neg (by omega), if_neg (by omega), if_neg (by omega), if_neg (by omega), if_neg (by omega)]; exact k4
        · rw [if_neg (by omega), if_neg (by omega), if_neg (by omega), if_neg (by omega), if_neg (by omega)]; exact k5
  · obtain ⟨cw, ho, hk⟩ := hI
    refine ⟨sA w 22 (upd (upd (w.2 22) (b + 40) (z.1 4)) (b + 41) (z.1 11)), ?_, cw.sA (Or.inr (by decide)), ⟨?_, ?_, fun i hi => ?_⟩, fun j hj => ?_⟩
    · unfold b_X7_layPage_22_2
      rw [if_pos (show (8 : Int32) ≤ nI 8 by decide)]
      simp only [l40, l41, nI_add, bn, if_true, inb_nI (show b + 40 < 420 by omega) (by decide), inb_nI (show b + 41 < 420 by omega) (by decide), cl_nI (show b + 40 < 2 ^ 31 by omega), cl_nI (show b + 41 < 2 ^ 31 by omega), sA_1]
      rw [sA_e, cw.1 4 (by decide) (by decide), cw.1 11 (by decide) (by decide)]
      unfold sA
      rw [pI_pI]
    · rw [sA_e]
      simp only [upd_if]
      rw [if_neg (by omega), if_pos trivial]; exact h1
    · rw [sA_e]
      simp only [upd_if]
      rw [if_pos trivial]; exact h4
    · rw [sA_e]
      simp only [upd_if]
      obtain ⟨g0, g1, g2, g3, g4⟩ := h3 i hi
      obtain ⟨k1, k2, k3, k4, k5⟩ := hk i (by omega)
      refine ⟨?_, ?_, ?_, ?_, ?_⟩
      · rw [if_neg (by omega), if_neg (by omega), k1]; exact g0
      · rw [if_neg (by omega), if_neg (by omega), k2]; exact g1
      · rw [if_neg (by omega), if_neg (by omega), k3]; exact g2
      · rw [if_neg (by omega), if_neg (by omega), k4]; exact g3
      · rw [if_neg (by omega), if_neg (by omega), k5]; exact g4
    · rw [sA_e]
      simp only [upd_if]
      rw [if_neg (by omega), if_neg (by omega)]
      exact ho j hj
theorem m_take22 {z : Ob} {g : Cr} {b : Nat} (hb : b + 42 ≤ 420) (hg : cN g ≤ 8) (h : rP (z.2 22) b g) : ∃ w, f_X7_takePage_22 z (nI b) = some w ∧ cf [4, 11] [5, 6, 7, 8, 9] z w ∧ rG w g := by
  obtain ⟨h1, h2, h3⟩ := h
  refine lpA (B := b_X7_takePage_22_2 (nI b)) (fun i w => cf [4, 11] [5, 6, 7, 8, 9] z w ∧ ∀ k, k < i → w.2 5 k = z.2 22 (b + k) ∧ w.2 6 k = z.2 22 (b + 8 + k) ∧ w.2 7 k = z.2 22 (b + 16 + k) ∧ w.2 8 k = z.2 22 (b + 24 + k) ∧ w.2 9 k = z.2 22 (b + 32 + k)) (fun o => ∃ w, o = some w ∧ cf [4, 11] [5, 6, 7, 8, 9] z w ∧ rG w g) 8 (by omega) (fun r i w hi hI => Or.inl ?_) (fun r w hI => ?_) 0 (Nat.zero_le _) z ⟨cf.rfl', fun k hk => absurd hk (Nat.not_lt_zero _)⟩
  · obtain ⟨cw, hk⟩ := hI
    have i8 : inb (nI i) 8 = true := inb_nI hi (by decide)
    refine ⟨sA (sA (sA (sA (sA w 5 (upd (w.2 5) i (z.2 22 (b + i)))) 6 (upd (w.2 6) i (z.2 22 (b + 8 + i)))) 7 (upd (w.2 7) i (z.2 22 (b + 16 + i)))) 8 (upd (w.2 8) i (z.2 22 (b + 24 + i)))) 9 (upd (w.2 9) i (z.2 22 (b + 32 + i))), ?_, ((((cw.sA (Or.inr (by decide))).sA (Or.inr (by decide))).sA (Or.inr (by decide))).sA (Or.inr (by decide))).sA (Or.inr (by decide)), fun k hk' => ?_⟩
    · unfold b_X7_takePage_22_2
      rw [if_neg (show ¬ (8 : Int32) ≤ nI i from at_not (n := 8) rfl hi (by decide))]
      simp only [l16, l24, l32, show (8 : Int32) = nI 8 from rfl, nI_add, bn, i8, if_true, inb_nI (show b + i < 420 by omega) (by decide), inb_nI (show b + 8 + i < 420 by omega) (by decide), inb_nI (show b + 16 + i < 420 by omega) (by decide), inb_nI (show b + 24 + i < 420 by omega) (by decide), inb_nI (show b + 32 + i < 420 by omega) (by decide), cl_nI (show i < 2 ^ 31 by omega), cl_nI (show b + i < 2 ^ 31 by omega), cl_nI (show b + 8 + i < 2 ^ 31 by omega), cl_nI (show b + 16 + i < 2 ^ 31 by omega), cl_nI (show b + 24 + i < 2 ^ 31 by omega), cl_nI (show b + 32 + i < 2 ^ 31 by omega), nI_1]
      rw [← cw.2 22 (by decide) (by decide)]
      rfl
    · have t : ∀ j (f0 : Nat → Int32) (x : Int32), upd f0 i x j = if j = i then x else f0 j := fun j f0 x => upd_if
      by_cases q : k = i
      · subst q
        exact ⟨pk_us, pk_us, pk_us, pk_us, pk_us⟩
      · obtain ⟨k1, k2, k3, k4, k5⟩ := hk k (by omega)
        exact ⟨(pk_un q).trans k1, (pk_un q).trans k2, (pk_un q).trans k3, (pk_un q).trans k4, (pk_un q).trans k5⟩
  · obtain ⟨cw, hk⟩ := hI
    refine ⟨sI (sI w 4 (nI (cN g))) 11 (cI g 1), ?_, (cw.sI (Or.inr (by decide))).sI (Or.inr (by decide)), ?_, hg, fun i hi => ?_, sI_e⟩
    · unfold b_X7_takePage_22_2
      rw [if_pos (show (8 : Int32) ≤ nI 8 by decide)]
      simp only [l40, l41, nI_add, bn, if_true, inb_nI (show b + 40 < 420 by omega) (by decide), inb_nI (show b + 41 < 420 by omega) (by decide), cl_nI (show b + 40 < 2 ^ 31 by omega), cl_nI (show b + 41 < 2 ^ 31 by omega), sI_2]
      rw [cw.2 22 (by decide) (by decide), h1, h2]
    · rw [sI_n (by decide), sI_e]
    · simp only [sI_2]
      obtain ⟨k1, k2, k3, k4, k5⟩ := hk i (by omega)
      obtain ⟨g0, g1, g2, g3, g4⟩ := h3 i hi
      rw [k1, k2, k3, k4, k5]
      exact ⟨g0, g1, g2, g3, g4⟩
theorem m_lay24 {z : Ob} {c : Cr} (h : rG z c) {b : Nat} (hb : b + 42 ≤ 90) : ∃ w, f_X7_layPage_24 z (nI b) = some w ∧ cf [] [24] z w ∧ rP (w.2 24) b c ∧ ∀ j, j < b ∨ b + 42 ≤ j → w.2 24 j = z.2 24 j := by
  obtain ⟨h1, h2, h3, h4⟩ := h
  refine lpA (B := b_X7_layPage_24_2 (nI b)) (fun i w => cf [] [24] z w ∧ (∀ j, j < b ∨ b + 42 ≤ j → w.2 24 j = z.2 24 j) ∧ ∀ k, k < i → w.2 24 (b + k) = z.2 5 k ∧ w.2 24 (b + 8 + k) = z.2 6 k ∧ w.2 24 (b + 16 + k) = z.2 7 k ∧ w.2 24 (b + 24 + k) = z.2 8 k ∧ w.2 24 (b + 32 + k) = z.2 9 k) (fun o => ∃ w, o = some w ∧ cf [] [24] z w ∧ rP (w.2 24) b c ∧ ∀ j, j < b ∨ b + 42 ≤ j → w.2 24 j = z.2 24 j) 8 (by omega) (fun r i w hi hI => Or.inl ?_) (fun r w hI => ?_) 0 (Nat.zero_le _) z ⟨cf.rfl', fun _ _ => rfl, fun k hk => absurd hk (Nat.not_lt_zero _)⟩
  · obtain ⟨cw, ho, hk⟩ := hI
    have i8 : inb (nI i) 8 = true := inb_nI hi (by decide)
    refine ⟨sA w 24 (upd (upd (upd (upd (upd (w.2 24) (b + i) (z.2 5 i)) (b + 8 + i) (z.2 6 i)) (b + 16 + i) (z.2 7 i)) (b + 24 + i) (z.2 8 i)) (b + 32 + i) (z.2 9 i)), ?_, cw.sA (Or.inr (by decide)), fun j hj => ?_, fun k hk' => ?_⟩
    · unfold b_X7_layPage_24_2
      rw [if_neg (show ¬ (8 : Int32) ≤ nI i from at_not (n := 8) rfl hi (by decide))]
      simp only [l16, l24, l32, show (8 : Int32) = nI 8 from rfl, nI_add, bn, i8, if_true, inb_nI (show b + i < 90 by omega) (by decide), inb_nI (show b + 8 + i < 90 by omega) (by decide), inb_nI (show b + 16 + i < 90 by omega) (by decide), inb_nI (show b + 24 + i < 90 by omega) (by decide), inb_nI (show b + 32 + i < 90 by omega) (by decide), cl_nI (show i < 2 ^ 31 by omega), cl_nI (show b + i < 2 ^ 31 by omega), cl_nI (show b + 8 + i < 2 ^ 31 by omega), cl_nI (show b + 16 + i < 2 ^ 31 by omega), cl_nI (show b + 24 + i < 2 ^ 31 by omega), cl_nI (show b + 32 + i < 2 ^ 31 by omega), nI_1]
      rw [sA_e, sA_e, sA_e, sA_e, sA_n (by decide), sA_n (by decide), sA_n (by decide), sA_n (by decide), sA_n (by decide), sA_n (by decide), sA_n (by decide), sA_n (by decide), sA_n (by decide), sA_n (by decide), cw.2 5 (by decide) (by decide), cw.2 6 (by decide) (by decide), cw.2 7 (by decide) (by decide), cw.2 8 (by decide) (by decide), cw.2 9 (by decide) (by decide)]
      congr 1
      unfold sA
      rw [pI_pI, pI_pI, pI_pI, pI_pI]
    · rw [sA_e]
      simp only [upd_if]
      rw [if_neg (by omega), if_neg (by omega), if_neg (by omega), if_neg (by omega), if_neg (by omega)]
      exact ho j hj
    · rw [sA_e]
      simp only [upd_if]
      by_cases q : k = i
      · subst q
        refine ⟨?_, ?_, ?_, ?_, ?_⟩
        · rw [if_neg (by omega), if_neg (by omega), if_neg (by omega), if_neg (by omega), if_pos rfl]
        · rw [if_neg (by omega), if_neg (by omega), if_neg (by omega), if_pos rfl]
        · rw [if_neg (by omega), if_neg (by omega), if_pos rfl]
        · rw [if_neg (by omega), if_pos rfl]
        · rw [if_pos rfl]
      · obtain ⟨k1, k2, k3, k4, k5⟩ := hk k (by omega)
        refine ⟨?_, ?_, ?_, ?_, ?_⟩
        · rw [if_neg (by omega), if_neg (by omega), if_neg (by omega), if_neg (by omega), if_neg (by omega)]; exact k1
        · rw [if_neg (by omega), if_neg (by omega), if_neg (by omega), if_neg (by omega), if_neg (by omega)]; exact k2
        · rw [if_neg (by omega), if_neg (by omega), if_neg (by omega), if_neg (by omega), if_neg (by omega)]; exact k3
        · rw [if_neg (by omega), if_neg (by omega), if_neg (by omega), if_neg (by omega), if_neg (by omega)]; exact k4
        · rw [if_neg (by omega), if_neg (by omega), if_neg (by omega), if_neg (by omega), if_neg (by omega)]; exact k5
  · obtain ⟨cw, ho, hk⟩ := hI
    refine ⟨sA w 24 (upd (upd (w.2 24) (b + 40) (z.1 4)) (b + 41) (z.1 11)), ?_, cw.sA (Or.inr (by decide)), ⟨?_, ?_, fun i hi => ?_⟩, fun j hj => ?_⟩
    · unfold b_X7_layPage_24_2
      rw [if_pos (show (8 : Int32) ≤ nI 8 by decide)]
      simp only [l40, l41, nI_add, bn, if_true, inb_nI (show b + 40 < 90 by omega) (by decide), inb_nI (show b + 41 < 90 by omega) (by decide), cl_nI (show b + 40 < 2 ^ 31 by omega), cl_nI (show b + 41 < 2 ^ 31 by omega), sA_1]
      rw [sA_e, cw.1 4 (by decide) (by decide), cw.1 11 (by decide) (by decide)]
      unfold sA
      rw [pI_pI]
    · rw [sA_e]
      simp only [upd_if]
      rw [if_neg (by omega), if_pos trivial]; exact h1
    · rw [sA_e]
      simp only [upd_if]
      rw [if_pos trivial]; exact h4
    · rw [sA_e]
      simp only [upd_if]
      obtain ⟨g0, g1, g2, g3, g4⟩ := h3 i hi
      obtain ⟨k1, k2, k3, k4, k5⟩ := hk i (by omega)
      refine ⟨?_, ?_, ?_, ?_, ?_⟩
      · rw [if_neg (by omega), if_neg (by omega), k1]; exact g0
      · rw [if_neg (by omega), if_neg (by omega), k2]; exact g1
      · rw [if_neg (by omega), if_neg (by omega), k3]; exact g2
      · rw [if_neg (by omega), if_neg (by omega), k4]; exact g3
      · rw [if_neg (by omega), if_neg (by omega), k5]; exact g4
    · rw [sA_e]
      simp only [upd_if]
      rw [if_neg (by omega), if_neg (by omega)]
      exact ho j hj
theorem m_take24 {z : Ob} {g : Cr} {b : Nat} (hb : b + 42 ≤ 90) (hg : cN g ≤ 8) (h : rP (z.2 24) b g) : ∃ w, f_X7_takePage_24 z (nI b) = some w ∧ cf [4, 11] [5, 6, 7, 8, 9] z w ∧ rG w g := by
  obtain ⟨h1, h2, h3⟩ := h
  refine lpA (B := b_X7_takePage_24_2 (nI b)) (fun i w => cf [4, 11] [5, 6, 7, 8, 9] z w ∧ ∀ k, k < i → w.2 5 k = z.2 24 (b + k) ∧ w.2 6 k = z.2 24 (b + 8 + k) ∧ w.2 7 k = z.2 24 (b + 16 + k) ∧ w.2 8 k = z.2 24 (b + 24 + k) ∧ w.2 9 k = z.2 24 (b + 32 + k)) (fun o => ∃ w, o = some w ∧ cf [4, 11] [5, 6, 7, 8, 9] z w ∧ rG w g) 8 (by omega) (fun r i w hi hI => Or.inl ?_) (fun r w hI => ?_) 0 (Nat.zero_le _) z ⟨cf.rfl', fun k hk => absurd hk (Nat.not_lt_zero _)⟩
  · obtain ⟨cw, hk⟩ := hI
    have i8 : inb (nI i) 8 = true := inb_nI hi (by decide)
    refine ⟨sA (sA (sA (sA (sA w 5 (upd (w.2 5) i (z.2 24 (b + i)))) 6 (upd (w.2 6) i (z.2 24 (b + 8 + i)))) 7 (upd (w.2 7) i (z.2 24 (b + 16 + i)))) 8 (upd (w.2 8) i (z.2 24 (b + 24 + i)))) 9 (upd (w.2 9) i (z.2 24 (b + 32 + i))), ?_, ((((cw.sA (Or.inr (by decide))).sA (Or.inr (by decide))).sA (Or.inr (by decide))).sA (Or.inr (by decide))).sA (Or.inr (by decide)), fun k hk' => ?_⟩
    · unfold b_X7_takePage_24_2
      rw [if_neg (show ¬ (8 : Int32) ≤ nI i from at_not (n := 8) rfl hi (by decide))]
      simp only [l16, l24, l32, show (8 : Int32) = nI 8 from rfl, nI_add, bn, i8, if_true, inb_nI (show b + i < 90 by omega) (by decide), inb_nI (show b + 8 + i < 90 by omega) (by decide), inb_nI (show b + 16 + i < 90 by omega) (by decide), inb_nI (show b + 24 + i < 90 by omega) (by decide), inb_nI (show b + 32 + i < 90 by omega) (by decide), cl_nI (show i < 2 ^ 31 by omega), cl_nI (show b + i < 2 ^ 31 by omega), cl_nI (show b + 8 + i < 2 ^ 31 by omega), cl_nI (show b + 16 + i < 2 ^ 31 by omega), cl_nI (show b + 24 + i < 2 ^ 31 by omega), cl_nI (show b + 32 + i < 2 ^ 31 by omega), nI_1]
      rw [← cw.2 24 (by decide) (by decide)]
      rfl
    · have t : ∀ j (f0 : Nat → Int32) (x : Int32), upd f0 i x j = if j = i then x else f0 j := fun j f0 x => upd_if
      by_cases q : k = i
      · subst q
        exact ⟨pk_us, pk_us, pk_us, pk_us, pk_us⟩
      · obtain ⟨k1, k2, k3, k4, k5⟩ := hk k (by omega)
        exact ⟨(pk_un q).trans k1, (pk_un q).trans k2, (pk_un q).trans k3, (pk_un q).trans k4, (pk_un q).trans k5⟩
  · obtain ⟨cw, hk⟩ := hI
    refine ⟨sI (sI w 4 (nI (cN g))) 11 (cI g 1), ?_, (cw.sI (Or.inr (by decide))).sI (Or.inr (by decide)), ?_, hg, fun i hi => ?_, sI_e⟩
    · unfold b_X7_takePage_24_2
      rw [if_pos (show (8 : Int32) ≤ nI 8 by decide)]
      simp only [l40, l41, nI_add, bn, if_true, inb_nI (show b + 40 < 90 by omega) (by decide), inb_nI (show b + 41 < 90 by omega) (by decide), cl_nI (show b + 40 < 2 ^ 31 by omega), cl_nI (show b + 41 < 2 ^ 31 by omega), sI_2]
      rw [cw.2 24 (by decide) (by decide), h1, h2]
    · rw [sI_n (by decide), sI_e]
    · simp only [sI_2]
      obtain ⟨k1, k2, k3, k4, k5⟩ := hk i (by omega)
      obtain ⟨g0, g1, g2, g3, g4⟩ := h3 i hi
      rw [k1, k2, k3, k4, k5]
      exact ⟨g0, g1, g2, g3, g4⟩
