/-! PURE 23: rooms read, kept, gone on from -/
def RK (z7 : AS) (z9 : Ob) : Prop := ∃ m, m < 4 ∧ z7.1 = nI m ∧ ∀ s, s < 2 → z9.2 25 s = b32 (m.testBit s) ∧ (m.testBit s = true → ∃ k, cOK k ∧ (∀ i, cS k i = true) ∧ rX (z7.2 s).2 k ∧ rP (z9.2 24) (45 * s) k ∧ z9.2 24 (45 * s + 42) = cI k 0 ∧ z9.2 24 (45 * s + 43) = cI k 2)
theorem RK.c {z7 : AS} {z w : Ob} (h : RK z7 z) (e1 : w.2 24 = z.2 24) (e2 : w.2 25 = z.2 25) : RK z7 w := by
  unfold RK
  rw [e1, e2]
  exact h
theorem RT_of {n : Nat} {T : Nat → Nat} {w0 w9 : Ob} {a b : Nat} {q : Int32} (h : tS n T w0 a q) (h' : mS n T w9 b) : RT w0 w9 n T := ⟨h.1, h.2.1, h'.2.1, fun i hi => ⟨(h.2.2.2.2 i hi).1, (h.2.2.2.2 i hi).2, (h'.2.2.2 i hi).2⟩⟩
def g0 (ea mu : Nat) : Cr := ((0, fun _ => true), (fun k => if k = 0 then nI ea else if k = 1 then nI mu else 0, fun _ _ => 0))
theorem bad_end {m : Nat} {i : Int32} {w0 w1 w2 : Ob} (hm : 0 < m) (h : ¬ w0.1 3 = -9) : fuel4 (b_X4_read_49) m i w0 w1 w2 = some (w0.1 3, w0, w1, w2) := by
  obtain ⟨m, rfl⟩ : ∃ q, m = q + 1 := ⟨m - 1, by omega⟩
  show b_X4_read_49 (fuel4 (b_X4_read_49) m) i w0 w1 w2 = _
  unfold b_X4_read_49 j_X4_read_87
  rw [if_neg h]
  split <;> rfl
theorem room_read {z0 z2 z4 z : Ob} {n : Nat} {T : Nat → Nat} (h : RT z0 z n T) : (∃ w0 w1 w2 w9 g s, f_X4_read z0 z2 z4 = some (-9, w0, w1, w2) ∧ f_X7_readRoom z = some (-9, w9) ∧ RdI n T z n w0 w1 w2 w9 g s) ∨ (∃ q w0 w1 w2 w9, f_X4_read z0 z2 z4 = some (nI q, w0, w1, w2) ∧ f_X7_readRoom z = some (nI q, w9) ∧ RdF n T z q w0 w9) := by
  obtain ⟨hn, a1, a2, a3⟩ := h
  have ne9 : ∀ k, k < 2000 → ¬ nI k = -9 := n9_100
  have fu0 : 0 < FU := by unfold FU; omega
  have t0 : tS n T (sI (sI z0 2 0) 3 (-9)) 0 (-9) := ⟨hn, by rw [sI_n (by decide), sI_n (by decide)]; exact a1, by rw [sI_n (by decide), sI_e]; rfl, sI_e, fun i hi => ⟨(a3 i hi).1, (a3 i hi).2.1⟩⟩
  have m0 : mS n T (sI (sI (sI z 3 0) 16 0) 17 0) 0 := ⟨hn, by rw [sI_n (by decide), sI_n (by decide), sI_n (by decide)]; exact a2, by rw [sI_n (by decide), sI_n (by decide), sI_e]; rfl, fun i hi => ⟨(a3 i hi).1, (a3 i hi).2.2⟩⟩
  have c0 : cf [0, 3, 16, 17, 18, 19] [20, 21] z (sI (sI (sI z 3 0) 16 0) 17 0) := ((cf.rfl'.sI (Or.inr (by decide))).sI (Or.inr (by decide))).sI (Or.inr (by decide))
  have L := x_letter t0 (Nat.zero_le _) (l := 82) (by decide)
  unfold f_X4_read f_X7_readRoom
  simp only [bn]
  have cl1 : f_X1_clear z2 = some (sI (sI (sI (sI (sI z2 6 0) 7 0) 8 0) 10 0) 11 0) := rfl
  have cl5 : f_X5_clear z4 = some (sI z4 2 0) := rfl
  rw [cl1, ob, cl5, ob, m0.2.1]
  by_cases ok0 : 0 < n ∧ T 0 = 82
  · have L1 : f_X4_readLetter (sI (sI z0 2 0) 3 (-9)) 82 = some (sI (sI (sI z0 2 0) 3 (-9)) 2 (nI (0 + 1))) := L.1 ok0
    have t1 := t0.at (0 + 1)
    have m1 := m0.at (0 + 1)
    have c1 := c0.sI (k := 3) (v := nI (0 + 1)) (Or.inr (by decide))
    have hT0 : (sI (sI (sI z 3 0) 16 0) 17 0).2 1 0 = nI (T 0) := (m0.2.2.2 0 ok0.1).2
    have D1 := x_dig09 t1 (show 0 + 1 ≤ n by omega)
    have F1 := m_fig09 m1 (show 0 + 1 ≤ n by omega)
    rw [L1, ob, if_neg (show ¬ nI n = 0 from nI_ne0 (by omega) (by omega)), if_pos (show inb 0 80 = true by decide), show (0 : Int32).toNatClampNeg = 0 from by decide, hT0, if_pos (show nI (T 0) = 82 by rw [ok0.2]; decide)]
    by_cases ok1 : okD n T (0 + 1) 0 9
    · have t2 := t1.at (0 + 1 + 1)
      have m2 := m1.at (0 + 1 + 1)
      rw [D1.1 ok1, b2]
      have F1' : f_X7_figure (sI (sI (sI (sI z 3 0) 16 0) 17 0) 3 1) 0 9 = some (nI (T (0 + 1) - 48), sI (sI (sI (sI (sI z 3 0) 16 0) 17 0) 3 (nI (0 + 1))) 3 (nI (0 + 1 + 1))) := F1.1 ok1
      rw [F1', b2, sI_e, if_neg (ne9 _ (by have := ok1.2; omega))]
      have c2 := (c1.sI (k := 3) (v := nI (0 + 1 + 1)) (Or.inr (by decide))).sI (k := 18) (v := nI (T (0 + 1) - 48)) (Or.inr (by decide))
      have m2' : mS n T (sI (sI (sI (sI (sI (sI z 3 0) 16 0) 17 0) 3 (nI (0 + 1))) 3 (nI (0 + 1 + 1))) 18 (nI (T (0 + 1) - 48))) (0 + 1 + 1) := ⟨m2.1, by rw [sI_n (by decide)]; exact m2.2.1, by rw [sI_n (by decide)]; exact m2.2.2.1, m2.2.2.2⟩
      have D2 := x_dig09 t2 ok1.1
      have F2 := m_fig09 m2' ok1.1
      unfold j_X7_readRoom_73
      simp only [bn]
      by_cases ok2 : okD n T (0 + 1 + 1) 0 9
      · rw [D2.1 ok2, b2, F2.1 ok2, b2, sI_e, if_neg (ne9 _ (by have := ok2.2; omega))]
        have t3 := t2.at (0 + 1 + 1 + 1)
        have m3 := m2'.at (0 + 1 + 1 + 1)
        have c3 := (c2.sI (k := 3) (v := nI (0 + 1 + 1 + 1)) (Or.inr (by decide))).sI (k := 19) (v := nI (T (0 + 1 + 1) - 48)) (Or.inr (by decide))
        have hI : RdI n T z (0 + 1 + 1 + 1) (sI (sI (sI (sI (sI z0 2 0) 3 (-9)) 2 (nI (0 + 1))) 2 (nI (0 + 1 + 1))) 2 (nI (0 + 1 + 1 + 1))) (sI (sI (sI (sI (sI (sI (sI z2 6 0) 7 0) 8 0) 10 0) 11 0) 7 (nI (T (0 + 1) - 48))) 8 (nI (T (0 + 1 + 1) - 48))) (sI z4 2 0) (sI (sI (sI (sI (sI (sI (sI (sI z 3 0) 16 0) 17 0) 3 (nI (0 + 1))) 3 (nI (0 + 1 + 1))) 18 (nI (T (0 + 1) - 48))) 3 (nI (0 + 1 + 1 + 1))) 19 (nI (T (0 + 1 + 1) - 48))) (g0 (T (0 + 1) - 48) (T (0 + 1 + 1) - 48)) 0 := by
          have k1 := ok1.2
          have k2 := ok2.2
          refine ⟨ok2.1, t3, ⟨m3.1, by rw [sI_n (by decide)]; exact m3.2.1, by rw [sI_n (by decide)]; exact m3.2.2.1, m3.2.2.2⟩, c3, ⟨?_, Nat.zero_le _, fun k _ i hi => absurd hi (Nat.not_lt_zero _), ?_⟩, ?_, ?_, ?_, ⟨Nat.zero_le _, fun i hi => absurd hi (Nat.not_lt_zero _), ⟨_, by omega, rfl⟩, ⟨T (0 + 1 + 1) - 48, by omega, rfl⟩, Or.inl rfl⟩, rfl, fun _ => rfl, ?_, fun i hi => absurd hi (Nat.not_lt_zero _), ?_, ?_, Nat.zero_le _, sI_e, ?_, fun i hi => absurd hi (Nat.not_lt_zero _)⟩
          · rw [sI_n (by decide), sI_n (by decide), sI_n (by decide), sI_n (by decide), sI_n (by decide), sI_n (by decide), sI_e]; rfl
          · rw [sI_e]; rfl
          · rw [sI_n (by decide), sI_e]; rfl
          · rw [sI_n (by decide), sI_n (by decide), sI_n (by decide), sI_e]
          · rw [sI_n (by decide), sI_n (by decide), sI_e]
          · rw [sI_n (by decide), sI_n (by decide), sI_n (by decide), sI_n (by decide), sI_n (by decide), sI_n (by decide), sI_e]; rfl
          · rw [sI_n (by decide), sI_n (by decide), sI_e]; rfl
          · rw [sI_e]; rfl
          · rw [sI_n (by decide), sI_n (by decide), sI_n (by decide), sI_n (by decide), sI_n (by decide), sI_e]; rfl
        rcases parts_read 80 _ 0 FU FU _ _ _ _ _ _ (by omega) hI (by omega) (by unfold FU; omega) (by unfold FU; omega) with ⟨w0', w1', w2', w9', g', s', e1, e2, e3⟩ | ⟨q, w0', w1', w2', w9', e1, e2, e3⟩
        · exact Or.inl ⟨w0', w1', w2', w9', g', s', e1, e2, e3⟩
        · exact Or.inr ⟨q, w0', w1', w2', w9', e1, e2, e3⟩
      · have hb := t2.bad (nI (0 + 1 + 1))
        have hbw := bad_w hb (show 0 + 1 + 1 ≤ n from ok1.1)
        have c3 := c2.sI (k := 19) (v := -9) (Or.inr (by decide))
        rw [D2.2 ok2, b2, F2.2 ok2, b2, sI_e, if_pos rfl, bad_end fu0 hbw, hb.2.2.2.1]
        refine Or.inr ⟨0 + 1 + 1, _, _, _, sI (sI (sI (sI (sI (sI (sI z 3 0) 16 0) 17 0) 3 (nI (0 + 1))) 3 (nI (0 + 1 + 1))) 18 (nI (T (0 + 1) - 48))) 19 (-9), rfl, ?_, ok1.1, ⟨_, hb⟩, ⟨m2'.1, by rw [sI_n (by decide)]; exact m2'.2.1, by rw [sI_n (by decide)]; exact m2'.2.2.1, m2'.2.2.2⟩, c3⟩
        rw [sI_n (by decide), m2'.2.2.1]
    · have hb := t1.bad (nI (0 + 1))
      have hbw := bad_w hb (show 0 + 1 ≤ n by omega)
      have F1' : f_X7_figure (sI (sI (sI (sI z 3 0) 16 0) 17 0) 3 1) 0 9 = some (-9, sI (sI (sI (sI z 3 0) 16 0) 17 0) 3 (nI (0 + 1))) := F1.2 ok1
      have c3 := (c1.sI (k := 18) (v := -9) (Or.inr (by decide))).sI (k := 19) (v := -9) (Or.inr (by decide))
      unfold j_X7_readRoom_73
      simp only [bn]
      rw [D1.2 ok1, b2, x_digitW hbw, b2, F1', b2, sI_e, if_pos rfl, sI_e, if_pos rfl, bad_end fu0 hbw, hb.2.2.2.1]
      refine Or.inr ⟨0 + 1, _, _, _, sI (sI (sI (sI (sI (sI z 3 0) 16 0) 17 0) 3 (nI (0 + 1))) 18 (-9)) 19 (-9), rfl, ?_, (show 0 + 1 ≤ n by omega), ⟨_, hb⟩, ⟨m1.1, by rw [sI_n (by decide), sI_n (by decide)]; exact m1.2.1, by rw [sI_n (by decide), sI_n (by decide)]; exact m1.2.2.1, m1.2.2.2⟩, c3⟩
      rw [sI_n (by decide), sI_n (by decide), m1.2.2.1]
  · have L0 : f_X4_readLetter (sI (sI z0 2 0) 3 (-9)) 82 = some (sI (sI (sI z0 2 0) 3 (-9)) 3 (nI 0)) := L.2 ok0
    have hb := t0.bad (nI 0)
    have hbw := bad_w hb (Nat.zero_le n)
    rw [L0, ob, x_digitW hbw, b2, x_digitW hbw, b2, bad_end fu0 hbw, hb.2.2.2.1]
    refine Or.inr ⟨0, _, _, _, sI (sI (sI z 3 0) 16 0) 17 0, rfl, ?_, Nat.zero_le _, ⟨_, hb⟩, m0, c0⟩
    by_cases e : n = 0
    · rw [if_pos (by rw [e]; decide)]
      rfl
    · have hT0 : (sI (sI (sI z 3 0) 16 0) 17 0).2 1 0 = nI (T 0) := (m0.2.2.2 0 (by omega)).2
      have hT := (a3 0 (by omega)).1
      rw [if_neg (show ¬ nI n = 0 from nI_ne0 (by omega) (by omega)), if_pos (show inb 0 80 = true by decide), show (0 : Int32).toNatClampNeg = 0 from by decide, hT0, if_neg (show ¬ nI (T 0) = 82 from fun x => ok0 ⟨by omega, (nI_eq (b := 82) (by omega) (by decide)).mp x⟩)]
      rfl
theorem b4 {α β γ δ ε : Type} {a : α} {b : β} {c : γ} {d : δ} {f : α → β → γ → δ → Option ε} : bd4 (some (a, b, c, d)) f = f a b c d := rfl
theorem T_fault {z0 z2 z4 z9 : Ob} {n : Nat} {T : Nat → Nat} (h : RT z0 z9 n T) : ∃ r z0' z2' z4' w, f_X6_fault z0 z2 z4 = some (r, z0', z2', z4') ∧ f_X7_fault z9 = some (r, w) ∧ RT z0' w n T ∧ cf [0, 3, 16, 17, 18, 19] [20, 21] z9 w := by
  have c0 : cf [0, 3, 16, 17, 18, 19] [20, 21] z9 (sI z9 0 0) := cf.rfl'.sI (Or.inr (by decide))
  have hh : RT z0 (sI z9 0 0) n T := ⟨h.1, h.2.1, by rw [sI_n (by decide)]; exact h.2.2.1, h.2.2.2⟩
  unfold f_X6_fault f_X7_fault
  rw [bn]
  rcases room_read (z2 := z2) (z4 := z4) hh with ⟨w0, w1, w2, w9, g, s, e1, e2, e3⟩ | ⟨q, w0, w1, w2, w9, e1, e2, e3⟩
  · rw [e1, e2, b4, b2]
    exact ⟨-9, w0, w1, w2, w9, rfl, rfl, RT_of e3.2.1 e3.2.2.1, c0.trans e3.2.2.2.1⟩
  · rw [e1, e2, b4, b2]
    obtain ⟨hq, ⟨a, ht⟩, hm, hc⟩ := e3
    exact ⟨nI q, w0, w1, w2, w9, rfl, rfl, RT_of ht hm, c0.trans hc⟩
theorem x_waresCopy {z3 w2 : Ob} {s : Nat} (hs : s ≤ 5) (h : w2.1 2 = nI s) : ∃ w, f_X5_copyFrom z3 w2 = some w ∧ w.1 2 = nI s ∧ ∀ i, i < s → w.2 0 i = w2.2 0 i ∧ w.2 1 i = w2.2 1 i := by
  unfold f_X5_copyFrom
  rw [bn, h]
  refine lpA (B := b_X5_copyFrom_10 w2) (fun k w => w.1 2 = nI s ∧ ∀ i, i < k → w.2 0 i = w2.2 0 i ∧ w.2 1 i = w2.2 1 i) (fun o => ∃ w, o = some w ∧ w.1 2 = nI s ∧ ∀ i, i < s → w.2 0 i = w2.2 0 i ∧ w.2 1 i = w2.2 1 i) s (by omega) (fun r k w hk hI => Or.inl ?_) (fun r w hI => ?_) 0 (Nat.zero_le _) _ ⟨sI_e, fun i hi => absurd hi (Nat.not_lt_zero _)⟩
  · obtain ⟨e1, e2⟩ := hI
    have hb : inb (nI k) 5 = true := inb_nI (by omega) (by decide)
    refine ⟨sA (sA w 0 (upd (w.2 0) k (w2.2 0 k))) 1 (upd (w.2 1) k (w2.2 1 k)), ?_, e1, fun i hi => ?_⟩
    · unfold b_X5_copyFrom_10
      rw [e1, if_neg (nI_ge hk (by omega))]
      simp only [if_pos hb, bn, cl_nI (show k < 2 ^ 31 by omega), nI_1]
      rfl
    · rw [sA_n (by decide), sA_e, sA_e, upd_if, upd_if]
      by_cases e : i = k
      · rw [if_pos e, if_pos e, e]; exact ⟨rfl, rfl⟩
      · rw [if_neg e, if_neg e]; exact e2 i (by omega)
  · obtain ⟨e1, e2⟩ := hI
    refine ⟨w, ?_, e1, e2⟩
    unfold b_X5_copyFrom_10
    rw [e1, if_pos (nI_le (Nat.le_refl _) (by omega))]
/-- the reference takes up what is read -/
theorem m_rings {u : Ob} {g : Cr} (h4 : u.1 4 = nI (cN g)) (h8 : cN g ≤ 8) (h20 : ∀ i, i < cN g → u.2 20 (5 * i) = cA g 0 i ∧ u.2 20 (5 * i + 1) = cA g 1 i ∧ u.2 20 (5 * i + 2) = cA g 2 i ∧ u.2 20 (5 * i + 3) = cA g 3 i ∧ u.2 20 (5 * i + 4) = cA g 4 i) : ∃ w, fuel2 (b_X7_room_56) FU 0 u = fuel2 (b_X7_room_150) FU 0 w ∧ w.1 = u.1 ∧ cf [] [5, 6, 7, 8, 9] u w ∧ ∀ i, i < cN g → w.2 5 i = cA g 0 i ∧ w.2 6 i = cA g 1 i ∧ w.2 7 i = cA g 2 i ∧ w.2 8 i = cA g 3 i ∧ w.2 9 i = cA g 4 i := by
  refine lpA (B := b_X7_room_56) (fun k w => w.1 = u.1 ∧ cf [] [5, 6, 7, 8, 9] u w ∧ ∀ i, i < k → w.2 5 i = cA g 0 i ∧ w.2 6 i = cA g 1 i ∧ w.2 7 i = cA g 2 i ∧ w.2 8 i = cA g 3 i ∧ w.2 9 i = cA g 4 i) (fun o => ∃ w, o = fuel2 (b_X7_room_150) FU 0 w ∧ w.1 = u.1 ∧ cf [] [5, 6, 7, 8, 9] u w ∧ ∀ i, i < cN g → w.2 5 i = cA g 0 i ∧ w.2 6 i = cA g 1 i ∧ w.2 7 i = cA g 2 i ∧ w.2 8 i = cA g 3 i ∧ w.2 9 i = cA g 4 i) (cN g) (by omega) (fun r k w hk hI => Or.inl ?_) (fun r w hI => ?_) 0 (Nat.zero_le _) u ⟨rfl, cf.rfl', fun i hi => absurd hi (Nat.not_lt_zero _)⟩
  · obtain ⟨e1, cw, e2⟩ := hI
    have hb : inb (nI k) 8 = true := inb_nI (by omega) (by decide)
    have w20 : w.2 20 = u.2 20 := cw.2 20 (by decide) (by decide)
    obtain ⟨k0, k1, k2, k3, k4⟩ := h20 k hk
    refine ⟨sA (sA (sA (sA (sA w 5 (upd (w.2 5) k (cA g 0 k))) 6 (upd (w.2 6) k (cA g 1 k))) 7 (upd (w.2 7) k (cA g 2 k))) 8 (upd (w.2 8) k (cA g 3 k))) 9 (upd (w.2 9) k (cA g 4 k)), ?_, e1, ((((cw.sA (Or.inr (by decide))).sA (Or.inr (by decide))).sA (Or.inr (by decide))).sA (Or.inr (by decide))).sA (Or.inr (by decide)), fun i hi => ?_⟩
    · have e5 : (5 : Int32) * nI k = nI (5 * k) := by rw [show (5 : Int32) = nI 5 from rfl, pk_mul]
      unfold b_X7_room_56
      rw [e1, h4, if_neg (nI_ge hk (by omega))]
      simp only [e5, show (1 : Int32) = nI 1 from rfl, show (2 : Int32) = nI 2 from rfl, show (3 : Int32) = nI 3 from rfl, show (4 : Int32) = nI 4 from rfl, nI_add, if_pos hb, bn, cl_nI (show k < 2 ^ 31 by omega), if_pos (inb_nI (show 5 * k < 40 by omega) (show 40 < 2 ^ 31 by decide)), if_pos (inb_nI (show 5 * k + 1 < 40 by omega) (show 40 < 2 ^ 31 by decide)), if_pos (inb_nI (show 5 * k + 2 < 40 by omega) (show 40 < 2 ^ 31 by decide)), if_pos (inb_nI (show 5 * k + 3 < 40 by omega) (show 40 < 2 ^ 31 by decide)), if_pos (inb_nI (show 5 * k + 4 < 40 by omega) (show 40 < 2 ^ 31 by decide)), cl_nI (show 5 * k < 2 ^ 31 by omega), cl_nI (show 5 * k + 1 < 2 ^ 31 by omega), cl_nI (show 5 * k + 2 < 2 ^ 31 by omega), cl_nI (show 5 * k + 3 < 2 ^ 31 by omega), cl_nI (show 5 * k + 4 < 2 ^ 31 by omega)]
      rw [← k0, ← k1, ← k2, ← k3, ← k4, ← w20]
      rfl
    · by_cases e : i = k
      · subst e
        exact ⟨pk_us, pk_us, pk_us, pk_us, pk_us⟩
      · obtain ⟨i0, i1, i2, i3, i4⟩ := e2 i (by omega)
        exact ⟨(pk_un e).trans i0, (pk_un e).trans i1, (pk_un e).trans i2, (pk_un e).trans i3, (pk_un e).trans i4⟩
  · obtain ⟨e1, cw, e2⟩ := hI
    refine ⟨w, ?_, e1, cw, e2⟩
    unfold b_X7_room_56
    rw [e1, h4, if_pos (nI_le (Nat.le_refl _) (by omega))]
theorem nar_0 : vp_nar .boolean 0 = 0 := by decide
theorem nar_1 : vp_nar .boolean 1 = 1 := by decide
theorem m_stuffsIn {u : Ob} {s : Nat} (hs : s ≤ 5) (h13 : u.1 13 = nI s) : ∃ w, fuel2 (b_X7_room_150) FU 0 u = some (u.1 4, w) ∧ cf [23] [14, 15, 25] u w ∧ w.1 23 = 0 ∧ w.2 25 0 = 0 ∧ w.2 25 1 = 0 ∧ ∀ i, i < s → w.2 14 i = u.2 21 (2 * i) ∧ w.2 15 i = u.2 21 (2 * i + 1) := by
  refine lpA (B := b_X7_room_150) (fun k w => w.1 = u.1 ∧ cf [23] [14, 15, 25] u w ∧ ∀ i, i < k → w.2 14 i = u.2 21 (2 * i) ∧ w.2 15 i = u.2 21 (2 * i + 1)) (fun o => ∃ w, o = some (u.1 4, w) ∧ cf [23] [14, 15, 25] u w ∧ w.1 23 = 0 ∧ w.2 25 0 = 0 ∧ w.2 25 1 = 0 ∧ ∀ i, i < s → w.2 14 i = u.2 21 (2 * i) ∧ w.2 15 i = u.2 21 (2 * i + 1)) s (by omega) (fun r k w hk hI => Or.inl ?_) (fun r w hI => ?_) 0 (Nat.zero_le _) u ⟨rfl, cf.rfl', fun i hi => absurd hi (Nat.not_lt_zero _)⟩
  · obtain ⟨e1, cw, e2⟩ := hI
    have hb : inb (nI k) 5 = true := inb_nI (by omega) (by decide)
    have w21 : w.2 21 = u.2 21 := cw.2 21 (by decide) (by decide)
    refine ⟨sA (sA w 14 (upd (w.2 14) k (u.2 21 (2 * k)))) 15 (upd (w.2 15) k (u.2 21 (2 * k + 1))), ?_, e1, (cw.sA (Or.inr (by decide))).sA (Or.inr (by decide)), fun i hi => ?_⟩
    · have e5 : (2 : Int32) * nI k = nI (2 * k) := by rw [show (2 : Int32) = nI 2 from rfl, pk_mul]
      unfold b_X7_room_150
      rw [e1, h13, if_neg (nI_ge hk (by omega))]
      simp only [e5, nI_1, if_pos hb, bn, cl_nI (show k < 2 ^ 31 by omega), if_pos (inb_nI (show 2 * k < 10 by omega) (show 10 < 2 ^ 31 by decide)), if_pos (inb_nI (show 2 * k + 1 < 10 by omega) (show 10 < 2 ^ 31 by decide)), cl_nI (show 2 * k < 2 ^ 31 by omega), cl_nI (show 2 * k + 1 < 2 ^ 31 by omega)]
      rw [← w21]
      rfl
    · by_cases e : i = k
      · subst e
        exact ⟨pk_us, pk_us⟩
      · obtain ⟨i0, i1⟩ := e2 i (by omega)
        exact ⟨(pk_un e).trans i0, (pk_un e).trans i1⟩
  · obtain ⟨e1, cw, e2⟩ := hI
    refine ⟨sA (sA (sI w 23 0) 25 (upd (w.2 25) 0 0)) 25 (upd (upd (w.2 25) 0 0) 1 0), ?_, ((cw.sI (Or.inr (by decide))).sA (Or.inr (by decide))).sA (Or.inr (by decide)), ?_, ?_, ?_, e2⟩
    · unfold b_X7_room_150
      rw [e1, h13, if_pos (nI_le (Nat.le_refl _) (by omega))]
      simp only [bn, if_pos (show inb 0 2 = true by decide), if_pos (show inb 1 2 = true by decide), nar_0, show (0 : Int32).toNatClampNeg = 0 from by decide, show (1 : Int32).toNatClampNeg = 1 from by decide]
      rw [sA_e, sI_2, sA_1, sA_1, sI_n (by decide), e1]
    · rw [sA_1, sA_1, sI_e]
    · rw [sA_e, upd_if, if_neg (by decide), upd_if, if_pos rfl]
    · rw [sA_e, upd_if, if_pos rfl]
theorem T_room {z0 z1 z2 z3 z4 z9 : Ob} {z5 z7 : AS} {c : Cr} {n : Nat} {T : Nat → Nat} (hT : RT z0 z9 n T) (h : RQ z1 z9 c) (hW : RW z3 z9) (hA : RA z5 z9) (hK : RK z7 z9) : ∃ r z0' z1' z2' z3' z4' z5' z7' w c', f_X6_room z0 z1 z2 z3 z4 z5 z7 = some (r, z0', z1', z2', z3', z4', z5', z7') ∧ f_X7_room z9 = some (r, w) ∧ RT z0' w n T ∧ RQ z1' w c' ∧ RW z3' w ∧ RA z5' w ∧ RK z7' w ∧ w.1 26 = z9.1 26 ∧ w.2 27 = z9.2 27 ∧ w.2 28 = z9.2 28 := by
  have c0 : cf [0, 3, 16, 17, 18, 19] [20, 21] z9 (sI z9 0 0) := cf.rfl'.sI (Or.inr (by decide))
  have hh : RT z0 (sI z9 0 0) n T := ⟨hT.1, hT.2.1, by rw [sI_n (by decide)]; exact hT.2.2.1, hT.2.2.2⟩
  unfold f_X6_room f_X7_room
  rw [bn]
  rcases room_read (z2 := z2) (z4 := z4) hh with ⟨w0, w1, w2, w9, g, s, e1, e2, e3⟩ | ⟨q, w0, w1, w2, w9, e1, e2, e3⟩
  · obtain ⟨-, t0, m0, cw, hr, r7, r10, r11, hok, g2, gs, m16, m20, m18, m19, hs, w22, m17, m21⟩ := e3
    obtain ⟨v, ev, rv, v11⟩ := x_copyFrom (z0 := z1) hr r7 (by rw [r10, g2]) (Or.inl g2) gs
    obtain ⟨u, eu, u2, ua⟩ := x_waresCopy (z3 := z3) hs w22
    have c9 := c0.trans cw
    rw [e1, e2, b4, b2, if_pos rfl, if_pos rfl]
    simp only [bn, ev, eu, ob]
    have cl0 : f_X0_clear z5 = some (0, z5.2) := rfl
    have cl3 : f_X3_clear z7 = some (0, z7.2) := rfl
    rw [cl0, ob, cl3, ob]
    -- the reference
    generalize hu : sI (sI (sI (sI (sI w9 4 (w9.1 16)) 13 ((sI w9 4 (w9.1 16)).1 17)) 10 ((sI (sI w9 4 (w9.1 16)) 13 ((sI w9 4 (w9.1 16)).1 17)).1 18)) 11 ((sI (sI (sI w9 4 (w9.1 16)) 13 ((sI w9 4 (w9.1 16)).1 17)) 10 ((sI (sI w9 4 (w9.1 16)) 13 ((sI w9 4 (w9.1 16)).1 17)).1 18)).1 19)) 12 0 = b
    have b4' : b.1 4 = nI (cN g) := by rw [← hu, sI_n (by decide), sI_n (by decide), sI_n (by decide), sI_n (by decide), sI_e]; exact m16
    have b13 : b.1 13 = nI s := by rw [← hu, sI_n (by decide), sI_n (by decide), sI_n (by decide), sI_e, sI_n (by decide)]; exact m17
    have b10 : b.1 10 = cI g 0 := by rw [← hu, sI_n (by decide), sI_n (by decide), sI_e, sI_n (by decide), sI_n (by decide)]; exact m18
    have b11 : b.1 11 = cI g 1 := by rw [← hu, sI_n (by decide), sI_e, sI_n (by decide), sI_n (by decide), sI_n (by decide)]; exact m19
    have b12 : b.1 12 = 0 := by rw [← hu, sI_e]
    have b26 : b.1 26 = z9.1 26 := by rw [← hu, sI_n (by decide), sI_n (by decide), sI_n (by decide), sI_n (by decide), sI_n (by decide)]; exact c9.1 26 (by decide) (by decide)
    have bb : b.2 = w9.2 := by rw [← hu]; rfl
    have b2' : b.1 2 = w9.1 2 := by rw [← hu, sI_n (by decide), sI_n (by decide), sI_n (by decide), sI_n (by decide), sI_n (by decide)]
    clear hu
    obtain ⟨d, ed, d1, cd, da⟩ := m_rings b4' hok.1 (by rw [bb]; exact m20)
    obtain ⟨f, ef, cf', f23, f250, f251, fa⟩ := m_stuffsIn (u := d) hs (by rw [d1]; exact b13)
    have d21 : d.2 21 = w9.2 21 := by rw [cd.2 21 (by decide) (by decide), bb]
    rw [ed, ef]
    refine ⟨nI (cN g), w0, v, w1, u, w2, (0, z5.2), (0, z7.2), f, g, by rw [rv.1], by rw [d1, b4'], ?_, ⟨rv, v11, ⟨?_, hok.1, fun i hi => ?_, ?_, ?_, ?_, gs⟩, hok⟩, ⟨s, hs, u2, ?_, fun i hi => ?_⟩, ⟨0, by decide, rfl, f23, fun _ => c, fun p hp => absurd hp (Nat.not_lt_zero _)⟩, ⟨0, by decide, rfl, fun s hs => ?_⟩, ?_, ?_, ?_⟩
    · refine ⟨t0.1, t0.2.1, ?_, fun i hi => ⟨(t0.2.2.2.2 i hi).1, (t0.2.2.2.2 i hi).2, ?_⟩⟩
      · rw [cf'.1 2 (by decide) (by decide), d1, b2']; exact m0.2.1
      · rw [cf'.2 1 (by decide) (by decide), cd.2 1 (by decide) (by decide), bb]; exact (m0.2.2.2 i hi).2
    · rw [cf'.1 4 (by decide) (by decide), d1]; exact b4'
    · rw [cf'.2 5 (by decide) (by decide), cf'.2 6 (by decide) (by decide), cf'.2 7 (by decide) (by decide), cf'.2 8 (by decide) (by decide), cf'.2 9 (by decide) (by decide)]; exact da i hi
    · rw [cf'.1 10 (by decide) (by decide), d1]; exact b10
    · rw [cf'.1 11 (by decide) (by decide), d1]; exact b11
    · rw [cf'.1 12 (by decide) (by decide), d1, g2]; exact b12
    · rw [cf'.1 13 (by decide) (by decide), d1]; exact b13
    · obtain ⟨q1, q2, q3, q4⟩ := m21 i hi
      obtain ⟨q5, q6⟩ := ua i hi
      obtain ⟨q7, q8⟩ := fa i hi
      rw [q5, q6, q7, q8, d21]
      exact ⟨q1, q2, q3, q4⟩
    · have ez : (0 : Nat).testBit s = false := Nat.zero_testBit s
      rw [ez]
      refine ⟨?_, fun x => by cases x⟩
      rcases (show s = 0 ∨ s = 1 by omega) with rfl | rfl
      · exact f250
      · exact f251
    · rw [cf'.1 26 (by decide) (by decide), d1]; exact b26
    · rw [cf'.2 27 (by decide) (by decide), cd.2 27 (by decide) (by decide), bb]; exact c9.2 27 (by decide) (by decide)
    · rw [cf'.2 28 (by decide) (by decide), cd.2 28 (by decide) (by decide), bb]; exact c9.2 28 (by decide) (by decide)
  · obtain ⟨hq, ⟨a, ht⟩, hm, hc⟩ := e3
    have hn80 := ht.1
    have c9 := c0.trans hc
    rw [e1, e2, b4, b2, if_neg (n9_100 q (by omega)), if_neg (n9_100 q (by omega))]
    refine ⟨-3, w0, z1, w1, z3, w2, z5, z7, w9, c, rfl, rfl, RT_of ht hm, ⟨h.1, h.2.1, c9.rN h.2.2.1 (by decide) (by decide), h.2.2.2⟩, ?_, hA.c (c9.1 23 (by decide) (by decide)) (c9.2 22 (by decide) (by decide)), hK.c (c9.2 24 (by decide) (by decide)) (c9.2 25 (by decide) (by decide)), c9.1 26 (by decide) (by decide), c9.2 27 (by decide) (by decide), c9.2 28 (by decide) (by decide)⟩
    obtain ⟨s, h1, h2, h3, h4⟩ := hW
    refine ⟨s, h1, h2, by rw [c9.1 13 (by decide) (by decide)]; exact h3, ?_⟩
    rw [c9.2 14 (by decide) (by decide), c9.2 15 (by decide) (by decide)]
    exact h4
theorem or_k : ∀ m, m < 4 → ∀ s, s < 2 → nI m ||| ((1 : Int32) <<< (nI s &&& 31)) = nI (m ||| 2 ^ s) ∧ m ||| 2 ^ s < 4 ∧ (m ||| 2 ^ s).testBit s = true ∧ (m ||| 2 ^ s).testBit (1 - s) = m.testBit (1 - s) := by decide +kernel
theorem fo_b {c : Cr} (hc : cOK c) : (if cI c 2 = 0 then (0 : Int32) else 1) = cI c 2 := by
  rcases hc.2.2.2.2 with e | e
  · rw [e]; rfl
  · rw [e]; rfl
theorem T_keep {z1 z9 : Ob} {z7 : AS} {c : Cr} (h : RQ z1 z9 c) (hK : RK z7 z9) (p : Int32) : ∃ r z7' w, f_X6_keep z1 z7 p = some (r, z7') ∧ f_X7_keep z9 p = some (r, w) ∧ RK z7' w ∧ cf [0] [24, 25] z9 w := by
  obtain ⟨hx, h11, hn9, hc⟩ := id h
  have c0 : cf [0] [24, 25] z9 (sI z9 0 0) := cf.rfl'.sI (Or.inr (by decide))
  have c1 : cz z9 (sI z9 0 0) := cz_th
  have hn1 := c1.rN hn9
  have e2 : (2 : Int32).toInt = 2 := rfl
  have rp := m_rngI p 0 1 0 1 rfl rfl
  unfold f_X6_keep f_X7_keep
  rw [bn]
  by_cases hp : 0 ≤ p.toInt ∧ p.toInt ≤ 1
  · obtain ⟨s, hs, rfl⟩ := i_nat (n := 2) hp.1 (by omega) (by decide)
    have hb2 : inb (nI s) 2 = true := inb_nI hs (by decide)
    obtain ⟨m, hm, em, hk⟩ := hK
    obtain ⟨o1, o2, o3, o4⟩ := or_k m hm s hs
    rw [if_neg (nI_pos (by omega)), if_pos (show nI s < 2 from nI_lt (b := 2) hs (by decide)), rp.1 hp, ob, if_neg (show ¬ (1 : Int32) = 0 by decide), if_pos hb2, nar_1, cl_nI (by omega), bn]
    obtain ⟨v, ev, rv, v11⟩ := x_copyFrom (z0 := (z7.2 s).2) hx.rR hx.2.2.2.1 hx.2.2.2.2.2.1 hc.2.2.2.2 hn9.2.2.2.2.2.2
    have eput : f_X3_put z7 z1 (nI s) = some (nI (m ||| 2 ^ s), pI z7.2 s ((z7.2 s).1, v)) := by
      unfold f_X3_put
      rw [if_pos hb2, em]
      rcases (show s = 0 ∨ s = 1 by omega) with rfl | rfl
      · rw [if_pos (by decide), ev, ob]
        simp only [bn]
        rw [o1]
      · rw [if_neg (by decide), if_pos (by decide), ev, ob]
        simp only [bn]
        rw [o1]
    have c2 : cf [0] [24, 25] z9 (sA (sI z9 0 0) 25 (upd ((sI z9 0 0).2 25) s 1)) := c0.sA (Or.inr (by decide))
    have hN2 : rN (sA (sI z9 0 0) 25 (upd ((sI z9 0 0).2 25) s 1)) c := c2.rN hn9 (by decide) (by decide)
    have e45 : (45 : Int32) * nI s = nI (45 * s) := by rw [l45, pk_mul]
    obtain ⟨d, ed, cd, hd, ho⟩ := m_lay24 hN2.g (b := 45 * s) (by omega)
    have d10 : d.1 10 = cI c 0 := by rw [cd.1 10 (by decide) (by decide)]; exact hN2.2.2.2.1
    have d12 : d.1 12 = cI c 2 := by rw [cd.1 12 (by decide) (by decide)]; exact hN2.2.2.2.2.2.1
    have d4 : d.1 4 = nI (cN c) := by rw [cd.1 4 (by decide) (by decide)]; exact hN2.1
    rw [eput, ob, e45, ed, ob, l42, l43, nI_add, nI_add, if_pos (inb_nI (show 45 * s + 42 < 90 by omega) (by decide)), cl_nI (by omega), bn, d10]
    unfold j_X7_keep_75
    rw [if_pos (inb_nI (show 45 * s + 43 < 90 by omega) (by decide)), if_pos (inb_nI (show 45 * s + 43 < 90 by omega) (by decide)), cl_nI (by omega), sA_1, sA_e, d12]
    simp only [bn, sA_1, d4]
    refine ⟨nI (cN c), _, sA (sA d 24 (upd (d.2 24) (45 * s + 42) (cI c 0))) 24 (upd (upd (d.2 24) (45 * s + 42) (cI c 0)) (45 * s + 43) (cI c 2)), by rw [hx.1], ?_, ⟨m ||| 2 ^ s, o2, rfl, fun t ht => ?_⟩, ((c2.trans (cd.mono (fun k hk => absurd hk (List.not_mem_nil)) (by decide))).sA (Or.inr (by decide))).sA (Or.inr (by decide))⟩
    · rcases hc.2.2.2.2 with e | e
      · rw [e, if_pos rfl]
      · rw [e, if_neg (by decide)]
    · have d25 : d.2 25 = upd (z9.2 25) s 1 := by rw [cd.2 25 (by decide) (by decide), sA_e]; rfl
      rw [sA_n (by decide), sA_n (by decide), d25, sA_e]
      by_cases e : t = s
      · subst e
        rw [o3, pk_us]
        refine ⟨rfl, fun _ => ⟨c, hc, hn9.2.2.2.2.2.2, ?_, ?_, ?_, ?_⟩⟩
        · show rX (pI z7.2 t ((z7.2 t).1, v) t).2 c
          rw [pI_eq]
          exact rv
        · refine rP_c hc.1 hd fun j h1 h2 => ?_
          rw [upd_if, if_neg (by omega), upd_if, if_neg (by omega)]
        · rw [upd_if, if_neg (by omega), upd_if, if_pos rfl]
        · rw [upd_if, if_pos rfl]
      · have et : t = 1 - s := by omega
        obtain ⟨k1, k2⟩ := hk t ht
        rw [pk_un e, et, o4, ← et]
        refine ⟨k1, fun hb => ?_⟩
        obtain ⟨k, q1, q2, q3, q4, q5, q6⟩ := k2 hb
        have far : ∀ j, 45 * t ≤ j → j < 45 * t + 44 → upd (upd (d.2 24) (45 * s + 42) (cI c 0)) (45 * s + 43) (cI c 2) j = z9.2 24 j := by
          intro j h1 h2
          rw [upd_if, if_neg (by omega), upd_if, if_neg (by omega), ho j (by omega)]
          rfl
        refine ⟨k, q1, q2, ?_, rP_c q1.1 q4 fun j h1 h2 => far j h1 (by omega), ?_, ?_⟩
        · show rX (pI z7.2 s ((z7.2 s).1, v) t).2 k
          rw [pI_ne e]
          exact q3
        · rw [far _ (by omega) (by omega)]; exact q5
        · rw [far _ (by omega) (by omega)]; exact q6
  · rw [rp.2 hp, ob, if_pos rfl]
    refine ⟨-1, z7, sI z9 0 0, ?_, rfl, hK.c rfl rfl, c0⟩
    by_cases a : p < 0
    · rw [if_pos a]
    · rw [if_neg a, if_neg (by rw [Int32.lt_iff_toInt_lt, e2]; rw [lt0] at a; omega)]
theorem bit_k : ∀ m, m < 4 → ∀ s, s < 2 → (if ((nI m >>> (nI s &&& 31)) &&& 1) = 1 then some 1 else some 0 : Option Int32) = some (b32 (m.testBit s)) := by decide +kernel
theorem T_again {z1 z9 : Ob} {z5 z7 : AS} {c : Cr} (h : RQ z1 z9 c) (hA : RA z5 z9) (hK : RK z7 z9) (p : Int32) : ∃ r z1' z5' w c', f_X6_again z1 z5 z7 p = some (r, z1', z5') ∧ f_X7_again z9 p = some (r, w) ∧ RQ z1' w c' ∧ RA z5' w ∧ cf SL AL z9 w := by
  obtain ⟨hx, h11, hn9, hc⟩ := id h
  have c1 : cz z9 (sI z9 0 0) := cz_th
  have hn1 := c1.rN hn9
  have e2 : (2 : Int32).toInt = 2 := rfl
  have rp := m_rngI p 0 1 0 1 rfl rfl
  unfold f_X6_again f_X7_again
  rw [bn]
  by_cases hp : 0 ≤ p.toInt ∧ p.toInt ≤ 1
  · obtain ⟨s, hs, rfl⟩ := i_nat (n := 2) hp.1 (by omega) (by decide)
    have hb2 : inb (nI s) 2 = true := inb_nI hs (by decide)
    obtain ⟨m, hm, em, hk⟩ := hK
    obtain ⟨k1, k2⟩ := hk s hs
    have ek : f_X3_isKept z7 (nI s) = some (b32 (m.testBit s)) := by
      unfold f_X3_isKept
      rw [em]
      exact bit_k m hm s hs
    have e25 : (sI z9 0 0).2 25 s = b32 (m.testBit s) := k1
    rw [if_neg (nI_pos (by omega)), if_pos (show nI s < 2 from nI_lt (b := 2) hs (by decide)), rp.1 hp, ob, if_neg (show ¬ (1 : Int32) = 0 by decide), if_pos hb2, cl_nI (by omega), ek, ob, e25]
    cases hb : m.testBit s with
    | false =>
      rw [if_pos (show b32 false = 0 from rfl), if_pos (show b32 false = 0 from rfl)]
      exact ⟨-3, z1, z5, sI z9 0 0, c, rfl, rfl, h.stay c1, hA.stay c1, c1.cf (by decide)⟩
    | true =>
      rw [if_neg (show ¬ b32 true = 0 by decide), if_neg (show ¬ b32 true = 0 by decide)]
      obtain ⟨k, hok, hks, hkx, hkp, hk42, hk43⟩ := k2 hb
      obtain ⟨v, ev, rv, v11⟩ := x_copyFrom (z0 := z1) hkx.rR hkx.2.2.2.1 hkx.2.2.2.2.2.1 hok.2.2.2.2 hks
      have e45 : (45 : Int32) * nI s = nI (45 * s) := by rw [l45, pk_mul]
      obtain ⟨d, ed, cd, hd⟩ := m_take24 (z := sI z9 0 0) (b := 45 * s) (by omega) hok.1 hkp
      have d24 : d.2 24 = z9.2 24 := by rw [cd.2 24 (by decide) (by decide)]; rfl
      have ex : (f_X3_at z7 (nI s)).bind (fun v2 => (if v2 = 0 then (f_X1_copyFrom z1 (z7.2 0).2).bind (fun g3 => (f_X0_clear z5).bind (fun g4 => some ((g3.1 6), g3, g4))) else (if v2 = 1 then (f_X1_copyFrom z1 (z7.2 1).2).bind (fun g5 => (f_X0_clear z5).bind (fun g6 => some ((g5.1 6), g5, g6))) else none))) = some (nI (cN k), v, (0, z5.2)) := by
        unfold f_X3_at
        rw [if_pos hb2]
        rcases (show s = 0 ∨ s = 1 by omega) with rfl | rfl
        · rw [if_pos (by decide), ob, if_pos rfl, ev, ob, rv.1]
          rfl
        · rw [if_neg (by decide), if_pos (by decide), ob, if_neg (by decide), if_pos rfl, ev, ob, rv.1]
          rfl
      have cdf : cf SL AL z9 d := (c1.cf (by decide)).trans (cd.mono (by decide) (by decide))
      rw [ex, e45, ed, ob, l42, l43, nI_add, nI_add, if_pos (inb_nI (show 45 * s + 42 < 90 by omega) (by decide)), cl_nI (by omega), bn, d24, hk42, if_pos (inb_nI (show 45 * s + 43 < 90 by omega) (by decide)), cl_nI (by omega), sI_2, d24, hk43]
      unfold j_X7_again_79
      rw [if_pos (show isb 1 = true by decide), if_pos (show isb 0 = true by decide)]
      simp only [bn]
      refine ⟨nI (cN k), v, (0, z5.2), sI (sI (sI d 10 (cI k 0)) 12 (cI k 2)) 23 0, k, rfl, ?_, ⟨rv, v11, ⟨?_, hok.1, hd.2.2.1, ?_, ?_, ?_, hks⟩, hok⟩, ⟨0, by decide, rfl, sI_e, fun _ => c, fun p hp => absurd hp (Nat.not_lt_zero _)⟩, ((cdf.sI (Or.inr (by decide))).sI (Or.inr (by decide))).sI (Or.inr (by decide))⟩
      · have d4 : d.1 4 = nI (cN k) := hd.1
        rcases hok.2.2.2.2 with e | e
        · rw [e, if_neg (by decide), sI_n (by decide), sI_n (by decide), sI_n (by decide), d4]
        · rw [e, if_pos rfl, sI_n (by decide), sI_n (by decide), sI_n (by decide), d4]
      · rw [sI_n (by decide), sI_n (by decide), sI_n (by decide)]; exact hd.1
      · rw [sI_n (by decide), sI_n (by decide), sI_e]
      · rw [sI_n (by decide), sI_n (by decide), sI_n (by decide)]; exact hd.2.2.2
      · rw [sI_n (by decide), sI_e]
  · rw [rp.2 hp, ob, if_pos rfl]
    refine ⟨-1, z1, z5, sI z9 0 0, c, ?_, rfl, h.stay c1, hA.stay c1, c1.cf (by decide)⟩
    by_cases a : p < 0
    · rw [if_pos a]
    · rw [if_neg a, if_neg (by rw [Int32.lt_iff_toInt_lt, e2]; rw [lt0] at a; omega)]
