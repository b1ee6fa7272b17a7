/-! PURE 21: the parts of a text -/
theorem RdI.at {n : Nat} {T : Nat → Nat} {z9 : Ob} {a : Nat} {w0 w1 w2 w9 : Ob} {g : Cr} {s : Nat} (h : RdI n T z9 a w0 w1 w2 w9 g s) {b : Nat} (hb : b ≤ n) : RdI n T z9 b (sI w0 2 (nI b)) w1 w2 (sI w9 3 (nI b)) g s := by
  obtain ⟨ha, t0, m0, cw, hr, r7, r10, r11, hok, g2, gs, m16, m20, m18, m19, hs, w22, m17, m21⟩ := h
  exact ⟨hb, t0.at b, m0.at b, cw.sI (Or.inr (by decide)), hr, r7, r10, r11, hok, g2, gs, by rw [sI_n (by decide)]; exact m16, m20, by rw [sI_n (by decide)]; exact m18, by rw [sI_n (by decide)]; exact m19, hs, w22, by rw [sI_n (by decide)]; exact m17, m21⟩
theorem RdI.bad {n : Nat} {T : Nat → Nat} {z9 : Ob} {a : Nat} {w0 w1 w2 w9 : Ob} {g : Cr} {s : Nat} (h : RdI n T z9 a w0 w1 w2 w9 g s) : RdF n T z9 a (sI w0 3 (nI a)) w9 := ⟨h.1, ⟨a, h.2.1.bad _⟩, h.2.2.1, h.2.2.2.1⟩
theorem j67_0 {y1 y2 : Int32} {w : Ob} : j_X7_readRing_67 y1 y2 w = some (0, w) := rfl
theorem ring_read {n : Nat} {T : Nat → Nat} {z9 : Ob} {a : Nat} {w0 w1 w2 w9 : Ob} {g : Cr} {s : Nat} (h : RdI n T z9 a w0 w1 w2 w9 g s) (hg : cN g < 8) (ha : a < n) (hT : T a = 71) : (∃ a' w0' w1' w9' g', f_X4_readRing w0 w1 = some (w0', w1') ∧ f_X7_readRing (sI w9 3 (nI (a + 1))) = some (1, w9') ∧ a < a' ∧ RdI n T z9 a' w0' w1' w2 w9' g' s) ∨ (∃ q w0' w1' w9', f_X4_readRing w0 w1 = some (w0', w1') ∧ f_X7_readRing (sI w9 3 (nI (a + 1))) = some (0, w9') ∧ RdF n T z9 q w0' w9') := by
  have hn80 := h.2.1.1
  have ne9 : ∀ k, k < 2000 → ¬ nI k = -9 := n9_100
  have h1 := h.at (b := a + 1) (by omega)
  have L : f_X4_readLetter w0 71 = some (sI w0 2 (nI (a + 1))) := (x_letter h.2.1 h.1 (l := 71) (by decide)).1 ⟨ha, hT⟩
  have D1 := x_dig04 h1.2.1 h1.1
  have F1 := m_fig04 h1.2.2.1 h1.1
  unfold f_X4_readRing f_X7_readRing
  rw [L, ob]
  by_cases ok1 : okD n T (a + 1) 0 4
  · rw [D1.1 ok1, F1.1 ok1, b2, b2, if_neg (ne9 _ (by have := ok1.2; omega))]
    have h2 := h1.at (b := a + 1 + 1) ok1.1
    have D2 := x_dig09 h2.2.1 h2.1
    have F2 := m_fig09 h2.2.2.1 h2.1
    by_cases ok2 : okD n T (a + 1 + 1) 0 9
    · rw [D2.1 ok2, F2.1 ok2, b2, b2]
      have h3 := h2.at (b := a + 1 + 1 + 1) ok2.1
      have D3 := x_dig09 h3.2.1 h3.1
      have F3 := m_fig09 h3.2.2.1 h3.1
      unfold j_X7_readRing_25
      rw [if_neg (ne9 _ (by have := ok2.2; omega)), h3.2.2.1.2.1, h3.2.2.1.2.2.1]
      by_cases ok3 : okD n T (a + 1 + 1 + 1) 0 9
      · have hT3 := h3.2.2.1.2.2.2 _ ok3.1
        have h4 := h3.at (b := a + 1 + 1 + 1 + 1) ok3.1
        have hlt := ok3.1
        have told := m_told h3.2.2.1 h3.2.2.2.2.2.2.2.2.2.2.2.1 h.2.2.2.2.1.2.1 (fun i hi => (h3.2.2.2.2.2.2.2.2.2.2.2.2.1 i hi).2.1) (nI (10 * (T (a + 1 + 1 + 1) - 48) + (T (a + 1 + 1) - 48)))
        rw [D3.1 ok3, b2, if_neg (nI_ge hlt (by omega)), if_pos (inb_nI (by omega) (by decide)), cl_nI (by omega), hT3.2, cell_d (by have := ok3.2; omega) (by have := ok3.2; omega), told, ob, ten_nI, bn, h4.2.1.2.2.2.1, if_pos rfl]
        obtain ⟨v, ev, hv⟩ := x_ringIn h.2.2.2.2.1 (nI (10 * (T (a + 1 + 1 + 1) - 48) + (T (a + 1 + 1) - 48)))
        rw [ev, ob]
        cases ht : s_taken g (nI (10 * (T (a + 1 + 1 + 1) - 48) + (T (a + 1 + 1) - 48))) with
        | true =>
          rw [ht] at hv
          have nv : ¬ v = -9 := fun e => by have := hv.mp e; cases this
          rw [if_neg nv, h4.2.1.2.2.1, nI_pred, bn, if_neg (show ¬ b32 true = 0 by decide)]
          have hbad := h4.2.1.bad (nI (a + 1 + 1 + 1))
          refine Or.inr ⟨a + 1 + 1 + 1, _, w1, _, ?_, j67_0, h3.1, ⟨_, hbad⟩, h3.2.2.1, h3.2.2.2.1⟩
          exact x_ringW (bad_w hbad h3.1) _ _
        | false =>
          rw [if_pos (hv.mpr ht), if_pos (show b32 false = 0 from rfl)]
          unfold j_X7_readRing_72
          rw [F3.1 ok3, b2]
          rcases ring_end h4 hg (k := T (a + 1) - 48) (x := T (a + 1 + 1) - 48) (y := T (a + 1 + 1 + 1) - 48) (by have := ok1.2; omega) (by have := ok2.2; omega) (by have := ok3.2; omega) with ⟨a', w0', w1', w9', g', e1, e2, e3, e4⟩ | ⟨q, w0', w1', w9', e1, e2, e3⟩
          · exact Or.inl ⟨a', w0', w1', w9', g', e1, e2, by omega, e4⟩
          · exact Or.inr ⟨q, w0', w1', w9', e1, e2, e3⟩
      · have hbad := h3.bad
        have hb := bad_w (h3.2.1.bad (nI (a + 1 + 1 + 1))) h3.1
        refine Or.inr ⟨a + 1 + 1 + 1, _, w1, _, ?_, ?_, hbad⟩
        · rw [D3.2 ok3, b2, bn, if_neg hb]
          exact x_ringW hb _ _
        · have e72 : ∀ y1 y2, j_X7_readRing_72 y1 y2 (sI (sI (sI w9 3 (nI (a + 1))) 3 (nI (a + 1 + 1))) 3 (nI (a + 1 + 1 + 1))) = some (0, sI (sI (sI w9 3 (nI (a + 1))) 3 (nI (a + 1 + 1))) 3 (nI (a + 1 + 1 + 1))) := fun y1 y2 => by
            unfold j_X7_readRing_72
            rw [F3.2 ok3, b2]
            rfl
          by_cases l : a + 1 + 1 + 1 < n
          · rw [if_neg (nI_ge l (by omega)), if_pos (inb_nI (by omega) (by decide)), m_told h3.2.2.1 h3.2.2.2.2.2.2.2.2.2.2.2.1 h.2.2.2.2.1.2.1 (fun i hi => (h3.2.2.2.2.2.2.2.2.2.2.2.2.1 i hi).2.1), ob, e72, j67_0]
            split <;> rfl
          · rw [if_pos (nI_le (by omega) (by have := h3.1; omega)), e72]
    · have hbad := h2.bad
      have hb := bad_w (h2.2.1.bad (nI (a + 1 + 1))) h2.1
      refine Or.inr ⟨a + 1 + 1, _, w1, _, ?_, ?_, hbad⟩
      · rw [D2.2 ok2, b2, x_digitW hb, b2, bn, if_neg hb]
        exact x_ringW hb _ _
      · rw [F2.2 ok2, b2]
        rfl
  · have hbad := h1.bad
    have hb := bad_w (h1.2.1.bad (nI (a + 1))) h1.1
    refine Or.inr ⟨a + 1, _, w1, _, ?_, ?_, hbad⟩
    · rw [D1.2 ok1, b2, x_digitW hb, b2, x_digitW hb, b2, bn, if_neg hb]
      exact x_ringW hb _ _
    · rw [F1.2 ok1, b2]
      rfl
theorem stuff_read {n : Nat} {T : Nat → Nat} {z9 : Ob} {a : Nat} {w0 w1 w2 w9 : Ob} {g : Cr} {s : Nat} (h : RdI n T z9 a w0 w1 w2 w9 g s) (hs5 : s < 5) (ha : a < n) (hT : T a = 83) : (∃ a' w0' w2' w9', f_X4_readStuff w0 w2 = some (w0', w2') ∧ f_X7_readStuff (sI w9 3 (nI (a + 1))) = some (1, w9') ∧ a < a' ∧ RdI n T z9 a' w0' w1 w2' w9' g (s + 1)) ∨ (∃ q w0' w2' w9', f_X4_readStuff w0 w2 = some (w0', w2') ∧ f_X7_readStuff (sI w9 3 (nI (a + 1))) = some (0, w9') ∧ RdF n T z9 q w0' w9') := by
  have hn80 := h.2.1.1
  have ne9 : ∀ k, k < 2000 → ¬ nI k = -9 := n9_100
  have h1 := h.at (b := a + 1) (by omega)
  have L : f_X4_readLetter w0 83 = some (sI w0 2 (nI (a + 1))) := (x_letter h.2.1 h.1 (l := 83) (by decide)).1 ⟨ha, hT⟩
  have D1 := x_dig09 h1.2.1 h1.1
  have F1 := m_fig09 h1.2.2.1 h1.1
  unfold f_X4_readStuff f_X7_readStuff
  rw [L, ob]
  by_cases ok1 : okD n T (a + 1) 0 9
  · rw [D1.1 ok1, F1.1 ok1, b2, b2, if_neg (ne9 _ (by have := ok1.2; omega))]
    have h2 := h1.at (b := a + 1 + 1) ok1.1
    have D2 := x_dig19 h2.2.1 h2.1
    have F2 := m_fig19 h2.2.2.1 h2.1
    by_cases ok2 : okD n T (a + 1 + 1) 1 9
    · refine Or.inl ?_
      rw [D2.1 ok2, F2.1 ok2, b2, b2]
      have h3 := h2.at (b := a + 1 + 1 + 1) ok2.1
      obtain ⟨hb0, t0, m0, cw, hr, r7, r10, r11, hok, g2, gs, m16, m20, m18, m19, hs, w22, m17, m21⟩ := id h3
      have hb5 : inb (nI s) 5 = true := inb_nI hs5 (by decide)
      rw [t0.2.2.2.1, if_pos rfl]
      unfold f_X5_add j_X7_readStuff_26
      rw [w22, if_neg (show ¬ (5 : Int32) ≤ nI s from nI_ge (b := 5) hs5 (by decide)), if_pos hb5, if_neg (ne9 _ (by have := ok2.2; omega)), m17, show (2 : Int32) * nI s = nI (2 * s) from by rw [show (2 : Int32) = nI 2 from rfl, pk_mul]]
      simp only [bn, sA_1, w22, hb5, if_true, ob, m17, show (2 : Int32) * nI s = nI (2 * s) from by rw [show (2 : Int32) = nI 2 from rfl, pk_mul], nI_1, if_pos (inb_nI (show 2 * s < 10 by omega) (show 10 < 2 ^ 31 by decide)), if_pos (inb_nI (show 2 * s + 1 < 10 by omega) (show 10 < 2 ^ 31 by decide)), cl_nI (show s < 2 ^ 31 by omega), cl_nI (show 2 * s < 2 ^ 31 by omega), cl_nI (show 2 * s + 1 < 2 ^ 31 by omega)]
      refine ⟨a + 1 + 1 + 1, _, _, _, rfl, rfl, by omega, ok2.1, t0, ?_, ?_, hr, r7, r10, r11, hok, g2, gs, ?_, ?_, ?_, ?_, hs5, sI_e, sI_e, fun i hi => ?_⟩
      · refine ⟨m0.1, ?_, ?_, ?_⟩
        · rw [sI_n (by decide)]; exact m0.2.1
        · rw [sI_n (by decide)]; exact m0.2.2.1
        · rw [sI_2, sA_n (by decide), sA_n (by decide)]
          exact m0.2.2.2
      · exact ((cw.sA (Or.inr (by decide))).sA (Or.inr (by decide))).sI (Or.inr (by decide))
      · rw [sI_n (by decide)]; exact m16
      · rw [sI_2, sA_n (by decide), sA_n (by decide)]; exact m20
      · rw [sI_n (by decide)]; exact m18
      · rw [sI_n (by decide)]; exact m19
      · simp only [sI_2, sA_e, sA_n (show (0 : Nat) ≠ 1 by decide), sA_n (show (1 : Nat) ≠ 0 by decide), upd_if]
        by_cases e : i = s
        · subst e
          simp only [if_pos rfl, if_neg (show ¬ 2 * i = 2 * i + 1 by omega), if_true]
          exact ⟨trivial, trivial, ⟨T (a + 1) - 48, by have := ok1.2; omega, rfl⟩, ⟨T (a + 1 + 1) - 48, by have := ok2.2; omega, rfl⟩⟩
        · rw [if_neg e, if_neg e, if_neg (show ¬ 2 * i = 2 * s + 1 by omega), if_neg (show ¬ 2 * i = 2 * s by omega), if_neg (show ¬ 2 * i + 1 = 2 * s + 1 by omega), if_neg (show ¬ 2 * i + 1 = 2 * s by omega)]
          exact m21 i (by omega)
    · have hbad := h2.bad
      have hb := bad_w (h2.2.1.bad (nI (a + 1 + 1))) h2.1
      refine Or.inr ⟨a + 1 + 1, _, w2, _, ?_, ?_, hbad⟩
      · rw [D2.2 ok2, b2, if_neg hb]
      · rw [F2.2 ok2, b2]
        rfl
  · have hbad := h1.bad
    have hb := bad_w (h1.2.1.bad (nI (a + 1))) h1.1
    refine Or.inr ⟨a + 1, _, w2, _, ?_, ?_, hbad⟩
    · rw [D1.2 ok1, b2, x_digitW hb, b2, if_neg hb]
    · rw [F1.2 ok1, b2]
      rfl
theorem b3 {α β γ δ : Type} {a : α} {b : β} {c : γ} {f : α → β → γ → Option δ} : bd3 (some (a, b, c)) f = f a b c := rfl
theorem part_read {n : Nat} {T : Nat → Nat} {z9 : Ob} {a : Nat} {w0 w1 w2 w9 : Ob} {g : Cr} {s : Nat} (h : RdI n T z9 a w0 w1 w2 w9 g s) (ha : a < n) : (∃ a' w0' w1' w2' w9' g' s', f_X4_readPart w0 w1 w2 = some (w0', w1', w2') ∧ f_X7_readPart w9 = some (1, w9') ∧ a < a' ∧ RdI n T z9 a' w0' w1' w2' w9' g' s') ∨ (∃ q w0' w1' w2' w9', f_X4_readPart w0 w1 w2 = some (w0', w1', w2') ∧ f_X7_readPart w9 = some (0, w9') ∧ RdF n T z9 q w0' w9') := by
  have hn80 := h.2.1.1
  obtain ⟨hT, eT⟩ := h.2.2.1.2.2.2 a ha
  have h8 := h.2.2.2.2.1.2.1
  obtain ⟨hb0, t0, m0, cw, hr, r7, r10, r11, hok, g2, gs, m16, m20, m18, m19, hs, w22, m17, m21⟩ := id h
  unfold f_X4_readPart f_X7_readPart
  rw [x_byte h.2.1 h.1, if_pos ha, ob, h.2.2.1.2.2.1, if_pos (inb_nI (by omega) (by decide)), cl_nI (by omega), eT, bn, nI_1, hr.1, m16]
  have i71 : nI (T a) = 71 ↔ T a = 71 := nI_eq (b := 71) (by omega) (by decide)
  have i83 : nI (T a) = 83 ↔ T a = 83 := nI_eq (b := 83) (by omega) (by decide)
  have bad : (∃ q w0' w1' w2' w9', j_X4_readPart_50 w0 w1 w2 = some (w0', w1', w2') ∧ (some (0, w9) : Option (Int32 × Ob)) = some (0, w9') ∧ RdF n T z9 q w0' w9') := ⟨a, sI w0 3 (nI a), w1, w2, w9, by unfold j_X4_readPart_50; rw [t0.2.2.1, bn], rfl, h.bad⟩
  by_cases q : T a = 71
  · rw [if_pos (i71.mpr q), if_pos (i71.mpr q)]
    by_cases f : cN g < 8
    · rw [if_neg (show ¬ 8 ≤ nI (cN g) from nI_ge (b := 8) f (by decide)), if_neg (show ¬ 8 ≤ nI (cN g) from nI_ge (b := 8) f (by decide)), bn]
      rcases ring_read h f ha q with ⟨a', w0', w1', w9', g', e1, e2, e3, e4⟩ | ⟨q, w0', w1', w9', e1, e2, e3⟩
      · refine Or.inl ⟨a', w0', w1', w2, w9', g', s, ?_, ?_, e3, e4⟩
        · rw [e1, b2]
        · rw [e2, b2]
          rfl
      · refine Or.inr ⟨q, w0', w1', w2, w9', ?_, ?_, e3⟩
        · rw [e1, b2]
        · rw [e2, b2]
          rfl
    · rw [if_pos (show 8 ≤ nI (cN g) from nI_le (a := 8) (by omega) (by omega)), if_pos (show 8 ≤ nI (cN g) from nI_le (a := 8) (by omega) (by omega))]
      unfold j_X4_readPart_28 j_X7_readPart_40
      rw [if_neg (fun x => by have := i83.mp x; omega), if_neg (fun x => by have := i83.mp x; omega)]
      exact Or.inr bad
  · rw [if_neg (fun x => q (i71.mp x)), if_neg (fun x => q (i71.mp x))]
    unfold j_X4_readPart_28 j_X7_readPart_40
    by_cases p : T a = 83
    · rw [if_pos (i83.mpr p), if_pos (i83.mpr p), w22, m17]
      by_cases f : s < 5
      · rw [if_neg (show ¬ 5 ≤ nI s from nI_ge (b := 5) f (by decide)), if_neg (show ¬ 5 ≤ nI s from nI_ge (b := 5) f (by decide)), h.2.2.1.2.2.1, nI_1, bn]
        rcases stuff_read h f ha p with ⟨a', w0', w2', w9', e1, e2, e3, e4⟩ | ⟨q, w0', w2', w9', e1, e2, e3⟩
        · refine Or.inl ⟨a', w0', w1, w2', w9', g, s + 1, ?_, ?_, e3, e4⟩
          · rw [e1, b2]
          · rw [e2, b2]
            rfl
        · refine Or.inr ⟨q, w0', w1, w2', w9', ?_, ?_, e3⟩
          · rw [e1, b2]
          · rw [e2, b2]
            rfl
      · rw [if_pos (show 5 ≤ nI s from nI_le (a := 5) (by omega) (by omega)), if_pos (show 5 ≤ nI s from nI_le (a := 5) (by omega) (by omega))]
        exact Or.inr bad
    · rw [if_neg (fun x => p (i83.mp x)), if_neg (fun x => p (i83.mp x))]
      exact Or.inr bad
theorem parts_read {n : Nat} {T : Nat → Nat} {z9 : Ob} : ∀ (d a i m m' : Nat) (w0 w1 w2 w9 : Ob) (g : Cr) (s : Nat), n - a ≤ d → RdI n T z9 a w0 w1 w2 w9 g s → i + (n - a) ≤ 80 → d < m → d < m' → (∃ w0' w1' w2' w9' g' s', fuel4 (b_X4_read_49) m (nI i) w0 w1 w2 = some (-9, w0', w1', w2') ∧ fuel1 (b_X7_readRoom_90) m' w9 = some (-9, w9') ∧ RdI n T z9 n w0' w1' w2' w9' g' s') ∨ (∃ q w0' w1' w2' w9', fuel4 (b_X4_read_49) m (nI i) w0 w1 w2 = some (nI q, w0', w1', w2') ∧ fuel1 (b_X7_readRoom_90) m' w9 = some (nI q, w9') ∧ RdF n T z9 q w0' w9') := by
    intro d
    induction d using Nat.strongRecOn with
    | ind d ih =>
    intro a i m m' w0 w1 w2 w9 g s hd h hi hm hm'
    obtain ⟨m, rfl⟩ : ∃ q, m = q + 1 := ⟨m - 1, by omega⟩
    obtain ⟨m', rfl⟩ : ∃ q, m' = q + 1 := ⟨m' - 1, by omega⟩
    have hn80 := h.2.1.1
    have st1 : fuel4 (b_X4_read_49) (m + 1) (nI i) w0 w1 w2 = b_X4_read_49 (fuel4 (b_X4_read_49) m) (nI i) w0 w1 w2 := rfl
    have st2 : fuel1 (b_X7_readRoom_90) (m' + 1) w9 = b_X7_readRoom_90 (fuel1 (b_X7_readRoom_90) m') w9 := rfl
    rw [st1, st2]
    unfold b_X4_read_49 b_X7_readRoom_90 j_X4_read_87
    rw [h.2.1.2.2.2.1, h.2.1.2.1, h.2.1.2.2.1, h.2.2.1.2.1, h.2.2.1.2.2.1]
    by_cases e : a < n
    · rw [if_neg (show ¬ 80 ≤ nI i from nI_ge (b := 80) (by omega) (by decide)), if_pos rfl, if_neg (nI_ge e (by omega)), if_neg (nI_ge e (by omega))]
      rcases part_read h e with ⟨a', w0', w1', w2', w9', g', s', e1, e2, e3, e4⟩ | ⟨q, w0', w1', w2', w9', e1, e2, e3⟩
      · rw [e1, e2, b3, b2, if_neg (show ¬ (1 : Int32) = 0 by decide), bn, nI_1]
        obtain ⟨d, rfl⟩ : ∃ q, d = q + 1 := ⟨d - 1, by omega⟩
        have := e4.1
        exact ih d (by omega) a' (i + 1) m m' w0' w1' w2' w9' g' s' (by omega) e4 (by omega) (by omega) (by omega)
      · rw [e1, e2, b3, b2, if_pos rfl, bn, nI_1]
        obtain ⟨hq, ⟨a2, t2⟩, m2, c2⟩ := id e3
        refine Or.inr ⟨q, w0', w1', w2', w9', ?_, by rw [m2.2.2.1], e3⟩
        obtain ⟨m, rfl⟩ : ∃ q, m = q + 1 := ⟨m - 1, by omega⟩
        show b_X4_read_49 (fuel4 (b_X4_read_49) m) (nI (i + 1)) w0' w1' w2' = _
        unfold b_X4_read_49 j_X4_read_87
        rw [if_neg (bad_w t2 hq), t2.2.2.2.1]
        split <;> rfl
    · have ea : a = n := by have := h.1; omega
      subst ea
      refine Or.inl ⟨w0, w1, w2, w9, g, s, ?_, ?_, h⟩
      · rw [if_pos rfl, if_pos (nI_le (Nat.le_refl _) (by omega))]
        split <;> rfl
      · rw [if_pos (nI_le (Nat.le_refl _) (by omega))]
