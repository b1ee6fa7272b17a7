/-! PURE 17: acts -/
def RA (z5 : AS) (z9 : Ob) : Prop := ∃ n, n ≤ 10 ∧ z5.1 = nI n ∧ z9.1 23 = nI n ∧ ∃ gs : Nat → Cr, ∀ p, p < n → gOK (gs p) ∧ rR (z5.2 p).2 (gs p) ∧ rP (z9.2 22) (42 * p) (gs p)
theorem RA.c {z5 : AS} {z w : Ob} (h : RA z5 z) (e1 : w.1 23 = z.1 23) (e2 : w.2 22 = z.2 22) : RA z5 w := by
  unfold RA
  rw [e1, e2]
  exact h
theorem x_addAt {z1 : Ob} {c : Cr} (h : rR z1 c) (cs : Nat → CB) {n : Nat} (hn : n < 10) : ∃ w, j_X0_add_13 z1 (nI n, cs) = some (nI (n + 1), pI cs n ((cs n).1, w)) ∧ rR w c := by
  obtain ⟨w, e, hr, -⟩ := x_copyRings (z0 := (cs n).2) h
  refine ⟨w, ?_, hr⟩
  rw [← nI_1]
  rcases (show n = 0 ∨ n = 1 ∨ n = 2 ∨ n = 3 ∨ n = 4 ∨ n = 5 ∨ n = 6 ∨ n = 7 ∨ n = 8 ∨ n = 9 by omega) with rfl | rfl | rfl | rfl | rfl | rfl | rfl | rfl | rfl | rfl
  all_goals
    unfold j_X0_add_13
    dsimp only
    rw [if_pos (inb_nI (by decide) (by decide))]
    repeat (first | rw [if_pos (by decide)] | rw [if_neg (by decide)])
    rw [e]
    rfl
theorem x_undoAt {z1 : Ob} {cs : Nat → CB} {n : Nat} {g : Cr} (h : rR (cs n).2 g) (hn : n < 10) : ∃ w, f_X0_undoLast (nI (n + 1), cs) z1 = some ((nI n, cs), w) ∧ rR w g ∧ w.1 11 = 0 ∧ (∀ k, k ≠ 6 → k ≠ 8 → k ≠ 11 → w.1 k = z1.1 k) := by
  obtain ⟨w, e, hr, h11, hk⟩ := x_copyRings (z0 := z1) h
  refine ⟨w, ?_, hr, h11, hk⟩
  unfold f_X0_undoLast
  dsimp only
  rw [if_neg (nI_nle (by omega) (by omega)), bn, nI_pred]
  dsimp only
  rw [if_pos (inb_nI hn (by decide))]
  rcases (show n = 0 ∨ n = 1 ∨ n = 2 ∨ n = 3 ∨ n = 4 ∨ n = 5 ∨ n = 6 ∨ n = 7 ∨ n = 8 ∨ n = 9 by omega) with rfl | rfl | rfl | rfl | rfl | rfl | rfl | rfl | rfl | rfl
  all_goals
    repeat (first | rw [if_pos (by decide)] | rw [if_neg (by decide)])
    rw [e]
    rfl
theorem note_at {z9 : Ob} {c : Cr} (hG : rG z9 c) {n : Nat} (hn : n < 10) (h23 : z9.1 23 = nI n) : ∃ w, j_X7_note_49 z9 = some w ∧ cf [23] [22] z9 w ∧ w.1 23 = nI (n + 1) ∧ rP (w.2 22) (42 * n) c ∧ ∀ j, j < 42 * n ∨ 42 * n + 42 ≤ j → w.2 22 j = z9.2 22 j := by
  obtain ⟨w, e, cw, hp, ho⟩ := m_lay22 hG (b := 42 * n) (by omega)
  have w23 : w.1 23 = nI n := by rw [cw.1 23 (by decide) (by decide)]; exact h23
  refine ⟨sI w 23 (nI (n + 1)), ?_, (cw.mono (fun k hk => absurd hk (List.not_mem_nil)) (fun k hk => hk)).sI (Or.inr (by decide)), sI_e, hp, ho⟩
  unfold j_X7_note_49
  rw [h23, l42, pk_mul, e, ob, bn, w23, nI_1]
theorem act_add {z1 z9 : Ob} {z5 : AS} {c : Cr} (hR : rR z1 c) (hg : gOK c) (hG : rG z9 c) (hA : RA z5 z9) : ∃ z5' w, f_X0_add z5 z1 = some z5' ∧ f_X7_note z9 = some w ∧ cf [23] [22] z9 w ∧ RA z5' w := by
  obtain ⟨n, hn, e5, e23, gs, hgs⟩ := hA
  obtain ⟨q5, cs⟩ := z5
  have e5' : q5 = nI n := e5
  subst e5'
  by_cases q : n = 10
  · subst q
    obtain ⟨v, ev, rv⟩ := x_addAt hR (fun j => cs (cond (Nat.beq j 9) 0 (j + 1))) (n := 9) (by decide)
    -- the book is moved
    have hmove : ∃ u, fuel2 (b_X7_note_11) FU 0 z9 = j_X7_note_49 u ∧ cf [23] [22] z9 u ∧ u.1 23 = nI 9 ∧ ∀ j, j < 378 → u.2 22 j = z9.2 22 (j + 42) := by
      refine lpA (B := b_X7_note_11) (fun i w => cf [23] [22] z9 w ∧ w.1 23 = nI 10 ∧ ∀ j, w.2 22 j = if j < i then z9.2 22 (j + 42) else z9.2 22 j) (fun o => ∃ u, o = j_X7_note_49 u ∧ cf [23] [22] z9 u ∧ u.1 23 = nI 9 ∧ ∀ j, j < 378 → u.2 22 j = z9.2 22 (j + 42)) 378 (by omega) (fun r i w hi hI => Or.inl ?_) (fun r w hI => ?_) 0 (Nat.zero_le _) z9 ⟨cf.rfl', e23, fun j => by rw [if_neg (by omega)]⟩
      · obtain ⟨cw, h23, hj⟩ := hI
        refine ⟨sA w 22 (upd (w.2 22) i (w.2 22 (i + 42))), ?_, cw.sA (Or.inr (by decide)), h23, fun j => ?_⟩
        · unfold b_X7_note_11
          rw [if_neg (show ¬ (378 : Int32) ≤ nI i from at_not (n := 378) rfl hi (by decide)), l42, nI_add, if_pos (inb_nI (by omega) (by decide)), if_pos (inb_nI (by omega) (by decide)), cl_nI (by omega), cl_nI (by omega), bn, bn, nI_1]
        · rw [sA_e, upd_if]
          by_cases e : j = i
          · rw [e, if_pos rfl, hj, if_neg (by omega), if_pos (by omega)]
          · rw [if_neg e, hj]
            by_cases f : j < i
            · rw [if_pos f, if_pos (by omega)]
            · rw [if_neg f, if_neg (by omega)]
      · obtain ⟨cw, h23, hj⟩ := hI
        refine ⟨sI w 23 (nI 9), ?_, cw.sI (Or.inr (by decide)), sI_e, fun j hj' => ?_⟩
        · unfold b_X7_note_11
          rw [if_pos (show (378 : Int32) ≤ nI 378 by decide), bn, h23]
          rfl
        · rw [sI_2, hj, if_pos hj']
    obtain ⟨u, eu, cu, u23, hu⟩ := hmove
    have hGu : rG u c := by
      obtain ⟨h1, h2, h3, h4⟩ := hG
      refine ⟨by rw [cu.1 4 (by decide) (by decide)]; exact h1, h2, ?_, by rw [cu.1 11 (by decide) (by decide)]; exact h4⟩
      rw [cu.2 5 (by decide) (by decide), cu.2 6 (by decide) (by decide), cu.2 7 (by decide) (by decide), cu.2 8 (by decide) (by decide), cu.2 9 (by decide) (by decide)]
      exact h3
    obtain ⟨w, ew, cw, w23, hp, ho⟩ := note_at hGu (n := 9) (by decide) u23
    refine ⟨(nI (9 + 1), pI (fun j => cs (cond (Nat.beq j 9) 0 (j + 1))) 9 ((cs (cond (Nat.beq 9 9) 0 (9 + 1))).1, v)), w, ?_, ?_, cu.trans cw, 10, by decide, rfl, w23, fun p => if p = 9 then c else gs (p + 1), fun p hp' => ?_⟩
    · unfold f_X0_add
      dsimp only
      rw [if_neg (by decide)]
      unfold f_X0_forgetFirst
      rw [ob]
      exact ev
    · unfold f_X7_note
      rw [e23, if_pos (by decide), eu]
      exact ew
    · by_cases e : p = 9
      · subst e
        dsimp only
        rw [if_pos rfl]
        refine ⟨hg, ?_, hp⟩
        show rR (pI (fun j => cs (cond (Nat.beq j 9) 0 (j + 1))) 9 _ 9).2 c
        rw [pI_eq]
        exact rv
      · dsimp only
        rw [if_neg e]
        obtain ⟨g1, g2, g3⟩ := hgs (p + 1) (by omega)
        refine ⟨g1, ?_, ?_⟩
        · show rR (pI (fun j => cs (cond (Nat.beq j 9) 0 (j + 1))) 9 _ p).2 _
          rw [pI_ne e]
          have hb : Nat.beq p 9 = false := by
            cases hb : Nat.beq p 9 with
            | false => rfl
            | true => exact absurd (Nat.eq_of_beq_eq_true hb) e
          rw [hb]
          exact g2
        · refine rP_m g1.1 g3 fun j hj => ?_
          rw [ho _ (Or.inl (by omega)), hu _ (by omega), show 42 * p + j + 42 = 42 * (p + 1) + j from by omega]
  · obtain ⟨v, ev, rv⟩ := x_addAt hR cs (n := n) (by omega)
    obtain ⟨w, ew, cw, w23, hp, ho⟩ := note_at hG (n := n) (by omega) e23
    refine ⟨(nI (n + 1), pI cs n ((cs n).1, v)), w, ?_, ?_, cw, n + 1, by omega, rfl, w23, fun p => if p = n then c else gs p, fun p hp' => ?_⟩
    · unfold f_X0_add
      dsimp only
      rw [if_pos (show nI n < 10 from nI_lt (a := n) (b := 10) (by omega) (by decide))]
      exact ev
    · unfold f_X7_note
      rw [e23, if_neg (show ¬ nI n = (10 : Int32) from fun e => q ((nI_eq (a := n) (b := 10) (by omega) (by decide)).mp e))]
      exact ew
    · by_cases e : p = n
      · subst e
        dsimp only
        rw [if_pos rfl]
        refine ⟨hg, ?_, hp⟩
        show rR (pI cs p _ p).2 c
        rw [pI_eq]
        exact rv
      · dsimp only
        rw [if_neg e]
        obtain ⟨g1, g2, g3⟩ := hgs p (by omega)
        refine ⟨g1, ?_, rP_c g1.1 g3 fun j h1 h2 => ho j (Or.inl (by omega))⟩
        show rR (pI cs n _ p).2 _
        rw [pI_ne e]
        exact g2
/-- rings and music as told, the rest as it is -/
def cU (c g : Cr) : Cr := ((cN g, c.1.2), (pI c.2.1 1 (cI g 1), g.2.2))
theorem cI_U {c g : Cr} {k : Nat} : cI (cU c g) k = if k = 1 then cI g 1 else cI c k := by
  show pI c.2.1 1 (cI g 1) k = _
  by_cases q : k = 1
  · rw [q, pI_eq, if_pos rfl]
  · rw [pI_ne q, if_neg q]
theorem U_ok {c g : Cr} (hc : cOK c) (hg : gOK g) : cOK (cU c g) := by
  refine ⟨hg.1, hg.2.1, ?_, ?_, ?_⟩
  · rw [cI_U, if_neg (by decide)]; exact hc.2.2.1
  · rw [cI_U, if_pos rfl]; exact hg.2.2
  · rw [cI_U, if_neg (by decide)]; exact hc.2.2.2.2
/-- both have come to new rings -/
theorem RQ_of {z1 z1' z9 w : Ob} {c c' : Cr} (h : RQ z1 z9 c) (hr : rR z1' c') (h7 : z1'.1 7 = cI c' 0) (h10 : z1'.1 10 = cI c' 2) (h11 : z1'.1 11 = 0) (hG : rG w c') (g10 : w.1 10 = cI c' 0) (g12 : w.1 12 = cI c' 2) (hs : ∀ i, cS c' i = true) (hok : cOK c') : RQ z1' w c' :=
  ⟨rX_of hr h7 h10 h11 hs, h11, ⟨hG.1, hG.2.1, hG.2.2.1, g10, hG.2.2.2, g12, hs⟩, hok⟩
abbrev SL : List Nat := [0, 4, 10, 11, 12, 23]
abbrev AL : List Nat := [5, 6, 7, 8, 9, 22]
theorem T_undo {z1 z9 : Ob} {z5 : AS} {c : Cr} (h : RQ z1 z9 c) (hA : RA z5 z9) : ∃ r z1' z5' w c', f_X6_undo z1 z5 = some (r, z1', z5') ∧ f_X7_undo z9 = some (r, w) ∧ RQ z1' w c' ∧ RA z5' w ∧ cf SL AL z9 w := by
  obtain ⟨hx, h11, hn9, hc⟩ := id h
  have c1 : cz z9 (sI z9 0 0) := cz_th
  obtain ⟨n, hn, e5, e23, gs, hgs⟩ := id hA
  obtain ⟨q5, cs⟩ := z5
  have e5' : q5 = nI n := e5
  subst e5'
  by_cases q : n = 0
  · subst q
    refine ⟨-3, z1, (nI 0, cs), sI z9 0 0, c, ?_, ?_, ⟨hx, h11, c1.rN hn9, hc⟩, hA.c (c1.1 23 (by decide) (by decide)) rfl, c1.cf (by decide)⟩
    · unfold f_X6_undo
      dsimp only
      rw [if_neg (by decide)]
    · unfold f_X7_undo
      rw [bn, c1.1 23 (by decide) (by decide), e23, if_pos (by decide)]
  · obtain ⟨m, rfl⟩ : ∃ m, n = m + 1 := ⟨n - 1, by omega⟩
    obtain ⟨g1, g2, g3⟩ := hgs m (by omega)
    obtain ⟨v, ev, rv, v11, hv⟩ := x_undoAt (z1 := z1) g2 (by omega)
    have c2 : cf SL AL z9 (sI (sI z9 0 0) 23 (nI m)) := (c1.cf (by decide)).sI (Or.inr (by decide))
    obtain ⟨w, ew, cw, hGw⟩ := m_take22 (z := sI (sI z9 0 0) 23 (nI m)) (b := 42 * m) (by omega) g1.1 g3
    have cw' : cf SL AL z9 w := c2.trans (cw.mono (by decide) (by decide))
    refine ⟨nI m, v, (nI m, cs), w, cU c (gs m), ?_, ?_, ?_, ?_, cw'⟩
    · unfold f_X6_undo
      dsimp only
      rw [if_pos (show (1 : Int32) ≤ nI (m + 1) from nI_le (a := 1) (b := m + 1) (by omega) (by omega)), ev, b2]
    · unfold f_X7_undo
      rw [bn, c1.1 23 (by decide) (by decide), e23, if_neg (nI_ne0 (by omega) (by omega)), nI_pred, bn, sI_e, l42, pk_mul, ew, ob, cw.1 23 (by decide) (by decide), sI_e]
    · refine RQ_of h (c' := cU c (gs m)) ⟨rv.1, rv.2.1, rv.2.2.1, ?_⟩ ?_ ?_ v11 ⟨hGw.1, hGw.2.1, hGw.2.2.1, ?_⟩ ?_ ?_ hn9.2.2.2.2.2.2 (U_ok hc g1)
      · rw [cI_U, if_pos rfl]; exact rv.2.2.2
      · rw [cI_U, if_neg (by decide), hv 7 (by decide) (by decide) (by decide)]; exact hx.2.2.2.1
      · rw [cI_U, if_neg (by decide), hv 10 (by decide) (by decide) (by decide)]; exact hx.2.2.2.2.2.1
      · rw [cI_U, if_pos rfl]; exact hGw.2.2.2
      · rw [cI_U, if_neg (by decide), cw.1 10 (by decide) (by decide)]; exact hn9.2.2.2.1
      · rw [cI_U, if_neg (by decide), cw.1 12 (by decide) (by decide)]; exact hn9.2.2.2.2.2.1
    · refine ⟨m, by omega, rfl, by rw [cw.1 23 (by decide) (by decide), sI_e], gs, fun p hp => ?_⟩
      obtain ⟨a1, a2, a3⟩ := hgs p (by omega)
      refine ⟨a1, a2, ?_⟩
      rw [cw.2 22 (by decide) (by decide)]
      exact a3
