/-! PURE 19: a hush, a minute, a ring that breaks -/
theorem x_take11 {z : Ob} {c : Cr} (h : rL z c) : ∃ w, f_X1_take z = some w ∧ rX w (s_next c) ∧ w.1 11 = z.1 11 := by
  obtain ⟨w, e, hw⟩ := x_take h
  have hn := h.1.2.1
  have key : ∀ o, o = f_X1_take z → ∀ w, o = some w → w.1 11 = z.1 11 := by
    intro o eo
    rw [eo]
    refine lpA (B := b_X1_take_2) (fun k w => w.1 = z.1) (fun o => ∀ w, o = some w → w.1 11 = z.1 11) (cN c) (by omega) (fun r k w hk e1 => Or.inl ?_) (fun r w e1 => ?_) 0 (Nat.zero_le _) z rfl
    · have hb : inb (nI k) 8 = true := inb_nI (by omega) (by decide)
      refine ⟨sA w 3 (upd (w.2 3) k (w.2 5 k)), ?_, e1⟩
      unfold b_X1_take_2
      rw [if_neg (at_not (by rw [e1]; exact h.1.1) hk (by omega)), if_pos hb, if_pos hb, cl_nI (by omega), ← nI_1]
      rfl
    · intro u hu
      unfold b_X1_take_2 at hu
      rw [if_pos (at_end (by rw [e1]; exact h.1.1) (by omega)), bn] at hu
      cases hu
      rw [sI_n (by decide), e1]
  exact ⟨w, e, hw, key _ rfl w e⟩
theorem T_hush {z1 z9 : Ob} {z5 : AS} {c : Cr} (h : RQ z1 z9 c) (hA : RA z5 z9) : ∃ r z1' z5' w c', f_X6_hush z1 z5 = some (r, z1', z5') ∧ f_X7_hush z9 = some (r, w) ∧ RQ z1' w c' ∧ RA z5' w ∧ cf SL AL z9 w := by
  obtain ⟨hx, h11, hn9, hc⟩ := id h
  have h8 := hx.2.1
  have c1 : cz z9 (sI z9 0 0) := cz_th
  have hn1 := c1.rN hn9
  obtain ⟨z5', u, e5, eu, cu, hA'⟩ := act_add hx.rR hc.g hn1.g (hA.stay c1)
  have cu' : cf SL AL z9 u := (c1.cf (by decide)).trans (cu.mono (by decide) (by decide))
  have hNu := cu.rN hn1 (by decide) (by decide)
  obtain ⟨v, ev, rv, v1⟩ := x_speakAll hx 1
  have hM : ∃ w, fuel3 (b_X7_hush_13) FU 0 0 u = some (s_cnt (fun i => decide (¬ cA c 3 i = 1)) (cN c), w) ∧ cf [] [8] u w ∧ rN w (cBy c 1) := by
    refine lpC (B := b_X7_hush_13) (fun k b w => b = s_cnt (fun i => decide (¬ cA c 3 i = 1)) k ∧ w.1 = u.1 ∧ (∀ j, j ≠ 8 → w.2 j = u.2 j) ∧ (∀ i, i < k → w.2 8 i = 1) ∧ (∀ i, k ≤ i → w.2 8 i = u.2 8 i)) (fun o => ∃ w, o = some (s_cnt (fun i => decide (¬ cA c 3 i = 1)) (cN c), w) ∧ cf [] [8] u w ∧ rN w (cBy c 1)) (cN c) (by omega) (fun r k b w hk hw => Or.inl ?_) (fun r b w hw => ?_) 0 (Nat.zero_le _) 0 u ⟨rfl, rfl, fun _ _ => rfl, fun i hi => absurd hi (Nat.not_lt_zero _), fun _ _ => rfl⟩
    · obtain ⟨rfl, e1, e2, e3, e4⟩ := hw
      have hb : inb (nI k) 8 = true := inb_nI (by omega) (by decide)
      refine ⟨s_cnt (fun i => decide (¬ cA c 3 i = 1)) (k + 1), sA w 8 (upd (w.2 8) k 1), ?_, rfl, e1, fun j hj => by rw [sA_n hj]; exact e2 j hj, fun i hi => ?_, fun i hi => ?_⟩
      · unfold b_X7_hush_13 j_X7_hush_37
        rw [if_neg (at_not (by rw [e1]; exact hNu.1) hk (by omega)), if_pos hb, cl_nI (by omega), e4 k (Nat.le_refl k), (hNu.2.2.1 k hk).2.2.2.1, s_cnt_s]
        simp only [bn, if_pos hb, cl_nI (show k < 2 ^ 31 by omega), nI_1]
        by_cases a : cA c 3 k = 1
        · rw [if_pos a, decide_eq_false (show ¬ ¬ cA c 3 k = 1 from fun q => q a)]
          rfl
        · rw [if_neg a, decide_eq_true (show ¬ cA c 3 k = 1 from a)]
          rfl
      · rw [sA_e]
        by_cases q : i = k
        · rw [q]; exact pk_us
        · rw [pk_un q]; exact e3 i (by omega)
      · rw [sA_e, pk_un (by omega)]; exact e4 i (by omega)
    · obtain ⟨rfl, e1, e2, e3, e4⟩ := hw
      refine ⟨w, ?_, ⟨fun k _ _ => by rw [e1], fun k _ hk => e2 k (fun e => hk (by rw [e]; decide))⟩, ⟨by rw [e1]; exact hNu.1, h8, fun i hi => ?_, by rw [e1]; exact hNu.2.2.2.1, by rw [e1]; exact hNu.2.2.2.2.1, by rw [e1]; exact hNu.2.2.2.2.2.1, hn9.2.2.2.2.2.2⟩⟩
      · unfold b_X7_hush_13
        rw [if_pos (at_end (by rw [e1]; exact hNu.1) (by omega))]
      · rw [e2 5 (by decide), e2 6 (by decide), e2 7 (by decide), e2 9 (by decide), e3 i hi]
        obtain ⟨g0, g1, g2, g3, g4⟩ := hNu.2.2.1 i hi
        exact ⟨g0, g1, g2, rfl, g4⟩
  obtain ⟨w, ew, cw, nw⟩ := hM
  refine ⟨s_cnt (fun i => decide (¬ cA c 3 i = 1)) (cN c), v, z5', w, cBy c 1, ?_, ?_, ⟨rv, by rw [v1]; exact h11, nw, by_ok hc (k := 1) (by decide) (by decide)⟩, hA'.c (cw.1 23 (by decide) (by decide)) (cw.2 22 (by decide) (by decide)), cu'.trans (cw.mono (by decide) (by decide))⟩
  · unfold f_X6_hush
    rw [e5, ob, ev, b2]
  · unfold f_X7_hush
    rw [bn, eu, ob]
    exact ew
theorem T_minute {z1 z9 : Ob} {z5 : AS} {c : Cr} (h : RQ z1 z9 c) (hA : RA z5 z9) : ∃ r z1' z5' w c', f_X6_minute z1 z5 = some (r, z1', z5') ∧ f_X7_minute z9 = some (r, w) ∧ RQ z1' w c' ∧ RA z5' w ∧ cf SL AL z9 w := by
  obtain ⟨hx, h11, hn9, hc⟩ := id h
  have h8 := hx.2.1
  have c1 : cz z9 (sI z9 0 0) := cz_th
  have hn1 := c1.rN hn9
  obtain ⟨z5', u, e5, eu, cu, hA'⟩ := act_add hx.rR hc.g hn1.g (hA.stay c1)
  have cu' : cf SL AL z9 u := (c1.cf (by decide)).trans (cu.mono (by decide) (by decide))
  have hNu := cu.rN hn1 (by decide) (by decide)
  obtain ⟨a, ea, xa, va, ma⟩ := x_look hx hc
  have ha : rL a c := ⟨xa.rX hx, va, ma⟩
  obtain ⟨b, eb, rb, b11⟩ := x_take11 ha
  have a11 : a.1 11 = 0 := by rw [xa.1 11 (by decide)]; exact h11
  obtain ⟨d, ed, cd, rd⟩ := m_begin hNu hc
  obtain ⟨g, eg, cg, rg, -⟩ := m_go rd hc
  have cdg := cd.trans cg
  have hNg := cdg.rN hNu
  obtain ⟨k, hk, ek, -⟩ := s_cnt_n (s_moved c) (n := cN c) (by omega)
  have hM : ∃ w, fuel2 (b_X7_minute_20 (s_goN c)) FU 0 g = some (s_cnt (s_moved c) (cN c), w) ∧ cf [11] [8] g w ∧ rN w (s_next c) := by
    refine lpA (B := b_X7_minute_20 (s_goN c)) (fun k w => w.1 = g.1 ∧ (∀ j, j ≠ 8 → w.2 j = g.2 j) ∧ (∀ i, i < k → w.2 8 i = s_voice c i)) (fun o => ∃ w, o = some (s_cnt (s_moved c) (cN c), w) ∧ cf [11] [8] g w ∧ rN w (s_next c)) (cN c) (by omega) (fun r k w hk hw => Or.inl ?_) (fun r w hw => ?_) 0 (Nat.zero_le _) g ⟨rfl, fun _ _ => rfl, fun i hi => absurd hi (Nat.not_lt_zero _)⟩
    · obtain ⟨e1, e2, e3⟩ := hw
      have hb : inb (nI k) 8 = true := inb_nI (by omega) (by decide)
      have e29 : w.2 29 k = s_voice c k := by
        rw [e2 29 (by decide), (rg.2.2.1 k hk).2.2.2.1, cA_next, if_pos rfl]
      refine ⟨sA w 8 (upd (w.2 8) k (s_voice c k)), ?_, e1, fun j hj => by rw [sA_n hj]; exact e2 j hj, fun i hi => ?_⟩
      · unfold b_X7_minute_20
        rw [if_neg (at_not (by rw [e1]; exact hNg.1) hk (by omega)), if_pos hb, if_pos hb, cl_nI (by omega), e29]
        simp only [bn, nI_1]
      · rw [sA_e]
        by_cases q : i = k
        · rw [q]; exact pk_us
        · rw [pk_un q]; exact e3 i (by omega)
    · obtain ⟨e1, e2, e3⟩ := hw
      have g31 : w.1 31 = s_music c := by
        rw [e1, rg.2.2.2.2.1, cI_next, if_pos rfl]
      refine ⟨sI w 11 (s_music c), ?_, ⟨fun k _ hk => by rw [sI_n (fun e => hk (by rw [e]; decide)), e1], fun k _ hk => e2 k (fun e => hk (by rw [e]; decide))⟩, ⟨?_, h8, fun i hi => ?_, ?_, ?_, ?_, hn9.2.2.2.2.2.2⟩⟩
      · unfold b_X7_minute_20
        rw [if_pos (at_end (by rw [e1]; exact hNg.1) (by omega)), bn, g31]
        unfold s_goN
        by_cases z : s_cnt (s_moved c) (cN c) = 0 ∧ ¬ s_music c = cI c 1
        · rw [if_pos z, if_neg (by decide), z.1]
        · rw [if_neg z, ek, if_pos (nI_pos' (by omega))]
      · rw [sI_n (by decide), e1]; exact hNg.1
      · rw [sI_2, e2 5 (by decide), e2 6 (by decide), e2 7 (by decide), e2 9 (by decide), e3 i hi, cA_next, cA_next, cA_next, cA_next, cA_next]
        obtain ⟨g0, g1, g2, g3, g4⟩ := hNg.2.2.1 i hi
        exact ⟨g0, g1, g2, rfl, g4⟩
      · rw [sI_n (by decide), e1, cI_next]; exact hNg.2.2.2.1
      · rw [sI_e, cI_next]; rfl
      · rw [sI_n (by decide), e1, cI_next]; exact hNg.2.2.2.2.2.1
  obtain ⟨w, ew, cw, nw⟩ := hM
  have cgw : cf SL AL u w := (cdg.cf (by decide)).trans (cw.mono (by decide) (by decide))
  refine ⟨s_cnt (s_moved c) (cN c), b, z5', w, s_next c, ?_, ?_, ⟨rb, by rw [b11]; exact a11, nw, next_ok hc⟩, hA'.c ?_ ?_, cu'.trans cgw⟩
  · unfold f_X6_minute
    rw [e5, ob, ea, ob, x_changing ha, ob, eb, ob]
  · unfold f_X7_minute
    rw [bn, eu, ob, ed, ob, eg, b2]
    exact ew
  · rw [cw.1 23 (by decide) (by decide)]; exact cdg.1 23 (by decide) (by decide)
  · rw [cw.2 22 (by decide) (by decide)]; exact cdg.2 22 (by decide)
theorem m_firstFree {z : Ob} {c : Cr} (h : rN z c) {x : Nat} (hx : x < 9) (h0 : s_taken c (nI x) = false) (hl : ∀ y, y < x → s_taken c (nI y) = true) : f_X7_firstFree z = some (nI x) := by
  refine lp1u (B := b_X7_firstFree_2 z) (fun _ => True) (fun o => o = some (nI x)) x (by omega) (fun r k hk _ => ?_) (fun r _ => ?_) 0 (Nat.zero_le _) trivial
  · refine Or.inl ⟨?_, trivial⟩
    unfold b_X7_firstFree_2
    rw [m_taken h, ob, hl k hk, if_neg (show ¬ b32 true = 0 by decide), bn, nI_1]
  · unfold b_X7_firstFree_2
    rw [m_taken h, ob, h0]
    rfl
theorem half_ok : ∀ k, k < 10 → (4 ≤ k → nI k / 2 = nI (k / 2) ∧ nI k - nI (k / 2) = nI (k - k / 2)) := by decide +kernel
theorem T_breaks {z1 z9 : Ob} {z5 : AS} {c : Cr} (h : RQ z1 z9 c) (hA : RA z5 z9) (p : Int32) : ∃ r z1' z5' w c', f_X6_breaks z1 z5 p = some (r, z1', z5') ∧ f_X7_breaks z9 p = some (r, w) ∧ RQ z1' w c' ∧ RA z5' w ∧ cf SL AL z9 w := by
  obtain ⟨hx, h11, hn9, hc⟩ := id h
  have h8 := hx.2.1
  have c1 : cz z9 (sI z9 0 0) := cz_th
  have hn1 := c1.rN hn9
  unfold f_X6_breaks f_X7_breaks
  simp only [bn]
  by_cases hp : inR c p
  · rw [(x_hasR hx.rR p).1 hp, (m_noRing hn1 p).1 hp, ob, ob, if_neg (show ¬ (1 : Int32) = 0 by decide), if_pos rfl]
    obtain ⟨k, hk, rfl⟩ := i_nat hp.1 hp.2 (by omega)
    have hbk : inb (nI k) 8 = true := inb_nI (by omega) (by decide)
    obtain ⟨⟨a0, ha0, ea0⟩, -, ⟨a, ha1, ha, ea⟩, hv3, hv4⟩ := hc.2.1 k hk
    obtain ⟨n0, n1, n2, n3, n4⟩ := hn1.2.2.1 k hk
    simp only [if_pos hbk, cl_nI (show k < 2 ^ 31 by omega)]
    rw [hx.2.2.1 2 (by omega) k hk, n2, ea]
    by_cases f : 4 ≤ a
    · rw [if_pos (show 4 ≤ nI a from nI_le (a := 4) f (by omega)), if_pos (show 4 ≤ nI a from nI_le (a := 4) f (by omega)), hx.1, hn1.1]
      by_cases g8 : cN c < 8
      · rw [if_pos (show nI (cN c) < 8 from nI_lt (b := 8) g8 (by decide)), if_neg (show ¬ nI (cN c) = 8 from fun e => by have := (nI_eq (b := 8) (by omega) (by decide)).mp e; omega)]
        obtain ⟨z5', u, e5, eu, cu, hA'⟩ := act_add hx.rR hc.g hn1.g (hA.stay c1)
        have cu' : cf SL AL z9 u := (c1.cf (by decide)).trans (cu.mono (by decide) (by decide))
        have hNu := cu.rN hn1 (by decide) (by decide)
        obtain ⟨hd1, hd2⟩ := half_ok a ha f
        obtain ⟨x, hx9, hx0, hxl⟩ := free_ex (c := c) h8
        have hbn : inb (nI (cN c)) 8 = true := inb_nI g8 (by decide)
        obtain ⟨m0, m1, m2, m3, m4⟩ := hNu.2.2.1 k hk
        have cne : ¬ cN c = k := by omega
        have kne : ¬ k = cN c := by omega
        -- the one of Java
        have hput := rR_put hx.rR (j := 2) (p := k) (by decide) (nI (a / 2))
        let v : Nat → Int32 := fun j => if j = 0 then cA c 0 k else if j = 1 then nI x else if j = 2 then nI (a - a / 2) else if j = 3 then cA c 3 k else cA c 4 k
        have hff : f_X1_firstFree (sA z1 2 (upd (z1.2 2) k (nI (a / 2)))) = some (nI x) := x_firstFree hput hx9 hx0 hxl
        obtain ⟨w1, ew1, rw1, hw1⟩ := x_add hput g8 v
        have ew1' : f_X1_add (sA z1 2 (upd (z1.2 2) k (nI (a / 2)))) (cA c 0 k) (nI x) (nI (a - a / 2)) (cA c 3 k) (cA c 4 k) = some w1 := ew1
        have r1 : (sA z1 2 (upd (z1.2 2) k (nI (a / 2)))).2 0 k = cA c 0 k := hx.2.2.1 0 (by decide) k hk
        have r3 : (sA z1 2 (upd (z1.2 2) k (nI (a / 2)))).2 3 k = cA c 3 k := hx.2.2.1 3 (by decide) k hk
        have r4 : (sA z1 2 (upd (z1.2 2) k (nI (a / 2)))).2 4 k = cA c 4 k := hx.2.2.1 4 (by decide) k hk
        rw [e5, eu]
        simp only [ob, hd1, hd2, hff, r1, r3, r4, ew1']
        rw [rw1.1]
        -- the reference
        have u4 : u.1 4 = nI (cN c) := hNu.1
        simp only [sA_1, u4, if_pos hbn, cl_nI (show cN c < 2 ^ 31 by omega)]
        have cA3 : cf [] [5, 8, 9] u (sA (sA (sA u 5 (upd (u.2 5) (cN c) (u.2 5 k))) 8 (upd ((sA u 5 (upd (u.2 5) (cN c) (u.2 5 k))).2 8) (cN c) ((sA u 5 (upd (u.2 5) (cN c) (u.2 5 k))).2 8 k))) 9 (upd ((sA (sA u 5 (upd (u.2 5) (cN c) (u.2 5 k))) 8 (upd ((sA u 5 (upd (u.2 5) (cN c) (u.2 5 k))).2 8) (cN c) ((sA u 5 (upd (u.2 5) (cN c) (u.2 5 k))).2 8 k))).2 9) (cN c) ((sA (sA u 5 (upd (u.2 5) (cN c) (u.2 5 k))) 8 (upd ((sA u 5 (upd (u.2 5) (cN c) (u.2 5 k))).2 8) (cN c) ((sA u 5 (upd (u.2 5) (cN c) (u.2 5 k))).2 8 k))).2 9 k))) := ((cf.rfl'.sA (Or.inr (by decide))).sA (Or.inr (by decide))).sA (Or.inr (by decide))
        have hN6 : rN (sA (sA (sA u 5 (upd (u.2 5) (cN c) (u.2 5 k))) 8 (upd ((sA u 5 (upd (u.2 5) (cN c) (u.2 5 k))).2 8) (cN c) ((sA u 5 (upd (u.2 5) (cN c) (u.2 5 k))).2 8 k))) 9 (upd ((sA (sA u 5 (upd (u.2 5) (cN c) (u.2 5 k))) 8 (upd ((sA u 5 (upd (u.2 5) (cN c) (u.2 5 k))).2 8) (cN c) ((sA u 5 (upd (u.2 5) (cN c) (u.2 5 k))).2 8 k))).2 9) (cN c) ((sA (sA u 5 (upd (u.2 5) (cN c) (u.2 5 k))) 8 (upd ((sA u 5 (upd (u.2 5) (cN c) (u.2 5 k))).2 8) (cN c) ((sA u 5 (upd (u.2 5) (cN c) (u.2 5 k))).2 8 k))).2 9 k))) c := by
          refine ⟨u4, h8, fun i hi => ?_, hNu.2.2.2.1, hNu.2.2.2.2.1, hNu.2.2.2.2.2.1, hn9.2.2.2.2.2.2⟩
          have hi' : ¬ i = cN c := by omega
          obtain ⟨i0, i1, i2, i3, i4⟩ := hNu.2.2.1 i hi
          exact ⟨(pk_un hi').trans i0, i1, i2, (pk_un hi').trans i3, (pk_un hi').trans i4⟩
        rw [m_firstFree hN6 hx9 hx0 hxl, ob]
        generalize hg6 : sA (sA (sA u 5 (upd (u.2 5) (cN c) (u.2 5 k))) 8 (upd ((sA u 5 (upd (u.2 5) (cN c) (u.2 5 k))).2 8) (cN c) ((sA u 5 (upd (u.2 5) (cN c) (u.2 5 k))).2 8 k))) 9 (upd ((sA (sA u 5 (upd (u.2 5) (cN c) (u.2 5 k))) 8 (upd ((sA u 5 (upd (u.2 5) (cN c) (u.2 5 k))).2 8) (cN c) ((sA u 5 (upd (u.2 5) (cN c) (u.2 5 k))).2 8 k))).2 9) (cN c) ((sA (sA u 5 (upd (u.2 5) (cN c) (u.2 5 k))) 8 (upd ((sA u 5 (upd (u.2 5) (cN c) (u.2 5 k))).2 8) (cN c) ((sA u 5 (upd (u.2 5) (cN c) (u.2 5 k))).2 8 k))).2 9 k)) = g6 at *
        have G1 : g6.1 = u.1 := by rw [← hg6]; rfl
        have G5 : g6.2 5 = upd (u.2 5) (cN c) (cA c 0 k) := by rw [← hg6, ← m0]; rfl
        have G6 : g6.2 6 = u.2 6 := by rw [← hg6]; rfl
        have G7 : g6.2 7 = u.2 7 := by rw [← hg6]; rfl
        have G8 : g6.2 8 = upd (u.2 8) (cN c) (cA c 3 k) := by rw [← hg6, ← m3]; rfl
        have G9 : g6.2 9 = upd (u.2 9) (cN c) (cA c 4 k) := by rw [← hg6, ← m4]; rfl
        have G22 : g6.2 22 = u.2 22 := by rw [← hg6]; rfl
        have cg6 : cf SL AL z9 g6 := cu'.trans (cA3.mono (by decide) (by decide))
        clear hg6
        have E7 : (sA g6 6 (upd (u.2 6) (cN c) (nI x))).2 7 = u.2 7 := by rw [sA_n (by decide)]; exact G7
        have F7 : upd (u.2 7) (cN c) (nI (a - a / 2)) k = nI a := by rw [pk_un kne, m2]; exact ea
        simp only [G6, E7, m2, ea, hd1, hd2, sA_e, F7, sA_1, G1, u4, nI_1]
        refine ⟨nI (cN c + 1) - 1, w1, z5', _, cAdd (cPutK c 2 k (nI (a / 2))) v, rfl, rfl, ?_, hA'.c ?_ ?_, ?_⟩
        · refine RQ_of h rw1 (by rw [hw1 7 (by decide)]; exact hx.2.2.2.1) (by rw [hw1 10 (by decide)]; exact hx.2.2.2.2.2.1) (by rw [hw1 11 (by decide)]; exact h11) ⟨sI_e, by show cN c + 1 ≤ 8; omega, fun i hi => ?_, ?_⟩ ?_ ?_ hn9.2.2.2.2.2.2 ?_
          · have hi' : i < cN c + 1 := hi
            simp only [sI_2]
            rw [sA_n (by decide), sA_n (by decide), sA_n (by decide), sA_n (by decide), sA_n (by decide), sA_e, sA_e, sA_n (by decide), sA_n (by decide), sA_n (by decide), sA_n (by decide), sA_n (by decide), sA_n (by decide), G5, G8, G9]
            show _ = (if i = cN c then cA c 0 k else if 0 = 2 ∧ i = k then nI (a / 2) else cA c 0 i) ∧ _ = (if i = cN c then nI x else if 1 = 2 ∧ i = k then nI (a / 2) else cA c 1 i) ∧ _ = (if i = cN c then nI (a - a / 2) else if 2 = 2 ∧ i = k then nI (a / 2) else cA c 2 i) ∧ _ = (if i = cN c then cA c 3 k else if 3 = 2 ∧ i = k then nI (a / 2) else cA c 3 i) ∧ _ = (if i = cN c then cA c 4 k else if 4 = 2 ∧ i = k then nI (a / 2) else cA c 4 i)
            simp only [upd_if]
            by_cases e : i = cN c
            · simp only [if_pos e]
              rw [if_neg (by omega)]
              exact ⟨by trivial, by trivial, by trivial, by trivial, by trivial⟩
            · simp only [if_neg e]
              obtain ⟨i0, i1, i2, i3, i4⟩ := hNu.2.2.1 i (by omega)
              rw [if_neg (show ¬ (0 = 2 ∧ i = k) from fun x => absurd x.1 (by decide)), if_neg (show ¬ (1 = 2 ∧ i = k) from fun x => absurd x.1 (by decide)), if_neg (show ¬ (3 = 2 ∧ i = k) from fun x => absurd x.1 (by decide)), if_neg (show ¬ (4 = 2 ∧ i = k) from fun x => absurd x.1 (by decide))]
              refine ⟨i0, i1, ?_, i3, i4⟩
              by_cases f : i = k
              · rw [if_pos f, if_pos ⟨by trivial, f⟩]
              · rw [if_neg f, if_neg (fun x => f x.2)]; exact i2
          · rw [sI_n (by decide), sA_1, sA_1, sA_1, G1]; exact hNu.2.2.2.2.1
          · rw [sI_n (by decide), sA_1, sA_1, sA_1, G1]; exact hNu.2.2.2.1
          · rw [sI_n (by decide), sA_1, sA_1, sA_1, G1]; exact hNu.2.2.2.2.2.1
          · exact add_ok (put2_ok hc ⟨a / 2, by omega, by omega, rfl⟩) g8 ⟨⟨a0, ha0, ea0⟩, ⟨x, by omega, rfl⟩, ⟨a - a / 2, by omega, by omega, rfl⟩, hv3, hv4⟩
        · rw [sI_n (by decide), sA_1, sA_1, sA_1, G1]
        · rw [sI_2, sA_n (by decide), sA_n (by decide), sA_n (by decide)]; exact G22
        · exact (((cg6.sA (Or.inr (by decide))).sA (Or.inr (by decide))).sA (Or.inr (by decide))).sI (Or.inr (by decide))
      · rw [if_neg (show ¬ nI (cN c) < 8 from nI_nlt (b := 8) (by omega) (by omega)), if_pos (show nI (cN c) = 8 from by rw [show cN c = 8 from by omega]; decide)]
        exact ⟨-4, z1, z5, sI z9 0 0, c, rfl, rfl, h.stay c1, hA.stay c1, c1.cf (by decide)⟩
    · rw [if_neg (show ¬ 4 ≤ nI a from nI_ge (b := 4) (by omega) (by decide)), if_neg (show ¬ 4 ≤ nI a from nI_ge (b := 4) (by omega) (by decide))]
      exact ⟨-3, z1, z5, sI z9 0 0, c, rfl, rfl, h.stay c1, hA.stay c1, c1.cf (by decide)⟩
  · rw [(x_hasR hx.rR p).2 hp, (m_noRing hn1 p).2 hp]
    exact ⟨-1, z1, z5, sI z9 0 0, c, rfl, rfl, h.stay c1, hA.stay c1, c1.cf (by decide)⟩
