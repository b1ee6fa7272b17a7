/-! PURE 18: what changes the room -/
/-- one figure of a ring -/
def cPutK (c : Cr) (j p : Nat) (v : Int32) : Cr := (c.1, (c.2.1, fun k i => if k = j ∧ i = p then v else cA c k i))
theorem putK_c {c : Cr} {p : Nat} {v : Int32} : cPut c p v = cPutK c 2 p v := rfl
theorem rR_put {z : Ob} {c : Cr} (h : rR z c) {j p : Nat} (hj : j < 5) (v : Int32) : rR (sA z j (upd (z.2 j) p v)) (cPutK c j p v) := by
  obtain ⟨h1, h2, h3, h4⟩ := h
  refine ⟨h1, h2, fun k hk i hi => ?_, h4⟩
  show _ = if k = j ∧ i = p then v else cA c k i
  by_cases q : k = j
  · subst q
    rw [sA_e, upd_if]
    by_cases e : i = p
    · rw [if_pos e, if_pos ⟨rfl, e⟩]
    · rw [if_neg e, if_neg (fun x => e x.2)]; exact h3 k hk i hi
  · rw [sA_n q, if_neg (fun x => q x.1)]; exact h3 k hk i hi
theorem rG_put {z : Ob} {c : Cr} (h : rG z c) {j p : Nat} (hj : j < 5) (v : Int32) : rG (sA z (5 + j) (upd (z.2 (5 + j)) p v)) (cPutK c j p v) := by
  obtain ⟨h1, h2, h3, h4⟩ := h
  refine ⟨h1, h2, fun i hi => ?_, h4⟩
  obtain ⟨g0, g1, g2, g3, g4⟩ := h3 i hi
  have key : ∀ k, k < 5 → z.2 (5 + k) i = cA c k i → (sA z (5 + j) (upd (z.2 (5 + j)) p v)).2 (5 + k) i = cA (cPutK c j p v) k i := by
    intro k hk e
    show _ = if k = j ∧ i = p then v else cA c k i
    by_cases q : k = j
    · subst q
      rw [sA_e, upd_if]
      by_cases f : i = p
      · rw [if_pos f, if_pos ⟨rfl, f⟩]
      · rw [if_neg f, if_neg (fun x => f x.2)]; exact e
    · rw [sA_n (by omega), if_neg (fun x => q x.1)]; exact e
  exact ⟨key 0 (by omega) g0, key 1 (by omega) g1, key 2 (by omega) g2, key 3 (by omega) g3, key 4 (by omega) g4⟩
theorem put2_ok {c : Cr} (hc : cOK c) {p : Nat} {v : Int32} (hv : ∃ k, 1 ≤ k ∧ k < 10 ∧ v = nI k) : cOK (cPutK c 2 p v) := by
  refine ⟨hc.1, fun i hi => ?_, hc.2.2⟩
  obtain ⟨g0, g1, g2, g3, g4⟩ := hc.2.1 i hi
  refine ⟨g0, g1, ?_, g3, g4⟩
  show ∃ k, 1 ≤ k ∧ k < 10 ∧ (if 2 = 2 ∧ i = p then v else cA c 2 i) = nI k
  split
  · exact hv
  · exact g2
theorem put3_ok {c : Cr} (hc : cOK c) {p : Nat} {v : Int32} (hv : ∃ k, 1 ≤ k ∧ k < 10 ∧ v = nI k) : cOK (cPutK c 3 p v) := by
  refine ⟨hc.1, fun i hi => ?_, hc.2.2⟩
  obtain ⟨g0, g1, g2, g3, g4⟩ := hc.2.1 i hi
  refine ⟨g0, g1, g2, ?_, g4⟩
  show ∃ k, 1 ≤ k ∧ k < 10 ∧ (if 3 = 3 ∧ i = p then v else cA c 3 i) = nI k
  split
  · exact hv
  · exact g3
theorem drop_ok {c : Cr} (hc : cOK c) {p : Nat} (hp : p < cN c) : cOK (cDrop c p) := by
  have h8 := hc.1
  refine ⟨by show cN c - 1 ≤ 8; omega, fun i hi => ?_, hc.2.2⟩
  have hi' : i < cN c - 1 := hi
  have key : ∀ k, cA (cDrop c p) k i = cA c k (if i < p then i else i + 1) := fun k => by
    show (if i < p then cA c k i else cA c k (i + 1)) = _
    split <;> rfl
  rw [key, key, key, key, key]
  exact hc.2.1 _ (by split <;> omega)
theorem add_ok {c : Cr} (hc : cOK c) (h8 : cN c < 8) {v : Nat → Int32} (hv : (∃ k, k < 5 ∧ v 0 = nI k) ∧ (∃ k, k < 100 ∧ v 1 = nI k) ∧ (∃ k, 1 ≤ k ∧ k < 10 ∧ v 2 = nI k) ∧ (∃ k, 1 ≤ k ∧ k < 10 ∧ v 3 = nI k) ∧ (∃ k, k < 10 ∧ v 4 = nI k)) : cOK (cAdd c v) := by
  refine ⟨h8, fun i hi => ?_, hc.2.2⟩
  have hi' : i < cN c + 1 := hi
  show (∃ k, k < 5 ∧ (if i = cN c then v 0 else cA c 0 i) = nI k) ∧ (∃ k, k < 100 ∧ (if i = cN c then v 1 else cA c 1 i) = nI k) ∧ (∃ k, 1 ≤ k ∧ k < 10 ∧ (if i = cN c then v 2 else cA c 2 i) = nI k) ∧ (∃ k, 1 ≤ k ∧ k < 10 ∧ (if i = cN c then v 3 else cA c 3 i) = nI k) ∧ (∃ k, k < 10 ∧ (if i = cN c then v 4 else cA c 4 i) = nI k)
  by_cases q : i = cN c
  · simp only [if_pos q]; exact hv
  · simp only [if_neg q]; exact hc.2.1 i (by omega)
theorem cz.rG {z w : Ob} {c : Cr} (e : cz z w) (h : rG z c) : rG w c := by
  obtain ⟨h1, h2, h3, h4⟩ := h
  refine ⟨by rw [e.1 4 (by decide) (by decide)]; exact h1, h2, ?_, by rw [e.1 11 (by decide) (by decide)]; exact h4⟩
  rw [e.2 5 (by decide), e.2 6 (by decide), e.2 7 (by decide), e.2 8 (by decide), e.2 9 (by decide)]
  exact h3
theorem cf.rG {S A : List Nat} {z w : Ob} {c : Cr} (e : cf S A z w) (h : rG z c) (hS : 4 ∉ S ∧ 11 ∉ S) (hA : 5 ∉ A ∧ 6 ∉ A ∧ 7 ∉ A ∧ 8 ∉ A ∧ 9 ∉ A) : rG w c := by
  obtain ⟨h1, h2, h3, h4⟩ := h
  refine ⟨by rw [e.1 4 (by decide) hS.1]; exact h1, h2, ?_, by rw [e.1 11 (by decide) hS.2]; exact h4⟩
  rw [e.2 5 (by decide) hA.1, e.2 6 (by decide) hA.2.1, e.2 7 (by decide) hA.2.2.1, e.2 8 (by decide) hA.2.2.2.1, e.2 9 (by decide) hA.2.2.2.2]
  exact h3
theorem RQ.stay {z1 z9 w : Ob} {c : Cr} (h : RQ z1 z9 c) (e : cz z9 w) : RQ z1 w c := ⟨h.1, h.2.1, e.rN h.2.2.1, h.2.2.2⟩
theorem RA.stay {z5 : AS} {z9 w : Ob} (h : RA z5 z9) (e : cz z9 w) : RA z5 w := h.c (e.1 23 (by decide) (by decide)) (e.2 22 (by decide))
theorem T_voice {z1 z9 : Ob} {z5 : AS} {c : Cr} (h : RQ z1 z9 c) (hA : RA z5 z9) (p q : Int32) : ∃ r z1' w c', f_X6_voice z1 p q = some (r, z1') ∧ f_X7_voice z9 p q = some (r, w) ∧ RQ z1' w c' ∧ RA z5 w ∧ cf SL AL z9 w := by
  obtain ⟨hx, h11, hn9, hc⟩ := id h
  have h8 := hx.2.1
  have c1 : cz z9 (sI z9 0 0) := cz_th
  have hn1 := c1.rN hn9
  have e1 : (1 : Int32).toInt = 1 := rfl
  have e9 : (9 : Int32).toInt = 9 := rfl
  have rq := m_rngI q 1 9 1 9 rfl rfl
  unfold f_X6_voice f_X7_voice
  simp only [bn]
  by_cases hp : inR c p
  · rw [(x_hasR hx.rR p).1 hp, (m_noRing hn1 p).1 hp, ob, ob, if_neg (show ¬ (1 : Int32) = 0 by decide), if_pos rfl]
    by_cases hq : 1 ≤ q.toInt ∧ q.toInt ≤ 9
    · obtain ⟨k, hk, rfl⟩ := i_nat hp.1 hp.2 (by omega)
      obtain ⟨v, hv, rfl⟩ := i_nat (n := 10) (show 0 ≤ q.toInt by omega) (by omega) (by decide)
      rw [nI_toInt (by omega)] at hq
      have hb : inb (nI k) 8 = true := inb_nI (by omega) (by decide)
      rw [if_neg (by rw [Int32.lt_iff_toInt_lt, nI_toInt (by omega), e1]; omega), if_pos (by rw [leT, nI_toInt (by omega), e9]; omega), rq.1 (by rw [nI_toInt (by omega)]; omega), ob, if_neg (show ¬ (1 : Int32) = 0 by decide)]
      simp only [if_pos hb, cl_nI (show k < 2 ^ 31 by omega)]
      refine ⟨cA c 3 k, sA z1 3 (upd (z1.2 3) k (nI v)), sA (sI z9 0 0) 8 (upd (z9.2 8) k (nI v)), cPutK c 3 k (nI v), by rw [hx.2.2.1 3 (by omega) k hk], ?_, ?_, hA.c (c1.1 23 (by decide) (by decide)) rfl, (c1.cf (by decide)).sA (Or.inr (by decide))⟩
      · rw [(hn1.2.2.1 k hk).2.2.2.1]
        rfl
      · exact RQ_of h (rR_put hx.rR (by decide) _) hx.2.2.2.1 hx.2.2.2.2.2.1 h11 (rG_put (j := 3) hn1.g (by decide) _) hn1.2.2.2.1 hn1.2.2.2.2.2.1 hn9.2.2.2.2.2.2 (put3_ok hc ⟨v, by omega, hv, rfl⟩)
    · rw [rq.2 hq, ob, if_pos rfl]
      refine ⟨-2, z1, sI z9 0 0, c, ?_, rfl, h.stay c1, hA.stay c1, c1.cf (by decide)⟩
      by_cases a : q < 1
      · rw [if_pos a]
      · rw [if_neg a, if_neg (by rw [leT, e9]; rw [Int32.lt_iff_toInt_lt, e1] at a; omega)]
  · rw [(x_hasR hx.rR p).2 hp, (m_noRing hn1 p).2 hp]
    exact ⟨-1, z1, sI z9 0 0, c, rfl, rfl, h.stay c1, hA.stay c1, c1.cf (by decide)⟩
def cMF (c : Cr) (m f : Int32) : Cr := cWith (cWith c 1 m) 2 f
theorem T_music {z1 z9 : Ob} {z5 : AS} {c : Cr} (h : RQ z1 z9 c) (hA : RA z5 z9) (p q : Int32) (hq : q = 0 ∨ q = 1) : ∃ r z1' w c', f_X6_music z1 p q = some (r, z1') ∧ f_X7_music z9 p q = some (r, w) ∧ RQ z1' w c' ∧ RA z5 w ∧ cf SL AL z9 w := by
  obtain ⟨hx, h11, hn9, hc⟩ := id h
  have c1 : cz z9 (sI z9 0 0) := cz_th
  have hn1 := c1.rN hn9
  have e9 : (9 : Int32).toInt = 9 := rfl
  have rp := m_rngI p 0 9 0 9 rfl rfl
  have hb : isb q = true := by rcases hq with e | e <;> rw [e] <;> decide
  unfold f_X6_music f_X7_music
  simp only [bn]
  by_cases hp : 0 ≤ p.toInt ∧ p.toInt ≤ 9
  · obtain ⟨k, hk, rfl⟩ := i_nat (n := 10) hp.1 (by omega) (by decide)
    rw [if_neg (nI_pos (by omega)), if_pos (by rw [leT, e9]; omega), rp.1 hp, ob, if_neg (show ¬ (1 : Int32) = 0 by decide), hx.2.2.2.2.1, hn1.2.2.2.2.1]
    simp only [if_pos hb]
    refine ⟨cI c 1, sI (sI z1 8 (nI k)) 10 q, sI (sI (sI z9 0 0) 11 (nI k)) 12 q, cMF c (nI k) q, rfl, rfl, ?_, hA.c ?_ rfl, ((c1.cf (by decide)).sI (Or.inr (by decide))).sI (Or.inr (by decide))⟩
    · refine RQ_of h (c' := cMF c (nI k) q) ⟨?_, hx.2.1, hx.2.2.1, ?_⟩ ?_ ?_ ?_ ⟨?_, hx.2.1, hn1.2.2.1, ?_⟩ ?_ ?_ hn9.2.2.2.2.2.2 ?_
      · rw [sI_n (by decide), sI_n (by decide)]; exact hx.1
      · rw [sI_n (by decide), sI_e]; unfold cMF; rw [cI_with, cI_with, if_neg (by decide), if_pos rfl]
      · rw [sI_n (by decide), sI_n (by decide)]; unfold cMF; rw [cI_with, cI_with, if_neg (by decide), if_neg (by decide)]; exact hx.2.2.2.1
      · rw [sI_e]; unfold cMF; rw [cI_with, if_pos rfl]
      · rw [sI_n (by decide), sI_n (by decide)]; exact h11
      · rw [sI_n (by decide), sI_n (by decide)]; exact hn1.1
      · rw [sI_n (by decide), sI_e]; unfold cMF; rw [cI_with, cI_with, if_neg (by decide), if_pos rfl]
      · rw [sI_n (by decide), sI_n (by decide)]; unfold cMF; rw [cI_with, cI_with, if_neg (by decide), if_neg (by decide)]; exact hn1.2.2.2.1
      · rw [sI_e]; unfold cMF; rw [cI_with, if_pos rfl]
      · refine ⟨hc.1, hc.2.1, ?_, ?_, ?_⟩
        · unfold cMF; rw [cI_with, cI_with, if_neg (by decide), if_neg (by decide)]; exact hc.2.2.1
        · unfold cMF; rw [cI_with, cI_with, if_neg (by decide), if_pos rfl]; exact ⟨k, hk, rfl⟩
        · unfold cMF; rw [cI_with, if_pos rfl]; exact hq
    · rw [sI_n (by decide), sI_n (by decide)]; exact c1.1 23 (by decide) (by decide)
  · rw [rp.2 hp, ob, if_pos rfl]
    refine ⟨-2, z1, sI z9 0 0, c, ?_, rfl, h.stay c1, hA.stay c1, c1.cf (by decide)⟩
    by_cases a : p < 0
    · rw [if_pos a]
    · rw [if_neg a, if_neg (by rw [leT, e9]; rw [lt0] at a; omega)]
theorem T_eats {z1 z9 : Ob} {z5 : AS} {c : Cr} (h : RQ z1 z9 c) (hA : RA z5 z9) (p : Int32) : ∃ r z1' w c', f_X6_eats z1 p = some (r, z1') ∧ f_X7_eats z9 p = some (r, w) ∧ RQ z1' w c' ∧ RA z5 w ∧ cf SL AL z9 w := by
  obtain ⟨hx, h11, hn9, hc⟩ := id h
  have c1 : cz z9 (sI z9 0 0) := cz_th
  have hn1 := c1.rN hn9
  have e9 : (9 : Int32).toInt = 9 := rfl
  have rp := m_rngI p 0 9 0 9 rfl rfl
  unfold f_X6_eats f_X7_eats
  simp only [bn]
  by_cases hp : 0 ≤ p.toInt ∧ p.toInt ≤ 9
  · obtain ⟨k, hk, rfl⟩ := i_nat (n := 10) hp.1 (by omega) (by decide)
    rw [if_neg (nI_pos (by omega)), if_pos (by rw [leT, e9]; omega), rp.1 hp, ob, if_neg (show ¬ (1 : Int32) = 0 by decide), hx.2.2.2.1, hn1.2.2.2.1]
    refine ⟨cI c 0, sI z1 7 (nI k), sI (sI z9 0 0) 10 (nI k), cEat c (nI k), rfl, rfl, ?_, hA.c ?_ rfl, (c1.cf (by decide)).sI (Or.inr (by decide))⟩
    · refine RQ_of h (c' := cEat c (nI k)) ⟨?_, hx.2.1, hx.2.2.1, ?_⟩ ?_ ?_ ?_ ⟨?_, hx.2.1, hn1.2.2.1, ?_⟩ ?_ ?_ hn9.2.2.2.2.2.2 (eat_ok hc ⟨k, hk, rfl⟩)
      · rw [sI_n (by decide)]; exact hx.1
      · rw [sI_n (by decide)]; unfold cEat; rw [cI_with, if_neg (by decide)]; exact hx.2.2.2.2.1
      · rw [sI_e]; unfold cEat; rw [cI_with, if_pos rfl]
      · rw [sI_n (by decide)]; unfold cEat; rw [cI_with, if_neg (by decide)]; exact hx.2.2.2.2.2.1
      · rw [sI_n (by decide)]; exact h11
      · rw [sI_n (by decide)]; exact hn1.1
      · rw [sI_n (by decide)]; unfold cEat; rw [cI_with, if_neg (by decide)]; exact hn1.2.2.2.2.1
      · rw [sI_e]; unfold cEat; rw [cI_with, if_pos rfl]
      · rw [sI_n (by decide)]; unfold cEat; rw [cI_with, if_neg (by decide)]; exact hn1.2.2.2.2.2.1
    · rw [sI_n (by decide)]; exact c1.1 23 (by decide) (by decide)
  · rw [rp.2 hp, ob, if_pos rfl]
    refine ⟨-2, z1, sI z9 0 0, c, ?_, rfl, h.stay c1, hA.stay c1, c1.cf (by decide)⟩
    by_cases a : p < 0
    · rw [if_pos a]
    · rw [if_neg a, if_neg (by rw [leT, e9]; rw [lt0] at a; omega)]
theorem m_drop {z : Ob} {c : Cr} (h : rG z c) {p : Nat} (hp : p < cN c) : ∃ w, f_X7_drop z (nI p) = some w ∧ rG w (cDrop c p) ∧ cf [4] [5, 6, 7, 8, 9] z w := by
  obtain ⟨h1, h2, h3, h4⟩ := h
  have hm1 : nI (cN c) - 1 = nI (cN c - 1) := by
    obtain ⟨q, hq⟩ : ∃ q, cN c = q + 1 := ⟨cN c - 1, by omega⟩
    rw [hq, nI_pred]
    rfl
  have c0 : cf [4] [5, 6, 7, 8, 9] z (sI z 4 (nI (cN c - 1))) := cf.rfl'.sI (Or.inr (by decide))
  unfold f_X7_drop
  rw [bn, h1, hm1]
  refine lpA (B := b_X7_drop_12 (nI p)) (fun k w => p ≤ k ∧ cf [4] [5, 6, 7, 8, 9] z w ∧ w.1 = (sI z 4 (nI (cN c - 1))).1 ∧ ∀ j, j < 5 → ∀ i, w.2 (5 + j) i = if p ≤ i ∧ i < k then z.2 (5 + j) (i + 1) else z.2 (5 + j) i) (fun o => ∃ w, o = some w ∧ rG w (cDrop c p) ∧ cf [4] [5, 6, 7, 8, 9] z w) (cN c - 1) (by omega) (fun r k w hk hw => Or.inl ?_) (fun r w hw => ?_) p (by omega) (sI z 4 (nI (cN c - 1))) ⟨Nat.le_refl p, c0, rfl, fun j hj i => by rw [if_neg (by omega), sI_2]⟩
  · obtain ⟨hpk, cw, e1, e2⟩ := hw
    have hb : inb (nI k) 8 = true := inb_nI (by omega) (by decide)
    have hb1 : inb (nI (k + 1)) 8 = true := inb_nI (by omega) (by decide)
    refine ⟨sA (sA (sA (sA (sA w 5 (upd (w.2 5) k (w.2 5 (k + 1)))) 6 (upd (w.2 6) k (w.2 6 (k + 1)))) 7 (upd (w.2 7) k (w.2 7 (k + 1)))) 8 (upd (w.2 8) k (w.2 8 (k + 1)))) 9 (upd (w.2 9) k (w.2 9 (k + 1))), ?_, by omega, ((((cw.sA (Or.inr (by decide))).sA (Or.inr (by decide))).sA (Or.inr (by decide))).sA (Or.inr (by decide))).sA (Or.inr (by decide)), e1, fun j hj i => ?_⟩
    · unfold b_X7_drop_12
      rw [e1, sI_e, if_neg (nI_ge hk (by omega))]
      simp only [nI_1, hb, hb1, if_true, bn, cl_nI (show k < 2 ^ 31 by omega), cl_nI (show k + 1 < 2 ^ 31 by omega)]
      rfl
    · have key : ∀ (f : Nat → Int32), (∀ i, f i = if p ≤ i ∧ i < k then z.2 (5 + j) (i + 1) else z.2 (5 + j) i) → upd f k (f (k + 1)) i = if p ≤ i ∧ i < k + 1 then z.2 (5 + j) (i + 1) else z.2 (5 + j) i := by
        intro f hf
        rw [upd_if]
        by_cases q : i = k
        · rw [if_pos q, if_pos (by omega), hf, if_neg (by omega), q]
        · rw [if_neg q, hf]
          by_cases q2 : p ≤ i ∧ i < k
          · rw [if_pos q2, if_pos (by omega)]
          · rw [if_neg q2, if_neg (by omega)]
      rcases (show j = 0 ∨ j = 1 ∨ j = 2 ∨ j = 3 ∨ j = 4 by omega) with rfl | rfl | rfl | rfl | rfl
      · exact key _ (e2 0 (by decide))
      · exact key _ (e2 1 (by decide))
      · exact key _ (e2 2 (by decide))
      · exact key _ (e2 3 (by decide))
      · exact key _ (e2 4 (by decide))
  · obtain ⟨-, cw, e1, e2⟩ := hw
    refine ⟨w, ?_, ⟨?_, ?_, fun i hi => ?_, ?_⟩, cw⟩
    · unfold b_X7_drop_12
      rw [e1, sI_e, if_pos (nI_le (Nat.le_refl _) (by omega))]
    · rw [e1, sI_e]; rfl
    · show cN c - 1 ≤ 8; omega
    · have hi' : i < cN c - 1 := hi
      have key : ∀ j, j < 5 → (∀ u, u < cN c → z.2 (5 + j) u = cA c j u) → w.2 (5 + j) i = cA (cDrop c p) j i := by
        intro j hj hz
        rw [e2 j hj]
        show _ = if i < p then cA c j i else cA c j (i + 1)
        by_cases q : i < p
        · rw [if_neg (by omega), if_pos q]; exact hz i (by omega)
        · rw [if_pos (by omega), if_neg q]; exact hz (i + 1) (by omega)
      exact ⟨key 0 (by decide) (fun u hu => (h3 u hu).1), key 1 (by decide) (fun u hu => (h3 u hu).2.1), key 2 (by decide) (fun u hu => (h3 u hu).2.2.1), key 3 (by decide) (fun u hu => (h3 u hu).2.2.2.1), key 4 (by decide) (fun u hu => (h3 u hu).2.2.2.2)⟩
    · rw [e1, sI_n (by decide)]; exact h4
theorem T_home {z1 z9 : Ob} {z5 : AS} {c : Cr} (h : RQ z1 z9 c) (hA : RA z5 z9) (p : Int32) : ∃ r z1' z5' w c', f_X6_home z1 z5 p = some (r, z1', z5') ∧ f_X7_home z9 p = some (r, w) ∧ RQ z1' w c' ∧ RA z5' w ∧ cf SL AL z9 w := by
  obtain ⟨hx, h11, hn9, hc⟩ := id h
  have h8 := hx.2.1
  have c1 : cz z9 (sI z9 0 0) := cz_th
  have hn1 := c1.rN hn9
  unfold f_X6_home f_X7_home
  rw [bn]
  by_cases hp : inR c p
  · rw [(x_hasR hx.rR p).1 hp, (m_noRing hn1 p).1 hp, ob, ob, if_neg (show ¬ (1 : Int32) = 0 by decide), if_pos rfl]
    obtain ⟨k, hk, rfl⟩ := i_nat hp.1 hp.2 (by omega)
    obtain ⟨z5', u, e5, eu, cu, hA'⟩ := act_add hx.rR hc.g hn1.g (hA.stay c1)
    have cu' : cf SL AL z9 u := (c1.cf (by decide)).trans (cu.mono (by decide) (by decide))
    have hGu : rG u c := cu.rG hn1.g (by decide) (by decide)
    have hNu := cu.rN hn1 (by decide) (by decide)
    obtain ⟨v, ev, rv, hv⟩ := x_remove hx.rR hk
    obtain ⟨w, ew, gw, cw⟩ := m_drop hGu hk
    refine ⟨nI (cN c - 1), v, z5', w, cDrop c k, ?_, ?_, ?_, hA'.c (cw.1 23 (by decide) (by decide)) (cw.2 22 (by decide) (by decide)), cu'.trans (cw.mono (by decide) (by decide))⟩
    · rw [e5, ob, ev, ob, rv.1]
      rfl
    · rw [eu, ob, ew, ob, gw.1]
      rfl
    · exact RQ_of h rv (by rw [hv 7 (by decide)]; exact hx.2.2.2.1) (by rw [hv 10 (by decide)]; exact hx.2.2.2.2.2.1) (by rw [hv 11 (by decide)]; exact h11) gw (by rw [cw.1 10 (by decide) (by decide)]; exact hNu.2.2.2.1) (by rw [cw.1 12 (by decide) (by decide)]; exact hNu.2.2.2.2.2.1) hn9.2.2.2.2.2.2 (drop_ok hc hk)
  · rw [(x_hasR hx.rR p).2 hp, (m_noRing hn1 p).2 hp]
    exact ⟨-1, z1, z5, sI z9 0 0, c, rfl, rfl, h.stay c1, hA.stay c1, c1.cf (by decide)⟩
theorem T_joins {z1 z9 : Ob} {z5 : AS} {c : Cr} (h : RQ z1 z9 c) (hA : RA z5 z9) (p q : Int32) : ∃ r z1' z5' w c', f_X6_joins z1 z5 p q = some (r, z1', z5') ∧ f_X7_joins z9 p q = some (r, w) ∧ RQ z1' w c' ∧ RA z5' w ∧ cf SL AL z9 w := by
  obtain ⟨hx, h11, hn9, hc⟩ := id h
  have h8 := hx.2.1
  have c1 : cz z9 (sI z9 0 0) := cz_th
  have hn1 := c1.rN hn9
  unfold f_X6_joins f_X7_joins
  simp only [bn]
  by_cases hp : inR c p
  · rw [(x_hasR hx.rR p).1 hp, (m_noRing hn1 p).1 hp, ob, ob, if_neg (show ¬ (1 : Int32) = 0 by decide), if_pos rfl]
    by_cases hq : inR c q
    · rw [(x_hasR hx.rR q).1 hq, (m_noRing hn1 q).1 hq, ob, ob, if_neg (show ¬ (1 : Int32) = 0 by decide), if_pos rfl]
      by_cases e : p = q
      · rw [if_pos e, if_pos e]
        exact ⟨-2, z1, z5, sI z9 0 0, c, rfl, rfl, h.stay c1, hA.stay c1, c1.cf (by decide)⟩
      · rw [if_neg e, if_neg e]
        obtain ⟨k, hk, rfl⟩ := i_nat hp.1 hp.2 (by omega)
        obtain ⟨j, hj, rfl⟩ := i_nat hq.1 hq.2 (by omega)
        have hbk : inb (nI k) 8 = true := inb_nI (by omega) (by decide)
        have hbj : inb (nI j) 8 = true := inb_nI (by omega) (by decide)
        obtain ⟨a, ha1, ha, ea⟩ := (hc.2.1 k hk).2.2.1
        obtain ⟨b, hb1, hb, eb⟩ := (hc.2.1 j hj).2.2.1
        simp only [if_pos hbk, if_pos hbj, cl_nI (show k < 2 ^ 31 by omega), cl_nI (show j < 2 ^ 31 by omega)]
        rw [hx.2.2.1 2 (by omega) k hk, hx.2.2.1 2 (by omega) j hj, (hn1.2.2.1 k hk).2.2.1, (hn1.2.2.1 j hj).2.2.1, ea, eb, nI_add]
        by_cases f : a + b ≤ 9
        · rw [if_pos (show nI (a + b) ≤ 9 from nI_le (b := 9) f (by decide)), if_pos (show nI (a + b) ≤ 9 from nI_le (b := 9) f (by decide))]
          obtain ⟨z5', u, e5, eu, cu, hA'⟩ := act_add hx.rR hc.g hn1.g (hA.stay c1)
          have cu' : cf SL AL z9 u := (c1.cf (by decide)).trans (cu.mono (by decide) (by decide))
          have hGu : rG u c := cu.rG hn1.g (by decide) (by decide)
          have hNu := cu.rN hn1 (by decide) (by decide)
          obtain ⟨v, ev, rv, hv⟩ := x_remove (rR_put hx.rR (j := 2) (p := k) (by decide) (nI (a + b))) hj
          obtain ⟨w, ew, gw, cw⟩ := m_drop (rG_put hGu (j := 2) (p := k) (by decide) (nI (a + b))) hj
          have cu2 : cf SL AL z9 (sA u (5 + 2) (upd (u.2 (5 + 2)) k (nI (a + b)))) := cu'.sA (Or.inr (by decide))
          refine ⟨nI (a + b), v, z5', w, cDrop (cPutK c 2 k (nI (a + b))) j, ?_, ?_, ?_, hA'.c ((cw.1 23 (by decide) (by decide)).trans rfl) ((cw.2 22 (by decide) (by decide)).trans rfl), cu2.trans (cw.mono (by decide) (by decide))⟩
          · rw [e5, ob, ev, ob]
          · rw [eu, ob, ew, ob]
          · exact RQ_of h rv (by rw [hv 7 (by decide)]; exact hx.2.2.2.1) (by rw [hv 10 (by decide)]; exact hx.2.2.2.2.2.1) (by rw [hv 11 (by decide)]; exact h11) gw (by rw [cw.1 10 (by decide) (by decide)]; exact hNu.2.2.2.1) (by rw [cw.1 12 (by decide) (by decide)]; exact hNu.2.2.2.2.2.1) hn9.2.2.2.2.2.2 (drop_ok (put2_ok hc ⟨a + b, by omega, by omega, rfl⟩) hj)
        · rw [if_neg (show ¬ nI (a + b) ≤ 9 from nI_ge (a := 9) (by omega) (by omega)), if_neg (show ¬ nI (a + b) ≤ 9 from nI_ge (a := 9) (by omega) (by omega))]
          exact ⟨-4, z1, z5, sI z9 0 0, c, rfl, rfl, h.stay c1, hA.stay c1, c1.cf (by decide)⟩
    · rw [(x_hasR hx.rR q).2 hq, (m_noRing hn1 q).2 hq]
      exact ⟨-1, z1, z5, sI z9 0 0, c, rfl, rfl, h.stay c1, hA.stay c1, c1.cf (by decide)⟩
  · rw [(x_hasR hx.rR p).2 hp, (m_noRing hn1 p).2 hp]
    exact ⟨-1, z1, z5, sI z9 0 0, c, rfl, rfl, h.stay c1, hA.stay c1, c1.cf (by decide)⟩
