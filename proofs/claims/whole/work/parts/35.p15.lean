/-! PURE 15: tables, in both -/
def rowM (c : Cr) (col : Int32) (l n r : Nat) : Nat := mB (imF (pR c col l n r) n) 10
theorem isL_c {c : Cr} {col : Int32} {l : Nat} {F G : Nat → Bool} (h : ∀ q, q < 10 → F q = G q) (x : Nat) : isL c col l F x ↔ isL c col l G x := by
  unfold isL
  constructor
  · rintro ⟨a, b⟩
    refine ⟨a, fun q hq hF => ?_⟩
    rw [← h q hq] at hF
    exact ⟨(b q hq hF).1, fun u hu hU hqu => (b q hq hF).2 u hu (by rw [h u hu]; exact hU) hqu⟩
  · rintro ⟨a, b⟩
    refine ⟨a, fun q hq hF => ?_⟩
    rw [h q hq] at hF
    exact ⟨(b q hq hF).1, fun u hu hU hqu => (b q hq hF).2 u hu (by rw [← h u hu]; exact hU) hqu⟩
theorem gF_c {F G : Nat → Bool} : ∀ {k : Nat}, (∀ i, i < k → F i = G i) → ∀ i, gF F k i = gF G k i
  | 0, _, _ => rfl
  | k + 1, h, i => by rw [gF_s, gF_s, h k (by omega), cntF_c (k := k) (fun i hi => h i (by omega)), gF_c (k := k) (fun i hi => h i (by omega)) i]
theorem pop_0 : popM 0 = 0 := by decide
/-- a good row is a set -/
theorem row_set {c : Cr} {col : Int32} {l n r : Nat} (hn1 : 1 ≤ n) (hv : vdk n (cC c col l) r n) : 1 ≤ rowM c col l n r ∧ rowM c col l n r ≤ 1023 ∧ popM (rowM c col l n r) = n ∧ (∀ u, RWt c col l n r u ↔ VW c col l (rowM c col l n r) u) ∧ (∀ a, a < n → gF (bts (rowM c col l n r)) 10 a = pR c col l n r a) := by
  obtain ⟨hp, h10⟩ := pR_ok hv
  obtain ⟨i1, i2⟩ := im_all hp h10
  have hb : ∀ q, q < 10 → bts (rowM c col l n r) q = imF (pR c col l n r) n q := fun q hq => mB_bts _ hq
  have hpop : popM (rowM c col l n r) = n := by
    show cntF _ 10 = n
    rw [cntF_c hb]
    exact i1
  have hlt := mB_lt (imF (pR c col l n r) n) 10
  have hlt' : rowM c col l n r < 1024 := hlt
  refine ⟨?_, by omega, hpop, fun u => ?_, fun a ha => ?_⟩
  · by_cases z : rowM c col l n r = 0
    · rw [z, pop_0] at hpop
      omega
    · omega
  · unfold RWt VW
    constructor
    · intro h x; rw [h x, isL_c hb]
    · intro h x; rw [h x, isL_c hb]
  · rw [gF_c hb]
    exact i2 a ha
theorem fr_far {c : Cr} (hc : cOK c) {col : Int32} {l q : Nat} (hl : l < 10) (hq : q < 10) : fr c col l q = true ↔ toR c (clN col l q) 1 := by
  unfold fr toR
  have hcl := clN_lt (col := col) hl hq
  constructor
  · intro h i hi
    obtain ⟨ey, ly⟩ := yc_e hc hi
    have hf : s_taken c (nI (clN col l q)) = false := by simpa using h
    have := anyB_not.mp hf i hi
    rw [decide_eq_false_iff_not, ey, nI_eq (by omega) (by omega)] at this
    have := p_far0 hcl ly
    omega
  · intro h
    have hf : s_taken c (nI (clN col l q)) = false := anyB_not.mpr fun i hi => by
      obtain ⟨ey, ly⟩ := yc_e hc hi
      rw [decide_eq_false_iff_not, ey, nI_eq (by omega) (by omega)]
      intro e
      have := p_far0 hcl ly
      have := h i hi
      omega
    rw [hf]
    rfl
/-- a good row is worth 1 at least -/
theorem row_pos {c : Cr} (hc : cOK c) {col : Int32} {l n r u : Nat} (hl : l < 10) (hv : vdk n (cC c col l) r n) (h : RWt c col l n r u) : 1 ≤ u := by
  obtain ⟨hp, h10⟩ := pR_ok hv
  refine (h 1).mpr ⟨by omega, fun q hq hF => ⟨?_, fun t ht hT hqt => ?_⟩⟩
  · obtain ⟨a, ha, rfl⟩ := imF_iff.mp hF
    exact (fr_far hc hl hq).mp (gF_in _ (hv a ha).1).2.1
  · exact Nat.mul_pos (by omega) (by omega)
/-- a set worth something is a good row -/
theorem set_row {c : Cr} (hc : cOK c) {col : Int32} {l n b u : Nat} (hl : l < 10) (hb : b ≤ 1023) (hpop : popM b = n) (h : VW c col l b u) (hu : 0 < u) : ∃ r, r < 10 ^ n ∧ vdk n (cC c col l) r n ∧ rowM c col l n r = b := by
  have hL := (h 1).mp (by omega)
  have hin : ∀ a, a < n → gF (bts b) 10 a < 10 ∧ bts b (gF (bts b) 10 a) = true ∧ cntF (bts b) (gF (bts b) 10 a) = a := fun a ha => gF_in (bts b) (by show a < popM b; omega)
  have hfr : ∀ a, a < n → fr c col l (gF (bts b) 10 a) = true := fun a ha => by
    obtain ⟨a1, a2, -⟩ := hin a ha
    exact (fr_far hc hl a1).mpr (hL.2 _ a1 a2).1
  have he : ∀ a, a < n → cntF (fr c col l) (gF (bts b) 10 a) < cC c col l ∧ gF (fr c col l) 10 (cntF (fr c col l) (gF (bts b) 10 a)) = gF (bts b) 10 a := fun a ha => ⟨cntF_lt _ (hin a ha).1 (hfr a ha), gF_at _ (hin a ha).1 (hfr a ha)⟩
  have hC : cC c col l ≤ 10 := cntF_le _ _
  have he10 : ∀ a, a < n → cntF (fr c col l) (gF (bts b) 10 a) < 10 := fun a ha => by have := (he a ha).1; omega
  have hd : ∀ a, a < n → dgr n (tnx (fun a => cntF (fr c col l) (gF (bts b) 10 a)) n) a = cntF (fr c col l) (gF (bts b) 10 a) := fun a ha => dgr_tnx (e := fun a => cntF (fr c col l) (gF (bts b) 10 a)) he10 a ha
  have hpr : ∀ a, a < n → pR c col l n (tnx (fun a => cntF (fr c col l) (gF (bts b) 10 a)) n) a = gF (bts b) 10 a := fun a ha => by
    unfold pR
    rw [hd a ha]
    exact (he a ha).2
  refine ⟨tnx (fun a => cntF (fr c col l) (gF (bts b) 10 a)) n, tnx_lt he10, fun a ha => ⟨by rw [hd a ha]; exact (he a ha).1, fun d hda => ?_⟩, ?_⟩
  · rw [hd a ha, hd d (by omega)]
    exact cntF_lt _ (gF_mono (bts b) hda (by show a < popM b; omega)) (hfr d (by omega))
  · unfold rowM
    rw [← bts_mB b (by omega)]
    refine mB_c fun q hq => ?_
    rw [bts_mB b (by omega)]
    cases hq2 : bts b q with
    | true =>
      have hl2 : cntF (bts b) q < n := by
        have := cntF_lt (bts b) hq hq2
        have e : cntF (bts b) 10 = n := hpop
        omega
      exact imF_iff.mpr ⟨cntF (bts b) q, hl2, by rw [hpr _ hl2]; exact gF_at _ hq hq2⟩
    | false =>
      cases hq3 : imF (pR c col l n (tnx (fun a => cntF (fr c col l) (gF (bts b) 10 a)) n)) n q with
      | false => rfl
      | true =>
        obtain ⟨a, ha, e⟩ := imF_iff.mp hq3
        rw [hpr a ha] at e
        have := (hin a ha).2.1
        rw [e, hq2] at this
        cases this
theorem row_order {c : Cr} {col : Int32} {l n r r' : Nat} (hn1 : 1 ≤ n) (hn : n ≤ 4) (hr : r < 10 ^ n) (hr' : r' < 10 ^ n) (hv : vdk n (cC c col l) r n) (hv' : vdk n (cC c col l) r' n) (h : r < r') : rowM c col l n r' < rowM c col l n r := by
  obtain ⟨a1, a2, a3, -, a5⟩ := row_set hn1 hv
  obtain ⟨b1, b2, b3, -, b5⟩ := row_set hn1 hv'
  have t : tnx (pR c col l n r) n < tnx (pR c col l n r') n := by
    have h10 : ∀ i, i < cC c col l → gF (fr c col l) 10 i < 10 := fun i hi => (gF_in _ hi).1
    refine tnx_mono (g := gF (fr c col l) 10) (C := cC c col l) (fun i j hij hj => gF_mono _ hij hj) h10 (e := dgr n r) (f := dgr n r') (fun a ha => ⟨(hv a ha).1, Nat.mod_lt _ (by decide)⟩) (fun a ha => ⟨(hv' a ha).1, Nat.mod_lt _ (by decide)⟩) ?_
    rw [tnx_dgr hr, tnx_dgr hr']
    exact h
  rw [← tnx_c a5, ← tnx_c b5] at t
  by_cases q : rowM c col l n r' < rowM c col l n r
  · exact q
  · by_cases e : rowM c col l n r' = rowM c col l n r
    · rw [e] at t; omega
    · have := chk_lt n 1023 0 (chk_all n (by omega)) (rowM c col l n r) (rowM c col l n r') a1 (by omega) b2 a3 b3
      omega
/-- both find the like -/
theorem found_like {c : Cr} (hc : cOK c) {col : Int32} {l n : Nat} {y4 y5 y : Int32} {w : Ob} (hl : l < 10) (hn1 : 1 ≤ n) (hn : n ≤ 4) (hX : bestI c col l n 0 y4 y5) (hM : findI c col l n (10 ^ n) y w) : (y4 = 0 ∧ y = -9) ∨ ∃ b u, 0 < b ∧ b ≤ 1023 ∧ popM b = n ∧ y4 = nI b ∧ y = nI u ∧ VW c col l b u ∧ ∀ a, a < n → w.2 39 a = nI (clN col l (gF (bts b) 10 a)) := by
  rcases hX with ⟨e4, -, h0⟩ | ⟨b, u, hb0, hb, hbn, e4, -, hbv, hu, hmax⟩
  · refine Or.inl ⟨e4, ?_⟩
    rcases hM with ⟨e, -⟩ | ⟨r, u, hr, hv, -, hW, -, -⟩
    · exact e
    · obtain ⟨a1, a2, a3, a4, a5⟩ := row_set hn1 hv
      have := h0 _ a1 a2 a3 u ((a4 u).mp hW)
      have := row_pos hc hl hv hW
      omega
  · obtain ⟨s, hs, hsv, hsb⟩ := set_row hc hl hb hbn hbv hu
    rcases hM with ⟨-, hno⟩ | ⟨r, u', hr, hv, ey, hW, h39, hmaxM⟩
    · exact absurd hsv (hno s hs)
    · obtain ⟨a1, a2, a3, a4, a5⟩ := row_set hn1 hv
      obtain ⟨-, -, -, s4, -⟩ := row_set hn1 hsv
      have hsW : RWt c col l n s u := (s4 u).mpr (by rw [hsb]; exact hbv)
      have m1 := hmax _ a1 a2 a3 u' ((a4 u').mp hW)
      have m2 := hmaxM s hs hsv u hsW
      have eb : rowM c col l n r = b := by
        by_cases g : s < r
        · have := m2.2 g
          omega
        · by_cases g2 : r < s
          · have := row_order hn1 hn hr hs hv hsv g2
            rw [hsb] at this
            have := m1.2 this
            omega
          · rw [show r = s from by omega]; exact hsb
      have eu : u' = u := by omega
      refine Or.inr ⟨b, u, by omega, hb, hbn, e4, by rw [ey, eu], hbv, fun a ha => ?_⟩
      rw [h39 a ha, ← eb, a5 a ha]
theorem x_at {z : Ob} (n : Int32) (col : Int32) {l m : Nat} (hm : m < 1024) (p : Int32) : fuel2 (b_X6_tableAt_26 z n col (nI l) p (nI m)) FU 0 0 = some (if 0 ≤ p.toInt ∧ p.toInt < (popM m : Int) then nI (clN col l (gF (bts m) 10 p.toNatClampNeg)) else -9) := by
  have hp10 : popM m ≤ 10 := cntF_le _ _
  refine lpB (B := b_X6_tableAt_26 z n col (nI l) p (nI m)) (fun k a => a = nI (cntF (bts m) k) ∧ ¬ ∃ j, j < cntF (bts m) k ∧ p = nI j) (fun o => o = some (if 0 ≤ p.toInt ∧ p.toInt < (popM m : Int) then nI (clN col l (gF (bts m) 10 p.toNatClampNeg)) else -9)) 10 (by omega) (fun r k a hk hI => ?_) (fun r a hI => ?_) 0 (Nat.zero_le _) 0 ⟨rfl, fun ⟨j, hj, _⟩ => absurd hj (Nat.not_lt_zero _)⟩
  · obtain ⟨rfl, hno⟩ := hI
    have hle := cntF_le (bts m) k
    have step : b_X6_tableAt_26 z n col (nI l) p (nI m) r (nI (cntF (bts m) k)) (nI k) = if bts m k = true then (if nI (cntF (bts m) k) = p then some (nI (clN col l k)) else r (nI (cntF (bts m) k + 1)) (nI (k + 1))) else r (nI (cntF (bts m) k)) (nI (k + 1)) := by
      unfold b_X6_tableAt_26 j_X6_tableAt_61
      rw [if_neg (show ¬ (10 : Int32) ≤ nI k from at_not (n := 10) rfl hk (by decide)), bit_in m hm k hk, ob, x_line, ob]
      simp only [bn, nI_1]
      cases bts m k <;> rfl
    rw [step, cntF_s]
    cases hb : bts m k with
    | false =>
      rw [if_neg ft, if_neg ft]
      exact Or.inl ⟨_, rfl, rfl, hno⟩
    | true =>
      rw [if_pos rfl, if_pos rfl]
      by_cases q : nI (cntF (bts m) k) = p
      · refine Or.inr ?_
        have hlt := cntF_lt (bts m) hk hb
        have hlt' : cntF (bts m) k < popM m := hlt
        rw [if_pos q, ← q, nI_toInt (by omega), if_pos ⟨by omega, by omega⟩, cl_nI (by omega), gF_at (bts m) hk hb]
      · refine Or.inl ⟨_, by rw [if_neg q], rfl, ?_⟩
        rintro ⟨j, hj, e⟩
        by_cases f : j = cntF (bts m) k
        · rw [f] at e; exact q e.symm
        · exact hno ⟨j, by omega, e⟩
  · obtain ⟨rfl, hno⟩ := hI
    unfold b_X6_tableAt_26
    rw [if_pos (show (10 : Int32) ≤ nI 10 by decide), if_neg ?_]
    rintro ⟨h0, h1⟩
    obtain ⟨j, hj, e⟩ := i_nat h0 h1 (by omega)
    exact hno ⟨j, hj, e⟩
def okT (p q : Int32) : Prop := (1 ≤ p.toInt ∧ p.toInt ≤ 4) ∧ 0 ≤ q.toInt ∧ q.toInt ≤ 9
theorem x_isT (p q : Int32) : (okT p q → f_X6_isTables p q = some 1) ∧ (¬ okT p q → f_X6_isTables p q = some 0) := by
  have e1 : (1 : Int32).toInt = 1 := rfl
  have e4 : (4 : Int32).toInt = 4 := rfl
  have e10 : (10 : Int32).toInt = 10 := rfl
  unfold f_X6_isTables okT
  constructor
  · rintro ⟨⟨a, b⟩, d, e⟩
    rw [if_neg (by rw [Int32.lt_iff_toInt_lt, e1]; omega), if_neg (by rw [Int32.lt_iff_toInt_lt, e4]; omega), if_neg (by rw [lt0]; omega), if_neg (by rw [leT, e10]; omega)]
  · intro h
    by_cases a : p < 1
    · rw [if_pos a]
    · rw [if_neg a]
      by_cases b : 4 < p
      · rw [if_pos b]
      · rw [if_neg b]
        by_cases d : q < 0
        · rw [if_pos d]
        · rw [if_neg d]
          by_cases e : (10 : Int32) ≤ q
          · rw [if_pos e]
          · rw [Int32.lt_iff_toInt_lt, e1] at a
            rw [Int32.lt_iff_toInt_lt, e4] at b
            rw [lt0] at d
            rw [leT, e10] at e
            exact absurd ⟨⟨by omega, by omega⟩, by omega, by omega⟩ h
theorem T_tables {z1 z9 : Ob} {c : Cr} (h : RQ z1 z9 c) (p col q : Int32) : ∃ r w, f_X6_tables z1 p col q = some r ∧ f_X7_tables z9 p col q = some (r, w) ∧ cz z9 w := by
  obtain ⟨hx, h11, hn, hc⟩ := id h
  have c1 : cz z9 (sI z9 0 0) := cz_th
  have rp := m_rngI p 1 4 1 4 rfl rfl
  have rq := m_rngI q 0 9 0 9 rfl rfl
  unfold f_X6_tables f_X7_tables
  rw [bn]
  by_cases ok : okT p q
  · rw [(x_isT p q).1 ok, rp.1 ok.1, rq.1 ok.2, ob, ob, ob]
    obtain ⟨⟨a1, a2⟩, b1, b2'⟩ := ok
    obtain ⟨n, hn5, rfl⟩ := i_nat (n := 5) (show 0 ≤ p.toInt by omega) (by omega) (by decide)
    obtain ⟨l, hl, rfl⟩ := i_nat (n := 10) b1 (by omega) (by decide)
    rw [nI_toInt (by omega)] at a1
    obtain ⟨y4, y5, e4, hX⟩ := x_best hx hc col (n := n) hl (by omega)
    obtain ⟨y, w, ey, cw, hM⟩ := m_find (c1.rN hn) hc col (n := n) hl (by omega) (by omega)
    rw [if_neg (show ¬ (1 : Int32) = 0 by decide), if_neg (show ¬ (1 : Int32) = 0 by decide), if_neg (show ¬ (1 : Int32) = 0 by decide), e4, ob, ey, b2]
    rcases found_like hc hl (by omega) (by omega) hX hM with ⟨rfl, rfl⟩ | ⟨b, u, hb0, hb, hbn, rfl, rfl, hbv, -⟩
    · exact ⟨-9, w, rfl, rfl, c1.trans cw⟩
    · obtain ⟨v, ev, hv⟩ := x_least hx hc (m := b) (by omega) col hl
      rw [if_neg (nI_ne0 hb0 (by omega)), ev, VW_u hbv hv]
      exact ⟨nI v, w, rfl, rfl, c1.trans cw⟩
  · rw [(x_isT p q).2 ok, ob, if_pos rfl]
    refine ⟨-2, sI z9 0 0, rfl, ?_, c1⟩
    by_cases a : 1 ≤ p.toInt ∧ p.toInt ≤ 4
    · rw [rp.1 a, rq.2 (fun b => ok ⟨a, b⟩)]
      rfl
    · rw [rp.2 a]
      rfl
theorem n_m1 : ∀ n, n < 5 → (nI n - 1).toInt64.toInt = (n : Int) - 1 := by decide +kernel
theorem T_tableAt {z1 z9 : Ob} {c : Cr} (h : RQ z1 z9 c) (p col q s : Int32) : ∃ r w, f_X6_tableAt z1 p col q s = some r ∧ f_X7_tableAt z9 p col q s = some (r, w) ∧ cz z9 w := by
  obtain ⟨hx, h11, hn, hc⟩ := id h
  have c1 : cz z9 (sI z9 0 0) := cz_th
  have rp := m_rngI p 1 4 1 4 rfl rfl
  have rq := m_rngI q 0 9 0 9 rfl rfl
  unfold f_X6_tableAt f_X7_tableAt
  rw [bn]
  by_cases ok : okT p q
  · rw [(x_isT p q).1 ok, rp.1 ok.1, rq.1 ok.2, ob, ob, ob]
    obtain ⟨⟨a1, a2⟩, b1, b2'⟩ := ok
    obtain ⟨n, hn5, rfl⟩ := i_nat (n := 5) (show 0 ≤ p.toInt by omega) (by omega) (by decide)
    obtain ⟨l, hl, rfl⟩ := i_nat (n := 10) b1 (by omega) (by decide)
    rw [nI_toInt (by omega)] at a1
    have rs := m_rngI s 0 (nI n - 1).toInt64 0 _ rfl (n_m1 n hn5)
    obtain ⟨y4, y5, e4, hX⟩ := x_best hx hc col (n := n) hl (by omega)
    obtain ⟨y, w, ey, cw, hM⟩ := m_find (c1.rN hn) hc col (n := n) hl (by omega) (by omega)
    rw [if_neg (show ¬ (1 : Int32) = 0 by decide), if_neg (show ¬ (1 : Int32) = 0 by decide), if_neg (show ¬ (1 : Int32) = 0 by decide), e4, ob, ey, b2]
    rcases found_like hc hl (by omega) (by omega) hX hM with ⟨rfl, rfl⟩ | ⟨b, u, hb0, hb, hbn, rfl, rfl, hbv, h39⟩
    · have e0 := x_at (z := z1) (nI n) col (l := l) (m := 0) (by decide) s
      rw [pop_0, if_neg (by omega)] at e0
      exact ⟨-9, w, e0, rfl, c1.trans cw⟩
    · have e0 := x_at (z := z1) (nI n) col (l := l) (m := b) (by omega) s
      rw [hbn] at e0
      have u1 := ((hbv u).mp (Nat.le_refl _)).1
      rw [if_neg (fun e => n_ne9 (v := u) (by omega) (by rw [e]; decide))]
      by_cases g : 0 ≤ s.toInt ∧ s.toInt < (n : Int)
      · rw [if_pos g] at e0
        rw [rs.1 ⟨g.1, by omega⟩, ob, if_neg (show ¬ (1 : Int32) = 0 by decide)]
        obtain ⟨k, hk, rfl⟩ := i_nat g.1 g.2 (by omega)
        rw [cl_nI (by omega)] at e0
        rw [if_pos (inb_nI (show k < 4 by omega) (by decide)), cl_nI (by omega), h39 k hk]
        exact ⟨_, w, e0, rfl, c1.trans cw⟩
      · rw [if_neg g] at e0
        rw [rs.2 (fun x => g ⟨x.1, by omega⟩), ob, if_pos rfl]
        exact ⟨_, w, e0, rfl, c1.trans cw⟩
  · rw [(x_isT p q).2 ok, ob, if_pos rfl]
    refine ⟨-2, sI z9 0 0, rfl, ?_, c1⟩
    by_cases a : 1 ≤ p.toInt ∧ p.toInt ≤ 4
    · rw [rp.1 a, rq.2 (fun b => ok ⟨a, b⟩)]
      rfl
    · rw [rp.2 a]
      rfl
