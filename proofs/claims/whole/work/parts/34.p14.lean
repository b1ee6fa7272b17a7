/-! PURE 14: tables -/
theorem lpDx {β γ ρ : Type} (ix : Nat → Int32) {B : (β → γ → Int32 → Option ρ) → β → γ → Int32 → Option ρ} (I : Nat → β → γ → Prop) (O : Option ρ → Prop) (N : Nat) (hN : N < 20000)
    (hs : ∀ (r : β → γ → Int32 → Option ρ) (k : Nat) (b : β) (a : γ), k < N → I k b a → (∃ b' a', B r b a (ix k) = r b' a' (ix (k + 1)) ∧ I (k + 1) b' a') ∨ O (B r b a (ix k)))
    (he : ∀ (r : β → γ → Int32 → Option ρ) (b : β) (a : γ), I N b a → O (B r b a (ix N))) (b0 : β) (a0 : γ) (h0 : I 0 b0 a0) : O (fuel3 B FU b0 a0 (ix 0)) := by
  have key : ∀ (d k n : Nat) (b : β) (a : γ), k + d = N → d < n → I k b a → O (fuel3 B n b a (ix k)) := by
    intro d
    induction d with
    | zero =>
      intro k n b a h1 h2 h3
      obtain ⟨n, rfl⟩ : ∃ q, n = q + 1 := ⟨n - 1, by omega⟩
      obtain rfl : k = N := by omega
      exact he (fuel3 B n) b a h3
    | succ d ih =>
      intro k n b a h1 h2 h3
      obtain ⟨n, rfl⟩ : ∃ q, n = q + 1 := ⟨n - 1, by omega⟩
      rcases hs (fuel3 B n) k b a (by omega) h3 with ⟨b', a', e, h⟩ | h
      · show O (B (fuel3 B n) b a (ix k))
        rw [e]
        exact ih (k + 1) n b' a' (by omega) (by omega) h
      · exact h
  exact key N 0 FU b0 a0 (by omega) (by unfold FU; omega) h0
abbrev popM (m : Nat) : Nat := cntF (bts m) 10
def VW (c : Cr) (col : Int32) (l m u : Nat) : Prop := ∀ x, x ≤ u ↔ isL c col l (bts m) x
theorem VW_u {P : Nat → Prop} {u v : Nat} (h : ∀ x, x ≤ u ↔ P x) (h' : ∀ x, x ≤ v ↔ P x) : u = v := by
  have a := (h' u).mpr ((h u).mp (Nat.le_refl u))
  have b := (h v).mpr ((h' v).mp (Nat.le_refl v))
  omega
/-- what the Java search comes to, those above m seen -/
def bestI (c : Cr) (col : Int32) (l n m : Nat) (y4 y5 : Int32) : Prop :=
  (y4 = 0 ∧ y5 = 0 ∧ ∀ j, m < j → j ≤ 1023 → popM j = n → ∀ u, VW c col l j u → u = 0) ∨
  (∃ b u, m < b ∧ b ≤ 1023 ∧ popM b = n ∧ y4 = nI b ∧ y5 = nI u ∧ VW c col l b u ∧ 0 < u ∧ ∀ j, m < j → j ≤ 1023 → popM j = n → ∀ u', VW c col l j u' → u' ≤ u ∧ (b < j → u' < u))
theorem x_best {z : Ob} {c : Cr} (h : rX z c) (hc : cOK c) (col : Int32) {n l : Nat} (hl : l < 10) (hn : n ≤ 4) : ∃ y4 y5, f_X6_bestTables z (nI n) col (nI l) = some y4 ∧ bestI c col l n 0 y4 y5 := by
  unfold f_X6_bestTables
  refine lpDx (fun k => nI (1023 - k)) (B := b_X6_bestTables_11 z (nI n) col (nI l)) (fun k y4 y5 => bestI c col l n (1023 - k) y4 y5) (fun o => ∃ y4 y5, o = some y4 ∧ bestI c col l n 0 y4 y5) 1023 (by omega) (fun r k y4 y5 hk hI => Or.inl ?_) (fun r y4 y5 hI => ?_) 0 0 (Or.inl ⟨rfl, rfl, fun j h1 h2 => by omega⟩)
  · obtain ⟨m, hm, e1, e2⟩ : ∃ m, m < 1023 ∧ 1023 - k = m + 1 ∧ 1023 - (k + 1) = m := ⟨1022 - k, by omega, by omega, by omega⟩
    rw [e1, e2]
    rw [e1] at hI
    obtain ⟨v, ev, hv⟩ := x_least h hc (m := m + 1) (by omega) col hl
    have hpop : popM (m + 1) ≤ 10 := cntF_le _ _
    have hcv : ∀ j, m < j → j ≤ 1023 → j = m + 1 ∨ m + 1 < j := fun j h1 h2 => by omega
    have step : b_X6_bestTables_11 z (nI n) col (nI l) r y4 y5 (nI (m + 1)) = if popM (m + 1) = n then (if nI v ≤ y5 then r y4 y5 (nI m) else r (nI (m + 1)) (nI v) (nI m)) else r y4 y5 (nI m) := by
      unfold b_X6_bestTables_11 j_X6_bestTables_50
      rw [if_neg (nI_nle (by omega) (by omega)), bts_cnt (m + 1) (by omega), ob, ev, ob, pk_m1]
      simp only [bn]
      by_cases q : popM (m + 1) = n
      · rw [if_pos q, if_pos (show nI (popM (m + 1)) = nI n by rw [q])]
      · rw [if_neg q, if_neg (fun e => q ((nI_eq (by omega) (by omega)).mp e))]
    rw [step]
    by_cases q : popM (m + 1) = n
    · rw [if_pos q]
      rcases hI with ⟨rfl, rfl, h0⟩ | ⟨b, u, hb1, hb2, hbn, rfl, rfl, hbv, hu, h0⟩
      · by_cases g : v = 0
        · subst g
          rw [if_pos (show nI 0 ≤ 0 by decide)]
          refine ⟨_, _, rfl, Or.inl ⟨rfl, rfl, fun j h1 h2 h3 u' hu' => ?_⟩⟩
          rcases hcv j h1 h2 with rfl | h4
          · exact VW_u hu' hv
          · exact h0 j h4 h2 h3 u' hu'
        · rw [if_neg (nI_nle (by omega) (by have := ((hv v).mp (Nat.le_refl _)).1; omega))]
          refine ⟨_, _, rfl, Or.inr ⟨m + 1, v, by omega, by omega, q, rfl, rfl, hv, by omega, fun j h1 h2 h3 u' hu' => ?_⟩⟩
          rcases hcv j h1 h2 with rfl | h4
          · rw [VW_u hu' hv]
            exact ⟨Nat.le_refl _, fun x => absurd x (Nat.lt_irrefl _)⟩
          · have := h0 j h4 h2 h3 u' hu'
            exact ⟨by omega, fun _ => by omega⟩
      · have v1 := ((hv v).mp (Nat.le_refl _)).1
        have u1 := ((hbv u).mp (Nat.le_refl _)).1
        by_cases g : v ≤ u
        · rw [if_pos (nI_le g (by omega))]
          refine ⟨_, _, rfl, Or.inr ⟨b, u, by omega, hb2, hbn, rfl, rfl, hbv, hu, fun j h1 h2 h3 u' hu' => ?_⟩⟩
          rcases hcv j h1 h2 with rfl | h4
          · rw [VW_u hu' hv]
            exact ⟨g, fun x => by omega⟩
          · exact h0 j h4 h2 h3 u' hu'
        · rw [if_neg (nI_ge (by omega) (by omega))]
          refine ⟨_, _, rfl, Or.inr ⟨m + 1, v, by omega, by omega, q, rfl, rfl, hv, by omega, fun j h1 h2 h3 u' hu' => ?_⟩⟩
          rcases hcv j h1 h2 with rfl | h4
          · rw [VW_u hu' hv]
            exact ⟨Nat.le_refl _, fun x => absurd x (Nat.lt_irrefl _)⟩
          · have := (h0 j h4 h2 h3 u' hu').1
            exact ⟨by omega, fun _ => by omega⟩
    · rw [if_neg q]
      rcases hI with ⟨e3, e4, h0⟩ | ⟨b, u, hb1, hb2, hbn, e3, e4, hbv, hu, h0⟩
      · refine ⟨_, _, rfl, Or.inl ⟨e3, e4, fun j h1 h2 h3 => ?_⟩⟩
        rcases hcv j h1 h2 with rfl | h4
        · exact absurd h3 q
        · exact h0 j h4 h2 h3
      · refine ⟨_, _, rfl, Or.inr ⟨b, u, by omega, hb2, hbn, e3, e4, hbv, hu, fun j h1 h2 h3 => ?_⟩⟩
        rcases hcv j h1 h2 with rfl | h4
        · exact absurd h3 q
        · exact h0 j h4 h2 h3
  · refine ⟨y4, y5, ?_, hI⟩
    unfold b_X6_bestTables_11
    rw [if_pos (show nI (1023 - 1023) ≤ 0 by decide)]
/-- free places of a row -/
def fr (c : Cr) (col : Int32) (l q : Nat) : Bool := !(s_taken c (nI (clN col l q)))
def vdk (n C r k : Nat) : Prop := ∀ a, a < k → dgr n r a < C ∧ ∀ b, b < a → dgr n r b < dgr n r a
def pR (c : Cr) (col : Int32) (l n r a : Nat) : Nat := gF (fr c col l) 10 (dgr n r a)
def RWt (c : Cr) (col : Int32) (l n r u : Nat) : Prop := ∀ x, x ≤ u ↔ isL c col l (imF (pR c col l n r) n) x
abbrev cC (c : Cr) (col : Int32) (l : Nat) : Nat := cntF (fr c col l) 10
theorem pR_ok {c : Cr} {col : Int32} {l n r : Nat} (hv : vdk n (cC c col l) r n) : (∀ a b, a < b → b < n → pR c col l n r a < pR c col l n r b) ∧ ∀ a, a < n → pR c col l n r a < 10 := by
  refine ⟨fun a b hab hb => ?_, fun a ha => (gF_in _ (hv a ha).1).1⟩
  exact gF_mono _ ((hv b hb).2 a hab) (hv b hb).1
/-- what the reference's search comes to, rows below r seen -/
def findI (c : Cr) (col : Int32) (l n r : Nat) (y5 : Int32) (w : Ob) : Prop :=
  (y5 = -9 ∧ ∀ r', r' < r → ¬ vdk n (cC c col l) r' n) ∨
  (∃ b u, b < r ∧ vdk n (cC c col l) b n ∧ y5 = nI u ∧ RWt c col l n b u ∧ (∀ a, a < n → w.2 39 a = nI (clN col l (pR c col l n b a))) ∧ ∀ r', r' < r → vdk n (cC c col l) r' n → ∀ u', RWt c col l n r' u' → u' ≤ u ∧ (r' < b → u' < u))
def freeI (c : Cr) (col : Int32) (l : Nat) (w : Ob) : Prop := ∀ i, i < cC c col l → w.2 37 i = nI (clN col l (gF (fr c col l) 10 i))
theorem pow_n : ∀ n, n < 5 → 10 ^ n ≤ 10000 := by decide
theorem n_ne9 {v : Nat} (h : v < 2 ^ 31) : ¬ nI v ≤ -9 := by
  rw [leT, nI_toInt h]
  have : (-9 : Int32).toInt = -9 := rfl
  omega
theorem m_row {z9 w : Ob} {c : Cr} (hn9 : rN z9 c) (hc : cOK c) (p2 p3 : Int32) (col : Int32) {l n r : Nat} (hl : l < 10) (hn1 : 1 ≤ n) (hn : n ≤ 4) (hr : r < 10 ^ n) (cw : cz z9 w) (hf : freeI c col l w) (r106 : Int32 → Int32 → Ob → Option (Int32 × Ob)) (y5 : Int32) (hI : findI c col l n r y5 w) : ∃ y5' w', fuel5 (b_X7_findTables_126 (nI n) p2 p3 r106 (nI (cC c col l)) (nI (10 ^ n)) y5 (nI r)) FU (nI (10 ^ n)) (-1) 1 0 w = r106 y5' (nI (r + 1)) w' ∧ cz z9 w' ∧ freeI c col l w' ∧ findI c col l n (r + 1) y5' w' := by
  have hpn := pow_n n (by omega)
  have hC : cC c col l ≤ 10 := cntF_le (fr c col l) 10
  -- a row that is none
  have bad : ∀ w', cz z9 w' → freeI c col l w' → w'.2 39 = w.2 39 → ¬ vdk n (cC c col l) r n → ∃ y5'' w'', j_X7_findTables_259 (nI n) p2 p3 r106 (nI (cC c col l)) (nI (10 ^ n)) y5 (nI r) w' = r106 y5'' (nI (r + 1)) w'' ∧ cz z9 w'' ∧ freeI c col l w'' ∧ findI c col l n (r + 1) y5'' w'' := by
    intro w' c' f' e39 hbad
    refine ⟨y5, w', ?_, c', f', ?_⟩
    · unfold j_X7_findTables_259
      rw [bn, nI_1]
    · rcases hI with ⟨h1, h2⟩ | ⟨b, u, h1, h2, h3, h4, h5, h6⟩
      · refine Or.inl ⟨h1, fun r' hr' => ?_⟩
        by_cases e : r' = r
        · rw [e]; exact hbad
        · exact h2 r' (by omega)
      · refine Or.inr ⟨b, u, by omega, h2, h3, h4, by rw [e39]; exact h5, fun r' hr' hv => ?_⟩
        by_cases e : r' = r
        · rw [e] at hv; exact absurd hv hbad
        · exact h6 r' (by omega) hv
  refine lpF (B := b_X7_findTables_126 (nI n) p2 p3 r106 (nI (cC c col l)) (nI (10 ^ n)) y5 (nI r)) (fun i by' last is w' => cz z9 w' ∧ freeI c col l w' ∧ w'.2 39 = w.2 39 ∧ ((is = 1 ∧ vdk n (cC c col l) r i ∧ by' = nI (10 ^ (n - i)) ∧ last = (if i = 0 then -1 else nI (dgr n r (i - 1))) ∧ ∀ a, a < i → w'.2 38 a = nI (clN col l (pR c col l n r a))) ∨ (is = 0 ∧ ¬ vdk n (cC c col l) r n))) (fun o => ∃ y5' w', o = r106 y5' (nI (r + 1)) w' ∧ cz z9 w' ∧ freeI c col l w' ∧ findI c col l n (r + 1) y5' w') n (by omega) (fun r126 i by' last is w' hi hJ => ?_) (fun r126 by' last is w' hJ => ?_) 0 (Nat.zero_le _) _ _ _ _ ⟨cw, hf, rfl, Or.inl ⟨rfl, fun a ha => absurd ha (Nat.not_lt_zero _), rfl, rfl, fun a ha => absurd ha (Nat.not_lt_zero _)⟩⟩
  · obtain ⟨cw', hf', e39, hJ⟩ := hJ
    rcases hJ with ⟨rfl, hv, rfl, rfl, h38⟩ | ⟨rfl, hbad⟩
    · refine Or.inl ?_
      have hi4 : inb (nI i) 4 = true := inb_nI (by omega) (by decide)
      have hd : dgr n r i < 10 := Nat.mod_lt _ (by decide)
      have hd10 : inb (nI (dgr n r i)) 10 = true := inb_nI hd (by decide)
      have ep : 10 ^ (n - i) = 10 * 10 ^ (n - 1 - i) := by rw [show n - i = (n - 1 - i) + 1 from by omega, Nat.pow_succ, Nat.mul_comm]
      have hpos : 0 < 10 ^ (n - 1 - i) := Nat.pow_pos (by decide)
      have hple : 10 ^ (n - 1 - i) ≤ 10000 := pow_n _ (by omega)
      have e8 : nI (10 ^ (n - i)) / 10 = nI (10 ^ (n - 1 - i)) := by
        rw [show (10 : Int32) = nI 10 from rfl, pk_div (by omega) (by decide) (by decide), ep, Nat.mul_div_cancel_left _ (by decide)]
      have e9 : nI r / nI (10 ^ (n - 1 - i)) - nI r / nI (10 ^ (n - 1 - i)) / 10 * 10 = nI (dgr n r i) := by
        rw [pk_div (by omega) hpos (by omega), show (10 : Int32) = nI 10 from rfl, pk_rem (by have := Nat.div_le_self r (10 ^ (n - 1 - i)); omega) (by decide) (by decide)]
        rfl
      have nz : ¬ nI (10 ^ (n - 1 - i)) = 0 := nI_ne0 hpos (by omega)
      have hlast : nI (dgr n r i) ≤ (if i = 0 then -1 else nI (dgr n r (i - 1))) ↔ ¬ ∀ b, b < i → dgr n r b < dgr n r i := by
        by_cases z : i = 0
        · rw [if_pos z]
          constructor
          · intro h
            rw [leT, nI_toInt (by omega)] at h
            have : (-1 : Int32).toInt = -1 := rfl
            omega
          · intro h
            exact absurd (fun b hb => by omega) h
        · rw [if_neg z, nI_leI (by omega) (by have : dgr n r (i - 1) < 10 := Nat.mod_lt _ (by decide); omega)]
          constructor
          · intro h h'
            have := h' (i - 1) (by omega)
            omega
          · intro h
            by_cases g : dgr n r i ≤ dgr n r (i - 1)
            · exact g
            · refine absurd (fun b hb => ?_) h
              by_cases e : b = i - 1
              · rw [e]; omega
              · have := (hv (i - 1) (by omega)).2 b (by omega)
                omega
      have step : ∀ y, b_X7_findTables_126 (nI n) p2 p3 r106 (nI (cC c col l)) (nI (10 ^ n)) y5 (nI r) r126 (nI (10 ^ (n - i))) y 1 (nI i) w' = if nI (dgr n r i) ≤ y then r126 (nI (10 ^ (n - 1 - i))) (nI (dgr n r i)) 0 (nI (i + 1)) (sA w' 38 (upd (w'.2 38) i 0)) else if nI (cC c col l) ≤ nI (dgr n r i) then r126 (nI (10 ^ (n - 1 - i))) (nI (dgr n r i)) 0 (nI (i + 1)) (sA w' 38 (upd (w'.2 38) i 0)) else r126 (nI (10 ^ (n - 1 - i))) (nI (dgr n r i)) 1 (nI (i + 1)) (sA w' 38 (upd (w'.2 38) i (w'.2 37 (dgr n r i)))) := by
        intro y
        unfold b_X7_findTables_126 j_X7_findTables_172 j_X7_findTables_173 j_X7_findTables_201
        rw [if_neg (nI_ge hi (by omega)), if_neg (show ¬ (1 : Int32) = 0 by decide)]
        simp only [bn, e8, if_neg nz, e9, if_pos hi4, if_pos hd10, cl_nI (show i < 2 ^ 31 by omega), cl_nI (show dgr n r i < 2 ^ 31 by omega), nI_1, if_true, if_neg (show ¬ (1 : Int32) = 0 by decide)]
      rw [step]
      have cA38 : ∀ g, cz z9 (sA w' 38 g) := fun g => cw'.sA (by decide)
      have fA38 : ∀ g, freeI c col l (sA w' 38 g) := fun g j hj => by rw [sA_n (by decide)]; exact hf' j hj
      have e39A : ∀ g, (sA w' 38 g).2 39 = w.2 39 := fun g => by rw [sA_n (by decide)]; exact e39
      by_cases q : nI (dgr n r i) ≤ (if i = 0 then -1 else nI (dgr n r (i - 1)))
      · rw [if_pos q]
        refine ⟨_, _, _, _, rfl, cA38 _, fA38 _, e39A _, Or.inr ⟨rfl, fun hv' => ?_⟩⟩
        exact (hlast.mp q) (hv' i hi).2
      · rw [if_neg q]
        by_cases q2 : nI (cC c col l) ≤ nI (dgr n r i)
        · rw [if_pos q2]
          refine ⟨_, _, _, _, rfl, cA38 _, fA38 _, e39A _, Or.inr ⟨rfl, fun hv' => ?_⟩⟩
          rw [nI_leI (by omega) (by omega)] at q2
          have := (hv' i hi).1
          omega
        · rw [if_neg q2]
          have hlt : dgr n r i < cC c col l := by
            rw [nI_leI (by omega) (by omega)] at q2
            omega
          refine ⟨_, _, _, _, rfl, cA38 _, fA38 _, e39A _, Or.inl ⟨rfl, fun a ha => ?_, ?_, ?_, fun a ha => ?_⟩⟩
          · by_cases e : a = i
            · rw [e]
              refine ⟨hlt, ?_⟩
              by_cases g : ∀ b, b < i → dgr n r b < dgr n r i
              · exact g
              · exact absurd (hlast.mpr g) q
            · exact hv a (by omega)
          · rw [show n - (i + 1) = n - 1 - i from by omega]
          · rw [if_neg (by omega), Nat.add_sub_cancel]
          · rw [sA_e]
            by_cases e : a = i
            · rw [e, pk_us, hf' _ hlt]
              rfl
            · rw [pk_un e]
              exact h38 a (by omega)
    · refine Or.inr ?_
      have := bad w' cw' hf' e39 hbad
      unfold b_X7_findTables_126 j_X7_findTables_208
      rw [if_neg (nI_ge hi (by omega)), if_pos rfl, if_pos rfl]
      exact this
  · obtain ⟨cw', hf', e39, hJ⟩ := hJ
    unfold b_X7_findTables_126 j_X7_findTables_208
    rw [if_pos (nI_le (Nat.le_refl _) (by omega))]
    rcases hJ with ⟨rfl, hv, rfl, rfl, h38⟩ | ⟨rfl, hbad⟩
    · obtain ⟨hp, h10⟩ := pR_ok hv
      obtain ⟨v, ev, hv2⟩ := m_apart (cw'.rN hn9) hc hn (s := fun a => clN col l (pR c col l n r a)) (fun a ha => ⟨h38 a ha, clN_lt hl (h10 a ha)⟩)
      have hW : RWt c col l n r v := fun x => by rw [hv2, isL_row hl hp h10]
      have v1 := ((hW v).mp (Nat.le_refl _)).1
      rw [if_neg (show ¬ (1 : Int32) = 0 by decide), ev, ob]
      have take : (∀ r', r' < r → vdk n (cC c col l) r' n → ∀ u', RWt c col l n r' u' → u' < v) → ∃ y5' w'', fuel2 (b_X7_findTables_233 (nI n) p2 p3 r106 (nI (cC c col l)) (nI (10 ^ n)) (nI v) (nI r)) FU 0 w' = r106 y5' (nI (r + 1)) w'' ∧ cz z9 w'' ∧ freeI c col l w'' ∧ findI c col l n (r + 1) y5' w'' := by
        intro hall
        refine lpA (B := b_X7_findTables_233 (nI n) p2 p3 r106 (nI (cC c col l)) (nI (10 ^ n)) (nI v) (nI r)) (fun i u => cz z9 u ∧ freeI c col l u ∧ u.2 38 = w'.2 38 ∧ ∀ a, a < i → u.2 39 a = nI (clN col l (pR c col l n r a))) (fun o => ∃ y5' w'', o = r106 y5' (nI (r + 1)) w'' ∧ cz z9 w'' ∧ freeI c col l w'' ∧ findI c col l n (r + 1) y5' w'') n (by omega) (fun r' i u hi hu => Or.inl ?_) (fun r' u hu => ?_) 0 (Nat.zero_le _) w' ⟨cw', hf', rfl, fun a ha => absurd ha (Nat.not_lt_zero _)⟩
        · obtain ⟨cu, fu, e38, h39⟩ := hu
          have hi4 : inb (nI i) 4 = true := inb_nI (by omega) (by decide)
          refine ⟨sA u 39 (upd (u.2 39) i (u.2 38 i)), ?_, cu.sA (by decide), fun j hj => by rw [sA_n (by decide)]; exact fu j hj, by rw [sA_n (by decide)]; exact e38, fun a ha => ?_⟩
          · unfold b_X7_findTables_233
            rw [if_neg (nI_ge hi (by omega)), if_pos hi4, if_pos hi4, cl_nI (by omega)]
            simp only [bn, nI_1]
          · rw [sA_e]
            by_cases e : a = i
            · rw [e, pk_us, e38]; exact h38 i hi
            · rw [pk_un e]; exact h39 a (by omega)
        · obtain ⟨cu, fu, e38, h39⟩ := hu
          refine ⟨nI v, u, ?_, cu, fu, Or.inr ⟨r, v, by omega, hv, rfl, hW, h39, fun r' hr' hv' u' hu' => ?_⟩⟩
          · unfold b_X7_findTables_233 j_X7_findTables_259
            rw [if_pos (nI_le (Nat.le_refl _) (by omega)), bn, nI_1]
          · by_cases e : r' = r
            · subst e
              rw [VW_u hu' hW]
              exact ⟨Nat.le_refl _, fun x => absurd x (Nat.lt_irrefl _)⟩
            · have := hall r' (by omega) hv' u' hu'
              exact ⟨by omega, fun _ => this⟩
      rcases hI with ⟨h1, h2⟩ | ⟨b, u, h1, h2, h3, h4, h5, h6⟩
      · rw [h1, if_neg (n_ne9 (by omega)), ob]
        exact take (fun r' hr' hv' => absurd hv' (h2 r' hr'))
      · have u1 := ((h4 u).mp (Nat.le_refl _)).1
        rw [h3]
        by_cases g : v ≤ u
        · rw [if_pos (nI_le g (by omega))]
          refine ⟨nI u, w', ?_, cw', hf', Or.inr ⟨b, u, by omega, h2, rfl, h4, by rw [e39]; exact h5, fun r' hr' hv' u' hu' => ?_⟩⟩
          · unfold j_X7_findTables_259
            rw [bn, nI_1]
          · by_cases e : r' = r
            · subst e
              rw [VW_u hu' hW]
              exact ⟨g, fun x => by omega⟩
            · exact h6 r' (by omega) hv' u' hu'
        · rw [if_neg (nI_ge (by omega) (by omega)), ob]
          exact take (fun r' hr' hv' u' hu' => by
            have := (h6 r' hr' hv' u' hu').1
            omega)
    · rw [if_pos rfl]
      exact bad w' cw' hf' e39 hbad
theorem m_find {z9 : Ob} {c : Cr} (hn9 : rN z9 c) (hc : cOK c) (col : Int32) {l n : Nat} (hl : l < 10) (hn1 : 1 ≤ n) (hn : n ≤ 4) : ∃ y w, f_X7_findTables z9 (nI n) col (nI l) = some (y, w) ∧ cz z9 w ∧ findI c col l n (10 ^ n) y w := by
  have hpn := pow_n n (by omega)
  unfold f_X7_findTables
  refine lpC (B := b_X7_findTables_6 (nI n) col (nI l)) (fun k a w => a = nI (cntF (fr c col l) k) ∧ cz z9 w ∧ ∀ i, i < cntF (fr c col l) k → w.2 37 i = nI (clN col l (gF (fr c col l) k i))) (fun o => ∃ y w, o = some (y, w) ∧ cz z9 w ∧ findI c col l n (10 ^ n) y w) 10 (by omega) (fun r k a w hk hI => Or.inl ?_) (fun r a w hI => ?_) 0 (Nat.zero_le _) 0 z9 ⟨rfl, cz.rfl', fun i hi => absurd hi (Nat.not_lt_zero _)⟩
  · obtain ⟨rfl, cw, h37⟩ := hI
    have hcl := cntF_le (fr c col l) k
    have hb : inb (nI (cntF (fr c col l) k)) 10 = true := inb_nI (by omega) (by decide)
    have st0 : b_X7_findTables_6 (nI n) col (nI l) r (nI (cntF (fr c col l) k)) (nI k) w = j_X7_findTables_34 (nI n) col (nI l) r (nI (cntF (fr c col l) k)) (nI k) (nI (clN col l k)) w := by
      unfold b_X7_findTables_6 clN
      rw [if_neg (show ¬ (10 : Int32) ≤ nI k from at_not (n := 10) rfl hk (by decide)), ten_nI, ten_nI]
      split <;> rfl
    rw [st0]
    unfold j_X7_findTables_34 j_X7_findTables_57
    rw [m_taken (cw.rN hn9), ob, cntF_s]
    simp only [bn, nI_1, hb, if_true, cl_nI (show cntF (fr c col l) k < 2 ^ 31 by omega)]
    have efr : fr c col l k = !(s_taken c (nI (clN col l k))) := rfl
    cases ht : s_taken c (nI (clN col l k)) with
    | true =>
      rw [ht] at efr
      rw [if_neg (show ¬ b32 true = 0 by decide), if_neg (by rw [efr]; exact ft)]
      refine ⟨_, _, rfl, rfl, cw, fun i hi => ?_⟩
      rw [gF_s, if_neg (fun x => by rw [efr] at x; exact ft x.1)]
      exact h37 i hi
    | false =>
      rw [ht] at efr
      rw [if_pos (show b32 false = 0 from rfl), if_pos (by rw [efr]; rfl)]
      refine ⟨_, _, rfl, rfl, cw.sA (by decide), fun i hi => ?_⟩
      rw [sA_e, gF_s]
      by_cases e : i = cntF (fr c col l) k
      · rw [e, pk_us, if_pos ⟨by rw [efr]; rfl, rfl⟩]
      · rw [pk_un e, if_neg (fun x => e x.2)]
        exact h37 i (by omega)
  · obtain ⟨rfl, cw, h37⟩ := hI
    have st0 : b_X7_findTables_6 (nI n) col (nI l) r (nI (cC c col l)) (nI 10) w = fuel3 (b_X7_findTables_106 (nI n) col (nI l) (nI (cC c col l)) (nI (10 ^ n))) FU (-9) 0 w := by
      unfold b_X7_findTables_6 j_X7_findTables_101
      rw [if_pos (show (10 : Int32) ≤ nI 10 by decide)]
      rcases (show n = 1 ∨ n = 2 ∨ n = 3 ∨ n = 4 by omega) with rfl | rfl | rfl | rfl
      · rw [if_pos (show nI 1 = 1 by decide), show nI (10 ^ 1) = 10 from by decide]
      · rw [if_neg (show ¬ nI 2 = 1 by decide), if_pos (show nI 2 = 2 by decide), show nI (10 ^ 2) = 100 from by decide]
      · rw [if_neg (show ¬ nI 3 = 1 by decide), if_neg (show ¬ nI 3 = 2 by decide), if_pos (show nI 3 = 3 by decide), show nI (10 ^ 3) = 1000 from by decide]
      · rw [if_neg (show ¬ nI 4 = 1 by decide), if_neg (show ¬ nI 4 = 2 by decide), if_neg (show ¬ nI 4 = 3 by decide), show nI (10 ^ 4) = 10000 from by decide]
    rw [show b_X7_findTables_6 (nI n) col (nI l) r (nI (cntF (fr c col l) 10)) (nI 10) w = _ from st0]
    refine lpC (B := b_X7_findTables_106 (nI n) col (nI l) (nI (cC c col l)) (nI (10 ^ n))) (fun k a u => cz z9 u ∧ freeI c col l u ∧ findI c col l n k a u) (fun o => ∃ y w, o = some (y, w) ∧ cz z9 w ∧ findI c col l n (10 ^ n) y w) (10 ^ n) (by omega) (fun r' k a u hk hJ => Or.inl ?_) (fun r' a u hJ => ?_) 0 (Nat.zero_le _) (-9) w ⟨cw, h37, Or.inl ⟨rfl, fun r' hr' => absurd hr' (Nat.not_lt_zero _)⟩⟩
    · obtain ⟨cu, fu, hJ⟩ := hJ
      obtain ⟨y', w', e, h1, h2, h3⟩ := m_row hn9 hc col (nI l) col hl hn1 hn hk cu fu r' a hJ
      refine ⟨y', w', ?_, h1, h2, h3⟩
      unfold b_X7_findTables_106
      rw [if_neg (nI_ge hk (by omega))]
      exact e
    · obtain ⟨cu, fu, hJ⟩ := hJ
      refine ⟨a, u, ?_, cu, hJ⟩
      unfold b_X7_findTables_106
      rw [if_pos (nI_le (Nat.le_refl _) (by omega))]
