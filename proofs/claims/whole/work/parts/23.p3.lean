/-! PURE 3: the reference, as far as what is tried -/
def rM (z : Ob) (c : Cr) : Prop := z.1 32 = nI (cN c) ∧ cN c ≤ 8 ∧ (∀ i, i < cN c → z.2 5 i = cA c 0 i ∧ z.2 6 i = cA c 1 i ∧ z.2 7 i = cA c 2 i ∧ z.2 29 i = cA c 3 i ∧ z.2 9 i = cA c 4 i) ∧ z.1 33 = cI c 0 ∧ z.1 31 = cI c 1 ∧ z.1 35 = cI c 2 ∧ (∀ i, i < cN c → cS c i = decide (((z.1 34 >>> (nI i &&& 31)) &&& 1) = 1))
theorem m_has (s i : Int32) : f_X7_has s i = some (b32 (decide (((s >>> (i &&& 31)) &&& 1) = 1))) := by
  unfold f_X7_has b32
  by_cases a : ((s >>> (i &&& 31)) &&& 1) = 1 <;> simp [a]
theorem m_in (x a b : Int64) : f_X7_in x a b = some (b32 (decide (a.toInt ≤ x.toInt) && decide (x.toInt ≤ b.toInt))) := by
  unfold f_X7_in b32
  by_cases h1 : a.toInt ≤ x.toInt
  · rw [if_neg (fun q => by rw [lg_cmp_lt, Int64.lt_iff_toInt_lt] at q; omega)]
    by_cases h2 : x.toInt ≤ b.toInt
    · rw [if_neg (fun q => by rw [lg_cmp_gt, Int64.lt_iff_toInt_lt] at q; omega)]
      simp [h1, h2]
    · rw [if_pos (by rw [lg_cmp_gt, Int64.lt_iff_toInt_lt]; omega)]
      simp [h2]
  · rw [if_pos (by rw [lg_cmp_lt, Int64.lt_iff_toInt_lt]; omega)]
    simp [h1]
theorem m_loudOf {z : Ob} {c : Cr} (h : rM z c) (hc : cOK c) {i : Nat} (hi : i < cN c) : f_X7_loudOf z (nI i) = some (s_loud c i) := by
  obtain ⟨h1, h2, h3, h4, h5, h6, h7⟩ := h
  have hb : inb (nI i) 8 = true := inb_nI (by omega) (by decide)
  obtain ⟨k, hk1, hk2, ek⟩ := (hc.2.1 i hi).2.2.1
  have e : nI k ≤ 1 ↔ nI k = 1 := by
    have q : ∀ k, k < 10 → (1 ≤ k → (nI k ≤ 1 ↔ nI k = 1)) := by decide +kernel
    exact q k hk2 hk1
  unfold f_X7_loudOf s_loud
  rw [if_pos hb, cl_nI (by omega), (h3 i hi).2.2.1, (h3 i hi).2.2.2.1, m_has, h7 i hi, ek]
  by_cases a : nI k = 1
  · rw [if_pos (e.mpr a), if_pos a]
  · rw [if_neg (fun q => a (e.mp q)), if_neg a]
    by_cases b : ((z.1 34 >>> (nI i &&& 31)) &&& 1) = 1 <;> simp [b, b32, hb]
theorem m_loudAll {z : Ob} {c : Cr} (h : rM z c) (hc : cOK c) : f_X7_loudAll z = some (s_loudAll c) := by
  have hn := h.2.1
  refine lpB (B := b_X7_loudAll_4 z) (fun k a => a = s_sum (s_loud c) k) (fun o => o = some (s_loudAll c)) (cN c) (by omega) (fun r k a hk ha => Or.inl ⟨s_sum (s_loud c) (k + 1), ?_, rfl⟩) (fun r a ha => ?_) 0 (Nat.zero_le _) 0 rfl
  · subst ha
    unfold b_X7_loudAll_4
    rw [if_neg (at_not h.1 hk (by omega)), m_loudOf h hc hk, ← nI_1]
    rfl
  · subst ha
    unfold b_X7_loudAll_4
    rw [if_pos (at_end h.1 (by omega))]
    rfl
theorem m_loudM {z : Ob} {c : Cr} (h : rM z c) : f_X7_loudMusic z = some (s_loudM (cI c 1)) := by
  unfold f_X7_loudMusic s_loudM
  rw [h.2.2.2.2.1]
  split <;> rfl
theorem m_echo {z : Ob} {c : Cr} (h : rM z c) (hc : cOK c) : f_X7_echo z = some (s_echo c) := by
  unfold f_X7_echo
  rw [m_loudAll h hc, m_loudM h, h.2.2.2.1]
  rfl
theorem m_far (a b : Int32) : f_X7_far a b = some (s_far a b) := rfl
theorem m_from {z : Ob} {c : Cr} (h : rM z c) (hc : cOK c) {i : Nat} (hi : i < cN c) {x : Nat} (hx : x < 100) : f_X7_fromAt z (nI i) (nI x) = some (s_from c i (nI x)) := by
  have hn := h.2.1
  have hb : inb (nI i) 8 = true := inb_nI (by omega) (by decide)
  obtain ⟨y, hy, ey⟩ := (hc.2.1 i hi).2.1
  unfold f_X7_fromAt s_from
  rw [if_pos hb, cl_nI (by omega), (h.2.2.1 i hi).2.1, ey]
  by_cases a : y = x
  · subst a
    rw [if_pos rfl, if_pos rfl]
  · have n2 : ¬ nI y = nI x := fun q => a ((nI_eq (by omega) (by omega)).mp q)
    have n1 : ¬ s_far (nI y) (nI x) = 0 := fun q => a ((p_far hy hx).mp q)
    rw [if_neg n2, if_neg n2, m_loudOf h hc hi]
    show (if inb (nI i) 8 = true then _ else _) = _
    rw [if_pos hb, m_far]
    show (if s_far (nI y) (nI x) = 0 then none else _) = _
    rw [if_neg n1]
theorem m_noise {z : Ob} {c : Cr} (h : rM z c) (hc : cOK c) {x : Nat} (hx : x < 100) : f_X7_noiseAt z (nI x) = some (s_noise c (nI x)) := by
  have hn := h.2.1
  unfold f_X7_noiseAt
  rw [m_echo h hc]
  refine lpB (B := b_X7_noiseAt_7 z (nI x)) (fun k a => a = s_echo c + s_sum (fun i => s_from c i (nI x)) k) (fun o => o = some (s_noise c (nI x))) (cN c) (by omega) (fun r k a hk ha => Or.inl ⟨s_echo c + s_sum (fun i => s_from c i (nI x)) (k + 1), ?_, rfl⟩) (fun r a ha => ?_) 0 (Nat.zero_le _) (s_echo c) (Int32.add_zero _).symm
  · subst ha
    unfold b_X7_noiseAt_7
    rw [if_neg (at_not h.1 hk (by omega)), m_from h hc hk hx, ← nI_1]
    show r ((s_echo c + s_sum (fun i => s_from c i (nI x)) k) + s_from c k (nI x)) (nI k + 1) = r (s_echo c + (s_sum (fun i => s_from c i (nI x)) k + s_from c k (nI x))) (nI k + 1)
    rw [Int32.add_assoc]
  · subst ha
    unfold b_X7_noiseAt_7
    rw [if_pos (at_end h.1 (by omega))]
    rfl
theorem m_sound {z : Ob} {c : Cr} (h : rM z c) (hc : cOK c) {i : Nat} (hi : i < cN c) (p : Int32) : f_X7_soundOf z (nI i) p = some (s_sound c i p) := by
  have hn := h.2.1
  have hb : inb (nI i) 8 = true := inb_nI (by omega) (by decide)
  have hne := s_by_ne hc hi
  obtain ⟨k, hk1, hk2, ek⟩ := (hc.2.1 i hi).2.2.1
  unfold f_X7_soundOf j_X7_soundOf_33 s_sound
  unfold s_by at hne ⊢
  rw [cl_nI (by omega), (h.2.2.1 i hi).1, (h.2.2.1 i hi).2.2.1]
  simp only [hb, if_true, bnd]
  by_cases a : cA c 0 i = 3
  · rw [if_pos a] at hne ⊢
    by_cases b : cA c 2 i ≤ 3
    · rw [if_pos b, if_pos a, if_pos b, if_neg (by decide)]
    · rw [if_neg b] at hne ⊢
      rw [if_pos a, if_neg b, if_neg hne]
  · rw [if_neg a] at hne ⊢
    rw [if_neg a, if_neg hne]
theorem m_would {z : Ob} {c : Cr} (h : rM z c) {i : Nat} (hi : i < cN c) (p q : Int32) : f_X7_would z (nI i) p q = some (b32 (s_would c i p q)) := by
  have hn := h.2.1
  have hb : inb (nI i) 8 = true := inb_nI (by omega) (by decide)
  unfold f_X7_would j_X7_would_38 s_would s_any s_hby b32
  rw [cl_nI (by omega), (h.2.2.1 i hi).1, (h.2.2.1 i hi).2.2.1, (h.2.2.1 i hi).2.2.2.2]
  simp only [hb, if_true]
  by_cases a : cA c 2 i = 1 <;> by_cases b : cA c 0 i = 4 <;> by_cases d : 10 * p < q * (10 + cA c 4 i) <;> simp [a, b, d]
theorem b32_isb (b : Bool) : isb (b32 b) = true := by cases b <;> decide
theorem m_hears {z : Ob} {c : Cr} (h : rM z c) (hc : cOK c) {i : Nat} (hi : i < cN c) : f_X7_hears z (nI i) = some (b32 (s_hears c i)) := by
  have hn := h.2.1
  have hb : inb (nI i) 8 = true := inb_nI (by omega) (by decide)
  obtain ⟨y, hy, ey⟩ := (hc.2.1 i hi).2.1
  unfold f_X7_hears s_hears
  rw [m_loudOf h hc hi, cl_nI (by omega), (h.2.2.1 i hi).2.1]
  show (f_X7_soundOf z (nI i) (s_loud c i)).bind _ = _
  rw [m_sound h hc hi]
  show (if inb (nI i) 8 = true then _ else _) = _
  rw [if_pos hb, ey, m_noise h hc hy]
  show (f_X7_would z (nI i) (s_sound c i (s_loud c i)) (s_noise c (nI y))).bind _ = _
  rw [m_would h hi]
  show (if isb (b32 _) = true then _ else _) = _
  rw [if_pos (b32_isb _)]
theorem m_allHear {z : Ob} {c : Cr} (h : rM z c) (hc : cOK c) : f_X7_allHear z = some (b32 (s_allHear c)) := by
  have hn := h.2.1
  have hmono : ∀ k, k ≤ cN c → s_allTo c k = false → s_allTo c (cN c) = false := by
    intro k hk hf
    cases hq : s_allTo c (cN c) with
    | false => rfl
    | true =>
      rw [s_allTo_B, allB_iff] at hq
      have : s_allTo c k = true := by rw [s_allTo_B, allB_iff]; exact fun i hi => hq i (by omega)
      rw [this] at hf
      cases hf
  refine lpB (B := b_X7_allHear_4 z) (fun k a => a = b32 (s_allTo c k)) (fun o => o = some (b32 (s_allHear c))) (cN c) (by omega) (fun r k a hk ha => ?_) (fun r a ha => ?_) 0 (Nat.zero_le _) 1 rfl
  · subst ha
    cases hq : s_allTo c k with
    | false =>
      refine Or.inr ?_
      unfold b_X7_allHear_4
      rw [if_neg (at_not h.1 hk (by omega)), if_pos (by rfl), if_pos (b32_isb _)]
      unfold s_allHear
      rw [hmono k (by omega) hq]
    | true =>
      refine Or.inl ⟨b32 (s_allTo c (k + 1)), ?_, rfl⟩
      unfold b_X7_allHear_4
      rw [if_neg (at_not h.1 hk (by omega)), if_neg (by decide), m_hears h hc hk, ← nI_1]
      show r (b32 (s_hears c k)) (nI k + 1) = r (b32 (s_allTo c k && s_hears c k)) (nI k + 1)
      rw [hq, Bool.true_and]
  · subst ha
    unfold b_X7_allHear_4
    rw [if_pos (at_end h.1 (by omega)), if_pos (b32_isb _)]
    rfl
theorem m_voice {z : Ob} {c : Cr} (h : rM z c) (hc : cOK c) {i : Nat} (hi : i < cN c) : f_X7_voiceThen z (nI i) = some (s_voice c i) := by
  have hn := h.2.1
  have hb : inb (nI i) 8 = true := inb_nI (by omega) (by decide)
  obtain ⟨y, hy, ey⟩ := (hc.2.1 i hi).2.1
  have w0 := h.2.2.1 i hi
  have hv : j_X7_voiceThen_20 z (nI i) = some (cA c 3 i) := by
    unfold j_X7_voiceThen_20
    rw [if_pos hb, cl_nI (by omega), w0.2.2.2.1]
  unfold f_X7_voiceThen s_voice
  rw [cl_nI (by omega), w0.1, w0.2.2.1, w0.2.2.2.1, w0.2.1]
  simp only [hb, if_true]
  rw [hv]
  by_cases a : cA c 2 i = 1
  · rw [if_pos a, if_pos (by unfold s_any; simp [a])]
  · rw [if_neg a]
    by_cases b : cA c 0 i = 4
    · rw [if_pos b, if_pos (by unfold s_any; simp [b])]
    · have ha : s_any c i = false := by unfold s_any; simp [a, b]
      have hw : ∀ p q, s_would c i p q = s_hby c i p q := fun p q => by unfold s_would; rw [ha, Bool.false_or]
      rw [if_neg b, if_neg (by rw [ha]; decide), ey, m_noise h hc hy]
      show (f_X7_loudOf z (nI i)).bind _ = _
      rw [m_loudOf h hc hi]
      show (f_X7_soundOf z (nI i) (s_loud c i)).bind _ = _
      rw [m_sound h hc hi]
      show (f_X7_would z (nI i) (s_sound c i (s_loud c i)) (s_noise c (nI y))).bind _ = _
      rw [m_would h hi, hw]
      have h86 : ∀ t, j_X7_voiceThen_86 z (nI i) t = if t = 0 then some (s_up c i) else some (cA c 3 i) := by
        intro t
        unfold j_X7_voiceThen_86 j_X7_voiceThen_109 s_up
        rw [cl_nI (by omega), w0.1, w0.2.2.2.1]
        simp only [hb, if_true, bnd]
        by_cases q1 : cA c 0 i = 2 <;> by_cases q2 : t = 0 <;> simp only [q1, q2, if_true, if_false] <;> split <;> rfl
      have h85 : j_X7_voiceThen_85 z (nI i) = some (s_up c i) := by unfold j_X7_voiceThen_85; rw [h86]; rfl
      have h180 : ∀ t, j_X7_voiceThen_180 z (nI i) t = if t = 0 then some (cA c 3 i) else some (cA c 3 i - 1) := by
        intro t
        unfold j_X7_voiceThen_180
        rw [cl_nI (by omega), w0.2.2.2.1]
        simp only [hb, if_true]
      have h179 : j_X7_voiceThen_179 z (nI i) = some (cA c 3 i) := by unfold j_X7_voiceThen_179; rw [h180]; rfl
      rw [h85, h179]
      cases hq : s_hby c i (s_sound c i (s_loud c i)) (s_noise c (nI y)) with
      | false =>
        show (if cA c 0 i = 1 then _ else some (s_up c i)) = _
        by_cases d : cA c 0 i = 1
        · rw [if_pos d, m_would h hi, hw]
          show (if b32 (s_hby c i (2 * s_sound c i (s_loud c i)) (s_noise c (nI y))) = 0 then some (s_up c i) else j_X7_voiceThen_86 z (nI i) 1) = _
          rw [h86]
          cases hr : s_hby c i (2 * s_sound c i (s_loud c i)) (s_noise c (nI y)) <;> simp [d, b32]
        · rw [if_neg d]
          simp [d]
      | true =>
        show (if cA c 3 i ≤ 1 then some (cA c 3 i) else _) = _
        by_cases d : cA c 3 i ≤ 1
        · simp [d]
        · rw [if_neg d, m_sound h hc hi]
          show (f_X7_would z (nI i) (s_sound c i ((1 : Int32) <<< ((cA c 3 i - 1) &&& 31))) (s_noise c (nI y))).bind _ = _
          rw [m_would h hi, hw]
          show (if b32 (s_hby c i (s_sound c i ((1 : Int32) <<< ((cA c 3 i - 1) &&& 31))) (s_noise c (nI y))) = 0 then some (cA c 3 i) else j_X7_voiceThen_180 z (nI i) 1) = _
          rw [h180]
          cases hr : s_hby c i (s_sound c i ((1 : Int32) <<< ((cA c 3 i - 1) &&& 31))) (s_noise c (nI y)) <;> simp [d, b32]
theorem m_music {z : Ob} {c : Cr} (h : rM z c) (hc : cOK c) : f_X7_musicThen z = some (s_music c) := by
  unfold f_X7_musicThen j_X7_musicThen_20 s_music
  rw [m_echo h hc, m_loudM h, h.2.2.2.2.1, h.2.2.2.2.2.1]
  show (if cI c 2 = 0 then some (cI c 1) else _) = _
  by_cases a : cI c 2 = 0
  · rw [if_pos a, if_pos a]
  · rw [if_neg a, if_neg a]
    show (if s_echo c = s_loudM (cI c 1) then some (cI c 1) else _) = _
    by_cases b : s_echo c = s_loudM (cI c 1)
    · rw [if_pos b, if_pos b]
    · rw [if_neg b, if_neg b]
      show (if s_echo c ≤ s_loudM (cI c 1) then _ else _) = _
      by_cases d : s_echo c ≤ s_loudM (cI c 1)
      · rw [if_pos d, if_pos d]
        split <;> rfl
      · rw [if_neg d, if_neg d]
        split <;> rfl
