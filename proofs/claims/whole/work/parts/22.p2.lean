/-! PURE 2: the Java Crowd: bits, a minute, a rest -/
def m_or (f : Nat → Bool) : Nat → Nat
  | 0 => 0
  | n + 1 => if f n = true then m_or f n + 2 ^ n else m_or f n
def s_or (f : Nat → Bool) : Nat → Int32
  | 0 => 0
  | n + 1 => if f n = true then s_or f n ||| ((1 : Int32) <<< (nI n &&& 31)) else s_or f n
theorem m_or_lt (f : Nat → Bool) : ∀ n, m_or f n < 2 ^ n
  | 0 => Nat.lt_succ_self 0
  | n + 1 => by
    have := m_or_lt f n
    have e : 2 ^ (n + 1) = 2 ^ n + 2 ^ n := by rw [Nat.pow_succ]; omega
    unfold m_or
    split <;> omega
theorem or_bit : ∀ n, n < 16 → ∀ j, j < 2 → nI (j * 2 ^ n) ||| ((1 : Int32) <<< (nI n &&& 31)) = nI (2 ^ n) := by decide +kernel
theorem shl_n : ∀ n, n < 31 → (1 : Int32) <<< (nI n &&& 31) = nI (2 ^ n) := by decide +kernel
theorem or_add {a n : Nat} (ha : a < 2 ^ n) (hn : n < 31) : nI a ||| ((1 : Int32) <<< (nI n &&& 31)) = nI (a + 2 ^ n) := by
  have hp : 2 ^ n < 2 ^ 31 := Nat.pow_lt_pow_right (by decide) hn
  have hp2 : 2 ^ n * 2 ≤ 2 ^ 31 := by
    rw [← Nat.pow_succ]
    exact Nat.pow_le_pow_right (by decide) (by omega)
  rw [shl_n n hn]
  apply Int32.toBitVec_inj.mp
  apply BitVec.eq_of_toNat_eq
  rw [Int32.toBitVec_or, BitVec.toNat_or, pk_tn (by omega), pk_tn (by omega), pk_tn (by omega)]
  have h := Nat.two_pow_add_eq_or_of_lt (i := n) ha 1
  rw [Nat.mul_one] at h
  rw [Nat.or_comm, ← h, Nat.add_comm]
theorem s_or_m (f : Nat → Bool) : ∀ {n : Nat}, n < 31 → s_or f n = nI (m_or f n)
  | 0, _ => nI_0.symm
  | n + 1, h => by
    unfold s_or m_or
    rw [s_or_m f (by omega)]
    split
    · exact or_add (m_or_lt f n) (by omega)
    · rfl
theorem m_or_c {f g : Nat → Bool} : ∀ {n : Nat}, (∀ i, i < n → f i = g i) → m_or f n = m_or g n
  | 0, _ => rfl
  | n + 1, h => by
    unfold m_or
    rw [m_or_c (fun i hi => h i (by omega)), h n (by omega)]
theorem s_or_c {f g : Nat → Bool} : ∀ {n : Nat}, (∀ i, i < n → f i = g i) → s_or f n = s_or g n
  | 0, _ => rfl
  | n + 1, h => by
    unfold s_or
    rw [s_or_c (fun i hi => h i (by omega)), h n (by omega)]
theorem s_or_s (f : Nat → Bool) (n : Nat) : s_or f (n + 1) = if f n = true then s_or f n ||| ((1 : Int32) <<< (nI n &&& 31)) else s_or f n := rfl
def allB (f : Nat → Bool) : Nat → Bool
  | 0 => true
  | n + 1 => allB f n && f n
theorem allB_iff (f : Nat → Bool) : ∀ {n : Nat}, allB f n = true ↔ ∀ i, i < n → f i = true
  | 0 => by simp [allB]
  | n + 1 => by
    unfold allB
    rw [Bool.and_eq_true, allB_iff f]
    constructor
    · rintro ⟨h1, h2⟩ i hi
      by_cases e : i = n
      · rw [e]; exact h2
      · exact h1 i (by omega)
    · intro h
      exact ⟨fun i hi => h i (by omega), h n (by omega)⟩
theorem m_or_all (f : Nat → Bool) : ∀ n, m_or f n = 2 ^ n - 1 ↔ allB f n = true
  | 0 => by simp [m_or, allB]
  | n + 1 => by
    have h1 := m_or_lt f n
    have h2 := m_or_all f n
    have e : 2 ^ (n + 1) = 2 ^ n + 2 ^ n := by rw [Nat.pow_succ]; omega
    unfold m_or allB
    rw [Bool.and_eq_true, ← h2]
    cases f n <;> simp <;> omega
theorem s_allTo_B (c : Cr) : ∀ n, s_allTo c n = allB (s_hears c) n
  | 0 => rfl
  | n + 1 => by unfold s_allTo allB; rw [s_allTo_B c n]
theorem x_hearing {z : Ob} {c : Cr} (h : rX z c) (hc : cOK c) : f_X1_hearing z = some (s_or (s_hears c) (cN c)) := by
  have hn := h.2.1
  refine lpB (B := b_X1_hearing_4 z) (fun k a => a = s_or (s_hears c) k) (fun o => o = some (s_or (s_hears c) (cN c))) (cN c) (by omega) (fun r k a hk ha => Or.inl ⟨s_or (s_hears c) (k + 1), ?_, rfl⟩) (fun r a ha => ?_) 0 (Nat.zero_le _) 0 rfl
  · subst ha
    unfold b_X1_hearing_4
    rw [if_neg (at_not h.1 hk (by omega)), x_hears h hc hk, ← nI_1, s_or_s]
    cases s_hears c k <;> rfl
  · subst ha
    unfold b_X1_hearing_4
    rw [if_pos (at_end h.1 (by omega))]
theorem x_allHear {z : Ob} {c : Cr} (h : rX z c) (hc : cOK c) : f_X1_allHear z = some (b32 (s_allHear c)) := by
  have hn := h.2.1
  refine lp1u (B := b_X1_allHear_2 z) (fun k => s_allTo c k = true) (fun o => o = some (b32 (s_allHear c))) (cN c) (by omega) (fun r k hk hI => ?_) (fun r hI => ?_) 0 (Nat.zero_le _) rfl
  · unfold b_X1_allHear_2
    rw [if_neg (at_not h.1 hk (by omega)), x_hears h hc hk, ← nI_1]
    cases hq : s_hears c k with
    | true =>
      refine Or.inl ⟨rfl, ?_⟩
      show (s_allTo c k && s_hears c k) = true
      rw [hI, hq]
      rfl
    | false =>
      refine Or.inr ?_
      have hf : s_allHear c = false := by
        cases hx : s_allHear c with
        | false => rfl
        | true =>
          unfold s_allHear at hx
          rw [s_allTo_B, allB_iff] at hx
          rw [hx k hk] at hq
          cases hq
      rw [hf]
      rfl
  · unfold b_X1_allHear_2
    rw [if_pos (at_end h.1 (by omega))]
    unfold s_allHear
    rw [hI]
    rfl
theorem up_9 : ∀ k, k < 10 → ((if nI k + 2 < 9 then nI k + 2 else (9 : Int32)) = if nI k + 2 ≤ 9 then nI k + 2 else 9) ∧ ((if nI k + 1 < 9 then nI k + 1 else (9 : Int32)) = if nI k + 1 ≤ 9 then nI k + 1 else 9) := by decide +kernel
theorem x_voice {z : Ob} {c : Cr} (h : rX z c) (hc : cOK c) {i : Nat} (hi : i < cN c) : f_X1_voiceAfter z (nI i) (s_noise c (cA c 1 i)) = some (s_voice c i) := by
  have hn := h.2.1
  have hb : inb (nI i) 8 = true := inb_nI (by omega) (by decide)
  obtain ⟨k, hk1, hk2, ek⟩ := (hc.2.1 i hi).2.2.2.1
  unfold f_X1_voiceAfter s_voice
  rw [if_pos hb, cl_nI (by omega), h.2.2.1 3 (by omega) i hi, h.2.2.1 0 (by omega) i hi, x_any h hi]
  show (if b32 (s_any c i) = 0 then _ else some (cA c 3 i)) = _
  cases ha : s_any c i with
  | true => rfl
  | false =>
    rw [if_pos (show b32 false = 0 from rfl), x_loudOf h hi]
    show (f_X1_soundBy z (nI i) (s_loud c i)).bind _ = _
    rw [x_sound h hc hi]
    show (f_X1_hearsBy z (nI i) (s_sound c i (s_loud c i)) (s_noise c (cA c 1 i))).bind _ = _
    rw [x_hby h hi]
    show (if b32 (s_hby c i (s_sound c i (s_loud c i)) (s_noise c (cA c 1 i))) = 0 then _ else _) = _
    have hj : j_X1_voiceAfter_109 z (nI i) (s_noise c (cA c 1 i)) (cA c 3 i) = some (s_up c i) := by
      unfold j_X1_voiceAfter_109 j_X1_voiceAfter_127 s_up
      rw [if_pos hb, cl_nI (by omega), h.2.2.1 0 (by omega) i hi, ek]
      by_cases a : cA c 0 i = 2
      · rw [if_pos a, if_pos a, (up_9 k (by omega)).1]
      · rw [if_neg a, if_neg a, (up_9 k (by omega)).2]
    cases hq : s_hby c i (s_sound c i (s_loud c i)) (s_noise c (cA c 1 i)) with
    | false =>
      rw [if_pos (show b32 false = 0 from rfl), if_pos hb, hj]
      by_cases a : cA c 0 i = 1
      · rw [if_pos a, x_hby h hi]
        show (if b32 (s_hby c i (2 * s_sound c i (s_loud c i)) (s_noise c (cA c 1 i))) = 0 then some (s_up c i) else some (cA c 3 i)) = _
        cases hr : s_hby c i (2 * s_sound c i (s_loud c i)) (s_noise c (cA c 1 i)) <;> simp [a, b32]
      · rw [if_neg a]
        simp [a]
    | true =>
      rw [if_neg (show ¬ b32 true = 0 by decide)]
      show (if cA c 3 i ≤ 1 then some (cA c 3 i) else _) = _
      by_cases a : cA c 3 i ≤ 1
      · simp [a]
      · rw [if_neg a, x_sound h hc hi]
        show (f_X1_hearsBy z (nI i) (s_sound c i ((1 : Int32) <<< ((cA c 3 i - 1) &&& 31))) (s_noise c (cA c 1 i))).bind _ = _
        rw [x_hby h hi]
        cases hr : s_hby c i (s_sound c i ((1 : Int32) <<< ((cA c 3 i - 1) &&& 31))) (s_noise c (cA c 1 i)) <;> simp [a, b32, j_X1_voiceAfter_68, j_X1_voiceAfter_69]
theorem mu_9 : ∀ k, k < 10 → ((if (0 : Int32) < nI k - 1 then nI k - 1 else 0) = if nI k ≤ 0 then 0 else nI k - 1) ∧ ((if nI k + 1 < 9 then nI k + 1 else (9 : Int32)) = if 9 ≤ nI k then 9 else nI k + 1) := by decide +kernel
theorem x_music {z : Ob} {c : Cr} (h : rX z c) (hc : cOK c) : f_X1_musicAfter z (s_echo c) = some (s_music c) := by
  obtain ⟨k, hk, ek⟩ := hc.2.2.2.1
  unfold f_X1_musicAfter j_X1_musicAfter_17 s_music
  rw [x_loudM h, h.2.2.2.2.1, h.2.2.2.2.2.1]
  show (if cI c 2 = 0 then some (cI c 1) else _) = _
  by_cases a : cI c 2 = 0
  · rw [if_pos a, if_pos a]
  · rw [if_neg a, if_neg a]
    by_cases b : s_echo c = s_loudM (cI c 1)
    · rw [if_pos b, if_pos b]
    · rw [if_neg b, if_neg b]
      by_cases d : s_echo c ≤ s_loudM (cI c 1)
      · rw [if_pos d, if_pos d, ek, (mu_9 k hk).1]
      · rw [if_neg d, if_neg d, ek, (mu_9 k hk).2]
theorem pI_ne {α : Type} {f : Nat → α} {k j : Nat} {v : α} (h : j ≠ k) : pI f k v j = f j := by
  unfold pI
  cases hb : Nat.beq j k with
  | true => exact absurd (Nat.eq_of_beq_eq_true hb) h
  | false => rfl
theorem pI_eq {α : Type} {f : Nat → α} {k : Nat} {v : α} : pI f k v k = v := by
  unfold pI
  cases hb : Nat.beq k k with
  | true => rfl
  | false => rw [Nat.beq_refl] at hb; cases hb
theorem sA_e {z : Ob} {k : Nat} {g : Nat → Int32} : (sA z k g).2 k = g := pI_eq
theorem sA_n {z : Ob} {k j : Nat} {g : Nat → Int32} (h : j ≠ k) : (sA z k g).2 j = z.2 j := pI_ne h
theorem sA_1 {z : Ob} {k : Nat} {g : Nat → Int32} : (sA z k g).1 = z.1 := rfl
theorem sI_e {z : Ob} {k : Nat} {v : Int32} : (sI z k v).1 k = v := pI_eq
theorem sI_n {z : Ob} {k j : Nat} {v : Int32} (h : j ≠ k) : (sI z k v).1 j = z.1 j := pI_ne h
theorem sI_2 {z : Ob} {k : Nat} {v : Int32} : (sI z k v).2 = z.2 := rfl
/-- another Crowd that holds the same, but for what a minute would bring -/
def eX (z w : Ob) : Prop := (∀ k, k ≠ 9 → w.1 k = z.1 k) ∧ ∀ k, k ≠ 5 → w.2 k = z.2 k
theorem eX.rX {z w : Ob} {c : Cr} (e : eX z w) (h : rX z c) : rX w c := by
  obtain ⟨h1, h2, h3, h4, h5, h6, h7⟩ := h
  refine ⟨by rw [e.1 6 (by decide)]; exact h1, h2, fun k hk i hi => ?_, by rw [e.1 7 (by decide)]; exact h4, by rw [e.1 8 (by decide)]; exact h5, by rw [e.1 10 (by decide)]; exact h6, by rw [e.1 11 (by decide)]; exact h7⟩
  rw [e.2 k (by omega)]
  exact h3 k hk i hi
theorem x_look {z : Ob} {c : Cr} (h : rX z c) (hc : cOK c) : ∃ w, f_X1_look z = some w ∧ eX z w ∧ (∀ i, i < cN c → w.2 5 i = s_voice c i) ∧ w.1 9 = s_music c := by
  have hn := h.2.1
  unfold f_X1_look
  rw [x_echo h hc]
  refine lpA (B := b_X1_look_7 (s_echo c)) (fun k w => eX z w ∧ ∀ i, i < k → w.2 5 i = s_voice c i) (fun o => ∃ w, o = some w ∧ eX z w ∧ (∀ i, i < cN c → w.2 5 i = s_voice c i) ∧ w.1 9 = s_music c) (cN c) (by omega) (fun r k w hk hw => ?_) (fun r w hw => ?_) 0 (Nat.zero_le _) z ⟨⟨fun _ _ => rfl, fun _ _ => rfl⟩, fun i hi => absurd hi (Nat.not_lt_zero _)⟩
  · obtain ⟨e, hv⟩ := hw
    have hr := e.rX h
    obtain ⟨y, hy, ey⟩ := (hc.2.1 k hk).2.1
    have hb : inb (nI k) 8 = true := inb_nI (by omega) (by decide)
    refine Or.inl ⟨sA w 5 (upd (w.2 5) k (s_voice c k)), ?_, ⟨fun j hj => e.1 j hj, fun j hj => ?_⟩, fun i hi => ?_⟩
    · unfold b_X1_look_7
      rw [if_neg (at_not hr.1 hk (by omega)), if_pos hb, cl_nI (by omega), hr.2.2.1 1 (by omega) k hk, ey, x_fromAll hr hc hy]
      show (f_X1_voiceAfter w (nI k) (s_noise c (nI y))).bind _ = _
      rw [← ey, x_voice hr hc hk]
      show (if inb (nI k) 8 = true then _ else _) = _
      rw [if_pos hb, ← nI_1]
      rfl
    · rw [sA_n hj]
      exact e.2 j hj
    · rw [sA_e]
      by_cases q : i = k
      · rw [q]; exact pk_us
      · rw [pk_un q]; exact hv i (by omega)
  · obtain ⟨e, hv⟩ := hw
    have hr := e.rX h
    refine ⟨sI w 9 (s_music c), ?_, ⟨fun j hj => ?_, fun j hj => e.2 j hj⟩, hv, sI_e⟩
    · unfold b_X1_look_7
      rw [if_pos (at_end hr.1 (by omega)), x_music hr hc]
      rfl
    · rw [sI_n hj]
      exact e.1 j hj
theorem cA_next {c : Cr} {k i : Nat} : cA (s_next c) k i = if k = 3 then s_voice c i else cA c k i := by
  show pI c.2.2 3 (fun i => s_voice c i) k i = _
  by_cases h : k = 3
  · rw [h, pI_eq, if_pos rfl]
  · rw [pI_ne h, if_neg h]
theorem cI_next {c : Cr} {k : Nat} : cI (s_next c) k = if k = 1 then s_music c else cI c k := by
  show pI c.2.1 1 (s_music c) k = _
  by_cases h : k = 1
  · rw [h, pI_eq, if_pos rfl]
  · rw [pI_ne h, if_neg h]
def s_cnt (f : Nat → Bool) : Nat → Int32
  | 0 => 0
  | n + 1 => s_cnt f n + b32 (f n)
theorem s_cnt_s (f : Nat → Bool) (n : Nat) : s_cnt f (n + 1) = s_cnt f n + b32 (f n) := rfl
theorem s_cnt_c {f g : Nat → Bool} : ∀ {n : Nat}, (∀ i, i < n → f i = g i) → s_cnt f n = s_cnt g n
  | 0, _ => rfl
  | n + 1, h => by rw [s_cnt_s, s_cnt_s, s_cnt_c (fun i hi => h i (by omega)), h n (by omega)]
def s_moved (c : Cr) (i : Nat) : Bool := decide (¬ cA c 3 i = s_voice c i)
/-- after look() -/
def rL (z : Ob) (c : Cr) : Prop := rX z c ∧ (∀ i, i < cN c → z.2 5 i = s_voice c i) ∧ z.1 9 = s_music c
theorem x_changing {z : Ob} {c : Cr} (h : rL z c) : f_X1_changing z = some (s_cnt (s_moved c) (cN c)) := by
  obtain ⟨h, hv, hm⟩ := h
  have hn := h.2.1
  refine lpB (B := b_X1_changing_4 z) (fun k a => a = s_cnt (s_moved c) k) (fun o => o = some (s_cnt (s_moved c) (cN c))) (cN c) (by omega) (fun r k a hk ha => Or.inl ⟨s_cnt (s_moved c) (k + 1), ?_, rfl⟩) (fun r a ha => ?_) 0 (Nat.zero_le _) 0 rfl
  · subst ha
    have hb : inb (nI k) 8 = true := inb_nI (by omega) (by decide)
    unfold b_X1_changing_4
    rw [if_neg (at_not h.1 hk (by omega)), if_pos hb, if_pos hb, cl_nI (by omega), h.2.2.1 3 (by omega) k hk, hv k hk, ← nI_1, s_cnt_s]
    unfold s_moved
    by_cases a : cA c 3 k = s_voice c k
    · rw [if_pos a]
      simp [a, b32, j_X1_changing_30, bnd]
    · rw [if_neg a]
      simp [a, b32, j_X1_changing_30, bnd]
  · subst ha
    unfold b_X1_changing_4
    rw [if_pos (at_end h.1 (by omega))]
theorem x_take {z : Ob} {c : Cr} (h : rL z c) : ∃ w, f_X1_take z = some w ∧ rX w (s_next c) := by
  obtain ⟨h, hv, hm⟩ := h
  have hn := h.2.1
  refine lpA (B := b_X1_take_2) (fun k w => w.1 = z.1 ∧ (∀ j, j ≠ 3 → w.2 j = z.2 j) ∧ (∀ i, i < k → w.2 3 i = s_voice c i)) (fun o => ∃ w, o = some w ∧ rX w (s_next c)) (cN c) (by omega) (fun r k w hk hw => ?_) (fun r w hw => ?_) 0 (Nat.zero_le _) z ⟨rfl, fun _ _ => rfl, fun i hi => absurd hi (Nat.not_lt_zero _)⟩
  · obtain ⟨e1, e2, e3⟩ := hw
    have hb : inb (nI k) 8 = true := inb_nI (by omega) (by decide)
    refine Or.inl ⟨sA w 3 (upd (w.2 3) k (s_voice c k)), ?_, e1, fun j hj => ?_, fun i hi => ?_⟩
    · unfold b_X1_take_2
      rw [if_neg (at_not (by rw [e1]; exact h.1) hk (by omega)), if_pos hb, if_pos hb, cl_nI (by omega), e2 5 (by decide), hv k hk, ← nI_1]
      rfl
    · rw [sA_n hj]; exact e2 j hj
    · rw [sA_e]
      by_cases q : i = k
      · rw [q]; exact pk_us
      · rw [pk_un q]; exact e3 i (by omega)
  · obtain ⟨e1, e2, e3⟩ := hw
    obtain ⟨h1, h2, h3, h4, h5, h6, h7⟩ := h
    refine ⟨sI w 8 (s_music c), ?_, ?_⟩
    · unfold b_X1_take_2
      rw [if_pos (at_end (by rw [e1]; exact h1) (by omega)), e1, hm]
      rfl
    · refine ⟨?_, h2, fun k hk i hi => ?_, ?_, ?_, ?_, fun i hi => ?_⟩
      · rw [sI_n (by decide), e1]; exact h1
      · rw [sI_2, cA_next]
        by_cases q : k = 3
        · rw [q, if_pos rfl]; exact e3 i hi
        · rw [if_neg q, e2 k q]; exact h3 k hk i hi
      · rw [sI_n (by decide), e1, cI_next, if_neg (by decide)]; exact h4
      · rw [sI_e, cI_next, if_pos rfl]
      · rw [sI_n (by decide), e1, cI_next, if_neg (by decide)]; exact h6
      · rw [sI_n (by decide), e1]; exact h7 i hi
theorem x_look' {z : Ob} {c : Cr} (h : rX z c) (hc : cOK c) : ∃ w, f_X1_look z = some w ∧ rL w c := by
  obtain ⟨w, e, e1, e2, e3⟩ := x_look h hc
  exact ⟨w, e, e1.rX h, e2, e3⟩
theorem vo_ok : ∀ k, 1 ≤ k ∧ k < 10 → (∃ j, 1 ≤ j ∧ j < 10 ∧ (if nI k + 2 ≤ 9 then nI k + 2 else (9 : Int32)) = nI j) ∧ (∃ j, 1 ≤ j ∧ j < 10 ∧ (if nI k + 1 ≤ 9 then nI k + 1 else (9 : Int32)) = nI j) ∧ (¬ nI k ≤ 1 → ∃ j, 1 ≤ j ∧ j < 10 ∧ nI k - 1 = nI j) := by
  intro k hk
  obtain ⟨h1, h2⟩ := hk
  rcases (show k = 1 ∨ k = 2 ∨ k = 3 ∨ k = 4 ∨ k = 5 ∨ k = 6 ∨ k = 7 ∨ k = 8 ∨ k = 9 by omega) with rfl | rfl | rfl | rfl | rfl | rfl | rfl | rfl | rfl
  · exact ⟨⟨3, by decide +kernel⟩, ⟨2, by decide +kernel⟩, fun q => absurd (by decide +kernel) q⟩
  · exact ⟨⟨4, by decide +kernel⟩, ⟨3, by decide +kernel⟩, fun _ => ⟨1, by decide +kernel⟩⟩
  · exact ⟨⟨5, by decide +kernel⟩, ⟨4, by decide +kernel⟩, fun _ => ⟨2, by decide +kernel⟩⟩
  · exact ⟨⟨6, by decide +kernel⟩, ⟨5, by decide +kernel⟩, fun _ => ⟨3, by decide +kernel⟩⟩
  · exact ⟨⟨7, by decide +kernel⟩, ⟨6, by decide +kernel⟩, fun _ => ⟨4, by decide +kernel⟩⟩
  · exact ⟨⟨8, by decide +kernel⟩, ⟨7, by decide +kernel⟩, fun _ => ⟨5, by decide +kernel⟩⟩
  · exact ⟨⟨9, by decide +kernel⟩, ⟨8, by decide +kernel⟩, fun _ => ⟨6, by decide +kernel⟩⟩
  · exact ⟨⟨9, by decide +kernel⟩, ⟨9, by decide +kernel⟩, fun _ => ⟨7, by decide +kernel⟩⟩
  · exact ⟨⟨9, by decide +kernel⟩, ⟨9, by decide +kernel⟩, fun _ => ⟨8, by decide +kernel⟩⟩
theorem s_up_ok {c : Cr} (hc : cOK c) {i : Nat} (hi : i < cN c) : ∃ j, 1 ≤ j ∧ j < 10 ∧ s_up c i = nI j := by
  obtain ⟨k, hk1, hk2, ek⟩ := (hc.2.1 i hi).2.2.2.1
  obtain ⟨a1, a2, a3⟩ := vo_ok k ⟨hk1, hk2⟩
  unfold s_up
  rw [ek]
  by_cases q : cA c 0 i = 2
  · rw [if_pos q]; exact a1
  · rw [if_neg q]; exact a2
theorem s_voice_ok {c : Cr} (hc : cOK c) {i : Nat} (hi : i < cN c) : ∃ j, 1 ≤ j ∧ j < 10 ∧ s_voice c i = nI j := by
  obtain ⟨k, hk1, hk2, ek⟩ := (hc.2.1 i hi).2.2.2.1
  obtain ⟨a1, a2, a3⟩ := vo_ok k ⟨hk1, hk2⟩
  have hu := s_up_ok hc hi
  unfold s_voice
  rw [ek]
  repeat' split
  all_goals first | exact ⟨k, hk1, hk2, rfl⟩ | exact hu | (rename_i q _; exact a3 q)
theorem mu_ok : ∀ k, k < 10 → (∃ j, j < 10 ∧ (if nI k ≤ 0 then 0 else nI k - 1) = nI j) ∧ (∃ j, j < 10 ∧ (if 9 ≤ nI k then (9 : Int32) else nI k + 1) = nI j) := by
  intro k hk
  rcases (show k = 0 ∨ k = 1 ∨ k = 2 ∨ k = 3 ∨ k = 4 ∨ k = 5 ∨ k = 6 ∨ k = 7 ∨ k = 8 ∨ k = 9 by omega) with rfl | rfl | rfl | rfl | rfl | rfl | rfl | rfl | rfl | rfl
  · exact ⟨⟨0, by decide +kernel⟩, ⟨1, by decide +kernel⟩⟩
  · exact ⟨⟨0, by decide +kernel⟩, ⟨2, by decide +kernel⟩⟩
  · exact ⟨⟨1, by decide +kernel⟩, ⟨3, by decide +kernel⟩⟩
  · exact ⟨⟨2, by decide +kernel⟩, ⟨4, by decide +kernel⟩⟩
  · exact ⟨⟨3, by decide +kernel⟩, ⟨5, by decide +kernel⟩⟩
  · exact ⟨⟨4, by decide +kernel⟩, ⟨6, by decide +kernel⟩⟩
  · exact ⟨⟨5, by decide +kernel⟩, ⟨7, by decide +kernel⟩⟩
  · exact ⟨⟨6, by decide +kernel⟩, ⟨8, by decide +kernel⟩⟩
  · exact ⟨⟨7, by decide +kernel⟩, ⟨9, by decide +kernel⟩⟩
  · exact ⟨⟨8, by decide +kernel⟩, ⟨9, by decide +kernel⟩⟩
theorem s_music_ok {c : Cr} (hc : cOK c) : ∃ j, j < 10 ∧ s_music c = nI j := by
  obtain ⟨k, hk, ek⟩ := hc.2.2.2.1
  obtain ⟨a1, a2⟩ := mu_ok k hk
  unfold s_music
  rw [ek]
  split
  · exact ⟨k, hk, rfl⟩
  · split
    · exact ⟨k, hk, rfl⟩
    · split
      · exact a1
      · exact a2
theorem next_ok {c : Cr} (hc : cOK c) : cOK (s_next c) := by
  obtain ⟨h1, h2, h3, h4, h5⟩ := id hc
  refine ⟨h1, fun i hi => ?_, ?_, ?_, ?_⟩
  · obtain ⟨g0, g1, g2, g3, g4⟩ := h2 i hi
    rw [cA_next, cA_next, cA_next, cA_next, cA_next]
    exact ⟨g0, g1, g2, s_voice_ok hc hi, g4⟩
  · rw [cI_next]; exact h3
  · rw [cI_next]; exact s_music_ok hc
  · rw [cI_next]; exact h5
def s_still (c : Cr) : Bool := decide (s_cnt (s_moved c) (cN c) = 0) && decide (s_music c = cI c 1)
def s_settle : Nat → Nat → Cr → Option (Nat × Cr)
  | 0, _, _ => none
  | d + 1, k, c => if s_still c = true then some (k, c) else s_settle d (k + 1) (s_next c)
def s_rest (c : Cr) : Option (Nat × Cr) := s_settle 41 0 c
theorem s_settle_ok : ∀ (d k : Nat) (c : Cr), cOK c → ∀ q, s_settle d k c = some q → cOK q.2 ∧ cN q.2 = cN c ∧ k ≤ q.1 ∧ q.1 < k + d
  | 0, _, _, _, q, h => by cases h
  | d + 1, k, c, hc, q, h => by
    unfold s_settle at h
    split at h
    · cases h
      exact ⟨hc, rfl, by show k ≤ k; omega, by show k < k + (d + 1); omega⟩
    · obtain ⟨h1, h2, h3, h4⟩ := s_settle_ok d (k + 1) (s_next c) (next_ok hc) q h
      exact ⟨h1, h2, by omega, by omega⟩
/-- where a settle() ends -/
def endsX (c : Cr) (o : Option (Int32 × Ob)) : Prop := match s_rest c with
  | some (k, c') => ∃ w, o = some (nI k, w) ∧ rX w c'
  | none => ∃ w, o = some (-9, w)
theorem lt_41 : ∀ k, k < 41 → ¬ (40 : Int32) < nI k := by decide +kernel
theorem x_settle {z : Ob} {c : Cr} (h : rX z c) (hc : cOK c) : endsX c (f_X1_settle z) := by
  refine lpA (B := b_X1_settle_2) (fun k w => ∃ d, k ≤ 41 ∧ rX w d ∧ cOK d ∧ s_settle (41 - k) k d = s_rest c) (endsX c) 41 (by decide) (fun r k w hk hw => ?_) (fun r w hw => ?_) 0 (Nat.zero_le _) z ⟨c, by decide, h, hc, rfl⟩
  · obtain ⟨d, -, hr, hd, hs⟩ := hw
    obtain ⟨w2, e2, hl⟩ := x_look' hr hd
    obtain ⟨w3, e3, hr3⟩ := x_take hl
    have e41 : 41 - k = (41 - (k + 1)) + 1 := by omega
    rw [e41] at hs
    unfold s_settle at hs
    have step : b_X1_settle_2 r (nI k) w = if s_still d = true then some (nI k, w2) else r (nI (k + 1)) w3 := by
      unfold b_X1_settle_2
      rw [if_neg (lt_41 k hk), e2]
      show (f_X1_changing w2).bind _ = _
      rw [x_changing hl]
      have hj : j_X1_settle_32 r (nI k) w2 = r (nI (k + 1)) w3 := by
        unfold j_X1_settle_32
        rw [e3, ← nI_1]
        rfl
      show (if s_cnt (s_moved d) (cN d) = 0 then (if w2.1 9 = w2.1 8 then some (nI k, w2) else j_X1_settle_32 r (nI k) w2) else j_X1_settle_32 r (nI k) w2) = _
      rw [hj, hl.2.2, hl.1.2.2.2.2.1]
      unfold s_still
      by_cases a : s_cnt (s_moved d) (cN d) = 0 <;> by_cases b : s_music d = cI d 1 <;> simp [a, b]
    by_cases q : s_still d = true
    · refine Or.inr ?_
      rw [step, if_pos q]
      rw [if_pos q] at hs
      unfold endsX
      rw [← hs]
      exact ⟨w2, rfl, hl.1⟩
    · refine Or.inl ⟨w3, by rw [step, if_neg q], s_next d, by omega, hr3, next_ok hd, ?_⟩
      rw [if_neg q] at hs
      exact hs
  · obtain ⟨d, -, hr, hd, hs⟩ := hw
    unfold endsX
    rw [← hs]
    exact ⟨w, by unfold b_X1_settle_2; rw [if_pos (by decide)]⟩
/-- whether it rests, and all hear then -/
def s_restsH (c : Cr) : Bool := match s_rest c with
  | some (_, c') => s_allHear c'
  | none => false
theorem nI_n9 : ∀ k, k < 41 → ¬ nI k = -9 := by decide +kernel
theorem x_restsH {z : Ob} {c : Cr} (h : rX z c) (hc : cOK c) : ∃ w, f_X1_restsHearing z = some (b32 (s_restsH c), w) := by
  have hs := x_settle h hc
  unfold f_X1_restsHearing bd2
  unfold endsX at hs
  unfold s_restsH
  cases hq : s_rest c with
  | none =>
    rw [hq] at hs
    obtain ⟨w, e⟩ := hs
    rw [e]
    exact ⟨w, rfl⟩
  | some q =>
    obtain ⟨k, c'⟩ := q
    rw [hq] at hs
    obtain ⟨w, e, hr⟩ := hs
    have hok := s_settle_ok 41 0 c hc _ hq
    rw [e]
    refine ⟨w, ?_⟩
    show (if nI k = (-9 : Int32) then some ((0 : Int32), w) else _) = _
    rw [if_neg (nI_n9 k (by have := hok.2.2.2; simpa using this)), x_allHear hr hok.1]
    show _ = some (b32 (s_allHear c'), w)
    cases s_allHear c' <;> rfl
