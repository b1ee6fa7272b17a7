/-! PURE 22: bytes -/
theorem and255 (y : Int32) : y &&& 255 = nI (y.toBitVec.toNat % 256) := pk_and y 8 (by decide)
theorem lo_8 (y : Int32) : (y.toInt8.toInt32).toBitVec.toNat % 256 = y.toBitVec.toNat % 256 := by
  have h : (y.toInt8.toInt32).toBitVec.setWidth 8 = y.toBitVec.setWidth 8 := by
    rw [Int8.toBitVec_toInt32, Int32.toBitVec_toInt8]
    apply BitVec.eq_of_getLsbD_eq
    intro i hi
    rw [BitVec.getLsbD_setWidth, BitVec.getLsbD_setWidth, BitVec.getLsbD_signExtend, BitVec.getLsbD_signExtend]
    simp [hi, show i < 32 by omega]
  have h2 := congrArg BitVec.toNat h
  rw [BitVec.toNat_setWidth, BitVec.toNat_setWidth] at h2
  exact h2
theorem l32_mod (y : Int64) : y.toInt32.toBitVec.toNat % 256 = y.toBitVec.toNat % 256 := by
  have h : (y.toInt32).toBitVec.setWidth 8 = y.toBitVec.setWidth 8 := by
    rw [Int64.toBitVec_toInt32]
    apply BitVec.eq_of_getLsbD_eq
    intro i hi
    rw [BitVec.getLsbD_setWidth, BitVec.getLsbD_setWidth, BitVec.getLsbD_signExtend]
    simp [hi, show i < 32 by omega, show i < 64 by omega]
  have h2 := congrArg BitVec.toNat h
  rw [BitVec.toNat_setWidth, BitVec.toNat_setWidth] at h2
  exact h2
theorem l_int (y : Int64) : (y.toInt = (y.toBitVec.toNat : Int)) ∨ (y.toInt = (y.toBitVec.toNat : Int) - 2 ^ 64) := by
  have h := BitVec.toInt_eq_toNat_cond y.toBitVec
  rw [Int64.toInt_toBitVec] at h
  split at h
  · exact Or.inl h
  · exact Or.inr (by rw [h]; norm_cast)
def byteN (x : Int64) (k : Nat) : Nat := x.toBitVec.toNat / 2 ^ (8 * k) % 256
theorem m_byte (x : Int64) {k : Nat} (hk : k < 8) : (x >>> ((8 * nI k).toInt64 &&& 63)).toInt32 &&& 255 = nI (byteN x k) := by
  rw [and255, l32_mod]
  unfold byteN
  congr 1
  have hx := l_int x
  have hy := l_int (x >>> ((8 * nI k).toInt64 &&& 63))
  have hxl := x.toBitVec.isLt
  have hyl := (x >>> ((8 * nI k).toInt64 &&& 63)).toBitVec.isLt
  rcases (show k = 0 ∨ k = 1 ∨ k = 2 ∨ k = 3 ∨ k = 4 ∨ k = 5 ∨ k = 6 ∨ k = 7 by omega) with rfl | rfl | rfl | rfl | rfl | rfl | rfl | rfl
  · have h := Jvm.Kit.i64_shr x ((8 * nI 0).toInt64 &&& 63) (k := 0) (by decide)
    omega
  · have h := Jvm.Kit.i64_shr x ((8 * nI 1).toInt64 &&& 63) (k := 8) (by decide)
    omega
  · have h := Jvm.Kit.i64_shr x ((8 * nI 2).toInt64 &&& 63) (k := 16) (by decide)
    omega
  · have h := Jvm.Kit.i64_shr x ((8 * nI 3).toInt64 &&& 63) (k := 24) (by decide)
    omega
  · have h := Jvm.Kit.i64_shr x ((8 * nI 4).toInt64 &&& 63) (k := 32) (by decide)
    omega
  · have h := Jvm.Kit.i64_shr x ((8 * nI 5).toInt64 &&& 63) (k := 40) (by decide)
    omega
  · have h := Jvm.Kit.i64_shr x ((8 * nI 6).toInt64 &&& 63) (k := 48) (by decide)
    omega
  · have h := Jvm.Kit.i64_shr x ((8 * nI 7).toInt64 &&& 63) (k := 56) (by decide)
    omega
theorem u_shr (x : Int64) (n : UInt64) {s : Nat} (hn : n.toNat = s) (hs : s < 64) : (x.toUInt64 >>> n).toInt64.toBitVec.toNat = x.toBitVec.toNat / 2 ^ s := by
  simp only [UInt64.toBitVec_toInt64, UInt64.toBitVec_shiftRight, Int64.toBitVec_toUInt64]
  have e : (n.toBitVec % 64).toNat = s := by
    rw [BitVec.toNat_umod]
    show n.toNat % 64 = s
    rw [hn]
    omega
  rw [BitVec.ushiftRight_eq', e, BitVec.toNat_ushiftRight, Nat.shiftRight_eq_div_pow]
theorem x_byteN (x : Int64) {k : Nat} (hk : k < 8) : (vp_nar .byte (x.toUInt64 >>> ((8 * nI k).toInt64.toUInt64 &&& Int64.toUInt64 63)).toInt64.toInt32.toInt8.toInt32) &&& 255 = nI (byteN x k) := by
  rw [pk_vb, and255, lo_8, l32_mod]
  unfold byteN
  congr 1
  rcases (show k = 0 ∨ k = 1 ∨ k = 2 ∨ k = 3 ∨ k = 4 ∨ k = 5 ∨ k = 6 ∨ k = 7 by omega) with rfl | rfl | rfl | rfl | rfl | rfl | rfl | rfl
  · rw [u_shr x _ (s := 0) (by decide) (by decide)]
  · rw [u_shr x _ (s := 8) (by decide) (by decide)]
  · rw [u_shr x _ (s := 16) (by decide) (by decide)]
  · rw [u_shr x _ (s := 24) (by decide) (by decide)]
  · rw [u_shr x _ (s := 32) (by decide) (by decide)]
  · rw [u_shr x _ (s := 40) (by decide) (by decide)]
  · rw [u_shr x _ (s := 48) (by decide) (by decide)]
  · rw [u_shr x _ (s := 56) (by decide) (by decide)]
theorem T_wipe {z0 z9 : Ob} {n : Nat} {T : Nat → Nat} (h : RT z0 z9 n T) : ∃ r z0' w n' T', f_X6_wipe z0 = some (r, z0') ∧ f_X7_wipe z9 = some (r, w) ∧ RT z0' w n' T' ∧ cf [0, 2] [1] z9 w := by
  obtain ⟨h1, h2, h3, h4⟩ := h
  refine ⟨nI n, sI z0 1 0, sI (sI z9 0 0) 2 0, 0, T, ?_, ?_, ⟨Nat.zero_le _, sI_e, sI_e, fun i hi => absurd hi (Nat.not_lt_zero _)⟩, (cf.rfl'.sI (Or.inr (by decide))).sI (Or.inr (by decide))⟩
  · unfold f_X6_wipe f_X4_clear
    rw [h2]
    rfl
  · unfold f_X7_wipe
    simp only [bn]
    rw [sI_n (by decide), h3]
theorem e8_l (k : Nat) : (8 : Int32) * nI k = 8 * nI k := rfl
theorem dn_k (k : Nat) : nI (k + 1) + (-1 : Int32) = nI k := pk_m1 k
theorem T_write {z0 z9 : Ob} {n : Nat} {T : Nat → Nat} (h : RT z0 z9 n T) (p : Int32) (x : Int64) : ∃ r z0' w n' T', f_X6_write z0 p x = some (r, z0') ∧ f_X7_write z9 p x = some (r, w) ∧ RT z0' w n' T' ∧ cf [0, 2] [1] z9 w := by
  have e1 : (1 : Int32).toInt = 1 := rfl
  have e8 : (8 : Int32).toInt = 8 := rfl
  have c0 : cf [0, 2] [1] z9 (sI z9 0 0) := cf.rfl'.sI (Or.inr (by decide))
  have hh : RT z0 (sI z9 0 0) n T := ⟨h.1, h.2.1, by rw [sI_n (by decide)]; exact h.2.2.1, h.2.2.2⟩
  have rp := m_rngI p 1 8 1 8 rfl rfl
  by_cases hp : 1 ≤ p.toInt ∧ p.toInt ≤ 8
  · obtain ⟨m, hm, rfl⟩ := i_nat (n := 9) (show 0 ≤ p.toInt by omega) (by omega) (by decide)
    rw [nI_toInt (by omega)] at hp
    have hmm := nI_toInt (n := m) (by omega)
    unfold f_X6_write f_X7_write
    rw [if_neg (by rw [Int32.lt_iff_toInt_lt, hmm, e1]; omega), if_pos (by rw [leT, hmm, e8]; omega), bn, rp.1 (by rw [hmm]; omega), ob, if_neg (show ¬ (1 : Int32) = 0 by decide)]
    unfold f_X4_append
    rw [h.2.1, hh.2.2.1, nI_add, show (80 : Int32) = nI 80 from rfl, pk_sub h.1]
    have hn80 := h.1
    by_cases f : n + m ≤ 80
    · rw [if_pos (nI_le (by omega) (by omega)), if_pos (nI_le f (by decide)), bn, bn]
      obtain ⟨m', rfl⟩ : ∃ q, m = q + 1 := ⟨m - 1, by omega⟩
      rw [nI_pred]
      -- both write the like bytes
      have key : ∀ (k n : Nat) (T : Nat → Nat) (w0 w9 : Ob) (j j' : Nat), k ≤ 8 → n + k ≤ 80 → k < j → k < j' → RT w0 w9 n T → cf [0, 2] [1] z9 w9 → ∃ w0' w9' T', fuel2 (b_X4_append_19 (nI (m' + 1)) x) j (nI k + (-1)) w0 = some (nI (n + k), w0') ∧ fuel2 (b_X7_write_39 (nI (m' + 1)) x) j' (nI k + (-1)) w9 = some (nI (n + k), w9') ∧ RT w0' w9' (n + k) T' ∧ cf [0, 2] [1] z9 w9' := by
        intro k
        induction k with
        | zero =>
          intro n T w0 w9 j j' h8 hk hj hj' hR c9
          obtain ⟨j, rfl⟩ : ∃ q, j = q + 1 := ⟨j - 1, by omega⟩
          obtain ⟨j', rfl⟩ : ∃ q, j' = q + 1 := ⟨j' - 1, by omega⟩
          refine ⟨w0, w9, T, ?_, ?_, hR, c9⟩
          · show b_X4_append_19 _ _ (fuel2 _ j) _ _ = _
            unfold b_X4_append_19
            rw [if_pos (by decide), hR.2.1]
            rfl
          · show b_X7_write_39 _ _ (fuel2 _ j') _ _ = _
            unfold b_X7_write_39
            rw [if_pos (by decide), hR.2.2.1]
            rfl
        | succ k ih =>
          intro n T w0 w9 j j' h8 hk hj hj' hR c9
          obtain ⟨j, rfl⟩ : ∃ q, j = q + 1 := ⟨j - 1, by omega⟩
          obtain ⟨j', rfl⟩ : ∃ q, j' = q + 1 := ⟨j' - 1, by omega⟩
          obtain ⟨g1, g2, g3, g4⟩ := id hR
          have hb : inb (nI n) 80 = true := inb_nI (by omega) (by decide)
          rw [dn_k]
          have R2 : RT (sI (sA w0 0 (upd (w0.2 0) n (vp_nar .byte (x.toUInt64 >>> ((8 * nI k).toInt64.toUInt64 &&& Int64.toUInt64 63)).toInt64.toInt32.toInt8.toInt32))) 1 (nI (n + 1))) (sI (sA w9 1 (upd (w9.2 1) n ((x >>> ((8 * nI k).toInt64 &&& 63)).toInt32 &&& 255))) 2 (nI (n + 1))) (n + 1) (fun i => if i = n then byteN x k else T i) := by
            refine ⟨by omega, sI_e, sI_e, fun i hi => ?_⟩
            rw [sI_2, sI_2, sA_e, sA_e, upd_if, upd_if]
            by_cases e : i = n
            · dsimp only
              rw [if_pos e, if_pos e, if_pos e]
              exact ⟨Nat.mod_lt _ (by decide), x_byteN x (by omega), m_byte x (by omega)⟩
            · dsimp only
              rw [if_neg e, if_neg e, if_neg e]
              exact g4 i (by omega)
          obtain ⟨w0', w9', T', q1, q2, q3, q4⟩ := ih (n + 1) _ _ _ j j' (by omega) (by omega) (by omega) (by omega) R2 ((c9.sA (Or.inr (by decide))).sI (Or.inr (by decide)))
          rw [show n + 1 + k = n + (k + 1) from by omega] at q1 q2 q3
          refine ⟨w0', w9', T', ?_, ?_, q3, q4⟩
          · rw [← q1]
            show b_X4_append_19 _ _ (fuel2 _ j) _ _ = _
            unfold b_X4_append_19
            rw [if_neg (nI_pos (by omega)), g2, if_pos hb, cl_nI (by omega)]
            simp only [bn, sA_1, g2, nI_1]
          · rw [← q2]
            show b_X7_write_39 _ _ (fuel2 _ j') _ _ = _
            unfold b_X7_write_39
            rw [if_neg (nI_pos (by omega)), g3, if_pos hb, cl_nI (by omega)]
            simp only [bn, sA_1, g3, nI_1]
      obtain ⟨w0', w9', T', q1, q2, q3, q4⟩ := key (m' + 1) n T z0 (sI z9 0 0) FU FU (by omega) (by omega) (by unfold FU; omega) (by unfold FU; omega) hh c0
      rw [dn_k] at q1 q2
      exact ⟨nI (n + (m' + 1)), w0', w9', _, T', by rw [q1, b2], q2, q3, q4⟩
    · rw [if_neg (nI_ge (by omega) (by omega)), if_neg (nI_ge (by omega) (by omega))]
      exact ⟨-4, z0, sI z9 0 0, n, T, rfl, rfl, hh, c0⟩
  · refine ⟨-2, z0, sI z9 0 0, n, T, ?_, ?_, hh, c0⟩
    · unfold f_X6_write
      by_cases a : p < 1
      · rw [if_pos a]
      · rw [if_neg a, if_neg (by rw [leT, e8]; rw [Int32.lt_iff_toInt_lt, e1] at a; omega)]
    · unfold f_X7_write
      rw [bn, rp.2 hp, ob, if_pos rfl]
