/-! PURE 24: the law -/
def Rel (w1 w2 w4 : Ob) (w6 : AS) (w7 : Ob) (w8 : AS) (w9 : Ob) : Prop := ∃ (n : Nat) (T : Nat → Nat) (c : Cr), RT w1 w9 n T ∧ RQ w2 w9 c ∧ RW w4 w9 ∧ RA w6 w9 ∧ RMt w7 w9 ∧ RK w8 w9
theorem RT.c {z0 z w : Ob} {n : Nat} {T : Nat → Nat} (h : RT z0 z n T) (e1 : w.1 2 = z.1 2) (e2 : w.2 1 = z.2 1) : RT z0 w n T := by
  unfold RT
  rw [e1, e2]
  exact h
theorem RW.c {z3 z w : Ob} (h : RW z3 z) (e1 : w.1 13 = z.1 13) (e2 : w.2 14 = z.2 14) (e3 : w.2 15 = z.2 15) : RW z3 w := by
  unfold RW
  rw [e1, e2, e3]
  exact h
theorem RMt.c {z6 z w : Ob} (h : RMt z6 z) (e1 : w.1 26 = z.1 26) (e2 : w.2 27 = z.2 27) (e3 : w.2 28 = z.2 28) : RMt z6 w := by
  unfold RMt
  rw [e1, e2, e3]
  exact h
theorem Rel.xcy {w1 w2 w4 : Ob} {w6 : AS} {w7 : Ob} {w8 : AS} {w9 w : Ob} (h : Rel w1 w2 w4 w6 w7 w8 w9) (e : cy w9 w) : Rel w1 w2 w4 w6 w7 w8 w := by
  obtain ⟨n, T, c, hT, hQ, hW, hA, hM, hK⟩ := h
  exact ⟨n, T, c, hT.c (e.1 2 (by decide) (by decide)) (e.2 1 (by decide)), ⟨hQ.1, hQ.2.1, e.rN hQ.2.2.1, hQ.2.2.2⟩, hW.c (e.1 13 (by decide) (by decide)) (e.2 14 (by decide)) (e.2 15 (by decide)), hA.c (e.1 23 (by decide) (by decide)) (e.2 22 (by decide)), hM.c (e.1 26 (by decide) (by decide)) (e.2 27 (by decide)) (e.2 28 (by decide)), hK.c (e.2 24 (by decide)) (e.2 25 (by decide))⟩
theorem Rel.xcf {w1 w2 w2' w4 : Ob} {w6 w6' : AS} {w7 : Ob} {w8 : AS} {w9 w : Ob} {c' : Cr} (h : Rel w1 w2 w4 w6 w7 w8 w9) (hQ : RQ w2' w c') (hA : RA w6' w) (e : cf SL AL w9 w) : Rel w1 w2' w4 w6' w7 w8 w := by
  obtain ⟨n, T, c, hT, -, hW, -, hM, hK⟩ := h
  exact ⟨n, T, c', hT.c (e.1 2 (by decide) (by decide)) (e.2 1 (by decide) (by decide)), hQ, hW.c (e.1 13 (by decide) (by decide)) (e.2 14 (by decide) (by decide)) (e.2 15 (by decide) (by decide)), hA, hM.c (e.1 26 (by decide) (by decide)) (e.2 27 (by decide) (by decide)) (e.2 28 (by decide) (by decide)), hK.c (e.2 24 (by decide) (by decide)) (e.2 25 (by decide) (by decide))⟩
theorem Rel.xcT {w1 w1' w2 w4 : Ob} {w6 : AS} {w7 : Ob} {w8 : AS} {w9 w : Ob} {S A : List Nat} {n' : Nat} {T' : Nat → Nat} (h : Rel w1 w2 w4 w6 w7 w8 w9) (hT : RT w1' w n' T') (e : cf S A w9 w) (hS : 4 ∉ S ∧ 10 ∉ S ∧ 11 ∉ S ∧ 12 ∉ S) (hS2 : 13 ∉ S ∧ 23 ∉ S ∧ 26 ∉ S) (hA : 5 ∉ A ∧ 6 ∉ A ∧ 7 ∉ A ∧ 8 ∉ A ∧ 9 ∉ A) (hA2 : 14 ∉ A ∧ 15 ∉ A ∧ 22 ∉ A ∧ 24 ∉ A ∧ 25 ∉ A ∧ 27 ∉ A ∧ 28 ∉ A) : Rel w1' w2 w4 w6 w7 w8 w := by
  obtain ⟨n, T, c, -, hQ, hW, hAA, hM, hK⟩ := h
  obtain ⟨s1, s2, s3⟩ := hS2
  obtain ⟨a1, a2, a3, a4, a5, a6, a7⟩ := hA2
  exact ⟨n', T', c, hT, ⟨hQ.1, hQ.2.1, e.rN hQ.2.2.1 hS hA, hQ.2.2.2⟩, hW.c (e.1 13 (by decide) s1) (e.2 14 (by decide) a1) (e.2 15 (by decide) a2), hAA.c (e.1 23 (by decide) s2) (e.2 22 (by decide) a3), hM.c (e.1 26 (by decide) s3) (e.2 27 (by decide) a6) (e.2 28 (by decide) a7), hK.c (e.2 24 (by decide) a4) (e.2 25 (by decide) a5)⟩
theorem Rel.xcM {w1 w2 w4 : Ob} {w6 : AS} {w7 w7' : Ob} {w8 : AS} {w9 w : Ob} (h : Rel w1 w2 w4 w6 w7 w8 w9) (e : czM w9 w) (hM : RMt w7' w) : Rel w1 w2 w4 w6 w7' w8 w := by
  obtain ⟨n, T, c, hT, hQ, hW, hA, -, hK⟩ := h
  have hN := hQ.2.2.1
  refine ⟨n, T, c, hT.c (e.1 2 (by decide) (by decide) (by decide)) (e.2 1 (by decide)), ⟨hQ.1, hQ.2.1, ?_, hQ.2.2.2⟩, hW.c (e.1 13 (by decide) (by decide) (by decide)) (e.2 14 (by decide)) (e.2 15 (by decide)), hA.c (e.1 23 (by decide) (by decide) (by decide)) (e.2 22 (by decide)), hM, hK.c (e.2 24 (by decide)) (e.2 25 (by decide))⟩
  obtain ⟨h1, h2, h3, h4, h5, h6, h7⟩ := hN
  refine ⟨by rw [e.1 4 (by decide) (by decide) (by decide)]; exact h1, h2, ?_, by rw [e.1 10 (by decide) (by decide) (by decide)]; exact h4, by rw [e.1 11 (by decide) (by decide) (by decide)]; exact h5, by rw [e.1 12 (by decide) (by decide) (by decide)]; exact h6, h7⟩
  rw [e.2 5 (by decide), e.2 6 (by decide), e.2 7 (by decide), e.2 8 (by decide), e.2 9 (by decide)]
  exact h3
theorem Rel.rs {w1 w2 w4 : Ob} {w6 : AS} {w7 : Ob} {w8 : AS} {w9 : Ob} (h : Rel w1 w2 w4 w6 w7 w8 w9) : RS w1 w4 w6 w7 w9 := by
  obtain ⟨n, T, c, ⟨-, t1, t2, -⟩, -, ⟨a, -, a1, a2, -⟩, ⟨b, -, b1, b2, -⟩, ⟨m, -, m1, m2, -⟩, -⟩ := h
  exact ⟨by rw [a1, a2], by rw [b1, b2], by rw [m1, m2], by rw [t1, t2]⟩
abbrev RF : Type := Int32 → Ob → Ob → Ob → Ob → Ob → AS → Ob → AS → Ob → Option Int32
/-- a call of the law is through, both have answered alike -/
def Okk (r : RF) (i : Nat) (o : Option Int32) : Prop := ∃ (w1 w2 w3 w4 w5 : Ob) (w6 : AS) (w7 : Ob) (w8 : AS) (w9 : Ob), o = r (nI (i + 5)) w1 w2 w3 w4 w5 w6 w7 w8 w9 ∧ Rel w1 w2 w4 w6 w7 w8 w9
theorem okI {r : RF} {i : Nat} {c : Prop} [Decidable c] {A B : Option Int32} (h1 : c → Okk r i A) (h2 : ¬ c → Okk r i B) : Okk r i (if c then A else B) := by
  by_cases h : c
  · rw [if_pos h]; exact h1 h
  · rw [if_neg h]; exact h2 h
theorem b8 {a1 a2 a3 a4 a5 a6 a7 a8 ρ : Type} {x1 : a1} {x2 : a2} {x3 : a3} {x4 : a4} {x5 : a5} {x6 : a6} {x7 : a7} {x8 : a8} {f : a1 → a2 → a3 → a4 → a5 → a6 → a7 → a8 → Option ρ} : bd8 (some (x1, x2, x3, x4, x5, x6, x7, x8)) f = f x1 x2 x3 x4 x5 x6 x7 x8 := rfl
theorem n_5 (i : Nat) : nI i + 5 = nI (i + 5) := by rw [show (5 : Int32) = nI 5 from rfl, nI_add]
theorem lg_s (x : Int64) : lg_cmp x x = 0 := by
  unfold lg_cmp
  rw [if_neg (by rw [gt_iff_lt, Int64.lt_iff_toInt_lt]; omega), if_pos rfl]
variable {xs : Nat → Int32} {L i : Nat} {r : RF} {w1 w2 w3 w4 w5 w7 w9 : Ob} {w6 w8 : AS}
theorem law_0 (h : Rel w1 w2 w4 w6 w7 w8 w9) (hb1 : inb (nI i + 1) L = true) (hb2 : inb (nI i + 2) L = true) (hb3 : inb (nI i + 3) L = true) (hb4 : inb (nI i + 4) L = true) : Okk r i ((if inb ((nI i) + (1 : Int32)) L = true then (if inb ((nI i) + (2 : Int32)) L = true then (if inb ((nI i) + (3 : Int32)) L = true then bd2 (f_X6_write w1 (xs ((nI i) + (1 : Int32)).toNatClampNeg) (((xs ((nI i) + (2 : Int32)).toNatClampNeg).toInt64 <<< ((32 : Int32).toInt64 &&& 63)) ||| ((xs ((nI i) + (3 : Int32)).toNatClampNeg).toInt64 &&& (4294967295 : Int64)))) (fun v24 g25 => (if inb ((nI i) + (1 : Int32)) L = true then (if inb ((nI i) + (2 : Int32)) L = true then (if inb ((nI i) + (3 : Int32)) L = true then bd2 (f_X7_write w9 (xs ((nI i) + (1 : Int32)).toNatClampNeg) (((xs ((nI i) + (2 : Int32)).toNatClampNeg).toInt64 <<< ((32 : Int32).toInt64 &&& 63)) ||| ((xs ((nI i) + (3 : Int32)).toNatClampNeg).toInt64 &&& (4294967295 : Int64)))) (fun v26 g27 => (if v24 = v26 then j_L_law_1143 xs L r (nI i) g25 w2 w3 w4 w5 w6 w7 w8 g27 else some (0 : Int32))) else none) else none) else none)) else none) else none) else none)) := by
  obtain ⟨n, T, c, hT, hQ, hW, hA, hM, hK⟩ := id h
  obtain ⟨r0, z0, w, n2, T2, e1, e2, hT2, cw⟩ := T_write hT (xs (nI i + 1).toNatClampNeg) (((xs (nI i + 2).toNatClampNeg).toInt64 <<< ((32 : Int32).toInt64 &&& 63)) ||| ((xs (nI i + 3).toNatClampNeg).toInt64 &&& (4294967295 : Int64)))
  simp only [hb1, hb2, hb3, hb4, if_true, eq_self, bn, e1, e2, b2, j_L_law_1143, n_5]
  exact ⟨z0, w2, w3, w4, w5, w6, w7, w8, w, rfl, h.xcT hT2 cw (by decide) (by decide) (by decide) (by decide)⟩
theorem law_1 (h : Rel w1 w2 w4 w6 w7 w8 w9) (hb1 : inb (nI i + 1) L = true) (hb2 : inb (nI i + 2) L = true) (hb3 : inb (nI i + 3) L = true) (hb4 : inb (nI i + 4) L = true) : Okk r i (bd2 (f_X6_wipe w1) (fun v28 g29 => bd2 (f_X7_wipe w9) (fun v30 g31 => (if v28 = v30 then j_L_law_1143 xs L r (nI i) g29 w2 w3 w4 w5 w6 w7 w8 g31 else some (0 : Int32))))) := by
  obtain ⟨n, T, c, hT, hQ, hW, hA, hM, hK⟩ := id h
  obtain ⟨r0, z0, w, n2, T2, e1, e2, hT2, cw⟩ := T_wipe hT
  simp only [hb1, hb2, hb3, hb4, if_true, eq_self, bn, e1, e2, b2, j_L_law_1143, n_5]
  exact ⟨z0, w2, w3, w4, w5, w6, w7, w8, w, rfl, h.xcT hT2 cw (by decide) (by decide) (by decide) (by decide)⟩
theorem law_2 (h : Rel w1 w2 w4 w6 w7 w8 w9) (hb1 : inb (nI i + 1) L = true) (hb2 : inb (nI i + 2) L = true) (hb3 : inb (nI i + 3) L = true) (hb4 : inb (nI i + 4) L = true) : Okk r i (bd4 (f_X6_fault w1 w3 w5) (fun v32 g33 g34 g35 => bd2 (f_X7_fault w9) (fun v36 g37 => (if v32 = v36 then j_L_law_1143 xs L r (nI i) g33 w2 g34 w4 g35 w6 w7 w8 g37 else some (0 : Int32))))) := by
  obtain ⟨n, T, c, hT, hQ, hW, hA, hM, hK⟩ := id h
  obtain ⟨r0, z0, z2, z4, w, e1, e2, hT2, cw⟩ := T_fault (z2 := w3) (z4 := w5) hT
  simp only [hb1, hb2, hb3, hb4, if_true, eq_self, bn, e1, e2, b2, b4, j_L_law_1143, n_5]
  exact ⟨z0, w2, z2, w4, z4, w6, w7, w8, w, rfl, h.xcT hT2 cw (by decide) (by decide) (by decide) (by decide)⟩
theorem law_3 (h : Rel w1 w2 w4 w6 w7 w8 w9) (hb1 : inb (nI i + 1) L = true) (hb2 : inb (nI i + 2) L = true) (hb3 : inb (nI i + 3) L = true) (hb4 : inb (nI i + 4) L = true) : Okk r i (bd8 (f_X6_room w1 w2 w3 w4 w5 w6 w8) (fun v38 g39 g40 g41 g42 g43 g44 g45 => bd2 (f_X7_room w9) (fun v46 g47 => (if v38 = v46 then j_L_law_1143 xs L r (nI i) g39 g40 g41 g42 g43 g44 w7 g45 g47 else some (0 : Int32))))) := by
  obtain ⟨n, T, c, hT, hQ, hW, hA, hM, hK⟩ := id h
  obtain ⟨r0, z0, z1, z2, z3, z4, z5, z7, w, c2, e1, e2, hT2, hQ2, hW2, hA2, hK2, f1, f2, f3⟩ := T_room (z2 := w3) (z4 := w5) hT hQ hW hA hK
  simp only [hb1, hb2, hb3, hb4, if_true, eq_self, bn, e1, e2, b2, b8, j_L_law_1143, n_5]
  exact ⟨z0, z1, z2, z3, z4, z5, w7, z7, w, rfl, n, T, c2, hT2, hQ2, hW2, hA2, hM.c f1 f2 f3, hK2⟩
theorem law_4 (h : Rel w1 w2 w4 w6 w7 w8 w9) (hb1 : inb (nI i + 1) L = true) (hb2 : inb (nI i + 2) L = true) (hb3 : inb (nI i + 3) L = true) (hb4 : inb (nI i + 4) L = true) : Okk r i ((if inb ((nI i) + (1 : Int32)) L = true then (f_X6_about w1 w2 w4 w6 w7 (xs ((nI i) + (1 : Int32)).toNatClampNeg)).bind (fun v48 => (if inb ((nI i) + (1 : Int32)) L = true then bd2 (f_X7_about w9 (xs ((nI i) + (1 : Int32)).toNatClampNeg)) (fun v49 g50 => (if v48 = v49 then j_L_law_1143 xs L r (nI i) w1 w2 w3 w4 w5 w6 w7 w8 g50 else some (0 : Int32))) else none)) else none)) := by
  obtain ⟨n, T, c, hT, hQ, hW, hA, hM, hK⟩ := id h
  obtain ⟨r0, w, e1, e2, cw⟩ := T_about hQ h.rs (xs (nI i + 1).toNatClampNeg)
  simp only [hb1, hb2, hb3, hb4, if_true, eq_self, bn, e1, e2, ob, b2, j_L_law_1143, n_5]
  exact ⟨w1, w2, w3, w4, w5, w6, w7, w8, w, rfl, h.xcy cw.toy⟩
theorem law_5 (h : Rel w1 w2 w4 w6 w7 w8 w9) (hb1 : inb (nI i + 1) L = true) (hb2 : inb (nI i + 2) L = true) (hb3 : inb (nI i + 3) L = true) (hb4 : inb (nI i + 4) L = true) : Okk r i ((if inb ((nI i) + (1 : Int32)) L = true then (if inb ((nI i) + (2 : Int32)) L = true then (f_X6_ring w2 (xs ((nI i) + (1 : Int32)).toNatClampNeg) (xs ((nI i) + (2 : Int32)).toNatClampNeg)).bind (fun v51 => (if inb ((nI i) + (1 : Int32)) L = true then (if inb ((nI i) + (2 : Int32)) L = true then bd2 (f_X7_ring w9 (xs ((nI i) + (1 : Int32)).toNatClampNeg) (xs ((nI i) + (2 : Int32)).toNatClampNeg)) (fun v52 g53 => (if v51 = v52 then j_L_law_1143 xs L r (nI i) w1 w2 w3 w4 w5 w6 w7 w8 g53 else some (0 : Int32))) else none) else none)) else none) else none)) := by
  obtain ⟨n, T, c, hT, hQ, hW, hA, hM, hK⟩ := id h
  obtain ⟨r0, w, e1, e2, cw⟩ := T_ring hQ (xs (nI i + 1).toNatClampNeg) (xs (nI i + 2).toNatClampNeg)
  simp only [hb1, hb2, hb3, hb4, if_true, eq_self, bn, e1, e2, ob, b2, j_L_law_1143, n_5]
  exact ⟨w1, w2, w3, w4, w5, w6, w7, w8, w, rfl, h.xcy cw.toy⟩
theorem law_6 (h : Rel w1 w2 w4 w6 w7 w8 w9) (hb1 : inb (nI i + 1) L = true) (hb2 : inb (nI i + 2) L = true) (hb3 : inb (nI i + 3) L = true) (hb4 : inb (nI i + 4) L = true) : Okk r i ((if inb ((nI i) + (1 : Int32)) L = true then (if inb ((nI i) + (2 : Int32)) L = true then (f_X6_stuff w4 (xs ((nI i) + (1 : Int32)).toNatClampNeg) (xs ((nI i) + (2 : Int32)).toNatClampNeg)).bind (fun v54 => (if inb ((nI i) + (1 : Int32)) L = true then (if inb ((nI i) + (2 : Int32)) L = true then bd2 (f_X7_stuff w9 (xs ((nI i) + (1 : Int32)).toNatClampNeg) (xs ((nI i) + (2 : Int32)).toNatClampNeg)) (fun v55 g56 => (if v54 = v55 then j_L_law_1143 xs L r (nI i) w1 w2 w3 w4 w5 w6 w7 w8 g56 else some (0 : Int32))) else none) else none)) else none) else none)) := by
  obtain ⟨n, T, c, hT, hQ, hW, hA, hM, hK⟩ := id h
  obtain ⟨r0, w, e1, e2, cw⟩ := T_stuff hW (xs (nI i + 1).toNatClampNeg) (xs (nI i + 2).toNatClampNeg)
  simp only [hb1, hb2, hb3, hb4, if_true, eq_self, bn, e1, e2, ob, b2, j_L_law_1143, n_5]
  exact ⟨w1, w2, w3, w4, w5, w6, w7, w8, w, rfl, h.xcy cw.toy⟩
theorem law_7 (h : Rel w1 w2 w4 w6 w7 w8 w9) (hb1 : inb (nI i + 1) L = true) (hb2 : inb (nI i + 2) L = true) (hb3 : inb (nI i + 3) L = true) (hb4 : inb (nI i + 4) L = true) : Okk r i ((if inb ((nI i) + (1 : Int32)) L = true then (if inb ((nI i) + (2 : Int32)) L = true then (f_X6_noise w2 (xs ((nI i) + (1 : Int32)).toNatClampNeg) (xs ((nI i) + (2 : Int32)).toNatClampNeg)).bind (fun v57 => (if inb ((nI i) + (1 : Int32)) L = true then (if inb ((nI i) + (2 : Int32)) L = true then bd2 (f_X7_noise w9 (xs ((nI i) + (1 : Int32)).toNatClampNeg) (xs ((nI i) + (2 : Int32)).toNatClampNeg)) (fun v58 g59 => (if v57 = v58 then j_L_law_1143 xs L r (nI i) w1 w2 w3 w4 w5 w6 w7 w8 g59 else some (0 : Int32))) else none) else none)) else none) else none)) := by
  obtain ⟨n, T, c, hT, hQ, hW, hA, hM, hK⟩ := id h
  obtain ⟨r0, w, e1, e2, cw⟩ := T_noise hQ (xs (nI i + 1).toNatClampNeg) (xs (nI i + 2).toNatClampNeg)
  simp only [hb1, hb2, hb3, hb4, if_true, eq_self, bn, e1, e2, ob, b2, j_L_law_1143, n_5]
  exact ⟨w1, w2, w3, w4, w5, w6, w7, w8, w, rfl, h.xcy cw.toy⟩
theorem law_8 (h : Rel w1 w2 w4 w6 w7 w8 w9) (hb1 : inb (nI i + 1) L = true) (hb2 : inb (nI i + 2) L = true) (hb3 : inb (nI i + 3) L = true) (hb4 : inb (nI i + 4) L = true) : Okk r i ((if inb ((nI i) + (1 : Int32)) L = true then (if inb ((nI i) + (2 : Int32)) L = true then (if inb ((nI i) + (3 : Int32)) L = true then (f_X6_from w2 (xs ((nI i) + (1 : Int32)).toNatClampNeg) (xs ((nI i) + (2 : Int32)).toNatClampNeg) (xs ((nI i) + (3 : Int32)).toNatClampNeg)).bind (fun v60 => (if inb ((nI i) + (1 : Int32)) L = true then (if inb ((nI i) + (2 : Int32)) L = true then (if inb ((nI i) + (3 : Int32)) L = true then bd2 (f_X7_from w9 (xs ((nI i) + (1 : Int32)).toNatClampNeg) (xs ((nI i) + (2 : Int32)).toNatClampNeg) (xs ((nI i) + (3 : Int32)).toNatClampNeg)) (fun v61 g62 => (if v60 = v61 then j_L_law_1143 xs L r (nI i) w1 w2 w3 w4 w5 w6 w7 w8 g62 else some (0 : Int32))) else none) else none) else none)) else none) else none) else none)) := by
  obtain ⟨n, T, c, hT, hQ, hW, hA, hM, hK⟩ := id h
  obtain ⟨r0, w, e1, e2, cw⟩ := T_from hQ (xs (nI i + 1).toNatClampNeg) (xs (nI i + 2).toNatClampNeg) (xs (nI i + 3).toNatClampNeg)
  simp only [hb1, hb2, hb3, hb4, if_true, eq_self, bn, e1, e2, ob, b2, j_L_law_1143, n_5]
  exact ⟨w1, w2, w3, w4, w5, w6, w7, w8, w, rfl, h.xcy cw.toy⟩
theorem law_9 (h : Rel w1 w2 w4 w6 w7 w8 w9) (hb1 : inb (nI i + 1) L = true) (hb2 : inb (nI i + 2) L = true) (hb3 : inb (nI i + 3) L = true) (hb4 : inb (nI i + 4) L = true) : Okk r i ((if inb ((nI i) + (1 : Int32)) L = true then (if inb ((nI i) + (2 : Int32)) L = true then bd2 (f_X6_voice w2 (xs ((nI i) + (1 : Int32)).toNatClampNeg) (xs ((nI i) + (2 : Int32)).toNatClampNeg)) (fun v63 g64 => (if inb ((nI i) + (1 : Int32)) L = true then (if inb ((nI i) + (2 : Int32)) L = true then bd2 (f_X7_voice w9 (xs ((nI i) + (1 : Int32)).toNatClampNeg) (xs ((nI i) + (2 : Int32)).toNatClampNeg)) (fun v65 g66 => (if v63 = v65 then j_L_law_1143 xs L r (nI i) w1 g64 w3 w4 w5 w6 w7 w8 g66 else some (0 : Int32))) else none) else none)) else none) else none)) := by
  obtain ⟨n, T, c, hT, hQ, hW, hA, hM, hK⟩ := id h
  obtain ⟨r0, z1, w, c2, e1, e2, hQ2, hA2, cw⟩ := T_voice hQ hA (xs (nI i + 1).toNatClampNeg) (xs (nI i + 2).toNatClampNeg)
  simp only [hb1, hb2, hb3, hb4, if_true, eq_self, bn, e1, e2, b2, j_L_law_1143, n_5]
  exact ⟨w1, z1, w3, w4, w5, w6, w7, w8, w, rfl, h.xcf hQ2 hA2 cw⟩
theorem law_10 (h : Rel w1 w2 w4 w6 w7 w8 w9) (hb1 : inb (nI i + 1) L = true) (hb2 : inb (nI i + 2) L = true) (hb3 : inb (nI i + 3) L = true) (hb4 : inb (nI i + 4) L = true) : Okk r i ((if inb ((nI i) + (1 : Int32)) L = true then (if inb ((nI i) + (2 : Int32)) L = true then (if (xs ((nI i) + (2 : Int32)).toNatClampNeg) = 0 then j_L_law_503 xs L r (nI i) (0 : Int32) (xs ((nI i) + (1 : Int32)).toNatClampNeg) w1 w2 w3 w4 w5 w6 w7 w8 w9 else j_L_law_503 xs L r (nI i) (1 : Int32) (xs ((nI i) + (1 : Int32)).toNatClampNeg) w1 w2 w3 w4 w5 w6 w7 w8 w9) else none) else none)) := by
  obtain ⟨n, T, c, hT, hQ, hW, hA, hM, hK⟩ := id h
  by_cases hz : (xs (nI i + 2).toNatClampNeg) = 0
  · obtain ⟨r0, z1, w, c2, e1, e2, hQ2, hA2, cw⟩ := T_music hQ hA (xs (nI i + 1).toNatClampNeg) 0 (Or.inl rfl)
    simp only [hb1, hb2, hb3, hb4, if_true, eq_self, bn, if_pos hz, j_L_law_503, j_L_law_525, e1, e2, b2, ob, lg_s, j_L_law_1143, n_5]
    exact ⟨w1, z1, w3, w4, w5, w6, w7, w8, w, rfl, h.xcf hQ2 hA2 cw⟩
  · obtain ⟨r0, z1, w, c2, e1, e2, hQ2, hA2, cw⟩ := T_music hQ hA (xs (nI i + 1).toNatClampNeg) 1 (Or.inr rfl)
    simp only [hb1, hb2, hb3, hb4, if_true, eq_self, bn, if_neg hz, j_L_law_503, j_L_law_525, e1, e2, b2, ob, lg_s, j_L_law_1143, n_5]
    exact ⟨w1, z1, w3, w4, w5, w6, w7, w8, w, rfl, h.xcf hQ2 hA2 cw⟩
theorem law_11 (h : Rel w1 w2 w4 w6 w7 w8 w9) (hb1 : inb (nI i + 1) L = true) (hb2 : inb (nI i + 2) L = true) (hb3 : inb (nI i + 3) L = true) (hb4 : inb (nI i + 4) L = true) : Okk r i ((if inb ((nI i) + (1 : Int32)) L = true then bd2 (f_X6_eats w2 (xs ((nI i) + (1 : Int32)).toNatClampNeg)) (fun v67 g68 => (if inb ((nI i) + (1 : Int32)) L = true then bd2 (f_X7_eats w9 (xs ((nI i) + (1 : Int32)).toNatClampNeg)) (fun v69 g70 => (if v67 = v69 then j_L_law_1143 xs L r (nI i) w1 g68 w3 w4 w5 w6 w7 w8 g70 else some (0 : Int32))) else none)) else none)) := by
  obtain ⟨n, T, c, hT, hQ, hW, hA, hM, hK⟩ := id h
  obtain ⟨r0, z1, w, c2, e1, e2, hQ2, hA2, cw⟩ := T_eats hQ hA (xs (nI i + 1).toNatClampNeg)
  simp only [hb1, hb2, hb3, hb4, if_true, eq_self, bn, e1, e2, b2, j_L_law_1143, n_5]
  exact ⟨w1, z1, w3, w4, w5, w6, w7, w8, w, rfl, h.xcf hQ2 hA2 cw⟩
theorem law_12 (h : Rel w1 w2 w4 w6 w7 w8 w9) (hb1 : inb (nI i + 1) L = true) (hb2 : inb (nI i + 2) L = true) (hb3 : inb (nI i + 3) L = true) (hb4 : inb (nI i + 4) L = true) : Okk r i (bd3 (f_X6_minute w2 w6) (fun v71 g72 g73 => bd2 (f_X7_minute w9) (fun v74 g75 => (if v71 = v74 then j_L_law_1143 xs L r (nI i) w1 g72 w3 w4 w5 g73 w7 w8 g75 else some (0 : Int32))))) := by
  obtain ⟨n, T, c, hT, hQ, hW, hA, hM, hK⟩ := id h
  obtain ⟨r0, z1, z5, w, c2, e1, e2, hQ2, hA2, cw⟩ := T_minute hQ hA
  simp only [hb1, hb2, hb3, hb4, if_true, eq_self, bn, e1, e2, b2, b3, j_L_law_1143, n_5]
  exact ⟨w1, z1, w3, w4, w5, z5, w7, w8, w, rfl, h.xcf hQ2 hA2 cw⟩
theorem law_13 (h : Rel w1 w2 w4 w6 w7 w8 w9) (hb1 : inb (nI i + 1) L = true) (hb2 : inb (nI i + 2) L = true) (hb3 : inb (nI i + 3) L = true) (hb4 : inb (nI i + 4) L = true) : Okk r i ((if inb ((nI i) + (1 : Int32)) L = true then bd3 (f_X6_breaks w2 w6 (xs ((nI i) + (1 : Int32)).toNatClampNeg)) (fun v76 g77 g78 => (if inb ((nI i) + (1 : Int32)) L = true then bd2 (f_X7_breaks w9 (xs ((nI i) + (1 : Int32)).toNatClampNeg)) (fun v79 g80 => (if v76 = v79 then j_L_law_1143 xs L r (nI i) w1 g77 w3 w4 w5 g78 w7 w8 g80 else some (0 : Int32))) else none)) else none)) := by
  obtain ⟨n, T, c, hT, hQ, hW, hA, hM, hK⟩ := id h
  obtain ⟨r0, z1, z5, w, c2, e1, e2, hQ2, hA2, cw⟩ := T_breaks hQ hA (xs (nI i + 1).toNatClampNeg)
  simp only [hb1, hb2, hb3, hb4, if_true, eq_self, bn, e1, e2, b2, b3, j_L_law_1143, n_5]
  exact ⟨w1, z1, w3, w4, w5, z5, w7, w8, w, rfl, h.xcf hQ2 hA2 cw⟩
theorem law_14 (h : Rel w1 w2 w4 w6 w7 w8 w9) (hb1 : inb (nI i + 1) L = true) (hb2 : inb (nI i + 2) L = true) (hb3 : inb (nI i + 3) L = true) (hb4 : inb (nI i + 4) L = true) : Okk r i ((if inb ((nI i) + (1 : Int32)) L = true then (if inb ((nI i) + (2 : Int32)) L = true then bd3 (f_X6_joins w2 w6 (xs ((nI i) + (1 : Int32)).toNatClampNeg) (xs ((nI i) + (2 : Int32)).toNatClampNeg)) (fun v81 g82 g83 => (if inb ((nI i) + (1 : Int32)) L = true then (if inb ((nI i) + (2 : Int32)) L = true then bd2 (f_X7_joins w9 (xs ((nI i) + (1 : Int32)).toNatClampNeg) (xs ((nI i) + (2 : Int32)).toNatClampNeg)) (fun v84 g85 => (if v81 = v84 then j_L_law_1143 xs L r (nI i) w1 g82 w3 w4 w5 g83 w7 w8 g85 else some (0 : Int32))) else none) else none)) else none) else none)) := by
  obtain ⟨n, T, c, hT, hQ, hW, hA, hM, hK⟩ := id h
  obtain ⟨r0, z1, z5, w, c2, e1, e2, hQ2, hA2, cw⟩ := T_joins hQ hA (xs (nI i + 1).toNatClampNeg) (xs (nI i + 2).toNatClampNeg)
  simp only [hb1, hb2, hb3, hb4, if_true, eq_self, bn, e1, e2, b2, b3, j_L_law_1143, n_5]
  exact ⟨w1, z1, w3, w4, w5, z5, w7, w8, w, rfl, h.xcf hQ2 hA2 cw⟩
theorem law_15 (h : Rel w1 w2 w4 w6 w7 w8 w9) (hb1 : inb (nI i + 1) L = true) (hb2 : inb (nI i + 2) L = true) (hb3 : inb (nI i + 3) L = true) (hb4 : inb (nI i + 4) L = true) : Okk r i ((if inb ((nI i) + (1 : Int32)) L = true then bd3 (f_X6_home w2 w6 (xs ((nI i) + (1 : Int32)).toNatClampNeg)) (fun v86 g87 g88 => (if inb ((nI i) + (1 : Int32)) L = true then bd2 (f_X7_home w9 (xs ((nI i) + (1 : Int32)).toNatClampNeg)) (fun v89 g90 => (if v86 = v89 then j_L_law_1143 xs L r (nI i) w1 g87 w3 w4 w5 g88 w7 w8 g90 else some (0 : Int32))) else none)) else none)) := by
  obtain ⟨n, T, c, hT, hQ, hW, hA, hM, hK⟩ := id h
  obtain ⟨r0, z1, z5, w, c2, e1, e2, hQ2, hA2, cw⟩ := T_home hQ hA (xs (nI i + 1).toNatClampNeg)
  simp only [hb1, hb2, hb3, hb4, if_true, eq_self, bn, e1, e2, b2, b3, j_L_law_1143, n_5]
  exact ⟨w1, z1, w3, w4, w5, z5, w7, w8, w, rfl, h.xcf hQ2 hA2 cw⟩
theorem law_16 (h : Rel w1 w2 w4 w6 w7 w8 w9) (hb1 : inb (nI i + 1) L = true) (hb2 : inb (nI i + 2) L = true) (hb3 : inb (nI i + 3) L = true) (hb4 : inb (nI i + 4) L = true) : Okk r i (bd3 (f_X6_hush w2 w6) (fun v91 g92 g93 => bd2 (f_X7_hush w9) (fun v94 g95 => (if v91 = v94 then j_L_law_1143 xs L r (nI i) w1 g92 w3 w4 w5 g93 w7 w8 g95 else some (0 : Int32))))) := by
  obtain ⟨n, T, c, hT, hQ, hW, hA, hM, hK⟩ := id h
  obtain ⟨r0, z1, z5, w, c2, e1, e2, hQ2, hA2, cw⟩ := T_hush hQ hA
  simp only [hb1, hb2, hb3, hb4, if_true, eq_self, bn, e1, e2, b2, b3, j_L_law_1143, n_5]
  exact ⟨w1, z1, w3, w4, w5, z5, w7, w8, w, rfl, h.xcf hQ2 hA2 cw⟩
theorem law_17 (h : Rel w1 w2 w4 w6 w7 w8 w9) (hb1 : inb (nI i + 1) L = true) (hb2 : inb (nI i + 2) L = true) (hb3 : inb (nI i + 3) L = true) (hb4 : inb (nI i + 4) L = true) : Okk r i (bd3 (f_X6_undo w2 w6) (fun v96 g97 g98 => bd2 (f_X7_undo w9) (fun v99 g100 => (if v96 = v99 then j_L_law_1143 xs L r (nI i) w1 g97 w3 w4 w5 g98 w7 w8 g100 else some (0 : Int32))))) := by
  obtain ⟨n, T, c, hT, hQ, hW, hA, hM, hK⟩ := id h
  obtain ⟨r0, z1, z5, w, c2, e1, e2, hQ2, hA2, cw⟩ := T_undo hQ hA
  simp only [hb1, hb2, hb3, hb4, if_true, eq_self, bn, e1, e2, b2, b3, j_L_law_1143, n_5]
  exact ⟨w1, z1, w3, w4, w5, z5, w7, w8, w, rfl, h.xcf hQ2 hA2 cw⟩
theorem law_18 (h : Rel w1 w2 w4 w6 w7 w8 w9) (hb1 : inb (nI i + 1) L = true) (hb2 : inb (nI i + 2) L = true) (hb3 : inb (nI i + 3) L = true) (hb4 : inb (nI i + 4) L = true) : Okk r i ((if inb ((nI i) + (1 : Int32)) L = true then (if inb ((nI i) + (2 : Int32)) L = true then (if (xs ((nI i) + (2 : Int32)).toNatClampNeg) = 0 then j_L_law_693 xs L r (nI i) (0 : Int32) (xs ((nI i) + (1 : Int32)).toNatClampNeg) w1 w2 w3 w4 w5 w6 w7 w8 w9 else j_L_law_693 xs L r (nI i) (1 : Int32) (xs ((nI i) + (1 : Int32)).toNatClampNeg) w1 w2 w3 w4 w5 w6 w7 w8 w9) else none) else none)) := by
  obtain ⟨n, T, c, hT, hQ, hW, hA, hM, hK⟩ := id h
  by_cases hz : (xs (nI i + 2).toNatClampNeg) = 0
  · obtain ⟨r0, z2, w, e1, e2, cw⟩ := T_rest hQ w3 (xs (nI i + 1).toNatClampNeg) 0
    simp only [hb1, hb2, hb3, hb4, if_true, eq_self, bn, if_pos hz, j_L_law_693, j_L_law_715, e1, e2, b2, ob, lg_s, j_L_law_1143, n_5]
    exact ⟨w1, w2, z2, w4, w5, w6, w7, w8, w, rfl, h.xcy cw.toy⟩
  · obtain ⟨r0, z2, w, e1, e2, cw⟩ := T_rest hQ w3 (xs (nI i + 1).toNatClampNeg) 1
    simp only [hb1, hb2, hb3, hb4, if_true, eq_self, bn, if_neg hz, j_L_law_693, j_L_law_715, e1, e2, b2, ob, lg_s, j_L_law_1143, n_5]
    exact ⟨w1, w2, z2, w4, w5, w6, w7, w8, w, rfl, h.xcy cw.toy⟩
theorem law_19 (h : Rel w1 w2 w4 w6 w7 w8 w9) (hb1 : inb (nI i + 1) L = true) (hb2 : inb (nI i + 2) L = true) (hb3 : inb (nI i + 3) L = true) (hb4 : inb (nI i + 4) L = true) : Okk r i (bd2 (f_X6_tooMany w2 w3) (fun v101 g102 => bd2 (f_X7_tooMany w9) (fun v103 g104 => (if v101 = v103 then j_L_law_1143 xs L r (nI i) w1 w2 g102 w4 w5 w6 w7 w8 g104 else some (0 : Int32))))) := by
  obtain ⟨n, T, c, hT, hQ, hW, hA, hM, hK⟩ := id h
  obtain ⟨r0, z2, w, e1, e2, cw⟩ := T_tooMany hQ w3
  simp only [hb1, hb2, hb3, hb4, if_true, eq_self, bn, e1, e2, ob, b2, j_L_law_1143, n_5]
  exact ⟨w1, w2, z2, w4, w5, w6, w7, w8, w, rfl, h.xcy cw.toy⟩
theorem law_20 (h : Rel w1 w2 w4 w6 w7 w8 w9) (hb1 : inb (nI i + 1) L = true) (hb2 : inb (nI i + 2) L = true) (hb3 : inb (nI i + 3) L = true) (hb4 : inb (nI i + 4) L = true) : Okk r i (bd2 (f_X6_lasts w2 w3) (fun v105 g106 => bd2 (f_X7_lasts w9) (fun v107 g108 => (if v105 = v107 then j_L_law_1143 xs L r (nI i) w1 w2 g106 w4 w5 w6 w7 w8 g108 else some (0 : Int32))))) := by
  obtain ⟨n, T, c, hT, hQ, hW, hA, hM, hK⟩ := id h
  obtain ⟨r0, z2, w, e1, e2, cw⟩ := T_lasts hQ w3
  simp only [hb1, hb2, hb3, hb4, if_true, eq_self, bn, e1, e2, ob, b2, j_L_law_1143, n_5]
  exact ⟨w1, w2, z2, w4, w5, w6, w7, w8, w, rfl, h.xcy cw.toy⟩
theorem law_21 (h : Rel w1 w2 w4 w6 w7 w8 w9) (hb1 : inb (nI i + 1) L = true) (hb2 : inb (nI i + 2) L = true) (hb3 : inb (nI i + 3) L = true) (hb4 : inb (nI i + 4) L = true) : Okk r i ((if inb ((nI i) + (1 : Int32)) L = true then (if (xs ((nI i) + (1 : Int32)).toNatClampNeg) = 0 then j_L_law_763 xs L r (nI i) (0 : Int32) w1 w2 w3 w4 w5 w6 w7 w8 w9 else j_L_law_763 xs L r (nI i) (1 : Int32) w1 w2 w3 w4 w5 w6 w7 w8 w9) else none)) := by
  obtain ⟨n, T, c, hT, hQ, hW, hA, hM, hK⟩ := id h
  by_cases hz : (xs (nI i + 1).toNatClampNeg) = 0
  · obtain ⟨r0, z2, w, e1, e2, cw⟩ := T_stuffs hQ hW w3 0
    simp only [hb1, hb2, hb3, hb4, if_true, eq_self, bn, if_pos hz, j_L_law_763, j_L_law_780, e1, e2, b2, ob, lg_s, j_L_law_1143, n_5]
    exact ⟨w1, w2, z2, w4, w5, w6, w7, w8, w, rfl, h.xcy cw⟩
  · obtain ⟨r0, z2, w, e1, e2, cw⟩ := T_stuffs hQ hW w3 1
    simp only [hb1, hb2, hb3, hb4, if_true, eq_self, bn, if_neg hz, j_L_law_763, j_L_law_780, e1, e2, b2, ob, lg_s, j_L_law_1143, n_5]
    exact ⟨w1, w2, z2, w4, w5, w6, w7, w8, w, rfl, h.xcy cw⟩
theorem law_22 (h : Rel w1 w2 w4 w6 w7 w8 w9) (hb1 : inb (nI i + 1) L = true) (hb2 : inb (nI i + 2) L = true) (hb3 : inb (nI i + 3) L = true) (hb4 : inb (nI i + 4) L = true) : Okk r i (bd2 (f_X6_loudest w2 w3) (fun v109 g110 => bd2 (f_X7_loudest w9) (fun v111 g112 => (if v109 = v111 then j_L_law_1143 xs L r (nI i) w1 w2 g110 w4 w5 w6 w7 w8 g112 else some (0 : Int32))))) := by
  obtain ⟨n, T, c, hT, hQ, hW, hA, hM, hK⟩ := id h
  obtain ⟨r0, z2, w, e1, e2, cw⟩ := T_loudest hQ w3
  simp only [hb1, hb2, hb3, hb4, if_true, eq_self, bn, e1, e2, ob, b2, j_L_law_1143, n_5]
  exact ⟨w1, w2, z2, w4, w5, w6, w7, w8, w, rfl, h.xcy cw.toy⟩
theorem law_23 (h : Rel w1 w2 w4 w6 w7 w8 w9) (hb1 : inb (nI i + 1) L = true) (hb2 : inb (nI i + 2) L = true) (hb3 : inb (nI i + 3) L = true) (hb4 : inb (nI i + 4) L = true) : Okk r i (bd2 (f_X6_softer w2 w3) (fun v113 g114 => bd2 (f_X7_softer w9) (fun v115 g116 => (if v113 = v115 then j_L_law_1143 xs L r (nI i) w1 w2 g114 w4 w5 w6 w7 w8 g116 else some (0 : Int32))))) := by
  obtain ⟨n, T, c, hT, hQ, hW, hA, hM, hK⟩ := id h
  obtain ⟨r0, z2, w, e1, e2, cw⟩ := T_softer hQ w3
  simp only [hb1, hb2, hb3, hb4, if_true, eq_self, bn, e1, e2, ob, b2, j_L_law_1143, n_5]
  exact ⟨w1, w2, z2, w4, w5, w6, w7, w8, w, rfl, h.xcy cw.toy⟩
theorem law_24 (h : Rel w1 w2 w4 w6 w7 w8 w9) (hb1 : inb (nI i + 1) L = true) (hb2 : inb (nI i + 2) L = true) (hb3 : inb (nI i + 3) L = true) (hb4 : inb (nI i + 4) L = true) : Okk r i ((if inb ((nI i) + (1 : Int32)) L = true then (f_X6_overhears w2 (xs ((nI i) + (1 : Int32)).toNatClampNeg)).bind (fun v117 => (if inb ((nI i) + (1 : Int32)) L = true then bd2 (f_X7_overhears w9 (xs ((nI i) + (1 : Int32)).toNatClampNeg)) (fun v118 g119 => (if v117 = v118 then j_L_law_1143 xs L r (nI i) w1 w2 w3 w4 w5 w6 w7 w8 g119 else some (0 : Int32))) else none)) else none)) := by
  obtain ⟨n, T, c, hT, hQ, hW, hA, hM, hK⟩ := id h
  obtain ⟨r0, w, e1, e2, cw⟩ := T_overhears hQ (xs (nI i + 1).toNatClampNeg)
  simp only [hb1, hb2, hb3, hb4, if_true, eq_self, bn, e1, e2, ob, b2, j_L_law_1143, n_5]
  exact ⟨w1, w2, w3, w4, w5, w6, w7, w8, w, rfl, h.xcy cw.toy⟩
theorem law_25 (h : Rel w1 w2 w4 w6 w7 w8 w9) (hb1 : inb (nI i + 1) L = true) (hb2 : inb (nI i + 2) L = true) (hb3 : inb (nI i + 3) L = true) (hb4 : inb (nI i + 4) L = true) : Okk r i ((f_X6_quietest w2).bind (fun v120 => bd2 (f_X7_quietest w9) (fun v121 g122 => (if v120 = v121 then j_L_law_1143 xs L r (nI i) w1 w2 w3 w4 w5 w6 w7 w8 g122 else some (0 : Int32))))) := by
  obtain ⟨n, T, c, hT, hQ, hW, hA, hM, hK⟩ := id h
  obtain ⟨r0, w, e1, e2, cw⟩ := T_quietest hQ
  simp only [hb1, hb2, hb3, hb4, if_true, eq_self, bn, e1, e2, ob, b2, j_L_law_1143, n_5]
  exact ⟨w1, w2, w3, w4, w5, w6, w7, w8, w, rfl, h.xcy cw.toy⟩
theorem law_26 (h : Rel w1 w2 w4 w6 w7 w8 w9) (hb1 : inb (nI i + 1) L = true) (hb2 : inb (nI i + 2) L = true) (hb3 : inb (nI i + 3) L = true) (hb4 : inb (nI i + 4) L = true) : Okk r i ((if inb ((nI i) + (1 : Int32)) L = true then (if inb ((nI i) + (2 : Int32)) L = true then (if (xs ((nI i) + (2 : Int32)).toNatClampNeg) = 0 then j_L_law_869 xs L r (nI i) (0 : Int32) (xs ((nI i) + (1 : Int32)).toNatClampNeg) w1 w2 w3 w4 w5 w6 w7 w8 w9 else j_L_law_869 xs L r (nI i) (1 : Int32) (xs ((nI i) + (1 : Int32)).toNatClampNeg) w1 w2 w3 w4 w5 w6 w7 w8 w9) else none) else none)) := by
  obtain ⟨n, T, c, hT, hQ, hW, hA, hM, hK⟩ := id h
  by_cases hz : (xs (nI i + 2).toNatClampNeg) = 0
  · obtain ⟨r0, w, e1, e2, cw⟩ := T_tables hQ (xs (nI i + 1).toNatClampNeg) 0 (xs (nI i + 3).toNatClampNeg)
    simp only [hb1, hb2, hb3, hb4, if_true, eq_self, bn, if_pos hz, j_L_law_869, j_L_law_896, e1, e2, b2, ob, lg_s, j_L_law_1143, n_5]
    exact ⟨w1, w2, w3, w4, w5, w6, w7, w8, w, rfl, h.xcy cw.toy⟩
  · obtain ⟨r0, w, e1, e2, cw⟩ := T_tables hQ (xs (nI i + 1).toNatClampNeg) 1 (xs (nI i + 3).toNatClampNeg)
    simp only [hb1, hb2, hb3, hb4, if_true, eq_self, bn, if_neg hz, j_L_law_869, j_L_law_896, e1, e2, b2, ob, lg_s, j_L_law_1143, n_5]
    exact ⟨w1, w2, w3, w4, w5, w6, w7, w8, w, rfl, h.xcy cw.toy⟩
theorem law_27 (h : Rel w1 w2 w4 w6 w7 w8 w9) (hb1 : inb (nI i + 1) L = true) (hb2 : inb (nI i + 2) L = true) (hb3 : inb (nI i + 3) L = true) (hb4 : inb (nI i + 4) L = true) : Okk r i ((if inb ((nI i) + (1 : Int32)) L = true then (if inb ((nI i) + (2 : Int32)) L = true then (if (xs ((nI i) + (2 : Int32)).toNatClampNeg) = 0 then j_L_law_928 xs L r (nI i) (0 : Int32) (xs ((nI i) + (1 : Int32)).toNatClampNeg) w1 w2 w3 w4 w5 w6 w7 w8 w9 else j_L_law_928 xs L r (nI i) (1 : Int32) (xs ((nI i) + (1 : Int32)).toNatClampNeg) w1 w2 w3 w4 w5 w6 w7 w8 w9) else none) else none)) := by
  obtain ⟨n, T, c, hT, hQ, hW, hA, hM, hK⟩ := id h
  by_cases hz : (xs (nI i + 2).toNatClampNeg) = 0
  · obtain ⟨r0, w, e1, e2, cw⟩ := T_tableAt hQ (xs (nI i + 1).toNatClampNeg) 0 (xs (nI i + 3).toNatClampNeg) (xs (nI i + 4).toNatClampNeg)
    simp only [hb1, hb2, hb3, hb4, if_true, eq_self, bn, if_pos hz, j_L_law_928, j_L_law_960, e1, e2, b2, ob, lg_s, j_L_law_1143, n_5]
    exact ⟨w1, w2, w3, w4, w5, w6, w7, w8, w, rfl, h.xcy cw.toy⟩
  · obtain ⟨r0, w, e1, e2, cw⟩ := T_tableAt hQ (xs (nI i + 1).toNatClampNeg) 1 (xs (nI i + 3).toNatClampNeg) (xs (nI i + 4).toNatClampNeg)
    simp only [hb1, hb2, hb3, hb4, if_true, eq_self, bn, if_neg hz, j_L_law_928, j_L_law_960, e1, e2, b2, ob, lg_s, j_L_law_1143, n_5]
    exact ⟨w1, w2, w3, w4, w5, w6, w7, w8, w, rfl, h.xcy cw.toy⟩
theorem law_28 (h : Rel w1 w2 w4 w6 w7 w8 w9) (hb1 : inb (nI i + 1) L = true) (hb2 : inb (nI i + 2) L = true) (hb3 : inb (nI i + 3) L = true) (hb4 : inb (nI i + 4) L = true) : Okk r i ((if inb ((nI i) + (1 : Int32)) L = true then (if inb ((nI i) + (2 : Int32)) L = true then (if inb ((nI i) + (3 : Int32)) L = true then (if (xs ((nI i) + (3 : Int32)).toNatClampNeg) = 0 then j_L_law_1002 xs L r (nI i) (0 : Int32) (xs ((nI i) + (2 : Int32)).toNatClampNeg) (xs ((nI i) + (1 : Int32)).toNatClampNeg) w1 w2 w3 w4 w5 w6 w7 w8 w9 else j_L_law_1002 xs L r (nI i) (1 : Int32) (xs ((nI i) + (2 : Int32)).toNatClampNeg) (xs ((nI i) + (1 : Int32)).toNatClampNeg) w1 w2 w3 w4 w5 w6 w7 w8 w9) else none) else none) else none)) := by
  obtain ⟨n, T, c, hT, hQ, hW, hA, hM, hK⟩ := id h
  by_cases hz : (xs (nI i + 3).toNatClampNeg) = 0
  · obtain ⟨r0, z2, w, e1, e2, cw⟩ := T_chance hQ w3 (xs (nI i + 1).toNatClampNeg) (xs (nI i + 2).toNatClampNeg) 0
    simp only [hb1, hb2, hb3, hb4, if_true, eq_self, bn, if_pos hz, j_L_law_1002, j_L_law_1029, e1, e2, b2, ob, lg_s, j_L_law_1143, n_5]
    exact ⟨w1, w2, z2, w4, w5, w6, w7, w8, w, rfl, h.xcy cw.toy⟩
  · obtain ⟨r0, z2, w, e1, e2, cw⟩ := T_chance hQ w3 (xs (nI i + 1).toNatClampNeg) (xs (nI i + 2).toNatClampNeg) 1
    simp only [hb1, hb2, hb3, hb4, if_true, eq_self, bn, if_neg hz, j_L_law_1002, j_L_law_1029, e1, e2, b2, ob, lg_s, j_L_law_1143, n_5]
    exact ⟨w1, w2, z2, w4, w5, w6, w7, w8, w, rfl, h.xcy cw.toy⟩
theorem law_29 (h : Rel w1 w2 w4 w6 w7 w8 w9) (hb1 : inb (nI i + 1) L = true) (hb2 : inb (nI i + 2) L = true) (hb3 : inb (nI i + 3) L = true) (hb4 : inb (nI i + 4) L = true) : Okk r i ((if inb ((nI i) + (1 : Int32)) L = true then (if inb ((nI i) + (2 : Int32)) L = true then bd2 (f_X6_meter w7 (xs ((nI i) + (1 : Int32)).toNatClampNeg) (xs ((nI i) + (2 : Int32)).toNatClampNeg)) (fun v123 g124 => (if inb ((nI i) + (1 : Int32)) L = true then (if inb ((nI i) + (2 : Int32)) L = true then bd2 (f_X7_meter w9 (xs ((nI i) + (1 : Int32)).toNatClampNeg) (xs ((nI i) + (2 : Int32)).toNatClampNeg)) (fun v125 g126 => (if v123 = v125 then j_L_law_1143 xs L r (nI i) w1 w2 w3 w4 w5 w6 g124 w8 g126 else some (0 : Int32))) else none) else none)) else none) else none)) := by
  obtain ⟨n, T, c, hT, hQ, hW, hA, hM, hK⟩ := id h
  obtain ⟨r0, z6, w, e1, e2, cw, hM2⟩ := T_meter hM (xs (nI i + 1).toNatClampNeg) (xs (nI i + 2).toNatClampNeg)
  simp only [hb1, hb2, hb3, hb4, if_true, eq_self, bn, e1, e2, b2, j_L_law_1143, n_5]
  exact ⟨w1, w2, w3, w4, w5, w6, z6, w8, w, rfl, h.xcM cw hM2⟩
theorem law_30 (h : Rel w1 w2 w4 w6 w7 w8 w9) (hb1 : inb (nI i + 1) L = true) (hb2 : inb (nI i + 2) L = true) (hb3 : inb (nI i + 3) L = true) (hb4 : inb (nI i + 4) L = true) : Okk r i (bd2 (f_X6_unmeter w7) (fun v127 g128 => bd2 (f_X7_unmeter w9) (fun v129 g130 => (if v127 = v129 then j_L_law_1143 xs L r (nI i) w1 w2 w3 w4 w5 w6 g128 w8 g130 else some (0 : Int32))))) := by
  obtain ⟨n, T, c, hT, hQ, hW, hA, hM, hK⟩ := id h
  obtain ⟨r0, z6, w, e1, e2, cw, hM2⟩ := T_unmeter hM
  simp only [hb1, hb2, hb3, hb4, if_true, eq_self, bn, e1, e2, b2, j_L_law_1143, n_5]
  exact ⟨w1, w2, w3, w4, w5, w6, z6, w8, w, rfl, h.xcM cw hM2⟩
theorem law_31 (h : Rel w1 w2 w4 w6 w7 w8 w9) (hb1 : inb (nI i + 1) L = true) (hb2 : inb (nI i + 2) L = true) (hb3 : inb (nI i + 3) L = true) (hb4 : inb (nI i + 4) L = true) : Okk r i (bd2 (f_X6_came w2 w3 w7) (fun v131 g132 => bd2 (f_X7_came w9) (fun v133 g134 => (if v131 = v133 then j_L_law_1143 xs L r (nI i) w1 w2 g132 w4 w5 w6 w7 w8 g134 else some (0 : Int32))))) := by
  obtain ⟨n, T, c, hT, hQ, hW, hA, hM, hK⟩ := id h
  obtain ⟨r0, z2, w, e1, e2, cw⟩ := T_came hQ hM w3
  simp only [hb1, hb2, hb3, hb4, if_true, eq_self, bn, e1, e2, ob, b2, j_L_law_1143, n_5]
  exact ⟨w1, w2, z2, w4, w5, w6, w7, w8, w, rfl, h.xcy cw.toy⟩
theorem law_32 (h : Rel w1 w2 w4 w6 w7 w8 w9) (hb1 : inb (nI i + 1) L = true) (hb2 : inb (nI i + 2) L = true) (hb3 : inb (nI i + 3) L = true) (hb4 : inb (nI i + 4) L = true) : Okk r i ((if inb ((nI i) + (1 : Int32)) L = true then bd2 (f_X6_keep w2 w8 (xs ((nI i) + (1 : Int32)).toNatClampNeg)) (fun v135 g136 => (if inb ((nI i) + (1 : Int32)) L = true then bd2 (f_X7_keep w9 (xs ((nI i) + (1 : Int32)).toNatClampNeg)) (fun v137 g138 => (if v135 = v137 then j_L_law_1143 xs L r (nI i) w1 w2 w3 w4 w5 w6 w7 g136 g138 else some (0 : Int32))) else none)) else none)) := by
  obtain ⟨n, T, c, hT, hQ, hW, hA, hM, hK⟩ := id h
  obtain ⟨r0, z7, w, e1, e2, hK2, cw⟩ := T_keep hQ hK (xs (nI i + 1).toNatClampNeg)
  simp only [hb1, hb2, hb3, hb4, if_true, eq_self, bn, e1, e2, b2, j_L_law_1143, n_5]
  exact ⟨w1, w2, w3, w4, w5, w6, w7, z7, w, rfl, n, T, c, hT.c (cw.1 2 (by decide) (by decide)) (cw.2 1 (by decide) (by decide)), ⟨hQ.1, hQ.2.1, cw.rN hQ.2.2.1 (by decide) (by decide), hQ.2.2.2⟩, hW.c (cw.1 13 (by decide) (by decide)) (cw.2 14 (by decide) (by decide)) (cw.2 15 (by decide) (by decide)), hA.c (cw.1 23 (by decide) (by decide)) (cw.2 22 (by decide) (by decide)), hM.c (cw.1 26 (by decide) (by decide)) (cw.2 27 (by decide) (by decide)) (cw.2 28 (by decide) (by decide)), hK2⟩
theorem law_33 (h : Rel w1 w2 w4 w6 w7 w8 w9) (hb1 : inb (nI i + 1) L = true) (hb2 : inb (nI i + 2) L = true) (hb3 : inb (nI i + 3) L = true) (hb4 : inb (nI i + 4) L = true) : Okk r i ((if inb ((nI i) + (1 : Int32)) L = true then bd3 (f_X6_again w2 w6 w8 (xs ((nI i) + (1 : Int32)).toNatClampNeg)) (fun v139 g140 g141 => (if inb ((nI i) + (1 : Int32)) L = true then bd2 (f_X7_again w9 (xs ((nI i) + (1 : Int32)).toNatClampNeg)) (fun v142 g143 => (if v139 = v142 then j_L_law_1143 xs L r (nI i) w1 g140 w3 w4 w5 g141 w7 w8 g143 else some (0 : Int32))) else none)) else none)) := by
  obtain ⟨n, T, c, hT, hQ, hW, hA, hM, hK⟩ := id h
  obtain ⟨r0, z1, z5, w, c2, e1, e2, hQ2, hA2, cw⟩ := T_again hQ hA hK (xs (nI i + 1).toNatClampNeg)
  simp only [hb1, hb2, hb3, hb4, if_true, eq_self, bn, e1, e2, b2, b3, j_L_law_1143, n_5]
  exact ⟨w1, z1, w3, w4, w5, z5, w7, w8, w, rfl, h.xcf hQ2 hA2 cw⟩
theorem law_step (h : Rel w1 w2 w4 w6 w7 w8 w9) (hb0 : inb (nI i) L = true) (hb1 : inb (nI i + 1) L = true) (hb2 : inb (nI i + 2) L = true) (hb3 : inb (nI i + 3) L = true) (hb4 : inb (nI i + 4) L = true) (hend : ¬ (Int32.ofNat L) - (5 : Int32) < nI i) : Okk r i (b_L_law_18 xs L r (nI i) w1 w2 w3 w4 w5 w6 w7 w8 w9) := by
  unfold b_L_law_18
  rw [if_neg hend, if_pos hb0]
  refine okI (fun _ => law_0 h hb1 hb2 hb3 hb4) (fun _ => ?_)
  refine okI (fun _ => law_1 h hb1 hb2 hb3 hb4) (fun _ => ?_)
  refine okI (fun _ => law_2 h hb1 hb2 hb3 hb4) (fun _ => ?_)
  refine okI (fun _ => law_3 h hb1 hb2 hb3 hb4) (fun _ => ?_)
  refine okI (fun _ => law_4 h hb1 hb2 hb3 hb4) (fun _ => ?_)
  refine okI (fun _ => law_5 h hb1 hb2 hb3 hb4) (fun _ => ?_)
  refine okI (fun _ => law_6 h hb1 hb2 hb3 hb4) (fun _ => ?_)
  refine okI (fun _ => law_7 h hb1 hb2 hb3 hb4) (fun _ => ?_)
  refine okI (fun _ => law_8 h hb1 hb2 hb3 hb4) (fun _ => ?_)
  refine okI (fun _ => law_9 h hb1 hb2 hb3 hb4) (fun _ => ?_)
  refine okI (fun _ => law_10 h hb1 hb2 hb3 hb4) (fun _ => ?_)
  refine okI (fun _ => law_11 h hb1 hb2 hb3 hb4) (fun _ => ?_)
  refine okI (fun _ => law_12 h hb1 hb2 hb3 hb4) (fun _ => ?_)
  refine okI (fun _ => law_13 h hb1 hb2 hb3 hb4) (fun _ => ?_)
  refine okI (fun _ => law_14 h hb1 hb2 hb3 hb4) (fun _ => ?_)
  refine okI (fun _ => law_15 h hb1 hb2 hb3 hb4) (fun _ => ?_)
  refine okI (fun _ => law_16 h hb1 hb2 hb3 hb4) (fun _ => ?_)
  refine okI (fun _ => law_17 h hb1 hb2 hb3 hb4) (fun _ => ?_)
  refine okI (fun _ => law_18 h hb1 hb2 hb3 hb4) (fun _ => ?_)
  refine okI (fun _ => law_19 h hb1 hb2 hb3 hb4) (fun _ => ?_)
  refine okI (fun _ => law_20 h hb1 hb2 hb3 hb4) (fun _ => ?_)
  refine okI (fun _ => law_21 h hb1 hb2 hb3 hb4) (fun _ => ?_)
  refine okI (fun _ => law_22 h hb1 hb2 hb3 hb4) (fun _ => ?_)
  refine okI (fun _ => law_23 h hb1 hb2 hb3 hb4) (fun _ => ?_)
  refine okI (fun _ => law_24 h hb1 hb2 hb3 hb4) (fun _ => ?_)
  refine okI (fun _ => law_25 h hb1 hb2 hb3 hb4) (fun _ => ?_)
  refine okI (fun _ => law_26 h hb1 hb2 hb3 hb4) (fun _ => ?_)
  refine okI (fun _ => law_27 h hb1 hb2 hb3 hb4) (fun _ => ?_)
  refine okI (fun _ => law_28 h hb1 hb2 hb3 hb4) (fun _ => ?_)
  refine okI (fun _ => law_29 h hb1 hb2 hb3 hb4) (fun _ => ?_)
  refine okI (fun _ => law_30 h hb1 hb2 hb3 hb4) (fun _ => ?_)
  refine okI (fun _ => law_31 h hb1 hb2 hb3 hb4) (fun _ => ?_)
  refine okI (fun _ => law_32 h hb1 hb2 hb3 hb4) (fun _ => ?_)
  refine okI (fun _ => law_33 h hb1 hb2 hb3 hb4) (fun _ => ?_)
  exact ⟨w1, w2, w3, w4, w5, w6, w7, w8, w9, by unfold j_L_law_1143; rw [bn, n_5], h⟩
theorem law_runs (hL : L ≤ 2560) : ∀ (d n i : Nat) (w1 w2 w3 w4 w5 : Ob) (w6 : AS) (w7 : Ob) (w8 : AS) (w9 : Ob), L + 5 - i ≤ d → d < n → i ≤ L → Rel w1 w2 w4 w6 w7 w8 w9 → fuel10 (b_L_law_18 xs L) n (nI i) w1 w2 w3 w4 w5 w6 w7 w8 w9 = some 1 := by
    intro d
    induction d using Nat.strongRecOn with
    | ind d ih =>
    intro n i w1 w2 w3 w4 w5 w6 w7 w8 w9 hd hn hi h
    obtain ⟨n, rfl⟩ : ∃ q, n = q + 1 := ⟨n - 1, by omega⟩
    show b_L_law_18 xs L (fuel10 (b_L_law_18 xs L) n) (nI i) w1 w2 w3 w4 w5 w6 w7 w8 w9 = some 1
    have eL : (Int32.ofNat L - (5 : Int32)).toInt = (L : Int) - 5 := by
      rw [show Int32.ofNat L = nI L from rfl, show (5 : Int32) = nI 5 from rfl, pk_sub_toInt (by omega) (by decide)]
      rfl
    by_cases q : (Int32.ofNat L) - (5 : Int32) < nI i
    · unfold b_L_law_18
      rw [if_pos q]
    · have hi5 : i + 5 ≤ L := by
        rw [Int32.lt_iff_toInt_lt, eL, nI_toInt (by omega)] at q
        omega
      have hb : ∀ k, k < 5 → inb (nI (i + k)) L = true := fun k hk => inb_nI (by omega) (by omega)
      have h1 : inb (nI i + 1) L = true := by rw [nI_1]; exact hb 1 (by decide)
      have h2 : inb (nI i + 2) L = true := by rw [show (2 : Int32) = nI 2 from rfl, nI_add]; exact hb 2 (by decide)
      have h3 : inb (nI i + 3) L = true := by rw [show (3 : Int32) = nI 3 from rfl, nI_add]; exact hb 3 (by decide)
      have h4 : inb (nI i + 4) L = true := by rw [show (4 : Int32) = nI 4 from rfl, nI_add]; exact hb 4 (by decide)
      obtain ⟨v1, v2, v3, v4, v5, v6, v7, v8, v9, e, hv⟩ := law_step (xs := xs) (i := i) (r := fuel10 (b_L_law_18 xs L) n) (w3 := w3) (w5 := w5) h (show inb (nI i) L = true from hb 0 (by decide)) h1 h2 h3 h4 q
      rw [e]
      obtain ⟨d, rfl⟩ : ∃ q, d = q + 1 := ⟨d - 1, by omega⟩
      exact ih d (by omega) n (i + 5) v1 v2 v3 v4 v5 v6 v7 v8 v9 (by omega) (by omega) hi5 hv
def c00 : Cr := ((0, fun _ => true), (fun _ => 0, fun _ _ => 0))
theorem c00_ok : cOK c00 := ⟨Nat.zero_le _, fun i hi => absurd hi (Nat.not_lt_zero _), ⟨0, by decide, rfl⟩, ⟨0, by decide, rfl⟩, Or.inl rfl⟩
theorem Rel_0 (cs5 cs7 : Nat → CB) : Rel zT zN zN (0, cs5) zN (0, cs7) zN := by
  have no : ∀ {P : Nat → Prop} (i : Nat), i < 0 → P i := fun i hi => absurd hi (Nat.not_lt_zero _)
  refine ⟨0, fun _ => 0, c00, ⟨by decide, rfl, rfl, no⟩, ⟨⟨rfl, by decide, fun k _ => no, rfl, rfl, rfl, no⟩, rfl, ⟨rfl, by decide, no, rfl, rfl, rfl, fun _ => rfl⟩, c00_ok⟩, ⟨0, by decide, rfl, rfl, no⟩, ⟨0, by decide, rfl, rfl, fun _ => c00, no⟩, ⟨0, by decide, rfl, rfl, no⟩, ⟨0, by decide, rfl, fun s hs => ?_⟩⟩
  rw [Nat.zero_testBit]
  exact ⟨rfl, fun x => by cases x⟩
theorem law_true (xs : Nat → Int32) {L : Nat} (hL : L ≤ 2560) (cs5 cs7 : Nat → CB) : f_L_law xs L zT zN zN zN zN (0, cs5) zN (0, cs7) zN = some 1 := by
  unfold f_L_law
  exact law_runs (xs := xs) hL (L + 5) FU 0 zT zN zN zN zN (0, cs5) zN (0, cs7) zN (by omega) (by unfold FU; omega) (Nat.zero_le _) (Rel_0 cs5 cs7)
