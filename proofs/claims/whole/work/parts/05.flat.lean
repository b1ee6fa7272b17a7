def b_X1_copyRings_10 (z1 : Ob) (r_10 : Int32 → Ob → Option (Ob)) (y2 : Int32) (w0 : Ob) : Option (Ob) := (if (w0.1 6) ≤ y2 then bnd (sI w0 8 (z1.1 8)) (fun g2 => bnd (sI g2 11 (0 : Int32)) (fun g3 => some g3)) else (if inb y2 8 = true then (if inb y2 8 = true then bnd (sA w0 0 (upd (w0.2 0) y2.toNatClampNeg (z1.2 0 y2.toNatClampNeg))) (fun g4 => (if inb y2 8 = true then (if inb y2 8 = true then bnd (sA g4 1 (upd (g4.2 1) y2.toNatClampNeg (z1.2 1 y2.toNatClampNeg))) (fun g5 => (if inb y2 8 = true then (if inb y2 8 = true then bnd (sA g5 2 (upd (g5.2 2) y2.toNatClampNeg (z1.2 2 y2.toNatClampNeg))) (fun g6 => (if inb y2 8 = true then (if inb y2 8 = true then bnd (sA g6 3 (upd (g6.2 3) y2.toNatClampNeg (z1.2 3 y2.toNatClampNeg))) (fun g7 => (if inb y2 8 = true then (if inb y2 8 = true then bnd (sA g7 4 (upd (g7.2 4) y2.toNatClampNeg (z1.2 4 y2.toNatClampNeg))) (fun g8 => bnd (y2 + (1 : Int32)) (fun x9 => r_10 x9 g8)) else none) else none)) else none) else none)) else none) else none)) else none) else none)) else none) else none))
def f_X1_copyRings (z0 : Ob) (z1 : Ob) : Option (Ob) := bnd (sI z0 6 (z1.1 6)) (fun g1 => fuel2 (b_X1_copyRings_10 z1) FU (0 : Int32) g1)
abbrev rm_X1_copyRings : Room := { frames := 0, cells := 0, slots := 0, locals := 0 }
theorem hd_X1_copyRings : yX1_copyRings.cls ≠ "java/lang/invoke/MethodHandle" ∧ yX1_copyRings.cls ≠ "java/lang/invoke/VarHandle" ∧ (parseMethodDescriptor yX1_copyRings.desc).map (fun d => d.parameters.length) = some 1 := by decide +kernel
theorem in_X1_copyRings_X1 : ∀ w ∈ wsX10, w ∈ wsX1_copyRings := fun w h => List.mem_cons_of_mem _ (List.mem_append_right _ h)
set_option maxHeartbeats 4000000 in
set_option maxRecDepth 100000 in
theorem c_X1_copyRings (l : Launch) (D : va_G) (ty : TY) (h0 : Nat) (a0 : Nat → Nat) (h1 : Nat) (a1 : Nat → Nat) (z0 : Ob) (z1 : Ob) (o0 : Ob) (hf : f_X1_copyRings z0 z1 = some o0) (sz : Nat) : CX l yX1_copyRings wsX1_copyRings rm_X1_copyRings ([.ref h0, .ref h1] : List Value) D ty (fl [oX1 ty h0 a0 z0, oX1 ty h1 a1 z1]) sz (qV D (fl [oX1 ty h0 a0 o0, oX1 ty h1 a1 z1])) 0 0 := by
  refine CX_of (cc := cX1_copyRings) (maxL := 3) (ret := none) (C := RX1) (by decide) rfl rfl (Nat.le_of_ble_eq_true rfl) ?_
  intro p e s m below meth c A ls F hr hlk _ hK hP hD hS hA hl
  have hx := F.1
  have hb := F.2.1
  replace hl : lv_has ls 3 [(0, .ref h0), (1, .ref h1)] := hl
  unfold f_X1_copyRings at hf
  refine lv_aload_n hx hb dX1_copyRings_0 rfl (lv_at hl 0 rfl) ?_
  refine lv_aload_n hx hb dX1_copyRings_1 rfl (lv_at hl 1 rfl) ?_
  refine va_get (D := D) (ci := 1) (C := RX1) (T := TX1) (N := 12) hx hb F.2.2.2.2 in_X1_copyRings_X1 F.2.2.2.1 hK.1 hP 7 rfl rfl 6 (Nat.le_of_ble_eq_true rfl) (F.2.2.2.2 (.fieldLink RX1 30 "LouderRoom$Crowd" "rings" "I") (List.mem_of_getElem? (i := 1) rfl)) (fun _ h9 => h9) rfl dX1_copyRings_2 ?_
  refine pt_put (D := D) (ci := 1) (fty := .int) (C := RX1) (T := TX1) (N := 12) (w1 := fl [oX1 ty h0 a0 (sI z0 6 (z1.1 6)), oX1 ty h1 a1 z1]) F in_X1_copyRings_X1 tyX1 tyX1_ok nmX1 hK.1 hP hD hS 0 rfl rfl 6 (Nat.le_of_ble_eq_true rfl) (F.2.2.2.2 (.fieldLink RX1 30 "LouderRoom$Crowd" "rings" "I") (List.mem_of_getElem? (i := 1) rfl)) (fun _ h9 => h9) rfl (by decide +kernel) rfl rfl (Nat.le_of_ble_eq_true rfl) rfl dX1_copyRings_5 (fun H locs hP hD hS => ?_)
  obtain ⟨g1, ex⟩ : ∃ y : Ob, y = (sI z0 6 (z1.1 6)) := ⟨_, rfl⟩
  replace hf := bnd_at hf ex; rw [← ex] at hP hD; clear ex
  refine lv_iconst (v := (0 : Int32)) hx hb dX1_copyRings_8 (by decide) ?_
  refine lv_istore_n (lv' := [(2, .int (0 : Int32)), (0, .ref h0), (1, .ref h1)]) hx hb dX1_copyRings_9 rfl hl (by decide) rfl (fun ls hl => ?_)
  have L_10 : ∀ (n : Nat) (y2 : Int32) (w0 : Ob) (H : Heap) (locs : List Loc) (ls : Array Slot), va_P D vwC (fl [oX1 ty h0 a0 w0, oX1 ty h1 a1 z1]) H → va_D A (fl [oX1 ty h0 a0 w0, oX1 ty h1 a1 z1]) → va_S A s.heap H locs → lv_has ls 3 [(0, .ref h0), (1, .ref h1), (2, .int y2)] → fuel2 (b_X1_copyRings_10 z1) n y2 w0 = some o0 → W p l e rm_X1_copyRings s m ([.ref h0, .ref h1] : List Value).toArray below meth c H locs 0 0 (MQ below (qV D (fl [oX1 ty h0 a0 o0, oX1 ty h1 a1 z1]) A) ([.ref h0, .ref h1] : List Value).toArray s 0 0 A) (F0 m 10 ls []) := by
    intro n
    induction n with
    | zero => intro y2 w0 H locs ls hP hD hS hl hf; cases hf
    | succ n ih_10 =>
      intro y2 w0 H locs ls hP hD hS hl hf
      replace hf : b_X1_copyRings_10 z1 (fuel2 (b_X1_copyRings_10 z1) n) y2 w0 = some o0 := hf
      generalize fuel2 (b_X1_copyRings_10 z1) n = r_10 at ih_10 hf
      unfold b_X1_copyRings_10 at hf
      refine lv_iload_n hx hb dX1_copyRings_10 rfl (lv_at hl 2 rfl) ?_
      refine lv_aload_n hx hb dX1_copyRings_11 rfl (lv_at hl 0 rfl) ?_
      refine va_get (D := D) (ci := 1) (C := RX1) (T := TX1) (N := 12) hx hb F.2.2.2.2 in_X1_copyRings_X1 F.2.2.2.1 hK.1 hP 0 rfl rfl 6 (Nat.le_of_ble_eq_true rfl) (F.2.2.2.2 (.fieldLink RX1 30 "LouderRoom$Crowd" "rings" "I") (List.mem_of_getElem? (i := 1) rfl)) (fun _ h9 => h9) rfl dX1_copyRings_12 ?_
      refine lv_icmp_ge (tgt := 84) hx hb dX1_copyRings_15 (by decide) (fun hc => ?_) (fun hc => ?_)
      · replace hf := ite_t hf hc
        refine lv_aload_n hx hb dX1_copyRings_84 rfl (lv_at hl 0 rfl) ?_
        refine lv_aload_n hx hb dX1_copyRings_85 rfl (lv_at hl 1 rfl) ?_
        refine va_get (D := D) (ci := 1) (C := RX1) (T := TX1) (N := 12) hx hb F.2.2.2.2 in_X1_copyRings_X1 F.2.2.2.1 hK.1 hP 7 rfl rfl 8 (Nat.le_of_ble_eq_true rfl) (F.2.2.2.2 (.fieldLink RX1 37 "LouderRoom$Crowd" "music" "I") (List.mem_of_getElem? (i := 7) rfl)) (fun _ h9 => h9) rfl dX1_copyRings_86 ?_
        refine pt_put (D := D) (ci := 1) (fty := .int) (C := RX1) (T := TX1) (N := 12) (w1 := fl [oX1 ty h0 a0 (sI w0 8 (z1.1 8)), oX1 ty h1 a1 z1]) F in_X1_copyRings_X1 tyX1 tyX1_ok nmX1 hK.1 hP hD hS 0 rfl rfl 8 (Nat.le_of_ble_eq_true rfl) (F.2.2.2.2 (.fieldLink RX1 37 "LouderRoom$Crowd" "music" "I") (List.mem_of_getElem? (i := 7) rfl)) (fun _ h9 => h9) rfl (by decide +kernel) rfl rfl (Nat.le_of_ble_eq_true rfl) rfl dX1_copyRings_89 (fun H locs hP hD hS => ?_)
        obtain ⟨g2, ex⟩ : ∃ y : Ob, y = (sI w0 8 (z1.1 8)) := ⟨_, rfl⟩
        replace hf := bnd_at hf ex; rw [← ex] at hP hD; clear ex
        refine lv_aload_n hx hb dX1_copyRings_92 rfl (lv_at hl 0 rfl) ?_
        refine lv_iconst (v := (0 : Int32)) hx hb dX1_copyRings_93 (by decide) ?_
        refine pt_put (D := D) (ci := 1) (fty := .int) (C := RX1) (T := TX1) (N := 12) (w1 := fl [oX1 ty h0 a0 (sI g2 11 (0 : Int32)), oX1 ty h1 a1 z1]) F in_X1_copyRings_X1 tyX1 tyX1_ok nmX1 hK.1 hP hD hS 0 rfl rfl 11 (Nat.le_of_ble_eq_true rfl) (F.2.2.2.2 (.fieldLink RX1 44 "LouderRoom$Crowd" "silent" "I") (List.mem_of_getElem? (i := 8) rfl)) (fun _ h9 => h9) rfl (by decide +kernel) rfl rfl (Nat.le_of_ble_eq_true rfl) rfl dX1_copyRings_94 (fun H locs hP hD hS => ?_)
        obtain ⟨g3, ex⟩ : ∃ y : Ob, y = (sI g2 11 (0 : Int32)) := ⟨_, rfl⟩
        replace hf := bnd_at hf ex; rw [← ex] at hP hD; clear ex
        obtain hf := hf
        have e0 := Option.some.inj hf
        rw [e0] at hP hD
        exact CX_v F hr hlk hP hD hS dX1_copyRings_97
      · replace hf := ite_f hf hc
        refine lv_aload_n hx hb dX1_copyRings_18 rfl (lv_at hl 0 rfl) ?_
        refine va_get (D := D) (ci := 1) (C := RX1) (T := TX1) (N := 12) hx hb F.2.2.2.2 in_X1_copyRings_X1 F.2.2.2.1 hK.1 hP 0 rfl rfl 0 (Nat.le_of_ble_eq_true rfl) (F.2.2.2.2 (.fieldLink RX1 9 "LouderRoom$Crowd" "kind" "[I") (List.mem_of_getElem? (i := 2) rfl)) (fun _ h9 => h9) rfl dX1_copyRings_19 ?_
        refine lv_iload_n hx hb dX1_copyRings_22 rfl (lv_at hl 2 rfl) ?_
        refine lv_aload_n hx hb dX1_copyRings_23 rfl (lv_at hl 1 rfl) ?_
        refine va_get (D := D) (ci := 1) (C := RX1) (T := TX1) (N := 12) hx hb F.2.2.2.2 in_X1_copyRings_X1 F.2.2.2.1 hK.1 hP 7 rfl rfl 0 (Nat.le_of_ble_eq_true rfl) (F.2.2.2.2 (.fieldLink RX1 9 "LouderRoom$Crowd" "kind" "[I") (List.mem_of_getElem? (i := 2) rfl)) (fun _ h9 => h9) rfl dX1_copyRings_24 ?_
        refine lv_iload_n hx hb dX1_copyRings_27 rfl (lv_at hl 2 rfl) ?_
        obtain ⟨hi, hf⟩ := grd hf
        refine va_iald hx hb hK.1 hP 8 0 rfl rfl (inb_in hi) dX1_copyRings_28 ?_
        obtain ⟨hi, hf⟩ := grd hf
        refine pt_iast (w1 := fl [oX1 ty h0 a0 (sA w0 0 (upd (w0.2 0) y2.toNatClampNeg (z1.2 0 y2.toNatClampNeg))), oX1 ty h1 a1 z1]) F hK.1 hP hD hS 1 0 rfl rfl (inb_in hi) rfl dX1_copyRings_29 (fun H locs hP hD hS => ?_)
        obtain ⟨g4, ex⟩ : ∃ y : Ob, y = (sA w0 0 (upd (w0.2 0) y2.toNatClampNeg (z1.2 0 y2.toNatClampNeg))) := ⟨_, rfl⟩
        replace hf := bnd_at hf ex; rw [← ex] at hP hD; clear ex
        refine lv_aload_n hx hb dX1_copyRings_30 rfl (lv_at hl 0 rfl) ?_
        refine va_get (D := D) (ci := 1) (C := RX1) (T := TX1) (N := 12) hx hb F.2.2.2.2 in_X1_copyRings_X1 F.2.2.2.1 hK.1 hP 0 rfl rfl 1 (Nat.le_of_ble_eq_true rfl) (F.2.2.2.2 (.fieldLink RX1 15 "LouderRoom$Crowd" "cell" "[I") (List.mem_of_getElem? (i := 3) rfl)) (fun _ h9 => h9) rfl dX1_copyRings_31 ?_
        refine lv_iload_n hx hb dX1_copyRings_34 rfl (lv_at hl 2 rfl) ?_
        refine lv_aload_n hx hb dX1_copyRings_35 rfl (lv_at hl 1 rfl) ?_
        refine va_get (D := D) (ci := 1) (C := RX1) (T := TX1) (N := 12) hx hb F.2.2.2.2 in_X1_copyRings_X1 F.2.2.2.1 hK.1 hP 7 rfl rfl 1 (Nat.le_of_ble_eq_true rfl) (F.2.2.2.2 (.fieldLink RX1 15 "LouderRoom$Crowd" "cell" "[I") (List.mem_of_getElem? (i := 3) rfl)) (fun _ h9 => h9) rfl dX1_copyRings_36 ?_
        refine lv_iload_n hx hb dX1_copyRings_39 rfl (lv_at hl 2 rfl) ?_
        obtain ⟨hi, hf⟩ := grd hf
        refine va_iald hx hb hK.1 hP 9 0 rfl rfl (inb_in hi) dX1_copyRings_40 ?_
        obtain ⟨hi, hf⟩ := grd hf
        refine pt_iast (w1 := fl [oX1 ty h0 a0 (sA g4 1 (upd (g4.2 1) y2.toNatClampNeg (z1.2 1 y2.toNatClampNeg))), oX1 ty h1 a1 z1]) F hK.1 hP hD hS 2 0 rfl rfl (inb_in hi) rfl dX1_copyRings_41 (fun H locs hP hD hS => ?_)
        obtain ⟨g5, ex⟩ : ∃ y : Ob, y = (sA g4 1 (upd (g4.2 1) y2.toNatClampNeg (z1.2 1 y2.toNatClampNeg))) := ⟨_, rfl⟩
        replace hf := bnd_at hf ex; rw [← ex] at hP hD; clear ex
        refine lv_aload_n hx hb dX1_copyRings_42 rfl (lv_at hl 0 rfl) ?_
        refine va_get (D := D) (ci := 1) (C := RX1) (T := TX1) (N := 12) hx hb F.2.2.2.2 in_X1_copyRings_X1 F.2.2.2.1 hK.1 hP 0 rfl rfl 2 (Nat.le_of_ble_eq_true rfl) (F.2.2.2.2 (.fieldLink RX1 18 "LouderRoom$Crowd" "people" "[I") (List.mem_of_getElem? (i := 4) rfl)) (fun _ h9 => h9) rfl dX1_copyRings_43 ?_
        refine lv_iload_n hx hb dX1_copyRings_46 rfl (lv_at hl 2 rfl) ?_
        refine lv_aload_n hx hb dX1_copyRings_47 rfl (lv_at hl 1 rfl) ?_
        refine va_get (D := D) (ci := 1) (C := RX1) (T := TX1) (N := 12) hx hb F.2.2.2.2 in_X1_copyRings_X1 F.2.2.2.1 hK.1 hP 7 rfl rfl 2 (Nat.le_of_ble_eq_true rfl) (F.2.2.2.2 (.fieldLink RX1 18 "LouderRoom$Crowd" "people" "[I") (List.mem_of_getElem? (i := 4) rfl)) (fun _ h9 => h9) rfl dX1_copyRings_48 ?_
        refine lv_iload_n hx hb dX1_copyRings_51 rfl (lv_at hl 2 rfl) ?_
        obtain ⟨hi, hf⟩ := grd hf
        refine va_iald hx hb hK.1 hP 10 0 rfl rfl (inb_in hi) dX1_copyRings_52 ?_
        obtain ⟨hi, hf⟩ := grd hf
        refine pt_iast (w1 := fl [oX1 ty h0 a0 (sA g5 2 (upd (g5.2 2) y2.toNatClampNeg (z1.2 2 y2.toNatClampNeg))), oX1 ty h1 a1 z1]) F hK.1 hP hD hS 3 0 rfl rfl (inb_in hi) rfl dX1_copyRings_53 (fun H locs hP hD hS => ?_)
        obtain ⟨g6, ex⟩ : ∃ y : Ob, y = (sA g5 2 (upd (g5.2 2) y2.toNatClampNeg (z1.2 2 y2.toNatClampNeg))) := ⟨_, rfl⟩
        replace hf := bnd_at hf ex; rw [← ex] at hP hD; clear ex
        refine lv_aload_n hx hb dX1_copyRings_54 rfl (lv_at hl 0 rfl) ?_
        refine va_get (D := D) (ci := 1) (C := RX1) (T := TX1) (N := 12) hx hb F.2.2.2.2 in_X1_copyRings_X1 F.2.2.2.1 hK.1 hP 0 rfl rfl 3 (Nat.le_of_ble_eq_true rfl) (F.2.2.2.2 (.fieldLink RX1 21 "LouderRoom$Crowd" "voice" "[I") (List.mem_of_getElem? (i := 5) rfl)) (fun _ h9 => h9) rfl dX1_copyRings_55 ?_
        refine lv_iload_n hx hb dX1_copyRings_58 rfl (lv_at hl 2 rfl) ?_
        refine lv_aload_n hx hb dX1_copyRings_59 rfl (lv_at hl 1 rfl) ?_
        refine va_get (D := D) (ci := 1) (C := RX1) (T := TX1) (N := 12) hx hb F.2.2.2.2 in_X1_copyRings_X1 F.2.2.2.1 hK.1 hP 7 rfl rfl 3 (Nat.le_of_ble_eq_true rfl) (F.2.2.2.2 (.fieldLink RX1 21 "LouderRoom$Crowd" "voice" "[I") (List.mem_of_getElem? (i := 5) rfl)) (fun _ h9 => h9) rfl dX1_copyRings_60 ?_
        refine lv_iload_n hx hb dX1_copyRings_63 rfl (lv_at hl 2 rfl) ?_
        obtain ⟨hi, hf⟩ := grd hf
        refine va_iald hx hb hK.1 hP 11 0 rfl rfl (inb_in hi) dX1_copyRings_64 ?_
        obtain ⟨hi, hf⟩ := grd hf
        refine pt_iast (w1 := fl [oX1 ty h0 a0 (sA g6 3 (upd (g6.2 3) y2.toNatClampNeg (z1.2 3 y2.toNatClampNeg))), oX1 ty h1 a1 z1]) F hK.1 hP hD hS 4 0 rfl rfl (inb_in hi) rfl dX1_copyRings_65 (fun H locs hP hD hS => ?_)
        obtain ⟨g7, ex⟩ : ∃ y : Ob, y = (sA g6 3 (upd (g6.2 3) y2.toNatClampNeg (z1.2 3 y2.toNatClampNeg))) := ⟨_, rfl⟩
        replace hf := bnd_at hf ex; rw [← ex] at hP hD; clear ex
        refine lv_aload_n hx hb dX1_copyRings_66 rfl (lv_at hl 0 rfl) ?_
        refine va_get (D := D) (ci := 1) (C := RX1) (T := TX1) (N := 12) hx hb F.2.2.2.2 in_X1_copyRings_X1 F.2.2.2.1 hK.1 hP 0 rfl rfl 4 (Nat.le_of_ble_eq_true rfl) (F.2.2.2.2 (.fieldLink RX1 24 "LouderRoom$Crowd" "age" "[I") (List.mem_of_getElem? (i := 6) rfl)) (fun _ h9 => h9) rfl dX1_copyRings_67 ?_
        refine lv_iload_n hx hb dX1_copyRings_70 rfl (lv_at hl 2 rfl) ?_
        refine lv_aload_n hx hb dX1_copyRings_71 rfl (lv_at hl 1 rfl) ?_
        refine va_get (D := D) (ci := 1) (C := RX1) (T := TX1) (N := 12) hx hb F.2.2.2.2 in_X1_copyRings_X1 F.2.2.2.1 hK.1 hP 7 rfl rfl 4 (Nat.le_of_ble_eq_true rfl) (F.2.2.2.2 (.fieldLink RX1 24 "LouderRoom$Crowd" "age" "[I") (List.mem_of_getElem? (i := 6) rfl)) (fun _ h9 => h9) rfl dX1_copyRings_72 ?_
        refine lv_iload_n hx hb dX1_copyRings_75 rfl (lv_at hl 2 rfl) ?_
        obtain ⟨hi, hf⟩ := grd hf
        refine va_iald hx hb hK.1 hP 12 0 rfl rfl (inb_in hi) dX1_copyRings_76 ?_
        obtain ⟨hi, hf⟩ := grd hf
        refine pt_iast (w1 := fl [oX1 ty h0 a0 (sA g7 4 (upd (g7.2 4) y2.toNatClampNeg (z1.2 4 y2.toNatClampNeg))), oX1 ty h1 a1 z1]) F hK.1 hP hD hS 5 0 rfl rfl (inb_in hi) rfl dX1_copyRings_77 (fun H locs hP hD hS => ?_)
        obtain ⟨g8, ex⟩ : ∃ y : Ob, y = (sA g7 4 (upd (g7.2 4) y2.toNatClampNeg (z1.2 4 y2.toNatClampNeg))) := ⟨_, rfl⟩
        replace hf := bnd_at hf ex; rw [← ex] at hP hD; clear ex
        obtain ⟨x9, ex⟩ : ∃ y : Int32, y = (y2 + (1 : Int32)) := ⟨_, rfl⟩
        replace hf := bnd_at hf ex
        refine lv_iinc (v := x9) (lv' := [(2, .int x9), (0, .ref h0), (1, .ref h1)]) hx hb dX1_copyRings_78 hl (k := 2) rfl (by rw [ex]; rfl) (by decide) rfl (fun ls hl => ?_)
        clear ex
        refine lv_goto (tgt := 10) hx hb dX1_copyRings_81 (by decide) ?_
        exact ih_10 x9 g8 _ _ _ hP hD hS (lv_sub hl [1, 2, 0] rfl) hf
  exact L_10 FU (0 : Int32) g1 _ _ _ hP hD hS (lv_sub hl [1, 2, 0] rfl) hf
def f_X1_clear (z0 : Ob) : Option (Ob) := bnd (sI z0 6 (0 : Int32)) (fun g1 => bnd (sI g1 7 (0 : Int32)) (fun g2 => bnd (sI g2 8 (0 : Int32)) (fun g3 => bnd (sI g3 10 (0 : Int32)) (fun g4 => bnd (sI g4 11 (0 : Int32)) (fun g5 => some g5)))))
abbrev rm_X1_clear : Room := { frames := 0, cells := 0, slots := 0, locals := 0 }
theorem hd_X1_clear : yX1_clear.cls ≠ "java/lang/invoke/MethodHandle" ∧ yX1_clear.cls ≠ "java/lang/invoke/VarHandle" ∧ (parseMethodDescriptor yX1_clear.desc).map (fun d => d.parameters.length) = some 0 := by decide +kernel
theorem in_X1_clear_X1 : ∀ w ∈ wsX10, w ∈ wsX1_clear := fun w h => List.mem_cons_of_mem _ (List.mem_append_right _ h)
set_option maxHeartbeats 4000000 in
set_option maxRecDepth 100000 in
theorem c_X1_clear (l : Launch) (D : va_G) (ty : TY) (h0 : Nat) (a0 : Nat → Nat) (z0 : Ob) (o0 : Ob) (hf : f_X1_clear z0 = some o0) (sz : Nat) : CX l yX1_clear wsX1_clear rm_X1_clear ([.ref h0] : List Value) D ty (fl [oX1 ty h0 a0 z0]) sz (qV D (fl [oX1 ty h0 a0 o0])) 0 0 := by
  refine CX_of (cc := cX1_clear) (maxL := 1) (ret := none) (C := RX1) (by decide) rfl rfl (Nat.le_of_ble_eq_true rfl) ?_
  intro p e s m below meth c A ls F hr hlk _ hK hP hD hS hA hl
  have hx := F.1
  have hb := F.2.1
  replace hl : lv_has ls 1 [(0, .ref h0)] := hl
  unfold f_X1_clear at hf
  refine lv_aload_n hx hb dX1_clear_0 rfl (lv_at hl 0 rfl) ?_
  refine lv_iconst (v := (0 : Int32)) hx hb dX1_clear_1 (by decide) ?_
  refine pt_put (D := D) (ci := 1) (fty := .int) (C := RX1) (T := TX1) (N := 12) (w1 := fl [oX1 ty h0 a0 (sI z0 6 (0 : Int32))]) F in_X1_clear_X1 tyX1 tyX1_ok nmX1 hK.1 hP hD hS 0 rfl rfl 6 (Nat.le_of_ble_eq_true rfl) (F.2.2.2.2 (.fieldLink RX1 30 "LouderRoom$Crowd" "rings" "I") (List.mem_of_getElem? (i := 1) rfl)) (fun _ h9 => h9) rfl (by decide +kernel) rfl rfl (Nat.le_of_ble_eq_true rfl) rfl dX1_clear_2 (fun H locs hP hD hS => ?_)
  obtain ⟨g1, ex⟩ : ∃ y : Ob, y = (sI z0 6 (0 : Int32)) := ⟨_, rfl⟩
  replace hf := bnd_at hf ex; rw [← ex] at hP hD; clear ex
  refine lv_aload_n hx hb dX1_clear_5 rfl (lv_at hl 0 rfl) ?_
  refine lv_iconst (v := (0 : Int32)) hx hb dX1_clear_6 (by decide) ?_
  refine pt_put (D := D) (ci := 1) (fty := .int) (C := RX1) (T := TX1) (N := 12) (w1 := fl [oX1 ty h0 a0 (sI g1 7 (0 : Int32))]) F in_X1_clear_X1 tyX1 tyX1_ok nmX1 hK.1 hP hD hS 0 rfl rfl 7 (Nat.le_of_ble_eq_true rfl) (F.2.2.2.2 (.fieldLink RX1 34 "LouderRoom$Crowd" "eats" "I") (List.mem_of_getElem? (i := 2) rfl)) (fun _ h9 => h9) rfl (by decide +kernel) rfl rfl (Nat.le_of_ble_eq_true rfl) rfl dX1_clear_7 (fun H locs hP hD hS => ?_)
  obtain ⟨g2, ex⟩ : ∃ y : Ob, y = (sI g1 7 (0 : Int32)) := ⟨_, rfl⟩
  replace hf := bnd_at hf ex; rw [← ex] at hP hD; clear ex
  refine lv_aload_n hx hb dX1_clear_10 rfl (lv_at hl 0 rfl) ?_
  refine lv_iconst (v := (0 : Int32)) hx hb dX1_clear_11 (by decide) ?_
  refine pt_put (D := D) (ci := 1) (fty := .int) (C := RX1) (T := TX1) (N := 12) (w1 := fl [oX1 ty h0 a0 (sI g2 8 (0 : Int32))]) F in_X1_clear_X1 tyX1 tyX1_ok nmX1 hK.1 hP hD hS 0 rfl rfl 8 (Nat.le_of_ble_eq_true rfl) (F.2.2.2.2 (.fieldLink RX1 37 "LouderRoom$Crowd" "music" "I") (List.mem_of_getElem? (i := 3) rfl)) (fun _ h9 => h9) rfl (by decide +kernel) rfl rfl (Nat.le_of_ble_eq_true rfl) rfl dX1_clear_12 (fun H locs hP hD hS => ?_)
  obtain ⟨g3, ex⟩ : ∃ y : Ob, y = (sI g2 8 (0 : Int32)) := ⟨_, rfl⟩
  replace hf := bnd_at hf ex; rw [← ex] at hP hD; clear ex
  refine lv_aload_n hx hb dX1_clear_15 rfl (lv_at hl 0 rfl) ?_
  refine lv_iconst (v := (0 : Int32)) hx hb dX1_clear_16 (by decide) ?_
  refine pt_put (D := D) (ci := 1) (fty := .boolean) (C := RX1) (T := TX1) (N := 12) (w1 := fl [oX1 ty h0 a0 (sI g3 10 (0 : Int32))]) F in_X1_clear_X1 tyX1 tyX1_ok nmX1 hK.1 hP hD hS 0 rfl rfl 10 (Nat.le_of_ble_eq_true rfl) (F.2.2.2.2 (.fieldLink RX1 40 "LouderRoom$Crowd" "follows" "Z") (List.mem_of_getElem? (i := 4) rfl)) (fun _ h9 => h9) rfl (by decide +kernel) (by decide +kernel) (by decide +kernel) (Nat.le_of_ble_eq_true rfl) rfl dX1_clear_17 (fun H locs hP hD hS => ?_)
  obtain ⟨g4, ex⟩ : ∃ y : Ob, y = (sI g3 10 (0 : Int32)) := ⟨_, rfl⟩
  replace hf := bnd_at hf ex; rw [← ex] at hP hD; clear ex
  refine lv_aload_n hx hb dX1_clear_20 rfl (lv_at hl 0 rfl) ?_
  refine lv_iconst (v := (0 : Int32)) hx hb dX1_clear_21 (by decide) ?_
  refine pt_put (D := D) (ci := 1) (fty := .int) (C := RX1) (T := TX1) (N := 12) (w1 := fl [oX1 ty h0 a0 (sI g4 11 (0 : Int32))]) F in_X1_clear_X1 tyX1 tyX1_ok nmX1 hK.1 hP hD hS 0 rfl rfl 11 (Nat.le_of_ble_eq_true rfl) (F.2.2.2.2 (.fieldLink RX1 44 "LouderRoom$Crowd" "silent" "I") (List.mem_of_getElem? (i := 5) rfl)) (fun _ h9 => h9) rfl (by decide +kernel) rfl rfl (Nat.le_of_ble_eq_true rfl) rfl dX1_clear_22 (fun H locs hP hD hS => ?_)
  obtain ⟨g5, ex⟩ : ∃ y : Ob, y = (sI g4 11 (0 : Int32)) := ⟨_, rfl⟩
  replace hf := bnd_at hf ex; rw [← ex] at hP hD; clear ex
  obtain hf := hf
  have e0 := Option.some.inj hf
  rw [e0] at hP hD
  exact CX_v F hr hlk hP hD hS dX1_clear_25
def f_X1_copyFrom (z0 : Ob) (z1 : Ob) : Option (Ob) := (f_X1_copyRings z0 z1).bind (fun g1 => bnd (sI g1 7 (z1.1 7)) (fun g2 => (if isb (z1.1 10) = true then bnd (sI g2 10 (z1.1 10)) (fun g3 => some g3) else none)))
abbrev rm_X1_copyFrom : Room := { frames := 1, cells := 0, slots := 0, locals := 22 }
theorem hd_X1_copyFrom : yX1_copyFrom.cls ≠ "java/lang/invoke/MethodHandle" ∧ yX1_copyFrom.cls ≠ "java/lang/invoke/VarHandle" ∧ (parseMethodDescriptor yX1_copyFrom.desc).map (fun d => d.parameters.length) = some 1 := by decide +kernel
theorem in_X1_copyFrom_X1 : ∀ w ∈ wsX10, w ∈ wsX1_copyFrom := fun w h => List.mem_cons_of_mem _ (List.mem_append_right _ h)
set_option maxHeartbeats 4000000 in
set_option maxRecDepth 100000 in
theorem c_X1_copyFrom (l : Launch) (D : va_G) (ty : TY) (h0 : Nat) (a0 : Nat → Nat) (h1 : Nat) (a1 : Nat → Nat) (z0 : Ob) (z1 : Ob) (o0 : Ob) (hf : f_X1_copyFrom z0 z1 = some o0) (sz : Nat) : CX l yX1_copyFrom wsX1_copyFrom rm_X1_copyFrom ([.ref h0, .ref h1] : List Value) D ty (fl [oX1 ty h0 a0 z0, oX1 ty h1 a1 z1]) sz (qV D (fl [oX1 ty h0 a0 o0, oX1 ty h1 a1 z1])) 0 0 := by
  refine CX_of (cc := cX1_copyFrom) (maxL := 2) (ret := none) (C := RX1) (by decide) rfl rfl (Nat.le_of_ble_eq_true rfl) ?_
  intro p e s m below meth c A ls F hr hlk _ hK hP hD hS hA hl
  have hx := F.1
  have hb := F.2.1
  replace hl : lv_has ls 2 [(0, .ref h0), (1, .ref h1)] := hl
  unfold f_X1_copyFrom at hf
  refine lv_aload_n hx hb dX1_copyFrom_0 rfl (lv_at hl 0 rfl) ?_
  refine lv_aload_n hx hb dX1_copyFrom_1 rfl (lv_at hl 1 rfl) ?_
  obtain ⟨g1, hv, hf⟩ := obd hf
  have hp1 : List.Perm [oX1 ty h0 a0 z0, oX1 ty h1 a1 z1] ([oX1 ty h0 a0 z0, oX1 ty h1 a1 z1] ++ []) := (List.Perm.refl _)
  refine cv_call (os := [oX1 ty h0 a0 z0, oX1 ty h1 a1 z1]) (oc := [oX1 ty h0 a0 z0, oX1 ty h1 a1 z1]) (oc' := [oX1 ty h0 a0 g1, oX1 ty h1 a1 z1]) (or_ := []) (os' := [oX1 ty h0 a0 g1, oX1 ty h1 a1 z1]) (va_runV (As := [.ref h1]) (rest := []) F (c_X1_copyRings l D ty h0 a0 h1 a1 _ _ _ hv _) (cwV 1 F.2.2.2.2 gX1_copyFrom_X1_copyRings rfl rfl rfl ⟨rfl, hd_X1_copyRings⟩ ⟨Nat.le_of_ble_eq_true rfl, Nat.le_of_ble_eq_true rfl⟩) (pre_v hK hP hD hp1 rfl rfl rfl) rfl rfl hl.1 rfl (lv_room (Nat.le_of_ble_eq_true rfl)) dX1_copyFrom_2 ⟨Nat.zero_le _, Nat.zero_le _⟩) hp1 (List.Perm.refl _) hP hD hS hA (fun H locs hP hD hS => ?_)
  clear hp1 hv
  refine lv_aload_n hx hb dX1_copyFrom_5 rfl (lv_at hl 0 rfl) ?_
  refine lv_aload_n hx hb dX1_copyFrom_6 rfl (lv_at hl 1 rfl) ?_
  refine va_get (D := D) (ci := 1) (C := RX1) (T := TX1) (N := 12) hx hb F.2.2.2.2 in_X1_copyFrom_X1 F.2.2.2.1 hK.1 hP 7 rfl rfl 7 (Nat.le_of_ble_eq_true rfl) (F.2.2.2.2 (.fieldLink RX1 34 "LouderRoom$Crowd" "eats" "I") (List.mem_of_getElem? (i := 1) rfl)) (fun _ h9 => h9) rfl dX1_copyFrom_7 ?_
  refine pt_put (D := D) (ci := 1) (fty := .int) (C := RX1) (T := TX1) (N := 12) (w1 := fl [oX1 ty h0 a0 (sI g1 7 (z1.1 7)), oX1 ty h1 a1 z1]) F in_X1_copyFrom_X1 tyX1 tyX1_ok nmX1 hK.1 hP hD hS 0 rfl rfl 7 (Nat.le_of_ble_eq_true rfl) (F.2.2.2.2 (.fieldLink RX1 34 "LouderRoom$Crowd" "eats" "I") (List.mem_of_getElem? (i := 1) rfl)) (fun _ h9 => h9) rfl (by decide +kernel) rfl rfl (Nat.le_of_ble_eq_true rfl) rfl dX1_copyFrom_10 (fun H locs hP hD hS => ?_)
  obtain ⟨g2, ex⟩ : ∃ y : Ob, y = (sI g1 7 (z1.1 7)) := ⟨_, rfl⟩
  replace hf := bnd_at hf ex; rw [← ex] at hP hD; clear ex
  refine lv_aload_n hx hb dX1_copyFrom_13 rfl (lv_at hl 0 rfl) ?_
  refine lv_aload_n hx hb dX1_copyFrom_14 rfl (lv_at hl 1 rfl) ?_
  refine va_get (D := D) (ci := 1) (C := RX1) (T := TX1) (N := 12) hx hb F.2.2.2.2 in_X1_copyFrom_X1 F.2.2.2.1 hK.1 hP 7 rfl rfl 10 (Nat.le_of_ble_eq_true rfl) (F.2.2.2.2 (.fieldLink RX1 40 "LouderRoom$Crowd" "follows" "Z") (List.mem_of_getElem? (i := 2) rfl)) (fun _ h9 => h9) rfl dX1_copyFrom_15 ?_
  obtain ⟨hz, hf⟩ := grd hf
  refine pt_put (D := D) (ci := 1) (fty := .boolean) (C := RX1) (T := TX1) (N := 12) (w1 := fl [oX1 ty h0 a0 (sI g2 10 (z1.1 10)), oX1 ty h1 a1 z1]) F in_X1_copyFrom_X1 tyX1 tyX1_ok nmX1 hK.1 hP hD hS 0 rfl rfl 10 (Nat.le_of_ble_eq_true rfl) (F.2.2.2.2 (.fieldLink RX1 40 "LouderRoom$Crowd" "follows" "Z") (List.mem_of_getElem? (i := 2) rfl)) (fun _ h9 => h9) rfl (by decide +kernel) (isb_n hz) (isb_f hz) (Nat.le_of_ble_eq_true rfl) rfl dX1_copyFrom_18 (fun H locs hP hD hS => ?_)
  obtain ⟨g3, ex⟩ : ∃ y : Ob, y = (sI g2 10 (z1.1 10)) := ⟨_, rfl⟩
  replace hf := bnd_at hf ex; rw [← ex] at hP hD; clear ex
  obtain hf := hf
  have e0 := Option.some.inj hf
  rw [e0] at hP hD
  exact CX_v F hr hlk hP hD hS dX1_copyFrom_21
def f_X1_has (z0 : Ob) (p1 : Int32) : Option (Int32) := (if p1 < 0 then some (0 : Int32) else (if (z0.1 6) ≤ p1 then some (0 : Int32) else some (1 : Int32)))
abbrev rm_X1_has : Room := { frames := 0, cells := 0, slots := 0, locals := 0 }
theorem hd_X1_has : yX1_has.cls ≠ "java/lang/invoke/MethodHandle" ∧ yX1_has.cls ≠ "java/lang/invoke/VarHandle" ∧ (parseMethodDescriptor yX1_has.desc).map (fun d => d.parameters.length) = some 1 := by decide +kernel
theorem in_X1_has_X1 : ∀ w ∈ wsX10, w ∈ wsX1_has := fun w h => List.mem_cons_of_mem _ (List.mem_append_right _ h)
set_option maxHeartbeats 4000000 in
set_option maxRecDepth 100000 in
theorem c_X1_has (l : Launch) (D : va_G) (ty : TY) (h0 : Nat) (a0 : Nat → Nat) (z0 : Ob) (p1 : Int32) (o0 : Int32) (hf : f_X1_has z0 p1 = some o0) (sz : Nat) : CX l yX1_has wsX1_has rm_X1_has ([.ref h0, .int p1] : List Value) D ty (fl [oX1 ty h0 a0 z0]) sz (qI D o0 (fl [oX1 ty h0 a0 z0])) 0 0 := by
  refine CX_of (cc := cX1_has) (maxL := 2) (ret := (some .boolean)) (C := RX1) (by decide) rfl rfl (Nat.le_of_ble_eq_true rfl) ?_
  intro p e s m below meth c A ls F hr hlk _ hK hP hD hS hA hl
  have hx := F.1
  have hb := F.2.1
  replace hl : lv_has ls 2 [(0, .ref h0), (1, .int p1)] := hl
  unfold f_X1_has at hf
  refine lv_iload_n hx hb dX1_has_0 rfl (lv_at hl 1 rfl) ?_
  refine lv_if_lt (tgt := 16) hx hb dX1_has_1 (by decide) (fun hc => ?_) (fun hc => ?_)
  · replace hf := ite_t hf hc
    refine lv_iconst (v := (0 : Int32)) hx hb dX1_has_16 (by decide) ?_
    obtain hf := hf
    have e0 := Option.some.inj hf
    exact CX_z F hr hlk hP hD hS narrow_b0 e0 dX1_has_17
  · replace hf := ite_f hf hc
    refine lv_iload_n hx hb dX1_has_4 rfl (lv_at hl 1 rfl) ?_
    refine lv_aload_n hx hb dX1_has_5 rfl (lv_at hl 0 rfl) ?_
    refine va_get (D := D) (ci := 1) (C := RX1) (T := TX1) (N := 12) hx hb F.2.2.2.2 in_X1_has_X1 F.2.2.2.1 hK.1 hP 0 rfl rfl 6 (Nat.le_of_ble_eq_true rfl) (F.2.2.2.2 (.fieldLink RX1 30 "LouderRoom$Crowd" "rings" "I") (List.mem_of_getElem? (i := 1) rfl)) (fun _ h9 => h9) rfl dX1_has_6 ?_
    refine lv_icmp_ge (tgt := 16) hx hb dX1_has_9 (by decide) (fun hc => ?_) (fun hc => ?_)
    · replace hf := ite_t hf hc
      refine lv_iconst (v := (0 : Int32)) hx hb dX1_has_16 (by decide) ?_
      obtain hf := hf
      have e0 := Option.some.inj hf
      exact CX_z F hr hlk hP hD hS narrow_b0 e0 dX1_has_17
    · replace hf := ite_f hf hc
      refine lv_iconst (v := (1 : Int32)) hx hb dX1_has_12 (by decide) ?_
      refine lv_goto (tgt := 17) hx hb dX1_has_13 (by decide) ?_
      obtain hf := hf
      have e0 := Option.some.inj hf
      exact CX_z F hr hlk hP hD hS narrow_b1 e0 dX1_has_17
def f_X1_add (z0 : Ob) (p1 : Int32) (p2 : Int32) (p3 : Int32) (p4 : Int32) (p5 : Int32) : Option (Ob) := (if (8 : Int32) ≤ (z0.1 6) then some z0 else (if inb (z0.1 6) 8 = true then bnd (sA z0 0 (upd (z0.2 0) (z0.1 6).toNatClampNeg p1)) (fun g1 => (if inb (g1.1 6) 8 = true then bnd (sA g1 1 (upd (g1.2 1) (g1.1 6).toNatClampNeg p2)) (fun g2 => (if inb (g2.1 6) 8 = true then bnd (sA g2 2 (upd (g2.2 2) (g2.1 6).toNatClampNeg p3)) (fun g3 => (if inb (g3.1 6) 8 = true then bnd (sA g3 3 (upd (g3.2 3) (g3.1 6).toNatClampNeg p4)) (fun g4 => (if inb (g4.1 6) 8 = true then bnd (sA g4 4 (upd (g4.2 4) (g4.1 6).toNatClampNeg p5)) (fun g5 => bnd (sI g5 6 ((g5.1 6) + (1 : Int32))) (fun g6 => some g6)) else none)) else none)) else none)) else none)) else none))
abbrev rm_X1_add : Room := { frames := 0, cells := 0, slots := 0, locals := 0 }
theorem hd_X1_add : yX1_add.cls ≠ "java/lang/invoke/MethodHandle" ∧ yX1_add.cls ≠ "java/lang/invoke/VarHandle" ∧ (parseMethodDescriptor yX1_add.desc).map (fun d => d.parameters.length) = some 5 := by decide +kernel
theorem in_X1_add_X1 : ∀ w ∈ wsX10, w ∈ wsX1_add := fun w h => List.mem_cons_of_mem _ (List.mem_append_right _ h)
set_option maxHeartbeats 4000000 in
set_option maxRecDepth 100000 in
theorem c_X1_add (l : Launch) (D : va_G) (ty : TY) (h0 : Nat) (a0 : Nat → Nat) (z0 : Ob) (p1 : Int32) (p2 : Int32) (p3 : Int32) (p4 : Int32) (p5 : Int32) (o0 : Ob) (hf : f_X1_add z0 p1 p2 p3 p4 p5 = some o0) (sz : Nat) : CX l yX1_add wsX1_add rm_X1_add ([.ref h0, .int p1, .int p2, .int p3, .int p4, .int p5] : List Value) D ty (fl [oX1 ty h0 a0 z0]) sz (qV D (fl [oX1 ty h0 a0 o0])) 0 0 := by
  refine CX_of (cc := cX1_add) (maxL := 6) (ret := none) (C := RX1) (by decide) rfl rfl (Nat.le_of_ble_eq_true rfl) ?_
  intro p e s m below meth c A ls F hr hlk _ hK hP hD hS hA hl
  have hx := F.1
  have hb := F.2.1
  replace hl : lv_has ls 6 [(0, .ref h0), (1, .int p1), (2, .int p2), (3, .int p3), (4, .int p4), (5, .int p5)] := hl
  unfold f_X1_add at hf
  refine lv_aload_n hx hb dX1_add_0 rfl (lv_at hl 0 rfl) ?_
  refine va_get (D := D) (ci := 1) (C := RX1) (T := TX1) (N := 12) hx hb F.2.2.2.2 in_X1_add_X1 F.2.2.2.1 hK.1 hP 0 rfl rfl 6 (Nat.le_of_ble_eq_true rfl) (F.2.2.2.2 (.fieldLink RX1 30 "LouderRoom$Crowd" "rings" "I") (List.mem_of_getElem? (i := 1) rfl)) (fun _ h9 => h9) rfl dX1_add_1 ?_
  refine lv_bipush (v := (8 : Int32)) hx hb dX1_add_4 (by decide) ?_
  refine lv_icmp_ge (tgt := 71) hx hb dX1_add_6 (by decide) (fun hc => ?_) (fun hc => ?_)
  · replace hf := ite_t hf hc
    obtain hf := hf
    have e0 := Option.some.inj hf
    rw [e0] at hP hD
    exact CX_v F hr hlk hP hD hS dX1_add_71
  · replace hf := ite_f hf hc
    refine lv_aload_n hx hb dX1_add_9 rfl (lv_at hl 0 rfl) ?_
    refine va_get (D := D) (ci := 1) (C := RX1) (T := TX1) (N := 12) hx hb F.2.2.2.2 in_X1_add_X1 F.2.2.2.1 hK.1 hP 0 rfl rfl 0 (Nat.le_of_ble_eq_true rfl) (F.2.2.2.2 (.fieldLink RX1 9 "LouderRoom$Crowd" "kind" "[I") (List.mem_of_getElem? (i := 2) rfl)) (fun _ h9 => h9) rfl dX1_add_10 ?_
    refine lv_aload_n hx hb dX1_add_13 rfl (lv_at hl 0 rfl) ?_
    refine va_get (D := D) (ci := 1) (C := RX1) (T := TX1) (N := 12) hx hb F.2.2.2.2 in_X1_add_X1 F.2.2.2.1 hK.1 hP 0 rfl rfl 6 (Nat.le_of_ble_eq_true rfl) (F.2.2.2.2 (.fieldLink RX1 30 "LouderRoom$Crowd" "rings" "I") (List.mem_of_getElem? (i := 1) rfl)) (fun _ h9 => h9) rfl dX1_add_14 ?_
    refine lv_iload_n hx hb dX1_add_17 rfl (lv_at hl 1 rfl) ?_
    obtain ⟨hi, hf⟩ := grd hf
    refine pt_iast (w1 := fl [oX1 ty h0 a0 (sA z0 0 (upd (z0.2 0) (z0.1 6).toNatClampNeg p1))]) F hK.1 hP hD hS 1 0 rfl rfl (inb_in hi) rfl dX1_add_18 (fun H locs hP hD hS => ?_)
    obtain ⟨g1, ex⟩ : ∃ y : Ob, y = (sA z0 0 (upd (z0.2 0) (z0.1 6).toNatClampNeg p1)) := ⟨_, rfl⟩
    replace hf := bnd_at hf ex; rw [← ex] at hP hD; clear ex
    refine lv_aload_n hx hb dX1_add_19 rfl (lv_at hl 0 rfl) ?_
    refine va_get (D := D) (ci := 1) (C := RX1) (T := TX1) (N := 12) hx hb F.2.2.2.2 in_X1_add_X1 F.2.2.2.1 hK.1 hP 0 rfl rfl 1 (Nat.le_of_ble_eq_true rfl) (F.2.2.2.2 (.fieldLink RX1 15 "LouderRoom$Crowd" "cell" "[I") (List.mem_of_getElem? (i := 3) rfl)) (fun _ h9 => h9) rfl dX1_add_20 ?_
    refine lv_aload_n hx hb dX1_add_23 rfl (lv_at hl 0 rfl) ?_
    refine va_get (D := D) (ci := 1) (C := RX1) (T := TX1) (N := 12) hx hb F.2.2.2.2 in_X1_add_X1 F.2.2.2.1 hK.1 hP 0 rfl rfl 6 (Nat.le_of_ble_eq_true rfl) (F.2.2.2.2 (.fieldLink RX1 30 "LouderRoom$Crowd" "rings" "I") (List.mem_of_getElem? (i := 1) rfl)) (fun _ h9 => h9) rfl dX1_add_24 ?_
    refine lv_iload_n hx hb dX1_add_27 rfl (lv_at hl 2 rfl) ?_
    obtain ⟨hi, hf⟩ := grd hf
    refine pt_iast (w1 := fl [oX1 ty h0 a0 (sA g1 1 (upd (g1.2 1) (g1.1 6).toNatClampNeg p2))]) F hK.1 hP hD hS 2 0 rfl rfl (inb_in hi) rfl dX1_add_28 (fun H locs hP hD hS => ?_)
    obtain ⟨g2, ex⟩ : ∃ y : Ob, y = (sA g1 1 (upd (g1.2 1) (g1.1 6).toNatClampNeg p2)) := ⟨_, rfl⟩
    replace hf := bnd_at hf ex; rw [← ex] at hP hD; clear ex
    refine lv_aload_n hx hb dX1_add_29 rfl (lv_at hl 0 rfl) ?_
    refine va_get (D := D) (ci := 1) (C := RX1) (T := TX1) (N := 12) hx hb F.2.2.2.2 in_X1_add_X1 F.2.2.2.1 hK.1 hP 0 rfl rfl 2 (Nat.le_of_ble_eq_true rfl) (F.2.2.2.2 (.fieldLink RX1 18 "LouderRoom$Crowd" "people" "[I") (List.mem_of_getElem? (i := 4) rfl)) (fun _ h9 => h9) rfl dX1_add_30 ?_
    refine lv_aload_n hx hb dX1_add_33 rfl (lv_at hl 0 rfl) ?_
    refine va_get (D := D) (ci := 1) (C := RX1) (T := TX1) (N := 12) hx hb F.2.2.2.2 in_X1_add_X1 F.2.2.2.1 hK.1 hP 0 rfl rfl 6 (Nat.le_of_ble_eq_true rfl) (F.2.2.2.2 (.fieldLink RX1 30 "LouderRoom$Crowd" "rings" "I") (List.mem_of_getElem? (i := 1) rfl)) (fun _ h9 => h9) rfl dX1_add_34 ?_
    refine lv_iload_n hx hb dX1_add_37 rfl (lv_at hl 3 rfl) ?_
    obtain ⟨hi, hf⟩ := grd hf
    refine pt_iast (w1 := fl [oX1 ty h0 a0 (sA g2 2 (upd (g2.2 2) (g2.1 6).toNatClampNeg p3))]) F hK.1 hP hD hS 3 0 rfl rfl (inb_in hi) rfl dX1_add_38 (fun H locs hP hD hS => ?_)
    obtain ⟨g3, ex⟩ : ∃ y : Ob, y = (sA g2 2 (upd (g2.2 2) (g2.1 6).toNatClampNeg p3)) := ⟨_, rfl⟩
    replace hf := bnd_at hf ex; rw [← ex] at hP hD; clear ex
    refine lv_aload_n hx hb dX1_add_39 rfl (lv_at hl 0 rfl) ?_
    refine va_get (D := D) (ci := 1) (C := RX1) (T := TX1) (N := 12) hx hb F.2.2.2.2 in_X1_add_X1 F.2.2.2.1 hK.1 hP 0 rfl rfl 3 (Nat.le_of_ble_eq_true rfl) (F.2.2.2.2 (.fieldLink RX1 21 "LouderRoom$Crowd" "voice" "[I") (List.mem_of_getElem? (i := 5) rfl)) (fun _ h9 => h9) rfl dX1_add_40 ?_
    refine lv_aload_n hx hb dX1_add_43 rfl (lv_at hl 0 rfl) ?_
    refine va_get (D := D) (ci := 1) (C := RX1) (T := TX1) (N := 12) hx hb F.2.2.2.2 in_X1_add_X1 F.2.2.2.1 hK.1 hP 0 rfl rfl 6 (Nat.le_of_ble_eq_true rfl) (F.2.2.2.2 (.fieldLink RX1 30 "LouderRoom$Crowd" "rings" "I") (List.mem_of_getElem? (i := 1) rfl)) (fun _ h9 => h9) rfl dX1_add_44 ?_
    refine lv_iload hx hb dX1_add_47 (lv_at hl 4 rfl) ?_
    obtain ⟨hi, hf⟩ := grd hf
    refine pt_iast (w1 := fl [oX1 ty h0 a0 (sA g3 3 (upd (g3.2 3) (g3.1 6).toNatClampNeg p4))]) F hK.1 hP hD hS 4 0 rfl rfl (inb_in hi) rfl dX1_add_49 (fun H locs hP hD hS => ?_)
    obtain ⟨g4, ex⟩ : ∃ y : Ob, y = (sA g3 3 (upd (g3.2 3) (g3.1 6).toNatClampNeg p4)) := ⟨_, rfl⟩
    replace hf := bnd_at hf ex; rw [← ex] at hP hD; clear ex
    refine lv_aload_n hx hb dX1_add_50 rfl (lv_at hl 0 rfl) ?_
    refine va_get (D := D) (ci := 1) (C := RX1) (T := TX1) (N := 12) hx hb F.2.2.2.2 in_X1_add_X1 F.2.2.2.1 hK.1 hP 0 rfl rfl 4 (Nat.le_of_ble_eq_true rfl) (F.2.2.2.2 (.fieldLink RX1 24 "LouderRoom$Crowd" "age" "[I") (List.mem_of_getElem? (i := 6) rfl)) (fun _ h9 => h9) rfl dX1_add_51 ?_
    refine lv_aload_n hx hb dX1_add_54 rfl (lv_at hl 0 rfl) ?_
    refine va_get (D := D) (ci := 1) (C := RX1) (T := TX1) (N := 12) hx hb F.2.2.2.2 in_X1_add_X1 F.2.2.2.1 hK.1 hP 0 rfl rfl 6 (Nat.le_of_ble_eq_true rfl) (F.2.2.2.2 (.fieldLink RX1 30 "LouderRoom$Crowd" "rings" "I") (List.mem_of_getElem? (i := 1) rfl)) (fun _ h9 => h9) rfl dX1_add_55 ?_
    refine lv_iload hx hb dX1_add_58 (lv_at hl 5 rfl) ?_
    obtain ⟨hi, hf⟩ := grd hf
    refine pt_iast (w1 := fl [oX1 ty h0 a0 (sA g4 4 (upd (g4.2 4) (g4.1 6).toNatClampNeg p5))]) F hK.1 hP hD hS 5 0 rfl rfl (inb_in hi) rfl dX1_add_60 (fun H locs hP hD hS => ?_)
    obtain ⟨g5, ex⟩ : ∃ y : Ob, y = (sA g4 4 (upd (g4.2 4) (g4.1 6).toNatClampNeg p5)) := ⟨_, rfl⟩
    replace hf := bnd_at hf ex; rw [← ex] at hP hD; clear ex
    refine lv_aload_n hx hb dX1_add_61 rfl (lv_at hl 0 rfl) ?_
    refine lv_dup hx hb dX1_add_62 rfl ?_
    refine va_get (D := D) (ci := 1) (C := RX1) (T := TX1) (N := 12) hx hb F.2.2.2.2 in_X1_add_X1 F.2.2.2.1 hK.1 hP 0 rfl rfl 6 (Nat.le_of_ble_eq_true rfl) (F.2.2.2.2 (.fieldLink RX1 30 "LouderRoom$Crowd" "rings" "I") (List.mem_of_getElem? (i := 1) rfl)) (fun _ h9 => h9) rfl dX1_add_63 ?_
    refine lv_iconst (v := (1 : Int32)) hx hb dX1_add_66 (by decide) ?_
    refine lv_iadd hx hb dX1_add_67 ?_
    refine pt_put (D := D) (ci := 1) (fty := .int) (C := RX1) (T := TX1) (N := 12) (w1 := fl [oX1 ty h0 a0 (sI g5 6 ((g5.1 6) + (1 : Int32)))]) F in_X1_add_X1 tyX1 tyX1_ok nmX1 hK.1 hP hD hS 0 rfl rfl 6 (Nat.le_of_ble_eq_true rfl) (F.2.2.2.2 (.fieldLink RX1 30 "LouderRoom$Crowd" "rings" "I") (List.mem_of_getElem? (i := 1) rfl)) (fun _ h9 => h9) rfl (by decide +kernel) rfl rfl (Nat.le_of_ble_eq_true rfl) rfl dX1_add_68 (fun H locs hP hD hS => ?_)
    obtain ⟨g6, ex⟩ : ∃ y : Ob, y = (sI g5 6 ((g5.1 6) + (1 : Int32))) := ⟨_, rfl⟩
    replace hf := bnd_at hf ex; rw [← ex] at hP hD; clear ex
    obtain hf := hf
    have e0 := Option.some.inj hf
    rw [e0] at hP hD
    exact CX_v F hr hlk hP hD hS dX1_add_71
def b_X1_remove_10 (p1 : Int32) (r_10 : Int32 → Ob → Option (Ob)) (y2 : Int32) (w0 : Ob) : Option (Ob) := (if ((w0.1 6) - (1 : Int32)) ≤ y2 then bnd (sI w0 6 ((w0.1 6) - (1 : Int32))) (fun g2 => some g2) else (if inb (y2 + (1 : Int32)) 8 = true then (if inb y2 8 = true then bnd (sA w0 0 (upd (w0.2 0) y2.toNatClampNeg (w0.2 0 (y2 + (1 : Int32)).toNatClampNeg))) (fun g3 => (if inb (y2 + (1 : Int32)) 8 = true then (if inb y2 8 = true then bnd (sA g3 1 (upd (g3.2 1) y2.toNatClampNeg (g3.2 1 (y2 + (1 : Int32)).toNatClampNeg))) (fun g4 => (if inb (y2 + (1 : Int32)) 8 = true then (if inb y2 8 = true then bnd (sA g4 2 (upd (g4.2 2) y2.toNatClampNeg (g4.2 2 (y2 + (1 : Int32)).toNatClampNeg))) (fun g5 => (if inb (y2 + (1 : Int32)) 8 = true then (if inb y2 8 = true then bnd (sA g5 3 (upd (g5.2 3) y2.toNatClampNeg (g5.2 3 (y2 + (1 : Int32)).toNatClampNeg))) (fun g6 => (if inb (y2 + (1 : Int32)) 8 = true then (if inb y2 8 = true then bnd (sA g6 4 (upd (g6.2 4) y2.toNatClampNeg (g6.2 4 (y2 + (1 : Int32)).toNatClampNeg))) (fun g7 => bnd (y2 + (1 : Int32)) (fun x8 => r_10 x8 g7)) else none) else none)) else none) else none)) else none) else none)) else none) else none)) else none) else none))
def f_X1_remove (z0 : Ob) (p1 : Int32) : Option (Ob) := (f_X1_has z0 p1).bind (fun v1 => (if v1 = 0 then some z0 else fuel2 (b_X1_remove_10 p1) FU p1 z0))
abbrev rm_X1_remove : Room := { frames := 1, cells := 0, slots := 0, locals := 21 }
theorem hd_X1_remove : yX1_remove.cls ≠ "java/lang/invoke/MethodHandle" ∧ yX1_remove.cls ≠ "java/lang/invoke/VarHandle" ∧ (parseMethodDescriptor yX1_remove.desc).map (fun d => d.parameters.length) = some 1 := by decide +kernel
theorem in_X1_remove_X1 : ∀ w ∈ wsX10, w ∈ wsX1_remove := fun w h => List.mem_cons_of_mem _ (List.mem_append_right _ h)
set_option maxHeartbeats 4000000 in
set_option maxRecDepth 100000 in
theorem c_X1_remove (l : Launch) (D : va_G) (ty : TY) (h0 : Nat) (a0 : Nat → Nat) (z0 : Ob) (p1 : Int32) (o0 : Ob) (hf : f_X1_remove z0 p1 = some o0) (sz : Nat) : CX l yX1_remove wsX1_remove rm_X1_remove ([.ref h0, .int p1] : List Value) D ty (fl [oX1 ty h0 a0 z0]) sz (qV D (fl [oX1 ty h0 a0 o0])) 0 0 := by
  refine CX_of (cc := cX1_remove) (maxL := 3) (ret := none) (C := RX1) (by decide) rfl rfl (Nat.le_of_ble_eq_true rfl) ?_
  intro p e s m below meth c A ls F hr hlk _ hK hP hD hS hA hl
  have hx := F.1
  have hb := F.2.1
  replace hl : lv_has ls 3 [(0, .ref h0), (1, .int p1)] := hl
  unfold f_X1_remove at hf
  refine lv_aload_n hx hb dX1_remove_0 rfl (lv_at hl 0 rfl) ?_
  refine lv_iload_n hx hb dX1_remove_1 rfl (lv_at hl 1 rfl) ?_
  obtain ⟨v1, hv, hf⟩ := obd hf
  have hp1 : List.Perm [oX1 ty h0 a0 z0] ([oX1 ty h0 a0 z0] ++ []) := (List.Perm.refl _)
  refine ci_call (out := v1) (os := [oX1 ty h0 a0 z0]) (oc := [oX1 ty h0 a0 z0]) (oc' := [oX1 ty h0 a0 z0]) (or_ := []) (os' := [oX1 ty h0 a0 z0]) (va_runV (As := [.int p1]) (rest := []) F (c_X1_has l D ty h0 a0 _ _ _ hv _) (cwV 1 F.2.2.2.2 gX1_remove_X1_has rfl rfl rfl ⟨rfl, hd_X1_has⟩ ⟨Nat.le_of_ble_eq_true rfl, Nat.le_of_ble_eq_true rfl⟩) (pre_v hK hP hD hp1 rfl rfl rfl) rfl rfl hl.1 rfl (lv_room (Nat.le_of_ble_eq_true rfl)) dX1_remove_2 ⟨Nat.zero_le _, Nat.zero_le _⟩) hp1 (List.Perm.refl _) hP hD hS hA (fun H locs hP hD hS => ?_)
  clear hp1 hv
  refine lv_if_eq (tgt := 106) hx hb dX1_remove_5 (by decide) (fun hc => ?_) (fun hc => ?_)
  · replace hf := ite_t hf hc
    obtain hf := hf
    have e0 := Option.some.inj hf
    rw [e0] at hP hD
    exact CX_v F hr hlk hP hD hS dX1_remove_106
  · replace hf := ite_f hf hc
    refine lv_iload_n hx hb dX1_remove_8 rfl (lv_at hl 1 rfl) ?_
    refine lv_istore_n (lv' := [(2, .int p1), (0, .ref h0), (1, .int p1)]) hx hb dX1_remove_9 rfl hl (by decide) rfl (fun ls hl => ?_)
    have L_10 : ∀ (n : Nat) (y2 : Int32) (w0 : Ob) (H : Heap) (locs : List Loc) (ls : Array Slot), va_P D vwC (fl [oX1 ty h0 a0 w0]) H → va_D A (fl [oX1 ty h0 a0 w0]) → va_S A s.heap H locs → lv_has ls 3 [(0, .ref h0), (2, .int y2)] → fuel2 (b_X1_remove_10 p1) n y2 w0 = some o0 → W p l e rm_X1_remove s m ([.ref h0, .int p1] : List Value).toArray below meth c H locs 0 0 (MQ below (qV D (fl [oX1 ty h0 a0 o0]) A) ([.ref h0, .int p1] : List Value).toArray s 0 0 A) (F0 m 10 ls []) := by
      intro n
      induction n with
      | zero => intro y2 w0 H locs ls hP hD hS hl hf; cases hf
      | succ n ih_10 =>
        intro y2 w0 H locs ls hP hD hS hl hf
        replace hf : b_X1_remove_10 p1 (fuel2 (b_X1_remove_10 p1) n) y2 w0 = some o0 := hf
        generalize fuel2 (b_X1_remove_10 p1) n = r_10 at ih_10 hf
        unfold b_X1_remove_10 at hf
        refine lv_iload_n hx hb dX1_remove_10 rfl (lv_at hl 1 rfl) ?_
        refine lv_aload_n hx hb dX1_remove_11 rfl (lv_at hl 0 rfl) ?_
        refine va_get (D := D) (ci := 1) (C := RX1) (T := TX1) (N := 12) hx hb F.2.2.2.2 in_X1_remove_X1 F.2.2.2.1 hK.1 hP 0 rfl rfl 6 (Nat.le_of_ble_eq_true rfl) (F.2.2.2.2 (.fieldLink RX1 30 "LouderRoom$Crowd" "rings" "I") (List.mem_of_getElem? (i := 1) rfl)) (fun _ h9 => h9) rfl dX1_remove_12 ?_
        refine lv_iconst (v := (1 : Int32)) hx hb dX1_remove_15 (by decide) ?_
        refine lv_isub hx hb dX1_remove_16 ?_
        refine lv_icmp_ge (tgt := 96) hx hb dX1_remove_17 (by decide) (fun hc => ?_) (fun hc => ?_)
        · replace hf := ite_t hf hc
          refine lv_aload_n hx hb dX1_remove_96 rfl (lv_at hl 0 rfl) ?_
          refine lv_dup hx hb dX1_remove_97 rfl ?_
          refine va_get (D := D) (ci := 1) (C := RX1) (T := TX1) (N := 12) hx hb F.2.2.2.2 in_X1_remove_X1 F.2.2.2.1 hK.1 hP 0 rfl rfl 6 (Nat.le_of_ble_eq_true rfl) (F.2.2.2.2 (.fieldLink RX1 30 "LouderRoom$Crowd" "rings" "I") (List.mem_of_getElem? (i := 1) rfl)) (fun _ h9 => h9) rfl dX1_remove_98 ?_
          refine lv_iconst (v := (1 : Int32)) hx hb dX1_remove_101 (by decide) ?_
          refine lv_isub hx hb dX1_remove_102 ?_
          refine pt_put (D := D) (ci := 1) (fty := .int) (C := RX1) (T := TX1) (N := 12) (w1 := fl [oX1 ty h0 a0 (sI w0 6 ((w0.1 6) - (1 : Int32)))]) F in_X1_remove_X1 tyX1 tyX1_ok nmX1 hK.1 hP hD hS 0 rfl rfl 6 (Nat.le_of_ble_eq_true rfl) (F.2.2.2.2 (.fieldLink RX1 30 "LouderRoom$Crowd" "rings" "I") (List.mem_of_getElem? (i := 1) rfl)) (fun _ h9 => h9) rfl (by decide +kernel) rfl rfl (Nat.le_of_ble_eq_true rfl) rfl dX1_remove_103 (fun H locs hP hD hS => ?_)
          obtain ⟨g2, ex⟩ : ∃ y : Ob, y = (sI w0 6 ((w0.1 6) - (1 : Int32))) := ⟨_, rfl⟩
          replace hf := bnd_at hf ex; rw [← ex] at hP hD; clear ex
          obtain hf := hf
          have e0 := Option.some.inj hf
          rw [e0] at hP hD
          exact CX_v F hr hlk hP hD hS dX1_remove_106
        · replace hf := ite_f hf hc
          refine lv_aload_n hx hb dX1_remove_20 rfl (lv_at hl 0 rfl) ?_
          refine va_get (D := D) (ci := 1) (C := RX1) (T := TX1) (N := 12) hx hb F.2.2.2.2 in_X1_remove_X1 F.2.2.2.1 hK.1 hP 0 rfl rfl 0 (Nat.le_of_ble_eq_true rfl) (F.2.2.2.2 (.fieldLink RX1 9 "LouderRoom$Crowd" "kind" "[I") (List.mem_of_getElem? (i := 2) rfl)) (fun _ h9 => h9) rfl dX1_remove_21 ?_
          refine lv_iload_n hx hb dX1_remove_24 rfl (lv_at hl 1 rfl) ?_
          refine lv_aload_n hx hb dX1_remove_25 rfl (lv_at hl 0 rfl) ?_
          refine va_get (D := D) (ci := 1) (C := RX1) (T := TX1) (N := 12) hx hb F.2.2.2.2 in_X1_remove_X1 F.2.2.2.1 hK.1 hP 0 rfl rfl 0 (Nat.le_of_ble_eq_true rfl) (F.2.2.2.2 (.fieldLink RX1 9 "LouderRoom$Crowd" "kind" "[I") (List.mem_of_getElem? (i := 2) rfl)) (fun _ h9 => h9) rfl dX1_remove_26 ?_
          refine lv_iload_n hx hb dX1_remove_29 rfl (lv_at hl 1 rfl) ?_
          refine lv_iconst (v := (1 : Int32)) hx hb dX1_remove_30 (by decide) ?_
          refine lv_iadd hx hb dX1_remove_31 ?_
          obtain ⟨hi, hf⟩ := grd hf
          refine va_iald hx hb hK.1 hP 1 0 rfl rfl (inb_in hi) dX1_remove_32 ?_
          obtain ⟨hi, hf⟩ := grd hf
          refine pt_iast (w1 := fl [oX1 ty h0 a0 (sA w0 0 (upd (w0.2 0) y2.toNatClampNeg (w0.2 0 (y2 + (1 : Int32)).toNatClampNeg)))]) F hK.1 hP hD hS 1 0 rfl rfl (inb_in hi) rfl dX1_remove_33 (fun H locs hP hD hS => ?_)
          obtain ⟨g3, ex⟩ : ∃ y : Ob, y = (sA w0 0 (upd (w0.2 0) y2.toNatClampNeg (w0.2 0 (y2 + (1 : Int32)).toNatClampNeg))) := ⟨_, rfl⟩
          replace hf := bnd_at hf ex; rw [← ex] at hP hD; clear ex
          refine lv_aload_n hx hb dX1_remove_34 rfl (lv_at hl 0 rfl) ?_
          refine va_get (D := D) (ci := 1) (C := RX1) (T := TX1) (N := 12) hx hb F.2.2.2.2 in_X1_remove_X1 F.2.2.2.1 hK.1 hP 0 rfl rfl 1 (Nat.le_of_ble_eq_true rfl) (F.2.2.2.2 (.fieldLink RX1 15 "LouderRoom$Crowd" "cell" "[I") (List.mem_of_getElem? (i := 3) rfl)) (fun _ h9 => h9) rfl dX1_remove_35 ?_
          refine lv_iload_n hx hb dX1_remove_38 rfl (lv_at hl 1 rfl) ?_
          refine lv_aload_n hx hb dX1_remove_39 rfl (lv_at hl 0 rfl) ?_
          refine va_get (D := D) (ci := 1) (C := RX1) (T := TX1) (N := 12) hx hb F.2.2.2.2 in_X1_remove_X1 F.2.2.2.1 hK.1 hP 0 rfl rfl 1 (Nat.le_of_ble_eq_true rfl) (F.2.2.2.2 (.fieldLink RX1 15 "LouderRoom$Crowd" "cell" "[I") (List.mem_of_getElem? (i := 3) rfl)) (fun _ h9 => h9) rfl dX1_remove_40 ?_
          refine lv_iload_n hx hb dX1_remove_43 rfl (lv_at hl 1 rfl) ?_
          refine lv_iconst (v := (1 : Int32)) hx hb dX1_remove_44 (by decide) ?_
          refine lv_iadd hx hb dX1_remove_45 ?_
          obtain ⟨hi, hf⟩ := grd hf
          refine va_iald hx hb hK.1 hP 2 0 rfl rfl (inb_in hi) dX1_remove_46 ?_
          obtain ⟨hi, hf⟩ := grd hf
          refine pt_iast (w1 := fl [oX1 ty h0 a0 (sA g3 1 (upd (g3.2 1) y2.toNatClampNeg (g3.2 1 (y2 + (1 : Int32)).toNatClampNeg)))]) F hK.1 hP hD hS 2 0 rfl rfl (inb_in hi) rfl dX1_remove_47 (fun H locs hP hD hS => ?_)
          obtain ⟨g4, ex⟩ : ∃ y : Ob, y = (sA g3 1 (upd (g3.2 1) y2.toNatClampNeg (g3.2 1 (y2 + (1 : Int32)).toNatClampNeg))) := ⟨_, rfl⟩
          replace hf := bnd_at hf ex; rw [← ex] at hP hD; clear ex
          refine lv_aload_n hx hb dX1_remove_48 rfl (lv_at hl 0 rfl) ?_
          refine va_get (D := D) (ci := 1) (C := RX1) (T := TX1) (N := 12) hx hb F.2.2.2.2 in_X1_remove_X1 F.2.2.2.1 hK.1 hP 0 rfl rfl 2 (Nat.le_of_ble_eq_true rfl) (F.2.2.2.2 (.fieldLink RX1 18 "LouderRoom$Crowd" "people" "[I") (List.mem_of_getElem? (i := 4) rfl)) (fun _ h9 => h9) rfl dX1_remove_49 ?_
          refine lv_iload_n hx hb dX1_remove_52 rfl (lv_at hl 1 rfl) ?_
          refine lv_aload_n hx hb dX1_remove_53 rfl (lv_at hl 0 rfl) ?_
          refine va_get (D := D) (ci := 1) (C := RX1) (T := TX1) (N := 12) hx hb F.2.2.2.2 in_X1_remove_X1 F.2.2.2.1 hK.1 hP 0 rfl rfl 2 (Nat.le_of_ble_eq_true rfl) (F.2.2.2.2 (.fieldLink RX1 18 "LouderRoom$Crowd" "people" "[I") (List.mem_of_getElem? (i := 4) rfl)) (fun _ h9 => h9) rfl dX1_remove_54 ?_
          refine lv_iload_n hx hb dX1_remove_57 rfl (lv_at hl 1 rfl) ?_
          refine lv_iconst (v := (1 : Int32)) hx hb dX1_remove_58 (by decide) ?_
          refine lv_iadd hx hb dX1_remove_59 ?_
          obtain ⟨hi, hf⟩ := grd hf
          refine va_iald hx hb hK.1 hP 3 0 rfl rfl (inb_in hi) dX1_remove_60 ?_
          obtain ⟨hi, hf⟩ := grd hf
          refine pt_iast (w1 := fl [oX1 ty h0 a0 (sA g4 2 (upd (g4.2 2) y2.toNatClampNeg (g4.2 2 (y2 + (1 : Int32)).toNatClampNeg)))]) F hK.1 hP hD hS 3 0 rfl rfl (inb_in hi) rfl dX1_remove_61 (fun H locs hP hD hS => ?_)
          obtain ⟨g5, ex⟩ : ∃ y : Ob, y = (sA g4 2 (upd (g4.2 2) y2.toNatClampNeg (g4.2 2 (y2 + (1 : Int32)).toNatClampNeg))) := ⟨_, rfl⟩
          replace hf := bnd_at hf ex; rw [← ex] at hP hD; clear ex
          refine lv_aload_n hx hb dX1_remove_62 rfl (lv_at hl 0 rfl) ?_
          refine va_get (D := D) (ci := 1) (C := RX1) (T := TX1) (N := 12) hx hb F.2.2.2.2 in_X1_remove_X1 F.2.2.2.1 hK.1 hP 0 rfl rfl 3 (Nat.le_of_ble_eq_true rfl) (F.2.2.2.2 (.fieldLink RX1 21 "LouderRoom$Crowd" "voice" "[I") (List.mem_of_getElem? (i := 5) rfl)) (fun _ h9 => h9) rfl dX1_remove_63 ?_
          refine lv_iload_n hx hb dX1_remove_66 rfl (lv_at hl 1 rfl) ?_
          refine lv_aload_n hx hb dX1_remove_67 rfl (lv_at hl 0 rfl) ?_
          refine va_get (D := D) (ci := 1) (C := RX1) (T := TX1) (N := 12) hx hb F.2.2.2.2 in_X1_remove_X1 F.2.2.2.1 hK.1 hP 0 rfl rfl 3 (Nat.le_of_ble_eq_true rfl) (F.2.2.2.2 (.fieldLink RX1 21 "LouderRoom$Crowd" "voice" "[I") (List.mem_of_getElem? (i := 5) rfl)) (fun _ h9 => h9) rfl dX1_remove_68 ?_
          refine lv_iload_n hx hb dX1_remove_71 rfl (lv_at hl 1 rfl) ?_
          refine lv_iconst (v := (1 : Int32)) hx hb dX1_remove_72 (by decide) ?_
          refine lv_iadd hx hb dX1_remove_73 ?_
          obtain ⟨hi, hf⟩ := grd hf
          refine va_iald hx hb hK.1 hP 4 0 rfl rfl (inb_in hi) dX1_remove_74 ?_
          obtain ⟨hi, hf⟩ := grd hf
          refine pt_iast (w1 := fl [oX1 ty h0 a0 (sA g5 3 (upd (g5.2 3) y2.toNatClampNeg (g5.2 3 (y2 + (1 : Int32)).toNatClampNeg)))]) F hK.1 hP hD hS 4 0 rfl rfl (inb_in hi) rfl dX1_remove_75 (fun H locs hP hD hS => ?_)
          obtain ⟨g6, ex⟩ : ∃ y : Ob, y = (sA g5 3 (upd (g5.2 3) y2.toNatClampNeg (g5.2 3 (y2 + (1 : Int32)).toNatClampNeg))) := ⟨_, rfl⟩
          replace hf := bnd_at hf ex; rw [← ex] at hP hD; clear ex
          refine lv_aload_n hx hb dX1_remove_76 rfl (lv_at hl 0 rfl) ?_
          refine va_get (D := D) (ci := 1) (C := RX1) (T := TX1) (N := 12) hx hb F.2.2.2.2 in_X1_remove_X1 F.2.2.2.1 hK.1 hP 0 rfl rfl 4 (Nat.le_of_ble_eq_true rfl) (F.2.2.2.2 (.fieldLink RX1 24 "LouderRoom$Crowd" "age" "[I") (List.mem_of_getElem? (i := 6) rfl)) (fun _ h9 => h9) rfl dX1_remove_77 ?_
          refine lv_iload_n hx hb dX1_remove_80 rfl (lv_at hl 1 rfl) ?_
          refine lv_aload_n hx hb dX1_remove_81 rfl (lv_at hl 0 rfl) ?_
          refine va_get (D := D) (ci := 1) (C := RX1) (T := TX1) (N := 12) hx hb F.2.2.2.2 in_X1_remove_X1 F.2.2.2.1 hK.1 hP 0 rfl rfl 4 (Nat.le_of_ble_eq_true rfl) (F.2.2.2.2 (.fieldLink RX1 24 "LouderRoom$Crowd" "age" "[I") (List.mem_of_getElem? (i := 6) rfl)) (fun _ h9 => h9) rfl dX1_remove_82 ?_
          refine lv_iload_n hx hb dX1_remove_85 rfl (lv_at hl 1 rfl) ?_
          refine lv_iconst (v := (1 : Int32)) hx hb dX1_remove_86 (by decide) ?_
          refine lv_iadd hx hb dX1_remove_87 ?_
          obtain ⟨hi, hf⟩ := grd hf
          refine va_iald hx hb hK.1 hP 5 0 rfl rfl (inb_in hi) dX1_remove_88 ?_
          obtain ⟨hi, hf⟩ := grd hf
          refine pt_iast (w1 := fl [oX1 ty h0 a0 (sA g6 4 (upd (g6.2 4) y2.toNatClampNeg (g6.2 4 (y2 + (1 : Int32)).toNatClampNeg)))]) F hK.1 hP hD hS 5 0 rfl rfl (inb_in hi) rfl dX1_remove_89 (fun H locs hP hD hS => ?_)
          obtain ⟨g7, ex⟩ : ∃ y : Ob, y = (sA g6 4 (upd (g6.2 4) y2.toNatClampNeg (g6.2 4 (y2 + (1 : Int32)).toNatClampNeg))) := ⟨_, rfl⟩
          replace hf := bnd_at hf ex; rw [← ex] at hP hD; clear ex
          obtain ⟨x8, ex⟩ : ∃ y : Int32, y = (y2 + (1 : Int32)) := ⟨_, rfl⟩
          replace hf := bnd_at hf ex
          refine lv_iinc (v := x8) (lv' := [(2, .int x8), (0, .ref h0)]) hx hb dX1_remove_90 hl (k := 1) rfl (by rw [ex]; rfl) (by decide) rfl (fun ls hl => ?_)
          clear ex
          refine lv_goto (tgt := 10) hx hb dX1_remove_93 (by decide) ?_
          exact ih_10 x8 g7 _ _ _ hP hD hS (lv_sub hl [1, 0] rfl) hf
    exact L_10 FU p1 z0 _ _ _ hP hD hS (lv_sub hl [1, 0] rfl) hf
def b_X1_ringIn_2 (z0 : Ob) (p1 : Int32) (r_2 : Int32 → Option (Int32)) (y2 : Int32) : Option (Int32) := (if (z0.1 6) ≤ y2 then some (-9 : Int32) else (if inb y2 8 = true then (if (z0.2 1 y2.toNatClampNeg) = p1 then some y2 else bnd (y2 + (1 : Int32)) (fun x1 => r_2 x1)) else none))
def f_X1_ringIn (z0 : Ob) (p1 : Int32) : Option (Int32) := fuel1 (b_X1_ringIn_2 z0 p1) FU (0 : Int32)
abbrev rm_X1_ringIn : Room := { frames := 0, cells := 0, slots := 0, locals := 0 }
theorem hd_X1_ringIn : yX1_ringIn.cls ≠ "java/lang/invoke/MethodHandle" ∧ yX1_ringIn.cls ≠ "java/lang/invoke/VarHandle" ∧ (parseMethodDescriptor yX1_ringIn.desc).map (fun d => d.parameters.length) = some 1 := by decide +kernel
theorem in_X1_ringIn_X1 : ∀ w ∈ wsX10, w ∈ wsX1_ringIn := fun w h => List.mem_cons_of_mem _ (List.mem_append_right _ h)
set_option maxHeartbeats 4000000 in
set_option maxRecDepth 100000 in
theorem c_X1_ringIn (l : Launch) (D : va_G) (ty : TY) (h0 : Nat) (a0 : Nat → Nat) (z0 : Ob) (p1 : Int32) (o0 : Int32) (hf : f_X1_ringIn z0 p1 = some o0) (sz : Nat) : CX l yX1_ringIn wsX1_ringIn rm_X1_ringIn ([.ref h0, .int p1] : List Value) D ty (fl [oX1 ty h0 a0 z0]) sz (qI D o0 (fl [oX1 ty h0 a0 z0])) 0 0 := by
  refine CX_of (cc := cX1_ringIn) (maxL := 3) (ret := (some .int)) (C := RX1) (by decide) rfl rfl (Nat.le_of_ble_eq_true rfl) ?_
  intro p e s m below meth c A ls F hr hlk _ hK hP hD hS hA hl
  have hx := F.1
  have hb := F.2.1
  replace hl : lv_has ls 3 [(0, .ref h0), (1, .int p1)] := hl
  unfold f_X1_ringIn at hf
  refine lv_iconst (v := (0 : Int32)) hx hb dX1_ringIn_0 (by decide) ?_
  refine lv_istore_n (lv' := [(2, .int (0 : Int32)), (0, .ref h0), (1, .int p1)]) hx hb dX1_ringIn_1 rfl hl (by decide) rfl (fun ls hl => ?_)
  have L_2 : ∀ (n : Nat) (y2 : Int32) (H : Heap) (locs : List Loc) (ls : Array Slot), va_P D vwC (fl [oX1 ty h0 a0 z0]) H → va_D A (fl [oX1 ty h0 a0 z0]) → va_S A s.heap H locs → lv_has ls 3 [(0, .ref h0), (1, .int p1), (2, .int y2)] → fuel1 (b_X1_ringIn_2 z0 p1) n y2 = some o0 → W p l e rm_X1_ringIn s m ([.ref h0, .int p1] : List Value).toArray below meth c H locs 0 0 (MQ below (qI D o0 (fl [oX1 ty h0 a0 z0]) A) ([.ref h0, .int p1] : List Value).toArray s 0 0 A) (F0 m 2 ls []) := by
    intro n
    induction n with
    | zero => intro y2 H locs ls hP hD hS hl hf; cases hf
    | succ n ih_2 =>
      intro y2 H locs ls hP hD hS hl hf
      replace hf : b_X1_ringIn_2 z0 p1 (fuel1 (b_X1_ringIn_2 z0 p1) n) y2 = some o0 := hf
      generalize fuel1 (b_X1_ringIn_2 z0 p1) n = r_2 at ih_2 hf
      unfold b_X1_ringIn_2 at hf
      refine lv_iload_n hx hb dX1_ringIn_2 rfl (lv_at hl 2 rfl) ?_
      refine lv_aload_n hx hb dX1_ringIn_3 rfl (lv_at hl 0 rfl) ?_
      refine va_get (D := D) (ci := 1) (C := RX1) (T := TX1) (N := 12) hx hb F.2.2.2.2 in_X1_ringIn_X1 F.2.2.2.1 hK.1 hP 0 rfl rfl 6 (Nat.le_of_ble_eq_true rfl) (F.2.2.2.2 (.fieldLink RX1 30 "LouderRoom$Crowd" "rings" "I") (List.mem_of_getElem? (i := 1) rfl)) (fun _ h9 => h9) rfl dX1_ringIn_4 ?_
      refine lv_icmp_ge (tgt := 28) hx hb dX1_ringIn_7 (by decide) (fun hc => ?_) (fun hc => ?_)
      · replace hf := ite_t hf hc
        refine lv_bipush (v := (-9 : Int32)) hx hb dX1_ringIn_28 (by decide) ?_
        obtain hf := hf
        have e0 := Option.some.inj hf
        exact CX_i F hr hlk hP hD hS e0 dX1_ringIn_30
      · replace hf := ite_f hf hc
        refine lv_aload_n hx hb dX1_ringIn_10 rfl (lv_at hl 0 rfl) ?_
        refine va_get (D := D) (ci := 1) (C := RX1) (T := TX1) (N := 12) hx hb F.2.2.2.2 in_X1_ringIn_X1 F.2.2.2.1 hK.1 hP 0 rfl rfl 1 (Nat.le_of_ble_eq_true rfl) (F.2.2.2.2 (.fieldLink RX1 15 "LouderRoom$Crowd" "cell" "[I") (List.mem_of_getElem? (i := 2) rfl)) (fun _ h9 => h9) rfl dX1_ringIn_11 ?_
        refine lv_iload_n hx hb dX1_ringIn_14 rfl (lv_at hl 2 rfl) ?_
        obtain ⟨hi, hf⟩ := grd hf
        refine va_iald hx hb hK.1 hP 2 0 rfl rfl (inb_in hi) dX1_ringIn_15 ?_
        refine lv_iload_n hx hb dX1_ringIn_16 rfl (lv_at hl 1 rfl) ?_
        refine lv_icmp_ne (tgt := 22) hx hb dX1_ringIn_17 (by decide) (fun hc => ?_) (fun hc => ?_)
        · replace hf := ite_f hf hc
          obtain ⟨x1, ex⟩ : ∃ y : Int32, y = (y2 + (1 : Int32)) := ⟨_, rfl⟩
          replace hf := bnd_at hf ex
          refine lv_iinc (v := x1) (lv' := [(2, .int x1), (0, .ref h0), (1, .int p1)]) hx hb dX1_ringIn_22 hl (k := 2) rfl (by rw [ex]; rfl) (by decide) rfl (fun ls hl => ?_)
          clear ex
          refine lv_goto (tgt := 2) hx hb dX1_ringIn_25 (by decide) ?_
          exact ih_2 x1 _ _ _ hP hD hS (lv_sub hl [1, 2, 0] rfl) hf
        · replace hf := ite_t hf hc
          refine lv_iload_n hx hb dX1_ringIn_20 rfl (lv_at hl 2 rfl) ?_
          obtain hf := hf
          have e0 := Option.some.inj hf
          exact CX_i F hr hlk hP hD hS e0 dX1_ringIn_21
  exact L_2 FU (0 : Int32) _ _ _ hP hD hS (lv_sub hl [1, 2, 0] rfl) hf
def b_X1_firstFree_2 (z0 : Ob) (r_2 : Int32 → Option (Int32)) (y1 : Int32) : Option (Int32) := (if (100 : Int32) ≤ y1 then some (-9 : Int32) else (f_X1_ringIn z0 y1).bind (fun v1 => (if v1 = (-9 : Int32) then some y1 else bnd (y1 + (1 : Int32)) (fun x2 => r_2 x2))))
def f_X1_firstFree (z0 : Ob) : Option (Int32) := fuel1 (b_X1_firstFree_2 z0) FU (0 : Int32)
abbrev rm_X1_firstFree : Room := { frames := 1, cells := 0, slots := 0, locals := 22 }
theorem hd_X1_firstFree : yX1_firstFree.cls ≠ "java/lang/invoke/MethodHandle" ∧ yX1_firstFree.cls ≠ "java/lang/invoke/VarHandle" ∧ (parseMethodDescriptor yX1_firstFree.desc).map (fun d => d.parameters.length) = some 0 := by decide +kernel
set_option maxHeartbeats 4000000 in
set_option maxRecDepth 100000 in
theorem c_X1_firstFree (l : Launch) (D : va_G) (ty : TY) (h0 : Nat) (a0 : Nat → Nat) (z0 : Ob) (o0 : Int32) (hf : f_X1_firstFree z0 = some o0) (sz : Nat) : CX l yX1_firstFree wsX1_firstFree rm_X1_firstFree ([.ref h0] : List Value) D ty (fl [oX1 ty h0 a0 z0]) sz (qI D o0 (fl [oX1 ty h0 a0 z0])) 0 0 := by
  refine CX_of (cc := cX1_firstFree) (maxL := 2) (ret := (some .int)) (C := RX1) (by decide) rfl rfl (Nat.le_of_ble_eq_true rfl) ?_
  intro p e s m below meth c A ls F hr hlk _ hK hP hD hS hA hl
  have hx := F.1
  have hb := F.2.1
  replace hl : lv_has ls 2 [(0, .ref h0)] := hl
  unfold f_X1_firstFree at hf
  refine lv_iconst (v := (0 : Int32)) hx hb dX1_firstFree_0 (by decide) ?_
  refine lv_istore_n (lv' := [(1, .int (0 : Int32)), (0, .ref h0)]) hx hb dX1_firstFree_1 rfl hl (by decide) rfl (fun ls hl => ?_)
  have L_2 : ∀ (n : Nat) (y1 : Int32) (H : Heap) (locs : List Loc) (ls : Array Slot), va_P D vwC (fl [oX1 ty h0 a0 z0]) H → va_D A (fl [oX1 ty h0 a0 z0]) → va_S A s.heap H locs → lv_has ls 2 [(0, .ref h0), (1, .int y1)] → fuel1 (b_X1_firstFree_2 z0) n y1 = some o0 → W p l e rm_X1_firstFree s m ([.ref h0] : List Value).toArray below meth c H locs 0 0 (MQ below (qI D o0 (fl [oX1 ty h0 a0 z0]) A) ([.ref h0] : List Value).toArray s 0 0 A) (F0 m 2 ls []) := by
    intro n
    induction n with
    | zero => intro y1 H locs ls hP hD hS hl hf; cases hf
    | succ n ih_2 =>
      intro y1 H locs ls hP hD hS hl hf
      replace hf : b_X1_firstFree_2 z0 (fuel1 (b_X1_firstFree_2 z0) n) y1 = some o0 := hf
      generalize fuel1 (b_X1_firstFree_2 z0) n = r_2 at ih_2 hf
      unfold b_X1_firstFree_2 at hf
      refine lv_iload_n hx hb dX1_firstFree_2 rfl (lv_at hl 1 rfl) ?_
      refine lv_bipush (v := (100 : Int32)) hx hb dX1_firstFree_3 (by decide) ?_
      refine lv_icmp_ge (tgt := 26) hx hb dX1_firstFree_5 (by decide) (fun hc => ?_) (fun hc => ?_)
      · replace hf := ite_t hf hc
        refine lv_bipush (v := (-9 : Int32)) hx hb dX1_firstFree_26 (by decide) ?_
        obtain hf := hf
        have e0 := Option.some.inj hf
        exact CX_i F hr hlk hP hD hS e0 dX1_firstFree_28
      · replace hf := ite_f hf hc
        refine lv_aload_n hx hb dX1_firstFree_8 rfl (lv_at hl 0 rfl) ?_
        refine lv_iload_n hx hb dX1_firstFree_9 rfl (lv_at hl 1 rfl) ?_
        obtain ⟨v1, hv, hf⟩ := obd hf
        have hp1 : List.Perm [oX1 ty h0 a0 z0] ([oX1 ty h0 a0 z0] ++ []) := (List.Perm.refl _)
        refine ci_call (out := v1) (os := [oX1 ty h0 a0 z0]) (oc := [oX1 ty h0 a0 z0]) (oc' := [oX1 ty h0 a0 z0]) (or_ := []) (os' := [oX1 ty h0 a0 z0]) (va_runV (As := [.int y1]) (rest := []) F (c_X1_ringIn l D ty h0 a0 _ _ _ hv _) (cwV 1 F.2.2.2.2 gX1_firstFree_X1_ringIn rfl rfl rfl ⟨rfl, hd_X1_ringIn⟩ ⟨Nat.le_of_ble_eq_true rfl, Nat.le_of_ble_eq_true rfl⟩) (pre_v hK hP hD hp1 rfl rfl rfl) rfl rfl hl.1 rfl (lv_room (Nat.le_of_ble_eq_true rfl)) dX1_firstFree_10 ⟨Nat.zero_le _, Nat.zero_le _⟩) hp1 (List.Perm.refl _) hP hD hS hA (fun H locs hP hD hS => ?_)
        clear hp1 hv
        refine lv_bipush (v := (-9 : Int32)) hx hb dX1_firstFree_13 (by decide) ?_
        refine lv_icmp_ne (tgt := 20) hx hb dX1_firstFree_15 (by decide) (fun hc => ?_) (fun hc => ?_)
        · replace hf := ite_f hf hc
          obtain ⟨x2, ex⟩ : ∃ y : Int32, y = (y1 + (1 : Int32)) := ⟨_, rfl⟩
          replace hf := bnd_at hf ex
          refine lv_iinc (v := x2) (lv' := [(1, .int x2), (0, .ref h0)]) hx hb dX1_firstFree_20 hl (k := 1) rfl (by rw [ex]; rfl) (by decide) rfl (fun ls hl => ?_)
          clear ex
          refine lv_goto (tgt := 2) hx hb dX1_firstFree_23 (by decide) ?_
          exact ih_2 x2 _ _ _ hP hD hS (lv_sub hl [1, 0] rfl) hf
        · replace hf := ite_t hf hc
          refine lv_iload_n hx hb dX1_firstFree_18 rfl (lv_at hl 1 rfl) ?_
          obtain hf := hf
          have e0 := Option.some.inj hf
          exact CX_i F hr hlk hP hD hS e0 dX1_firstFree_19
  exact L_2 FU (0 : Int32) _ _ _ hP hD hS (lv_sub hl [1, 0] rfl) hf
def f_X6_squareApart (p0 : Int32) (p1 : Int32) : Option (Int32) := bnd ((p0 - p0 / (10 : Int32) * (10 : Int32)) - (p1 - p1 / (10 : Int32) * (10 : Int32))) (fun x1 => bnd ((p0 / (10 : Int32)) - (p1 / (10 : Int32))) (fun x2 => some ((x1 * x1) + (x2 * x2))))
abbrev rm_X6_squareApart : Room := { frames := 0, cells := 0, slots := 0, locals := 0 }
theorem hd_X6_squareApart : yX6_squareApart.cls ≠ "java/lang/invoke/MethodHandle" ∧ yX6_squareApart.cls ≠ "java/lang/invoke/VarHandle" ∧ (parseMethodDescriptor yX6_squareApart.desc).map (fun d => d.parameters.length) = some 2 := by decide +kernel
set_option maxHeartbeats 4000000 in
set_option maxRecDepth 100000 in
theorem c_X6_squareApart (l : Launch) (D : va_G) (ty : TY) (p0 : Int32) (p1 : Int32) (o0 : Int32) (hf : f_X6_squareApart p0 p1 = some o0) (sz : Nat) : CX l yX6_squareApart wsX6_squareApart rm_X6_squareApart ([.int p0, .int p1] : List Value) D ty (fl []) sz (qI D o0 (fl [])) 0 0 := by
  refine CX_of (cc := cX6_squareApart) (maxL := 4) (ret := (some .int)) (C := RX6) (by decide) rfl rfl (Nat.le_of_ble_eq_true rfl) ?_
  intro p e s m below meth c A ls F hr hlk _ hK hP hD hS hA hl
  have hx := F.1
  have hb := F.2.1
  replace hl : lv_has ls 4 [(0, .int p0), (1, .int p1)] := hl
  unfold f_X6_squareApart at hf
  refine lv_iload_n hx hb dX6_squareApart_0 rfl (lv_at hl 0 rfl) ?_
  refine lv_bipush (v := (10 : Int32)) hx hb dX6_squareApart_1 (by decide) ?_
  refine lv_irem hx hb dX6_squareApart_3 (by decide) ?_
  refine lv_iload_n hx hb dX6_squareApart_4 rfl (lv_at hl 1 rfl) ?_
  refine lv_bipush (v := (10 : Int32)) hx hb dX6_squareApart_5 (by decide) ?_
  refine lv_irem hx hb dX6_squareApart_7 (by decide) ?_
  refine lv_isub hx hb dX6_squareApart_8 ?_
  refine lv_topi (fun x1 ex => ?_)
  replace hf := bnd_at hf ex; clear ex
  refine lv_istore_n (lv' := [(2, .int x1), (0, .int p0), (1, .int p1)]) hx hb dX6_squareApart_9 rfl hl (by decide) rfl (fun ls hl => ?_)
  refine lv_iload_n hx hb dX6_squareApart_10 rfl (lv_at hl 1 rfl) ?_
  refine lv_bipush (v := (10 : Int32)) hx hb dX6_squareApart_11 (by decide) ?_
  refine lv_idiv hx hb dX6_squareApart_13 (by decide) ?_
  refine lv_iload_n hx hb dX6_squareApart_14 rfl (lv_at hl 2 rfl) ?_
  refine lv_bipush (v := (10 : Int32)) hx hb dX6_squareApart_15 (by decide) ?_
  refine lv_idiv hx hb dX6_squareApart_17 (by decide) ?_
  refine lv_isub hx hb dX6_squareApart_18 ?_
  refine lv_topi (fun x2 ex => ?_)
  replace hf := bnd_at hf ex; clear ex
  refine lv_istore_n (lv' := [(3, .int x2), (2, .int x1), (0, .int p0), (1, .int p1)]) hx hb dX6_squareApart_19 rfl hl (by decide) rfl (fun ls hl => ?_)
  refine lv_iload_n hx hb dX6_squareApart_20 rfl (lv_at hl 1 rfl) ?_
  refine lv_iload_n hx hb dX6_squareApart_21 rfl (lv_at hl 1 rfl) ?_
  refine lv_imul hx hb dX6_squareApart_22 ?_
  refine lv_iload_n hx hb dX6_squareApart_23 rfl (lv_at hl 0 rfl) ?_
  refine lv_iload_n hx hb dX6_squareApart_24 rfl (lv_at hl 0 rfl) ?_
  refine lv_imul hx hb dX6_squareApart_25 ?_
  refine lv_iadd hx hb dX6_squareApart_26 ?_
  obtain hf := hf
  have e0 := Option.some.inj hf
  exact CX_i F hr hlk hP hD hS e0 dX6_squareApart_27
def b_X1_squareToRings_6 (z0 : Ob) (p1 : Int32) (r_6 : Int32 → Int32 → Option (Int32)) (y2 : Int32) (y3 : Int32) : Option (Int32) := (if (z0.1 6) ≤ y3 then some y2 else (if inb y3 8 = true then (f_X6_squareApart p1 (z0.2 1 y3.toNatClampNeg)).bind (fun v1 => bnd (if v1 < y2 then v1 else y2) (fun x2 => bnd (y3 + (1 : Int32)) (fun x3 => r_6 x2 x3))) else none))
def f_X1_squareToRings (z0 : Ob) (p1 : Int32) : Option (Int32) := fuel2 (b_X1_squareToRings_6 z0 p1) FU (1000 : Int32) (0 : Int32)
abbrev rm_X1_squareToRings : Room := { frames := 1, cells := 0, slots := 0, locals := 23 }
theorem hd_X1_squareToRings : yX1_squareToRings.cls ≠ "java/lang/invoke/MethodHandle" ∧ yX1_squareToRings.cls ≠ "java/lang/invoke/VarHandle" ∧ (parseMethodDescriptor yX1_squareToRings.desc).map (fun d => d.parameters.length) = some 1 := by decide +kernel
theorem in_X1_squareToRings_X1 : ∀ w ∈ wsX10, w ∈ wsX1_squareToRings := fun w h => List.mem_cons_of_mem _ (List.mem_append_right _ h)
set_option maxHeartbeats 4000000 in
set_option maxRecDepth 100000 in
theorem c_X1_squareToRings (l : Launch) (D : va_G) (ty : TY) (h0 : Nat) (a0 : Nat → Nat) (z0 : Ob) (p1 : Int32) (o0 : Int32) (hf : f_X1_squareToRings z0 p1 = some o0) (sz : Nat) : CX l yX1_squareToRings wsX1_squareToRings rm_X1_squareToRings ([.ref h0, .int p1] : List Value) D ty (fl [oX1 ty h0 a0 z0]) sz (qI D o0 (fl [oX1 ty h0 a0 z0])) 0 0 := by
  refine CX_of (cc := cX1_squareToRings) (maxL := 4) (ret := (some .int)) (C := RX1) (by decide) rfl rfl (Nat.le_of_ble_eq_true rfl) ?_
  intro p e s m below meth c A ls F hr hlk _ hK hP hD hS hA hl
  have hx := F.1
  have hb := F.2.1
  replace hl : lv_has ls 4 [(0, .ref h0), (1, .int p1)] := hl
  unfold f_X1_squareToRings at hf
  refine lv_sipush (v := (1000 : Int32)) hx hb dX1_squareToRings_0 (by decide) ?_
  refine lv_istore_n (lv' := [(2, .int (1000 : Int32)), (0, .ref h0), (1, .int p1)]) hx hb dX1_squareToRings_3 rfl hl (by decide) rfl (fun ls hl => ?_)
  refine lv_iconst (v := (0 : Int32)) hx hb dX1_squareToRings_4 (by decide) ?_
  refine lv_istore_n (lv' := [(3, .int (0 : Int32)), (2, .int (1000 : Int32)), (0, .ref h0), (1, .int p1)]) hx hb dX1_squareToRings_5 rfl hl (by decide) rfl (fun ls hl => ?_)
  have L_6 : ∀ (n : Nat) (y2 : Int32) (y3 : Int32) (H : Heap) (locs : List Loc) (ls : Array Slot), va_P D vwC (fl [oX1 ty h0 a0 z0]) H → va_D A (fl [oX1 ty h0 a0 z0]) → va_S A s.heap H locs → lv_has ls 4 [(0, .ref h0), (1, .int p1), (2, .int y2), (3, .int y3)] → fuel2 (b_X1_squareToRings_6 z0 p1) n y2 y3 = some o0 → W p l e rm_X1_squareToRings s m ([.ref h0, .int p1] : List Value).toArray below meth c H locs 0 0 (MQ below (qI D o0 (fl [oX1 ty h0 a0 z0]) A) ([.ref h0, .int p1] : List Value).toArray s 0 0 A) (F0 m 6 ls []) := by
    intro n
    induction n with
    | zero => intro y2 y3 H locs ls hP hD hS hl hf; cases hf
    | succ n ih_6 =>
      intro y2 y3 H locs ls hP hD hS hl hf
      replace hf : b_X1_squareToRings_6 z0 p1 (fuel2 (b_X1_squareToRings_6 z0 p1) n) y2 y3 = some o0 := hf
      generalize fuel2 (b_X1_squareToRings_6 z0 p1) n = r_6 at ih_6 hf
      unfold b_X1_squareToRings_6 at hf
      refine lv_iload_n hx hb dX1_squareToRings_6 rfl (lv_at hl 3 rfl) ?_
      refine lv_aload_n hx hb dX1_squareToRings_7 rfl (lv_at hl 0 rfl) ?_
      refine va_get (D := D) (ci := 1) (C := RX1) (T := TX1) (N := 12) hx hb F.2.2.2.2 in_X1_squareToRings_X1 F.2.2.2.1 hK.1 hP 0 rfl rfl 6 (Nat.le_of_ble_eq_true rfl) (F.2.2.2.2 (.fieldLink RX1 30 "LouderRoom$Crowd" "rings" "I") (List.mem_of_getElem? (i := 1) rfl)) (fun _ h9 => h9) rfl dX1_squareToRings_8 ?_
      refine lv_icmp_ge (tgt := 35) hx hb dX1_squareToRings_11 (by decide) (fun hc => ?_) (fun hc => ?_)
      · replace hf := ite_t hf hc
        refine lv_iload_n hx hb dX1_squareToRings_35 rfl (lv_at hl 2 rfl) ?_
        obtain hf := hf
        have e0 := Option.some.inj hf
        exact CX_i F hr hlk hP hD hS e0 dX1_squareToRings_36
      · replace hf := ite_f hf hc
        refine lv_iload_n hx hb dX1_squareToRings_14 rfl (lv_at hl 2 rfl) ?_
        refine lv_iload_n hx hb dX1_squareToRings_15 rfl (lv_at hl 1 rfl) ?_
        refine lv_aload_n hx hb dX1_squareToRings_16 rfl (lv_at hl 0 rfl) ?_
        refine va_get (D := D) (ci := 1) (C := RX1) (T := TX1) (N := 12) hx hb F.2.2.2.2 in_X1_squareToRings_X1 F.2.2.2.1 hK.1 hP 0 rfl rfl 1 (Nat.le_of_ble_eq_true rfl) (F.2.2.2.2 (.fieldLink RX1 15 "LouderRoom$Crowd" "cell" "[I") (List.mem_of_getElem? (i := 2) rfl)) (fun _ h9 => h9) rfl dX1_squareToRings_17 ?_
        refine lv_iload_n hx hb dX1_squareToRings_20 rfl (lv_at hl 3 rfl) ?_
        obtain ⟨hi, hf⟩ := grd hf
        refine va_iald hx hb hK.1 hP 2 0 rfl rfl (inb_in hi) dX1_squareToRings_21 ?_
        obtain ⟨v1, hv, hf⟩ := obd hf
        have hp1 : List.Perm [oX1 ty h0 a0 z0] ([] ++ [oX1 ty h0 a0 z0]) := (List.Perm.refl _)
        refine ci_call (out := v1) (os := [oX1 ty h0 a0 z0]) (oc := []) (oc' := []) (or_ := [oX1 ty h0 a0 z0]) (os' := [oX1 ty h0 a0 z0]) (va_runSN (As := [.int p1, .int (z0.2 1 y3.toNatClampNeg)]) (rest := [.int y2]) F (c_X6_squareApart l D ty _ _ _ hv _) ⟨va_cnB 2 F.2.2.2.2 gX1_squareToRings_X6_squareApart_n59 rfl rfl rfl (KN.nw hK 26 rfl) (F.2.2.2.2 (.initialized RX6) (List.mem_of_getElem? (i := 8) rfl)) hd_X6_squareApart ⟨Nat.le_of_ble_eq_true rfl, Nat.le_of_ble_eq_true rfl⟩, (F.2.2.2.2 (.static yX6_squareApart) (List.mem_of_getElem? (i := 7) rfl)), trivial⟩ (pre_s hK hP hD hp1) rfl rfl hl.1 rfl (lv_room (Nat.le_of_ble_eq_true rfl)) dX1_squareToRings_22 ⟨Nat.zero_le _, Nat.zero_le _⟩) hp1 (List.Perm.refl _) hP hD hS hA (fun H locs hP hD hS => ?_)
        clear hp1 hv
        refine va_mmin hx hb (F.2.2.1.trans hl.1.symm) F.2.2.2.1 (F.2.2.2.2 (.methodLink RX1 63 Lib.Math.min.name) (List.mem_of_getElem? (i := 3) rfl)) (F.2.2.2.2 (.static Lib.Math.min.name) (List.mem_of_getElem? (i := 4) rfl)) (F.2.2.2.2 (.initialized "java/lang/Math") (List.mem_of_getElem? (i := 5) rfl)) (F.2.2.2.2 (.code Lib.Math.min.name Lib.Math.min.code 2 (some .int)) (List.mem_of_getElem? (i := 6) rfl)) (Nat.le_of_ble_eq_true rfl) (Nat.le_of_ble_eq_true rfl) (Nat.zero_le _) (Nat.zero_le _) dX1_squareToRings_25 ?_
        refine lv_topi (fun x2 ex => ?_)
        replace hf := bnd_at hf ex; clear ex
        refine lv_istore_n (lv' := [(2, .int x2), (0, .ref h0), (1, .int p1), (3, .int y3)]) hx hb dX1_squareToRings_28 rfl hl (by decide) rfl (fun ls hl => ?_)
        obtain ⟨x3, ex⟩ : ∃ y : Int32, y = (y3 + (1 : Int32)) := ⟨_, rfl⟩
        replace hf := bnd_at hf ex
        refine lv_iinc (v := x3) (lv' := [(3, .int x3), (2, .int x2), (0, .ref h0), (1, .int p1)]) hx hb dX1_squareToRings_29 hl (k := 3) rfl (by rw [ex]; rfl) (by decide) rfl (fun ls hl => ?_)
        clear ex
        refine lv_goto (tgt := 6) hx hb dX1_squareToRings_32 (by decide) ?_
        exact ih_6 x2 x3 _ _ _ hP hD hS (lv_sub hl [2, 3, 1, 0] rfl) hf
  exact L_6 FU (1000 : Int32) (0 : Int32) _ _ _ hP hD hS (lv_sub hl [2, 3, 1, 0] rfl) hf
def j_X1_speakAll_25 (p1 : Int32) (r_4 : Int32 → Int32 → Ob → Option (Int32 × Ob)) (y2 : Int32) (y3 : Int32) (w0 : Ob) : Option (Int32 × Ob) := (if inb y3 8 = true then bnd (sA w0 3 (upd (w0.2 3) y3.toNatClampNeg p1)) (fun g1 => bnd (y3 + (1 : Int32)) (fun x2 => r_4 y2 x2 g1)) else none)
def b_X1_speakAll_4 (p1 : Int32) (r_4 : Int32 → Int32 → Ob → Option (Int32 × Ob)) (y2 : Int32) (y3 : Int32) (w0 : Ob) : Option (Int32 × Ob) := (if (w0.1 6) ≤ y3 then some (y2, w0) else (if inb y3 8 = true then (if (w0.2 3 y3.toNatClampNeg) = p1 then j_X1_speakAll_25 p1 r_4 y2 y3 w0 else bnd (y2 + (1 : Int32)) (fun x3 => j_X1_speakAll_25 p1 r_4 x3 y3 w0)) else none))
def f_X1_speakAll (z0 : Ob) (p1 : Int32) : Option (Int32 × Ob) := fuel3 (b_X1_speakAll_4 p1) FU (0 : Int32) (0 : Int32) z0
abbrev rm_X1_speakAll : Room := { frames := 0, cells := 0, slots := 0, locals := 0 }
theorem hd_X1_speakAll : yX1_speakAll.cls ≠ "java/lang/invoke/MethodHandle" ∧ yX1_speakAll.cls ≠ "java/lang/invoke/VarHandle" ∧ (parseMethodDescriptor yX1_speakAll.desc).map (fun d => d.parameters.length) = some 1 := by decide +kernel
theorem in_X1_speakAll_X1 : ∀ w ∈ wsX10, w ∈ wsX1_speakAll := fun w h => List.mem_cons_of_mem _ (List.mem_append_right _ h)
set_option maxHeartbeats 4000000 in
set_option maxRecDepth 100000 in
theorem c_X1_speakAll (l : Launch) (D : va_G) (ty : TY) (h0 : Nat) (a0 : Nat → Nat) (z0 : Ob) (p1 : Int32) (o0 : Int32) (o1 : Ob) (hf : f_X1_speakAll z0 p1 = some (o0, o1)) (sz : Nat) : CX l yX1_speakAll wsX1_speakAll rm_X1_speakAll ([.ref h0, .int p1] : List Value) D ty (fl [oX1 ty h0 a0 z0]) sz (qI D o0 (fl [oX1 ty h0 a0 o1])) 0 0 := by
  refine CX_of (cc := cX1_speakAll) (maxL := 4) (ret := (some .int)) (C := RX1) (by decide) rfl rfl (Nat.le_of_ble_eq_true rfl) ?_
  intro p e s m below meth c A ls F hr hlk _ hK hP hD hS hA hl
  have hx := F.1
  have hb := F.2.1
  replace hl : lv_has ls 4 [(0, .ref h0), (1, .int p1)] := hl
  unfold f_X1_speakAll at hf
  refine lv_iconst (v := (0 : Int32)) hx hb dX1_speakAll_0 (by decide) ?_
  refine lv_istore_n (lv' := [(2, .int (0 : Int32)), (0, .ref h0), (1, .int p1)]) hx hb dX1_speakAll_1 rfl hl (by decide) rfl (fun ls hl => ?_)
  refine lv_iconst (v := (0 : Int32)) hx hb dX1_speakAll_2 (by decide) ?_
  refine lv_istore_n (lv' := [(3, .int (0 : Int32)), (2, .int (0 : Int32)), (0, .ref h0), (1, .int p1)]) hx hb dX1_speakAll_3 rfl hl (by decide) rfl (fun ls hl => ?_)
  have L_4 : ∀ (n : Nat) (y2 : Int32) (y3 : Int32) (w0 : Ob) (H : Heap) (locs : List Loc) (ls : Array Slot), va_P D vwC (fl [oX1 ty h0 a0 w0]) H → va_D A (fl [oX1 ty h0 a0 w0]) → va_S A s.heap H locs → lv_has ls 4 [(0, .ref h0), (1, .int p1), (2, .int y2), (3, .int y3)] → fuel3 (b_X1_speakAll_4 p1) n y2 y3 w0 = some (o0, o1) → W p l e rm_X1_speakAll s m ([.ref h0, .int p1] : List Value).toArray below meth c H locs 0 0 (MQ below (qI D o0 (fl [oX1 ty h0 a0 o1]) A) ([.ref h0, .int p1] : List Value).toArray s 0 0 A) (F0 m 4 ls []) := by
    intro n
    induction n with
    | zero => intro y2 y3 w0 H locs ls hP hD hS hl hf; cases hf
    | succ n ih_4 =>
      intro y2 y3 w0 H locs ls hP hD hS hl hf
      replace hf : b_X1_speakAll_4 p1 (fuel3 (b_X1_speakAll_4 p1) n) y2 y3 w0 = some (o0, o1) := hf
      generalize fuel3 (b_X1_speakAll_4 p1) n = r_4 at ih_4 hf
      unfold b_X1_speakAll_4 at hf
      have J_25 : ∀ (y2 : Int32) (y3 : Int32) (w0 : Ob) (H : Heap) (locs : List Loc) (ls : Array Slot), va_P D vwC (fl [oX1 ty h0 a0 w0]) H → va_D A (fl [oX1 ty h0 a0 w0]) → va_S A s.heap H locs → lv_has ls 4 [(0, .ref h0), (1, .int p1), (2, .int y2), (3, .int y3)] → j_X1_speakAll_25 p1 r_4 y2 y3 w0 = some (o0, o1) → W p l e rm_X1_speakAll s m ([.ref h0, .int p1] : List Value).toArray below meth c H locs 0 0 (MQ below (qI D o0 (fl [oX1 ty h0 a0 o1]) A) ([.ref h0, .int p1] : List Value).toArray s 0 0 A) (F0 m 25 ls []) := by
        intro y2 y3 w0 H locs ls hP hD hS hl hf
        unfold j_X1_speakAll_25 at hf
        refine lv_aload_n hx hb dX1_speakAll_25 rfl (lv_at hl 0 rfl) ?_
        refine va_get (D := D) (ci := 1) (C := RX1) (T := TX1) (N := 12) hx hb F.2.2.2.2 in_X1_speakAll_X1 F.2.2.2.1 hK.1 hP 0 rfl rfl 3 (Nat.le_of_ble_eq_true rfl) (F.2.2.2.2 (.fieldLink RX1 21 "LouderRoom$Crowd" "voice" "[I") (List.mem_of_getElem? (i := 2) rfl)) (fun _ h9 => h9) rfl dX1_speakAll_26 ?_
        refine lv_iload_n hx hb dX1_speakAll_29 rfl (lv_at hl 3 rfl) ?_
        refine lv_iload_n hx hb dX1_speakAll_30 rfl (lv_at hl 1 rfl) ?_
        obtain ⟨hi, hf⟩ := grd hf
        refine pt_iast (w1 := fl [oX1 ty h0 a0 (sA w0 3 (upd (w0.2 3) y3.toNatClampNeg p1))]) F hK.1 hP hD hS 4 0 rfl rfl (inb_in hi) rfl dX1_speakAll_31 (fun H locs hP hD hS => ?_)
        obtain ⟨g1, ex⟩ : ∃ y : Ob, y = (sA w0 3 (upd (w0.2 3) y3.toNatClampNeg p1)) := ⟨_, rfl⟩
        replace hf := bnd_at hf ex; rw [← ex] at hP hD; clear ex
        obtain ⟨x2, ex⟩ : ∃ y : Int32, y = (y3 + (1 : Int32)) := ⟨_, rfl⟩
        replace hf := bnd_at hf ex
        refine lv_iinc (v := x2) (lv' := [(3, .int x2), (0, .ref h0), (1, .int p1), (2, .int y2)]) hx hb dX1_speakAll_32 hl (k := 3) rfl (by rw [ex]; rfl) (by decide) rfl (fun ls hl => ?_)
        clear ex
        refine lv_goto (tgt := 4) hx hb dX1_speakAll_35 (by decide) ?_
        exact ih_4 y2 x2 g1 _ _ _ hP hD hS (lv_sub hl [1, 2, 3, 0] rfl) hf
      refine lv_iload_n hx hb dX1_speakAll_4 rfl (lv_at hl 3 rfl) ?_
      refine lv_aload_n hx hb dX1_speakAll_5 rfl (lv_at hl 0 rfl) ?_
      refine va_get (D := D) (ci := 1) (C := RX1) (T := TX1) (N := 12) hx hb F.2.2.2.2 in_X1_speakAll_X1 F.2.2.2.1 hK.1 hP 0 rfl rfl 6 (Nat.le_of_ble_eq_true rfl) (F.2.2.2.2 (.fieldLink RX1 30 "LouderRoom$Crowd" "rings" "I") (List.mem_of_getElem? (i := 1) rfl)) (fun _ h9 => h9) rfl dX1_speakAll_6 ?_
      refine lv_icmp_ge (tgt := 38) hx hb dX1_speakAll_9 (by decide) (fun hc => ?_) (fun hc => ?_)
      · replace hf := ite_t hf hc
        refine lv_iload_n hx hb dX1_speakAll_38 rfl (lv_at hl 2 rfl) ?_
        obtain hf := hf
        obtain ⟨e0, e1⟩ := tup2 hf
        rw [e1] at hP hD
        exact CX_i F hr hlk hP hD hS e0 dX1_speakAll_39
      · replace hf := ite_f hf hc
        refine lv_aload_n hx hb dX1_speakAll_12 rfl (lv_at hl 0 rfl) ?_
        refine va_get (D := D) (ci := 1) (C := RX1) (T := TX1) (N := 12) hx hb F.2.2.2.2 in_X1_speakAll_X1 F.2.2.2.1 hK.1 hP 0 rfl rfl 3 (Nat.le_of_ble_eq_true rfl) (F.2.2.2.2 (.fieldLink RX1 21 "LouderRoom$Crowd" "voice" "[I") (List.mem_of_getElem? (i := 2) rfl)) (fun _ h9 => h9) rfl dX1_speakAll_13 ?_
        refine lv_iload_n hx hb dX1_speakAll_16 rfl (lv_at hl 3 rfl) ?_
        obtain ⟨hi, hf⟩ := grd hf
        refine va_iald hx hb hK.1 hP 4 0 rfl rfl (inb_in hi) dX1_speakAll_17 ?_
        refine lv_iload_n hx hb dX1_speakAll_18 rfl (lv_at hl 1 rfl) ?_
        refine lv_icmp_eq (tgt := 25) hx hb dX1_speakAll_19 (by decide) (fun hc => ?_) (fun hc => ?_)
        · replace hf := ite_t hf hc
          exact J_25 y2 y3 w0 _ _ _ hP hD hS (lv_sub hl [0, 1, 2, 3] rfl) hf
        · replace hf := ite_f hf hc
          obtain ⟨x3, ex⟩ : ∃ y : Int32, y = (y2 + (1 : Int32)) := ⟨_, rfl⟩
          replace hf := bnd_at hf ex
          refine lv_iinc (v := x3) (lv' := [(2, .int x3), (0, .ref h0), (1, .int p1), (3, .int y3)]) hx hb dX1_speakAll_22 hl (k := 2) rfl (by rw [ex]; rfl) (by decide) rfl (fun ls hl => ?_)
          clear ex
          exact J_25 x3 y3 w0 _ _ _ hP hD hS (lv_sub hl [1, 2, 0, 3] rfl) hf
  exact L_4 FU (0 : Int32) (0 : Int32) z0 _ _ _ hP hD hS (lv_sub hl [2, 3, 1, 0] rfl) hf
def b_X1_peopleAll_4 (z0 : Ob) (r_4 : Int32 → Int32 → Option (Int32)) (y1 : Int32) (y2 : Int32) : Option (Int32) := (if (z0.1 6) ≤ y2 then some y1 else (if inb y2 8 = true then bnd (y1 + (z0.2 2 y2.toNatClampNeg)) (fun x1 => bnd (y2 + (1 : Int32)) (fun x2 => r_4 x1 x2)) else none))
def f_X1_peopleAll (z0 : Ob) : Option (Int32) := fuel2 (b_X1_peopleAll_4 z0) FU (0 : Int32) (0 : Int32)
abbrev rm_X1_peopleAll : Room := { frames := 0, cells := 0, slots := 0, locals := 0 }
theorem hd_X1_peopleAll : yX1_peopleAll.cls ≠ "java/lang/invoke/MethodHandle" ∧ yX1_peopleAll.cls ≠ "java/lang/invoke/VarHandle" ∧ (parseMethodDescriptor yX1_peopleAll.desc).map (fun d => d.parameters.length) = some 0 := by decide +kernel
theorem in_X1_peopleAll_X1 : ∀ w ∈ wsX10, w ∈ wsX1_peopleAll := fun w h => List.mem_cons_of_mem _ (List.mem_append_right _ h)
set_option maxHeartbeats 4000000 in
set_option maxRecDepth 100000 in
theorem c_X1_peopleAll (l : Launch) (D : va_G) (ty : TY) (h0 : Nat) (a0 : Nat → Nat) (z0 : Ob) (o0 : Int32) (hf : f_X1_peopleAll z0 = some o0) (sz : Nat) : CX l yX1_peopleAll wsX1_peopleAll rm_X1_peopleAll ([.ref h0] : List Value) D ty (fl [oX1 ty h0 a0 z0]) sz (qI D o0 (fl [oX1 ty h0 a0 z0])) 0 0 := by
  refine CX_of (cc := cX1_peopleAll) (maxL := 3) (ret := (some .int)) (C := RX1) (by decide) rfl rfl (Nat.le_of_ble_eq_true rfl) ?_
  intro p e s m below meth c A ls F hr hlk _ hK hP hD hS hA hl
  have hx := F.1
  have hb := F.2.1
  replace hl : lv_has ls 3 [(0, .ref h0)] := hl
  unfold f_X1_peopleAll at hf
  refine lv_iconst (v := (0 : Int32)) hx hb dX1_peopleAll_0 (by decide) ?_
  refine lv_istore_n (lv' := [(1, .int (0 : Int32)), (0, .ref h0)]) hx hb dX1_peopleAll_1 rfl hl (by decide) rfl (fun ls hl => ?_)
  refine lv_iconst (v := (0 : Int32)) hx hb dX1_peopleAll_2 (by decide) ?_
  refine lv_istore_n (lv' := [(2, .int (0 : Int32)), (1, .int (0 : Int32)), (0, .ref h0)]) hx hb dX1_peopleAll_3 rfl hl (by decide) rfl (fun ls hl => ?_)
  have L_4 : ∀ (n : Nat) (y1 : Int32) (y2 : Int32) (H : Heap) (locs : List Loc) (ls : Array Slot), va_P D vwC (fl [oX1 ty h0 a0 z0]) H → va_D A (fl [oX1 ty h0 a0 z0]) → va_S A s.heap H locs → lv_has ls 3 [(0, .ref h0), (1, .int y1), (2, .int y2)] → fuel2 (b_X1_peopleAll_4 z0) n y1 y2 = some o0 → W p l e rm_X1_peopleAll s m ([.ref h0] : List Value).toArray below meth c H locs 0 0 (MQ below (qI D o0 (fl [oX1 ty h0 a0 z0]) A) ([.ref h0] : List Value).toArray s 0 0 A) (F0 m 4 ls []) := by
    intro n
    induction n with
    | zero => intro y1 y2 H locs ls hP hD hS hl hf; cases hf
    | succ n ih_4 =>
      intro y1 y2 H locs ls hP hD hS hl hf
      replace hf : b_X1_peopleAll_4 z0 (fuel2 (b_X1_peopleAll_4 z0) n) y1 y2 = some o0 := hf
      generalize fuel2 (b_X1_peopleAll_4 z0) n = r_4 at ih_4 hf
      unfold b_X1_peopleAll_4 at hf
      refine lv_iload_n hx hb dX1_peopleAll_4 rfl (lv_at hl 2 rfl) ?_
      refine lv_aload_n hx hb dX1_peopleAll_5 rfl (lv_at hl 0 rfl) ?_
      refine va_get (D := D) (ci := 1) (C := RX1) (T := TX1) (N := 12) hx hb F.2.2.2.2 in_X1_peopleAll_X1 F.2.2.2.1 hK.1 hP 0 rfl rfl 6 (Nat.le_of_ble_eq_true rfl) (F.2.2.2.2 (.fieldLink RX1 30 "LouderRoom$Crowd" "rings" "I") (List.mem_of_getElem? (i := 1) rfl)) (fun _ h9 => h9) rfl dX1_peopleAll_6 ?_
      refine lv_icmp_ge (tgt := 27) hx hb dX1_peopleAll_9 (by decide) (fun hc => ?_) (fun hc => ?_)
      · replace hf := ite_t hf hc
        refine lv_iload_n hx hb dX1_peopleAll_27 rfl (lv_at hl 1 rfl) ?_
        obtain hf := hf
        have e0 := Option.some.inj hf
        exact CX_i F hr hlk hP hD hS e0 dX1_peopleAll_28
      · replace hf := ite_f hf hc
        refine lv_iload_n hx hb dX1_peopleAll_12 rfl (lv_at hl 1 rfl) ?_
        refine lv_aload_n hx hb dX1_peopleAll_13 rfl (lv_at hl 0 rfl) ?_
        refine va_get (D := D) (ci := 1) (C := RX1) (T := TX1) (N := 12) hx hb F.2.2.2.2 in_X1_peopleAll_X1 F.2.2.2.1 hK.1 hP 0 rfl rfl 2 (Nat.le_of_ble_eq_true rfl) (F.2.2.2.2 (.fieldLink RX1 18 "LouderRoom$Crowd" "people" "[I") (List.mem_of_getElem? (i := 2) rfl)) (fun _ h9 => h9) rfl dX1_peopleAll_14 ?_
        refine lv_iload_n hx hb dX1_peopleAll_17 rfl (lv_at hl 2 rfl) ?_
        obtain ⟨hi, hf⟩ := grd hf
        refine va_iald hx hb hK.1 hP 3 0 rfl rfl (inb_in hi) dX1_peopleAll_18 ?_
        refine lv_iadd hx hb dX1_peopleAll_19 ?_
        refine lv_topi (fun x1 ex => ?_)
        replace hf := bnd_at hf ex; clear ex
        refine lv_istore_n (lv' := [(1, .int x1), (0, .ref h0), (2, .int y2)]) hx hb dX1_peopleAll_20 rfl hl (by decide) rfl (fun ls hl => ?_)
        obtain ⟨x2, ex⟩ : ∃ y : Int32, y = (y2 + (1 : Int32)) := ⟨_, rfl⟩
        replace hf := bnd_at hf ex
        refine lv_iinc (v := x2) (lv' := [(2, .int x2), (1, .int x1), (0, .ref h0)]) hx hb dX1_peopleAll_21 hl (k := 2) rfl (by rw [ex]; rfl) (by decide) rfl (fun ls hl => ?_)
        clear ex
        refine lv_goto (tgt := 4) hx hb dX1_peopleAll_24 (by decide) ?_
        exact ih_4 x1 x2 _ _ _ hP hD hS (lv_sub hl [2, 1, 0] rfl) hf
  exact L_4 FU (0 : Int32) (0 : Int32) _ _ _ hP hD hS (lv_sub hl [2, 1, 0] rfl) hf
def j_X1_loudOf_22 (z0 : Ob) (p1 : Int32)  : Option (Int32) := some (0 : Int32)
def f_X1_loudOf (z0 : Ob) (p1 : Int32) : Option (Int32) := (if inb p1 8 = true then (if (z0.2 2 p1.toNatClampNeg) = (1 : Int32) then j_X1_loudOf_22 z0 p1  else (if (((z0.1 11) >>> (p1 &&& 31)) &&& (1 : Int32)) = (1 : Int32) then j_X1_loudOf_22 z0 p1  else (if inb p1 8 = true then some ((1 : Int32) <<< ((z0.2 3 p1.toNatClampNeg) &&& 31)) else none))) else none)
abbrev rm_X1_loudOf : Room := { frames := 0, cells := 0, slots := 0, locals := 0 }
theorem hd_X1_loudOf : yX1_loudOf.cls ≠ "java/lang/invoke/MethodHandle" ∧ yX1_loudOf.cls ≠ "java/lang/invoke/VarHandle" ∧ (parseMethodDescriptor yX1_loudOf.desc).map (fun d => d.parameters.length) = some 1 := by decide +kernel
theorem in_X1_loudOf_X1 : ∀ w ∈ wsX10, w ∈ wsX1_loudOf := fun w h => List.mem_cons_of_mem _ (List.mem_append_right _ h)
set_option maxHeartbeats 4000000 in
set_option maxRecDepth 100000 in
theorem c_X1_loudOf (l : Launch) (D : va_G) (ty : TY) (h0 : Nat) (a0 : Nat → Nat) (z0 : Ob) (p1 : Int32) (o0 : Int32) (hf : f_X1_loudOf z0 p1 = some o0) (sz : Nat) : CX l yX1_loudOf wsX1_loudOf rm_X1_loudOf ([.ref h0, .int p1] : List Value) D ty (fl [oX1 ty h0 a0 z0]) sz (qI D o0 (fl [oX1 ty h0 a0 z0])) 0 0 := by
  refine CX_of (cc := cX1_loudOf) (maxL := 2) (ret := (some .int)) (C := RX1) (by decide) rfl rfl (Nat.le_of_ble_eq_true rfl) ?_
  intro p e s m below meth c A ls F hr hlk _ hK hP hD hS hA hl
  have hx := F.1
  have hb := F.2.1
  replace hl : lv_has ls 2 [(0, .ref h0), (1, .int p1)] := hl
  unfold f_X1_loudOf at hf
  have J_22 : ∀  (H : Heap) (locs : List Loc) (ls : Array Slot), va_P D vwC (fl [oX1 ty h0 a0 z0]) H → va_D A (fl [oX1 ty h0 a0 z0]) → va_S A s.heap H locs → lv_has ls 2 [] → j_X1_loudOf_22 z0 p1  = some o0 → W p l e rm_X1_loudOf s m ([.ref h0, .int p1] : List Value).toArray below meth c H locs 0 0 (MQ below (qI D o0 (fl [oX1 ty h0 a0 z0]) A) ([.ref h0, .int p1] : List Value).toArray s 0 0 A) (F0 m 22 ls []) := by
    intro  H locs ls hP hD hS hl hf
    unfold j_X1_loudOf_22 at hf
    refine lv_iconst (v := (0 : Int32)) hx hb dX1_loudOf_22 (by decide) ?_
    refine lv_goto (tgt := 34) hx hb dX1_loudOf_23 (by decide) ?_
    obtain hf := hf
    have e0 := Option.some.inj hf
    exact CX_i F hr hlk hP hD hS e0 dX1_loudOf_34
  refine lv_aload_n hx hb dX1_loudOf_0 rfl (lv_at hl 0 rfl) ?_
  refine va_get (D := D) (ci := 1) (C := RX1) (T := TX1) (N := 12) hx hb F.2.2.2.2 in_X1_loudOf_X1 F.2.2.2.1 hK.1 hP 0 rfl rfl 2 (Nat.le_of_ble_eq_true rfl) (F.2.2.2.2 (.fieldLink RX1 18 "LouderRoom$Crowd" "people" "[I") (List.mem_of_getElem? (i := 1) rfl)) (fun _ h9 => h9) rfl dX1_loudOf_1 ?_
  refine lv_iload_n hx hb dX1_loudOf_4 rfl (lv_at hl 1 rfl) ?_
  obtain ⟨hi, hf⟩ := grd hf
  refine va_iald hx hb hK.1 hP 3 0 rfl rfl (inb_in hi) dX1_loudOf_5 ?_
  refine lv_iconst (v := (1 : Int32)) hx hb dX1_loudOf_6 (by decide) ?_
  refine lv_icmp_eq (tgt := 22) hx hb dX1_loudOf_7 (by decide) (fun hc => ?_) (fun hc => ?_)
  · replace hf := ite_t hf hc
    exact J_22 _ _ _ hP hD hS (lv_sub hl [] rfl) hf
  · replace hf := ite_f hf hc
    refine lv_aload_n hx hb dX1_loudOf_10 rfl (lv_at hl 0 rfl) ?_
    refine va_get (D := D) (ci := 1) (C := RX1) (T := TX1) (N := 12) hx hb F.2.2.2.2 in_X1_loudOf_X1 F.2.2.2.1 hK.1 hP 0 rfl rfl 11 (Nat.le_of_ble_eq_true rfl) (F.2.2.2.2 (.fieldLink RX1 44 "LouderRoom$Crowd" "silent" "I") (List.mem_of_getElem? (i := 2) rfl)) (fun _ h9 => h9) rfl dX1_loudOf_11 ?_
    refine lv_iload_n hx hb dX1_loudOf_14 rfl (lv_at hl 1 rfl) ?_
    refine lv_ishr hx hb dX1_loudOf_15 ?_
    refine lv_iconst (v := (1 : Int32)) hx hb dX1_loudOf_16 (by decide) ?_
    refine lv_iand hx hb dX1_loudOf_17 ?_
    refine lv_iconst (v := (1 : Int32)) hx hb dX1_loudOf_18 (by decide) ?_
    refine lv_icmp_ne (tgt := 26) hx hb dX1_loudOf_19 (by decide) (fun hc => ?_) (fun hc => ?_)
    · replace hf := ite_f hf hc
      refine lv_iconst (v := (1 : Int32)) hx hb dX1_loudOf_26 (by decide) ?_
      refine lv_aload_n hx hb dX1_loudOf_27 rfl (lv_at hl 0 rfl) ?_
      refine va_get (D := D) (ci := 1) (C := RX1) (T := TX1) (N := 12) hx hb F.2.2.2.2 in_X1_loudOf_X1 F.2.2.2.1 hK.1 hP 0 rfl rfl 3 (Nat.le_of_ble_eq_true rfl) (F.2.2.2.2 (.fieldLink RX1 21 "LouderRoom$Crowd" "voice" "[I") (List.mem_of_getElem? (i := 3) rfl)) (fun _ h9 => h9) rfl dX1_loudOf_28 ?_
      refine lv_iload_n hx hb dX1_loudOf_31 rfl (lv_at hl 1 rfl) ?_
      obtain ⟨hi, hf⟩ := grd hf
      refine va_iald hx hb hK.1 hP 4 0 rfl rfl (inb_in hi) dX1_loudOf_32 ?_
      refine lv_ishl hx hb dX1_loudOf_33 ?_
      obtain hf := hf
      have e0 := Option.some.inj hf
      exact CX_i F hr hlk hP hD hS e0 dX1_loudOf_34
    · replace hf := ite_t hf hc
      exact J_22 _ _ _ hP hD hS (lv_sub hl [] rfl) hf
def b_X1_loudAll_4 (z0 : Ob) (r_4 : Int32 → Int32 → Option (Int32)) (y1 : Int32) (y2 : Int32) : Option (Int32) := (if (z0.1 6) ≤ y2 then some y1 else (f_X1_loudOf z0 y2).bind (fun v1 => bnd (y1 + v1) (fun x2 => bnd (y2 + (1 : Int32)) (fun x3 => r_4 x2 x3))))
def f_X1_loudAll (z0 : Ob) : Option (Int32) := fuel2 (b_X1_loudAll_4 z0) FU (0 : Int32) (0 : Int32)
abbrev rm_X1_loudAll : Room := { frames := 1, cells := 0, slots := 0, locals := 21 }
theorem hd_X1_loudAll : yX1_loudAll.cls ≠ "java/lang/invoke/MethodHandle" ∧ yX1_loudAll.cls ≠ "java/lang/invoke/VarHandle" ∧ (parseMethodDescriptor yX1_loudAll.desc).map (fun d => d.parameters.length) = some 0 := by decide +kernel
theorem in_X1_loudAll_X1 : ∀ w ∈ wsX10, w ∈ wsX1_loudAll := fun w h => List.mem_cons_of_mem _ (List.mem_append_right _ h)
set_option maxHeartbeats 4000000 in
set_option maxRecDepth 100000 in
theorem c_X1_loudAll (l : Launch) (D : va_G) (ty : TY) (h0 : Nat) (a0 : Nat → Nat) (z0 : Ob) (o0 : Int32) (hf : f_X1_loudAll z0 = some o0) (sz : Nat) : CX l yX1_loudAll wsX1_loudAll rm_X1_loudAll ([.ref h0] : List Value) D ty (fl [oX1 ty h0 a0 z0]) sz (qI D o0 (fl [oX1 ty h0 a0 z0])) 0 0 := by
  refine CX_of (cc := cX1_loudAll) (maxL := 3) (ret := (some .int)) (C := RX1) (by decide) rfl rfl (Nat.le_of_ble_eq_true rfl) ?_
  intro p e s m below meth c A ls F hr hlk _ hK hP hD hS hA hl
  have hx := F.1
  have hb := F.2.1
  replace hl : lv_has ls 3 [(0, .ref h0)] := hl
  unfold f_X1_loudAll at hf
  refine lv_iconst (v := (0 : Int32)) hx hb dX1_loudAll_0 (by decide) ?_
  refine lv_istore_n (lv' := [(1, .int (0 : Int32)), (0, .ref h0)]) hx hb dX1_loudAll_1 rfl hl (by decide) rfl (fun ls hl => ?_)
  refine lv_iconst (v := (0 : Int32)) hx hb dX1_loudAll_2 (by decide) ?_
  refine lv_istore_n (lv' := [(2, .int (0 : Int32)), (1, .int (0 : Int32)), (0, .ref h0)]) hx hb dX1_loudAll_3 rfl hl (by decide) rfl (fun ls hl => ?_)
  have L_4 : ∀ (n : Nat) (y1 : Int32) (y2 : Int32) (H : Heap) (locs : List Loc) (ls : Array Slot), va_P D vwC (fl [oX1 ty h0 a0 z0]) H → va_D A (fl [oX1 ty h0 a0 z0]) → va_S A s.heap H locs → lv_has ls 3 [(0, .ref h0), (1, .int y1), (2, .int y2)] → fuel2 (b_X1_loudAll_4 z0) n y1 y2 = some o0 → W p l e rm_X1_loudAll s m ([.ref h0] : List Value).toArray below meth c H locs 0 0 (MQ below (qI D o0 (fl [oX1 ty h0 a0 z0]) A) ([.ref h0] : List Value).toArray s 0 0 A) (F0 m 4 ls []) := by
    intro n
    induction n with
    | zero => intro y1 y2 H locs ls hP hD hS hl hf; cases hf
    | succ n ih_4 =>
      intro y1 y2 H locs ls hP hD hS hl hf
      replace hf : b_X1_loudAll_4 z0 (fuel2 (b_X1_loudAll_4 z0) n) y1 y2 = some o0 := hf
      generalize fuel2 (b_X1_loudAll_4 z0) n = r_4 at ih_4 hf
      unfold b_X1_loudAll_4 at hf
      refine lv_iload_n hx hb dX1_loudAll_4 rfl (lv_at hl 2 rfl) ?_
      refine lv_aload_n hx hb dX1_loudAll_5 rfl (lv_at hl 0 rfl) ?_
      refine va_get (D := D) (ci := 1) (C := RX1) (T := TX1) (N := 12) hx hb F.2.2.2.2 in_X1_loudAll_X1 F.2.2.2.1 hK.1 hP 0 rfl rfl 6 (Nat.le_of_ble_eq_true rfl) (F.2.2.2.2 (.fieldLink RX1 30 "LouderRoom$Crowd" "rings" "I") (List.mem_of_getElem? (i := 1) rfl)) (fun _ h9 => h9) rfl dX1_loudAll_6 ?_
      refine lv_icmp_ge (tgt := 26) hx hb dX1_loudAll_9 (by decide) (fun hc => ?_) (fun hc => ?_)
      · replace hf := ite_t hf hc
        refine lv_iload_n hx hb dX1_loudAll_26 rfl (lv_at hl 1 rfl) ?_
        obtain hf := hf
        have e0 := Option.some.inj hf
        exact CX_i F hr hlk hP hD hS e0 dX1_loudAll_27
      · replace hf := ite_f hf hc
        refine lv_iload_n hx hb dX1_loudAll_12 rfl (lv_at hl 1 rfl) ?_
        refine lv_aload_n hx hb dX1_loudAll_13 rfl (lv_at hl 0 rfl) ?_
        refine lv_iload_n hx hb dX1_loudAll_14 rfl (lv_at hl 2 rfl) ?_
        obtain ⟨v1, hv, hf⟩ := obd hf
        have hp1 : List.Perm [oX1 ty h0 a0 z0] ([oX1 ty h0 a0 z0] ++ []) := (List.Perm.refl _)
        refine ci_call (out := v1) (os := [oX1 ty h0 a0 z0]) (oc := [oX1 ty h0 a0 z0]) (oc' := [oX1 ty h0 a0 z0]) (or_ := []) (os' := [oX1 ty h0 a0 z0]) (va_runV (As := [.int y2]) (rest := [.int y1]) F (c_X1_loudOf l D ty h0 a0 _ _ _ hv _) (cwV 1 F.2.2.2.2 gX1_loudAll_X1_loudOf rfl rfl rfl ⟨rfl, hd_X1_loudOf⟩ ⟨Nat.le_of_ble_eq_true rfl, Nat.le_of_ble_eq_true rfl⟩) (pre_v hK hP hD hp1 rfl rfl rfl) rfl rfl hl.1 rfl (lv_room (Nat.le_of_ble_eq_true rfl)) dX1_loudAll_15 ⟨Nat.zero_le _, Nat.zero_le _⟩) hp1 (List.Perm.refl _) hP hD hS hA (fun H locs hP hD hS => ?_)
        clear hp1 hv
        refine lv_iadd hx hb dX1_loudAll_18 ?_
        refine lv_topi (fun x2 ex => ?_)
        replace hf := bnd_at hf ex; clear ex
        refine lv_istore_n (lv' := [(1, .int x2), (0, .ref h0), (2, .int y2)]) hx hb dX1_loudAll_19 rfl hl (by decide) rfl (fun ls hl => ?_)
        obtain ⟨x3, ex⟩ : ∃ y : Int32, y = (y2 + (1 : Int32)) := ⟨_, rfl⟩
        replace hf := bnd_at hf ex
        refine lv_iinc (v := x3) (lv' := [(2, .int x3), (1, .int x2), (0, .ref h0)]) hx hb dX1_loudAll_20 hl (k := 2) rfl (by rw [ex]; rfl) (by decide) rfl (fun ls hl => ?_)
        clear ex
        refine lv_goto (tgt := 4) hx hb dX1_loudAll_23 (by decide) ?_
        exact ih_4 x2 x3 _ _ _ hP hD hS (lv_sub hl [2, 1, 0] rfl) hf
  exact L_4 FU (0 : Int32) (0 : Int32) _ _ _ hP hD hS (lv_sub hl [2, 1, 0] rfl) hf
def f_X1_loudMusic (z0 : Ob) : Option (Int32) := (if (z0.1 8) = 0 then some (0 : Int32) else some ((1 : Int32) <<< ((z0.1 8) &&& 31)))
abbrev rm_X1_loudMusic : Room := { frames := 0, cells := 0, slots := 0, locals := 0 }
theorem hd_X1_loudMusic : yX1_loudMusic.cls ≠ "java/lang/invoke/MethodHandle" ∧ yX1_loudMusic.cls ≠ "java/lang/invoke/VarHandle" ∧ (parseMethodDescriptor yX1_loudMusic.desc).map (fun d => d.parameters.length) = some 0 := by decide +kernel
theorem in_X1_loudMusic_X1 : ∀ w ∈ wsX10, w ∈ wsX1_loudMusic := fun w h => List.mem_cons_of_mem _ (List.mem_append_right _ h)
set_option maxHeartbeats 4000000 in
set_option maxRecDepth 100000 in
theorem c_X1_loudMusic (l : Launch) (D : va_G) (ty : TY) (h0 : Nat) (a0 : Nat → Nat) (z0 : Ob) (o0 : Int32) (hf : f_X1_loudMusic z0 = some o0) (sz : Nat) : CX l yX1_loudMusic wsX1_loudMusic rm_X1_loudMusic ([.ref h0] : List Value) D ty (fl [oX1 ty h0 a0 z0]) sz (qI D o0 (fl [oX1 ty h0 a0 z0])) 0 0 := by
  refine CX_of (cc := cX1_loudMusic) (maxL := 1) (ret := (some .int)) (C := RX1) (by decide) rfl rfl (Nat.le_of_ble_eq_true rfl) ?_
  intro p e s m below meth c A ls F hr hlk _ hK hP hD hS hA hl
  have hx := F.1
  have hb := F.2.1
  replace hl : lv_has ls 1 [(0, .ref h0)] := hl
  unfold f_X1_loudMusic at hf
  refine lv_aload_n hx hb dX1_loudMusic_0 rfl (lv_at hl 0 rfl) ?_
  refine va_get (D := D) (ci := 1) (C := RX1) (T := TX1) (N := 12) hx hb F.2.2.2.2 in_X1_loudMusic_X1 F.2.2.2.1 hK.1 hP 0 rfl rfl 8 (Nat.le_of_ble_eq_true rfl) (F.2.2.2.2 (.fieldLink RX1 37 "LouderRoom$Crowd" "music" "I") (List.mem_of_getElem? (i := 1) rfl)) (fun _ h9 => h9) rfl dX1_loudMusic_1 ?_
  refine lv_if_ne (tgt := 11) hx hb dX1_loudMusic_4 (by decide) (fun hc => ?_) (fun hc => ?_)
  · replace hf := ite_f hf hc
    refine lv_iconst (v := (1 : Int32)) hx hb dX1_loudMusic_11 (by decide) ?_
    refine lv_aload_n hx hb dX1_loudMusic_12 rfl (lv_at hl 0 rfl) ?_
    refine va_get (D := D) (ci := 1) (C := RX1) (T := TX1) (N := 12) hx hb F.2.2.2.2 in_X1_loudMusic_X1 F.2.2.2.1 hK.1 hP 0 rfl rfl 8 (Nat.le_of_ble_eq_true rfl) (F.2.2.2.2 (.fieldLink RX1 37 "LouderRoom$Crowd" "music" "I") (List.mem_of_getElem? (i := 1) rfl)) (fun _ h9 => h9) rfl dX1_loudMusic_13 ?_
    refine lv_ishl hx hb dX1_loudMusic_16 ?_
    obtain hf := hf
    have e0 := Option.some.inj hf
    exact CX_i F hr hlk hP hD hS e0 dX1_loudMusic_17
  · replace hf := ite_t hf hc
    refine lv_iconst (v := (0 : Int32)) hx hb dX1_loudMusic_7 (by decide) ?_
    refine lv_goto (tgt := 17) hx hb dX1_loudMusic_8 (by decide) ?_
    obtain hf := hf
    have e0 := Option.some.inj hf
    exact CX_i F hr hlk hP hD hS e0 dX1_loudMusic_17
def f_X1_echoing (z0 : Ob) : Option (Int32) := (f_X1_loudAll z0).bind (fun v1 => (f_X1_loudMusic z0).bind (fun v2 => some (((v1 + v2) * (if (0 : Int32) < ((10 : Int32) - (z0.1 7)) then ((10 : Int32) - (z0.1 7)) else (0 : Int32))) / (10 : Int32))))
abbrev rm_X1_echoing : Room := { frames := 2, cells := 0, slots := 0, locals := 43 }
theorem hd_X1_echoing : yX1_echoing.cls ≠ "java/lang/invoke/MethodHandle" ∧ yX1_echoing.cls ≠ "java/lang/invoke/VarHandle" ∧ (parseMethodDescriptor yX1_echoing.desc).map (fun d => d.parameters.length) = some 0 := by decide +kernel
theorem in_X1_echoing_X1 : ∀ w ∈ wsX10, w ∈ wsX1_echoing := fun w h => List.mem_cons_of_mem _ (List.mem_append_right _ h)
set_option maxHeartbeats 4000000 in
set_option maxRecDepth 100000 in
theorem c_X1_echoing (l : Launch) (D : va_G) (ty : TY) (h0 : Nat) (a0 : Nat → Nat) (z0 : Ob) (o0 : Int32) (hf : f_X1_echoing z0 = some o0) (sz : Nat) : CX l yX1_echoing wsX1_echoing rm_X1_echoing ([.ref h0] : List Value) D ty (fl [oX1 ty h0 a0 z0]) sz (qI D o0 (fl [oX1 ty h0 a0 z0])) 0 0 := by
  refine CX_of (cc := cX1_echoing) (maxL := 1) (ret := (some .int)) (C := RX1) (by decide) rfl rfl (Nat.le_of_ble_eq_true rfl) ?_
  intro p e s m below meth c A ls F hr hlk _ hK hP hD hS hA hl
  have hx := F.1
  have hb := F.2.1
  replace hl : lv_has ls 1 [(0, .ref h0)] := hl
  unfold f_X1_echoing at hf
  refine lv_aload_n hx hb dX1_echoing_0 rfl (lv_at hl 0 rfl) ?_
  obtain ⟨v1, hv, hf⟩ := obd hf
  have hp1 : List.Perm [oX1 ty h0 a0 z0] ([oX1 ty h0 a0 z0] ++ []) := (List.Perm.refl _)
  refine ci_call (out := v1) (os := [oX1 ty h0 a0 z0]) (oc := [oX1 ty h0 a0 z0]) (oc' := [oX1 ty h0 a0 z0]) (or_ := []) (os' := [oX1 ty h0 a0 z0]) (va_runV (As := []) (rest := []) F (c_X1_loudAll l D ty h0 a0 _ _ hv _) (cwV 0 F.2.2.2.2 gX1_echoing_X1_loudAll rfl rfl rfl ⟨rfl, hd_X1_loudAll⟩ ⟨Nat.le_of_ble_eq_true rfl, Nat.le_of_ble_eq_true rfl⟩) (pre_v hK hP hD hp1 rfl rfl rfl) rfl rfl hl.1 rfl (lv_room (Nat.le_of_ble_eq_true rfl)) dX1_echoing_1 ⟨Nat.zero_le _, Nat.zero_le _⟩) hp1 (List.Perm.refl _) hP hD hS hA (fun H locs hP hD hS => ?_)
  clear hp1 hv
  refine lv_aload_n hx hb dX1_echoing_4 rfl (lv_at hl 0 rfl) ?_
  obtain ⟨v2, hv, hf⟩ := obd hf
  have hp1 : List.Perm [oX1 ty h0 a0 z0] ([oX1 ty h0 a0 z0] ++ []) := (List.Perm.refl _)
  refine ci_call (out := v2) (os := [oX1 ty h0 a0 z0]) (oc := [oX1 ty h0 a0 z0]) (oc' := [oX1 ty h0 a0 z0]) (or_ := []) (os' := [oX1 ty h0 a0 z0]) (va_runV (As := []) (rest := [.int v1]) F (c_X1_loudMusic l D ty h0 a0 _ _ hv _) (cwV 0 F.2.2.2.2 gX1_echoing_X1_loudMusic rfl rfl rfl ⟨rfl, hd_X1_loudMusic⟩ ⟨Nat.le_of_ble_eq_true rfl, Nat.le_of_ble_eq_true rfl⟩) (pre_v hK hP hD hp1 rfl rfl rfl) rfl rfl hl.1 rfl (lv_room (Nat.le_of_ble_eq_true rfl)) dX1_echoing_5 ⟨Nat.zero_le _, Nat.zero_le _⟩) hp1 (List.Perm.refl _) hP hD hS hA (fun H locs hP hD hS => ?_)
  clear hp1 hv
  refine lv_iadd hx hb dX1_echoing_8 ?_
  refine lv_iconst (v := (0 : Int32)) hx hb dX1_echoing_9 (by decide) ?_
  refine lv_bipush (v := (10 : Int32)) hx hb dX1_echoing_10 (by decide) ?_
  refine lv_aload_n hx hb dX1_echoing_12 rfl (lv_at hl 0 rfl) ?_
  refine va_get (D := D) (ci := 1) (C := RX1) (T := TX1) (N := 12) hx hb F.2.2.2.2 in_X1_echoing_X1 F.2.2.2.1 hK.1 hP 0 rfl rfl 7 (Nat.le_of_ble_eq_true rfl) (F.2.2.2.2 (.fieldLink RX1 34 "LouderRoom$Crowd" "eats" "I") (List.mem_of_getElem? (i := 1) rfl)) (fun _ h9 => h9) rfl dX1_echoing_13 ?_
  refine lv_isub hx hb dX1_echoing_16 ?_
  refine va_mmax hx hb (F.2.2.1.trans hl.1.symm) F.2.2.2.1 (F.2.2.2.2 (.methodLink RX1 78 Lib.Math.max.name) (List.mem_of_getElem? (i := 2) rfl)) (F.2.2.2.2 (.static Lib.Math.max.name) (List.mem_of_getElem? (i := 3) rfl)) (F.2.2.2.2 (.initialized "java/lang/Math") (List.mem_of_getElem? (i := 4) rfl)) (F.2.2.2.2 (.code Lib.Math.max.name Lib.Math.max.code 2 (some .int)) (List.mem_of_getElem? (i := 5) rfl)) (Nat.le_of_ble_eq_true rfl) (Nat.le_of_ble_eq_true rfl) (Nat.zero_le _) (Nat.zero_le _) dX1_echoing_17 ?_
  refine lv_imul hx hb dX1_echoing_20 ?_
  refine lv_bipush (v := (10 : Int32)) hx hb dX1_echoing_21 (by decide) ?_
  refine lv_idiv hx hb dX1_echoing_23 (by decide) ?_
  obtain hf := hf
  have e0 := Option.some.inj hf
  exact CX_i F hr hlk hP hD hS e0 dX1_echoing_24
def f_X1_fromRing (z0 : Ob) (p1 : Int32) (p2 : Int32) : Option (Int32) := (if inb p1 8 = true then (f_X6_squareApart p2 (z0.2 1 p1.toNatClampNeg)).bind (fun v1 => (if v1 = 0 then some (0 : Int32) else (f_X1_loudOf z0 p1).bind (fun v2 => (if v1 = 0 then none else some ((v2 * (4 : Int32)) / v1))))) else none)
abbrev rm_X1_fromRing : Room := { frames := 1, cells := 0, slots := 0, locals := 23 }
theorem hd_X1_fromRing : yX1_fromRing.cls ≠ "java/lang/invoke/MethodHandle" ∧ yX1_fromRing.cls ≠ "java/lang/invoke/VarHandle" ∧ (parseMethodDescriptor yX1_fromRing.desc).map (fun d => d.parameters.length) = some 2 := by decide +kernel
theorem in_X1_fromRing_X1 : ∀ w ∈ wsX10, w ∈ wsX1_fromRing := fun w h => List.mem_cons_of_mem _ (List.mem_append_right _ h)
set_option maxHeartbeats 4000000 in
set_option maxRecDepth 100000 in
theorem c_X1_fromRing (l : Launch) (D : va_G) (ty : TY) (h0 : Nat) (a0 : Nat → Nat) (z0 : Ob) (p1 : Int32) (p2 : Int32) (o0 : Int32) (hf : f_X1_fromRing z0 p1 p2 = some o0) (sz : Nat) : CX l yX1_fromRing wsX1_fromRing rm_X1_fromRing ([.ref h0, .int p1, .int p2] : List Value) D ty (fl [oX1 ty h0 a0 z0]) sz (qI D o0 (fl [oX1 ty h0 a0 z0])) 0 0 := by
  refine CX_of (cc := cX1_fromRing) (maxL := 4) (ret := (some .int)) (C := RX1) (by decide) rfl rfl (Nat.le_of_ble_eq_true rfl) ?_
  intro p e s m below meth c A ls F hr hlk _ hK hP hD hS hA hl
  have hx := F.1
  have hb := F.2.1
  replace hl : lv_has ls 4 [(0, .ref h0), (1, .int p1), (2, .int p2)] := hl
  unfold f_X1_fromRing at hf
  refine lv_iload_n hx hb dX1_fromRing_0 rfl (lv_at hl 2 rfl) ?_
  refine lv_aload_n hx hb dX1_fromRing_1 rfl (lv_at hl 0 rfl) ?_
  refine va_get (D := D) (ci := 1) (C := RX1) (T := TX1) (N := 12) hx hb F.2.2.2.2 in_X1_fromRing_X1 F.2.2.2.1 hK.1 hP 0 rfl rfl 1 (Nat.le_of_ble_eq_true rfl) (F.2.2.2.2 (.fieldLink RX1 15 "LouderRoom$Crowd" "cell" "[I") (List.mem_of_getElem? (i := 1) rfl)) (fun _ h9 => h9) rfl dX1_fromRing_2 ?_
  refine lv_iload_n hx hb dX1_fromRing_5 rfl (lv_at hl 1 rfl) ?_
  obtain ⟨hi, hf⟩ := grd hf
  refine va_iald hx hb hK.1 hP 2 0 rfl rfl (inb_in hi) dX1_fromRing_6 ?_
  obtain ⟨v1, hv, hf⟩ := obd hf
  have hp1 : List.Perm [oX1 ty h0 a0 z0] ([] ++ [oX1 ty h0 a0 z0]) := (List.Perm.refl _)
  refine ci_call (out := v1) (os := [oX1 ty h0 a0 z0]) (oc := []) (oc' := []) (or_ := [oX1 ty h0 a0 z0]) (os' := [oX1 ty h0 a0 z0]) (va_runSN (As := [.int p2, .int (z0.2 1 p1.toNatClampNeg)]) (rest := []) F (c_X6_squareApart l D ty _ _ _ hv _) ⟨va_cnB 2 F.2.2.2.2 gX1_fromRing_X6_squareApart_n59 rfl rfl rfl (KN.nw hK 26 rfl) (F.2.2.2.2 (.initialized RX6) (List.mem_of_getElem? (i := 3) rfl)) hd_X6_squareApart ⟨Nat.le_of_ble_eq_true rfl, Nat.le_of_ble_eq_true rfl⟩, (F.2.2.2.2 (.static yX6_squareApart) (List.mem_of_getElem? (i := 2) rfl)), trivial⟩ (pre_s hK hP hD hp1) rfl rfl hl.1 rfl (lv_room (Nat.le_of_ble_eq_true rfl)) dX1_fromRing_7 ⟨Nat.zero_le _, Nat.zero_le _⟩) hp1 (List.Perm.refl _) hP hD hS hA (fun H locs hP hD hS => ?_)
  clear hp1 hv
  refine lv_istore_n (lv' := [(3, .int v1), (0, .ref h0), (1, .int p1), (2, .int p2)]) hx hb dX1_fromRing_10 rfl hl (by decide) rfl (fun ls hl => ?_)
  refine lv_iload_n hx hb dX1_fromRing_11 rfl (lv_at hl 0 rfl) ?_
  refine lv_if_ne (tgt := 19) hx hb dX1_fromRing_12 (by decide) (fun hc => ?_) (fun hc => ?_)
  · replace hf := ite_f hf hc
    refine lv_aload_n hx hb dX1_fromRing_19 rfl (lv_at hl 1 rfl) ?_
    refine lv_iload_n hx hb dX1_fromRing_20 rfl (lv_at hl 2 rfl) ?_
    obtain ⟨v2, hv, hf⟩ := obd hf
    have hp1 : List.Perm [oX1 ty h0 a0 z0] ([oX1 ty h0 a0 z0] ++ []) := (List.Perm.refl _)
    refine ci_call (out := v2) (os := [oX1 ty h0 a0 z0]) (oc := [oX1 ty h0 a0 z0]) (oc' := [oX1 ty h0 a0 z0]) (or_ := []) (os' := [oX1 ty h0 a0 z0]) (va_runV (As := [.int p1]) (rest := []) F (c_X1_loudOf l D ty h0 a0 _ _ _ hv _) (cwV 1 F.2.2.2.2 gX1_fromRing_X1_loudOf rfl rfl rfl ⟨rfl, hd_X1_loudOf⟩ ⟨Nat.le_of_ble_eq_true rfl, Nat.le_of_ble_eq_true rfl⟩) (pre_v hK hP hD hp1 rfl rfl rfl) rfl rfl hl.1 rfl (lv_room (Nat.le_of_ble_eq_true rfl)) dX1_fromRing_21 ⟨Nat.zero_le _, Nat.zero_le _⟩) hp1 (List.Perm.refl _) hP hD hS hA (fun H locs hP hD hS => ?_)
    clear hp1 hv
    refine lv_iconst (v := (4 : Int32)) hx hb dX1_fromRing_24 (by decide) ?_
    refine lv_imul hx hb dX1_fromRing_25 ?_
    refine lv_iload_n hx hb dX1_fromRing_26 rfl (lv_at hl 0 rfl) ?_
    obtain ⟨hne, hf⟩ := grz hf
    refine lv_idiv hx hb dX1_fromRing_27 hne ?_
    obtain hf := hf
    have e0 := Option.some.inj hf
    exact CX_i F hr hlk hP hD hS e0 dX1_fromRing_28
  · replace hf := ite_t hf hc
    refine lv_iconst (v := (0 : Int32)) hx hb dX1_fromRing_15 (by decide) ?_
    refine lv_goto (tgt := 28) hx hb dX1_fromRing_16 (by decide) ?_
    obtain hf := hf
    have e0 := Option.some.inj hf
    exact CX_i F hr hlk hP hD hS e0 dX1_fromRing_28
def b_X1_fromAll_4 (z0 : Ob) (p1 : Int32) (r_4 : Int32 → Int32 → Option (Int32)) (y2 : Int32) (y3 : Int32) : Option (Int32) := (if (z0.1 6) ≤ y3 then some y2 else (f_X1_fromRing z0 y3 p1).bind (fun v1 => bnd (y2 + v1) (fun x2 => bnd (y3 + (1 : Int32)) (fun x3 => r_4 x2 x3))))
def f_X1_fromAll (z0 : Ob) (p1 : Int32) : Option (Int32) := fuel2 (b_X1_fromAll_4 z0 p1) FU (0 : Int32) (0 : Int32)
abbrev rm_X1_fromAll : Room := { frames := 2, cells := 0, slots := 0, locals := 46 }
theorem hd_X1_fromAll : yX1_fromAll.cls ≠ "java/lang/invoke/MethodHandle" ∧ yX1_fromAll.cls ≠ "java/lang/invoke/VarHandle" ∧ (parseMethodDescriptor yX1_fromAll.desc).map (fun d => d.parameters.length) = some 1 := by decide +kernel
theorem in_X1_fromAll_X1 : ∀ w ∈ wsX10, w ∈ wsX1_fromAll := fun w h => List.mem_cons_of_mem _ (List.mem_append_right _ h)
set_option maxHeartbeats 4000000 in
set_option maxRecDepth 100000 in
theorem c_X1_fromAll (l : Launch) (D : va_G) (ty : TY) (h0 : Nat) (a0 : Nat → Nat) (z0 : Ob) (p1 : Int32) (o0 : Int32) (hf : f_X1_fromAll z0 p1 = some o0) (sz : Nat) : CX l yX1_fromAll wsX1_fromAll rm_X1_fromAll ([.ref h0, .int p1] : List Value) D ty (fl [oX1 ty h0 a0 z0]) sz (qI D o0 (fl [oX1 ty h0 a0 z0])) 0 0 := by
  refine CX_of (cc := cX1_fromAll) (maxL := 4) (ret := (some .int)) (C := RX1) (by decide) rfl rfl (Nat.le_of_ble_eq_true rfl) ?_
  intro p e s m below meth c A ls F hr hlk _ hK hP hD hS hA hl
  have hx := F.1
  have hb := F.2.1
  replace hl : lv_has ls 4 [(0, .ref h0), (1, .int p1)] := hl
  unfold f_X1_fromAll at hf
  refine lv_iconst (v := (0 : Int32)) hx hb dX1_fromAll_0 (by decide) ?_
  refine lv_istore_n (lv' := [(2, .int (0 : Int32)), (0, .ref h0), (1, .int p1)]) hx hb dX1_fromAll_1 rfl hl (by decide) rfl (fun ls hl => ?_)
  refine lv_iconst (v := (0 : Int32)) hx hb dX1_fromAll_2 (by decide) ?_
  refine lv_istore_n (lv' := [(3, .int (0 : Int32)), (2, .int (0 : Int32)), (0, .ref h0), (1, .int p1)]) hx hb dX1_fromAll_3 rfl hl (by decide) rfl (fun ls hl => ?_)
  have L_4 : ∀ (n : Nat) (y2 : Int32) (y3 : Int32) (H : Heap) (locs : List Loc) (ls : Array Slot), va_P D vwC (fl [oX1 ty h0 a0 z0]) H → va_D A (fl [oX1 ty h0 a0 z0]) → va_S A s.heap H locs → lv_has ls 4 [(0, .ref h0), (1, .int p1), (2, .int y2), (3, .int y3)] → fuel2 (b_X1_fromAll_4 z0 p1) n y2 y3 = some o0 → W p l e rm_X1_fromAll s m ([.ref h0, .int p1] : List Value).toArray below meth c H locs 0 0 (MQ below (qI D o0 (fl [oX1 ty h0 a0 z0]) A) ([.ref h0, .int p1] : List Value).toArray s 0 0 A) (F0 m 4 ls []) := by
    intro n
    induction n with
    | zero => intro y2 y3 H locs ls hP hD hS hl hf; cases hf
    | succ n ih_4 =>
      intro y2 y3 H locs ls hP hD hS hl hf
      replace hf : b_X1_fromAll_4 z0 p1 (fuel2 (b_X1_fromAll_4 z0 p1) n) y2 y3 = some o0 := hf
      generalize fuel2 (b_X1_fromAll_4 z0 p1) n = r_4 at ih_4 hf
      unfold b_X1_fromAll_4 at hf
      refine lv_iload_n hx hb dX1_fromAll_4 rfl (lv_at hl 3 rfl) ?_
      refine lv_aload_n hx hb dX1_fromAll_5 rfl (lv_at hl 0 rfl) ?_
      refine va_get (D := D) (ci := 1) (C := RX1) (T := TX1) (N := 12) hx hb F.2.2.2.2 in_X1_fromAll_X1 F.2.2.2.1 hK.1 hP 0 rfl rfl 6 (Nat.le_of_ble_eq_true rfl) (F.2.2.2.2 (.fieldLink RX1 30 "LouderRoom$Crowd" "rings" "I") (List.mem_of_getElem? (i := 1) rfl)) (fun _ h9 => h9) rfl dX1_fromAll_6 ?_
      refine lv_icmp_ge (tgt := 27) hx hb dX1_fromAll_9 (by decide) (fun hc => ?_) (fun hc => ?_)
      · replace hf := ite_t hf hc
        refine lv_iload_n hx hb dX1_fromAll_27 rfl (lv_at hl 2 rfl) ?_
        obtain hf := hf
        have e0 := Option.some.inj hf
        exact CX_i F hr hlk hP hD hS e0 dX1_fromAll_28
      · replace hf := ite_f hf hc
        refine lv_iload_n hx hb dX1_fromAll_12 rfl (lv_at hl 2 rfl) ?_
        refine lv_aload_n hx hb dX1_fromAll_13 rfl (lv_at hl 0 rfl) ?_
        refine lv_iload_n hx hb dX1_fromAll_14 rfl (lv_at hl 3 rfl) ?_
        refine lv_iload_n hx hb dX1_fromAll_15 rfl (lv_at hl 1 rfl) ?_
        obtain ⟨v1, hv, hf⟩ := obd hf
        have hp1 : List.Perm [oX1 ty h0 a0 z0] ([oX1 ty h0 a0 z0] ++ []) := (List.Perm.refl _)
        refine ci_call (out := v1) (os := [oX1 ty h0 a0 z0]) (oc := [oX1 ty h0 a0 z0]) (oc' := [oX1 ty h0 a0 z0]) (or_ := []) (os' := [oX1 ty h0 a0 z0]) (va_runV (As := [.int y3, .int p1]) (rest := [.int y2]) F (c_X1_fromRing l D ty h0 a0 _ _ _ _ hv _) (cwV 2 F.2.2.2.2 gX1_fromAll_X1_fromRing rfl rfl rfl ⟨rfl, hd_X1_fromRing⟩ ⟨Nat.le_of_ble_eq_true rfl, Nat.le_of_ble_eq_true rfl⟩) (pre_v hK hP hD hp1 rfl rfl rfl) rfl rfl hl.1 rfl (lv_room (Nat.le_of_ble_eq_true rfl)) dX1_fromAll_16 ⟨Nat.zero_le _, Nat.zero_le _⟩) hp1 (List.Perm.refl _) hP hD hS hA (fun H locs hP hD hS => ?_)
        clear hp1 hv
        refine lv_iadd hx hb dX1_fromAll_19 ?_
        refine lv_topi (fun x2 ex => ?_)
        replace hf := bnd_at hf ex; clear ex
        refine lv_istore_n (lv' := [(2, .int x2), (0, .ref h0), (1, .int p1), (3, .int y3)]) hx hb dX1_fromAll_20 rfl hl (by decide) rfl (fun ls hl => ?_)
        obtain ⟨x3, ex⟩ : ∃ y : Int32, y = (y3 + (1 : Int32)) := ⟨_, rfl⟩
        replace hf := bnd_at hf ex
        refine lv_iinc (v := x3) (lv' := [(3, .int x3), (2, .int x2), (0, .ref h0), (1, .int p1)]) hx hb dX1_fromAll_21 hl (k := 3) rfl (by rw [ex]; rfl) (by decide) rfl (fun ls hl => ?_)
        clear ex
        refine lv_goto (tgt := 4) hx hb dX1_fromAll_24 (by decide) ?_
        exact ih_4 x2 x3 _ _ _ hP hD hS (lv_sub hl [2, 3, 1, 0] rfl) hf
  exact L_4 FU (0 : Int32) (0 : Int32) _ _ _ hP hD hS (lv_sub hl [2, 3, 1, 0] rfl) hf
def f_X1_noiseAt (z0 : Ob) (p1 : Int32) : Option (Int32) := (f_X1_echoing z0).bind (fun v1 => (f_X1_fromAll z0 p1).bind (fun v2 => some (v1 + v2)))
abbrev rm_X1_noiseAt : Room := { frames := 3, cells := 0, slots := 0, locals := 69 }
theorem hd_X1_noiseAt : yX1_noiseAt.cls ≠ "java/lang/invoke/MethodHandle" ∧ yX1_noiseAt.cls ≠ "java/lang/invoke/VarHandle" ∧ (parseMethodDescriptor yX1_noiseAt.desc).map (fun d => d.parameters.length) = some 1 := by decide +kernel
set_option maxHeartbeats 4000000 in
set_option maxRecDepth 100000 in
theorem c_X1_noiseAt (l : Launch) (D : va_G) (ty : TY) (h0 : Nat) (a0 : Nat → Nat) (z0 : Ob) (p1 : Int32) (o0 : Int32) (hf : f_X1_noiseAt z0 p1 = some o0) (sz : Nat) : CX l yX1_noiseAt wsX1_noiseAt rm_X1_noiseAt ([.ref h0, .int p1] : List Value) D ty (fl [oX1 ty h0 a0 z0]) sz (qI D o0 (fl [oX1 ty h0 a0 z0])) 0 0 := by
  refine CX_of (cc := cX1_noiseAt) (maxL := 2) (ret := (some .int)) (C := RX1) (by decide) rfl rfl (Nat.le_of_ble_eq_true rfl) ?_
  intro p e s m below meth c A ls F hr hlk _ hK hP hD hS hA hl
  have hx := F.1
  have hb := F.2.1
  replace hl : lv_has ls 2 [(0, .ref h0), (1, .int p1)] := hl
  unfold f_X1_noiseAt at hf
  refine lv_aload_n hx hb dX1_noiseAt_0 rfl (lv_at hl 0 rfl) ?_
  obtain ⟨v1, hv, hf⟩ := obd hf
  have hp1 : List.Perm [oX1 ty h0 a0 z0] ([oX1 ty h0 a0 z0] ++ []) := (List.Perm.refl _)
  refine ci_call (out := v1) (os := [oX1 ty h0 a0 z0]) (oc := [oX1 ty h0 a0 z0]) (oc' := [oX1 ty h0 a0 z0]) (or_ := []) (os' := [oX1 ty h0 a0 z0]) (va_runV (As := []) (rest := []) F (c_X1_echoing l D ty h0 a0 _ _ hv _) (cwV 0 F.2.2.2.2 gX1_noiseAt_X1_echoing rfl rfl rfl ⟨rfl, hd_X1_echoing⟩ ⟨Nat.le_of_ble_eq_true rfl, Nat.le_of_ble_eq_true rfl⟩) (pre_v hK hP hD hp1 rfl rfl rfl) rfl rfl hl.1 rfl (lv_room (Nat.le_of_ble_eq_true rfl)) dX1_noiseAt_1 ⟨Nat.zero_le _, Nat.zero_le _⟩) hp1 (List.Perm.refl _) hP hD hS hA (fun H locs hP hD hS => ?_)
  clear hp1 hv
  refine lv_aload_n hx hb dX1_noiseAt_4 rfl (lv_at hl 0 rfl) ?_
  refine lv_iload_n hx hb dX1_noiseAt_5 rfl (lv_at hl 1 rfl) ?_
  obtain ⟨v2, hv, hf⟩ := obd hf
  have hp1 : List.Perm [oX1 ty h0 a0 z0] ([oX1 ty h0 a0 z0] ++ []) := (List.Perm.refl _)
  refine ci_call (out := v2) (os := [oX1 ty h0 a0 z0]) (oc := [oX1 ty h0 a0 z0]) (oc' := [oX1 ty h0 a0 z0]) (or_ := []) (os' := [oX1 ty h0 a0 z0]) (va_runV (As := [.int p1]) (rest := [.int v1]) F (c_X1_fromAll l D ty h0 a0 _ _ _ hv _) (cwV 1 F.2.2.2.2 gX1_noiseAt_X1_fromAll rfl rfl rfl ⟨rfl, hd_X1_fromAll⟩ ⟨Nat.le_of_ble_eq_true rfl, Nat.le_of_ble_eq_true rfl⟩) (pre_v hK hP hD hp1 rfl rfl rfl) rfl rfl hl.1 rfl (lv_room (Nat.le_of_ble_eq_true rfl)) dX1_noiseAt_6 ⟨Nat.zero_le _, Nat.zero_le _⟩) hp1 (List.Perm.refl _) hP hD hS hA (fun H locs hP hD hS => ?_)
  clear hp1 hv
  refine lv_iadd hx hb dX1_noiseAt_9 ?_
  obtain hf := hf
  have e0 := Option.some.inj hf
  exact CX_i F hr hlk hP hD hS e0 dX1_noiseAt_10
def j_X1_soundBy_27 (z0 : Ob) (p1 : Int32) (p2 : Int32) (t0 : Int32) : Option (Int32) := (if (if (1 : Int32) < t0 then t0 else (1 : Int32)) = 0 then none else some ((p2 * (8 : Int32)) / (if (1 : Int32) < t0 then t0 else (1 : Int32))))
def f_X1_soundBy (z0 : Ob) (p1 : Int32) (p2 : Int32) : Option (Int32) := (if inb p1 8 = true then (if (z0.2 0 p1.toNatClampNeg) = (3 : Int32) then (if inb p1 8 = true then j_X1_soundBy_27 z0 p1 p2 ((z0.2 2 p1.toNatClampNeg) - (2 : Int32)) else none) else (if inb p1 8 = true then j_X1_soundBy_27 z0 p1 p2 (z0.2 2 p1.toNatClampNeg) else none)) else none)
abbrev rm_X1_soundBy : Room := { frames := 1, cells := 0, slots := 0, locals := 21 }
theorem hd_X1_soundBy : yX1_soundBy.cls ≠ "java/lang/invoke/MethodHandle" ∧ yX1_soundBy.cls ≠ "java/lang/invoke/VarHandle" ∧ (parseMethodDescriptor yX1_soundBy.desc).map (fun d => d.parameters.length) = some 2 := by decide +kernel
theorem in_X1_soundBy_X1 : ∀ w ∈ wsX10, w ∈ wsX1_soundBy := fun w h => List.mem_cons_of_mem _ (List.mem_append_right _ h)
set_option maxHeartbeats 4000000 in
set_option maxRecDepth 100000 in
theorem c_X1_soundBy (l : Launch) (D : va_G) (ty : TY) (h0 : Nat) (a0 : Nat → Nat) (z0 : Ob) (p1 : Int32) (p2 : Int32) (o0 : Int32) (hf : f_X1_soundBy z0 p1 p2 = some o0) (sz : Nat) : CX l yX1_soundBy wsX1_soundBy rm_X1_soundBy ([.ref h0, .int p1, .int p2] : List Value) D ty (fl [oX1 ty h0 a0 z0]) sz (qI D o0 (fl [oX1 ty h0 a0 z0])) 0 0 := by
  refine CX_of (cc := cX1_soundBy) (maxL := 4) (ret := (some .int)) (C := RX1) (by decide) rfl rfl (Nat.le_of_ble_eq_true rfl) ?_
  intro p e s m below meth c A ls F hr hlk _ hK hP hD hS hA hl
  have hx := F.1
  have hb := F.2.1
  replace hl : lv_has ls 4 [(0, .ref h0), (1, .int p1), (2, .int p2)] := hl
  unfold f_X1_soundBy at hf
  have J_27 : ∀ (t0 : Int32) (H : Heap) (locs : List Loc) (ls : Array Slot), va_P D vwC (fl [oX1 ty h0 a0 z0]) H → va_D A (fl [oX1 ty h0 a0 z0]) → va_S A s.heap H locs → lv_has ls 4 [(2, .int p2)] → j_X1_soundBy_27 z0 p1 p2 t0 = some o0 → W p l e rm_X1_soundBy s m ([.ref h0, .int p1, .int p2] : List Value).toArray below meth c H locs 0 0 (MQ below (qI D o0 (fl [oX1 ty h0 a0 z0]) A) ([.ref h0, .int p1, .int p2] : List Value).toArray s 0 0 A) (F0 m 27 ls [.int t0]) := by
    intro t0 H locs ls hP hD hS hl hf
    unfold j_X1_soundBy_27 at hf
    refine lv_istore_n (lv' := [(3, .int t0), (2, .int p2)]) hx hb dX1_soundBy_27 rfl hl (by decide) rfl (fun ls hl => ?_)
    refine lv_iload_n hx hb dX1_soundBy_28 rfl (lv_at hl 1 rfl) ?_
    refine lv_bipush (v := (8 : Int32)) hx hb dX1_soundBy_29 (by decide) ?_
    refine lv_imul hx hb dX1_soundBy_31 ?_
    refine lv_iconst (v := (1 : Int32)) hx hb dX1_soundBy_32 (by decide) ?_
    refine lv_iload_n hx hb dX1_soundBy_33 rfl (lv_at hl 0 rfl) ?_
    refine va_mmax hx hb (F.2.2.1.trans hl.1.symm) F.2.2.2.1 (F.2.2.2.2 (.methodLink RX1 78 Lib.Math.max.name) (List.mem_of_getElem? (i := 3) rfl)) (F.2.2.2.2 (.static Lib.Math.max.name) (List.mem_of_getElem? (i := 4) rfl)) (F.2.2.2.2 (.initialized "java/lang/Math") (List.mem_of_getElem? (i := 5) rfl)) (F.2.2.2.2 (.code Lib.Math.max.name Lib.Math.max.code 2 (some .int)) (List.mem_of_getElem? (i := 6) rfl)) (Nat.le_of_ble_eq_true rfl) (Nat.le_of_ble_eq_true rfl) (Nat.zero_le _) (Nat.zero_le _) dX1_soundBy_34 ?_
    obtain ⟨hne, hf⟩ := grz hf
    refine lv_idiv hx hb dX1_soundBy_37 hne ?_
    obtain hf := hf
    have e0 := Option.some.inj hf
    exact CX_i F hr hlk hP hD hS e0 dX1_soundBy_38
  refine lv_aload_n hx hb dX1_soundBy_0 rfl (lv_at hl 0 rfl) ?_
  refine va_get (D := D) (ci := 1) (C := RX1) (T := TX1) (N := 12) hx hb F.2.2.2.2 in_X1_soundBy_X1 F.2.2.2.1 hK.1 hP 0 rfl rfl 0 (Nat.le_of_ble_eq_true rfl) (F.2.2.2.2 (.fieldLink RX1 9 "LouderRoom$Crowd" "kind" "[I") (List.mem_of_getElem? (i := 1) rfl)) (fun _ h9 => h9) rfl dX1_soundBy_1 ?_
  refine lv_iload_n hx hb dX1_soundBy_4 rfl (lv_at hl 1 rfl) ?_
  obtain ⟨hi, hf⟩ := grd hf
  refine va_iald hx hb hK.1 hP 1 0 rfl rfl (inb_in hi) dX1_soundBy_5 ?_
  refine lv_iconst (v := (3 : Int32)) hx hb dX1_soundBy_6 (by decide) ?_
  refine lv_icmp_ne (tgt := 21) hx hb dX1_soundBy_7 (by decide) (fun hc => ?_) (fun hc => ?_)
  · replace hf := ite_f hf hc
    refine lv_aload_n hx hb dX1_soundBy_21 rfl (lv_at hl 0 rfl) ?_
    refine va_get (D := D) (ci := 1) (C := RX1) (T := TX1) (N := 12) hx hb F.2.2.2.2 in_X1_soundBy_X1 F.2.2.2.1 hK.1 hP 0 rfl rfl 2 (Nat.le_of_ble_eq_true rfl) (F.2.2.2.2 (.fieldLink RX1 18 "LouderRoom$Crowd" "people" "[I") (List.mem_of_getElem? (i := 2) rfl)) (fun _ h9 => h9) rfl dX1_soundBy_22 ?_
    refine lv_iload_n hx hb dX1_soundBy_25 rfl (lv_at hl 1 rfl) ?_
    obtain ⟨hi, hf⟩ := grd hf
    refine va_iald hx hb hK.1 hP 3 0 rfl rfl (inb_in hi) dX1_soundBy_26 ?_
    exact J_27 (z0.2 2 p1.toNatClampNeg) _ _ _ hP hD hS (lv_sub hl [2] rfl) hf
  · replace hf := ite_t hf hc
    refine lv_aload_n hx hb dX1_soundBy_10 rfl (lv_at hl 0 rfl) ?_
    refine va_get (D := D) (ci := 1) (C := RX1) (T := TX1) (N := 12) hx hb F.2.2.2.2 in_X1_soundBy_X1 F.2.2.2.1 hK.1 hP 0 rfl rfl 2 (Nat.le_of_ble_eq_true rfl) (F.2.2.2.2 (.fieldLink RX1 18 "LouderRoom$Crowd" "people" "[I") (List.mem_of_getElem? (i := 2) rfl)) (fun _ h9 => h9) rfl dX1_soundBy_11 ?_
    refine lv_iload_n hx hb dX1_soundBy_14 rfl (lv_at hl 1 rfl) ?_
    obtain ⟨hi, hf⟩ := grd hf
    refine va_iald hx hb hK.1 hP 3 0 rfl rfl (inb_in hi) dX1_soundBy_15 ?_
    refine lv_iconst (v := (2 : Int32)) hx hb dX1_soundBy_16 (by decide) ?_
    refine lv_isub hx hb dX1_soundBy_17 ?_
    refine lv_goto (tgt := 27) hx hb dX1_soundBy_18 (by decide) ?_
    exact J_27 ((z0.2 2 p1.toNatClampNeg) - (2 : Int32)) _ _ _ hP hD hS (lv_sub hl [2] rfl) hf
def j_X1_hearsAnyway_20 (z0 : Ob) (p1 : Int32)  : Option (Int32) := some (1 : Int32)
def f_X1_hearsAnyway (z0 : Ob) (p1 : Int32) : Option (Int32) := (if inb p1 8 = true then (if (z0.2 0 p1.toNatClampNeg) = (4 : Int32) then j_X1_hearsAnyway_20 z0 p1  else (if inb p1 8 = true then (if (z0.2 2 p1.toNatClampNeg) = (1 : Int32) then j_X1_hearsAnyway_20 z0 p1  else some (0 : Int32)) else none)) else none)
abbrev rm_X1_hearsAnyway : Room := { frames := 0, cells := 0, slots := 0, locals := 0 }
theorem hd_X1_hearsAnyway : yX1_hearsAnyway.cls ≠ "java/lang/invoke/MethodHandle" ∧ yX1_hearsAnyway.cls ≠ "java/lang/invoke/VarHandle" ∧ (parseMethodDescriptor yX1_hearsAnyway.desc).map (fun d => d.parameters.length) = some 1 := by decide +kernel
theorem in_X1_hearsAnyway_X1 : ∀ w ∈ wsX10, w ∈ wsX1_hearsAnyway := fun w h => List.mem_cons_of_mem _ (List.mem_append_right _ h)
set_option maxHeartbeats 4000000 in
set_option maxRecDepth 100000 in
theorem c_X1_hearsAnyway (l : Launch) (D : va_G) (ty : TY) (h0 : Nat) (a0 : Nat → Nat) (z0 : Ob) (p1 : Int32) (o0 : Int32) (hf : f_X1_hearsAnyway z0 p1 = some o0) (sz : Nat) : CX l yX1_hearsAnyway wsX1_hearsAnyway rm_X1_hearsAnyway ([.ref h0, .int p1] : List Value) D ty (fl [oX1 ty h0 a0 z0]) sz (qI D o0 (fl [oX1 ty h0 a0 z0])) 0 0 := by
  refine CX_of (cc := cX1_hearsAnyway) (maxL := 2) (ret := (some .boolean)) (C := RX1) (by decide) rfl rfl (Nat.le_of_ble_eq_true rfl) ?_
  intro p e s m below meth c A ls F hr hlk _ hK hP hD hS hA hl
  have hx := F.1
  have hb := F.2.1
  replace hl : lv_has ls 2 [(0, .ref h0), (1, .int p1)] := hl
  unfold f_X1_hearsAnyway at hf
  have J_20 : ∀  (H : Heap) (locs : List Loc) (ls : Array Slot), va_P D vwC (fl [oX1 ty h0 a0 z0]) H → va_D A (fl [oX1 ty h0 a0 z0]) → va_S A s.heap H locs → lv_has ls 2 [] → j_X1_hearsAnyway_20 z0 p1  = some o0 → W p l e rm_X1_hearsAnyway s m ([.ref h0, .int p1] : List Value).toArray below meth c H locs 0 0 (MQ below (qI D o0 (fl [oX1 ty h0 a0 z0]) A) ([.ref h0, .int p1] : List Value).toArray s 0 0 A) (F0 m 20 ls []) := by
    intro  H locs ls hP hD hS hl hf
    unfold j_X1_hearsAnyway_20 at hf
    refine lv_iconst (v := (1 : Int32)) hx hb dX1_hearsAnyway_20 (by decide) ?_
    refine lv_goto (tgt := 25) hx hb dX1_hearsAnyway_21 (by decide) ?_
    obtain hf := hf
    have e0 := Option.some.inj hf
    exact CX_z F hr hlk hP hD hS narrow_b1 e0 dX1_hearsAnyway_25
  refine lv_aload_n hx hb dX1_hearsAnyway_0 rfl (lv_at hl 0 rfl) ?_
  refine va_get (D := D) (ci := 1) (C := RX1) (T := TX1) (N := 12) hx hb F.2.2.2.2 in_X1_hearsAnyway_X1 F.2.2.2.1 hK.1 hP 0 rfl rfl 0 (Nat.le_of_ble_eq_true rfl) (F.2.2.2.2 (.fieldLink RX1 9 "LouderRoom$Crowd" "kind" "[I") (List.mem_of_getElem? (i := 1) rfl)) (fun _ h9 => h9) rfl dX1_hearsAnyway_1 ?_
  refine lv_iload_n hx hb dX1_hearsAnyway_4 rfl (lv_at hl 1 rfl) ?_
  obtain ⟨hi, hf⟩ := grd hf
  refine va_iald hx hb hK.1 hP 1 0 rfl rfl (inb_in hi) dX1_hearsAnyway_5 ?_
  refine lv_iconst (v := (4 : Int32)) hx hb dX1_hearsAnyway_6 (by decide) ?_
  refine lv_icmp_eq (tgt := 20) hx hb dX1_hearsAnyway_7 (by decide) (fun hc => ?_) (fun hc => ?_)
  · replace hf := ite_t hf hc
    exact J_20 _ _ _ hP hD hS (lv_sub hl [] rfl) hf
  · replace hf := ite_f hf hc
    refine lv_aload_n hx hb dX1_hearsAnyway_10 rfl (lv_at hl 0 rfl) ?_
    refine va_get (D := D) (ci := 1) (C := RX1) (T := TX1) (N := 12) hx hb F.2.2.2.2 in_X1_hearsAnyway_X1 F.2.2.2.1 hK.1 hP 0 rfl rfl 2 (Nat.le_of_ble_eq_true rfl) (F.2.2.2.2 (.fieldLink RX1 18 "LouderRoom$Crowd" "people" "[I") (List.mem_of_getElem? (i := 2) rfl)) (fun _ h9 => h9) rfl dX1_hearsAnyway_11 ?_
    refine lv_iload_n hx hb dX1_hearsAnyway_14 rfl (lv_at hl 1 rfl) ?_
    obtain ⟨hi, hf⟩ := grd hf
    refine va_iald hx hb hK.1 hP 3 0 rfl rfl (inb_in hi) dX1_hearsAnyway_15 ?_
    refine lv_iconst (v := (1 : Int32)) hx hb dX1_hearsAnyway_16 (by decide) ?_
    refine lv_icmp_ne (tgt := 24) hx hb dX1_hearsAnyway_17 (by decide) (fun hc => ?_) (fun hc => ?_)
    · replace hf := ite_f hf hc
      refine lv_iconst (v := (0 : Int32)) hx hb dX1_hearsAnyway_24 (by decide) ?_
      obtain hf := hf
      have e0 := Option.some.inj hf
      exact CX_z F hr hlk hP hD hS narrow_b0 e0 dX1_hearsAnyway_25
    · replace hf := ite_t hf hc
      exact J_20 _ _ _ hP hD hS (lv_sub hl [] rfl) hf
def f_X1_hearsBy (z0 : Ob) (p1 : Int32) (p2 : Int32) (p3 : Int32) : Option (Int32) := (if inb p1 8 = true then (if ((10 : Int32) * p2) < (p3 * ((10 : Int32) + (z0.2 4 p1.toNatClampNeg))) then some (0 : Int32) else some (1 : Int32)) else none)
abbrev rm_X1_hearsBy : Room := { frames := 0, cells := 0, slots := 0, locals := 0 }
theorem hd_X1_hearsBy : yX1_hearsBy.cls ≠ "java/lang/invoke/MethodHandle" ∧ yX1_hearsBy.cls ≠ "java/lang/invoke/VarHandle" ∧ (parseMethodDescriptor yX1_hearsBy.desc).map (fun d => d.parameters.length) = some 3 := by decide +kernel
theorem in_X1_hearsBy_X1 : ∀ w ∈ wsX10, w ∈ wsX1_hearsBy := fun w h => List.mem_cons_of_mem _ (List.mem_append_right _ h)
set_option maxHeartbeats 4000000 in
set_option maxRecDepth 100000 in
theorem c_X1_hearsBy (l : Launch) (D : va_G) (ty : TY) (h0 : Nat) (a0 : Nat → Nat) (z0 : Ob) (p1 : Int32) (p2 : Int32) (p3 : Int32) (o0 : Int32) (hf : f_X1_hearsBy z0 p1 p2 p3 = some o0) (sz : Nat) : CX l yX1_hearsBy wsX1_hearsBy rm_X1_hearsBy ([.ref h0, .int p1, .int p2, .int p3] : List Value) D ty (fl [oX1 ty h0 a0 z0]) sz (qI D o0 (fl [oX1 ty h0 a0 z0])) 0 0 := by
  refine CX_of (cc := cX1_hearsBy) (maxL := 4) (ret := (some .boolean)) (C := RX1) (by decide) rfl rfl (Nat.le_of_ble_eq_true rfl) ?_
  intro p e s m below meth c A ls F hr hlk _ hK hP hD hS hA hl
  have hx := F.1
  have hb := F.2.1
  replace hl : lv_has ls 4 [(0, .ref h0), (1, .int p1), (2, .int p2), (3, .int p3)] := hl
  unfold f_X1_hearsBy at hf
  refine lv_bipush (v := (10 : Int32)) hx hb dX1_hearsBy_0 (by decide) ?_
  refine lv_iload_n hx hb dX1_hearsBy_2 rfl (lv_at hl 2 rfl) ?_
  refine lv_imul hx hb dX1_hearsBy_3 ?_
  refine lv_iload_n hx hb dX1_hearsBy_4 rfl (lv_at hl 3 rfl) ?_
  refine lv_bipush (v := (10 : Int32)) hx hb dX1_hearsBy_5 (by decide) ?_
  refine lv_aload_n hx hb dX1_hearsBy_7 rfl (lv_at hl 0 rfl) ?_
  refine va_get (D := D) (ci := 1) (C := RX1) (T := TX1) (N := 12) hx hb F.2.2.2.2 in_X1_hearsBy_X1 F.2.2.2.1 hK.1 hP 0 rfl rfl 4 (Nat.le_of_ble_eq_true rfl) (F.2.2.2.2 (.fieldLink RX1 24 "LouderRoom$Crowd" "age" "[I") (List.mem_of_getElem? (i := 1) rfl)) (fun _ h9 => h9) rfl dX1_hearsBy_8 ?_
  refine lv_iload_n hx hb dX1_hearsBy_11 rfl (lv_at hl 1 rfl) ?_
  obtain ⟨hi, hf⟩ := grd hf
  refine va_iald hx hb hK.1 hP 5 0 rfl rfl (inb_in hi) dX1_hearsBy_12 ?_
  refine lv_iadd hx hb dX1_hearsBy_13 ?_
  refine lv_imul hx hb dX1_hearsBy_14 ?_
  refine lv_icmp_lt (tgt := 22) hx hb dX1_hearsBy_15 (by decide) (fun hc => ?_) (fun hc => ?_)
  · replace hf := ite_t hf hc
    refine lv_iconst (v := (0 : Int32)) hx hb dX1_hearsBy_22 (by decide) ?_
    obtain hf := hf
    have e0 := Option.some.inj hf
    exact CX_z F hr hlk hP hD hS narrow_b0 e0 dX1_hearsBy_23
  · replace hf := ite_f hf hc
    refine lv_iconst (v := (1 : Int32)) hx hb dX1_hearsBy_18 (by decide) ?_
    refine lv_goto (tgt := 23) hx hb dX1_hearsBy_19 (by decide) ?_
    obtain hf := hf
    have e0 := Option.some.inj hf
    exact CX_z F hr hlk hP hD hS narrow_b1 e0 dX1_hearsBy_23
def j_X1_hears_36 (z0 : Ob) (p1 : Int32)  : Option (Int32) := some (1 : Int32)
def f_X1_hears (z0 : Ob) (p1 : Int32) : Option (Int32) := (f_X1_hearsAnyway z0 p1).bind (fun v1 => (if v1 = 0 then (f_X1_loudOf z0 p1).bind (fun v2 => (f_X1_soundBy z0 p1 v2).bind (fun v3 => (if inb p1 8 = true then (f_X1_noiseAt z0 (z0.2 1 p1.toNatClampNeg)).bind (fun v4 => (f_X1_hearsBy z0 p1 v3 v4).bind (fun v5 => (if v5 = 0 then some (0 : Int32) else j_X1_hears_36 z0 p1 ))) else none))) else j_X1_hears_36 z0 p1 ))
abbrev rm_X1_hears : Room := { frames := 4, cells := 0, slots := 0, locals := 90 }
theorem hd_X1_hears : yX1_hears.cls ≠ "java/lang/invoke/MethodHandle" ∧ yX1_hears.cls ≠ "java/lang/invoke/VarHandle" ∧ (parseMethodDescriptor yX1_hears.desc).map (fun d => d.parameters.length) = some 1 := by decide +kernel
theorem in_X1_hears_X1 : ∀ w ∈ wsX10, w ∈ wsX1_hears := fun w h => List.mem_cons_of_mem _ (List.mem_append_right _ h)
set_option maxHeartbeats 4000000 in
set_option maxRecDepth 100000 in
theorem c_X1_hears (l : Launch) (D : va_G) (ty : TY) (h0 : Nat) (a0 : Nat → Nat) (z0 : Ob) (p1 : Int32) (o0 : Int32) (hf : f_X1_hears z0 p1 = some o0) (sz : Nat) : CX l yX1_hears wsX1_hears rm_X1_hears ([.ref h0, .int p1] : List Value) D ty (fl [oX1 ty h0 a0 z0]) sz (qI D o0 (fl [oX1 ty h0 a0 z0])) 0 0 := by
  refine CX_of (cc := cX1_hears) (maxL := 2) (ret := (some .boolean)) (C := RX1) (by decide) rfl rfl (Nat.le_of_ble_eq_true rfl) ?_
  intro p e s m below meth c A ls F hr hlk _ hK hP hD hS hA hl
  have hx := F.1
  have hb := F.2.1
  replace hl : lv_has ls 2 [(0, .ref h0), (1, .int p1)] := hl
  unfold f_X1_hears at hf
  have J_36 : ∀  (H : Heap) (locs : List Loc) (ls : Array Slot), va_P D vwC (fl [oX1 ty h0 a0 z0]) H → va_D A (fl [oX1 ty h0 a0 z0]) → va_S A s.heap H locs → lv_has ls 2 [] → j_X1_hears_36 z0 p1  = some o0 → W p l e rm_X1_hears s m ([.ref h0, .int p1] : List Value).toArray below meth c H locs 0 0 (MQ below (qI D o0 (fl [oX1 ty h0 a0 z0]) A) ([.ref h0, .int p1] : List Value).toArray s 0 0 A) (F0 m 36 ls []) := by
    intro  H locs ls hP hD hS hl hf
    unfold j_X1_hears_36 at hf
    refine lv_iconst (v := (1 : Int32)) hx hb dX1_hears_36 (by decide) ?_
    refine lv_goto (tgt := 41) hx hb dX1_hears_37 (by decide) ?_
    obtain hf := hf
    have e0 := Option.some.inj hf
    exact CX_z F hr hlk hP hD hS narrow_b1 e0 dX1_hears_41
  refine lv_aload_n hx hb dX1_hears_0 rfl (lv_at hl 0 rfl) ?_
  refine lv_iload_n hx hb dX1_hears_1 rfl (lv_at hl 1 rfl) ?_
  obtain ⟨v1, hv, hf⟩ := obd hf
  have hp1 : List.Perm [oX1 ty h0 a0 z0] ([oX1 ty h0 a0 z0] ++ []) := (List.Perm.refl _)
  refine ci_call (out := v1) (os := [oX1 ty h0 a0 z0]) (oc := [oX1 ty h0 a0 z0]) (oc' := [oX1 ty h0 a0 z0]) (or_ := []) (os' := [oX1 ty h0 a0 z0]) (va_runV (As := [.int p1]) (rest := []) F (c_X1_hearsAnyway l D ty h0 a0 _ _ _ hv _) (cwV 1 F.2.2.2.2 gX1_hears_X1_hearsAnyway rfl rfl rfl ⟨rfl, hd_X1_hearsAnyway⟩ ⟨Nat.le_of_ble_eq_true rfl, Nat.le_of_ble_eq_true rfl⟩) (pre_v hK hP hD hp1 rfl rfl rfl) rfl rfl hl.1 rfl (lv_room (Nat.le_of_ble_eq_true rfl)) dX1_hears_2 ⟨Nat.zero_le _, Nat.zero_le _⟩) hp1 (List.Perm.refl _) hP hD hS hA (fun H locs hP hD hS => ?_)
  clear hp1 hv
  refine lv_if_ne (tgt := 36) hx hb dX1_hears_5 (by decide) (fun hc => ?_) (fun hc => ?_)
  · replace hf := ite_f hf hc
    exact J_36 _ _ _ hP hD hS (lv_sub hl [] rfl) hf
  · replace hf := ite_t hf hc
    refine lv_aload_n hx hb dX1_hears_8 rfl (lv_at hl 0 rfl) ?_
    refine lv_iload_n hx hb dX1_hears_9 rfl (lv_at hl 1 rfl) ?_
    refine lv_aload_n hx hb dX1_hears_10 rfl (lv_at hl 0 rfl) ?_
    refine lv_iload_n hx hb dX1_hears_11 rfl (lv_at hl 1 rfl) ?_
    refine lv_aload_n hx hb dX1_hears_12 rfl (lv_at hl 0 rfl) ?_
    refine lv_iload_n hx hb dX1_hears_13 rfl (lv_at hl 1 rfl) ?_
    obtain ⟨v2, hv, hf⟩ := obd hf
    have hp1 : List.Perm [oX1 ty h0 a0 z0] ([oX1 ty h0 a0 z0] ++ []) := (List.Perm.refl _)
    refine ci_call (out := v2) (os := [oX1 ty h0 a0 z0]) (oc := [oX1 ty h0 a0 z0]) (oc' := [oX1 ty h0 a0 z0]) (or_ := []) (os' := [oX1 ty h0 a0 z0]) (va_runV (As := [.int p1]) (rest := [.int p1, .ref h0, .int p1, .ref h0]) F (c_X1_loudOf l D ty h0 a0 _ _ _ hv _) (cwV 1 F.2.2.2.2 gX1_hears_X1_loudOf rfl rfl rfl ⟨rfl, hd_X1_loudOf⟩ ⟨Nat.le_of_ble_eq_true rfl, Nat.le_of_ble_eq_true rfl⟩) (pre_v hK hP hD hp1 rfl rfl rfl) rfl rfl hl.1 rfl (lv_room (Nat.le_of_ble_eq_true rfl)) dX1_hears_14 ⟨Nat.zero_le _, Nat.zero_le _⟩) hp1 (List.Perm.refl _) hP hD hS hA (fun H locs hP hD hS => ?_)
    clear hp1 hv
    obtain ⟨v3, hv, hf⟩ := obd hf
    have hp1 : List.Perm [oX1 ty h0 a0 z0] ([oX1 ty h0 a0 z0] ++ []) := (List.Perm.refl _)
    refine ci_call (out := v3) (os := [oX1 ty h0 a0 z0]) (oc := [oX1 ty h0 a0 z0]) (oc' := [oX1 ty h0 a0 z0]) (or_ := []) (os' := [oX1 ty h0 a0 z0]) (va_runV (As := [.int p1, .int v2]) (rest := [.int p1, .ref h0]) F (c_X1_soundBy l D ty h0 a0 _ _ _ _ hv _) (cwV 2 F.2.2.2.2 gX1_hears_X1_soundBy rfl rfl rfl ⟨rfl, hd_X1_soundBy⟩ ⟨Nat.le_of_ble_eq_true rfl, Nat.le_of_ble_eq_true rfl⟩) (pre_v hK hP hD hp1 rfl rfl rfl) rfl rfl hl.1 rfl (lv_room (Nat.le_of_ble_eq_true rfl)) dX1_hears_17 ⟨Nat.zero_le _, Nat.zero_le _⟩) hp1 (List.Perm.refl _) hP hD hS hA (fun H locs hP hD hS => ?_)
    clear hp1 hv
    refine lv_aload_n hx hb dX1_hears_20 rfl (lv_at hl 0 rfl) ?_
    refine lv_aload_n hx hb dX1_hears_21 rfl (lv_at hl 0 rfl) ?_
    refine va_get (D := D) (ci := 1) (C := RX1) (T := TX1) (N := 12) hx hb F.2.2.2.2 in_X1_hears_X1 F.2.2.2.1 hK.1 hP 0 rfl rfl 1 (Nat.le_of_ble_eq_true rfl) (F.2.2.2.2 (.fieldLink RX1 15 "LouderRoom$Crowd" "cell" "[I") (List.mem_of_getElem? (i := 1) rfl)) (fun _ h9 => h9) rfl dX1_hears_22 ?_
    refine lv_iload_n hx hb dX1_hears_25 rfl (lv_at hl 1 rfl) ?_
    obtain ⟨hi, hf⟩ := grd hf
    refine va_iald hx hb hK.1 hP 2 0 rfl rfl (inb_in hi) dX1_hears_26 ?_
    obtain ⟨v4, hv, hf⟩ := obd hf
    have hp1 : List.Perm [oX1 ty h0 a0 z0] ([oX1 ty h0 a0 z0] ++ []) := (List.Perm.refl _)
    refine ci_call (out := v4) (os := [oX1 ty h0 a0 z0]) (oc := [oX1 ty h0 a0 z0]) (oc' := [oX1 ty h0 a0 z0]) (or_ := []) (os' := [oX1 ty h0 a0 z0]) (va_runV (As := [.int (z0.2 1 p1.toNatClampNeg)]) (rest := [.int v3, .int p1, .ref h0]) F (c_X1_noiseAt l D ty h0 a0 _ _ _ hv _) (cwV 1 F.2.2.2.2 gX1_hears_X1_noiseAt rfl rfl rfl ⟨rfl, hd_X1_noiseAt⟩ ⟨Nat.le_of_ble_eq_true rfl, Nat.le_of_ble_eq_true rfl⟩) (pre_v hK hP hD hp1 rfl rfl rfl) rfl rfl hl.1 rfl (lv_room (Nat.le_of_ble_eq_true rfl)) dX1_hears_27 ⟨Nat.zero_le _, Nat.zero_le _⟩) hp1 (List.Perm.refl _) hP hD hS hA (fun H locs hP hD hS => ?_)
    clear hp1 hv
    obtain ⟨v5, hv, hf⟩ := obd hf
    have hp1 : List.Perm [oX1 ty h0 a0 z0] ([oX1 ty h0 a0 z0] ++ []) := (List.Perm.refl _)
    refine ci_call (out := v5) (os := [oX1 ty h0 a0 z0]) (oc := [oX1 ty h0 a0 z0]) (oc' := [oX1 ty h0 a0 z0]) (or_ := []) (os' := [oX1 ty h0 a0 z0]) (va_runV (As := [.int p1, .int v3, .int v4]) (rest := []) F (c_X1_hearsBy l D ty h0 a0 _ _ _ _ _ hv _) (cwV 3 F.2.2.2.2 gX1_hears_X1_hearsBy rfl rfl rfl ⟨rfl, hd_X1_hearsBy⟩ ⟨Nat.le_of_ble_eq_true rfl, Nat.le_of_ble_eq_true rfl⟩) (pre_v hK hP hD hp1 rfl rfl rfl) rfl rfl hl.1 rfl (lv_room (Nat.le_of_ble_eq_true rfl)) dX1_hears_30 ⟨Nat.zero_le _, Nat.zero_le _⟩) hp1 (List.Perm.refl _) hP hD hS hA (fun H locs hP hD hS => ?_)
    clear hp1 hv
    refine lv_if_eq (tgt := 40) hx hb dX1_hears_33 (by decide) (fun hc => ?_) (fun hc => ?_)
    · replace hf := ite_t hf hc
      refine lv_iconst (v := (0 : Int32)) hx hb dX1_hears_40 (by decide) ?_
      obtain hf := hf
      have e0 := Option.some.inj hf
      exact CX_z F hr hlk hP hD hS narrow_b0 e0 dX1_hears_41
    · replace hf := ite_f hf hc
      exact J_36 _ _ _ hP hD hS (lv_sub hl [] rfl) hf
def j_X1_hearing_26 (z0 : Ob) (r_4 : Int32 → Int32 → Option (Int32)) (y1 : Int32) (y2 : Int32) : Option (Int32) := bnd (y2 + (1 : Int32)) (fun x1 => r_4 y1 x1)
def b_X1_hearing_4 (z0 : Ob) (r_4 : Int32 → Int32 → Option (Int32)) (y1 : Int32) (y2 : Int32) : Option (Int32) := (if (z0.1 6) ≤ y2 then some y1 else (f_X1_hears z0 y2).bind (fun v2 => (if v2 = 0 then j_X1_hearing_26 z0 r_4 y1 y2 else bnd (y1 ||| ((1 : Int32) <<< (y2 &&& 31))) (fun x3 => j_X1_hearing_26 z0 r_4 x3 y2))))
def f_X1_hearing (z0 : Ob) : Option (Int32) := fuel2 (b_X1_hearing_4 z0) FU (0 : Int32) (0 : Int32)
abbrev rm_X1_hearing : Room := { frames := 5, cells := 0, slots := 0, locals := 111 }
theorem hd_X1_hearing : yX1_hearing.cls ≠ "java/lang/invoke/MethodHandle" ∧ yX1_hearing.cls ≠ "java/lang/invoke/VarHandle" ∧ (parseMethodDescriptor yX1_hearing.desc).map (fun d => d.parameters.length) = some 0 := by decide +kernel
theorem in_X1_hearing_X1 : ∀ w ∈ wsX10, w ∈ wsX1_hearing := fun w h => List.mem_cons_of_mem _ (List.mem_append_right _ h)
set_option maxHeartbeats 4000000 in
set_option maxRecDepth 100000 in
theorem c_X1_hearing (l : Launch) (D : va_G) (ty : TY) (h0 : Nat) (a0 : Nat → Nat) (z0 : Ob) (o0 : Int32) (hf : f_X1_hearing z0 = some o0) (sz : Nat) : CX l yX1_hearing wsX1_hearing rm_X1_hearing ([.ref h0] : List Value) D ty (fl [oX1 ty h0 a0 z0]) sz (qI D o0 (fl [oX1 ty h0 a0 z0])) 0 0 := by
  refine CX_of (cc := cX1_hearing) (maxL := 3) (ret := (some .int)) (C := RX1) (by decide) rfl rfl (Nat.le_of_ble_eq_true rfl) ?_
  intro p e s m below meth c A ls F hr hlk _ hK hP hD hS hA hl
  have hx := F.1
  have hb := F.2.1
  replace hl : lv_has ls 3 [(0, .ref h0)] := hl
  unfold f_X1_hearing at hf
  refine lv_iconst (v := (0 : Int32)) hx hb dX1_hearing_0 (by decide) ?_
  refine lv_istore_n (lv' := [(1, .int (0 : Int32)), (0, .ref h0)]) hx hb dX1_hearing_1 rfl hl (by decide) rfl (fun ls hl => ?_)
  refine lv_iconst (v := (0 : Int32)) hx hb dX1_hearing_2 (by decide) ?_
  refine lv_istore_n (lv' := [(2, .int (0 : Int32)), (1, .int (0 : Int32)), (0, .ref h0)]) hx hb dX1_hearing_3 rfl hl (by decide) rfl (fun ls hl => ?_)
  have L_4 : ∀ (n : Nat) (y1 : Int32) (y2 : Int32) (H : Heap) (locs : List Loc) (ls : Array Slot), va_P D vwC (fl [oX1 ty h0 a0 z0]) H → va_D A (fl [oX1 ty h0 a0 z0]) → va_S A s.heap H locs → lv_has ls 3 [(0, .ref h0), (1, .int y1), (2, .int y2)] → fuel2 (b_X1_hearing_4 z0) n y1 y2 = some o0 → W p l e rm_X1_hearing s m ([.ref h0] : List Value).toArray below meth c H locs 0 0 (MQ below (qI D o0 (fl [oX1 ty h0 a0 z0]) A) ([.ref h0] : List Value).toArray s 0 0 A) (F0 m 4 ls []) := by
    intro n
    induction n with
    | zero => intro y1 y2 H locs ls hP hD hS hl hf; cases hf
    | succ n ih_4 =>
      intro y1 y2 H locs ls hP hD hS hl hf
      replace hf : b_X1_hearing_4 z0 (fuel2 (b_X1_hearing_4 z0) n) y1 y2 = some o0 := hf
      generalize fuel2 (b_X1_hearing_4 z0) n = r_4 at ih_4 hf
      unfold b_X1_hearing_4 at hf
      have J_26 : ∀ (y1 : Int32) (y2 : Int32) (H : Heap) (locs : List Loc) (ls : Array Slot), va_P D vwC (fl [oX1 ty h0 a0 z0]) H → va_D A (fl [oX1 ty h0 a0 z0]) → va_S A s.heap H locs → lv_has ls 3 [(0, .ref h0), (1, .int y1), (2, .int y2)] → j_X1_hearing_26 z0 r_4 y1 y2 = some o0 → W p l e rm_X1_hearing s m ([.ref h0] : List Value).toArray below meth c H locs 0 0 (MQ below (qI D o0 (fl [oX1 ty h0 a0 z0]) A) ([.ref h0] : List Value).toArray s 0 0 A) (F0 m 26 ls []) := by
        intro y1 y2 H locs ls hP hD hS hl hf
        unfold j_X1_hearing_26 at hf
        obtain ⟨x1, ex⟩ : ∃ y : Int32, y = (y2 + (1 : Int32)) := ⟨_, rfl⟩
        replace hf := bnd_at hf ex
        refine lv_iinc (v := x1) (lv' := [(2, .int x1), (0, .ref h0), (1, .int y1)]) hx hb dX1_hearing_26 hl (k := 2) rfl (by rw [ex]; rfl) (by decide) rfl (fun ls hl => ?_)
        clear ex
        refine lv_goto (tgt := 4) hx hb dX1_hearing_29 (by decide) ?_
        exact ih_4 y1 x1 _ _ _ hP hD hS (lv_sub hl [1, 2, 0] rfl) hf
      refine lv_iload_n hx hb dX1_hearing_4 rfl (lv_at hl 2 rfl) ?_
      refine lv_aload_n hx hb dX1_hearing_5 rfl (lv_at hl 0 rfl) ?_
      refine va_get (D := D) (ci := 1) (C := RX1) (T := TX1) (N := 12) hx hb F.2.2.2.2 in_X1_hearing_X1 F.2.2.2.1 hK.1 hP 0 rfl rfl 6 (Nat.le_of_ble_eq_true rfl) (F.2.2.2.2 (.fieldLink RX1 30 "LouderRoom$Crowd" "rings" "I") (List.mem_of_getElem? (i := 1) rfl)) (fun _ h9 => h9) rfl dX1_hearing_6 ?_
      refine lv_icmp_ge (tgt := 32) hx hb dX1_hearing_9 (by decide) (fun hc => ?_) (fun hc => ?_)
      · replace hf := ite_t hf hc
        refine lv_iload_n hx hb dX1_hearing_32 rfl (lv_at hl 1 rfl) ?_
        obtain hf := hf
        have e0 := Option.some.inj hf
        exact CX_i F hr hlk hP hD hS e0 dX1_hearing_33
      · replace hf := ite_f hf hc
        refine lv_aload_n hx hb dX1_hearing_12 rfl (lv_at hl 0 rfl) ?_
        refine lv_iload_n hx hb dX1_hearing_13 rfl (lv_at hl 2 rfl) ?_
        obtain ⟨v2, hv, hf⟩ := obd hf
        have hp1 : List.Perm [oX1 ty h0 a0 z0] ([oX1 ty h0 a0 z0] ++ []) := (List.Perm.refl _)
        refine ci_call (out := v2) (os := [oX1 ty h0 a0 z0]) (oc := [oX1 ty h0 a0 z0]) (oc' := [oX1 ty h0 a0 z0]) (or_ := []) (os' := [oX1 ty h0 a0 z0]) (va_runV (As := [.int y2]) (rest := []) F (c_X1_hears l D ty h0 a0 _ _ _ hv _) (cwV 1 F.2.2.2.2 gX1_hearing_X1_hears rfl rfl rfl ⟨rfl, hd_X1_hears⟩ ⟨Nat.le_of_ble_eq_true rfl, Nat.le_of_ble_eq_true rfl⟩) (pre_v hK hP hD hp1 rfl rfl rfl) rfl rfl hl.1 rfl (lv_room (Nat.le_of_ble_eq_true rfl)) dX1_hearing_14 ⟨Nat.zero_le _, Nat.zero_le _⟩) hp1 (List.Perm.refl _) hP hD hS hA (fun H locs hP hD hS => ?_)
        clear hp1 hv
        refine lv_if_eq (tgt := 26) hx hb dX1_hearing_17 (by decide) (fun hc => ?_) (fun hc => ?_)
        · replace hf := ite_t hf hc
          exact J_26 y1 y2 _ _ _ hP hD hS (lv_sub hl [0, 1, 2] rfl) hf
        · replace hf := ite_f hf hc
          refine lv_iload_n hx hb dX1_hearing_20 rfl (lv_at hl 1 rfl) ?_
          refine lv_iconst (v := (1 : Int32)) hx hb dX1_hearing_21 (by decide) ?_
          refine lv_iload_n hx hb dX1_hearing_22 rfl (lv_at hl 2 rfl) ?_
          refine lv_ishl hx hb dX1_hearing_23 ?_
          refine lv_ior hx hb dX1_hearing_24 ?_
          refine lv_topi (fun x3 ex => ?_)
          replace hf := bnd_at hf ex; clear ex
          refine lv_istore_n (lv' := [(1, .int x3), (0, .ref h0), (2, .int y2)]) hx hb dX1_hearing_25 rfl hl (by decide) rfl (fun ls hl => ?_)
          exact J_26 x3 y2 _ _ _ hP hD hS (lv_sub hl [1, 0, 2] rfl) hf
  exact L_4 FU (0 : Int32) (0 : Int32) _ _ _ hP hD hS (lv_sub hl [2, 1, 0] rfl) hf
def b_X1_allHear_2 (z0 : Ob) (r_2 : Int32 → Option (Int32)) (y1 : Int32) : Option (Int32) := (if (z0.1 6) ≤ y1 then some (1 : Int32) else (f_X1_hears z0 y1).bind (fun v1 => (if v1 = 0 then some (0 : Int32) else bnd (y1 + (1 : Int32)) (fun x2 => r_2 x2))))
def f_X1_allHear (z0 : Ob) : Option (Int32) := fuel1 (b_X1_allHear_2 z0) FU (0 : Int32)
abbrev rm_X1_allHear : Room := { frames := 5, cells := 0, slots := 0, locals := 111 }
theorem hd_X1_allHear : yX1_allHear.cls ≠ "java/lang/invoke/MethodHandle" ∧ yX1_allHear.cls ≠ "java/lang/invoke/VarHandle" ∧ (parseMethodDescriptor yX1_allHear.desc).map (fun d => d.parameters.length) = some 0 := by decide +kernel
theorem in_X1_allHear_X1 : ∀ w ∈ wsX10, w ∈ wsX1_allHear := fun w h => List.mem_cons_of_mem _ (List.mem_append_right _ h)
set_option maxHeartbeats 4000000 in
set_option maxRecDepth 100000 in
theorem c_X1_allHear (l : Launch) (D : va_G) (ty : TY) (h0 : Nat) (a0 : Nat → Nat) (z0 : Ob) (o0 : Int32) (hf : f_X1_allHear z0 = some o0) (sz : Nat) : CX l yX1_allHear wsX1_allHear rm_X1_allHear ([.ref h0] : List Value) D ty (fl [oX1 ty h0 a0 z0]) sz (qI D o0 (fl [oX1 ty h0 a0 z0])) 0 0 := by
  refine CX_of (cc := cX1_allHear) (maxL := 2) (ret := (some .boolean)) (C := RX1) (by decide) rfl rfl (Nat.le_of_ble_eq_true rfl) ?_
  intro p e s m below meth c A ls F hr hlk _ hK hP hD hS hA hl
  have hx := F.1
  have hb := F.2.1
  replace hl : lv_has ls 2 [(0, .ref h0)] := hl
  unfold f_X1_allHear at hf
  refine lv_iconst (v := (0 : Int32)) hx hb dX1_allHear_0 (by decide) ?_
  refine lv_istore_n (lv' := [(1, .int (0 : Int32)), (0, .ref h0)]) hx hb dX1_allHear_1 rfl hl (by decide) rfl (fun ls hl => ?_)
  have L_2 : ∀ (n : Nat) (y1 : Int32) (H : Heap) (locs : List Loc) (ls : Array Slot), va_P D vwC (fl [oX1 ty h0 a0 z0]) H → va_D A (fl [oX1 ty h0 a0 z0]) → va_S A s.heap H locs → lv_has ls 2 [(0, .ref h0), (1, .int y1)] → fuel1 (b_X1_allHear_2 z0) n y1 = some o0 → W p l e rm_X1_allHear s m ([.ref h0] : List Value).toArray below meth c H locs 0 0 (MQ below (qI D o0 (fl [oX1 ty h0 a0 z0]) A) ([.ref h0] : List Value).toArray s 0 0 A) (F0 m 2 ls []) := by
    intro n
    induction n with
    | zero => intro y1 H locs ls hP hD hS hl hf; cases hf
    | succ n ih_2 =>
      intro y1 H locs ls hP hD hS hl hf
      replace hf : b_X1_allHear_2 z0 (fuel1 (b_X1_allHear_2 z0) n) y1 = some o0 := hf
      generalize fuel1 (b_X1_allHear_2 z0) n = r_2 at ih_2 hf
      unfold b_X1_allHear_2 at hf
      refine lv_iload_n hx hb dX1_allHear_2 rfl (lv_at hl 1 rfl) ?_
      refine lv_aload_n hx hb dX1_allHear_3 rfl (lv_at hl 0 rfl) ?_
      refine va_get (D := D) (ci := 1) (C := RX1) (T := TX1) (N := 12) hx hb F.2.2.2.2 in_X1_allHear_X1 F.2.2.2.1 hK.1 hP 0 rfl rfl 6 (Nat.le_of_ble_eq_true rfl) (F.2.2.2.2 (.fieldLink RX1 30 "LouderRoom$Crowd" "rings" "I") (List.mem_of_getElem? (i := 1) rfl)) (fun _ h9 => h9) rfl dX1_allHear_4 ?_
      refine lv_icmp_ge (tgt := 26) hx hb dX1_allHear_7 (by decide) (fun hc => ?_) (fun hc => ?_)
      · replace hf := ite_t hf hc
        refine lv_iconst (v := (1 : Int32)) hx hb dX1_allHear_26 (by decide) ?_
        obtain hf := hf
        have e0 := Option.some.inj hf
        exact CX_z F hr hlk hP hD hS narrow_b1 e0 dX1_allHear_27
      · replace hf := ite_f hf hc
        refine lv_aload_n hx hb dX1_allHear_10 rfl (lv_at hl 0 rfl) ?_
        refine lv_iload_n hx hb dX1_allHear_11 rfl (lv_at hl 1 rfl) ?_
        obtain ⟨v1, hv, hf⟩ := obd hf
        have hp1 : List.Perm [oX1 ty h0 a0 z0] ([oX1 ty h0 a0 z0] ++ []) := (List.Perm.refl _)
        refine ci_call (out := v1) (os := [oX1 ty h0 a0 z0]) (oc := [oX1 ty h0 a0 z0]) (oc' := [oX1 ty h0 a0 z0]) (or_ := []) (os' := [oX1 ty h0 a0 z0]) (va_runV (As := [.int y1]) (rest := []) F (c_X1_hears l D ty h0 a0 _ _ _ hv _) (cwV 1 F.2.2.2.2 gX1_allHear_X1_hears rfl rfl rfl ⟨rfl, hd_X1_hears⟩ ⟨Nat.le_of_ble_eq_true rfl, Nat.le_of_ble_eq_true rfl⟩) (pre_v hK hP hD hp1 rfl rfl rfl) rfl rfl hl.1 rfl (lv_room (Nat.le_of_ble_eq_true rfl)) dX1_allHear_12 ⟨Nat.zero_le _, Nat.zero_le _⟩) hp1 (List.Perm.refl _) hP hD hS hA (fun H locs hP hD hS => ?_)
        clear hp1 hv
        refine lv_if_ne (tgt := 20) hx hb dX1_allHear_15 (by decide) (fun hc => ?_) (fun hc => ?_)
        · replace hf := ite_f hf hc
          obtain ⟨x2, ex⟩ : ∃ y : Int32, y = (y1 + (1 : Int32)) := ⟨_, rfl⟩
          replace hf := bnd_at hf ex
          refine lv_iinc (v := x2) (lv' := [(1, .int x2), (0, .ref h0)]) hx hb dX1_allHear_20 hl (k := 1) rfl (by rw [ex]; rfl) (by decide) rfl (fun ls hl => ?_)
          clear ex
          refine lv_goto (tgt := 2) hx hb dX1_allHear_23 (by decide) ?_
          exact ih_2 x2 _ _ _ hP hD hS (lv_sub hl [1, 0] rfl) hf
        · replace hf := ite_t hf hc
          refine lv_iconst (v := (0 : Int32)) hx hb dX1_allHear_18 (by decide) ?_
          obtain hf := hf
          have e0 := Option.some.inj hf
          exact CX_z F hr hlk hP hD hS narrow_b0 e0 dX1_allHear_19
  exact L_2 FU (0 : Int32) _ _ _ hP hD hS (lv_sub hl [1, 0] rfl) hf
def j_X1_voiceAfter_127 (z0 : Ob) (p1 : Int32) (p2 : Int32) (t0 : Int32) (t1 : Int32) (t2 : Int32) : Option (Int32) := some (if (t1 + t0) < t2 then (t1 + t0) else t2)
def j_X1_voiceAfter_109 (z0 : Ob) (p1 : Int32) (p2 : Int32) (y3 : Int32) : Option (Int32) := (if inb p1 8 = true then (if (z0.2 0 p1.toNatClampNeg) = (2 : Int32) then j_X1_voiceAfter_127 z0 p1 p2 (2 : Int32) y3 (9 : Int32) else j_X1_voiceAfter_127 z0 p1 p2 (1 : Int32) y3 (9 : Int32)) else none)
def j_X1_voiceAfter_69 (z0 : Ob) (p1 : Int32) (p2 : Int32) (y3 : Int32) (t0 : Int32) : Option (Int32) := (if t0 = 0 then some y3 else some (y3 - (1 : Int32)))
def j_X1_voiceAfter_68 (z0 : Ob) (p1 : Int32) (p2 : Int32) (y3 : Int32) : Option (Int32) := j_X1_voiceAfter_69 z0 p1 p2 y3 (0 : Int32)
def f_X1_voiceAfter (z0 : Ob) (p1 : Int32) (p2 : Int32) : Option (Int32) := (if inb p1 8 = true then bnd (z0.2 3 p1.toNatClampNeg) (fun x1 => (f_X1_hearsAnyway z0 p1).bind (fun v2 => (if v2 = 0 then (f_X1_loudOf z0 p1).bind (fun v3 => (f_X1_soundBy z0 p1 v3).bind (fun v4 => (f_X1_hearsBy z0 p1 v4 p2).bind (fun v5 => (if v5 = 0 then (if inb p1 8 = true then (if (z0.2 0 p1.toNatClampNeg) = (1 : Int32) then (f_X1_hearsBy z0 p1 ((2 : Int32) * v4) p2).bind (fun v6 => (if v6 = 0 then j_X1_voiceAfter_109 z0 p1 p2 x1 else some x1)) else j_X1_voiceAfter_109 z0 p1 p2 x1) else none) else (if x1 ≤ (1 : Int32) then j_X1_voiceAfter_68 z0 p1 p2 x1 else (f_X1_soundBy z0 p1 ((1 : Int32) <<< ((x1 - (1 : Int32)) &&& 31))).bind (fun v7 => (f_X1_hearsBy z0 p1 v7 p2).bind (fun v8 => (if v8 = 0 then j_X1_voiceAfter_68 z0 p1 p2 x1 else j_X1_voiceAfter_69 z0 p1 p2 x1 (1 : Int32))))))))) else some x1))) else none)
abbrev rm_X1_voiceAfter : Room := { frames := 2, cells := 0, slots := 0, locals := 44 }
theorem hd_X1_voiceAfter : yX1_voiceAfter.cls ≠ "java/lang/invoke/MethodHandle" ∧ yX1_voiceAfter.cls ≠ "java/lang/invoke/VarHandle" ∧ (parseMethodDescriptor yX1_voiceAfter.desc).map (fun d => d.parameters.length) = some 2 := by decide +kernel
theorem in_X1_voiceAfter_X1 : ∀ w ∈ wsX10, w ∈ wsX1_voiceAfter := fun w h => List.mem_cons_of_mem _ (List.mem_append_right _ h)
set_option maxHeartbeats 4000000 in
set_option maxRecDepth 100000 in
theorem c_X1_voiceAfter (l : Launch) (D : va_G) (ty : TY) (h0 : Nat) (a0 : Nat → Nat) (z0 : Ob) (p1 : Int32) (p2 : Int32) (o0 : Int32) (hf : f_X1_voiceAfter z0 p1 p2 = some o0) (sz : Nat) : CX l yX1_voiceAfter wsX1_voiceAfter rm_X1_voiceAfter ([.ref h0, .int p1, .int p2] : List Value) D ty (fl [oX1 ty h0 a0 z0]) sz (qI D o0 (fl [oX1 ty h0 a0 z0])) 0 0 := by
  refine CX_of (cc := cX1_voiceAfter) (maxL := 6) (ret := (some .int)) (C := RX1) (by decide) rfl rfl (Nat.le_of_ble_eq_true rfl) ?_
  intro p e s m below meth c A ls F hr hlk _ hK hP hD hS hA hl
  have hx := F.1
  have hb := F.2.1
  replace hl : lv_has ls 6 [(0, .ref h0), (1, .int p1), (2, .int p2)] := hl
  unfold f_X1_voiceAfter at hf
  have J_127 : ∀ (t0 : Int32) (t1 : Int32) (t2 : Int32) (H : Heap) (locs : List Loc) (ls : Array Slot), va_P D vwC (fl [oX1 ty h0 a0 z0]) H → va_D A (fl [oX1 ty h0 a0 z0]) → va_S A s.heap H locs → lv_has ls 6 [] → j_X1_voiceAfter_127 z0 p1 p2 t0 t1 t2 = some o0 → W p l e rm_X1_voiceAfter s m ([.ref h0, .int p1, .int p2] : List Value).toArray below meth c H locs 0 0 (MQ below (qI D o0 (fl [oX1 ty h0 a0 z0]) A) ([.ref h0, .int p1, .int p2] : List Value).toArray s 0 0 A) (F0 m 127 ls [.int t0, .int t1, .int t2]) := by
    intro t0 t1 t2 H locs ls hP hD hS hl hf
    unfold j_X1_voiceAfter_127 at hf
    refine lv_iadd hx hb dX1_voiceAfter_127 ?_
    refine va_mmin hx hb (F.2.2.1.trans hl.1.symm) F.2.2.2.1 (F.2.2.2.2 (.methodLink RX1 63 Lib.Math.min.name) (List.mem_of_getElem? (i := 3) rfl)) (F.2.2.2.2 (.static Lib.Math.min.name) (List.mem_of_getElem? (i := 4) rfl)) (F.2.2.2.2 (.initialized "java/lang/Math") (List.mem_of_getElem? (i := 5) rfl)) (F.2.2.2.2 (.code Lib.Math.min.name Lib.Math.min.code 2 (some .int)) (List.mem_of_getElem? (i := 6) rfl)) (Nat.le_of_ble_eq_true rfl) (Nat.le_of_ble_eq_true rfl) (Nat.zero_le _) (Nat.zero_le _) dX1_voiceAfter_128 ?_
    obtain hf := hf
    have e0 := Option.some.inj hf
    exact CX_i F hr hlk hP hD hS e0 dX1_voiceAfter_131
  have J_109 : ∀ (y3 : Int32) (H : Heap) (locs : List Loc) (ls : Array Slot), va_P D vwC (fl [oX1 ty h0 a0 z0]) H → va_D A (fl [oX1 ty h0 a0 z0]) → va_S A s.heap H locs → lv_has ls 6 [(0, .ref h0), (1, .int p1), (3, .int y3)] → j_X1_voiceAfter_109 z0 p1 p2 y3 = some o0 → W p l e rm_X1_voiceAfter s m ([.ref h0, .int p1, .int p2] : List Value).toArray below meth c H locs 0 0 (MQ below (qI D o0 (fl [oX1 ty h0 a0 z0]) A) ([.ref h0, .int p1, .int p2] : List Value).toArray s 0 0 A) (F0 m 109 ls []) := by
    intro y3 H locs ls hP hD hS hl hf
    unfold j_X1_voiceAfter_109 at hf
    refine lv_bipush (v := (9 : Int32)) hx hb dX1_voiceAfter_109 (by decide) ?_
    refine lv_iload_n hx hb dX1_voiceAfter_111 rfl (lv_at hl 2 rfl) ?_
    refine lv_aload_n hx hb dX1_voiceAfter_112 rfl (lv_at hl 0 rfl) ?_
    refine va_get (D := D) (ci := 1) (C := RX1) (T := TX1) (N := 12) hx hb F.2.2.2.2 in_X1_voiceAfter_X1 F.2.2.2.1 hK.1 hP 0 rfl rfl 0 (Nat.le_of_ble_eq_true rfl) (F.2.2.2.2 (.fieldLink RX1 9 "LouderRoom$Crowd" "kind" "[I") (List.mem_of_getElem? (i := 2) rfl)) (fun _ h9 => h9) rfl dX1_voiceAfter_113 ?_
    refine lv_iload_n hx hb dX1_voiceAfter_116 rfl (lv_at hl 1 rfl) ?_
    obtain ⟨hi, hf⟩ := grd hf
    refine va_iald hx hb hK.1 hP 1 0 rfl rfl (inb_in hi) dX1_voiceAfter_117 ?_
    refine lv_iconst (v := (2 : Int32)) hx hb dX1_voiceAfter_118 (by decide) ?_
    refine lv_icmp_ne (tgt := 126) hx hb dX1_voiceAfter_119 (by decide) (fun hc => ?_) (fun hc => ?_)
    · replace hf := ite_f hf hc
      refine lv_iconst (v := (1 : Int32)) hx hb dX1_voiceAfter_126 (by decide) ?_
      exact J_127 (1 : Int32) y3 (9 : Int32) _ _ _ hP hD hS (lv_sub hl [] rfl) hf
    · replace hf := ite_t hf hc
      refine lv_iconst (v := (2 : Int32)) hx hb dX1_voiceAfter_122 (by decide) ?_
      refine lv_goto (tgt := 127) hx hb dX1_voiceAfter_123 (by decide) ?_
      exact J_127 (2 : Int32) y3 (9 : Int32) _ _ _ hP hD hS (lv_sub hl [] rfl) hf
  have J_69 : ∀ (y3 : Int32) (t0 : Int32) (H : Heap) (locs : List Loc) (ls : Array Slot), va_P D vwC (fl [oX1 ty h0 a0 z0]) H → va_D A (fl [oX1 ty h0 a0 z0]) → va_S A s.heap H locs → lv_has ls 6 [(3, .int y3)] → j_X1_voiceAfter_69 z0 p1 p2 y3 t0 = some o0 → W p l e rm_X1_voiceAfter s m ([.ref h0, .int p1, .int p2] : List Value).toArray below meth c H locs 0 0 (MQ below (qI D o0 (fl [oX1 ty h0 a0 z0]) A) ([.ref h0, .int p1, .int p2] : List Value).toArray s 0 0 A) (F0 m 69 ls [.int t0]) := by
    intro y3 t0 H locs ls hP hD hS hl hf
    unfold j_X1_voiceAfter_69 at hf
    refine lv_istore (lv' := [(5, .int t0), (3, .int y3)]) hx hb dX1_voiceAfter_69 hl (by decide) rfl (fun ls hl => ?_)
    refine lv_iload hx hb dX1_voiceAfter_71 (lv_at hl 0 rfl) ?_
    refine lv_if_eq (tgt := 82) hx hb dX1_voiceAfter_73 (by decide) (fun hc => ?_) (fun hc => ?_)
    · replace hf := ite_t hf hc
      refine lv_iload_n hx hb dX1_voiceAfter_82 rfl (lv_at hl 1 rfl) ?_
      obtain hf := hf
      have e0 := Option.some.inj hf
      exact CX_i F hr hlk hP hD hS e0 dX1_voiceAfter_83
    · replace hf := ite_f hf hc
      refine lv_iload_n hx hb dX1_voiceAfter_76 rfl (lv_at hl 1 rfl) ?_
      refine lv_iconst (v := (1 : Int32)) hx hb dX1_voiceAfter_77 (by decide) ?_
      refine lv_isub hx hb dX1_voiceAfter_78 ?_
      refine lv_goto (tgt := 83) hx hb dX1_voiceAfter_79 (by decide) ?_
      obtain hf := hf
      have e0 := Option.some.inj hf
      exact CX_i F hr hlk hP hD hS e0 dX1_voiceAfter_83
  have J_68 : ∀ (y3 : Int32) (H : Heap) (locs : List Loc) (ls : Array Slot), va_P D vwC (fl [oX1 ty h0 a0 z0]) H → va_D A (fl [oX1 ty h0 a0 z0]) → va_S A s.heap H locs → lv_has ls 6 [(3, .int y3)] → j_X1_voiceAfter_68 z0 p1 p2 y3 = some o0 → W p l e rm_X1_voiceAfter s m ([.ref h0, .int p1, .int p2] : List Value).toArray below meth c H locs 0 0 (MQ below (qI D o0 (fl [oX1 ty h0 a0 z0]) A) ([.ref h0, .int p1, .int p2] : List Value).toArray s 0 0 A) (F0 m 68 ls []) := by
    intro y3 H locs ls hP hD hS hl hf
    unfold j_X1_voiceAfter_68 at hf
    refine lv_iconst (v := (0 : Int32)) hx hb dX1_voiceAfter_68 (by decide) ?_
    exact J_69 y3 (0 : Int32) _ _ _ hP hD hS (lv_sub hl [0] rfl) hf
  refine lv_aload_n hx hb dX1_voiceAfter_0 rfl (lv_at hl 0 rfl) ?_
  refine va_get (D := D) (ci := 1) (C := RX1) (T := TX1) (N := 12) hx hb F.2.2.2.2 in_X1_voiceAfter_X1 F.2.2.2.1 hK.1 hP 0 rfl rfl 3 (Nat.le_of_ble_eq_true rfl) (F.2.2.2.2 (.fieldLink RX1 21 "LouderRoom$Crowd" "voice" "[I") (List.mem_of_getElem? (i := 1) rfl)) (fun _ h9 => h9) rfl dX1_voiceAfter_1 ?_
  refine lv_iload_n hx hb dX1_voiceAfter_4 rfl (lv_at hl 1 rfl) ?_
  obtain ⟨hi, hf⟩ := grd hf
  refine va_iald hx hb hK.1 hP 4 0 rfl rfl (inb_in hi) dX1_voiceAfter_5 ?_
  refine lv_topi (fun x1 ex => ?_)
  replace hf := bnd_at hf ex; clear ex
  refine lv_istore_n (lv' := [(3, .int x1), (0, .ref h0), (1, .int p1), (2, .int p2)]) hx hb dX1_voiceAfter_6 rfl hl (by decide) rfl (fun ls hl => ?_)
  refine lv_aload_n hx hb dX1_voiceAfter_7 rfl (lv_at hl 1 rfl) ?_
  refine lv_iload_n hx hb dX1_voiceAfter_8 rfl (lv_at hl 2 rfl) ?_
  obtain ⟨v2, hv, hf⟩ := obd hf
  have hp1 : List.Perm [oX1 ty h0 a0 z0] ([oX1 ty h0 a0 z0] ++ []) := (List.Perm.refl _)
  refine ci_call (out := v2) (os := [oX1 ty h0 a0 z0]) (oc := [oX1 ty h0 a0 z0]) (oc' := [oX1 ty h0 a0 z0]) (or_ := []) (os' := [oX1 ty h0 a0 z0]) (va_runV (As := [.int p1]) (rest := []) F (c_X1_hearsAnyway l D ty h0 a0 _ _ _ hv _) (cwV 1 F.2.2.2.2 gX1_voiceAfter_X1_hearsAnyway rfl rfl rfl ⟨rfl, hd_X1_hearsAnyway⟩ ⟨Nat.le_of_ble_eq_true rfl, Nat.le_of_ble_eq_true rfl⟩) (pre_v hK hP hD hp1 rfl rfl rfl) rfl rfl hl.1 rfl (lv_room (Nat.le_of_ble_eq_true rfl)) dX1_voiceAfter_9 ⟨Nat.zero_le _, Nat.zero_le _⟩) hp1 (List.Perm.refl _) hP hD hS hA (fun H locs hP hD hS => ?_)
  clear hp1 hv
  refine lv_if_eq (tgt := 17) hx hb dX1_voiceAfter_12 (by decide) (fun hc => ?_) (fun hc => ?_)
  · replace hf := ite_t hf hc
    refine lv_aload_n hx hb dX1_voiceAfter_17 rfl (lv_at hl 1 rfl) ?_
    refine lv_iload_n hx hb dX1_voiceAfter_18 rfl (lv_at hl 2 rfl) ?_
    refine lv_aload_n hx hb dX1_voiceAfter_19 rfl (lv_at hl 1 rfl) ?_
    refine lv_iload_n hx hb dX1_voiceAfter_20 rfl (lv_at hl 2 rfl) ?_
    obtain ⟨v3, hv, hf⟩ := obd hf
    have hp1 : List.Perm [oX1 ty h0 a0 z0] ([oX1 ty h0 a0 z0] ++ []) := (List.Perm.refl _)
    refine ci_call (out := v3) (os := [oX1 ty h0 a0 z0]) (oc := [oX1 ty h0 a0 z0]) (oc' := [oX1 ty h0 a0 z0]) (or_ := []) (os' := [oX1 ty h0 a0 z0]) (va_runV (As := [.int p1]) (rest := [.int p1, .ref h0]) F (c_X1_loudOf l D ty h0 a0 _ _ _ hv _) (cwV 1 F.2.2.2.2 gX1_voiceAfter_X1_loudOf rfl rfl rfl ⟨rfl, hd_X1_loudOf⟩ ⟨Nat.le_of_ble_eq_true rfl, Nat.le_of_ble_eq_true rfl⟩) (pre_v hK hP hD hp1 rfl rfl rfl) rfl rfl hl.1 rfl (lv_room (Nat.le_of_ble_eq_true rfl)) dX1_voiceAfter_21 ⟨Nat.zero_le _, Nat.zero_le _⟩) hp1 (List.Perm.refl _) hP hD hS hA (fun H locs hP hD hS => ?_)
    clear hp1 hv
    obtain ⟨v4, hv, hf⟩ := obd hf
    have hp1 : List.Perm [oX1 ty h0 a0 z0] ([oX1 ty h0 a0 z0] ++ []) := (List.Perm.refl _)
    refine ci_call (out := v4) (os := [oX1 ty h0 a0 z0]) (oc := [oX1 ty h0 a0 z0]) (oc' := [oX1 ty h0 a0 z0]) (or_ := []) (os' := [oX1 ty h0 a0 z0]) (va_runV (As := [.int p1, .int v3]) (rest := []) F (c_X1_soundBy l D ty h0 a0 _ _ _ _ hv _) (cwV 2 F.2.2.2.2 gX1_voiceAfter_X1_soundBy rfl rfl rfl ⟨rfl, hd_X1_soundBy⟩ ⟨Nat.le_of_ble_eq_true rfl, Nat.le_of_ble_eq_true rfl⟩) (pre_v hK hP hD hp1 rfl rfl rfl) rfl rfl hl.1 rfl (lv_room (Nat.le_of_ble_eq_true rfl)) dX1_voiceAfter_24 ⟨Nat.zero_le _, Nat.zero_le _⟩) hp1 (List.Perm.refl _) hP hD hS hA (fun H locs hP hD hS => ?_)
    clear hp1 hv
    refine lv_istore (lv' := [(4, .int v4), (3, .int x1), (0, .ref h0), (1, .int p1), (2, .int p2)]) hx hb dX1_voiceAfter_27 hl (by decide) rfl (fun ls hl => ?_)
    refine lv_aload_n hx hb dX1_voiceAfter_29 rfl (lv_at hl 2 rfl) ?_
    refine lv_iload_n hx hb dX1_voiceAfter_30 rfl (lv_at hl 3 rfl) ?_
    refine lv_iload hx hb dX1_voiceAfter_31 (lv_at hl 0 rfl) ?_
    refine lv_iload_n hx hb dX1_voiceAfter_33 rfl (lv_at hl 4 rfl) ?_
    obtain ⟨v5, hv, hf⟩ := obd hf
    have hp1 : List.Perm [oX1 ty h0 a0 z0] ([oX1 ty h0 a0 z0] ++ []) := (List.Perm.refl _)
    refine ci_call (out := v5) (os := [oX1 ty h0 a0 z0]) (oc := [oX1 ty h0 a0 z0]) (oc' := [oX1 ty h0 a0 z0]) (or_ := []) (os' := [oX1 ty h0 a0 z0]) (va_runV (As := [.int p1, .int v4, .int p2]) (rest := []) F (c_X1_hearsBy l D ty h0 a0 _ _ _ _ _ hv _) (cwV 3 F.2.2.2.2 gX1_voiceAfter_X1_hearsBy rfl rfl rfl ⟨rfl, hd_X1_hearsBy⟩ ⟨Nat.le_of_ble_eq_true rfl, Nat.le_of_ble_eq_true rfl⟩) (pre_v hK hP hD hp1 rfl rfl rfl) rfl rfl hl.1 rfl (lv_room (Nat.le_of_ble_eq_true rfl)) dX1_voiceAfter_34 ⟨Nat.zero_le _, Nat.zero_le _⟩) hp1 (List.Perm.refl _) hP hD hS hA (fun H locs hP hD hS => ?_)
    clear hp1 hv
    refine lv_if_eq (tgt := 84) hx hb dX1_voiceAfter_37 (by decide) (fun hc => ?_) (fun hc => ?_)
    · replace hf := ite_t hf hc
      refine lv_aload_n hx hb dX1_voiceAfter_84 rfl (lv_at hl 2 rfl) ?_
      refine va_get (D := D) (ci := 1) (C := RX1) (T := TX1) (N := 12) hx hb F.2.2.2.2 in_X1_voiceAfter_X1 F.2.2.2.1 hK.1 hP 0 rfl rfl 0 (Nat.le_of_ble_eq_true rfl) (F.2.2.2.2 (.fieldLink RX1 9 "LouderRoom$Crowd" "kind" "[I") (List.mem_of_getElem? (i := 2) rfl)) (fun _ h9 => h9) rfl dX1_voiceAfter_85 ?_
      refine lv_iload_n hx hb dX1_voiceAfter_88 rfl (lv_at hl 3 rfl) ?_
      obtain ⟨hi, hf⟩ := grd hf
      refine va_iald hx hb hK.1 hP 1 0 rfl rfl (inb_in hi) dX1_voiceAfter_89 ?_
      refine lv_iconst (v := (1 : Int32)) hx hb dX1_voiceAfter_90 (by decide) ?_
      refine lv_icmp_ne (tgt := 109) hx hb dX1_voiceAfter_91 (by decide) (fun hc => ?_) (fun hc => ?_)
      · replace hf := ite_f hf hc
        exact J_109 x1 _ _ _ hP hD hS (lv_sub hl [2, 3, 1] rfl) hf
      · replace hf := ite_t hf hc
        refine lv_aload_n hx hb dX1_voiceAfter_94 rfl (lv_at hl 2 rfl) ?_
        refine lv_iload_n hx hb dX1_voiceAfter_95 rfl (lv_at hl 3 rfl) ?_
        refine lv_iconst (v := (2 : Int32)) hx hb dX1_voiceAfter_96 (by decide) ?_
        refine lv_iload hx hb dX1_voiceAfter_97 (lv_at hl 0 rfl) ?_
        refine lv_imul hx hb dX1_voiceAfter_99 ?_
        refine lv_iload_n hx hb dX1_voiceAfter_100 rfl (lv_at hl 4 rfl) ?_
        obtain ⟨v6, hv, hf⟩ := obd hf
        have hp1 : List.Perm [oX1 ty h0 a0 z0] ([oX1 ty h0 a0 z0] ++ []) := (List.Perm.refl _)
        refine ci_call (out := v6) (os := [oX1 ty h0 a0 z0]) (oc := [oX1 ty h0 a0 z0]) (oc' := [oX1 ty h0 a0 z0]) (or_ := []) (os' := [oX1 ty h0 a0 z0]) (va_runV (As := [.int p1, .int ((2 : Int32) * v4), .int p2]) (rest := []) F (c_X1_hearsBy l D ty h0 a0 _ _ _ _ _ hv _) (cwV 3 F.2.2.2.2 gX1_voiceAfter_X1_hearsBy rfl rfl rfl ⟨rfl, hd_X1_hearsBy⟩ ⟨Nat.le_of_ble_eq_true rfl, Nat.le_of_ble_eq_true rfl⟩) (pre_v hK hP hD hp1 rfl rfl rfl) rfl rfl hl.1 rfl (lv_room (Nat.le_of_ble_eq_true rfl)) dX1_voiceAfter_101 ⟨Nat.zero_le _, Nat.zero_le _⟩) hp1 (List.Perm.refl _) hP hD hS hA (fun H locs hP hD hS => ?_)
        clear hp1 hv
        refine lv_if_eq (tgt := 109) hx hb dX1_voiceAfter_104 (by decide) (fun hc => ?_) (fun hc => ?_)
        · replace hf := ite_t hf hc
          exact J_109 x1 _ _ _ hP hD hS (lv_sub hl [2, 3, 1] rfl) hf
        · replace hf := ite_f hf hc
          refine lv_iload_n hx hb dX1_voiceAfter_107 rfl (lv_at hl 1 rfl) ?_
          obtain hf := hf
          have e0 := Option.some.inj hf
          exact CX_i F hr hlk hP hD hS e0 dX1_voiceAfter_108
    · replace hf := ite_f hf hc
      refine lv_iload_n hx hb dX1_voiceAfter_40 rfl (lv_at hl 1 rfl) ?_
      refine lv_iconst (v := (1 : Int32)) hx hb dX1_voiceAfter_41 (by decide) ?_
      refine lv_icmp_le (tgt := 68) hx hb dX1_voiceAfter_42 (by decide) (fun hc => ?_) (fun hc => ?_)
      · replace hf := ite_t hf hc
        exact J_68 x1 _ _ _ hP hD hS (lv_sub hl [1] rfl) hf
      · replace hf := ite_f hf hc
        refine lv_aload_n hx hb dX1_voiceAfter_45 rfl (lv_at hl 2 rfl) ?_
        refine lv_iload_n hx hb dX1_voiceAfter_46 rfl (lv_at hl 3 rfl) ?_
        refine lv_aload_n hx hb dX1_voiceAfter_47 rfl (lv_at hl 2 rfl) ?_
        refine lv_iload_n hx hb dX1_voiceAfter_48 rfl (lv_at hl 3 rfl) ?_
        refine lv_iconst (v := (1 : Int32)) hx hb dX1_voiceAfter_49 (by decide) ?_
        refine lv_iload_n hx hb dX1_voiceAfter_50 rfl (lv_at hl 1 rfl) ?_
        refine lv_iconst (v := (1 : Int32)) hx hb dX1_voiceAfter_51 (by decide) ?_
        refine lv_isub hx hb dX1_voiceAfter_52 ?_
        refine lv_ishl hx hb dX1_voiceAfter_53 ?_
        obtain ⟨v7, hv, hf⟩ := obd hf
        have hp1 : List.Perm [oX1 ty h0 a0 z0] ([oX1 ty h0 a0 z0] ++ []) := (List.Perm.refl _)
        refine ci_call (out := v7) (os := [oX1 ty h0 a0 z0]) (oc := [oX1 ty h0 a0 z0]) (oc' := [oX1 ty h0 a0 z0]) (or_ := []) (os' := [oX1 ty h0 a0 z0]) (va_runV (As := [.int p1, .int ((1 : Int32) <<< ((x1 - (1 : Int32)) &&& 31))]) (rest := [.int p1, .ref h0]) F (c_X1_soundBy l D ty h0 a0 _ _ _ _ hv _) (cwV 2 F.2.2.2.2 gX1_voiceAfter_X1_soundBy rfl rfl rfl ⟨rfl, hd_X1_soundBy⟩ ⟨Nat.le_of_ble_eq_true rfl, Nat.le_of_ble_eq_true rfl⟩) (pre_v hK hP hD hp1 rfl rfl rfl) rfl rfl hl.1 rfl (lv_room (Nat.le_of_ble_eq_true rfl)) dX1_voiceAfter_54 ⟨Nat.zero_le _, Nat.zero_le _⟩) hp1 (List.Perm.refl _) hP hD hS hA (fun H locs hP hD hS => ?_)
        clear hp1 hv
        refine lv_iload_n hx hb dX1_voiceAfter_57 rfl (lv_at hl 4 rfl) ?_
        obtain ⟨v8, hv, hf⟩ := obd hf
        have hp1 : List.Perm [oX1 ty h0 a0 z0] ([oX1 ty h0 a0 z0] ++ []) := (List.Perm.refl _)
        refine ci_call (out := v8) (os := [oX1 ty h0 a0 z0]) (oc := [oX1 ty h0 a0 z0]) (oc' := [oX1 ty h0 a0 z0]) (or_ := []) (os' := [oX1 ty h0 a0 z0]) (va_runV (As := [.int p1, .int v7, .int p2]) (rest := []) F (c_X1_hearsBy l D ty h0 a0 _ _ _ _ _ hv _) (cwV 3 F.2.2.2.2 gX1_voiceAfter_X1_hearsBy rfl rfl rfl ⟨rfl, hd_X1_hearsBy⟩ ⟨Nat.le_of_ble_eq_true rfl, Nat.le_of_ble_eq_true rfl⟩) (pre_v hK hP hD hp1 rfl rfl rfl) rfl rfl hl.1 rfl (lv_room (Nat.le_of_ble_eq_true rfl)) dX1_voiceAfter_58 ⟨Nat.zero_le _, Nat.zero_le _⟩) hp1 (List.Perm.refl _) hP hD hS hA (fun H locs hP hD hS => ?_)
        clear hp1 hv
        refine lv_if_eq (tgt := 68) hx hb dX1_voiceAfter_61 (by decide) (fun hc => ?_) (fun hc => ?_)
        · replace hf := ite_t hf hc
          exact J_68 x1 _ _ _ hP hD hS (lv_sub hl [1] rfl) hf
        · replace hf := ite_f hf hc
          refine lv_iconst (v := (1 : Int32)) hx hb dX1_voiceAfter_64 (by decide) ?_
          refine lv_goto (tgt := 69) hx hb dX1_voiceAfter_65 (by decide) ?_
          exact J_69 x1 (1 : Int32) _ _ _ hP hD hS (lv_sub hl [1] rfl) hf
  · replace hf := ite_f hf hc
    refine lv_iload_n hx hb dX1_voiceAfter_15 rfl (lv_at hl 0 rfl) ?_
    obtain hf := hf
    have e0 := Option.some.inj hf
    exact CX_i F hr hlk hP hD hS e0 dX1_voiceAfter_16
def j_X1_musicAfter_17 (z0 : Ob) (p1 : Int32)  : Option (Int32) := some (z0.1 8)
def f_X1_musicAfter (z0 : Ob) (p1 : Int32) : Option (Int32) := (f_X1_loudMusic z0).bind (fun v1 => (if (z0.1 10) = 0 then j_X1_musicAfter_17 z0 p1  else (if p1 = v1 then j_X1_musicAfter_17 z0 p1  else (if p1 ≤ v1 then some (if (0 : Int32) < ((z0.1 8) - (1 : Int32)) then ((z0.1 8) - (1 : Int32)) else (0 : Int32)) else some (if ((z0.1 8) + (1 : Int32)) < (9 : Int32) then ((z0.1 8) + (1 : Int32)) else (9 : Int32))))))
abbrev rm_X1_musicAfter : Room := { frames := 1, cells := 0, slots := 0, locals := 21 }
theorem hd_X1_musicAfter : yX1_musicAfter.cls ≠ "java/lang/invoke/MethodHandle" ∧ yX1_musicAfter.cls ≠ "java/lang/invoke/VarHandle" ∧ (parseMethodDescriptor yX1_musicAfter.desc).map (fun d => d.parameters.length) = some 1 := by decide +kernel
theorem in_X1_musicAfter_X1 : ∀ w ∈ wsX10, w ∈ wsX1_musicAfter := fun w h => List.mem_cons_of_mem _ (List.mem_append_right _ h)
set_option maxHeartbeats 4000000 in
set_option maxRecDepth 100000 in
theorem c_X1_musicAfter (l : Launch) (D : va_G) (ty : TY) (h0 : Nat) (a0 : Nat → Nat) (z0 : Ob) (p1 : Int32) (o0 : Int32) (hf : f_X1_musicAfter z0 p1 = some o0) (sz : Nat) : CX l yX1_musicAfter wsX1_musicAfter rm_X1_musicAfter ([.ref h0, .int p1] : List Value) D ty (fl [oX1 ty h0 a0 z0]) sz (qI D o0 (fl [oX1 ty h0 a0 z0])) 0 0 := by
  refine CX_of (cc := cX1_musicAfter) (maxL := 3) (ret := (some .int)) (C := RX1) (by decide) rfl rfl (Nat.le_of_ble_eq_true rfl) ?_
  intro p e s m below meth c A ls F hr hlk _ hK hP hD hS hA hl
  have hx := F.1
  have hb := F.2.1
  replace hl : lv_has ls 3 [(0, .ref h0), (1, .int p1)] := hl
  unfold f_X1_musicAfter at hf
  have J_17 : ∀  (H : Heap) (locs : List Loc) (ls : Array Slot), va_P D vwC (fl [oX1 ty h0 a0 z0]) H → va_D A (fl [oX1 ty h0 a0 z0]) → va_S A s.heap H locs → lv_has ls 3 [(0, .ref h0)] → j_X1_musicAfter_17 z0 p1  = some o0 → W p l e rm_X1_musicAfter s m ([.ref h0, .int p1] : List Value).toArray below meth c H locs 0 0 (MQ below (qI D o0 (fl [oX1 ty h0 a0 z0]) A) ([.ref h0, .int p1] : List Value).toArray s 0 0 A) (F0 m 17 ls []) := by
    intro  H locs ls hP hD hS hl hf
    unfold j_X1_musicAfter_17 at hf
    refine lv_aload_n hx hb dX1_musicAfter_17 rfl (lv_at hl 0 rfl) ?_
    refine va_get (D := D) (ci := 1) (C := RX1) (T := TX1) (N := 12) hx hb F.2.2.2.2 in_X1_musicAfter_X1 F.2.2.2.1 hK.1 hP 0 rfl rfl 8 (Nat.le_of_ble_eq_true rfl) (F.2.2.2.2 (.fieldLink RX1 37 "LouderRoom$Crowd" "music" "I") (List.mem_of_getElem? (i := 2) rfl)) (fun _ h9 => h9) rfl dX1_musicAfter_18 ?_
    obtain hf := hf
    have e0 := Option.some.inj hf
    exact CX_i F hr hlk hP hD hS e0 dX1_musicAfter_21
  refine lv_aload_n hx hb dX1_musicAfter_0 rfl (lv_at hl 0 rfl) ?_
  obtain ⟨v1, hv, hf⟩ := obd hf
  have hp1 : List.Perm [oX1 ty h0 a0 z0] ([oX1 ty h0 a0 z0] ++ []) := (List.Perm.refl _)
  refine ci_call (out := v1) (os := [oX1 ty h0 a0 z0]) (oc := [oX1 ty h0 a0 z0]) (oc' := [oX1 ty h0 a0 z0]) (or_ := []) (os' := [oX1 ty h0 a0 z0]) (va_runV (As := []) (rest := []) F (c_X1_loudMusic l D ty h0 a0 _ _ hv _) (cwV 0 F.2.2.2.2 gX1_musicAfter_X1_loudMusic rfl rfl rfl ⟨rfl, hd_X1_loudMusic⟩ ⟨Nat.le_of_ble_eq_true rfl, Nat.le_of_ble_eq_true rfl⟩) (pre_v hK hP hD hp1 rfl rfl rfl) rfl rfl hl.1 rfl (lv_room (Nat.le_of_ble_eq_true rfl)) dX1_musicAfter_1 ⟨Nat.zero_le _, Nat.zero_le _⟩) hp1 (List.Perm.refl _) hP hD hS hA (fun H locs hP hD hS => ?_)
  clear hp1 hv
  refine lv_istore_n (lv' := [(2, .int v1), (0, .ref h0), (1, .int p1)]) hx hb dX1_musicAfter_4 rfl hl (by decide) rfl (fun ls hl => ?_)
  refine lv_aload_n hx hb dX1_musicAfter_5 rfl (lv_at hl 1 rfl) ?_
  refine va_get (D := D) (ci := 1) (C := RX1) (T := TX1) (N := 12) hx hb F.2.2.2.2 in_X1_musicAfter_X1 F.2.2.2.1 hK.1 hP 0 rfl rfl 10 (Nat.le_of_ble_eq_true rfl) (F.2.2.2.2 (.fieldLink RX1 40 "LouderRoom$Crowd" "follows" "Z") (List.mem_of_getElem? (i := 1) rfl)) (fun _ h9 => h9) rfl dX1_musicAfter_6 ?_
  refine lv_if_eq (tgt := 17) hx hb dX1_musicAfter_9 (by decide) (fun hc => ?_) (fun hc => ?_)
  · replace hf := ite_t hf hc
    exact J_17 _ _ _ hP hD hS (lv_sub hl [1] rfl) hf
  · replace hf := ite_f hf hc
    refine lv_iload_n hx hb dX1_musicAfter_12 rfl (lv_at hl 2 rfl) ?_
    refine lv_iload_n hx hb dX1_musicAfter_13 rfl (lv_at hl 0 rfl) ?_
    refine lv_icmp_ne (tgt := 22) hx hb dX1_musicAfter_14 (by decide) (fun hc => ?_) (fun hc => ?_)
    · replace hf := ite_f hf hc
      refine lv_iload_n hx hb dX1_musicAfter_22 rfl (lv_at hl 2 rfl) ?_
      refine lv_iload_n hx hb dX1_musicAfter_23 rfl (lv_at hl 0 rfl) ?_
      refine lv_icmp_le (tgt := 41) hx hb dX1_musicAfter_24 (by decide) (fun hc => ?_) (fun hc => ?_)
      · replace hf := ite_t hf hc
        refine lv_iconst (v := (0 : Int32)) hx hb dX1_musicAfter_41 (by decide) ?_
        refine lv_aload_n hx hb dX1_musicAfter_42 rfl (lv_at hl 1 rfl) ?_
        refine va_get (D := D) (ci := 1) (C := RX1) (T := TX1) (N := 12) hx hb F.2.2.2.2 in_X1_musicAfter_X1 F.2.2.2.1 hK.1 hP 0 rfl rfl 8 (Nat.le_of_ble_eq_true rfl) (F.2.2.2.2 (.fieldLink RX1 37 "LouderRoom$Crowd" "music" "I") (List.mem_of_getElem? (i := 2) rfl)) (fun _ h9 => h9) rfl dX1_musicAfter_43 ?_
        refine lv_iconst (v := (1 : Int32)) hx hb dX1_musicAfter_46 (by decide) ?_
        refine lv_isub hx hb dX1_musicAfter_47 ?_
        refine va_mmax hx hb (F.2.2.1.trans hl.1.symm) F.2.2.2.1 (F.2.2.2.2 (.methodLink RX1 78 Lib.Math.max.name) (List.mem_of_getElem? (i := 7) rfl)) (F.2.2.2.2 (.static Lib.Math.max.name) (List.mem_of_getElem? (i := 8) rfl)) (F.2.2.2.2 (.initialized "java/lang/Math") (List.mem_of_getElem? (i := 5) rfl)) (F.2.2.2.2 (.code Lib.Math.max.name Lib.Math.max.code 2 (some .int)) (List.mem_of_getElem? (i := 9) rfl)) (Nat.le_of_ble_eq_true rfl) (Nat.le_of_ble_eq_true rfl) (Nat.zero_le _) (Nat.zero_le _) dX1_musicAfter_48 ?_
        obtain hf := hf
        have e0 := Option.some.inj hf
        exact CX_i F hr hlk hP hD hS e0 dX1_musicAfter_51
      · replace hf := ite_f hf hc
        refine lv_bipush (v := (9 : Int32)) hx hb dX1_musicAfter_27 (by decide) ?_
        refine lv_aload_n hx hb dX1_musicAfter_29 rfl (lv_at hl 1 rfl) ?_
        refine va_get (D := D) (ci := 1) (C := RX1) (T := TX1) (N := 12) hx hb F.2.2.2.2 in_X1_musicAfter_X1 F.2.2.2.1 hK.1 hP 0 rfl rfl 8 (Nat.le_of_ble_eq_true rfl) (F.2.2.2.2 (.fieldLink RX1 37 "LouderRoom$Crowd" "music" "I") (List.mem_of_getElem? (i := 2) rfl)) (fun _ h9 => h9) rfl dX1_musicAfter_30 ?_
        refine lv_iconst (v := (1 : Int32)) hx hb dX1_musicAfter_33 (by decide) ?_
        refine lv_iadd hx hb dX1_musicAfter_34 ?_
        refine va_mmin hx hb (F.2.2.1.trans hl.1.symm) F.2.2.2.1 (F.2.2.2.2 (.methodLink RX1 63 Lib.Math.min.name) (List.mem_of_getElem? (i := 3) rfl)) (F.2.2.2.2 (.static Lib.Math.min.name) (List.mem_of_getElem? (i := 4) rfl)) (F.2.2.2.2 (.initialized "java/lang/Math") (List.mem_of_getElem? (i := 5) rfl)) (F.2.2.2.2 (.code Lib.Math.min.name Lib.Math.min.code 2 (some .int)) (List.mem_of_getElem? (i := 6) rfl)) (Nat.le_of_ble_eq_true rfl) (Nat.le_of_ble_eq_true rfl) (Nat.zero_le _) (Nat.zero_le _) dX1_musicAfter_35 ?_
        refine lv_goto (tgt := 51) hx hb dX1_musicAfter_38 (by decide) ?_
        obtain hf := hf
        have e0 := Option.some.inj hf
        exact CX_i F hr hlk hP hD hS e0 dX1_musicAfter_51
    · replace hf := ite_t hf hc
      exact J_17 _ _ _ hP hD hS (lv_sub hl [1] rfl) hf
def b_X1_look_7 (y1 : Int32) (r_7 : Int32 → Ob → Option (Ob)) (y2 : Int32) (w0 : Ob) : Option (Ob) := (if (w0.1 6) ≤ y2 then (f_X1_musicAfter w0 y1).bind (fun v2 => bnd (sI w0 9 v2) (fun g3 => some g3)) else (if inb y2 8 = true then (f_X1_fromAll w0 (w0.2 1 y2.toNatClampNeg)).bind (fun v4 => (f_X1_voiceAfter w0 y2 (y1 + v4)).bind (fun v5 => (if inb y2 8 = true then bnd (sA w0 5 (upd (w0.2 5) y2.toNatClampNeg v5)) (fun g6 => bnd (y2 + (1 : Int32)) (fun x7 => r_7 x7 g6)) else none))) else none))
def f_X1_look (z0 : Ob) : Option (Ob) := (f_X1_echoing z0).bind (fun v1 => fuel2 (b_X1_look_7 v1) FU (0 : Int32) z0)
abbrev rm_X1_look : Room := { frames := 3, cells := 0, slots := 0, locals := 69 }
theorem hd_X1_look : yX1_look.cls ≠ "java/lang/invoke/MethodHandle" ∧ yX1_look.cls ≠ "java/lang/invoke/VarHandle" ∧ (parseMethodDescriptor yX1_look.desc).map (fun d => d.parameters.length) = some 0 := by decide +kernel
theorem in_X1_look_X1 : ∀ w ∈ wsX10, w ∈ wsX1_look := fun w h => List.mem_cons_of_mem _ (List.mem_append_right _ h)
set_option maxHeartbeats 4000000 in
set_option maxRecDepth 100000 in
theorem c_X1_look (l : Launch) (D : va_G) (ty : TY) (h0 : Nat) (a0 : Nat → Nat) (z0 : Ob) (o0 : Ob) (hf : f_X1_look z0 = some o0) (sz : Nat) : CX l yX1_look wsX1_look rm_X1_look ([.ref h0] : List Value) D ty (fl [oX1 ty h0 a0 z0]) sz (qV D (fl [oX1 ty h0 a0 o0])) 0 0 := by
  refine CX_of (cc := cX1_look) (maxL := 3) (ret := none) (C := RX1) (by decide) rfl rfl (Nat.le_of_ble_eq_true rfl) ?_
  intro p e s m below meth c A ls F hr hlk _ hK hP hD hS hA hl
  have hx := F.1
  have hb := F.2.1
  replace hl : lv_has ls 3 [(0, .ref h0)] := hl
  unfold f_X1_look at hf
  refine lv_aload_n hx hb dX1_look_0 rfl (lv_at hl 0 rfl) ?_
  obtain ⟨v1, hv, hf⟩ := obd hf
  have hp1 : List.Perm [oX1 ty h0 a0 z0] ([oX1 ty h0 a0 z0] ++ []) := (List.Perm.refl _)
  refine ci_call (out := v1) (os := [oX1 ty h0 a0 z0]) (oc := [oX1 ty h0 a0 z0]) (oc' := [oX1 ty h0 a0 z0]) (or_ := []) (os' := [oX1 ty h0 a0 z0]) (va_runV (As := []) (rest := []) F (c_X1_echoing l D ty h0 a0 _ _ hv _) (cwV 0 F.2.2.2.2 gX1_look_X1_echoing rfl rfl rfl ⟨rfl, hd_X1_echoing⟩ ⟨Nat.le_of_ble_eq_true rfl, Nat.le_of_ble_eq_true rfl⟩) (pre_v hK hP hD hp1 rfl rfl rfl) rfl rfl hl.1 rfl (lv_room (Nat.le_of_ble_eq_true rfl)) dX1_look_1 ⟨Nat.zero_le _, Nat.zero_le _⟩) hp1 (List.Perm.refl _) hP hD hS hA (fun H locs hP hD hS => ?_)
  clear hp1 hv
  refine lv_istore_n (lv' := [(1, .int v1), (0, .ref h0)]) hx hb dX1_look_4 rfl hl (by decide) rfl (fun ls hl => ?_)
  refine lv_iconst (v := (0 : Int32)) hx hb dX1_look_5 (by decide) ?_
  refine lv_istore_n (lv' := [(2, .int (0 : Int32)), (1, .int v1), (0, .ref h0)]) hx hb dX1_look_6 rfl hl (by decide) rfl (fun ls hl => ?_)
  have L_7 : ∀ (y1 : Int32) (n : Nat) (y2 : Int32) (w0 : Ob) (H : Heap) (locs : List Loc) (ls : Array Slot), va_P D vwC (fl [oX1 ty h0 a0 w0]) H → va_D A (fl [oX1 ty h0 a0 w0]) → va_S A s.heap H locs → lv_has ls 3 [(0, .ref h0), (1, .int y1), (2, .int y2)] → fuel2 (b_X1_look_7 y1) n y2 w0 = some o0 → W p l e rm_X1_look s m ([.ref h0] : List Value).toArray below meth c H locs 0 0 (MQ below (qV D (fl [oX1 ty h0 a0 o0]) A) ([.ref h0] : List Value).toArray s 0 0 A) (F0 m 7 ls []) := by
    intro y1 n
    induction n with
    | zero => intro y2 w0 H locs ls hP hD hS hl hf; cases hf
    | succ n ih_7 =>
      intro y2 w0 H locs ls hP hD hS hl hf
      replace hf : b_X1_look_7 y1 (fuel2 (b_X1_look_7 y1) n) y2 w0 = some o0 := hf
      generalize fuel2 (b_X1_look_7 y1) n = r_7 at ih_7 hf
      unfold b_X1_look_7 at hf
      refine lv_iload_n hx hb dX1_look_7 rfl (lv_at hl 2 rfl) ?_
      refine lv_aload_n hx hb dX1_look_8 rfl (lv_at hl 0 rfl) ?_
      refine va_get (D := D) (ci := 1) (C := RX1) (T := TX1) (N := 12) hx hb F.2.2.2.2 in_X1_look_X1 F.2.2.2.1 hK.1 hP 0 rfl rfl 6 (Nat.le_of_ble_eq_true rfl) (F.2.2.2.2 (.fieldLink RX1 30 "LouderRoom$Crowd" "rings" "I") (List.mem_of_getElem? (i := 1) rfl)) (fun _ h9 => h9) rfl dX1_look_9 ?_
      refine lv_icmp_ge (tgt := 44) hx hb dX1_look_12 (by decide) (fun hc => ?_) (fun hc => ?_)
      · replace hf := ite_t hf hc
        refine lv_aload_n hx hb dX1_look_44 rfl (lv_at hl 0 rfl) ?_
        refine lv_aload_n hx hb dX1_look_45 rfl (lv_at hl 0 rfl) ?_
        refine lv_iload_n hx hb dX1_look_46 rfl (lv_at hl 1 rfl) ?_
        obtain ⟨v2, hv, hf⟩ := obd hf
        have hp1 : List.Perm [oX1 ty h0 a0 w0] ([oX1 ty h0 a0 w0] ++ []) := (List.Perm.refl _)
        refine ci_call (out := v2) (os := [oX1 ty h0 a0 w0]) (oc := [oX1 ty h0 a0 w0]) (oc' := [oX1 ty h0 a0 w0]) (or_ := []) (os' := [oX1 ty h0 a0 w0]) (va_runV (As := [.int y1]) (rest := [.ref h0]) F (c_X1_musicAfter l D ty h0 a0 _ _ _ hv _) (cwV 1 F.2.2.2.2 gX1_look_X1_musicAfter rfl rfl rfl ⟨rfl, hd_X1_musicAfter⟩ ⟨Nat.le_of_ble_eq_true rfl, Nat.le_of_ble_eq_true rfl⟩) (pre_v hK hP hD hp1 rfl rfl rfl) rfl rfl hl.1 rfl (lv_room (Nat.le_of_ble_eq_true rfl)) dX1_look_47 ⟨Nat.zero_le _, Nat.zero_le _⟩) hp1 (List.Perm.refl _) hP hD hS hA (fun H locs hP hD hS => ?_)
        clear hp1 hv
        refine pt_put (D := D) (ci := 1) (fty := .int) (C := RX1) (T := TX1) (N := 12) (w1 := fl [oX1 ty h0 a0 (sI w0 9 v2)]) F in_X1_look_X1 tyX1 tyX1_ok nmX1 hK.1 hP hD hS 0 rfl rfl 9 (Nat.le_of_ble_eq_true rfl) (F.2.2.2.2 (.fieldLink RX1 112 "LouderRoom$Crowd" "nextMusic" "I") (List.mem_of_getElem? (i := 4) rfl)) (fun _ h9 => h9) rfl (by decide +kernel) rfl rfl (Nat.le_of_ble_eq_true rfl) rfl dX1_look_50 (fun H locs hP hD hS => ?_)
        obtain ⟨g3, ex⟩ : ∃ y : Ob, y = (sI w0 9 v2) := ⟨_, rfl⟩
        replace hf := bnd_at hf ex; rw [← ex] at hP hD; clear ex
        obtain hf := hf
        have e0 := Option.some.inj hf
        rw [e0] at hP hD
        exact CX_v F hr hlk hP hD hS dX1_look_53
      · replace hf := ite_f hf hc
        refine lv_aload_n hx hb dX1_look_15 rfl (lv_at hl 0 rfl) ?_
        refine va_get (D := D) (ci := 1) (C := RX1) (T := TX1) (N := 12) hx hb F.2.2.2.2 in_X1_look_X1 F.2.2.2.1 hK.1 hP 0 rfl rfl 5 (Nat.le_of_ble_eq_true rfl) (F.2.2.2.2 (.fieldLink RX1 27 "LouderRoom$Crowd" "nextVoice" "[I") (List.mem_of_getElem? (i := 2) rfl)) (fun _ h9 => h9) rfl dX1_look_16 ?_
        refine lv_iload_n hx hb dX1_look_19 rfl (lv_at hl 2 rfl) ?_
        refine lv_aload_n hx hb dX1_look_20 rfl (lv_at hl 0 rfl) ?_
        refine lv_iload_n hx hb dX1_look_21 rfl (lv_at hl 2 rfl) ?_
        refine lv_iload_n hx hb dX1_look_22 rfl (lv_at hl 1 rfl) ?_
        refine lv_aload_n hx hb dX1_look_23 rfl (lv_at hl 0 rfl) ?_
        refine lv_aload_n hx hb dX1_look_24 rfl (lv_at hl 0 rfl) ?_
        refine va_get (D := D) (ci := 1) (C := RX1) (T := TX1) (N := 12) hx hb F.2.2.2.2 in_X1_look_X1 F.2.2.2.1 hK.1 hP 0 rfl rfl 1 (Nat.le_of_ble_eq_true rfl) (F.2.2.2.2 (.fieldLink RX1 15 "LouderRoom$Crowd" "cell" "[I") (List.mem_of_getElem? (i := 3) rfl)) (fun _ h9 => h9) rfl dX1_look_25 ?_
        refine lv_iload_n hx hb dX1_look_28 rfl (lv_at hl 2 rfl) ?_
        obtain ⟨hi, hf⟩ := grd hf
        refine va_iald hx hb hK.1 hP 2 0 rfl rfl (inb_in hi) dX1_look_29 ?_
        obtain ⟨v4, hv, hf⟩ := obd hf
        have hp1 : List.Perm [oX1 ty h0 a0 w0] ([oX1 ty h0 a0 w0] ++ []) := (List.Perm.refl _)
        refine ci_call (out := v4) (os := [oX1 ty h0 a0 w0]) (oc := [oX1 ty h0 a0 w0]) (oc' := [oX1 ty h0 a0 w0]) (or_ := []) (os' := [oX1 ty h0 a0 w0]) (va_runV (As := [.int (w0.2 1 y2.toNatClampNeg)]) (rest := [.int y1, .int y2, .ref h0, .int y2, .ref (a0 5)]) F (c_X1_fromAll l D ty h0 a0 _ _ _ hv _) (cwV 1 F.2.2.2.2 gX1_look_X1_fromAll rfl rfl rfl ⟨rfl, hd_X1_fromAll⟩ ⟨Nat.le_of_ble_eq_true rfl, Nat.le_of_ble_eq_true rfl⟩) (pre_v hK hP hD hp1 rfl rfl rfl) rfl rfl hl.1 rfl (lv_room (Nat.le_of_ble_eq_true rfl)) dX1_look_30 ⟨Nat.zero_le _, Nat.zero_le _⟩) hp1 (List.Perm.refl _) hP hD hS hA (fun H locs hP hD hS => ?_)
        clear hp1 hv
        refine lv_iadd hx hb dX1_look_33 ?_
        obtain ⟨v5, hv, hf⟩ := obd hf
        have hp1 : List.Perm [oX1 ty h0 a0 w0] ([oX1 ty h0 a0 w0] ++ []) := (List.Perm.refl _)
        refine ci_call (out := v5) (os := [oX1 ty h0 a0 w0]) (oc := [oX1 ty h0 a0 w0]) (oc' := [oX1 ty h0 a0 w0]) (or_ := []) (os' := [oX1 ty h0 a0 w0]) (va_runV (As := [.int y2, .int (y1 + v4)]) (rest := [.int y2, .ref (a0 5)]) F (c_X1_voiceAfter l D ty h0 a0 _ _ _ _ hv _) (cwV 2 F.2.2.2.2 gX1_look_X1_voiceAfter rfl rfl rfl ⟨rfl, hd_X1_voiceAfter⟩ ⟨Nat.le_of_ble_eq_true rfl, Nat.le_of_ble_eq_true rfl⟩) (pre_v hK hP hD hp1 rfl rfl rfl) rfl rfl hl.1 rfl (lv_room (Nat.le_of_ble_eq_true rfl)) dX1_look_34 ⟨Nat.zero_le _, Nat.zero_le _⟩) hp1 (List.Perm.refl _) hP hD hS hA (fun H locs hP hD hS => ?_)
        clear hp1 hv
        obtain ⟨hi, hf⟩ := grd hf
        refine pt_iast (w1 := fl [oX1 ty h0 a0 (sA w0 5 (upd (w0.2 5) y2.toNatClampNeg v5))]) F hK.1 hP hD hS 6 0 rfl rfl (inb_in hi) rfl dX1_look_37 (fun H locs hP hD hS => ?_)
        obtain ⟨g6, ex⟩ : ∃ y : Ob, y = (sA w0 5 (upd (w0.2 5) y2.toNatClampNeg v5)) := ⟨_, rfl⟩
        replace hf := bnd_at hf ex; rw [← ex] at hP hD; clear ex
        obtain ⟨x7, ex⟩ : ∃ y : Int32, y = (y2 + (1 : Int32)) := ⟨_, rfl⟩
        replace hf := bnd_at hf ex
        refine lv_iinc (v := x7) (lv' := [(2, .int x7), (0, .ref h0), (1, .int y1)]) hx hb dX1_look_38 hl (k := 2) rfl (by rw [ex]; rfl) (by decide) rfl (fun ls hl => ?_)
        clear ex
        refine lv_goto (tgt := 7) hx hb dX1_look_41 (by decide) ?_
        exact ih_7 x7 g6 _ _ _ hP hD hS (lv_sub hl [1, 2, 0] rfl) hf
  exact L_7 v1 FU (0 : Int32) z0 _ _ _ hP hD hS (lv_sub hl [2, 1, 0] rfl) hf
def b_X1_take_2 (r_2 : Int32 → Ob → Option (Ob)) (y1 : Int32) (w0 : Ob) : Option (Ob) := (if (w0.1 6) ≤ y1 then bnd (sI w0 8 (w0.1 9)) (fun g1 => some g1) else (if inb y1 8 = true then (if inb y1 8 = true then bnd (sA w0 3 (upd (w0.2 3) y1.toNatClampNeg (w0.2 5 y1.toNatClampNeg))) (fun g2 => bnd (y1 + (1 : Int32)) (fun x3 => r_2 x3 g2)) else none) else none))
def f_X1_take (z0 : Ob) : Option (Ob) := fuel2 (b_X1_take_2) FU (0 : Int32) z0
abbrev rm_X1_take : Room := { frames := 0, cells := 0, slots := 0, locals := 0 }
theorem hd_X1_take : yX1_take.cls ≠ "java/lang/invoke/MethodHandle" ∧ yX1_take.cls ≠ "java/lang/invoke/VarHandle" ∧ (parseMethodDescriptor yX1_take.desc).map (fun d => d.parameters.length) = some 0 := by decide +kernel
theorem in_X1_take_X1 : ∀ w ∈ wsX10, w ∈ wsX1_take := fun w h => List.mem_cons_of_mem _ (List.mem_append_right _ h)
set_option maxHeartbeats 4000000 in
set_option maxRecDepth 100000 in
theorem c_X1_take (l : Launch) (D : va_G) (ty : TY) (h0 : Nat) (a0 : Nat → Nat) (z0 : Ob) (o0 : Ob) (hf : f_X1_take z0 = some o0) (sz : Nat) : CX l yX1_take wsX1_take rm_X1_take ([.ref h0] : List Value) D ty (fl [oX1 ty h0 a0 z0]) sz (qV D (fl [oX1 ty h0 a0 o0])) 0 0 := by
  refine CX_of (cc := cX1_take) (maxL := 2) (ret := none) (C := RX1) (by decide) rfl rfl (Nat.le_of_ble_eq_true rfl) ?_
  intro p e s m below meth c A ls F hr hlk _ hK hP hD hS hA hl
  have hx := F.1
  have hb := F.2.1
  replace hl : lv_has ls 2 [(0, .ref h0)] := hl
  unfold f_X1_take at hf
  refine lv_iconst (v := (0 : Int32)) hx hb dX1_take_0 (by decide) ?_
  refine lv_istore_n (lv' := [(1, .int (0 : Int32)), (0, .ref h0)]) hx hb dX1_take_1 rfl hl (by decide) rfl (fun ls hl => ?_)
  have L_2 : ∀ (n : Nat) (y1 : Int32) (w0 : Ob) (H : Heap) (locs : List Loc) (ls : Array Slot), va_P D vwC (fl [oX1 ty h0 a0 w0]) H → va_D A (fl [oX1 ty h0 a0 w0]) → va_S A s.heap H locs → lv_has ls 2 [(0, .ref h0), (1, .int y1)] → fuel2 (b_X1_take_2) n y1 w0 = some o0 → W p l e rm_X1_take s m ([.ref h0] : List Value).toArray below meth c H locs 0 0 (MQ below (qV D (fl [oX1 ty h0 a0 o0]) A) ([.ref h0] : List Value).toArray s 0 0 A) (F0 m 2 ls []) := by
    intro n
    induction n with
    | zero => intro y1 w0 H locs ls hP hD hS hl hf; cases hf
    | succ n ih_2 =>
      intro y1 w0 H locs ls hP hD hS hl hf
      replace hf : b_X1_take_2 (fuel2 (b_X1_take_2) n) y1 w0 = some o0 := hf
      generalize fuel2 (b_X1_take_2) n = r_2 at ih_2 hf
      unfold b_X1_take_2 at hf
      refine lv_iload_n hx hb dX1_take_2 rfl (lv_at hl 1 rfl) ?_
      refine lv_aload_n hx hb dX1_take_3 rfl (lv_at hl 0 rfl) ?_
      refine va_get (D := D) (ci := 1) (C := RX1) (T := TX1) (N := 12) hx hb F.2.2.2.2 in_X1_take_X1 F.2.2.2.1 hK.1 hP 0 rfl rfl 6 (Nat.le_of_ble_eq_true rfl) (F.2.2.2.2 (.fieldLink RX1 30 "LouderRoom$Crowd" "rings" "I") (List.mem_of_getElem? (i := 1) rfl)) (fun _ h9 => h9) rfl dX1_take_4 ?_
      refine lv_icmp_ge (tgt := 28) hx hb dX1_take_7 (by decide) (fun hc => ?_) (fun hc => ?_)
      · replace hf := ite_t hf hc
        refine lv_aload_n hx hb dX1_take_28 rfl (lv_at hl 0 rfl) ?_
        refine lv_aload_n hx hb dX1_take_29 rfl (lv_at hl 0 rfl) ?_
        refine va_get (D := D) (ci := 1) (C := RX1) (T := TX1) (N := 12) hx hb F.2.2.2.2 in_X1_take_X1 F.2.2.2.1 hK.1 hP 0 rfl rfl 9 (Nat.le_of_ble_eq_true rfl) (F.2.2.2.2 (.fieldLink RX1 112 "LouderRoom$Crowd" "nextMusic" "I") (List.mem_of_getElem? (i := 4) rfl)) (fun _ h9 => h9) rfl dX1_take_30 ?_
        refine pt_put (D := D) (ci := 1) (fty := .int) (C := RX1) (T := TX1) (N := 12) (w1 := fl [oX1 ty h0 a0 (sI w0 8 (w0.1 9))]) F in_X1_take_X1 tyX1 tyX1_ok nmX1 hK.1 hP hD hS 0 rfl rfl 8 (Nat.le_of_ble_eq_true rfl) (F.2.2.2.2 (.fieldLink RX1 37 "LouderRoom$Crowd" "music" "I") (List.mem_of_getElem? (i := 5) rfl)) (fun _ h9 => h9) rfl (by decide +kernel) rfl rfl (Nat.le_of_ble_eq_true rfl) rfl dX1_take_33 (fun H locs hP hD hS => ?_)
        obtain ⟨g1, ex⟩ : ∃ y : Ob, y = (sI w0 8 (w0.1 9)) := ⟨_, rfl⟩
        replace hf := bnd_at hf ex; rw [← ex] at hP hD; clear ex
        obtain hf := hf
        have e0 := Option.some.inj hf
        rw [e0] at hP hD
        exact CX_v F hr hlk hP hD hS dX1_take_36
      · replace hf := ite_f hf hc
        refine lv_aload_n hx hb dX1_take_10 rfl (lv_at hl 0 rfl) ?_
        refine va_get (D := D) (ci := 1) (C := RX1) (T := TX1) (N := 12) hx hb F.2.2.2.2 in_X1_take_X1 F.2.2.2.1 hK.1 hP 0 rfl rfl 3 (Nat.le_of_ble_eq_true rfl) (F.2.2.2.2 (.fieldLink RX1 21 "LouderRoom$Crowd" "voice" "[I") (List.mem_of_getElem? (i := 2) rfl)) (fun _ h9 => h9) rfl dX1_take_11 ?_
        refine lv_iload_n hx hb dX1_take_14 rfl (lv_at hl 1 rfl) ?_
        refine lv_aload_n hx hb dX1_take_15 rfl (lv_at hl 0 rfl) ?_
        refine va_get (D := D) (ci := 1) (C := RX1) (T := TX1) (N := 12) hx hb F.2.2.2.2 in_X1_take_X1 F.2.2.2.1 hK.1 hP 0 rfl rfl 5 (Nat.le_of_ble_eq_true rfl) (F.2.2.2.2 (.fieldLink RX1 27 "LouderRoom$Crowd" "nextVoice" "[I") (List.mem_of_getElem? (i := 3) rfl)) (fun _ h9 => h9) rfl dX1_take_16 ?_
        refine lv_iload_n hx hb dX1_take_19 rfl (lv_at hl 1 rfl) ?_
        obtain ⟨hi, hf⟩ := grd hf
        refine va_iald hx hb hK.1 hP 6 0 rfl rfl (inb_in hi) dX1_take_20 ?_
        obtain ⟨hi, hf⟩ := grd hf
        refine pt_iast (w1 := fl [oX1 ty h0 a0 (sA w0 3 (upd (w0.2 3) y1.toNatClampNeg (w0.2 5 y1.toNatClampNeg)))]) F hK.1 hP hD hS 4 0 rfl rfl (inb_in hi) rfl dX1_take_21 (fun H locs hP hD hS => ?_)
        obtain ⟨g2, ex⟩ : ∃ y : Ob, y = (sA w0 3 (upd (w0.2 3) y1.toNatClampNeg (w0.2 5 y1.toNatClampNeg))) := ⟨_, rfl⟩
        replace hf := bnd_at hf ex; rw [← ex] at hP hD; clear ex
        obtain ⟨x3, ex⟩ : ∃ y : Int32, y = (y1 + (1 : Int32)) := ⟨_, rfl⟩
        replace hf := bnd_at hf ex
        refine lv_iinc (v := x3) (lv' := [(1, .int x3), (0, .ref h0)]) hx hb dX1_take_22 hl (k := 1) rfl (by rw [ex]; rfl) (by decide) rfl (fun ls hl => ?_)
        clear ex
        refine lv_goto (tgt := 2) hx hb dX1_take_25 (by decide) ?_
        exact ih_2 x3 g2 _ _ _ hP hD hS (lv_sub hl [1, 0] rfl) hf
  exact L_2 FU (0 : Int32) z0 _ _ _ hP hD hS (lv_sub hl [1, 0] rfl) hf
def j_X1_changing_30 (z0 : Ob) (r_4 : Int32 → Int32 → Option (Int32)) (y1 : Int32) (y2 : Int32) : Option (Int32) := bnd (y2 + (1 : Int32)) (fun x1 => r_4 y1 x1)
def b_X1_changing_4 (z0 : Ob) (r_4 : Int32 → Int32 → Option (Int32)) (y1 : Int32) (y2 : Int32) : Option (Int32) := (if (z0.1 6) ≤ y2 then some y1 else (if inb y2 8 = true then (if inb y2 8 = true then (if (z0.2 3 y2.toNatClampNeg) = (z0.2 5 y2.toNatClampNeg) then j_X1_changing_30 z0 r_4 y1 y2 else bnd (y1 + (1 : Int32)) (fun x2 => j_X1_changing_30 z0 r_4 x2 y2)) else none) else none))
def f_X1_changing (z0 : Ob) : Option (Int32) := fuel2 (b_X1_changing_4 z0) FU (0 : Int32) (0 : Int32)
abbrev rm_X1_changing : Room := { frames := 0, cells := 0, slots := 0, locals := 0 }
theorem hd_X1_changing : yX1_changing.cls ≠ "java/lang/invoke/MethodHandle" ∧ yX1_changing.cls ≠ "java/lang/invoke/VarHandle" ∧ (parseMethodDescriptor yX1_changing.desc).map (fun d => d.parameters.length) = some 0 := by decide +kernel
theorem in_X1_changing_X1 : ∀ w ∈ wsX10, w ∈ wsX1_changing := fun w h => List.mem_cons_of_mem _ (List.mem_append_right _ h)
set_option maxHeartbeats 4000000 in
set_option maxRecDepth 100000 in
theorem c_X1_changing (l : Launch) (D : va_G) (ty : TY) (h0 : Nat) (a0 : Nat → Nat) (z0 : Ob) (o0 : Int32) (hf : f_X1_changing z0 = some o0) (sz : Nat) : CX l yX1_changing wsX1_changing rm_X1_changing ([.ref h0] : List Value) D ty (fl [oX1 ty h0 a0 z0]) sz (qI D o0 (fl [oX1 ty h0 a0 z0])) 0 0 := by
  refine CX_of (cc := cX1_changing) (maxL := 3) (ret := (some .int)) (C := RX1) (by decide) rfl rfl (Nat.le_of_ble_eq_true rfl) ?_
  intro p e s m below meth c A ls F hr hlk _ hK hP hD hS hA hl
  have hx := F.1
  have hb := F.2.1
  replace hl : lv_has ls 3 [(0, .ref h0)] := hl
  unfold f_X1_changing at hf
  refine lv_iconst (v := (0 : Int32)) hx hb dX1_changing_0 (by decide) ?_
  refine lv_istore_n (lv' := [(1, .int (0 : Int32)), (0, .ref h0)]) hx hb dX1_changing_1 rfl hl (by decide) rfl (fun ls hl => ?_)
  refine lv_iconst (v := (0 : Int32)) hx hb dX1_changing_2 (by decide) ?_
  refine lv_istore_n (lv' := [(2, .int (0 : Int32)), (1, .int (0 : Int32)), (0, .ref h0)]) hx hb dX1_changing_3 rfl hl (by decide) rfl (fun ls hl => ?_)
  have L_4 : ∀ (n : Nat) (y1 : Int32) (y2 : Int32) (H : Heap) (locs : List Loc) (ls : Array Slot), va_P D vwC (fl [oX1 ty h0 a0 z0]) H → va_D A (fl [oX1 ty h0 a0 z0]) → va_S A s.heap H locs → lv_has ls 3 [(0, .ref h0), (1, .int y1), (2, .int y2)] → fuel2 (b_X1_changing_4 z0) n y1 y2 = some o0 → W p l e rm_X1_changing s m ([.ref h0] : List Value).toArray below meth c H locs 0 0 (MQ below (qI D o0 (fl [oX1 ty h0 a0 z0]) A) ([.ref h0] : List Value).toArray s 0 0 A) (F0 m 4 ls []) := by
    intro n
    induction n with
    | zero => intro y1 y2 H locs ls hP hD hS hl hf; cases hf
    | succ n ih_4 =>
      intro y1 y2 H locs ls hP hD hS hl hf
      replace hf : b_X1_changing_4 z0 (fuel2 (b_X1_changing_4 z0) n) y1 y2 = some o0 := hf
      generalize fuel2 (b_X1_changing_4 z0) n = r_4 at ih_4 hf
      unfold b_X1_changing_4 at hf
      have J_30 : ∀ (y1 : Int32) (y2 : Int32) (H : Heap) (locs : List Loc) (ls : Array Slot), va_P D vwC (fl [oX1 ty h0 a0 z0]) H → va_D A (fl [oX1 ty h0 a0 z0]) → va_S A s.heap H locs → lv_has ls 3 [(0, .ref h0), (1, .int y1), (2, .int y2)] → j_X1_changing_30 z0 r_4 y1 y2 = some o0 → W p l e rm_X1_changing s m ([.ref h0] : List Value).toArray below meth c H locs 0 0 (MQ below (qI D o0 (fl [oX1 ty h0 a0 z0]) A) ([.ref h0] : List Value).toArray s 0 0 A) (F0 m 30 ls []) := by
        intro y1 y2 H locs ls hP hD hS hl hf
        unfold j_X1_changing_30 at hf
        obtain ⟨x1, ex⟩ : ∃ y : Int32, y = (y2 + (1 : Int32)) := ⟨_, rfl⟩
        replace hf := bnd_at hf ex
        refine lv_iinc (v := x1) (lv' := [(2, .int x1), (0, .ref h0), (1, .int y1)]) hx hb dX1_changing_30 hl (k := 2) rfl (by rw [ex]; rfl) (by decide) rfl (fun ls hl => ?_)
        clear ex
        refine lv_goto (tgt := 4) hx hb dX1_changing_33 (by decide) ?_
        exact ih_4 y1 x1 _ _ _ hP hD hS (lv_sub hl [1, 2, 0] rfl) hf
      refine lv_iload_n hx hb dX1_changing_4 rfl (lv_at hl 2 rfl) ?_
      refine lv_aload_n hx hb dX1_changing_5 rfl (lv_at hl 0 rfl) ?_
      refine va_get (D := D) (ci := 1) (C := RX1) (T := TX1) (N := 12) hx hb F.2.2.2.2 in_X1_changing_X1 F.2.2.2.1 hK.1 hP 0 rfl rfl 6 (Nat.le_of_ble_eq_true rfl) (F.2.2.2.2 (.fieldLink RX1 30 "LouderRoom$Crowd" "rings" "I") (List.mem_of_getElem? (i := 1) rfl)) (fun _ h9 => h9) rfl dX1_changing_6 ?_
      refine lv_icmp_ge (tgt := 36) hx hb dX1_changing_9 (by decide) (fun hc => ?_) (fun hc => ?_)
      · replace hf := ite_t hf hc
        refine lv_iload_n hx hb dX1_changing_36 rfl (lv_at hl 1 rfl) ?_
        obtain hf := hf
        have e0 := Option.some.inj hf
        exact CX_i F hr hlk hP hD hS e0 dX1_changing_37
      · replace hf := ite_f hf hc
        refine lv_aload_n hx hb dX1_changing_12 rfl (lv_at hl 0 rfl) ?_
        refine va_get (D := D) (ci := 1) (C := RX1) (T := TX1) (N := 12) hx hb F.2.2.2.2 in_X1_changing_X1 F.2.2.2.1 hK.1 hP 0 rfl rfl 3 (Nat.le_of_ble_eq_true rfl) (F.2.2.2.2 (.fieldLink RX1 21 "LouderRoom$Crowd" "voice" "[I") (List.mem_of_getElem? (i := 2) rfl)) (fun _ h9 => h9) rfl dX1_changing_13 ?_
        refine lv_iload_n hx hb dX1_changing_16 rfl (lv_at hl 2 rfl) ?_
        obtain ⟨hi, hf⟩ := grd hf
        refine va_iald hx hb hK.1 hP 4 0 rfl rfl (inb_in hi) dX1_changing_17 ?_
        refine lv_aload_n hx hb dX1_changing_18 rfl (lv_at hl 0 rfl) ?_
        refine va_get (D := D) (ci := 1) (C := RX1) (T := TX1) (N := 12) hx hb F.2.2.2.2 in_X1_changing_X1 F.2.2.2.1 hK.1 hP 0 rfl rfl 5 (Nat.le_of_ble_eq_true rfl) (F.2.2.2.2 (.fieldLink RX1 27 "LouderRoom$Crowd" "nextVoice" "[I") (List.mem_of_getElem? (i := 3) rfl)) (fun _ h9 => h9) rfl dX1_changing_19 ?_
        refine lv_iload_n hx hb dX1_changing_22 rfl (lv_at hl 2 rfl) ?_
        obtain ⟨hi, hf⟩ := grd hf
        refine va_iald hx hb hK.1 hP 6 0 rfl rfl (inb_in hi) dX1_changing_23 ?_
        refine lv_icmp_eq (tgt := 30) hx hb dX1_changing_24 (by decide) (fun hc => ?_) (fun hc => ?_)
        · replace hf := ite_t hf hc
          exact J_30 y1 y2 _ _ _ hP hD hS (lv_sub hl [0, 1, 2] rfl) hf
        · replace hf := ite_f hf hc
          obtain ⟨x2, ex⟩ : ∃ y : Int32, y = (y1 + (1 : Int32)) := ⟨_, rfl⟩
          replace hf := bnd_at hf ex
          refine lv_iinc (v := x2) (lv' := [(1, .int x2), (0, .ref h0), (2, .int y2)]) hx hb dX1_changing_27 hl (k := 1) rfl (by rw [ex]; rfl) (by decide) rfl (fun ls hl => ?_)
          clear ex
          exact J_30 x2 y2 _ _ _ hP hD hS (lv_sub hl [1, 0, 2] rfl) hf
  exact L_4 FU (0 : Int32) (0 : Int32) _ _ _ hP hD hS (lv_sub hl [2, 1, 0] rfl) hf
def j_X1_settle_32 (r_2 : Int32 → Ob → Option (Int32 × Ob)) (y1 : Int32) (w0 : Ob) : Option (Int32 × Ob) := (f_X1_take w0).bind (fun g1 => bnd (y1 + (1 : Int32)) (fun x2 => r_2 x2 g1))
def b_X1_settle_2 (r_2 : Int32 → Ob → Option (Int32 × Ob)) (y1 : Int32) (w0 : Ob) : Option (Int32 × Ob) := (if (40 : Int32) < y1 then some ((-9 : Int32), w0) else (f_X1_look w0).bind (fun g3 => (f_X1_changing g3).bind (fun v4 => (if v4 = 0 then (if (g3.1 9) = (g3.1 8) then some (y1, g3) else j_X1_settle_32 r_2 y1 g3) else j_X1_settle_32 r_2 y1 g3))))
def f_X1_settle (z0 : Ob) : Option (Int32 × Ob) := fuel2 (b_X1_settle_2) FU (0 : Int32) z0
abbrev rm_X1_settle : Room := { frames := 4, cells := 0, slots := 0, locals := 91 }
theorem hd_X1_settle : yX1_settle.cls ≠ "java/lang/invoke/MethodHandle" ∧ yX1_settle.cls ≠ "java/lang/invoke/VarHandle" ∧ (parseMethodDescriptor yX1_settle.desc).map (fun d => d.parameters.length) = some 0 := by decide +kernel
theorem in_X1_settle_X1 : ∀ w ∈ wsX10, w ∈ wsX1_settle := fun w h => List.mem_cons_of_mem _ (List.mem_append_right _ h)
set_option maxHeartbeats 4000000 in
set_option maxRecDepth 100000 in
theorem c_X1_settle (l : Launch) (D : va_G) (ty : TY) (h0 : Nat) (a0 : Nat → Nat) (z0 : Ob) (o0 : Int32) (o1 : Ob) (hf : f_X1_settle z0 = some (o0, o1)) (sz : Nat) : CX l yX1_settle wsX1_settle rm_X1_settle ([.ref h0] : List Value) D ty (fl [oX1 ty h0 a0 z0]) sz (qI D o0 (fl [oX1 ty h0 a0 o1])) 0 0 := by
  refine CX_of (cc := cX1_settle) (maxL := 2) (ret := (some .int)) (C := RX1) (by decide) rfl rfl (Nat.le_of_ble_eq_true rfl) ?_
  intro p e s m below meth c A ls F hr hlk _ hK hP hD hS hA hl
  have hx := F.1
  have hb := F.2.1
  replace hl : lv_has ls 2 [(0, .ref h0)] := hl
  unfold f_X1_settle at hf
  refine lv_iconst (v := (0 : Int32)) hx hb dX1_settle_0 (by decide) ?_
  refine lv_istore_n (lv' := [(1, .int (0 : Int32)), (0, .ref h0)]) hx hb dX1_settle_1 rfl hl (by decide) rfl (fun ls hl => ?_)
  have L_2 : ∀ (n : Nat) (y1 : Int32) (w0 : Ob) (H : Heap) (locs : List Loc) (ls : Array Slot), va_P D vwC (fl [oX1 ty h0 a0 w0]) H → va_D A (fl [oX1 ty h0 a0 w0]) → va_S A s.heap H locs → lv_has ls 2 [(0, .ref h0), (1, .int y1)] → fuel2 (b_X1_settle_2) n y1 w0 = some (o0, o1) → W p l e rm_X1_settle s m ([.ref h0] : List Value).toArray below meth c H locs 0 0 (MQ below (qI D o0 (fl [oX1 ty h0 a0 o1]) A) ([.ref h0] : List Value).toArray s 0 0 A) (F0 m 2 ls []) := by
    intro n
    induction n with
    | zero => intro y1 w0 H locs ls hP hD hS hl hf; cases hf
    | succ n ih_2 =>
      intro y1 w0 H locs ls hP hD hS hl hf
      replace hf : b_X1_settle_2 (fuel2 (b_X1_settle_2) n) y1 w0 = some (o0, o1) := hf
      generalize fuel2 (b_X1_settle_2) n = r_2 at ih_2 hf
      unfold b_X1_settle_2 at hf
      have J_32 : ∀ (y1 : Int32) (w0 : Ob) (H : Heap) (locs : List Loc) (ls : Array Slot), va_P D vwC (fl [oX1 ty h0 a0 w0]) H → va_D A (fl [oX1 ty h0 a0 w0]) → va_S A s.heap H locs → lv_has ls 2 [(0, .ref h0), (1, .int y1)] → j_X1_settle_32 r_2 y1 w0 = some (o0, o1) → W p l e rm_X1_settle s m ([.ref h0] : List Value).toArray below meth c H locs 0 0 (MQ below (qI D o0 (fl [oX1 ty h0 a0 o1]) A) ([.ref h0] : List Value).toArray s 0 0 A) (F0 m 32 ls []) := by
        intro y1 w0 H locs ls hP hD hS hl hf
        unfold j_X1_settle_32 at hf
        refine lv_aload_n hx hb dX1_settle_32 rfl (lv_at hl 0 rfl) ?_
        obtain ⟨g1, hv, hf⟩ := obd hf
        have hp1 : List.Perm [oX1 ty h0 a0 w0] ([oX1 ty h0 a0 w0] ++ []) := (List.Perm.refl _)
        refine cv_call (os := [oX1 ty h0 a0 w0]) (oc := [oX1 ty h0 a0 w0]) (oc' := [oX1 ty h0 a0 g1]) (or_ := []) (os' := [oX1 ty h0 a0 g1]) (va_runV (As := []) (rest := []) F (c_X1_take l D ty h0 a0 _ _ hv _) (cwV 0 F.2.2.2.2 gX1_settle_X1_take rfl rfl rfl ⟨rfl, hd_X1_take⟩ ⟨Nat.le_of_ble_eq_true rfl, Nat.le_of_ble_eq_true rfl⟩) (pre_v hK hP hD hp1 rfl rfl rfl) rfl rfl hl.1 rfl (lv_room (Nat.le_of_ble_eq_true rfl)) dX1_settle_33 ⟨Nat.zero_le _, Nat.zero_le _⟩) hp1 (List.Perm.refl _) hP hD hS hA (fun H locs hP hD hS => ?_)
        clear hp1 hv
        obtain ⟨x2, ex⟩ : ∃ y : Int32, y = (y1 + (1 : Int32)) := ⟨_, rfl⟩
        replace hf := bnd_at hf ex
        refine lv_iinc (v := x2) (lv' := [(1, .int x2), (0, .ref h0)]) hx hb dX1_settle_36 hl (k := 1) rfl (by rw [ex]; rfl) (by decide) rfl (fun ls hl => ?_)
        clear ex
        refine lv_goto (tgt := 2) hx hb dX1_settle_39 (by decide) ?_
        exact ih_2 x2 g1 _ _ _ hP hD hS (lv_sub hl [1, 0] rfl) hf
      refine lv_iload_n hx hb dX1_settle_2 rfl (lv_at hl 1 rfl) ?_
      refine lv_bipush (v := (40 : Int32)) hx hb dX1_settle_3 (by decide) ?_
      refine lv_icmp_gt (tgt := 42) hx hb dX1_settle_5 (by decide) (fun hc => ?_) (fun hc => ?_)
      · replace hf := ite_t hf hc
        refine lv_bipush (v := (-9 : Int32)) hx hb dX1_settle_42 (by decide) ?_
        obtain hf := hf
        obtain ⟨e0, e1⟩ := tup2 hf
        rw [e1] at hP hD
        exact CX_i F hr hlk hP hD hS e0 dX1_settle_44
      · replace hf := ite_f hf hc
        refine lv_aload_n hx hb dX1_settle_8 rfl (lv_at hl 0 rfl) ?_
        obtain ⟨g3, hv, hf⟩ := obd hf
        have hp1 : List.Perm [oX1 ty h0 a0 w0] ([oX1 ty h0 a0 w0] ++ []) := (List.Perm.refl _)
        refine cv_call (os := [oX1 ty h0 a0 w0]) (oc := [oX1 ty h0 a0 w0]) (oc' := [oX1 ty h0 a0 g3]) (or_ := []) (os' := [oX1 ty h0 a0 g3]) (va_runV (As := []) (rest := []) F (c_X1_look l D ty h0 a0 _ _ hv _) (cwV 0 F.2.2.2.2 gX1_settle_X1_look rfl rfl rfl ⟨rfl, hd_X1_look⟩ ⟨Nat.le_of_ble_eq_true rfl, Nat.le_of_ble_eq_true rfl⟩) (pre_v hK hP hD hp1 rfl rfl rfl) rfl rfl hl.1 rfl (lv_room (Nat.le_of_ble_eq_true rfl)) dX1_settle_9 ⟨Nat.zero_le _, Nat.zero_le _⟩) hp1 (List.Perm.refl _) hP hD hS hA (fun H locs hP hD hS => ?_)
        clear hp1 hv
        refine lv_aload_n hx hb dX1_settle_12 rfl (lv_at hl 0 rfl) ?_
        obtain ⟨v4, hv, hf⟩ := obd hf
        have hp1 : List.Perm [oX1 ty h0 a0 g3] ([oX1 ty h0 a0 g3] ++ []) := (List.Perm.refl _)
        refine ci_call (out := v4) (os := [oX1 ty h0 a0 g3]) (oc := [oX1 ty h0 a0 g3]) (oc' := [oX1 ty h0 a0 g3]) (or_ := []) (os' := [oX1 ty h0 a0 g3]) (va_runV (As := []) (rest := []) F (c_X1_changing l D ty h0 a0 _ _ hv _) (cwV 0 F.2.2.2.2 gX1_settle_X1_changing rfl rfl rfl ⟨rfl, hd_X1_changing⟩ ⟨Nat.le_of_ble_eq_true rfl, Nat.le_of_ble_eq_true rfl⟩) (pre_v hK hP hD hp1 rfl rfl rfl) rfl rfl hl.1 rfl (lv_room (Nat.le_of_ble_eq_true rfl)) dX1_settle_13 ⟨Nat.zero_le _, Nat.zero_le _⟩) hp1 (List.Perm.refl _) hP hD hS hA (fun H locs hP hD hS => ?_)
        clear hp1 hv
        refine lv_if_ne (tgt := 32) hx hb dX1_settle_16 (by decide) (fun hc => ?_) (fun hc => ?_)
        · replace hf := ite_f hf hc
          exact J_32 y1 g3 _ _ _ hP hD hS (lv_sub hl [0, 1] rfl) hf
        · replace hf := ite_t hf hc
          refine lv_aload_n hx hb dX1_settle_19 rfl (lv_at hl 0 rfl) ?_
          refine va_get (D := D) (ci := 1) (C := RX1) (T := TX1) (N := 12) hx hb F.2.2.2.2 in_X1_settle_X1 F.2.2.2.1 hK.1 hP 0 rfl rfl 9 (Nat.le_of_ble_eq_true rfl) (F.2.2.2.2 (.fieldLink RX1 112 "LouderRoom$Crowd" "nextMusic" "I") (List.mem_of_getElem? (i := 1) rfl)) (fun _ h9 => h9) rfl dX1_settle_20 ?_
          refine lv_aload_n hx hb dX1_settle_23 rfl (lv_at hl 0 rfl) ?_
          refine va_get (D := D) (ci := 1) (C := RX1) (T := TX1) (N := 12) hx hb F.2.2.2.2 in_X1_settle_X1 F.2.2.2.1 hK.1 hP 0 rfl rfl 8 (Nat.le_of_ble_eq_true rfl) (F.2.2.2.2 (.fieldLink RX1 37 "LouderRoom$Crowd" "music" "I") (List.mem_of_getElem? (i := 2) rfl)) (fun _ h9 => h9) rfl dX1_settle_24 ?_
          refine lv_icmp_ne (tgt := 32) hx hb dX1_settle_27 (by decide) (fun hc => ?_) (fun hc => ?_)
          · replace hf := ite_f hf hc
            exact J_32 y1 g3 _ _ _ hP hD hS (lv_sub hl [0, 1] rfl) hf
          · replace hf := ite_t hf hc
            refine lv_iload_n hx hb dX1_settle_30 rfl (lv_at hl 1 rfl) ?_
            obtain hf := hf
            obtain ⟨e0, e1⟩ := tup2 hf
            rw [e1] at hP hD
            exact CX_i F hr hlk hP hD hS e0 dX1_settle_31
  exact L_2 FU (0 : Int32) z0 _ _ _ hP hD hS (lv_sub hl [1, 0] rfl) hf
def f_X1_restsHearing (z0 : Ob) : Option (Int32 × Ob) := bd2 (f_X1_settle z0) (fun v1 g2 => (if v1 = (-9 : Int32) then some ((0 : Int32), g2) else (f_X1_allHear g2).bind (fun v3 => (if v3 = 0 then some ((0 : Int32), g2) else some ((1 : Int32), g2)))))
abbrev rm_X1_restsHearing : Room := { frames := 6, cells := 0, slots := 0, locals := 132 }
theorem hd_X1_restsHearing : yX1_restsHearing.cls ≠ "java/lang/invoke/MethodHandle" ∧ yX1_restsHearing.cls ≠ "java/lang/invoke/VarHandle" ∧ (parseMethodDescriptor yX1_restsHearing.desc).map (fun d => d.parameters.length) = some 0 := by decide +kernel
set_option maxHeartbeats 4000000 in
set_option maxRecDepth 100000 in
theorem c_X1_restsHearing (l : Launch) (D : va_G) (ty : TY) (h0 : Nat) (a0 : Nat → Nat) (z0 : Ob) (o0 : Int32) (o1 : Ob) (hf : f_X1_restsHearing z0 = some (o0, o1)) (sz : Nat) : CX l yX1_restsHearing wsX1_restsHearing rm_X1_restsHearing ([.ref h0] : List Value) D ty (fl [oX1 ty h0 a0 z0]) sz (qI D o0 (fl [oX1 ty h0 a0 o1])) 0 0 := by
  refine CX_of (cc := cX1_restsHearing) (maxL := 1) (ret := (some .boolean)) (C := RX1) (by decide) rfl rfl (Nat.le_of_ble_eq_true rfl) ?_
  intro p e s m below meth c A ls F hr hlk _ hK hP hD hS hA hl
  have hx := F.1
  have hb := F.2.1
  replace hl : lv_has ls 1 [(0, .ref h0)] := hl
  unfold f_X1_restsHearing at hf
  refine lv_aload_n hx hb dX1_restsHearing_0 rfl (lv_at hl 0 rfl) ?_
  obtain ⟨v1, g2, hv, hf⟩ := obd2 hf
  have hp1 : List.Perm [oX1 ty h0 a0 z0] ([oX1 ty h0 a0 z0] ++ []) := (List.Perm.refl _)
  refine ci_call (out := v1) (os := [oX1 ty h0 a0 z0]) (oc := [oX1 ty h0 a0 z0]) (oc' := [oX1 ty h0 a0 g2]) (or_ := []) (os' := [oX1 ty h0 a0 g2]) (va_runV (As := []) (rest := []) F (c_X1_settle l D ty h0 a0 _ _ _ hv _) (cwV 0 F.2.2.2.2 gX1_restsHearing_X1_settle rfl rfl rfl ⟨rfl, hd_X1_settle⟩ ⟨Nat.le_of_ble_eq_true rfl, Nat.le_of_ble_eq_true rfl⟩) (pre_v hK hP hD hp1 rfl rfl rfl) rfl rfl hl.1 rfl (lv_room (Nat.le_of_ble_eq_true rfl)) dX1_restsHearing_1 ⟨Nat.zero_le _, Nat.zero_le _⟩) hp1 (List.Perm.refl _) hP hD hS hA (fun H locs hP hD hS => ?_)
  clear hp1 hv
  refine lv_bipush (v := (-9 : Int32)) hx hb dX1_restsHearing_4 (by decide) ?_
  refine lv_icmp_eq (tgt := 20) hx hb dX1_restsHearing_6 (by decide) (fun hc => ?_) (fun hc => ?_)
  · replace hf := ite_t hf hc
    refine lv_iconst (v := (0 : Int32)) hx hb dX1_restsHearing_20 (by decide) ?_
    obtain hf := hf
    obtain ⟨e0, e1⟩ := tup2 hf
    rw [e1] at hP hD
    exact CX_z F hr hlk hP hD hS narrow_b0 e0 dX1_restsHearing_21
  · replace hf := ite_f hf hc
    refine lv_aload_n hx hb dX1_restsHearing_9 rfl (lv_at hl 0 rfl) ?_
    obtain ⟨v3, hv, hf⟩ := obd hf
    have hp1 : List.Perm [oX1 ty h0 a0 g2] ([oX1 ty h0 a0 g2] ++ []) := (List.Perm.refl _)
    refine ci_call (out := v3) (os := [oX1 ty h0 a0 g2]) (oc := [oX1 ty h0 a0 g2]) (oc' := [oX1 ty h0 a0 g2]) (or_ := []) (os' := [oX1 ty h0 a0 g2]) (va_runV (As := []) (rest := []) F (c_X1_allHear l D ty h0 a0 _ _ hv _) (cwV 0 F.2.2.2.2 gX1_restsHearing_X1_allHear rfl rfl rfl ⟨rfl, hd_X1_allHear⟩ ⟨Nat.le_of_ble_eq_true rfl, Nat.le_of_ble_eq_true rfl⟩) (pre_v hK hP hD hp1 rfl rfl rfl) rfl rfl hl.1 rfl (lv_room (Nat.le_of_ble_eq_true rfl)) dX1_restsHearing_10 ⟨Nat.zero_le _, Nat.zero_le _⟩) hp1 (List.Perm.refl _) hP hD hS hA (fun H locs hP hD hS => ?_)
    clear hp1 hv
    refine lv_if_eq (tgt := 20) hx hb dX1_restsHearing_13 (by decide) (fun hc => ?_) (fun hc => ?_)
    · replace hf := ite_t hf hc
      refine lv_iconst (v := (0 : Int32)) hx hb dX1_restsHearing_20 (by decide) ?_
      obtain hf := hf
      obtain ⟨e0, e1⟩ := tup2 hf
      rw [e1] at hP hD
      exact CX_z F hr hlk hP hD hS narrow_b0 e0 dX1_restsHearing_21
    · replace hf := ite_f hf hc
      refine lv_iconst (v := (1 : Int32)) hx hb dX1_restsHearing_16 (by decide) ?_
      refine lv_goto (tgt := 21) hx hb dX1_restsHearing_17 (by decide) ?_
      obtain hf := hf
      obtain ⟨e0, e1⟩ := tup2 hf
      rw [e1] at hP hD
      exact CX_z F hr hlk hP hD hS narrow_b1 e0 dX1_restsHearing_21
def f_X2_add (z0 : Ob) (p1 : Int32) (p2 : Int32) : Option (Int32 × Ob) := (if (z0.1 2) < (6 : Int32) then (if inb (z0.1 2) 6 = true then bnd (sA z0 0 (upd (z0.2 0) (z0.1 2).toNatClampNeg p1)) (fun g1 => (if inb (g1.1 2) 6 = true then bnd (sA g1 1 (upd (g1.2 1) (g1.1 2).toNatClampNeg p2)) (fun g2 => bnd (sI g2 2 ((g2.1 2) + (1 : Int32))) (fun g3 => some ((g3.1 2), g3))) else none)) else none) else some ((-4 : Int32), z0))
abbrev rm_X2_add : Room := { frames := 0, cells := 0, slots := 0, locals := 0 }
theorem hd_X2_add : yX2_add.cls ≠ "java/lang/invoke/MethodHandle" ∧ yX2_add.cls ≠ "java/lang/invoke/VarHandle" ∧ (parseMethodDescriptor yX2_add.desc).map (fun d => d.parameters.length) = some 2 := by decide +kernel
theorem in_X2_add_X2 : ∀ w ∈ wsX20, w ∈ wsX2_add := fun w h => List.mem_cons_of_mem _ (List.mem_append_right _ h)
set_option maxHeartbeats 4000000 in
set_option maxRecDepth 100000 in
theorem c_X2_add (l : Launch) (D : va_G) (ty : TY) (h0 : Nat) (a0 : Nat → Nat) (z0 : Ob) (p1 : Int32) (p2 : Int32) (o0 : Int32) (o1 : Ob) (hf : f_X2_add z0 p1 p2 = some (o0, o1)) (sz : Nat) : CX l yX2_add wsX2_add rm_X2_add ([.ref h0, .int p1, .int p2] : List Value) D ty (fl [oX2 ty h0 a0 z0]) sz (qI D o0 (fl [oX2 ty h0 a0 o1])) 0 0 := by
  refine CX_of (cc := cX2_add) (maxL := 3) (ret := (some .int)) (C := RX2) (by decide) rfl rfl (Nat.le_of_ble_eq_true rfl) ?_
  intro p e s m below meth c A ls F hr hlk _ hK hP hD hS hA hl
  have hx := F.1
  have hb := F.2.1
  replace hl : lv_has ls 3 [(0, .ref h0), (1, .int p1), (2, .int p2)] := hl
  unfold f_X2_add at hf
  refine lv_aload_n hx hb dX2_add_0 rfl (lv_at hl 0 rfl) ?_
  refine va_get (D := D) (ci := 2) (C := RX2) (T := TX2) (N := 3) hx hb F.2.2.2.2 in_X2_add_X2 F.2.2.2.1 hK.1 hP 0 rfl rfl 2 (Nat.le_of_ble_eq_true rfl) (F.2.2.2.2 (.fieldLink RX2 18 "LouderRoom$Meters" "count" "I") (List.mem_of_getElem? (i := 1) rfl)) (fun _ h9 => h9) rfl dX2_add_1 ?_
  refine lv_bipush (v := (6 : Int32)) hx hb dX2_add_4 (by decide) ?_
  refine lv_icmp_lt (tgt := 12) hx hb dX2_add_6 (by decide) (fun hc => ?_) (fun hc => ?_)
  · replace hf := ite_t hf hc
    refine lv_aload_n hx hb dX2_add_12 rfl (lv_at hl 0 rfl) ?_
    refine va_get (D := D) (ci := 2) (C := RX2) (T := TX2) (N := 3) hx hb F.2.2.2.2 in_X2_add_X2 F.2.2.2.1 hK.1 hP 0 rfl rfl 0 (Nat.le_of_ble_eq_true rfl) (F.2.2.2.2 (.fieldLink RX2 9 "LouderRoom$Meters" "minutes" "[I") (List.mem_of_getElem? (i := 2) rfl)) (fun _ h9 => h9) rfl dX2_add_13 ?_
    refine lv_aload_n hx hb dX2_add_16 rfl (lv_at hl 0 rfl) ?_
    refine va_get (D := D) (ci := 2) (C := RX2) (T := TX2) (N := 3) hx hb F.2.2.2.2 in_X2_add_X2 F.2.2.2.1 hK.1 hP 0 rfl rfl 2 (Nat.le_of_ble_eq_true rfl) (F.2.2.2.2 (.fieldLink RX2 18 "LouderRoom$Meters" "count" "I") (List.mem_of_getElem? (i := 1) rfl)) (fun _ h9 => h9) rfl dX2_add_17 ?_
    refine lv_iload_n hx hb dX2_add_20 rfl (lv_at hl 1 rfl) ?_
    obtain ⟨hi, hf⟩ := grd hf
    refine pt_iast (w1 := fl [oX2 ty h0 a0 (sA z0 0 (upd (z0.2 0) (z0.1 2).toNatClampNeg p1))]) F hK.1 hP hD hS 1 0 rfl rfl (inb_in hi) rfl dX2_add_21 (fun H locs hP hD hS => ?_)
    obtain ⟨g1, ex⟩ : ∃ y : Ob, y = (sA z0 0 (upd (z0.2 0) (z0.1 2).toNatClampNeg p1)) := ⟨_, rfl⟩
    replace hf := bnd_at hf ex; rw [← ex] at hP hD; clear ex
    refine lv_aload_n hx hb dX2_add_22 rfl (lv_at hl 0 rfl) ?_
    refine va_get (D := D) (ci := 2) (C := RX2) (T := TX2) (N := 3) hx hb F.2.2.2.2 in_X2_add_X2 F.2.2.2.1 hK.1 hP 0 rfl rfl 1 (Nat.le_of_ble_eq_true rfl) (F.2.2.2.2 (.fieldLink RX2 15 "LouderRoom$Meters" "echoes" "[I") (List.mem_of_getElem? (i := 3) rfl)) (fun _ h9 => h9) rfl dX2_add_23 ?_
    refine lv_aload_n hx hb dX2_add_26 rfl (lv_at hl 0 rfl) ?_
    refine va_get (D := D) (ci := 2) (C := RX2) (T := TX2) (N := 3) hx hb F.2.2.2.2 in_X2_add_X2 F.2.2.2.1 hK.1 hP 0 rfl rfl 2 (Nat.le_of_ble_eq_true rfl) (F.2.2.2.2 (.fieldLink RX2 18 "LouderRoom$Meters" "count" "I") (List.mem_of_getElem? (i := 1) rfl)) (fun _ h9 => h9) rfl dX2_add_27 ?_
    refine lv_iload_n hx hb dX2_add_30 rfl (lv_at hl 2 rfl) ?_
    obtain ⟨hi, hf⟩ := grd hf
    refine pt_iast (w1 := fl [oX2 ty h0 a0 (sA g1 1 (upd (g1.2 1) (g1.1 2).toNatClampNeg p2))]) F hK.1 hP hD hS 2 0 rfl rfl (inb_in hi) rfl dX2_add_31 (fun H locs hP hD hS => ?_)
    obtain ⟨g2, ex⟩ : ∃ y : Ob, y = (sA g1 1 (upd (g1.2 1) (g1.1 2).toNatClampNeg p2)) := ⟨_, rfl⟩
    replace hf := bnd_at hf ex; rw [← ex] at hP hD; clear ex
    refine lv_aload_n hx hb dX2_add_32 rfl (lv_at hl 0 rfl) ?_
    refine lv_dup hx hb dX2_add_33 rfl ?_
    refine va_get (D := D) (ci := 2) (C := RX2) (T := TX2) (N := 3) hx hb F.2.2.2.2 in_X2_add_X2 F.2.2.2.1 hK.1 hP 0 rfl rfl 2 (Nat.le_of_ble_eq_true rfl) (F.2.2.2.2 (.fieldLink RX2 18 "LouderRoom$Meters" "count" "I") (List.mem_of_getElem? (i := 1) rfl)) (fun _ h9 => h9) rfl dX2_add_34 ?_
    refine lv_iconst (v := (1 : Int32)) hx hb dX2_add_37 (by decide) ?_
    refine lv_iadd hx hb dX2_add_38 ?_
    refine pt_put (D := D) (ci := 2) (fty := .int) (C := RX2) (T := TX2) (N := 3) (w1 := fl [oX2 ty h0 a0 (sI g2 2 ((g2.1 2) + (1 : Int32)))]) F in_X2_add_X2 tyX2 tyX2_ok nmX2 hK.1 hP hD hS 0 rfl rfl 2 (Nat.le_of_ble_eq_true rfl) (F.2.2.2.2 (.fieldLink RX2 18 "LouderRoom$Meters" "count" "I") (List.mem_of_getElem? (i := 1) rfl)) (fun _ h9 => h9) rfl (by decide +kernel) rfl rfl (Nat.le_of_ble_eq_true rfl) rfl dX2_add_39 (fun H locs hP hD hS => ?_)
    obtain ⟨g3, ex⟩ : ∃ y : Ob, y = (sI g2 2 ((g2.1 2) + (1 : Int32))) := ⟨_, rfl⟩
    replace hf := bnd_at hf ex; rw [← ex] at hP hD; clear ex
    refine lv_aload_n hx hb dX2_add_42 rfl (lv_at hl 0 rfl) ?_
    refine va_get (D := D) (ci := 2) (C := RX2) (T := TX2) (N := 3) hx hb F.2.2.2.2 in_X2_add_X2 F.2.2.2.1 hK.1 hP 0 rfl rfl 2 (Nat.le_of_ble_eq_true rfl) (F.2.2.2.2 (.fieldLink RX2 18 "LouderRoom$Meters" "count" "I") (List.mem_of_getElem? (i := 1) rfl)) (fun _ h9 => h9) rfl dX2_add_43 ?_
    obtain hf := hf
    obtain ⟨e0, e1⟩ := tup2 hf
    rw [e1] at hP hD
    exact CX_i F hr hlk hP hD hS e0 dX2_add_46
  · replace hf := ite_f hf hc
    refine lv_bipush (v := (-4 : Int32)) hx hb dX2_add_9 (by decide) ?_
    obtain hf := hf
    obtain ⟨e0, e1⟩ := tup2 hf
    rw [e1] at hP hD
    exact CX_i F hr hlk hP hD hS e0 dX2_add_11
def f_X2_clear (z0 : Ob) : Option (Int32 × Ob) := bnd (z0.1 2) (fun x1 => bnd (sI z0 2 (0 : Int32)) (fun g2 => some (x1, g2)))
abbrev rm_X2_clear : Room := { frames := 0, cells := 0, slots := 0, locals := 0 }
theorem hd_X2_clear : yX2_clear.cls ≠ "java/lang/invoke/MethodHandle" ∧ yX2_clear.cls ≠ "java/lang/invoke/VarHandle" ∧ (parseMethodDescriptor yX2_clear.desc).map (fun d => d.parameters.length) = some 0 := by decide +kernel
theorem in_X2_clear_X2 : ∀ w ∈ wsX20, w ∈ wsX2_clear := fun w h => List.mem_cons_of_mem _ (List.mem_append_right _ h)
set_option maxHeartbeats 4000000 in
set_option maxRecDepth 100000 in
theorem c_X2_clear (l : Launch) (D : va_G) (ty : TY) (h0 : Nat) (a0 : Nat → Nat) (z0 : Ob) (o0 : Int32) (o1 : Ob) (hf : f_X2_clear z0 = some (o0, o1)) (sz : Nat) : CX l yX2_clear wsX2_clear rm_X2_clear ([.ref h0] : List Value) D ty (fl [oX2 ty h0 a0 z0]) sz (qI D o0 (fl [oX2 ty h0 a0 o1])) 0 0 := by
  refine CX_of (cc := cX2_clear) (maxL := 2) (ret := (some .int)) (C := RX2) (by decide) rfl rfl (Nat.le_of_ble_eq_true rfl) ?_
  intro p e s m below meth c A ls F hr hlk _ hK hP hD hS hA hl
  have hx := F.1
  have hb := F.2.1
  replace hl : lv_has ls 2 [(0, .ref h0)] := hl
  unfold f_X2_clear at hf
  refine lv_aload_n hx hb dX2_clear_0 rfl (lv_at hl 0 rfl) ?_
  refine va_get (D := D) (ci := 2) (C := RX2) (T := TX2) (N := 3) hx hb F.2.2.2.2 in_X2_clear_X2 F.2.2.2.1 hK.1 hP 0 rfl rfl 2 (Nat.le_of_ble_eq_true rfl) (F.2.2.2.2 (.fieldLink RX2 18 "LouderRoom$Meters" "count" "I") (List.mem_of_getElem? (i := 1) rfl)) (fun _ h9 => h9) rfl dX2_clear_1 ?_
  refine lv_topi (fun x1 ex => ?_)
  replace hf := bnd_at hf ex; clear ex
  refine lv_istore_n (lv' := [(1, .int x1), (0, .ref h0)]) hx hb dX2_clear_4 rfl hl (by decide) rfl (fun ls hl => ?_)
  refine lv_aload_n hx hb dX2_clear_5 rfl (lv_at hl 1 rfl) ?_
  refine lv_iconst (v := (0 : Int32)) hx hb dX2_clear_6 (by decide) ?_
  refine pt_put (D := D) (ci := 2) (fty := .int) (C := RX2) (T := TX2) (N := 3) (w1 := fl [oX2 ty h0 a0 (sI z0 2 (0 : Int32))]) F in_X2_clear_X2 tyX2 tyX2_ok nmX2 hK.1 hP hD hS 0 rfl rfl 2 (Nat.le_of_ble_eq_true rfl) (F.2.2.2.2 (.fieldLink RX2 18 "LouderRoom$Meters" "count" "I") (List.mem_of_getElem? (i := 1) rfl)) (fun _ h9 => h9) rfl (by decide +kernel) rfl rfl (Nat.le_of_ble_eq_true rfl) rfl dX2_clear_7 (fun H locs hP hD hS => ?_)
  obtain ⟨g2, ex⟩ : ∃ y : Ob, y = (sI z0 2 (0 : Int32)) := ⟨_, rfl⟩
  replace hf := bnd_at hf ex; rw [← ex] at hP hD; clear ex
  refine lv_iload_n hx hb dX2_clear_10 rfl (lv_at hl 0 rfl) ?_
  obtain hf := hf
  obtain ⟨e0, e1⟩ := tup2 hf
  rw [e1] at hP hD
  exact CX_i F hr hlk hP hD hS e0 dX2_clear_11
def j_X2_fit_37 (z0 : Ob) (p1 : Int32) (p2 : Int32) (r_2 : Int32 → Option (Int32)) (y3 : Int32) : Option (Int32) := bnd (y3 + (1 : Int32)) (fun x1 => r_2 x1)
def b_X2_fit_2 (z0 : Ob) (p1 : Int32) (p2 : Int32) (r_2 : Int32 → Option (Int32)) (y3 : Int32) : Option (Int32) := (if (z0.1 2) ≤ y3 then some (1 : Int32) else (if inb y3 6 = true then (if (z0.2 0 y3.toNatClampNeg) = p1 then (if inb y3 6 = true then (if (if 0 ≤ ((z0.2 1 y3.toNatClampNeg) - p2) then ((z0.2 1 y3.toNatClampNeg) - p2) else 0 - ((z0.2 1 y3.toNatClampNeg) - p2)) ≤ (3 : Int32) then j_X2_fit_37 z0 p1 p2 r_2 y3 else some (0 : Int32)) else none) else j_X2_fit_37 z0 p1 p2 r_2 y3) else none))
def f_X2_fit (z0 : Ob) (p1 : Int32) (p2 : Int32) : Option (Int32) := fuel1 (b_X2_fit_2 z0 p1 p2) FU (0 : Int32)
abbrev rm_X2_fit : Room := { frames := 1, cells := 0, slots := 0, locals := 21 }
theorem hd_X2_fit : yX2_fit.cls ≠ "java/lang/invoke/MethodHandle" ∧ yX2_fit.cls ≠ "java/lang/invoke/VarHandle" ∧ (parseMethodDescriptor yX2_fit.desc).map (fun d => d.parameters.length) = some 2 := by decide +kernel
theorem in_X2_fit_X2 : ∀ w ∈ wsX20, w ∈ wsX2_fit := fun w h => List.mem_cons_of_mem _ (List.mem_append_right _ h)
set_option maxHeartbeats 4000000 in
set_option maxRecDepth 100000 in
theorem c_X2_fit (l : Launch) (D : va_G) (ty : TY) (h0 : Nat) (a0 : Nat → Nat) (z0 : Ob) (p1 : Int32) (p2 : Int32) (o0 : Int32) (hf : f_X2_fit z0 p1 p2 = some o0) (sz : Nat) : CX l yX2_fit wsX2_fit rm_X2_fit ([.ref h0, .int p1, .int p2] : List Value) D ty (fl [oX2 ty h0 a0 z0]) sz (qI D o0 (fl [oX2 ty h0 a0 z0])) 0 0 := by
  refine CX_of (cc := cX2_fit) (maxL := 4) (ret := (some .boolean)) (C := RX2) (by decide) rfl rfl (Nat.le_of_ble_eq_true rfl) ?_
  intro p e s m below meth c A ls F hr hlk _ hK hP hD hS hA hl
  have hx := F.1
  have hb := F.2.1
  replace hl : lv_has ls 4 [(0, .ref h0), (1, .int p1), (2, .int p2)] := hl
  unfold f_X2_fit at hf
  refine lv_iconst (v := (0 : Int32)) hx hb dX2_fit_0 (by decide) ?_
  refine lv_istore_n (lv' := [(3, .int (0 : Int32)), (0, .ref h0), (1, .int p1), (2, .int p2)]) hx hb dX2_fit_1 rfl hl (by decide) rfl (fun ls hl => ?_)
  have L_2 : ∀ (n : Nat) (y3 : Int32) (H : Heap) (locs : List Loc) (ls : Array Slot), va_P D vwC (fl [oX2 ty h0 a0 z0]) H → va_D A (fl [oX2 ty h0 a0 z0]) → va_S A s.heap H locs → lv_has ls 4 [(0, .ref h0), (1, .int p1), (2, .int p2), (3, .int y3)] → fuel1 (b_X2_fit_2 z0 p1 p2) n y3 = some o0 → W p l e rm_X2_fit s m ([.ref h0, .int p1, .int p2] : List Value).toArray below meth c H locs 0 0 (MQ below (qI D o0 (fl [oX2 ty h0 a0 z0]) A) ([.ref h0, .int p1, .int p2] : List Value).toArray s 0 0 A) (F0 m 2 ls []) := by
    intro n
    induction n with
    | zero => intro y3 H locs ls hP hD hS hl hf; cases hf
    | succ n ih_2 =>
      intro y3 H locs ls hP hD hS hl hf
      replace hf : b_X2_fit_2 z0 p1 p2 (fuel1 (b_X2_fit_2 z0 p1 p2) n) y3 = some o0 := hf
      generalize fuel1 (b_X2_fit_2 z0 p1 p2) n = r_2 at ih_2 hf
      unfold b_X2_fit_2 at hf
      have J_37 : ∀ (y3 : Int32) (H : Heap) (locs : List Loc) (ls : Array Slot), va_P D vwC (fl [oX2 ty h0 a0 z0]) H → va_D A (fl [oX2 ty h0 a0 z0]) → va_S A s.heap H locs → lv_has ls 4 [(0, .ref h0), (1, .int p1), (2, .int p2), (3, .int y3)] → j_X2_fit_37 z0 p1 p2 r_2 y3 = some o0 → W p l e rm_X2_fit s m ([.ref h0, .int p1, .int p2] : List Value).toArray below meth c H locs 0 0 (MQ below (qI D o0 (fl [oX2 ty h0 a0 z0]) A) ([.ref h0, .int p1, .int p2] : List Value).toArray s 0 0 A) (F0 m 37 ls []) := by
        intro y3 H locs ls hP hD hS hl hf
        unfold j_X2_fit_37 at hf
        obtain ⟨x1, ex⟩ : ∃ y : Int32, y = (y3 + (1 : Int32)) := ⟨_, rfl⟩
        replace hf := bnd_at hf ex
        refine lv_iinc (v := x1) (lv' := [(3, .int x1), (0, .ref h0), (1, .int p1), (2, .int p2)]) hx hb dX2_fit_37 hl (k := 3) rfl (by rw [ex]; rfl) (by decide) rfl (fun ls hl => ?_)
        clear ex
        refine lv_goto (tgt := 2) hx hb dX2_fit_40 (by decide) ?_
        exact ih_2 x1 _ _ _ hP hD hS (lv_sub hl [1, 2, 3, 0] rfl) hf
      refine lv_iload_n hx hb dX2_fit_2 rfl (lv_at hl 3 rfl) ?_
      refine lv_aload_n hx hb dX2_fit_3 rfl (lv_at hl 0 rfl) ?_
      refine va_get (D := D) (ci := 2) (C := RX2) (T := TX2) (N := 3) hx hb F.2.2.2.2 in_X2_fit_X2 F.2.2.2.1 hK.1 hP 0 rfl rfl 2 (Nat.le_of_ble_eq_true rfl) (F.2.2.2.2 (.fieldLink RX2 18 "LouderRoom$Meters" "count" "I") (List.mem_of_getElem? (i := 1) rfl)) (fun _ h9 => h9) rfl dX2_fit_4 ?_
      refine lv_icmp_ge (tgt := 43) hx hb dX2_fit_7 (by decide) (fun hc => ?_) (fun hc => ?_)
      · replace hf := ite_t hf hc
        refine lv_iconst (v := (1 : Int32)) hx hb dX2_fit_43 (by decide) ?_
        obtain hf := hf
        have e0 := Option.some.inj hf
        exact CX_z F hr hlk hP hD hS narrow_b1 e0 dX2_fit_44
      · replace hf := ite_f hf hc
        refine lv_aload_n hx hb dX2_fit_10 rfl (lv_at hl 0 rfl) ?_
        refine va_get (D := D) (ci := 2) (C := RX2) (T := TX2) (N := 3) hx hb F.2.2.2.2 in_X2_fit_X2 F.2.2.2.1 hK.1 hP 0 rfl rfl 0 (Nat.le_of_ble_eq_true rfl) (F.2.2.2.2 (.fieldLink RX2 9 "LouderRoom$Meters" "minutes" "[I") (List.mem_of_getElem? (i := 2) rfl)) (fun _ h9 => h9) rfl dX2_fit_11 ?_
        refine lv_iload_n hx hb dX2_fit_14 rfl (lv_at hl 3 rfl) ?_
        obtain ⟨hi, hf⟩ := grd hf
        refine va_iald hx hb hK.1 hP 1 0 rfl rfl (inb_in hi) dX2_fit_15 ?_
        refine lv_iload_n hx hb dX2_fit_16 rfl (lv_at hl 1 rfl) ?_
        refine lv_icmp_ne (tgt := 37) hx hb dX2_fit_17 (by decide) (fun hc => ?_) (fun hc => ?_)
        · replace hf := ite_f hf hc
          exact J_37 y3 _ _ _ hP hD hS (lv_sub hl [0, 1, 2, 3] rfl) hf
        · replace hf := ite_t hf hc
          refine lv_aload_n hx hb dX2_fit_20 rfl (lv_at hl 0 rfl) ?_
          refine va_get (D := D) (ci := 2) (C := RX2) (T := TX2) (N := 3) hx hb F.2.2.2.2 in_X2_fit_X2 F.2.2.2.1 hK.1 hP 0 rfl rfl 1 (Nat.le_of_ble_eq_true rfl) (F.2.2.2.2 (.fieldLink RX2 15 "LouderRoom$Meters" "echoes" "[I") (List.mem_of_getElem? (i := 3) rfl)) (fun _ h9 => h9) rfl dX2_fit_21 ?_
          refine lv_iload_n hx hb dX2_fit_24 rfl (lv_at hl 3 rfl) ?_
          obtain ⟨hi, hf⟩ := grd hf
          refine va_iald hx hb hK.1 hP 2 0 rfl rfl (inb_in hi) dX2_fit_25 ?_
          refine lv_iload_n hx hb dX2_fit_26 rfl (lv_at hl 2 rfl) ?_
          refine lv_isub hx hb dX2_fit_27 ?_
          refine va_mabs hx hb (F.2.2.1.trans hl.1.symm) F.2.2.2.1 (F.2.2.2.2 (.methodLink RX2 22 Lib.Math.abs.name) (List.mem_of_getElem? (i := 4) rfl)) (F.2.2.2.2 (.static Lib.Math.abs.name) (List.mem_of_getElem? (i := 5) rfl)) (F.2.2.2.2 (.initialized "java/lang/Math") (List.mem_of_getElem? (i := 6) rfl)) (F.2.2.2.2 (.code Lib.Math.abs.name Lib.Math.abs.code 1 (some .int)) (List.mem_of_getElem? (i := 7) rfl)) (Nat.le_of_ble_eq_true rfl) (Nat.le_of_ble_eq_true rfl) (Nat.zero_le _) (Nat.zero_le _) dX2_fit_28 ?_
          refine lv_iconst (v := (3 : Int32)) hx hb dX2_fit_31 (by decide) ?_
          refine lv_icmp_le (tgt := 37) hx hb dX2_fit_32 (by decide) (fun hc => ?_) (fun hc => ?_)
          · replace hf := ite_t hf hc
            exact J_37 y3 _ _ _ hP hD hS (lv_sub hl [0, 1, 2, 3] rfl) hf
          · replace hf := ite_f hf hc
            refine lv_iconst (v := (0 : Int32)) hx hb dX2_fit_35 (by decide) ?_
            obtain hf := hf
            have e0 := Option.some.inj hf
            exact CX_z F hr hlk hP hD hS narrow_b0 e0 dX2_fit_36
  exact L_2 FU (0 : Int32) _ _ _ hP hD hS (lv_sub hl [1, 2, 3, 0] rfl) hf
def b_X4_append_19 (p1 : Int32) (p2 : Int64) (r_19 : Int32 → Ob → Option (Int32 × Ob)) (y4 : Int32) (w0 : Ob) : Option (Int32 × Ob) := (if y4 < 0 then some ((w0.1 1), w0) else (if inb (w0.1 1) 80 = true then bnd (sA w0 0 (upd (w0.2 0) (w0.1 1).toNatClampNeg (vp_nar .byte (p2.toUInt64 >>> (((8 : Int32) * y4).toInt64.toUInt64 &&& Int64.toUInt64 63)).toInt64.toInt32.toInt8.toInt32))) (fun g2 => bnd (sI g2 1 ((g2.1 1) + (1 : Int32))) (fun g3 => bnd (y4 + (-1 : Int32)) (fun x4 => r_19 x4 g3))) else none))
def f_X4_append (z0 : Ob) (p1 : Int32) (p2 : Int64) : Option (Int32 × Ob) := (if p1 ≤ ((80 : Int32) - (z0.1 1)) then bnd (p1 - (1 : Int32)) (fun x1 => fuel2 (b_X4_append_19 p1 p2) FU x1 z0) else some ((-4 : Int32), z0))
abbrev rm_X4_append : Room := { frames := 0, cells := 0, slots := 0, locals := 0 }
theorem hd_X4_append : yX4_append.cls ≠ "java/lang/invoke/MethodHandle" ∧ yX4_append.cls ≠ "java/lang/invoke/VarHandle" ∧ (parseMethodDescriptor yX4_append.desc).map (fun d => d.parameters.length) = some 2 := by decide +kernel
theorem in_X4_append_X4 : ∀ w ∈ wsX40, w ∈ wsX4_append := fun w h => List.mem_cons_of_mem _ (List.mem_append_right _ h)
set_option maxHeartbeats 4000000 in
set_option maxRecDepth 100000 in
theorem c_X4_append (l : Launch) (D : va_G) (ty : TY) (h0 : Nat) (a0 : Nat → Nat) (z0 : Ob) (p1 : Int32) (p2 : Int64) (o0 : Int32) (o1 : Ob) (hf : f_X4_append z0 p1 p2 = some (o0, o1)) (sz : Nat) : CX l yX4_append wsX4_append rm_X4_append ([.ref h0, .int p1, .long p2] : List Value) D ty (fl [oX4 ty h0 a0 z0]) sz (qI D o0 (fl [oX4 ty h0 a0 o1])) 0 0 := by
  refine CX_of (cc := cX4_append) (maxL := 5) (ret := (some .int)) (C := RX4) (by decide) rfl rfl (Nat.le_of_ble_eq_true rfl) ?_
  intro p e s m below meth c A ls F hr hlk _ hK hP hD hS hA hl
  have hx := F.1
  have hb := F.2.1
  replace hl : lv_has ls 5 [(0, .ref h0), (1, .int p1), (2, .long p2)] := hl
  unfold f_X4_append at hf
  refine lv_iload_n hx hb dX4_append_0 rfl (lv_at hl 1 rfl) ?_
  refine lv_bipush (v := (80 : Int32)) hx hb dX4_append_1 (by decide) ?_
  refine lv_aload_n hx hb dX4_append_3 rfl (lv_at hl 0 rfl) ?_
  refine va_get (D := D) (ci := 4) (C := RX4) (T := TX4) (N := 4) hx hb F.2.2.2.2 in_X4_append_X4 F.2.2.2.1 hK.1 hP 0 rfl rfl 1 (Nat.le_of_ble_eq_true rfl) (F.2.2.2.2 (.fieldLink RX4 19 "LouderRoom$Told" "length" "I") (List.mem_of_getElem? (i := 1) rfl)) (fun _ h9 => h9) rfl dX4_append_4 ?_
  refine lv_isub hx hb dX4_append_7 ?_
  refine lv_icmp_le (tgt := 14) hx hb dX4_append_8 (by decide) (fun hc => ?_) (fun hc => ?_)
  · replace hf := ite_t hf hc
    refine lv_iload_n hx hb dX4_append_14 rfl (lv_at hl 1 rfl) ?_
    refine lv_iconst (v := (1 : Int32)) hx hb dX4_append_15 (by decide) ?_
    refine lv_isub hx hb dX4_append_16 ?_
    refine lv_topi (fun x1 ex => ?_)
    replace hf := bnd_at hf ex; clear ex
    refine lv_istore (lv' := [(4, .int x1), (0, .ref h0), (1, .int p1), (2, .long p2)]) hx hb dX4_append_17 hl (by decide) rfl (fun ls hl => ?_)
    have L_19 : ∀ (n : Nat) (y4 : Int32) (w0 : Ob) (H : Heap) (locs : List Loc) (ls : Array Slot), va_P D vwC (fl [oX4 ty h0 a0 w0]) H → va_D A (fl [oX4 ty h0 a0 w0]) → va_S A s.heap H locs → lv_has ls 5 [(0, .ref h0), (2, .long p2), (4, .int y4)] → fuel2 (b_X4_append_19 p1 p2) n y4 w0 = some (o0, o1) → W p l e rm_X4_append s m ([.ref h0, .int p1, .long p2] : List Value).toArray below meth c H locs 0 0 (MQ below (qI D o0 (fl [oX4 ty h0 a0 o1]) A) ([.ref h0, .int p1, .long p2] : List Value).toArray s 0 0 A) (F0 m 19 ls []) := by
      intro n
      induction n with
      | zero => intro y4 w0 H locs ls hP hD hS hl hf; cases hf
      | succ n ih_19 =>
        intro y4 w0 H locs ls hP hD hS hl hf
        replace hf : b_X4_append_19 p1 p2 (fuel2 (b_X4_append_19 p1 p2) n) y4 w0 = some (o0, o1) := hf
        generalize fuel2 (b_X4_append_19 p1 p2) n = r_19 at ih_19 hf
        unfold b_X4_append_19 at hf
        refine lv_iload hx hb dX4_append_19 (lv_at hl 2 rfl) ?_
        refine lv_if_lt (tgt := 58) hx hb dX4_append_21 (by decide) (fun hc => ?_) (fun hc => ?_)
        · replace hf := ite_t hf hc
          refine lv_aload_n hx hb dX4_append_58 rfl (lv_at hl 0 rfl) ?_
          refine va_get (D := D) (ci := 4) (C := RX4) (T := TX4) (N := 4) hx hb F.2.2.2.2 in_X4_append_X4 F.2.2.2.1 hK.1 hP 0 rfl rfl 1 (Nat.le_of_ble_eq_true rfl) (F.2.2.2.2 (.fieldLink RX4 19 "LouderRoom$Told" "length" "I") (List.mem_of_getElem? (i := 1) rfl)) (fun _ h9 => h9) rfl dX4_append_59 ?_
          obtain hf := hf
          obtain ⟨e0, e1⟩ := tup2 hf
          rw [e1] at hP hD
          exact CX_i F hr hlk hP hD hS e0 dX4_append_62
        · replace hf := ite_f hf hc
          refine lv_aload_n hx hb dX4_append_24 rfl (lv_at hl 0 rfl) ?_
          refine va_get (D := D) (ci := 4) (C := RX4) (T := TX4) (N := 4) hx hb F.2.2.2.2 in_X4_append_X4 F.2.2.2.1 hK.1 hP 0 rfl rfl 0 (Nat.le_of_ble_eq_true rfl) (F.2.2.2.2 (.fieldLink RX4 9 "LouderRoom$Told" "bytes" "[B") (List.mem_of_getElem? (i := 2) rfl)) (fun _ h9 => h9) rfl dX4_append_25 ?_
          refine lv_aload_n hx hb dX4_append_28 rfl (lv_at hl 0 rfl) ?_
          refine va_get (D := D) (ci := 4) (C := RX4) (T := TX4) (N := 4) hx hb F.2.2.2.2 in_X4_append_X4 F.2.2.2.1 hK.1 hP 0 rfl rfl 1 (Nat.le_of_ble_eq_true rfl) (F.2.2.2.2 (.fieldLink RX4 19 "LouderRoom$Told" "length" "I") (List.mem_of_getElem? (i := 1) rfl)) (fun _ h9 => h9) rfl dX4_append_29 ?_
          refine lv_lload_n hx hb dX4_append_32 rfl (lv_at hl 1 rfl) ?_
          refine lv_bipush (v := (8 : Int32)) hx hb dX4_append_33 (by decide) ?_
          refine lv_iload hx hb dX4_append_35 (lv_at hl 2 rfl) ?_
          refine lv_imul hx hb dX4_append_37 ?_
          refine lv_lushr hx hb dX4_append_38 rfl ?_
          refine lv_l2i hx hb dX4_append_39 rfl ?_
          refine lv_i2b hx hb dX4_append_40 rfl ?_
          obtain ⟨hi, hf⟩ := grd hf
          refine pt_bast (w1 := fl [oX4 ty h0 a0 (sA w0 0 (upd (w0.2 0) (w0.1 1).toNatClampNeg (vp_nar .byte (p2.toUInt64 >>> (((8 : Int32) * y4).toInt64.toUInt64 &&& Int64.toUInt64 63)).toInt64.toInt32.toInt8.toInt32)))]) F hK.1 hP hD hS 1 1 rfl rfl (inb_in hi) rfl dX4_append_41 (fun H locs hP hD hS => ?_)
          obtain ⟨g2, ex⟩ : ∃ y : Ob, y = (sA w0 0 (upd (w0.2 0) (w0.1 1).toNatClampNeg (vp_nar .byte (p2.toUInt64 >>> (((8 : Int32) * y4).toInt64.toUInt64 &&& Int64.toUInt64 63)).toInt64.toInt32.toInt8.toInt32))) := ⟨_, rfl⟩
          replace hf := bnd_at hf ex; rw [← ex] at hP hD; clear ex
          refine lv_aload_n hx hb dX4_append_42 rfl (lv_at hl 0 rfl) ?_
          refine lv_dup hx hb dX4_append_43 rfl ?_
          refine va_get (D := D) (ci := 4) (C := RX4) (T := TX4) (N := 4) hx hb F.2.2.2.2 in_X4_append_X4 F.2.2.2.1 hK.1 hP 0 rfl rfl 1 (Nat.le_of_ble_eq_true rfl) (F.2.2.2.2 (.fieldLink RX4 19 "LouderRoom$Told" "length" "I") (List.mem_of_getElem? (i := 1) rfl)) (fun _ h9 => h9) rfl dX4_append_44 ?_
          refine lv_iconst (v := (1 : Int32)) hx hb dX4_append_47 (by decide) ?_
          refine lv_iadd hx hb dX4_append_48 ?_
          refine pt_put (D := D) (ci := 4) (fty := .int) (C := RX4) (T := TX4) (N := 4) (w1 := fl [oX4 ty h0 a0 (sI g2 1 ((g2.1 1) + (1 : Int32)))]) F in_X4_append_X4 tyX4 tyX4_ok nmX4 hK.1 hP hD hS 0 rfl rfl 1 (Nat.le_of_ble_eq_true rfl) (F.2.2.2.2 (.fieldLink RX4 19 "LouderRoom$Told" "length" "I") (List.mem_of_getElem? (i := 1) rfl)) (fun _ h9 => h9) rfl (by decide +kernel) rfl rfl (Nat.le_of_ble_eq_true rfl) rfl dX4_append_49 (fun H locs hP hD hS => ?_)
          obtain ⟨g3, ex⟩ : ∃ y : Ob, y = (sI g2 1 ((g2.1 1) + (1 : Int32))) := ⟨_, rfl⟩
          replace hf := bnd_at hf ex; rw [← ex] at hP hD; clear ex
          obtain ⟨x4, ex⟩ : ∃ y : Int32, y = (y4 + (-1 : Int32)) := ⟨_, rfl⟩
          replace hf := bnd_at hf ex
          refine lv_iinc (v := x4) (lv' := [(4, .int x4), (0, .ref h0), (2, .long p2)]) hx hb dX4_append_52 hl (k := 2) rfl (by rw [ex]; rfl) (by decide) rfl (fun ls hl => ?_)
          clear ex
          refine lv_goto (tgt := 19) hx hb dX4_append_55 (by decide) ?_
          exact ih_19 x4 g3 _ _ _ hP hD hS (lv_sub hl [1, 2, 0] rfl) hf
    exact L_19 FU x1 z0 _ _ _ hP hD hS (lv_sub hl [1, 3, 0] rfl) hf
  · replace hf := ite_f hf hc
    refine lv_bipush (v := (-4 : Int32)) hx hb dX4_append_11 (by decide) ?_
    obtain hf := hf
    obtain ⟨e0, e1⟩ := tup2 hf
    rw [e1] at hP hD
    exact CX_i F hr hlk hP hD hS e0 dX4_append_13
def f_X4_clear (z0 : Ob) : Option (Int32 × Ob) := bnd (z0.1 1) (fun x1 => bnd (sI z0 1 (0 : Int32)) (fun g2 => some (x1, g2)))
abbrev rm_X4_clear : Room := { frames := 0, cells := 0, slots := 0, locals := 0 }
theorem hd_X4_clear : yX4_clear.cls ≠ "java/lang/invoke/MethodHandle" ∧ yX4_clear.cls ≠ "java/lang/invoke/VarHandle" ∧ (parseMethodDescriptor yX4_clear.desc).map (fun d => d.parameters.length) = some 0 := by decide +kernel
theorem in_X4_clear_X4 : ∀ w ∈ wsX40, w ∈ wsX4_clear := fun w h => List.mem_cons_of_mem _ (List.mem_append_right _ h)
set_option maxHeartbeats 4000000 in
set_option maxRecDepth 100000 in
theorem c_X4_clear (l : Launch) (D : va_G) (ty : TY) (h0 : Nat) (a0 : Nat → Nat) (z0 : Ob) (o0 : Int32) (o1 : Ob) (hf : f_X4_clear z0 = some (o0, o1)) (sz : Nat) : CX l yX4_clear wsX4_clear rm_X4_clear ([.ref h0] : List Value) D ty (fl [oX4 ty h0 a0 z0]) sz (qI D o0 (fl [oX4 ty h0 a0 o1])) 0 0 := by
  refine CX_of (cc := cX4_clear) (maxL := 2) (ret := (some .int)) (C := RX4) (by decide) rfl rfl (Nat.le_of_ble_eq_true rfl) ?_
  intro p e s m below meth c A ls F hr hlk _ hK hP hD hS hA hl
  have hx := F.1
  have hb := F.2.1
  replace hl : lv_has ls 2 [(0, .ref h0)] := hl
  unfold f_X4_clear at hf
  refine lv_aload_n hx hb dX4_clear_0 rfl (lv_at hl 0 rfl) ?_
  refine va_get (D := D) (ci := 4) (C := RX4) (T := TX4) (N := 4) hx hb F.2.2.2.2 in_X4_clear_X4 F.2.2.2.1 hK.1 hP 0 rfl rfl 1 (Nat.le_of_ble_eq_true rfl) (F.2.2.2.2 (.fieldLink RX4 19 "LouderRoom$Told" "length" "I") (List.mem_of_getElem? (i := 1) rfl)) (fun _ h9 => h9) rfl dX4_clear_1 ?_
  refine lv_topi (fun x1 ex => ?_)
  replace hf := bnd_at hf ex; clear ex
  refine lv_istore_n (lv' := [(1, .int x1), (0, .ref h0)]) hx hb dX4_clear_4 rfl hl (by decide) rfl (fun ls hl => ?_)
  refine lv_aload_n hx hb dX4_clear_5 rfl (lv_at hl 1 rfl) ?_
  refine lv_iconst (v := (0 : Int32)) hx hb dX4_clear_6 (by decide) ?_
  refine pt_put (D := D) (ci := 4) (fty := .int) (C := RX4) (T := TX4) (N := 4) (w1 := fl [oX4 ty h0 a0 (sI z0 1 (0 : Int32))]) F in_X4_clear_X4 tyX4 tyX4_ok nmX4 hK.1 hP hD hS 0 rfl rfl 1 (Nat.le_of_ble_eq_true rfl) (F.2.2.2.2 (.fieldLink RX4 19 "LouderRoom$Told" "length" "I") (List.mem_of_getElem? (i := 1) rfl)) (fun _ h9 => h9) rfl (by decide +kernel) rfl rfl (Nat.le_of_ble_eq_true rfl) rfl dX4_clear_7 (fun H locs hP hD hS => ?_)
  obtain ⟨g2, ex⟩ : ∃ y : Ob, y = (sI z0 1 (0 : Int32)) := ⟨_, rfl⟩
  replace hf := bnd_at hf ex; rw [← ex] at hP hD; clear ex
  refine lv_iload_n hx hb dX4_clear_10 rfl (lv_at hl 0 rfl) ?_
  obtain hf := hf
  obtain ⟨e0, e1⟩ := tup2 hf
  rw [e1] at hP hD
  exact CX_i F hr hlk hP hD hS e0 dX4_clear_11
def f_X5_clear (z0 : Ob) : Option (Ob) := bnd (sI z0 2 (0 : Int32)) (fun g1 => some g1)
abbrev rm_X5_clear : Room := { frames := 0, cells := 0, slots := 0, locals := 0 }
theorem hd_X5_clear : yX5_clear.cls ≠ "java/lang/invoke/MethodHandle" ∧ yX5_clear.cls ≠ "java/lang/invoke/VarHandle" ∧ (parseMethodDescriptor yX5_clear.desc).map (fun d => d.parameters.length) = some 0 := by decide +kernel
theorem in_X5_clear_X5 : ∀ w ∈ wsX50, w ∈ wsX5_clear := fun w h => List.mem_cons_of_mem _ (List.mem_append_right _ h)
set_option maxHeartbeats 4000000 in
set_option maxRecDepth 100000 in
theorem c_X5_clear (l : Launch) (D : va_G) (ty : TY) (h0 : Nat) (a0 : Nat → Nat) (z0 : Ob) (o0 : Ob) (hf : f_X5_clear z0 = some o0) (sz : Nat) : CX l yX5_clear wsX5_clear rm_X5_clear ([.ref h0] : List Value) D ty (fl [oX5 ty h0 a0 z0]) sz (qV D (fl [oX5 ty h0 a0 o0])) 0 0 := by
  refine CX_of (cc := cX5_clear) (maxL := 1) (ret := none) (C := RX5) (by decide) rfl rfl (Nat.le_of_ble_eq_true rfl) ?_
  intro p e s m below meth c A ls F hr hlk _ hK hP hD hS hA hl
  have hx := F.1
  have hb := F.2.1
  replace hl : lv_has ls 1 [(0, .ref h0)] := hl
  unfold f_X5_clear at hf
  refine lv_aload_n hx hb dX5_clear_0 rfl (lv_at hl 0 rfl) ?_
  refine lv_iconst (v := (0 : Int32)) hx hb dX5_clear_1 (by decide) ?_
  refine pt_put (D := D) (ci := 5) (fty := .int) (C := RX5) (T := TX5) (N := 3) (w1 := fl [oX5 ty h0 a0 (sI z0 2 (0 : Int32))]) F in_X5_clear_X5 tyX5 tyX5_ok nmX5 hK.1 hP hD hS 0 rfl rfl 2 (Nat.le_of_ble_eq_true rfl) (F.2.2.2.2 (.fieldLink RX5 18 "LouderRoom$Wares" "count" "I") (List.mem_of_getElem? (i := 1) rfl)) (fun _ h9 => h9) rfl (by decide +kernel) rfl rfl (Nat.le_of_ble_eq_true rfl) rfl dX5_clear_2 (fun H locs hP hD hS => ?_)
  obtain ⟨g1, ex⟩ : ∃ y : Ob, y = (sI z0 2 (0 : Int32)) := ⟨_, rfl⟩
  replace hf := bnd_at hf ex; rw [← ex] at hP hD; clear ex
  obtain hf := hf
  have e0 := Option.some.inj hf
  rw [e0] at hP hD
  exact CX_v F hr hlk hP hD hS dX5_clear_5
def f_X4_byteHere (z0 : Ob) : Option (Int32) := (if (z0.1 2) < 0 then some (-9 : Int32) else (if (z0.1 1) ≤ (z0.1 2) then some (-9 : Int32) else (if inb (z0.1 2) 80 = true then some ((z0.2 0 (z0.1 2).toNatClampNeg) &&& (255 : Int32)) else none)))
abbrev rm_X4_byteHere : Room := { frames := 0, cells := 0, slots := 0, locals := 0 }
theorem hd_X4_byteHere : yX4_byteHere.cls ≠ "java/lang/invoke/MethodHandle" ∧ yX4_byteHere.cls ≠ "java/lang/invoke/VarHandle" ∧ (parseMethodDescriptor yX4_byteHere.desc).map (fun d => d.parameters.length) = some 0 := by decide +kernel
theorem in_X4_byteHere_X4 : ∀ w ∈ wsX40, w ∈ wsX4_byteHere := fun w h => List.mem_cons_of_mem _ (List.mem_append_right _ h)
set_option maxHeartbeats 4000000 in
set_option maxRecDepth 100000 in
theorem c_X4_byteHere (l : Launch) (D : va_G) (ty : TY) (h0 : Nat) (a0 : Nat → Nat) (z0 : Ob) (o0 : Int32) (hf : f_X4_byteHere z0 = some o0) (sz : Nat) : CX l yX4_byteHere wsX4_byteHere rm_X4_byteHere ([.ref h0] : List Value) D ty (fl [oX4 ty h0 a0 z0]) sz (qI D o0 (fl [oX4 ty h0 a0 z0])) 0 0 := by
  refine CX_of (cc := cX4_byteHere) (maxL := 1) (ret := (some .int)) (C := RX4) (by decide) rfl rfl (Nat.le_of_ble_eq_true rfl) ?_
  intro p e s m below meth c A ls F hr hlk _ hK hP hD hS hA hl
  have hx := F.1
  have hb := F.2.1
  replace hl : lv_has ls 1 [(0, .ref h0)] := hl
  unfold f_X4_byteHere at hf
  refine lv_aload_n hx hb dX4_byteHere_0 rfl (lv_at hl 0 rfl) ?_
  refine va_get (D := D) (ci := 4) (C := RX4) (T := TX4) (N := 4) hx hb F.2.2.2.2 in_X4_byteHere_X4 F.2.2.2.1 hK.1 hP 0 rfl rfl 2 (Nat.le_of_ble_eq_true rfl) (F.2.2.2.2 (.fieldLink RX4 22 "LouderRoom$Told" "at" "I") (List.mem_of_getElem? (i := 1) rfl)) (fun _ h9 => h9) rfl dX4_byteHere_1 ?_
  refine lv_if_lt (tgt := 34) hx hb dX4_byteHere_4 (by decide) (fun hc => ?_) (fun hc => ?_)
  · replace hf := ite_t hf hc
    refine lv_bipush (v := (-9 : Int32)) hx hb dX4_byteHere_34 (by decide) ?_
    obtain hf := hf
    have e0 := Option.some.inj hf
    exact CX_i F hr hlk hP hD hS e0 dX4_byteHere_36
  · replace hf := ite_f hf hc
    refine lv_aload_n hx hb dX4_byteHere_7 rfl (lv_at hl 0 rfl) ?_
    refine va_get (D := D) (ci := 4) (C := RX4) (T := TX4) (N := 4) hx hb F.2.2.2.2 in_X4_byteHere_X4 F.2.2.2.1 hK.1 hP 0 rfl rfl 2 (Nat.le_of_ble_eq_true rfl) (F.2.2.2.2 (.fieldLink RX4 22 "LouderRoom$Told" "at" "I") (List.mem_of_getElem? (i := 1) rfl)) (fun _ h9 => h9) rfl dX4_byteHere_8 ?_
    refine lv_aload_n hx hb dX4_byteHere_11 rfl (lv_at hl 0 rfl) ?_
    refine va_get (D := D) (ci := 4) (C := RX4) (T := TX4) (N := 4) hx hb F.2.2.2.2 in_X4_byteHere_X4 F.2.2.2.1 hK.1 hP 0 rfl rfl 1 (Nat.le_of_ble_eq_true rfl) (F.2.2.2.2 (.fieldLink RX4 19 "LouderRoom$Told" "length" "I") (List.mem_of_getElem? (i := 2) rfl)) (fun _ h9 => h9) rfl dX4_byteHere_12 ?_
    refine lv_icmp_ge (tgt := 34) hx hb dX4_byteHere_15 (by decide) (fun hc => ?_) (fun hc => ?_)
    · replace hf := ite_t hf hc
      refine lv_bipush (v := (-9 : Int32)) hx hb dX4_byteHere_34 (by decide) ?_
      obtain hf := hf
      have e0 := Option.some.inj hf
      exact CX_i F hr hlk hP hD hS e0 dX4_byteHere_36
    · replace hf := ite_f hf hc
      refine lv_aload_n hx hb dX4_byteHere_18 rfl (lv_at hl 0 rfl) ?_
      refine va_get (D := D) (ci := 4) (C := RX4) (T := TX4) (N := 4) hx hb F.2.2.2.2 in_X4_byteHere_X4 F.2.2.2.1 hK.1 hP 0 rfl rfl 0 (Nat.le_of_ble_eq_true rfl) (F.2.2.2.2 (.fieldLink RX4 9 "LouderRoom$Told" "bytes" "[B") (List.mem_of_getElem? (i := 3) rfl)) (fun _ h9 => h9) rfl dX4_byteHere_19 ?_
      refine lv_aload_n hx hb dX4_byteHere_22 rfl (lv_at hl 0 rfl) ?_
      refine va_get (D := D) (ci := 4) (C := RX4) (T := TX4) (N := 4) hx hb F.2.2.2.2 in_X4_byteHere_X4 F.2.2.2.1 hK.1 hP 0 rfl rfl 2 (Nat.le_of_ble_eq_true rfl) (F.2.2.2.2 (.fieldLink RX4 22 "LouderRoom$Told" "at" "I") (List.mem_of_getElem? (i := 1) rfl)) (fun _ h9 => h9) rfl dX4_byteHere_23 ?_
      obtain ⟨hi, hf⟩ := grd hf
      refine va_bald hx hb hK.1 hP 1 1 rfl rfl (inb_in hi) dX4_byteHere_26 ?_
      refine lv_sipush (v := (255 : Int32)) hx hb dX4_byteHere_27 (by decide) ?_
      refine lv_iand hx hb dX4_byteHere_30 ?_
      refine lv_goto (tgt := 36) hx hb dX4_byteHere_31 (by decide) ?_
      obtain hf := hf
      have e0 := Option.some.inj hf
      exact CX_i F hr hlk hP hD hS e0 dX4_byteHere_36
def f_X4_readLetter (z0 : Ob) (p1 : Int32) : Option (Ob) := (if (z0.1 3) = (-9 : Int32) then (f_X4_byteHere z0).bind (fun v1 => (if v1 = p1 then bnd (sI z0 2 ((z0.1 2) + (1 : Int32))) (fun g3 => some g3) else bnd (sI z0 3 (z0.1 2)) (fun g2 => some g2))) else some z0)
abbrev rm_X4_readLetter : Room := { frames := 1, cells := 0, slots := 0, locals := 20 }
theorem hd_X4_readLetter : yX4_readLetter.cls ≠ "java/lang/invoke/MethodHandle" ∧ yX4_readLetter.cls ≠ "java/lang/invoke/VarHandle" ∧ (parseMethodDescriptor yX4_readLetter.desc).map (fun d => d.parameters.length) = some 1 := by decide +kernel
theorem in_X4_readLetter_X4 : ∀ w ∈ wsX40, w ∈ wsX4_readLetter := fun w h => List.mem_cons_of_mem _ (List.mem_append_right _ h)
set_option maxHeartbeats 4000000 in
set_option maxRecDepth 100000 in
theorem c_X4_readLetter (l : Launch) (D : va_G) (ty : TY) (h0 : Nat) (a0 : Nat → Nat) (z0 : Ob) (p1 : Int32) (o0 : Ob) (hf : f_X4_readLetter z0 p1 = some o0) (sz : Nat) : CX l yX4_readLetter wsX4_readLetter rm_X4_readLetter ([.ref h0, .int p1] : List Value) D ty (fl [oX4 ty h0 a0 z0]) sz (qV D (fl [oX4 ty h0 a0 o0])) 0 0 := by
  refine CX_of (cc := cX4_readLetter) (maxL := 2) (ret := none) (C := RX4) (by decide) rfl rfl (Nat.le_of_ble_eq_true rfl) ?_
  intro p e s m below meth c A ls F hr hlk _ hK hP hD hS hA hl
  have hx := F.1
  have hb := F.2.1
  replace hl : lv_has ls 2 [(0, .ref h0), (1, .int p1)] := hl
  unfold f_X4_readLetter at hf
  refine lv_aload_n hx hb dX4_readLetter_0 rfl (lv_at hl 0 rfl) ?_
  refine va_get (D := D) (ci := 4) (C := RX4) (T := TX4) (N := 4) hx hb F.2.2.2.2 in_X4_readLetter_X4 F.2.2.2.1 hK.1 hP 0 rfl rfl 3 (Nat.le_of_ble_eq_true rfl) (F.2.2.2.2 (.fieldLink RX4 15 "LouderRoom$Told" "wrong" "I") (List.mem_of_getElem? (i := 1) rfl)) (fun _ h9 => h9) rfl dX4_readLetter_1 ?_
  refine lv_bipush (v := (-9 : Int32)) hx hb dX4_readLetter_4 (by decide) ?_
  refine lv_icmp_ne (tgt := 38) hx hb dX4_readLetter_6 (by decide) (fun hc => ?_) (fun hc => ?_)
  · replace hf := ite_f hf hc
    obtain hf := hf
    have e0 := Option.some.inj hf
    rw [e0] at hP hD
    exact CX_v F hr hlk hP hD hS dX4_readLetter_38
  · replace hf := ite_t hf hc
    refine lv_aload_n hx hb dX4_readLetter_9 rfl (lv_at hl 0 rfl) ?_
    obtain ⟨v1, hv, hf⟩ := obd hf
    have hp1 : List.Perm [oX4 ty h0 a0 z0] ([oX4 ty h0 a0 z0] ++ []) := (List.Perm.refl _)
    refine ci_call (out := v1) (os := [oX4 ty h0 a0 z0]) (oc := [oX4 ty h0 a0 z0]) (oc' := [oX4 ty h0 a0 z0]) (or_ := []) (os' := [oX4 ty h0 a0 z0]) (va_runV (As := []) (rest := []) F (c_X4_byteHere l D ty h0 a0 _ _ hv _) (cwV 0 F.2.2.2.2 gX4_readLetter_X4_byteHere rfl rfl rfl ⟨rfl, hd_X4_byteHere⟩ ⟨Nat.le_of_ble_eq_true rfl, Nat.le_of_ble_eq_true rfl⟩) (pre_v hK hP hD hp1 rfl rfl rfl) rfl rfl hl.1 rfl (lv_room (Nat.le_of_ble_eq_true rfl)) dX4_readLetter_10 ⟨Nat.zero_le _, Nat.zero_le _⟩) hp1 (List.Perm.refl _) hP hD hS hA (fun H locs hP hD hS => ?_)
    clear hp1 hv
    refine lv_iload_n hx hb dX4_readLetter_13 rfl (lv_at hl 1 rfl) ?_
    refine lv_icmp_ne (tgt := 30) hx hb dX4_readLetter_14 (by decide) (fun hc => ?_) (fun hc => ?_)
    · replace hf := ite_f hf hc
      refine lv_aload_n hx hb dX4_readLetter_30 rfl (lv_at hl 0 rfl) ?_
      refine lv_aload_n hx hb dX4_readLetter_31 rfl (lv_at hl 0 rfl) ?_
      refine va_get (D := D) (ci := 4) (C := RX4) (T := TX4) (N := 4) hx hb F.2.2.2.2 in_X4_readLetter_X4 F.2.2.2.1 hK.1 hP 0 rfl rfl 2 (Nat.le_of_ble_eq_true rfl) (F.2.2.2.2 (.fieldLink RX4 22 "LouderRoom$Told" "at" "I") (List.mem_of_getElem? (i := 2) rfl)) (fun _ h9 => h9) rfl dX4_readLetter_32 ?_
      refine pt_put (D := D) (ci := 4) (fty := .int) (C := RX4) (T := TX4) (N := 4) (w1 := fl [oX4 ty h0 a0 (sI z0 3 (z0.1 2))]) F in_X4_readLetter_X4 tyX4 tyX4_ok nmX4 hK.1 hP hD hS 0 rfl rfl 3 (Nat.le_of_ble_eq_true rfl) (F.2.2.2.2 (.fieldLink RX4 15 "LouderRoom$Told" "wrong" "I") (List.mem_of_getElem? (i := 1) rfl)) (fun _ h9 => h9) rfl (by decide +kernel) rfl rfl (Nat.le_of_ble_eq_true rfl) rfl dX4_readLetter_35 (fun H locs hP hD hS => ?_)
      obtain ⟨g2, ex⟩ : ∃ y : Ob, y = (sI z0 3 (z0.1 2)) := ⟨_, rfl⟩
      replace hf := bnd_at hf ex; rw [← ex] at hP hD; clear ex
      obtain hf := hf
      have e0 := Option.some.inj hf
      rw [e0] at hP hD
      exact CX_v F hr hlk hP hD hS dX4_readLetter_38
    · replace hf := ite_t hf hc
      refine lv_aload_n hx hb dX4_readLetter_17 rfl (lv_at hl 0 rfl) ?_
      refine lv_dup hx hb dX4_readLetter_18 rfl ?_
      refine va_get (D := D) (ci := 4) (C := RX4) (T := TX4) (N := 4) hx hb F.2.2.2.2 in_X4_readLetter_X4 F.2.2.2.1 hK.1 hP 0 rfl rfl 2 (Nat.le_of_ble_eq_true rfl) (F.2.2.2.2 (.fieldLink RX4 22 "LouderRoom$Told" "at" "I") (List.mem_of_getElem? (i := 2) rfl)) (fun _ h9 => h9) rfl dX4_readLetter_19 ?_
      refine lv_iconst (v := (1 : Int32)) hx hb dX4_readLetter_22 (by decide) ?_
      refine lv_iadd hx hb dX4_readLetter_23 ?_
      refine pt_put (D := D) (ci := 4) (fty := .int) (C := RX4) (T := TX4) (N := 4) (w1 := fl [oX4 ty h0 a0 (sI z0 2 ((z0.1 2) + (1 : Int32)))]) F in_X4_readLetter_X4 tyX4 tyX4_ok nmX4 hK.1 hP hD hS 0 rfl rfl 2 (Nat.le_of_ble_eq_true rfl) (F.2.2.2.2 (.fieldLink RX4 22 "LouderRoom$Told" "at" "I") (List.mem_of_getElem? (i := 2) rfl)) (fun _ h9 => h9) rfl (by decide +kernel) rfl rfl (Nat.le_of_ble_eq_true rfl) rfl dX4_readLetter_24 (fun H locs hP hD hS => ?_)
      obtain ⟨g3, ex⟩ : ∃ y : Ob, y = (sI z0 2 ((z0.1 2) + (1 : Int32))) := ⟨_, rfl⟩
      replace hf := bnd_at hf ex; rw [← ex] at hP hD; clear ex
      refine lv_goto (tgt := 38) hx hb dX4_readLetter_27 (by decide) ?_
      obtain hf := hf
      have e0 := Option.some.inj hf
      rw [e0] at hP hD
      exact CX_v F hr hlk hP hD hS dX4_readLetter_38
def j_X4_readDigit_29 (p1 : Int32) (p2 : Int32) (w0 : Ob) : Option (Int32 × Ob) := bnd (sI w0 3 (w0.1 2)) (fun g1 => some (p1, g1))
def f_X4_readDigit (z0 : Ob) (p1 : Int32) (p2 : Int32) : Option (Int32 × Ob) := (if (z0.1 3) = (-9 : Int32) then (f_X4_byteHere z0).bind (fun v2 => bnd (v2 - (48 : Int32)) (fun x3 => (if x3 < p1 then j_X4_readDigit_29 p1 p2 z0 else (if x3 ≤ p2 then bnd (sI z0 2 ((z0.1 2) + (1 : Int32))) (fun g4 => some (x3, g4)) else j_X4_readDigit_29 p1 p2 z0)))) else some (p1, z0))
abbrev rm_X4_readDigit : Room := { frames := 1, cells := 0, slots := 0, locals := 20 }
theorem hd_X4_readDigit : yX4_readDigit.cls ≠ "java/lang/invoke/MethodHandle" ∧ yX4_readDigit.cls ≠ "java/lang/invoke/VarHandle" ∧ (parseMethodDescriptor yX4_readDigit.desc).map (fun d => d.parameters.length) = some 2 := by decide +kernel
theorem in_X4_readDigit_X4 : ∀ w ∈ wsX40, w ∈ wsX4_readDigit := fun w h => List.mem_cons_of_mem _ (List.mem_append_right _ h)
set_option maxHeartbeats 4000000 in
set_option maxRecDepth 100000 in
theorem c_X4_readDigit (l : Launch) (D : va_G) (ty : TY) (h0 : Nat) (a0 : Nat → Nat) (z0 : Ob) (p1 : Int32) (p2 : Int32) (o0 : Int32) (o1 : Ob) (hf : f_X4_readDigit z0 p1 p2 = some (o0, o1)) (sz : Nat) : CX l yX4_readDigit wsX4_readDigit rm_X4_readDigit ([.ref h0, .int p1, .int p2] : List Value) D ty (fl [oX4 ty h0 a0 z0]) sz (qI D o0 (fl [oX4 ty h0 a0 o1])) 0 0 := by
  refine CX_of (cc := cX4_readDigit) (maxL := 4) (ret := (some .int)) (C := RX4) (by decide) rfl rfl (Nat.le_of_ble_eq_true rfl) ?_
  intro p e s m below meth c A ls F hr hlk _ hK hP hD hS hA hl
  have hx := F.1
  have hb := F.2.1
  replace hl : lv_has ls 4 [(0, .ref h0), (1, .int p1), (2, .int p2)] := hl
  unfold f_X4_readDigit at hf
  have J_29 : ∀ (w0 : Ob) (H : Heap) (locs : List Loc) (ls : Array Slot), va_P D vwC (fl [oX4 ty h0 a0 w0]) H → va_D A (fl [oX4 ty h0 a0 w0]) → va_S A s.heap H locs → lv_has ls 4 [(0, .ref h0), (1, .int p1)] → j_X4_readDigit_29 p1 p2 w0 = some (o0, o1) → W p l e rm_X4_readDigit s m ([.ref h0, .int p1, .int p2] : List Value).toArray below meth c H locs 0 0 (MQ below (qI D o0 (fl [oX4 ty h0 a0 o1]) A) ([.ref h0, .int p1, .int p2] : List Value).toArray s 0 0 A) (F0 m 29 ls []) := by
    intro w0 H locs ls hP hD hS hl hf
    unfold j_X4_readDigit_29 at hf
    refine lv_aload_n hx hb dX4_readDigit_29 rfl (lv_at hl 0 rfl) ?_
    refine lv_aload_n hx hb dX4_readDigit_30 rfl (lv_at hl 0 rfl) ?_
    refine va_get (D := D) (ci := 4) (C := RX4) (T := TX4) (N := 4) hx hb F.2.2.2.2 in_X4_readDigit_X4 F.2.2.2.1 hK.1 hP 0 rfl rfl 2 (Nat.le_of_ble_eq_true rfl) (F.2.2.2.2 (.fieldLink RX4 22 "LouderRoom$Told" "at" "I") (List.mem_of_getElem? (i := 2) rfl)) (fun _ h9 => h9) rfl dX4_readDigit_31 ?_
    refine pt_put (D := D) (ci := 4) (fty := .int) (C := RX4) (T := TX4) (N := 4) (w1 := fl [oX4 ty h0 a0 (sI w0 3 (w0.1 2))]) F in_X4_readDigit_X4 tyX4 tyX4_ok nmX4 hK.1 hP hD hS 0 rfl rfl 3 (Nat.le_of_ble_eq_true rfl) (F.2.2.2.2 (.fieldLink RX4 15 "LouderRoom$Told" "wrong" "I") (List.mem_of_getElem? (i := 1) rfl)) (fun _ h9 => h9) rfl (by decide +kernel) rfl rfl (Nat.le_of_ble_eq_true rfl) rfl dX4_readDigit_34 (fun H locs hP hD hS => ?_)
    obtain ⟨g1, ex⟩ : ∃ y : Ob, y = (sI w0 3 (w0.1 2)) := ⟨_, rfl⟩
    replace hf := bnd_at hf ex; rw [← ex] at hP hD; clear ex
    refine lv_iload_n hx hb dX4_readDigit_37 rfl (lv_at hl 1 rfl) ?_
    obtain hf := hf
    obtain ⟨e0, e1⟩ := tup2 hf
    rw [e1] at hP hD
    exact CX_i F hr hlk hP hD hS e0 dX4_readDigit_38
  refine lv_aload_n hx hb dX4_readDigit_0 rfl (lv_at hl 0 rfl) ?_
  refine va_get (D := D) (ci := 4) (C := RX4) (T := TX4) (N := 4) hx hb F.2.2.2.2 in_X4_readDigit_X4 F.2.2.2.1 hK.1 hP 0 rfl rfl 3 (Nat.le_of_ble_eq_true rfl) (F.2.2.2.2 (.fieldLink RX4 15 "LouderRoom$Told" "wrong" "I") (List.mem_of_getElem? (i := 1) rfl)) (fun _ h9 => h9) rfl dX4_readDigit_1 ?_
  refine lv_bipush (v := (-9 : Int32)) hx hb dX4_readDigit_4 (by decide) ?_
  refine lv_icmp_eq (tgt := 11) hx hb dX4_readDigit_6 (by decide) (fun hc => ?_) (fun hc => ?_)
  · replace hf := ite_t hf hc
    refine lv_aload_n hx hb dX4_readDigit_11 rfl (lv_at hl 0 rfl) ?_
    obtain ⟨v2, hv, hf⟩ := obd hf
    have hp1 : List.Perm [oX4 ty h0 a0 z0] ([oX4 ty h0 a0 z0] ++ []) := (List.Perm.refl _)
    refine ci_call (out := v2) (os := [oX4 ty h0 a0 z0]) (oc := [oX4 ty h0 a0 z0]) (oc' := [oX4 ty h0 a0 z0]) (or_ := []) (os' := [oX4 ty h0 a0 z0]) (va_runV (As := []) (rest := []) F (c_X4_byteHere l D ty h0 a0 _ _ hv _) (cwV 0 F.2.2.2.2 gX4_readDigit_X4_byteHere rfl rfl rfl ⟨rfl, hd_X4_byteHere⟩ ⟨Nat.le_of_ble_eq_true rfl, Nat.le_of_ble_eq_true rfl⟩) (pre_v hK hP hD hp1 rfl rfl rfl) rfl rfl hl.1 rfl (lv_room (Nat.le_of_ble_eq_true rfl)) dX4_readDigit_12 ⟨Nat.zero_le _, Nat.zero_le _⟩) hp1 (List.Perm.refl _) hP hD hS hA (fun H locs hP hD hS => ?_)
    clear hp1 hv
    refine lv_bipush (v := (48 : Int32)) hx hb dX4_readDigit_15 (by decide) ?_
    refine lv_isub hx hb dX4_readDigit_17 ?_
    refine lv_topi (fun x3 ex => ?_)
    replace hf := bnd_at hf ex; clear ex
    refine lv_istore_n (lv' := [(3, .int x3), (0, .ref h0), (1, .int p1), (2, .int p2)]) hx hb dX4_readDigit_18 rfl hl (by decide) rfl (fun ls hl => ?_)
    refine lv_iload_n hx hb dX4_readDigit_19 rfl (lv_at hl 0 rfl) ?_
    refine lv_iload_n hx hb dX4_readDigit_20 rfl (lv_at hl 2 rfl) ?_
    refine lv_icmp_lt (tgt := 29) hx hb dX4_readDigit_21 (by decide) (fun hc => ?_) (fun hc => ?_)
    · replace hf := ite_t hf hc
      exact J_29 z0 _ _ _ hP hD hS (lv_sub hl [1, 2] rfl) hf
    · replace hf := ite_f hf hc
      refine lv_iload_n hx hb dX4_readDigit_24 rfl (lv_at hl 0 rfl) ?_
      refine lv_iload_n hx hb dX4_readDigit_25 rfl (lv_at hl 3 rfl) ?_
      refine lv_icmp_le (tgt := 39) hx hb dX4_readDigit_26 (by decide) (fun hc => ?_) (fun hc => ?_)
      · replace hf := ite_t hf hc
        refine lv_aload_n hx hb dX4_readDigit_39 rfl (lv_at hl 1 rfl) ?_
        refine lv_dup hx hb dX4_readDigit_40 rfl ?_
        refine va_get (D := D) (ci := 4) (C := RX4) (T := TX4) (N := 4) hx hb F.2.2.2.2 in_X4_readDigit_X4 F.2.2.2.1 hK.1 hP 0 rfl rfl 2 (Nat.le_of_ble_eq_true rfl) (F.2.2.2.2 (.fieldLink RX4 22 "LouderRoom$Told" "at" "I") (List.mem_of_getElem? (i := 2) rfl)) (fun _ h9 => h9) rfl dX4_readDigit_41 ?_
        refine lv_iconst (v := (1 : Int32)) hx hb dX4_readDigit_44 (by decide) ?_
        refine lv_iadd hx hb dX4_readDigit_45 ?_
        refine pt_put (D := D) (ci := 4) (fty := .int) (C := RX4) (T := TX4) (N := 4) (w1 := fl [oX4 ty h0 a0 (sI z0 2 ((z0.1 2) + (1 : Int32)))]) F in_X4_readDigit_X4 tyX4 tyX4_ok nmX4 hK.1 hP hD hS 0 rfl rfl 2 (Nat.le_of_ble_eq_true rfl) (F.2.2.2.2 (.fieldLink RX4 22 "LouderRoom$Told" "at" "I") (List.mem_of_getElem? (i := 2) rfl)) (fun _ h9 => h9) rfl (by decide +kernel) rfl rfl (Nat.le_of_ble_eq_true rfl) rfl dX4_readDigit_46 (fun H locs hP hD hS => ?_)
        obtain ⟨g4, ex⟩ : ∃ y : Ob, y = (sI z0 2 ((z0.1 2) + (1 : Int32))) := ⟨_, rfl⟩
        replace hf := bnd_at hf ex; rw [← ex] at hP hD; clear ex
        refine lv_iload_n hx hb dX4_readDigit_49 rfl (lv_at hl 0 rfl) ?_
        obtain hf := hf
        obtain ⟨e0, e1⟩ := tup2 hf
        rw [e1] at hP hD
        exact CX_i F hr hlk hP hD hS e0 dX4_readDigit_50
      · replace hf := ite_f hf hc
        exact J_29 z0 _ _ _ hP hD hS (lv_sub hl [1, 2] rfl) hf
  · replace hf := ite_f hf hc
    refine lv_iload_n hx hb dX4_readDigit_9 rfl (lv_at hl 1 rfl) ?_
    obtain hf := hf
    obtain ⟨e0, e1⟩ := tup2 hf
    rw [e1] at hP hD
    exact CX_i F hr hlk hP hD hS e0 dX4_readDigit_10
def j_X4_readRing_69 (y2 : Int32) (y5 : Int32) (w0 : Ob) (w1 : Ob) : Option (Ob × Ob) := bd2 (f_X4_readDigit w0 (1 : Int32) (9 : Int32)) (fun v1 g2 => bd2 (f_X4_readDigit g2 (1 : Int32) (9 : Int32)) (fun v3 g4 => bd2 (f_X4_readDigit g4 (0 : Int32) (9 : Int32)) (fun v5 g6 => (if (g6.1 3) = (-9 : Int32) then (f_X1_add w1 y2 y5 v1 v3 v5).bind (fun g7 => some (g6, g7)) else some (g6, w1)))))
def f_X4_readRing (z0 : Ob) (z1 : Ob) : Option (Ob × Ob) := (f_X4_readLetter z0 (71 : Int32)).bind (fun g8 => bd2 (f_X4_readDigit g8 (0 : Int32) (4 : Int32)) (fun v9 g10 => bd2 (f_X4_readDigit g10 (0 : Int32) (9 : Int32)) (fun v11 g12 => bd2 (f_X4_readDigit g12 (0 : Int32) (9 : Int32)) (fun v13 g14 => bnd (((10 : Int32) * v13) + v11) (fun x15 => (if (g14.1 3) = (-9 : Int32) then (f_X1_ringIn z1 x15).bind (fun v16 => (if v16 = (-9 : Int32) then j_X4_readRing_69 v9 x15 g14 z1 else bnd (sI g14 3 ((g14.1 2) - (1 : Int32))) (fun g17 => j_X4_readRing_69 v9 x15 g17 z1))) else j_X4_readRing_69 v9 x15 g14 z1))))))
abbrev rm_X4_readRing : Room := { frames := 2, cells := 0, slots := 0, locals := 43 }
theorem hd_X4_readRing : yX4_readRing.cls ≠ "java/lang/invoke/MethodHandle" ∧ yX4_readRing.cls ≠ "java/lang/invoke/VarHandle" ∧ (parseMethodDescriptor yX4_readRing.desc).map (fun d => d.parameters.length) = some 1 := by decide +kernel
theorem in_X4_readRing_X4 : ∀ w ∈ wsX40, w ∈ wsX4_readRing := fun w h => List.mem_cons_of_mem _ (List.mem_append_left _ (List.mem_append_right _ h))
set_option maxHeartbeats 4000000 in
set_option maxRecDepth 100000 in
theorem c_X4_readRing (l : Launch) (D : va_G) (ty : TY) (h0 : Nat) (a0 : Nat → Nat) (h1 : Nat) (a1 : Nat → Nat) (z0 : Ob) (z1 : Ob) (o0 : Ob) (o1 : Ob) (hf : f_X4_readRing z0 z1 = some (o0, o1)) (sz : Nat) : CX l yX4_readRing wsX4_readRing rm_X4_readRing ([.ref h0, .ref h1] : List Value) D ty (fl [oX4 ty h0 a0 z0, oX1 ty h1 a1 z1]) sz (qV D (fl [oX4 ty h0 a0 o0, oX1 ty h1 a1 o1])) 0 0 := by
  refine CX_of (cc := cX4_readRing) (maxL := 9) (ret := none) (C := RX4) (by decide) rfl rfl (Nat.le_of_ble_eq_true rfl) ?_
  intro p e s m below meth c A ls F hr hlk _ hK hP hD hS hA hl
  have hx := F.1
  have hb := F.2.1
  replace hl : lv_has ls 9 [(0, .ref h0), (1, .ref h1)] := hl
  unfold f_X4_readRing at hf
  have J_69 : ∀ (y2 : Int32) (y5 : Int32) (w0 : Ob) (w1 : Ob) (H : Heap) (locs : List Loc) (ls : Array Slot), va_P D vwC (fl [oX4 ty h0 a0 w0, oX1 ty h1 a1 w1]) H → va_D A (fl [oX4 ty h0 a0 w0, oX1 ty h1 a1 w1]) → va_S A s.heap H locs → lv_has ls 9 [(0, .ref h0), (1, .ref h1), (2, .int y2), (5, .int y5)] → j_X4_readRing_69 y2 y5 w0 w1 = some (o0, o1) → W p l e rm_X4_readRing s m ([.ref h0, .ref h1] : List Value).toArray below meth c H locs 0 0 (MQ below (qV D (fl [oX4 ty h0 a0 o0, oX1 ty h1 a1 o1]) A) ([.ref h0, .ref h1] : List Value).toArray s 0 0 A) (F0 m 69 ls []) := by
    intro y2 y5 w0 w1 H locs ls hP hD hS hl hf
    unfold j_X4_readRing_69 at hf
    refine lv_aload_n hx hb dX4_readRing_69 rfl (lv_at hl 0 rfl) ?_
    refine lv_iconst (v := (1 : Int32)) hx hb dX4_readRing_70 (by decide) ?_
    refine lv_bipush (v := (9 : Int32)) hx hb dX4_readRing_71 (by decide) ?_
    obtain ⟨v1, g2, hv, hf⟩ := obd2 hf
    have hp1 : List.Perm [oX4 ty h0 a0 w0, oX1 ty h1 a1 w1] ([oX4 ty h0 a0 w0] ++ [oX1 ty h1 a1 w1]) := (List.Perm.refl _)
    refine ci_call (out := v1) (os := [oX4 ty h0 a0 w0, oX1 ty h1 a1 w1]) (oc := [oX4 ty h0 a0 w0]) (oc' := [oX4 ty h0 a0 g2]) (or_ := [oX1 ty h1 a1 w1]) (os' := [oX4 ty h0 a0 g2, oX1 ty h1 a1 w1]) (va_runV (As := [.int (1 : Int32), .int (9 : Int32)]) (rest := []) F (c_X4_readDigit l D ty h0 a0 _ _ _ _ _ hv _) (cwV 2 F.2.2.2.2 gX4_readRing_X4_readDigit rfl rfl rfl ⟨rfl, hd_X4_readDigit⟩ ⟨Nat.le_of_ble_eq_true rfl, Nat.le_of_ble_eq_true rfl⟩) (pre_v hK hP hD hp1 rfl rfl rfl) rfl rfl hl.1 rfl (lv_room (Nat.le_of_ble_eq_true rfl)) dX4_readRing_73 ⟨Nat.zero_le _, Nat.zero_le _⟩) hp1 (List.Perm.refl _) hP hD hS hA (fun H locs hP hD hS => ?_)
    clear hp1 hv
    refine lv_istore (lv' := [(6, .int v1), (0, .ref h0), (1, .ref h1), (2, .int y2), (5, .int y5)]) hx hb dX4_readRing_76 hl (by decide) rfl (fun ls hl => ?_)
    refine lv_aload_n hx hb dX4_readRing_78 rfl (lv_at hl 1 rfl) ?_
    refine lv_iconst (v := (1 : Int32)) hx hb dX4_readRing_79 (by decide) ?_
    refine lv_bipush (v := (9 : Int32)) hx hb dX4_readRing_80 (by decide) ?_
    obtain ⟨v3, g4, hv, hf⟩ := obd2 hf
    have hp1 : List.Perm [oX4 ty h0 a0 g2, oX1 ty h1 a1 w1] ([oX4 ty h0 a0 g2] ++ [oX1 ty h1 a1 w1]) := (List.Perm.refl _)
    refine ci_call (out := v3) (os := [oX4 ty h0 a0 g2, oX1 ty h1 a1 w1]) (oc := [oX4 ty h0 a0 g2]) (oc' := [oX4 ty h0 a0 g4]) (or_ := [oX1 ty h1 a1 w1]) (os' := [oX4 ty h0 a0 g4, oX1 ty h1 a1 w1]) (va_runV (As := [.int (1 : Int32), .int (9 : Int32)]) (rest := []) F (c_X4_readDigit l D ty h0 a0 _ _ _ _ _ hv _) (cwV 2 F.2.2.2.2 gX4_readRing_X4_readDigit rfl rfl rfl ⟨rfl, hd_X4_readDigit⟩ ⟨Nat.le_of_ble_eq_true rfl, Nat.le_of_ble_eq_true rfl⟩) (pre_v hK hP hD hp1 rfl rfl rfl) rfl rfl hl.1 rfl (lv_room (Nat.le_of_ble_eq_true rfl)) dX4_readRing_82 ⟨Nat.zero_le _, Nat.zero_le _⟩) hp1 (List.Perm.refl _) hP hD hS hA (fun H locs hP hD hS => ?_)
    clear hp1 hv
    refine lv_istore (lv' := [(7, .int v3), (6, .int v1), (0, .ref h0), (1, .ref h1), (2, .int y2), (5, .int y5)]) hx hb dX4_readRing_85 hl (by decide) rfl (fun ls hl => ?_)
    refine lv_aload_n hx hb dX4_readRing_87 rfl (lv_at hl 2 rfl) ?_
    refine lv_iconst (v := (0 : Int32)) hx hb dX4_readRing_88 (by decide) ?_
    refine lv_bipush (v := (9 : Int32)) hx hb dX4_readRing_89 (by decide) ?_
    obtain ⟨v5, g6, hv, hf⟩ := obd2 hf
    have hp1 : List.Perm [oX4 ty h0 a0 g4, oX1 ty h1 a1 w1] ([oX4 ty h0 a0 g4] ++ [oX1 ty h1 a1 w1]) := (List.Perm.refl _)
    refine ci_call (out := v5) (os := [oX4 ty h0 a0 g4, oX1 ty h1 a1 w1]) (oc := [oX4 ty h0 a0 g4]) (oc' := [oX4 ty h0 a0 g6]) (or_ := [oX1 ty h1 a1 w1]) (os' := [oX4 ty h0 a0 g6, oX1 ty h1 a1 w1]) (va_runV (As := [.int (0 : Int32), .int (9 : Int32)]) (rest := []) F (c_X4_readDigit l D ty h0 a0 _ _ _ _ _ hv _) (cwV 2 F.2.2.2.2 gX4_readRing_X4_readDigit rfl rfl rfl ⟨rfl, hd_X4_readDigit⟩ ⟨Nat.le_of_ble_eq_true rfl, Nat.le_of_ble_eq_true rfl⟩) (pre_v hK hP hD hp1 rfl rfl rfl) rfl rfl hl.1 rfl (lv_room (Nat.le_of_ble_eq_true rfl)) dX4_readRing_91 ⟨Nat.zero_le _, Nat.zero_le _⟩) hp1 (List.Perm.refl _) hP hD hS hA (fun H locs hP hD hS => ?_)
    clear hp1 hv
    refine lv_istore (lv' := [(8, .int v5), (7, .int v3), (6, .int v1), (0, .ref h0), (1, .ref h1), (2, .int y2), (5, .int y5)]) hx hb dX4_readRing_94 hl (by decide) rfl (fun ls hl => ?_)
    refine lv_aload_n hx hb dX4_readRing_96 rfl (lv_at hl 3 rfl) ?_
    refine va_get (D := D) (ci := 4) (C := RX4) (T := TX4) (N := 4) hx hb F.2.2.2.2 in_X4_readRing_X4 F.2.2.2.1 hK.1 hP 0 rfl rfl 3 (Nat.le_of_ble_eq_true rfl) (F.2.2.2.2 (.fieldLink RX4 15 "LouderRoom$Told" "wrong" "I") (List.mem_of_getElem? (i := 1) rfl)) (fun _ h9 => h9) rfl dX4_readRing_97 ?_
    refine lv_bipush (v := (-9 : Int32)) hx hb dX4_readRing_100 (by decide) ?_
    refine lv_icmp_ne (tgt := 118) hx hb dX4_readRing_102 (by decide) (fun hc => ?_) (fun hc => ?_)
    · replace hf := ite_f hf hc
      obtain hf := hf
      obtain ⟨e0, e1⟩ := tup2 hf
      rw [e0] at hP hD
      rw [e1] at hP hD
      exact CX_v F hr hlk hP hD hS dX4_readRing_118
    · replace hf := ite_t hf hc
      refine lv_aload_n hx hb dX4_readRing_105 rfl (lv_at hl 4 rfl) ?_
      refine lv_iload_n hx hb dX4_readRing_106 rfl (lv_at hl 5 rfl) ?_
      refine lv_iload hx hb dX4_readRing_107 (lv_at hl 6 rfl) ?_
      refine lv_iload hx hb dX4_readRing_109 (lv_at hl 2 rfl) ?_
      refine lv_iload hx hb dX4_readRing_111 (lv_at hl 1 rfl) ?_
      refine lv_iload hx hb dX4_readRing_113 (lv_at hl 0 rfl) ?_
      obtain ⟨g7, hv, hf⟩ := obd hf
      have hp1 : List.Perm [oX4 ty h0 a0 g6, oX1 ty h1 a1 w1] ([oX1 ty h1 a1 w1] ++ [oX4 ty h0 a0 g6]) := ((List.perm_middle (a := (oX1 ty h1 a1 w1 : va_W)) (l₁ := ([oX4 ty h0 a0 g6] : List va_W)) (l₂ := ([] : List va_W))) : List.Perm ([oX4 ty h0 a0 g6, oX1 ty h1 a1 w1] : List va_W) ([oX1 ty h1 a1 w1, oX4 ty h0 a0 g6] : List va_W))
      refine cv_call (os := [oX4 ty h0 a0 g6, oX1 ty h1 a1 w1]) (oc := [oX1 ty h1 a1 w1]) (oc' := [oX1 ty h1 a1 g7]) (or_ := [oX4 ty h0 a0 g6]) (os' := [oX4 ty h0 a0 g6, oX1 ty h1 a1 g7]) (va_runV (As := [.int y2, .int y5, .int v1, .int v3, .int v5]) (rest := []) F (c_X1_add l D ty h1 a1 _ _ _ _ _ _ _ hv _) (cwV 5 F.2.2.2.2 gX4_readRing_X1_add rfl rfl rfl ⟨rfl, hd_X1_add⟩ ⟨Nat.le_of_ble_eq_true rfl, Nat.le_of_ble_eq_true rfl⟩) (pre_v hK hP hD hp1 rfl rfl rfl) rfl rfl hl.1 rfl (lv_room (Nat.le_of_ble_eq_true rfl)) dX4_readRing_115 ⟨Nat.zero_le _, Nat.zero_le _⟩) hp1 ((List.perm_middle (a := (oX4 ty h0 a0 g6 : va_W)) (l₁ := ([oX1 ty h1 a1 g7] : List va_W)) (l₂ := ([] : List va_W))) : List.Perm ([oX1 ty h1 a1 g7, oX4 ty h0 a0 g6] : List va_W) ([oX4 ty h0 a0 g6, oX1 ty h1 a1 g7] : List va_W)) hP hD hS hA (fun H locs hP hD hS => ?_)
      clear hp1 hv
      obtain hf := hf
      obtain ⟨e0, e1⟩ := tup2 hf
      rw [e0] at hP hD
      rw [e1] at hP hD
      exact CX_v F hr hlk hP hD hS dX4_readRing_118
  refine lv_aload_n hx hb dX4_readRing_0 rfl (lv_at hl 0 rfl) ?_
  refine lv_bipush (v := (71 : Int32)) hx hb dX4_readRing_1 (by decide) ?_
  obtain ⟨g8, hv, hf⟩ := obd hf
  have hp1 : List.Perm [oX4 ty h0 a0 z0, oX1 ty h1 a1 z1] ([oX4 ty h0 a0 z0] ++ [oX1 ty h1 a1 z1]) := (List.Perm.refl _)
  refine cv_call (os := [oX4 ty h0 a0 z0, oX1 ty h1 a1 z1]) (oc := [oX4 ty h0 a0 z0]) (oc' := [oX4 ty h0 a0 g8]) (or_ := [oX1 ty h1 a1 z1]) (os' := [oX4 ty h0 a0 g8, oX1 ty h1 a1 z1]) (va_runV (As := [.int (71 : Int32)]) (rest := []) F (c_X4_readLetter l D ty h0 a0 _ _ _ hv _) (cwV 1 F.2.2.2.2 gX4_readRing_X4_readLetter rfl rfl rfl ⟨rfl, hd_X4_readLetter⟩ ⟨Nat.le_of_ble_eq_true rfl, Nat.le_of_ble_eq_true rfl⟩) (pre_v hK hP hD hp1 rfl rfl rfl) rfl rfl hl.1 rfl (lv_room (Nat.le_of_ble_eq_true rfl)) dX4_readRing_3 ⟨Nat.zero_le _, Nat.zero_le _⟩) hp1 (List.Perm.refl _) hP hD hS hA (fun H locs hP hD hS => ?_)
  clear hp1 hv
  refine lv_aload_n hx hb dX4_readRing_6 rfl (lv_at hl 0 rfl) ?_
  refine lv_iconst (v := (0 : Int32)) hx hb dX4_readRing_7 (by decide) ?_
  refine lv_iconst (v := (4 : Int32)) hx hb dX4_readRing_8 (by decide) ?_
  obtain ⟨v9, g10, hv, hf⟩ := obd2 hf
  have hp1 : List.Perm [oX4 ty h0 a0 g8, oX1 ty h1 a1 z1] ([oX4 ty h0 a0 g8] ++ [oX1 ty h1 a1 z1]) := (List.Perm.refl _)
  refine ci_call (out := v9) (os := [oX4 ty h0 a0 g8, oX1 ty h1 a1 z1]) (oc := [oX4 ty h0 a0 g8]) (oc' := [oX4 ty h0 a0 g10]) (or_ := [oX1 ty h1 a1 z1]) (os' := [oX4 ty h0 a0 g10, oX1 ty h1 a1 z1]) (va_runV (As := [.int (0 : Int32), .int (4 : Int32)]) (rest := []) F (c_X4_readDigit l D ty h0 a0 _ _ _ _ _ hv _) (cwV 2 F.2.2.2.2 gX4_readRing_X4_readDigit rfl rfl rfl ⟨rfl, hd_X4_readDigit⟩ ⟨Nat.le_of_ble_eq_true rfl, Nat.le_of_ble_eq_true rfl⟩) (pre_v hK hP hD hp1 rfl rfl rfl) rfl rfl hl.1 rfl (lv_room (Nat.le_of_ble_eq_true rfl)) dX4_readRing_9 ⟨Nat.zero_le _, Nat.zero_le _⟩) hp1 (List.Perm.refl _) hP hD hS hA (fun H locs hP hD hS => ?_)
  clear hp1 hv
  refine lv_istore_n (lv' := [(2, .int v9), (0, .ref h0), (1, .ref h1)]) hx hb dX4_readRing_12 rfl hl (by decide) rfl (fun ls hl => ?_)
  refine lv_aload_n hx hb dX4_readRing_13 rfl (lv_at hl 1 rfl) ?_
  refine lv_iconst (v := (0 : Int32)) hx hb dX4_readRing_14 (by decide) ?_
  refine lv_bipush (v := (9 : Int32)) hx hb dX4_readRing_15 (by decide) ?_
  obtain ⟨v11, g12, hv, hf⟩ := obd2 hf
  have hp1 : List.Perm [oX4 ty h0 a0 g10, oX1 ty h1 a1 z1] ([oX4 ty h0 a0 g10] ++ [oX1 ty h1 a1 z1]) := (List.Perm.refl _)
  refine ci_call (out := v11) (os := [oX4 ty h0 a0 g10, oX1 ty h1 a1 z1]) (oc := [oX4 ty h0 a0 g10]) (oc' := [oX4 ty h0 a0 g12]) (or_ := [oX1 ty h1 a1 z1]) (os' := [oX4 ty h0 a0 g12, oX1 ty h1 a1 z1]) (va_runV (As := [.int (0 : Int32), .int (9 : Int32)]) (rest := []) F (c_X4_readDigit l D ty h0 a0 _ _ _ _ _ hv _) (cwV 2 F.2.2.2.2 gX4_readRing_X4_readDigit rfl rfl rfl ⟨rfl, hd_X4_readDigit⟩ ⟨Nat.le_of_ble_eq_true rfl, Nat.le_of_ble_eq_true rfl⟩) (pre_v hK hP hD hp1 rfl rfl rfl) rfl rfl hl.1 rfl (lv_room (Nat.le_of_ble_eq_true rfl)) dX4_readRing_17 ⟨Nat.zero_le _, Nat.zero_le _⟩) hp1 (List.Perm.refl _) hP hD hS hA (fun H locs hP hD hS => ?_)
  clear hp1 hv
  refine lv_istore_n (lv' := [(3, .int v11), (2, .int v9), (0, .ref h0), (1, .ref h1)]) hx hb dX4_readRing_20 rfl hl (by decide) rfl (fun ls hl => ?_)
  refine lv_aload_n hx hb dX4_readRing_21 rfl (lv_at hl 2 rfl) ?_
  refine lv_iconst (v := (0 : Int32)) hx hb dX4_readRing_22 (by decide) ?_
  refine lv_bipush (v := (9 : Int32)) hx hb dX4_readRing_23 (by decide) ?_
  obtain ⟨v13, g14, hv, hf⟩ := obd2 hf
  have hp1 : List.Perm [oX4 ty h0 a0 g12, oX1 ty h1 a1 z1] ([oX4 ty h0 a0 g12] ++ [oX1 ty h1 a1 z1]) := (List.Perm.refl _)
  refine ci_call (out := v13) (os := [oX4 ty h0 a0 g12, oX1 ty h1 a1 z1]) (oc := [oX4 ty h0 a0 g12]) (oc' := [oX4 ty h0 a0 g14]) (or_ := [oX1 ty h1 a1 z1]) (os' := [oX4 ty h0 a0 g14, oX1 ty h1 a1 z1]) (va_runV (As := [.int (0 : Int32), .int (9 : Int32)]) (rest := []) F (c_X4_readDigit l D ty h0 a0 _ _ _ _ _ hv _) (cwV 2 F.2.2.2.2 gX4_readRing_X4_readDigit rfl rfl rfl ⟨rfl, hd_X4_readDigit⟩ ⟨Nat.le_of_ble_eq_true rfl, Nat.le_of_ble_eq_true rfl⟩) (pre_v hK hP hD hp1 rfl rfl rfl) rfl rfl hl.1 rfl (lv_room (Nat.le_of_ble_eq_true rfl)) dX4_readRing_25 ⟨Nat.zero_le _, Nat.zero_le _⟩) hp1 (List.Perm.refl _) hP hD hS hA (fun H locs hP hD hS => ?_)
  clear hp1 hv
  refine lv_istore (lv' := [(4, .int v13), (3, .int v11), (2, .int v9), (0, .ref h0), (1, .ref h1)]) hx hb dX4_readRing_28 hl (by decide) rfl (fun ls hl => ?_)
  refine lv_bipush (v := (10 : Int32)) hx hb dX4_readRing_30 (by decide) ?_
  refine lv_iload hx hb dX4_readRing_32 (lv_at hl 0 rfl) ?_
  refine lv_imul hx hb dX4_readRing_34 ?_
  refine lv_iload_n hx hb dX4_readRing_35 rfl (lv_at hl 1 rfl) ?_
  refine lv_iadd hx hb dX4_readRing_36 ?_
  refine lv_topi (fun x15 ex => ?_)
  replace hf := bnd_at hf ex; clear ex
  refine lv_istore (lv' := [(5, .int x15), (4, .int v13), (3, .int v11), (2, .int v9), (0, .ref h0), (1, .ref h1)]) hx hb dX4_readRing_37 hl (by decide) rfl (fun ls hl => ?_)
  refine lv_aload_n hx hb dX4_readRing_39 rfl (lv_at hl 4 rfl) ?_
  refine va_get (D := D) (ci := 4) (C := RX4) (T := TX4) (N := 4) hx hb F.2.2.2.2 in_X4_readRing_X4 F.2.2.2.1 hK.1 hP 0 rfl rfl 3 (Nat.le_of_ble_eq_true rfl) (F.2.2.2.2 (.fieldLink RX4 15 "LouderRoom$Told" "wrong" "I") (List.mem_of_getElem? (i := 1) rfl)) (fun _ h9 => h9) rfl dX4_readRing_40 ?_
  refine lv_bipush (v := (-9 : Int32)) hx hb dX4_readRing_43 (by decide) ?_
  refine lv_icmp_ne (tgt := 69) hx hb dX4_readRing_45 (by decide) (fun hc => ?_) (fun hc => ?_)
  · replace hf := ite_f hf hc
    exact J_69 v9 x15 g14 z1 _ _ _ hP hD hS (lv_sub hl [4, 5, 3, 0] rfl) hf
  · replace hf := ite_t hf hc
    refine lv_aload_n hx hb dX4_readRing_48 rfl (lv_at hl 5 rfl) ?_
    refine lv_iload hx hb dX4_readRing_49 (lv_at hl 0 rfl) ?_
    obtain ⟨v16, hv, hf⟩ := obd hf
    have hp1 : List.Perm [oX4 ty h0 a0 g14, oX1 ty h1 a1 z1] ([oX1 ty h1 a1 z1] ++ [oX4 ty h0 a0 g14]) := ((List.perm_middle (a := (oX1 ty h1 a1 z1 : va_W)) (l₁ := ([oX4 ty h0 a0 g14] : List va_W)) (l₂ := ([] : List va_W))) : List.Perm ([oX4 ty h0 a0 g14, oX1 ty h1 a1 z1] : List va_W) ([oX1 ty h1 a1 z1, oX4 ty h0 a0 g14] : List va_W))
    refine ci_call (out := v16) (os := [oX4 ty h0 a0 g14, oX1 ty h1 a1 z1]) (oc := [oX1 ty h1 a1 z1]) (oc' := [oX1 ty h1 a1 z1]) (or_ := [oX4 ty h0 a0 g14]) (os' := [oX4 ty h0 a0 g14, oX1 ty h1 a1 z1]) (va_runV (As := [.int x15]) (rest := []) F (c_X1_ringIn l D ty h1 a1 _ _ _ hv _) (cwV 1 F.2.2.2.2 gX4_readRing_X1_ringIn rfl rfl rfl ⟨rfl, hd_X1_ringIn⟩ ⟨Nat.le_of_ble_eq_true rfl, Nat.le_of_ble_eq_true rfl⟩) (pre_v hK hP hD hp1 rfl rfl rfl) rfl rfl hl.1 rfl (lv_room (Nat.le_of_ble_eq_true rfl)) dX4_readRing_51 ⟨Nat.zero_le _, Nat.zero_le _⟩) hp1 ((List.perm_middle (a := (oX4 ty h0 a0 g14 : va_W)) (l₁ := ([oX1 ty h1 a1 z1] : List va_W)) (l₂ := ([] : List va_W))) : List.Perm ([oX1 ty h1 a1 z1, oX4 ty h0 a0 g14] : List va_W) ([oX4 ty h0 a0 g14, oX1 ty h1 a1 z1] : List va_W)) hP hD hS hA (fun H locs hP hD hS => ?_)
    clear hp1 hv
    refine lv_bipush (v := (-9 : Int32)) hx hb dX4_readRing_54 (by decide) ?_
    refine lv_icmp_eq (tgt := 69) hx hb dX4_readRing_56 (by decide) (fun hc => ?_) (fun hc => ?_)
    · replace hf := ite_t hf hc
      exact J_69 v9 x15 g14 z1 _ _ _ hP hD hS (lv_sub hl [4, 5, 3, 0] rfl) hf
    · replace hf := ite_f hf hc
      refine lv_aload_n hx hb dX4_readRing_59 rfl (lv_at hl 4 rfl) ?_
      refine lv_aload_n hx hb dX4_readRing_60 rfl (lv_at hl 4 rfl) ?_
      refine va_get (D := D) (ci := 4) (C := RX4) (T := TX4) (N := 4) hx hb F.2.2.2.2 in_X4_readRing_X4 F.2.2.2.1 hK.1 hP 0 rfl rfl 2 (Nat.le_of_ble_eq_true rfl) (F.2.2.2.2 (.fieldLink RX4 22 "LouderRoom$Told" "at" "I") (List.mem_of_getElem? (i := 2) rfl)) (fun _ h9 => h9) rfl dX4_readRing_61 ?_
      refine lv_iconst (v := (1 : Int32)) hx hb dX4_readRing_64 (by decide) ?_
      refine lv_isub hx hb dX4_readRing_65 ?_
      refine pt_put (D := D) (ci := 4) (fty := .int) (C := RX4) (T := TX4) (N := 4) (w1 := fl [oX4 ty h0 a0 (sI g14 3 ((g14.1 2) - (1 : Int32))), oX1 ty h1 a1 z1]) F in_X4_readRing_X4 tyX4 tyX4_ok nmX4 hK.1 hP hD hS 0 rfl rfl 3 (Nat.le_of_ble_eq_true rfl) (F.2.2.2.2 (.fieldLink RX4 15 "LouderRoom$Told" "wrong" "I") (List.mem_of_getElem? (i := 1) rfl)) (fun _ h9 => h9) rfl (by decide +kernel) rfl rfl (Nat.le_of_ble_eq_true rfl) rfl dX4_readRing_66 (fun H locs hP hD hS => ?_)
      obtain ⟨g17, ex⟩ : ∃ y : Ob, y = (sI g14 3 ((g14.1 2) - (1 : Int32))) := ⟨_, rfl⟩
      replace hf := bnd_at hf ex; rw [← ex] at hP hD; clear ex
      exact J_69 v9 x15 g17 z1 _ _ _ hP hD hS (lv_sub hl [4, 5, 3, 0] rfl) hf
def f_X5_add (z0 : Ob) (p1 : Int32) (p2 : Int32) : Option (Ob) := (if (5 : Int32) ≤ (z0.1 2) then some z0 else (if inb (z0.1 2) 5 = true then bnd (sA z0 0 (upd (z0.2 0) (z0.1 2).toNatClampNeg p1)) (fun g1 => (if inb (g1.1 2) 5 = true then bnd (sA g1 1 (upd (g1.2 1) (g1.1 2).toNatClampNeg p2)) (fun g2 => bnd (sI g2 2 ((g2.1 2) + (1 : Int32))) (fun g3 => some g3)) else none)) else none))
abbrev rm_X5_add : Room := { frames := 0, cells := 0, slots := 0, locals := 0 }
theorem hd_X5_add : yX5_add.cls ≠ "java/lang/invoke/MethodHandle" ∧ yX5_add.cls ≠ "java/lang/invoke/VarHandle" ∧ (parseMethodDescriptor yX5_add.desc).map (fun d => d.parameters.length) = some 2 := by decide +kernel
theorem in_X5_add_X5 : ∀ w ∈ wsX50, w ∈ wsX5_add := fun w h => List.mem_cons_of_mem _ (List.mem_append_right _ h)
set_option maxHeartbeats 4000000 in
set_option maxRecDepth 100000 in
theorem c_X5_add (l : Launch) (D : va_G) (ty : TY) (h0 : Nat) (a0 : Nat → Nat) (z0 : Ob) (p1 : Int32) (p2 : Int32) (o0 : Ob) (hf : f_X5_add z0 p1 p2 = some o0) (sz : Nat) : CX l yX5_add wsX5_add rm_X5_add ([.ref h0, .int p1, .int p2] : List Value) D ty (fl [oX5 ty h0 a0 z0]) sz (qV D (fl [oX5 ty h0 a0 o0])) 0 0 := by
  refine CX_of (cc := cX5_add) (maxL := 3) (ret := none) (C := RX5) (by decide) rfl rfl (Nat.le_of_ble_eq_true rfl) ?_
  intro p e s m below meth c A ls F hr hlk _ hK hP hD hS hA hl
  have hx := F.1
  have hb := F.2.1
  replace hl : lv_has ls 3 [(0, .ref h0), (1, .int p1), (2, .int p2)] := hl
  unfold f_X5_add at hf
  refine lv_aload_n hx hb dX5_add_0 rfl (lv_at hl 0 rfl) ?_
  refine va_get (D := D) (ci := 5) (C := RX5) (T := TX5) (N := 3) hx hb F.2.2.2.2 in_X5_add_X5 F.2.2.2.1 hK.1 hP 0 rfl rfl 2 (Nat.le_of_ble_eq_true rfl) (F.2.2.2.2 (.fieldLink RX5 18 "LouderRoom$Wares" "count" "I") (List.mem_of_getElem? (i := 1) rfl)) (fun _ h9 => h9) rfl dX5_add_1 ?_
  refine lv_iconst (v := (5 : Int32)) hx hb dX5_add_4 (by decide) ?_
  refine lv_icmp_ge (tgt := 38) hx hb dX5_add_5 (by decide) (fun hc => ?_) (fun hc => ?_)
  · replace hf := ite_t hf hc
    obtain hf := hf
    have e0 := Option.some.inj hf
    rw [e0] at hP hD
    exact CX_v F hr hlk hP hD hS dX5_add_38
  · replace hf := ite_f hf hc
    refine lv_aload_n hx hb dX5_add_8 rfl (lv_at hl 0 rfl) ?_
    refine va_get (D := D) (ci := 5) (C := RX5) (T := TX5) (N := 3) hx hb F.2.2.2.2 in_X5_add_X5 F.2.2.2.1 hK.1 hP 0 rfl rfl 0 (Nat.le_of_ble_eq_true rfl) (F.2.2.2.2 (.fieldLink RX5 9 "LouderRoom$Wares" "cost" "[I") (List.mem_of_getElem? (i := 2) rfl)) (fun _ h9 => h9) rfl dX5_add_9 ?_
    refine lv_aload_n hx hb dX5_add_12 rfl (lv_at hl 0 rfl) ?_
    refine va_get (D := D) (ci := 5) (C := RX5) (T := TX5) (N := 3) hx hb F.2.2.2.2 in_X5_add_X5 F.2.2.2.1 hK.1 hP 0 rfl rfl 2 (Nat.le_of_ble_eq_true rfl) (F.2.2.2.2 (.fieldLink RX5 18 "LouderRoom$Wares" "count" "I") (List.mem_of_getElem? (i := 1) rfl)) (fun _ h9 => h9) rfl dX5_add_13 ?_
    refine lv_iload_n hx hb dX5_add_16 rfl (lv_at hl 1 rfl) ?_
    obtain ⟨hi, hf⟩ := grd hf
    refine pt_iast (w1 := fl [oX5 ty h0 a0 (sA z0 0 (upd (z0.2 0) (z0.1 2).toNatClampNeg p1))]) F hK.1 hP hD hS 1 0 rfl rfl (inb_in hi) rfl dX5_add_17 (fun H locs hP hD hS => ?_)
    obtain ⟨g1, ex⟩ : ∃ y : Ob, y = (sA z0 0 (upd (z0.2 0) (z0.1 2).toNatClampNeg p1)) := ⟨_, rfl⟩
    replace hf := bnd_at hf ex; rw [← ex] at hP hD; clear ex
    refine lv_aload_n hx hb dX5_add_18 rfl (lv_at hl 0 rfl) ?_
    refine va_get (D := D) (ci := 5) (C := RX5) (T := TX5) (N := 3) hx hb F.2.2.2.2 in_X5_add_X5 F.2.2.2.1 hK.1 hP 0 rfl rfl 1 (Nat.le_of_ble_eq_true rfl) (F.2.2.2.2 (.fieldLink RX5 15 "LouderRoom$Wares" "eaten" "[I") (List.mem_of_getElem? (i := 3) rfl)) (fun _ h9 => h9) rfl dX5_add_19 ?_
    refine lv_aload_n hx hb dX5_add_22 rfl (lv_at hl 0 rfl) ?_
    refine va_get (D := D) (ci := 5) (C := RX5) (T := TX5) (N := 3) hx hb F.2.2.2.2 in_X5_add_X5 F.2.2.2.1 hK.1 hP 0 rfl rfl 2 (Nat.le_of_ble_eq_true rfl) (F.2.2.2.2 (.fieldLink RX5 18 "LouderRoom$Wares" "count" "I") (List.mem_of_getElem? (i := 1) rfl)) (fun _ h9 => h9) rfl dX5_add_23 ?_
    refine lv_iload_n hx hb dX5_add_26 rfl (lv_at hl 2 rfl) ?_
    obtain ⟨hi, hf⟩ := grd hf
    refine pt_iast (w1 := fl [oX5 ty h0 a0 (sA g1 1 (upd (g1.2 1) (g1.1 2).toNatClampNeg p2))]) F hK.1 hP hD hS 2 0 rfl rfl (inb_in hi) rfl dX5_add_27 (fun H locs hP hD hS => ?_)
    obtain ⟨g2, ex⟩ : ∃ y : Ob, y = (sA g1 1 (upd (g1.2 1) (g1.1 2).toNatClampNeg p2)) := ⟨_, rfl⟩
    replace hf := bnd_at hf ex; rw [← ex] at hP hD; clear ex
    refine lv_aload_n hx hb dX5_add_28 rfl (lv_at hl 0 rfl) ?_
    refine lv_dup hx hb dX5_add_29 rfl ?_
    refine va_get (D := D) (ci := 5) (C := RX5) (T := TX5) (N := 3) hx hb F.2.2.2.2 in_X5_add_X5 F.2.2.2.1 hK.1 hP 0 rfl rfl 2 (Nat.le_of_ble_eq_true rfl) (F.2.2.2.2 (.fieldLink RX5 18 "LouderRoom$Wares" "count" "I") (List.mem_of_getElem? (i := 1) rfl)) (fun _ h9 => h9) rfl dX5_add_30 ?_
    refine lv_iconst (v := (1 : Int32)) hx hb dX5_add_33 (by decide) ?_
    refine lv_iadd hx hb dX5_add_34 ?_
    refine pt_put (D := D) (ci := 5) (fty := .int) (C := RX5) (T := TX5) (N := 3) (w1 := fl [oX5 ty h0 a0 (sI g2 2 ((g2.1 2) + (1 : Int32)))]) F in_X5_add_X5 tyX5 tyX5_ok nmX5 hK.1 hP hD hS 0 rfl rfl 2 (Nat.le_of_ble_eq_true rfl) (F.2.2.2.2 (.fieldLink RX5 18 "LouderRoom$Wares" "count" "I") (List.mem_of_getElem? (i := 1) rfl)) (fun _ h9 => h9) rfl (by decide +kernel) rfl rfl (Nat.le_of_ble_eq_true rfl) rfl dX5_add_35 (fun H locs hP hD hS => ?_)
    obtain ⟨g3, ex⟩ : ∃ y : Ob, y = (sI g2 2 ((g2.1 2) + (1 : Int32))) := ⟨_, rfl⟩
    replace hf := bnd_at hf ex; rw [← ex] at hP hD; clear ex
    obtain hf := hf
    have e0 := Option.some.inj hf
    rw [e0] at hP hD
    exact CX_v F hr hlk hP hD hS dX5_add_38
def f_X4_readStuff (z0 : Ob) (z1 : Ob) : Option (Ob × Ob) := (f_X4_readLetter z0 (83 : Int32)).bind (fun g1 => bd2 (f_X4_readDigit g1 (0 : Int32) (9 : Int32)) (fun v2 g3 => bd2 (f_X4_readDigit g3 (1 : Int32) (9 : Int32)) (fun v4 g5 => (if (g5.1 3) = (-9 : Int32) then (f_X5_add z1 v2 v4).bind (fun g6 => some (g5, g6)) else some (g5, z1)))))
abbrev rm_X4_readStuff : Room := { frames := 2, cells := 0, slots := 0, locals := 43 }
theorem hd_X4_readStuff : yX4_readStuff.cls ≠ "java/lang/invoke/MethodHandle" ∧ yX4_readStuff.cls ≠ "java/lang/invoke/VarHandle" ∧ (parseMethodDescriptor yX4_readStuff.desc).map (fun d => d.parameters.length) = some 1 := by decide +kernel
theorem in_X4_readStuff_X4 : ∀ w ∈ wsX40, w ∈ wsX4_readStuff := fun w h => List.mem_cons_of_mem _ (List.mem_append_left _ (List.mem_append_right _ h))
set_option maxHeartbeats 4000000 in
set_option maxRecDepth 100000 in
theorem c_X4_readStuff (l : Launch) (D : va_G) (ty : TY) (h0 : Nat) (a0 : Nat → Nat) (h1 : Nat) (a1 : Nat → Nat) (z0 : Ob) (z1 : Ob) (o0 : Ob) (o1 : Ob) (hf : f_X4_readStuff z0 z1 = some (o0, o1)) (sz : Nat) : CX l yX4_readStuff wsX4_readStuff rm_X4_readStuff ([.ref h0, .ref h1] : List Value) D ty (fl [oX4 ty h0 a0 z0, oX5 ty h1 a1 z1]) sz (qV D (fl [oX4 ty h0 a0 o0, oX5 ty h1 a1 o1])) 0 0 := by
  refine CX_of (cc := cX4_readStuff) (maxL := 4) (ret := none) (C := RX4) (by decide) rfl rfl (Nat.le_of_ble_eq_true rfl) ?_
  intro p e s m below meth c A ls F hr hlk _ hK hP hD hS hA hl
  have hx := F.1
  have hb := F.2.1
  replace hl : lv_has ls 4 [(0, .ref h0), (1, .ref h1)] := hl
  unfold f_X4_readStuff at hf
  refine lv_aload_n hx hb dX4_readStuff_0 rfl (lv_at hl 0 rfl) ?_
  refine lv_bipush (v := (83 : Int32)) hx hb dX4_readStuff_1 (by decide) ?_
  obtain ⟨g1, hv, hf⟩ := obd hf
  have hp1 : List.Perm [oX4 ty h0 a0 z0, oX5 ty h1 a1 z1] ([oX4 ty h0 a0 z0] ++ [oX5 ty h1 a1 z1]) := (List.Perm.refl _)
  refine cv_call (os := [oX4 ty h0 a0 z0, oX5 ty h1 a1 z1]) (oc := [oX4 ty h0 a0 z0]) (oc' := [oX4 ty h0 a0 g1]) (or_ := [oX5 ty h1 a1 z1]) (os' := [oX4 ty h0 a0 g1, oX5 ty h1 a1 z1]) (va_runV (As := [.int (83 : Int32)]) (rest := []) F (c_X4_readLetter l D ty h0 a0 _ _ _ hv _) (cwV 1 F.2.2.2.2 gX4_readStuff_X4_readLetter rfl rfl rfl ⟨rfl, hd_X4_readLetter⟩ ⟨Nat.le_of_ble_eq_true rfl, Nat.le_of_ble_eq_true rfl⟩) (pre_v hK hP hD hp1 rfl rfl rfl) rfl rfl hl.1 rfl (lv_room (Nat.le_of_ble_eq_true rfl)) dX4_readStuff_3 ⟨Nat.zero_le _, Nat.zero_le _⟩) hp1 (List.Perm.refl _) hP hD hS hA (fun H locs hP hD hS => ?_)
  clear hp1 hv
  refine lv_aload_n hx hb dX4_readStuff_6 rfl (lv_at hl 0 rfl) ?_
  refine lv_iconst (v := (0 : Int32)) hx hb dX4_readStuff_7 (by decide) ?_
  refine lv_bipush (v := (9 : Int32)) hx hb dX4_readStuff_8 (by decide) ?_
  obtain ⟨v2, g3, hv, hf⟩ := obd2 hf
  have hp1 : List.Perm [oX4 ty h0 a0 g1, oX5 ty h1 a1 z1] ([oX4 ty h0 a0 g1] ++ [oX5 ty h1 a1 z1]) := (List.Perm.refl _)
  refine ci_call (out := v2) (os := [oX4 ty h0 a0 g1, oX5 ty h1 a1 z1]) (oc := [oX4 ty h0 a0 g1]) (oc' := [oX4 ty h0 a0 g3]) (or_ := [oX5 ty h1 a1 z1]) (os' := [oX4 ty h0 a0 g3, oX5 ty h1 a1 z1]) (va_runV (As := [.int (0 : Int32), .int (9 : Int32)]) (rest := []) F (c_X4_readDigit l D ty h0 a0 _ _ _ _ _ hv _) (cwV 2 F.2.2.2.2 gX4_readStuff_X4_readDigit rfl rfl rfl ⟨rfl, hd_X4_readDigit⟩ ⟨Nat.le_of_ble_eq_true rfl, Nat.le_of_ble_eq_true rfl⟩) (pre_v hK hP hD hp1 rfl rfl rfl) rfl rfl hl.1 rfl (lv_room (Nat.le_of_ble_eq_true rfl)) dX4_readStuff_10 ⟨Nat.zero_le _, Nat.zero_le _⟩) hp1 (List.Perm.refl _) hP hD hS hA (fun H locs hP hD hS => ?_)
  clear hp1 hv
  refine lv_istore_n (lv' := [(2, .int v2), (0, .ref h0), (1, .ref h1)]) hx hb dX4_readStuff_13 rfl hl (by decide) rfl (fun ls hl => ?_)
  refine lv_aload_n hx hb dX4_readStuff_14 rfl (lv_at hl 1 rfl) ?_
  refine lv_iconst (v := (1 : Int32)) hx hb dX4_readStuff_15 (by decide) ?_
  refine lv_bipush (v := (9 : Int32)) hx hb dX4_readStuff_16 (by decide) ?_
  obtain ⟨v4, g5, hv, hf⟩ := obd2 hf
  have hp1 : List.Perm [oX4 ty h0 a0 g3, oX5 ty h1 a1 z1] ([oX4 ty h0 a0 g3] ++ [oX5 ty h1 a1 z1]) := (List.Perm.refl _)
  refine ci_call (out := v4) (os := [oX4 ty h0 a0 g3, oX5 ty h1 a1 z1]) (oc := [oX4 ty h0 a0 g3]) (oc' := [oX4 ty h0 a0 g5]) (or_ := [oX5 ty h1 a1 z1]) (os' := [oX4 ty h0 a0 g5, oX5 ty h1 a1 z1]) (va_runV (As := [.int (1 : Int32), .int (9 : Int32)]) (rest := []) F (c_X4_readDigit l D ty h0 a0 _ _ _ _ _ hv _) (cwV 2 F.2.2.2.2 gX4_readStuff_X4_readDigit rfl rfl rfl ⟨rfl, hd_X4_readDigit⟩ ⟨Nat.le_of_ble_eq_true rfl, Nat.le_of_ble_eq_true rfl⟩) (pre_v hK hP hD hp1 rfl rfl rfl) rfl rfl hl.1 rfl (lv_room (Nat.le_of_ble_eq_true rfl)) dX4_readStuff_18 ⟨Nat.zero_le _, Nat.zero_le _⟩) hp1 (List.Perm.refl _) hP hD hS hA (fun H locs hP hD hS => ?_)
  clear hp1 hv
  refine lv_istore_n (lv' := [(3, .int v4), (2, .int v2), (0, .ref h0), (1, .ref h1)]) hx hb dX4_readStuff_21 rfl hl (by decide) rfl (fun ls hl => ?_)
  refine lv_aload_n hx hb dX4_readStuff_22 rfl (lv_at hl 2 rfl) ?_
  refine va_get (D := D) (ci := 4) (C := RX4) (T := TX4) (N := 4) hx hb F.2.2.2.2 in_X4_readStuff_X4 F.2.2.2.1 hK.1 hP 0 rfl rfl 3 (Nat.le_of_ble_eq_true rfl) (F.2.2.2.2 (.fieldLink RX4 15 "LouderRoom$Told" "wrong" "I") (List.mem_of_getElem? (i := 1) rfl)) (fun _ h9 => h9) rfl dX4_readStuff_23 ?_
  refine lv_bipush (v := (-9 : Int32)) hx hb dX4_readStuff_26 (by decide) ?_
  refine lv_icmp_ne (tgt := 37) hx hb dX4_readStuff_28 (by decide) (fun hc => ?_) (fun hc => ?_)
  · replace hf := ite_f hf hc
    obtain hf := hf
    obtain ⟨e0, e1⟩ := tup2 hf
    rw [e0] at hP hD
    rw [e1] at hP hD
    exact CX_v F hr hlk hP hD hS dX4_readStuff_37
  · replace hf := ite_t hf hc
    refine lv_aload_n hx hb dX4_readStuff_31 rfl (lv_at hl 3 rfl) ?_
    refine lv_iload_n hx hb dX4_readStuff_32 rfl (lv_at hl 1 rfl) ?_
    refine lv_iload_n hx hb dX4_readStuff_33 rfl (lv_at hl 0 rfl) ?_
    obtain ⟨g6, hv, hf⟩ := obd hf
    have hp1 : List.Perm [oX4 ty h0 a0 g5, oX5 ty h1 a1 z1] ([oX5 ty h1 a1 z1] ++ [oX4 ty h0 a0 g5]) := ((List.perm_middle (a := (oX5 ty h1 a1 z1 : va_W)) (l₁ := ([oX4 ty h0 a0 g5] : List va_W)) (l₂ := ([] : List va_W))) : List.Perm ([oX4 ty h0 a0 g5, oX5 ty h1 a1 z1] : List va_W) ([oX5 ty h1 a1 z1, oX4 ty h0 a0 g5] : List va_W))
    refine cv_call (os := [oX4 ty h0 a0 g5, oX5 ty h1 a1 z1]) (oc := [oX5 ty h1 a1 z1]) (oc' := [oX5 ty h1 a1 g6]) (or_ := [oX4 ty h0 a0 g5]) (os' := [oX4 ty h0 a0 g5, oX5 ty h1 a1 g6]) (va_runV (As := [.int v2, .int v4]) (rest := []) F (c_X5_add l D ty h1 a1 _ _ _ _ hv _) (cwV 2 F.2.2.2.2 gX4_readStuff_X5_add rfl rfl rfl ⟨rfl, hd_X5_add⟩ ⟨Nat.le_of_ble_eq_true rfl, Nat.le_of_ble_eq_true rfl⟩) (pre_v hK hP hD hp1 rfl rfl rfl) rfl rfl hl.1 rfl (lv_room (Nat.le_of_ble_eq_true rfl)) dX4_readStuff_34 ⟨Nat.zero_le _, Nat.zero_le _⟩) hp1 ((List.perm_middle (a := (oX4 ty h0 a0 g5 : va_W)) (l₁ := ([oX5 ty h1 a1 g6] : List va_W)) (l₂ := ([] : List va_W))) : List.Perm ([oX5 ty h1 a1 g6, oX4 ty h0 a0 g5] : List va_W) ([oX4 ty h0 a0 g5, oX5 ty h1 a1 g6] : List va_W)) hP hD hS hA (fun H locs hP hD hS => ?_)
    clear hp1 hv
    obtain hf := hf
    obtain ⟨e0, e1⟩ := tup2 hf
    rw [e0] at hP hD
    rw [e1] at hP hD
    exact CX_v F hr hlk hP hD hS dX4_readStuff_37
def j_X4_readPart_50 (w0 : Ob) (w1 : Ob) (w2 : Ob) : Option (Ob × Ob × Ob) := bnd (sI w0 3 (w0.1 2)) (fun g1 => some (g1, w1, w2))
def j_X4_readPart_28 (y3 : Int32) (w0 : Ob) (w1 : Ob) (w2 : Ob) : Option (Ob × Ob × Ob) := (if y3 = (83 : Int32) then (if (5 : Int32) ≤ (w2.1 2) then j_X4_readPart_50 w0 w1 w2 else bd2 (f_X4_readStuff w0 w2) (fun g2 g3 => some (g2, w1, g3))) else j_X4_readPart_50 w0 w1 w2)
def f_X4_readPart (z0 : Ob) (z1 : Ob) (z2 : Ob) : Option (Ob × Ob × Ob) := (f_X4_byteHere z0).bind (fun v4 => (if v4 = (71 : Int32) then (if (8 : Int32) ≤ (z1.1 6) then j_X4_readPart_28 v4 z0 z1 z2 else bd2 (f_X4_readRing z0 z1) (fun g5 g6 => some (g5, g6, z2))) else j_X4_readPart_28 v4 z0 z1 z2))
abbrev rm_X4_readPart : Room := { frames := 3, cells := 0, slots := 0, locals := 71 }
theorem hd_X4_readPart : yX4_readPart.cls ≠ "java/lang/invoke/MethodHandle" ∧ yX4_readPart.cls ≠ "java/lang/invoke/VarHandle" ∧ (parseMethodDescriptor yX4_readPart.desc).map (fun d => d.parameters.length) = some 2 := by decide +kernel
theorem in_X4_readPart_X4 : ∀ w ∈ wsX40, w ∈ wsX4_readPart := fun w h => List.mem_cons_of_mem _ (List.mem_append_right _ h)
theorem in_X4_readPart_X5 : ∀ w ∈ wsX50, w ∈ wsX4_readPart := fun w h => List.mem_cons_of_mem _ (List.mem_append_left _ (List.mem_append_right _ h))
theorem in_X4_readPart_X1 : ∀ w ∈ wsX10, w ∈ wsX4_readPart := fun w h => List.mem_cons_of_mem _ (List.mem_append_left _ (List.mem_append_left _ (List.mem_append_right _ h)))
set_option maxHeartbeats 4000000 in
set_option maxRecDepth 100000 in
theorem c_X4_readPart (l : Launch) (D : va_G) (ty : TY) (h0 : Nat) (a0 : Nat → Nat) (h1 : Nat) (a1 : Nat → Nat) (h2 : Nat) (a2 : Nat → Nat) (z0 : Ob) (z1 : Ob) (z2 : Ob) (o0 : Ob) (o1 : Ob) (o2 : Ob) (hf : f_X4_readPart z0 z1 z2 = some (o0, o1, o2)) (sz : Nat) : CX l yX4_readPart wsX4_readPart rm_X4_readPart ([.ref h0, .ref h1, .ref h2] : List Value) D ty (fl [oX4 ty h0 a0 z0, oX1 ty h1 a1 z1, oX5 ty h2 a2 z2]) sz (qV D (fl [oX4 ty h0 a0 o0, oX1 ty h1 a1 o1, oX5 ty h2 a2 o2])) 0 0 := by
  refine CX_of (cc := cX4_readPart) (maxL := 4) (ret := none) (C := RX4) (by decide) rfl rfl (Nat.le_of_ble_eq_true rfl) ?_
  intro p e s m below meth c A ls F hr hlk _ hK hP hD hS hA hl
  have hx := F.1
  have hb := F.2.1
  replace hl : lv_has ls 4 [(0, .ref h0), (1, .ref h1), (2, .ref h2)] := hl
  unfold f_X4_readPart at hf
  have J_50 : ∀ (w0 : Ob) (w1 : Ob) (w2 : Ob) (H : Heap) (locs : List Loc) (ls : Array Slot), va_P D vwC (fl [oX4 ty h0 a0 w0, oX1 ty h1 a1 w1, oX5 ty h2 a2 w2]) H → va_D A (fl [oX4 ty h0 a0 w0, oX1 ty h1 a1 w1, oX5 ty h2 a2 w2]) → va_S A s.heap H locs → lv_has ls 4 [(0, .ref h0)] → j_X4_readPart_50 w0 w1 w2 = some (o0, o1, o2) → W p l e rm_X4_readPart s m ([.ref h0, .ref h1, .ref h2] : List Value).toArray below meth c H locs 0 0 (MQ below (qV D (fl [oX4 ty h0 a0 o0, oX1 ty h1 a1 o1, oX5 ty h2 a2 o2]) A) ([.ref h0, .ref h1, .ref h2] : List Value).toArray s 0 0 A) (F0 m 50 ls []) := by
    intro w0 w1 w2 H locs ls hP hD hS hl hf
    unfold j_X4_readPart_50 at hf
    refine lv_aload_n hx hb dX4_readPart_50 rfl (lv_at hl 0 rfl) ?_
    refine lv_aload_n hx hb dX4_readPart_51 rfl (lv_at hl 0 rfl) ?_
    refine va_get (D := D) (ci := 4) (C := RX4) (T := TX4) (N := 4) hx hb F.2.2.2.2 in_X4_readPart_X4 F.2.2.2.1 hK.1 hP 0 rfl rfl 2 (Nat.le_of_ble_eq_true rfl) (F.2.2.2.2 (.fieldLink RX4 22 "LouderRoom$Told" "at" "I") (List.mem_of_getElem? (i := 1) rfl)) (fun _ h9 => h9) rfl dX4_readPart_52 ?_
    refine pt_put (D := D) (ci := 4) (fty := .int) (C := RX4) (T := TX4) (N := 4) (w1 := fl [oX4 ty h0 a0 (sI w0 3 (w0.1 2)), oX1 ty h1 a1 w1, oX5 ty h2 a2 w2]) F in_X4_readPart_X4 tyX4 tyX4_ok nmX4 hK.1 hP hD hS 0 rfl rfl 3 (Nat.le_of_ble_eq_true rfl) (F.2.2.2.2 (.fieldLink RX4 15 "LouderRoom$Told" "wrong" "I") (List.mem_of_getElem? (i := 2) rfl)) (fun _ h9 => h9) rfl (by decide +kernel) rfl rfl (Nat.le_of_ble_eq_true rfl) rfl dX4_readPart_55 (fun H locs hP hD hS => ?_)
    obtain ⟨g1, ex⟩ : ∃ y : Ob, y = (sI w0 3 (w0.1 2)) := ⟨_, rfl⟩
    replace hf := bnd_at hf ex; rw [← ex] at hP hD; clear ex
    obtain hf := hf
    obtain ⟨e0, e1, e2⟩ := tup3 hf
    rw [e0] at hP hD
    rw [e1] at hP hD
    rw [e2] at hP hD
    exact CX_v F hr hlk hP hD hS dX4_readPart_58
  have J_28 : ∀ (y3 : Int32) (w0 : Ob) (w1 : Ob) (w2 : Ob) (H : Heap) (locs : List Loc) (ls : Array Slot), va_P D vwC (fl [oX4 ty h0 a0 w0, oX1 ty h1 a1 w1, oX5 ty h2 a2 w2]) H → va_D A (fl [oX4 ty h0 a0 w0, oX1 ty h1 a1 w1, oX5 ty h2 a2 w2]) → va_S A s.heap H locs → lv_has ls 4 [(0, .ref h0), (2, .ref h2), (3, .int y3)] → j_X4_readPart_28 y3 w0 w1 w2 = some (o0, o1, o2) → W p l e rm_X4_readPart s m ([.ref h0, .ref h1, .ref h2] : List Value).toArray below meth c H locs 0 0 (MQ below (qV D (fl [oX4 ty h0 a0 o0, oX1 ty h1 a1 o1, oX5 ty h2 a2 o2]) A) ([.ref h0, .ref h1, .ref h2] : List Value).toArray s 0 0 A) (F0 m 28 ls []) := by
    intro y3 w0 w1 w2 H locs ls hP hD hS hl hf
    unfold j_X4_readPart_28 at hf
    refine lv_iload_n hx hb dX4_readPart_28 rfl (lv_at hl 2 rfl) ?_
    refine lv_bipush (v := (83 : Int32)) hx hb dX4_readPart_29 (by decide) ?_
    refine lv_icmp_ne (tgt := 50) hx hb dX4_readPart_31 (by decide) (fun hc => ?_) (fun hc => ?_)
    · replace hf := ite_f hf hc
      exact J_50 w0 w1 w2 _ _ _ hP hD hS (lv_sub hl [0] rfl) hf
    · replace hf := ite_t hf hc
      refine lv_aload_n hx hb dX4_readPart_34 rfl (lv_at hl 1 rfl) ?_
      refine va_getN (D := D) (ci := 5) (C := RX5) (T := TX5) (N := 3) hx hb F.2.2.2.2 in_X4_readPart_X5 F.2.2.2.1 hK.1 hP 9 rfl rfl 2 (Nat.le_of_ble_eq_true rfl) (KN.use hK 19 (w := .fieldLinkNest RX4 62 "LouderRoom$Wares" "count" "I" "LouderRoom") rfl _) (fun _ h9 => h9) rfl dX4_readPart_35 ?_
      refine lv_iconst (v := (5 : Int32)) hx hb dX4_readPart_38 (by decide) ?_
      refine lv_icmp_ge (tgt := 50) hx hb dX4_readPart_39 (by decide) (fun hc => ?_) (fun hc => ?_)
      · replace hf := ite_t hf hc
        exact J_50 w0 w1 w2 _ _ _ hP hD hS (lv_sub hl [0] rfl) hf
      · replace hf := ite_f hf hc
        refine lv_aload_n hx hb dX4_readPart_42 rfl (lv_at hl 0 rfl) ?_
        refine lv_aload_n hx hb dX4_readPart_43 rfl (lv_at hl 1 rfl) ?_
        obtain ⟨g2, g3, hv, hf⟩ := obd2 hf
        have hp1 : List.Perm [oX4 ty h0 a0 w0, oX1 ty h1 a1 w1, oX5 ty h2 a2 w2] ([oX4 ty h0 a0 w0, oX5 ty h2 a2 w2] ++ [oX1 ty h1 a1 w1]) := ((List.Perm.cons _ (List.perm_middle (a := (oX5 ty h2 a2 w2 : va_W)) (l₁ := ([oX1 ty h1 a1 w1] : List va_W)) (l₂ := ([] : List va_W)))) : List.Perm ([oX4 ty h0 a0 w0, oX1 ty h1 a1 w1, oX5 ty h2 a2 w2] : List va_W) ([oX4 ty h0 a0 w0, oX5 ty h2 a2 w2, oX1 ty h1 a1 w1] : List va_W))
        refine cv_call (os := [oX4 ty h0 a0 w0, oX1 ty h1 a1 w1, oX5 ty h2 a2 w2]) (oc := [oX4 ty h0 a0 w0, oX5 ty h2 a2 w2]) (oc' := [oX4 ty h0 a0 g2, oX5 ty h2 a2 g3]) (or_ := [oX1 ty h1 a1 w1]) (os' := [oX4 ty h0 a0 g2, oX1 ty h1 a1 w1, oX5 ty h2 a2 g3]) (va_runV (As := [.ref h2]) (rest := []) F (c_X4_readStuff l D ty h0 a0 h2 a2 _ _ _ _ hv _) (cwV 1 F.2.2.2.2 gX4_readPart_X4_readStuff rfl rfl rfl ⟨rfl, hd_X4_readStuff⟩ ⟨Nat.le_of_ble_eq_true rfl, Nat.le_of_ble_eq_true rfl⟩) (pre_v hK hP hD hp1 rfl rfl rfl) rfl rfl hl.1 rfl (lv_room (Nat.le_of_ble_eq_true rfl)) dX4_readPart_44 ⟨Nat.zero_le _, Nat.zero_le _⟩) hp1 ((List.Perm.cons _ (List.perm_middle (a := (oX1 ty h1 a1 w1 : va_W)) (l₁ := ([oX5 ty h2 a2 g3] : List va_W)) (l₂ := ([] : List va_W)))) : List.Perm ([oX4 ty h0 a0 g2, oX5 ty h2 a2 g3, oX1 ty h1 a1 w1] : List va_W) ([oX4 ty h0 a0 g2, oX1 ty h1 a1 w1, oX5 ty h2 a2 g3] : List va_W)) hP hD hS hA (fun H locs hP hD hS => ?_)
        clear hp1 hv
        refine lv_goto (tgt := 58) hx hb dX4_readPart_47 (by decide) ?_
        obtain hf := hf
        obtain ⟨e0, e1, e2⟩ := tup3 hf
        rw [e0] at hP hD
        rw [e1] at hP hD
        rw [e2] at hP hD
        exact CX_v F hr hlk hP hD hS dX4_readPart_58
  refine lv_aload_n hx hb dX4_readPart_0 rfl (lv_at hl 0 rfl) ?_
  obtain ⟨v4, hv, hf⟩ := obd hf
  have hp1 : List.Perm [oX4 ty h0 a0 z0, oX1 ty h1 a1 z1, oX5 ty h2 a2 z2] ([oX4 ty h0 a0 z0] ++ [oX1 ty h1 a1 z1, oX5 ty h2 a2 z2]) := (List.Perm.refl _)
  refine ci_call (out := v4) (os := [oX4 ty h0 a0 z0, oX1 ty h1 a1 z1, oX5 ty h2 a2 z2]) (oc := [oX4 ty h0 a0 z0]) (oc' := [oX4 ty h0 a0 z0]) (or_ := [oX1 ty h1 a1 z1, oX5 ty h2 a2 z2]) (os' := [oX4 ty h0 a0 z0, oX1 ty h1 a1 z1, oX5 ty h2 a2 z2]) (va_runV (As := []) (rest := []) F (c_X4_byteHere l D ty h0 a0 _ _ hv _) (cwV 0 F.2.2.2.2 gX4_readPart_X4_byteHere rfl rfl rfl ⟨rfl, hd_X4_byteHere⟩ ⟨Nat.le_of_ble_eq_true rfl, Nat.le_of_ble_eq_true rfl⟩) (pre_v hK hP hD hp1 rfl rfl rfl) rfl rfl hl.1 rfl (lv_room (Nat.le_of_ble_eq_true rfl)) dX4_readPart_1 ⟨Nat.zero_le _, Nat.zero_le _⟩) hp1 (List.Perm.refl _) hP hD hS hA (fun H locs hP hD hS => ?_)
  clear hp1 hv
  refine lv_istore_n (lv' := [(3, .int v4), (0, .ref h0), (1, .ref h1), (2, .ref h2)]) hx hb dX4_readPart_4 rfl hl (by decide) rfl (fun ls hl => ?_)
  refine lv_iload_n hx hb dX4_readPart_5 rfl (lv_at hl 0 rfl) ?_
  refine lv_bipush (v := (71 : Int32)) hx hb dX4_readPart_6 (by decide) ?_
  refine lv_icmp_ne (tgt := 28) hx hb dX4_readPart_8 (by decide) (fun hc => ?_) (fun hc => ?_)
  · replace hf := ite_f hf hc
    exact J_28 v4 z0 z1 z2 _ _ _ hP hD hS (lv_sub hl [1, 3, 0] rfl) hf
  · replace hf := ite_t hf hc
    refine lv_aload_n hx hb dX4_readPart_11 rfl (lv_at hl 2 rfl) ?_
    refine va_getN (D := D) (ci := 1) (C := RX1) (T := TX1) (N := 12) hx hb F.2.2.2.2 in_X4_readPart_X1 F.2.2.2.1 hK.1 hP 2 rfl rfl 6 (Nat.le_of_ble_eq_true rfl) (KN.use hK 8 (w := .fieldLinkNest RX4 55 "LouderRoom$Crowd" "rings" "I" "LouderRoom") rfl _) (fun _ h9 => h9) rfl dX4_readPart_12 ?_
    refine lv_bipush (v := (8 : Int32)) hx hb dX4_readPart_15 (by decide) ?_
    refine lv_icmp_ge (tgt := 28) hx hb dX4_readPart_17 (by decide) (fun hc => ?_) (fun hc => ?_)
    · replace hf := ite_t hf hc
      exact J_28 v4 z0 z1 z2 _ _ _ hP hD hS (lv_sub hl [1, 3, 0] rfl) hf
    · replace hf := ite_f hf hc
      refine lv_aload_n hx hb dX4_readPart_20 rfl (lv_at hl 1 rfl) ?_
      refine lv_aload_n hx hb dX4_readPart_21 rfl (lv_at hl 2 rfl) ?_
      obtain ⟨g5, g6, hv, hf⟩ := obd2 hf
      have hp1 : List.Perm [oX4 ty h0 a0 z0, oX1 ty h1 a1 z1, oX5 ty h2 a2 z2] ([oX4 ty h0 a0 z0, oX1 ty h1 a1 z1] ++ [oX5 ty h2 a2 z2]) := (List.Perm.refl _)
      refine cv_call (os := [oX4 ty h0 a0 z0, oX1 ty h1 a1 z1, oX5 ty h2 a2 z2]) (oc := [oX4 ty h0 a0 z0, oX1 ty h1 a1 z1]) (oc' := [oX4 ty h0 a0 g5, oX1 ty h1 a1 g6]) (or_ := [oX5 ty h2 a2 z2]) (os' := [oX4 ty h0 a0 g5, oX1 ty h1 a1 g6, oX5 ty h2 a2 z2]) (va_runV (As := [.ref h1]) (rest := []) F (c_X4_readRing l D ty h0 a0 h1 a1 _ _ _ _ hv _) (cwV 1 F.2.2.2.2 gX4_readPart_X4_readRing rfl rfl rfl ⟨rfl, hd_X4_readRing⟩ ⟨Nat.le_of_ble_eq_true rfl, Nat.le_of_ble_eq_true rfl⟩) (pre_v hK hP hD hp1 rfl rfl rfl) rfl rfl hl.1 rfl (lv_room (Nat.le_of_ble_eq_true rfl)) dX4_readPart_22 ⟨Nat.zero_le _, Nat.zero_le _⟩) hp1 (List.Perm.refl _) hP hD hS hA (fun H locs hP hD hS => ?_)
      clear hp1 hv
      refine lv_goto (tgt := 58) hx hb dX4_readPart_25 (by decide) ?_
      obtain hf := hf
      obtain ⟨e0, e1, e2⟩ := tup3 hf
      rw [e0] at hP hD
      rw [e1] at hP hD
      rw [e2] at hP hD
      exact CX_v F hr hlk hP hD hS dX4_readPart_58
def j_X4_read_87 (w0 : Ob) (w1 : Ob) (w2 : Ob) : Option (Int32 × Ob × Ob × Ob) := some ((w0.1 3), w0, w1, w2)
def b_X4_read_49 (r_49 : Int32 → Ob → Ob → Ob → Option (Int32 × Ob × Ob × Ob)) (y3 : Int32) (w0 : Ob) (w1 : Ob) (w2 : Ob) : Option (Int32 × Ob × Ob × Ob) := (if (80 : Int32) ≤ y3 then j_X4_read_87 w0 w1 w2 else (if (w0.1 3) = (-9 : Int32) then (if (w0.1 1) ≤ (w0.1 2) then j_X4_read_87 w0 w1 w2 else bd3 (f_X4_readPart w0 w1 w2) (fun g12 g13 g14 => bnd (y3 + (1 : Int32)) (fun x15 => r_49 x15 g12 g13 g14))) else j_X4_read_87 w0 w1 w2))
def f_X4_read (z0 : Ob) (z1 : Ob) (z2 : Ob) : Option (Int32 × Ob × Ob × Ob) := bnd (sI z0 2 (0 : Int32)) (fun g1 => bnd (sI g1 3 (-9 : Int32)) (fun g2 => (f_X1_clear z1).bind (fun g3 => (f_X5_clear z2).bind (fun g4 => (f_X4_readLetter g2 (82 : Int32)).bind (fun g5 => bd2 (f_X4_readDigit g5 (0 : Int32) (9 : Int32)) (fun v6 g7 => bnd (sI g3 7 v6) (fun g8 => bd2 (f_X4_readDigit g7 (0 : Int32) (9 : Int32)) (fun v9 g10 => bnd (sI g8 8 v9) (fun g11 => fuel4 (b_X4_read_49) FU (0 : Int32) g10 g11 g4)))))))))
abbrev rm_X4_read : Room := { frames := 4, cells := 0, slots := 0, locals := 94 }
theorem hd_X4_read : yX4_read.cls ≠ "java/lang/invoke/MethodHandle" ∧ yX4_read.cls ≠ "java/lang/invoke/VarHandle" ∧ (parseMethodDescriptor yX4_read.desc).map (fun d => d.parameters.length) = some 2 := by decide +kernel
theorem in_X4_read_X4 : ∀ w ∈ wsX40, w ∈ wsX4_read := fun w h => List.mem_cons_of_mem _ (List.mem_append_left _ (List.mem_append_left _ (List.mem_append_right _ h)))
theorem in_X4_read_X1 : ∀ w ∈ wsX10, w ∈ wsX4_read := fun w h => List.mem_cons_of_mem _ (List.mem_append_left _ (List.mem_append_right _ h))
set_option maxHeartbeats 4000000 in
set_option maxRecDepth 100000 in
theorem c_X4_read (l : Launch) (D : va_G) (ty : TY) (h0 : Nat) (a0 : Nat → Nat) (h1 : Nat) (a1 : Nat → Nat) (h2 : Nat) (a2 : Nat → Nat) (z0 : Ob) (z1 : Ob) (z2 : Ob) (o0 : Int32) (o1 : Ob) (o2 : Ob) (o3 : Ob) (hf : f_X4_read z0 z1 z2 = some (o0, o1, o2, o3)) (sz : Nat) : CX l yX4_read wsX4_read rm_X4_read ([.ref h0, .ref h1, .ref h2] : List Value) D ty (fl [oX4 ty h0 a0 z0, oX1 ty h1 a1 z1, oX5 ty h2 a2 z2]) sz (qI D o0 (fl [oX4 ty h0 a0 o1, oX1 ty h1 a1 o2, oX5 ty h2 a2 o3])) 0 0 := by
  refine CX_of (cc := cX4_read) (maxL := 4) (ret := (some .int)) (C := RX4) (by decide) rfl rfl (Nat.le_of_ble_eq_true rfl) ?_
  intro p e s m below meth c A ls F hr hlk _ hK hP hD hS hA hl
  have hx := F.1
  have hb := F.2.1
  replace hl : lv_has ls 4 [(0, .ref h0), (1, .ref h1), (2, .ref h2)] := hl
  unfold f_X4_read at hf
  have J_87 : ∀ (w0 : Ob) (w1 : Ob) (w2 : Ob) (H : Heap) (locs : List Loc) (ls : Array Slot), va_P D vwC (fl [oX4 ty h0 a0 w0, oX1 ty h1 a1 w1, oX5 ty h2 a2 w2]) H → va_D A (fl [oX4 ty h0 a0 w0, oX1 ty h1 a1 w1, oX5 ty h2 a2 w2]) → va_S A s.heap H locs → lv_has ls 4 [(0, .ref h0)] → j_X4_read_87 w0 w1 w2 = some (o0, o1, o2, o3) → W p l e rm_X4_read s m ([.ref h0, .ref h1, .ref h2] : List Value).toArray below meth c H locs 0 0 (MQ below (qI D o0 (fl [oX4 ty h0 a0 o1, oX1 ty h1 a1 o2, oX5 ty h2 a2 o3]) A) ([.ref h0, .ref h1, .ref h2] : List Value).toArray s 0 0 A) (F0 m 87 ls []) := by
    intro w0 w1 w2 H locs ls hP hD hS hl hf
    unfold j_X4_read_87 at hf
    refine lv_aload_n hx hb dX4_read_87 rfl (lv_at hl 0 rfl) ?_
    refine va_get (D := D) (ci := 4) (C := RX4) (T := TX4) (N := 4) hx hb F.2.2.2.2 in_X4_read_X4 F.2.2.2.1 hK.1 hP 0 rfl rfl 3 (Nat.le_of_ble_eq_true rfl) (F.2.2.2.2 (.fieldLink RX4 15 "LouderRoom$Told" "wrong" "I") (List.mem_of_getElem? (i := 2) rfl)) (fun _ h9 => h9) rfl dX4_read_88 ?_
    obtain hf := hf
    obtain ⟨e0, e1, e2, e3⟩ := tup4 hf
    rw [e1] at hP hD
    rw [e2] at hP hD
    rw [e3] at hP hD
    exact CX_i F hr hlk hP hD hS e0 dX4_read_91
  refine lv_aload_n hx hb dX4_read_0 rfl (lv_at hl 0 rfl) ?_
  refine lv_iconst (v := (0 : Int32)) hx hb dX4_read_1 (by decide) ?_
  refine pt_put (D := D) (ci := 4) (fty := .int) (C := RX4) (T := TX4) (N := 4) (w1 := fl [oX4 ty h0 a0 (sI z0 2 (0 : Int32)), oX1 ty h1 a1 z1, oX5 ty h2 a2 z2]) F in_X4_read_X4 tyX4 tyX4_ok nmX4 hK.1 hP hD hS 0 rfl rfl 2 (Nat.le_of_ble_eq_true rfl) (F.2.2.2.2 (.fieldLink RX4 22 "LouderRoom$Told" "at" "I") (List.mem_of_getElem? (i := 1) rfl)) (fun _ h9 => h9) rfl (by decide +kernel) rfl rfl (Nat.le_of_ble_eq_true rfl) rfl dX4_read_2 (fun H locs hP hD hS => ?_)
  obtain ⟨g1, ex⟩ : ∃ y : Ob, y = (sI z0 2 (0 : Int32)) := ⟨_, rfl⟩
  replace hf := bnd_at hf ex; rw [← ex] at hP hD; clear ex
  refine lv_aload_n hx hb dX4_read_5 rfl (lv_at hl 0 rfl) ?_
  refine lv_bipush (v := (-9 : Int32)) hx hb dX4_read_6 (by decide) ?_
  refine pt_put (D := D) (ci := 4) (fty := .int) (C := RX4) (T := TX4) (N := 4) (w1 := fl [oX4 ty h0 a0 (sI g1 3 (-9 : Int32)), oX1 ty h1 a1 z1, oX5 ty h2 a2 z2]) F in_X4_read_X4 tyX4 tyX4_ok nmX4 hK.1 hP hD hS 0 rfl rfl 3 (Nat.le_of_ble_eq_true rfl) (F.2.2.2.2 (.fieldLink RX4 15 "LouderRoom$Told" "wrong" "I") (List.mem_of_getElem? (i := 2) rfl)) (fun _ h9 => h9) rfl (by decide +kernel) rfl rfl (Nat.le_of_ble_eq_true rfl) rfl dX4_read_8 (fun H locs hP hD hS => ?_)
  obtain ⟨g2, ex⟩ : ∃ y : Ob, y = (sI g1 3 (-9 : Int32)) := ⟨_, rfl⟩
  replace hf := bnd_at hf ex; rw [← ex] at hP hD; clear ex
  refine lv_aload_n hx hb dX4_read_11 rfl (lv_at hl 1 rfl) ?_
  obtain ⟨g3, hv, hf⟩ := obd hf
  have hp1 : List.Perm [oX4 ty h0 a0 g2, oX1 ty h1 a1 z1, oX5 ty h2 a2 z2] ([oX1 ty h1 a1 z1] ++ [oX4 ty h0 a0 g2, oX5 ty h2 a2 z2]) := ((List.perm_middle (a := (oX1 ty h1 a1 z1 : va_W)) (l₁ := ([oX4 ty h0 a0 g2] : List va_W)) (l₂ := ([oX5 ty h2 a2 z2] : List va_W))) : List.Perm ([oX4 ty h0 a0 g2, oX1 ty h1 a1 z1, oX5 ty h2 a2 z2] : List va_W) ([oX1 ty h1 a1 z1, oX4 ty h0 a0 g2, oX5 ty h2 a2 z2] : List va_W))
  refine cv_call (os := [oX4 ty h0 a0 g2, oX1 ty h1 a1 z1, oX5 ty h2 a2 z2]) (oc := [oX1 ty h1 a1 z1]) (oc' := [oX1 ty h1 a1 g3]) (or_ := [oX4 ty h0 a0 g2, oX5 ty h2 a2 z2]) (os' := [oX4 ty h0 a0 g2, oX1 ty h1 a1 g3, oX5 ty h2 a2 z2]) (va_runV (As := []) (rest := []) F (c_X1_clear l D ty h1 a1 _ _ hv _) (cwV 0 F.2.2.2.2 gX4_read_X1_clear rfl rfl rfl ⟨rfl, hd_X1_clear⟩ ⟨Nat.le_of_ble_eq_true rfl, Nat.le_of_ble_eq_true rfl⟩) (pre_v hK hP hD hp1 rfl rfl rfl) rfl rfl hl.1 rfl (lv_room (Nat.le_of_ble_eq_true rfl)) dX4_read_12 ⟨Nat.zero_le _, Nat.zero_le _⟩) hp1 ((List.perm_middle (a := (oX4 ty h0 a0 g2 : va_W)) (l₁ := ([oX1 ty h1 a1 g3] : List va_W)) (l₂ := ([oX5 ty h2 a2 z2] : List va_W))) : List.Perm ([oX1 ty h1 a1 g3, oX4 ty h0 a0 g2, oX5 ty h2 a2 z2] : List va_W) ([oX4 ty h0 a0 g2, oX1 ty h1 a1 g3, oX5 ty h2 a2 z2] : List va_W)) hP hD hS hA (fun H locs hP hD hS => ?_)
  clear hp1 hv
  refine lv_aload_n hx hb dX4_read_15 rfl (lv_at hl 2 rfl) ?_
  obtain ⟨g4, hv, hf⟩ := obd hf
  have hp1 : List.Perm [oX4 ty h0 a0 g2, oX1 ty h1 a1 g3, oX5 ty h2 a2 z2] ([oX5 ty h2 a2 z2] ++ [oX4 ty h0 a0 g2, oX1 ty h1 a1 g3]) := ((List.perm_middle (a := (oX5 ty h2 a2 z2 : va_W)) (l₁ := ([oX4 ty h0 a0 g2, oX1 ty h1 a1 g3] : List va_W)) (l₂ := ([] : List va_W))) : List.Perm ([oX4 ty h0 a0 g2, oX1 ty h1 a1 g3, oX5 ty h2 a2 z2] : List va_W) ([oX5 ty h2 a2 z2, oX4 ty h0 a0 g2, oX1 ty h1 a1 g3] : List va_W))
  refine cv_call (os := [oX4 ty h0 a0 g2, oX1 ty h1 a1 g3, oX5 ty h2 a2 z2]) (oc := [oX5 ty h2 a2 z2]) (oc' := [oX5 ty h2 a2 g4]) (or_ := [oX4 ty h0 a0 g2, oX1 ty h1 a1 g3]) (os' := [oX4 ty h0 a0 g2, oX1 ty h1 a1 g3, oX5 ty h2 a2 g4]) (va_runV (As := []) (rest := []) F (c_X5_clear l D ty h2 a2 _ _ hv _) (cwV 0 F.2.2.2.2 gX4_read_X5_clear rfl rfl rfl ⟨rfl, hd_X5_clear⟩ ⟨Nat.le_of_ble_eq_true rfl, Nat.le_of_ble_eq_true rfl⟩) (pre_v hK hP hD hp1 rfl rfl rfl) rfl rfl hl.1 rfl (lv_room (Nat.le_of_ble_eq_true rfl)) dX4_read_16 ⟨Nat.zero_le _, Nat.zero_le _⟩) hp1 (((List.perm_middle (a := (oX4 ty h0 a0 g2 : va_W)) (l₁ := ([oX5 ty h2 a2 g4] : List va_W)) (l₂ := ([oX1 ty h1 a1 g3] : List va_W))).trans (List.Perm.cons _ (List.perm_middle (a := (oX1 ty h1 a1 g3 : va_W)) (l₁ := ([oX5 ty h2 a2 g4] : List va_W)) (l₂ := ([] : List va_W))))) : List.Perm ([oX5 ty h2 a2 g4, oX4 ty h0 a0 g2, oX1 ty h1 a1 g3] : List va_W) ([oX4 ty h0 a0 g2, oX1 ty h1 a1 g3, oX5 ty h2 a2 g4] : List va_W)) hP hD hS hA (fun H locs hP hD hS => ?_)
  clear hp1 hv
  refine lv_aload_n hx hb dX4_read_19 rfl (lv_at hl 0 rfl) ?_
  refine lv_bipush (v := (82 : Int32)) hx hb dX4_read_20 (by decide) ?_
  obtain ⟨g5, hv, hf⟩ := obd hf
  have hp1 : List.Perm [oX4 ty h0 a0 g2, oX1 ty h1 a1 g3, oX5 ty h2 a2 g4] ([oX4 ty h0 a0 g2] ++ [oX1 ty h1 a1 g3, oX5 ty h2 a2 g4]) := (List.Perm.refl _)
  refine cv_call (os := [oX4 ty h0 a0 g2, oX1 ty h1 a1 g3, oX5 ty h2 a2 g4]) (oc := [oX4 ty h0 a0 g2]) (oc' := [oX4 ty h0 a0 g5]) (or_ := [oX1 ty h1 a1 g3, oX5 ty h2 a2 g4]) (os' := [oX4 ty h0 a0 g5, oX1 ty h1 a1 g3, oX5 ty h2 a2 g4]) (va_runV (As := [.int (82 : Int32)]) (rest := []) F (c_X4_readLetter l D ty h0 a0 _ _ _ hv _) (cwV 1 F.2.2.2.2 gX4_read_X4_readLetter rfl rfl rfl ⟨rfl, hd_X4_readLetter⟩ ⟨Nat.le_of_ble_eq_true rfl, Nat.le_of_ble_eq_true rfl⟩) (pre_v hK hP hD hp1 rfl rfl rfl) rfl rfl hl.1 rfl (lv_room (Nat.le_of_ble_eq_true rfl)) dX4_read_22 ⟨Nat.zero_le _, Nat.zero_le _⟩) hp1 (List.Perm.refl _) hP hD hS hA (fun H locs hP hD hS => ?_)
  clear hp1 hv
  refine lv_aload_n hx hb dX4_read_25 rfl (lv_at hl 1 rfl) ?_
  refine lv_aload_n hx hb dX4_read_26 rfl (lv_at hl 0 rfl) ?_
  refine lv_iconst (v := (0 : Int32)) hx hb dX4_read_27 (by decide) ?_
  refine lv_bipush (v := (9 : Int32)) hx hb dX4_read_28 (by decide) ?_
  obtain ⟨v6, g7, hv, hf⟩ := obd2 hf
  have hp1 : List.Perm [oX4 ty h0 a0 g5, oX1 ty h1 a1 g3, oX5 ty h2 a2 g4] ([oX4 ty h0 a0 g5] ++ [oX1 ty h1 a1 g3, oX5 ty h2 a2 g4]) := (List.Perm.refl _)
  refine ci_call (out := v6) (os := [oX4 ty h0 a0 g5, oX1 ty h1 a1 g3, oX5 ty h2 a2 g4]) (oc := [oX4 ty h0 a0 g5]) (oc' := [oX4 ty h0 a0 g7]) (or_ := [oX1 ty h1 a1 g3, oX5 ty h2 a2 g4]) (os' := [oX4 ty h0 a0 g7, oX1 ty h1 a1 g3, oX5 ty h2 a2 g4]) (va_runV (As := [.int (0 : Int32), .int (9 : Int32)]) (rest := [.ref h1]) F (c_X4_readDigit l D ty h0 a0 _ _ _ _ _ hv _) (cwV 2 F.2.2.2.2 gX4_read_X4_readDigit rfl rfl rfl ⟨rfl, hd_X4_readDigit⟩ ⟨Nat.le_of_ble_eq_true rfl, Nat.le_of_ble_eq_true rfl⟩) (pre_v hK hP hD hp1 rfl rfl rfl) rfl rfl hl.1 rfl (lv_room (Nat.le_of_ble_eq_true rfl)) dX4_read_30 ⟨Nat.zero_le _, Nat.zero_le _⟩) hp1 (List.Perm.refl _) hP hD hS hA (fun H locs hP hD hS => ?_)
  clear hp1 hv
  refine pt_putN (D := D) (ci := 1) (fty := .int) (C := RX1) (T := TX1) (N := 12) (w1 := fl [oX4 ty h0 a0 g7, oX1 ty h1 a1 (sI g3 7 v6), oX5 ty h2 a2 g4]) F in_X4_read_X1 tyX1 tyX1_ok nmX1 hK.1 hP hD hS 2 rfl rfl 7 (Nat.le_of_ble_eq_true rfl) (KN.use hK 10 (w := .fieldLinkNest RX4 41 "LouderRoom$Crowd" "eats" "I" "LouderRoom") rfl _) (fun _ h9 => h9) rfl (by decide +kernel) rfl rfl (Nat.le_of_ble_eq_true rfl) rfl dX4_read_33 (fun H locs hP hD hS => ?_)
  obtain ⟨g8, ex⟩ : ∃ y : Ob, y = (sI g3 7 v6) := ⟨_, rfl⟩
  replace hf := bnd_at hf ex; rw [← ex] at hP hD; clear ex
  refine lv_aload_n hx hb dX4_read_36 rfl (lv_at hl 1 rfl) ?_
  refine lv_aload_n hx hb dX4_read_37 rfl (lv_at hl 0 rfl) ?_
  refine lv_iconst (v := (0 : Int32)) hx hb dX4_read_38 (by decide) ?_
  refine lv_bipush (v := (9 : Int32)) hx hb dX4_read_39 (by decide) ?_
  obtain ⟨v9, g10, hv, hf⟩ := obd2 hf
  have hp1 : List.Perm [oX4 ty h0 a0 g7, oX1 ty h1 a1 g8, oX5 ty h2 a2 g4] ([oX4 ty h0 a0 g7] ++ [oX1 ty h1 a1 g8, oX5 ty h2 a2 g4]) := (List.Perm.refl _)
  refine ci_call (out := v9) (os := [oX4 ty h0 a0 g7, oX1 ty h1 a1 g8, oX5 ty h2 a2 g4]) (oc := [oX4 ty h0 a0 g7]) (oc' := [oX4 ty h0 a0 g10]) (or_ := [oX1 ty h1 a1 g8, oX5 ty h2 a2 g4]) (os' := [oX4 ty h0 a0 g10, oX1 ty h1 a1 g8, oX5 ty h2 a2 g4]) (va_runV (As := [.int (0 : Int32), .int (9 : Int32)]) (rest := [.ref h1]) F (c_X4_readDigit l D ty h0 a0 _ _ _ _ _ hv _) (cwV 2 F.2.2.2.2 gX4_read_X4_readDigit rfl rfl rfl ⟨rfl, hd_X4_readDigit⟩ ⟨Nat.le_of_ble_eq_true rfl, Nat.le_of_ble_eq_true rfl⟩) (pre_v hK hP hD hp1 rfl rfl rfl) rfl rfl hl.1 rfl (lv_room (Nat.le_of_ble_eq_true rfl)) dX4_read_41 ⟨Nat.zero_le _, Nat.zero_le _⟩) hp1 (List.Perm.refl _) hP hD hS hA (fun H locs hP hD hS => ?_)
  clear hp1 hv
  refine pt_putN (D := D) (ci := 1) (fty := .int) (C := RX1) (T := TX1) (N := 12) (w1 := fl [oX4 ty h0 a0 g10, oX1 ty h1 a1 (sI g8 8 v9), oX5 ty h2 a2 g4]) F in_X4_read_X1 tyX1 tyX1_ok nmX1 hK.1 hP hD hS 2 rfl rfl 8 (Nat.le_of_ble_eq_true rfl) (KN.use hK 12 (w := .fieldLinkNest RX4 44 "LouderRoom$Crowd" "music" "I" "LouderRoom") rfl _) (fun _ h9 => h9) rfl (by decide +kernel) rfl rfl (Nat.le_of_ble_eq_true rfl) rfl dX4_read_44 (fun H locs hP hD hS => ?_)
  obtain ⟨g11, ex⟩ : ∃ y : Ob, y = (sI g8 8 v9) := ⟨_, rfl⟩
  replace hf := bnd_at hf ex; rw [← ex] at hP hD; clear ex
  refine lv_iconst (v := (0 : Int32)) hx hb dX4_read_47 (by decide) ?_
  refine lv_istore_n (lv' := [(3, .int (0 : Int32)), (0, .ref h0), (1, .ref h1), (2, .ref h2)]) hx hb dX4_read_48 rfl hl (by decide) rfl (fun ls hl => ?_)
  have L_49 : ∀ (n : Nat) (y3 : Int32) (w0 : Ob) (w1 : Ob) (w2 : Ob) (H : Heap) (locs : List Loc) (ls : Array Slot), va_P D vwC (fl [oX4 ty h0 a0 w0, oX1 ty h1 a1 w1, oX5 ty h2 a2 w2]) H → va_D A (fl [oX4 ty h0 a0 w0, oX1 ty h1 a1 w1, oX5 ty h2 a2 w2]) → va_S A s.heap H locs → lv_has ls 4 [(0, .ref h0), (1, .ref h1), (2, .ref h2), (3, .int y3)] → fuel4 (b_X4_read_49) n y3 w0 w1 w2 = some (o0, o1, o2, o3) → W p l e rm_X4_read s m ([.ref h0, .ref h1, .ref h2] : List Value).toArray below meth c H locs 0 0 (MQ below (qI D o0 (fl [oX4 ty h0 a0 o1, oX1 ty h1 a1 o2, oX5 ty h2 a2 o3]) A) ([.ref h0, .ref h1, .ref h2] : List Value).toArray s 0 0 A) (F0 m 49 ls []) := by
    intro n
    induction n with
    | zero => intro y3 w0 w1 w2 H locs ls hP hD hS hl hf; cases hf
    | succ n ih_49 =>
      intro y3 w0 w1 w2 H locs ls hP hD hS hl hf
      replace hf : b_X4_read_49 (fuel4 (b_X4_read_49) n) y3 w0 w1 w2 = some (o0, o1, o2, o3) := hf
      generalize fuel4 (b_X4_read_49) n = r_49 at ih_49 hf
      unfold b_X4_read_49 at hf
      refine lv_iload_n hx hb dX4_read_49 rfl (lv_at hl 3 rfl) ?_
      refine lv_bipush (v := (80 : Int32)) hx hb dX4_read_50 (by decide) ?_
      refine lv_icmp_ge (tgt := 87) hx hb dX4_read_52 (by decide) (fun hc => ?_) (fun hc => ?_)
      · replace hf := ite_t hf hc
        exact J_87 w0 w1 w2 _ _ _ hP hD hS (lv_sub hl [0] rfl) hf
      · replace hf := ite_f hf hc
        refine lv_aload_n hx hb dX4_read_55 rfl (lv_at hl 0 rfl) ?_
        refine va_get (D := D) (ci := 4) (C := RX4) (T := TX4) (N := 4) hx hb F.2.2.2.2 in_X4_read_X4 F.2.2.2.1 hK.1 hP 0 rfl rfl 3 (Nat.le_of_ble_eq_true rfl) (F.2.2.2.2 (.fieldLink RX4 15 "LouderRoom$Told" "wrong" "I") (List.mem_of_getElem? (i := 2) rfl)) (fun _ h9 => h9) rfl dX4_read_56 ?_
        refine lv_bipush (v := (-9 : Int32)) hx hb dX4_read_59 (by decide) ?_
        refine lv_icmp_ne (tgt := 87) hx hb dX4_read_61 (by decide) (fun hc => ?_) (fun hc => ?_)
        · replace hf := ite_f hf hc
          exact J_87 w0 w1 w2 _ _ _ hP hD hS (lv_sub hl [0] rfl) hf
        · replace hf := ite_t hf hc
          refine lv_aload_n hx hb dX4_read_64 rfl (lv_at hl 0 rfl) ?_
          refine va_get (D := D) (ci := 4) (C := RX4) (T := TX4) (N := 4) hx hb F.2.2.2.2 in_X4_read_X4 F.2.2.2.1 hK.1 hP 0 rfl rfl 2 (Nat.le_of_ble_eq_true rfl) (F.2.2.2.2 (.fieldLink RX4 22 "LouderRoom$Told" "at" "I") (List.mem_of_getElem? (i := 1) rfl)) (fun _ h9 => h9) rfl dX4_read_65 ?_
          refine lv_aload_n hx hb dX4_read_68 rfl (lv_at hl 0 rfl) ?_
          refine va_get (D := D) (ci := 4) (C := RX4) (T := TX4) (N := 4) hx hb F.2.2.2.2 in_X4_read_X4 F.2.2.2.1 hK.1 hP 0 rfl rfl 1 (Nat.le_of_ble_eq_true rfl) (F.2.2.2.2 (.fieldLink RX4 19 "LouderRoom$Told" "length" "I") (List.mem_of_getElem? (i := 3) rfl)) (fun _ h9 => h9) rfl dX4_read_69 ?_
          refine lv_icmp_ge (tgt := 87) hx hb dX4_read_72 (by decide) (fun hc => ?_) (fun hc => ?_)
          · replace hf := ite_t hf hc
            exact J_87 w0 w1 w2 _ _ _ hP hD hS (lv_sub hl [0] rfl) hf
          · replace hf := ite_f hf hc
            refine lv_aload_n hx hb dX4_read_75 rfl (lv_at hl 0 rfl) ?_
            refine lv_aload_n hx hb dX4_read_76 rfl (lv_at hl 1 rfl) ?_
            refine lv_aload_n hx hb dX4_read_77 rfl (lv_at hl 2 rfl) ?_
            obtain ⟨g12, g13, g14, hv, hf⟩ := obd3 hf
            have hp1 : List.Perm [oX4 ty h0 a0 w0, oX1 ty h1 a1 w1, oX5 ty h2 a2 w2] ([oX4 ty h0 a0 w0, oX1 ty h1 a1 w1, oX5 ty h2 a2 w2] ++ []) := (List.Perm.refl _)
            refine cv_call (os := [oX4 ty h0 a0 w0, oX1 ty h1 a1 w1, oX5 ty h2 a2 w2]) (oc := [oX4 ty h0 a0 w0, oX1 ty h1 a1 w1, oX5 ty h2 a2 w2]) (oc' := [oX4 ty h0 a0 g12, oX1 ty h1 a1 g13, oX5 ty h2 a2 g14]) (or_ := []) (os' := [oX4 ty h0 a0 g12, oX1 ty h1 a1 g13, oX5 ty h2 a2 g14]) (va_runV (As := [.ref h1, .ref h2]) (rest := []) F (c_X4_readPart l D ty h0 a0 h1 a1 h2 a2 _ _ _ _ _ _ hv _) (cwV 2 F.2.2.2.2 gX4_read_X4_readPart rfl rfl rfl ⟨rfl, hd_X4_readPart⟩ ⟨Nat.le_of_ble_eq_true rfl, Nat.le_of_ble_eq_true rfl⟩) (pre_v hK hP hD hp1 rfl rfl rfl) rfl rfl hl.1 rfl (lv_room (Nat.le_of_ble_eq_true rfl)) dX4_read_78 ⟨Nat.zero_le _, Nat.zero_le _⟩) hp1 (List.Perm.refl _) hP hD hS hA (fun H locs hP hD hS => ?_)
            clear hp1 hv
            obtain ⟨x15, ex⟩ : ∃ y : Int32, y = (y3 + (1 : Int32)) := ⟨_, rfl⟩
            replace hf := bnd_at hf ex
            refine lv_iinc (v := x15) (lv' := [(3, .int x15), (0, .ref h0), (1, .ref h1), (2, .ref h2)]) hx hb dX4_read_81 hl (k := 3) rfl (by rw [ex]; rfl) (by decide) rfl (fun ls hl => ?_)
            clear ex
            refine lv_goto (tgt := 49) hx hb dX4_read_84 (by decide) ?_
            exact ih_49 x15 g12 g13 g14 _ _ _ hP hD hS (lv_sub hl [1, 2, 3, 0] rfl) hf
  exact L_49 FU (0 : Int32) g10 g11 g4 _ _ _ hP hD hS (lv_sub hl [1, 2, 3, 0] rfl) hf
def b_X5_copyFrom_10 (z1 : Ob) (r_10 : Int32 → Ob → Option (Ob)) (y2 : Int32) (w0 : Ob) : Option (Ob) := (if (w0.1 2) ≤ y2 then some w0 else (if inb y2 5 = true then (if inb y2 5 = true then bnd (sA w0 0 (upd (w0.2 0) y2.toNatClampNeg (z1.2 0 y2.toNatClampNeg))) (fun g2 => (if inb y2 5 = true then (if inb y2 5 = true then bnd (sA g2 1 (upd (g2.2 1) y2.toNatClampNeg (z1.2 1 y2.toNatClampNeg))) (fun g3 => bnd (y2 + (1 : Int32)) (fun x4 => r_10 x4 g3)) else none) else none)) else none) else none))
def f_X5_copyFrom (z0 : Ob) (z1 : Ob) : Option (Ob) := bnd (sI z0 2 (z1.1 2)) (fun g1 => fuel2 (b_X5_copyFrom_10 z1) FU (0 : Int32) g1)
abbrev rm_X5_copyFrom : Room := { frames := 0, cells := 0, slots := 0, locals := 0 }
theorem hd_X5_copyFrom : yX5_copyFrom.cls ≠ "java/lang/invoke/MethodHandle" ∧ yX5_copyFrom.cls ≠ "java/lang/invoke/VarHandle" ∧ (parseMethodDescriptor yX5_copyFrom.desc).map (fun d => d.parameters.length) = some 1 := by decide +kernel
theorem in_X5_copyFrom_X5 : ∀ w ∈ wsX50, w ∈ wsX5_copyFrom := fun w h => List.mem_cons_of_mem _ (List.mem_append_right _ h)
set_option maxHeartbeats 4000000 in
set_option maxRecDepth 100000 in
theorem c_X5_copyFrom (l : Launch) (D : va_G) (ty : TY) (h0 : Nat) (a0 : Nat → Nat) (h1 : Nat) (a1 : Nat → Nat) (z0 : Ob) (z1 : Ob) (o0 : Ob) (hf : f_X5_copyFrom z0 z1 = some o0) (sz : Nat) : CX l yX5_copyFrom wsX5_copyFrom rm_X5_copyFrom ([.ref h0, .ref h1] : List Value) D ty (fl [oX5 ty h0 a0 z0, oX5 ty h1 a1 z1]) sz (qV D (fl [oX5 ty h0 a0 o0, oX5 ty h1 a1 z1])) 0 0 := by
  refine CX_of (cc := cX5_copyFrom) (maxL := 3) (ret := none) (C := RX5) (by decide) rfl rfl (Nat.le_of_ble_eq_true rfl) ?_
  intro p e s m below meth c A ls F hr hlk _ hK hP hD hS hA hl
  have hx := F.1
  have hb := F.2.1
  replace hl : lv_has ls 3 [(0, .ref h0), (1, .ref h1)] := hl
  unfold f_X5_copyFrom at hf
  refine lv_aload_n hx hb dX5_copyFrom_0 rfl (lv_at hl 0 rfl) ?_
  refine lv_aload_n hx hb dX5_copyFrom_1 rfl (lv_at hl 1 rfl) ?_
  refine va_get (D := D) (ci := 5) (C := RX5) (T := TX5) (N := 3) hx hb F.2.2.2.2 in_X5_copyFrom_X5 F.2.2.2.1 hK.1 hP 3 rfl rfl 2 (Nat.le_of_ble_eq_true rfl) (F.2.2.2.2 (.fieldLink RX5 18 "LouderRoom$Wares" "count" "I") (List.mem_of_getElem? (i := 1) rfl)) (fun _ h9 => h9) rfl dX5_copyFrom_2 ?_
  refine pt_put (D := D) (ci := 5) (fty := .int) (C := RX5) (T := TX5) (N := 3) (w1 := fl [oX5 ty h0 a0 (sI z0 2 (z1.1 2)), oX5 ty h1 a1 z1]) F in_X5_copyFrom_X5 tyX5 tyX5_ok nmX5 hK.1 hP hD hS 0 rfl rfl 2 (Nat.le_of_ble_eq_true rfl) (F.2.2.2.2 (.fieldLink RX5 18 "LouderRoom$Wares" "count" "I") (List.mem_of_getElem? (i := 1) rfl)) (fun _ h9 => h9) rfl (by decide +kernel) rfl rfl (Nat.le_of_ble_eq_true rfl) rfl dX5_copyFrom_5 (fun H locs hP hD hS => ?_)
  obtain ⟨g1, ex⟩ : ∃ y : Ob, y = (sI z0 2 (z1.1 2)) := ⟨_, rfl⟩
  replace hf := bnd_at hf ex; rw [← ex] at hP hD; clear ex
  refine lv_iconst (v := (0 : Int32)) hx hb dX5_copyFrom_8 (by decide) ?_
  refine lv_istore_n (lv' := [(2, .int (0 : Int32)), (0, .ref h0), (1, .ref h1)]) hx hb dX5_copyFrom_9 rfl hl (by decide) rfl (fun ls hl => ?_)
  have L_10 : ∀ (n : Nat) (y2 : Int32) (w0 : Ob) (H : Heap) (locs : List Loc) (ls : Array Slot), va_P D vwC (fl [oX5 ty h0 a0 w0, oX5 ty h1 a1 z1]) H → va_D A (fl [oX5 ty h0 a0 w0, oX5 ty h1 a1 z1]) → va_S A s.heap H locs → lv_has ls 3 [(0, .ref h0), (1, .ref h1), (2, .int y2)] → fuel2 (b_X5_copyFrom_10 z1) n y2 w0 = some o0 → W p l e rm_X5_copyFrom s m ([.ref h0, .ref h1] : List Value).toArray below meth c H locs 0 0 (MQ below (qV D (fl [oX5 ty h0 a0 o0, oX5 ty h1 a1 z1]) A) ([.ref h0, .ref h1] : List Value).toArray s 0 0 A) (F0 m 10 ls []) := by
    intro n
    induction n with
    | zero => intro y2 w0 H locs ls hP hD hS hl hf; cases hf
    | succ n ih_10 =>
      intro y2 w0 H locs ls hP hD hS hl hf
      replace hf : b_X5_copyFrom_10 z1 (fuel2 (b_X5_copyFrom_10 z1) n) y2 w0 = some o0 := hf
      generalize fuel2 (b_X5_copyFrom_10 z1) n = r_10 at ih_10 hf
      unfold b_X5_copyFrom_10 at hf
      refine lv_iload_n hx hb dX5_copyFrom_10 rfl (lv_at hl 2 rfl) ?_
      refine lv_aload_n hx hb dX5_copyFrom_11 rfl (lv_at hl 0 rfl) ?_
      refine va_get (D := D) (ci := 5) (C := RX5) (T := TX5) (N := 3) hx hb F.2.2.2.2 in_X5_copyFrom_X5 F.2.2.2.1 hK.1 hP 0 rfl rfl 2 (Nat.le_of_ble_eq_true rfl) (F.2.2.2.2 (.fieldLink RX5 18 "LouderRoom$Wares" "count" "I") (List.mem_of_getElem? (i := 1) rfl)) (fun _ h9 => h9) rfl dX5_copyFrom_12 ?_
      refine lv_icmp_ge (tgt := 48) hx hb dX5_copyFrom_15 (by decide) (fun hc => ?_) (fun hc => ?_)
      · replace hf := ite_t hf hc
        obtain hf := hf
        have e0 := Option.some.inj hf
        rw [e0] at hP hD
        exact CX_v F hr hlk hP hD hS dX5_copyFrom_48
      · replace hf := ite_f hf hc
        refine lv_aload_n hx hb dX5_copyFrom_18 rfl (lv_at hl 0 rfl) ?_
        refine va_get (D := D) (ci := 5) (C := RX5) (T := TX5) (N := 3) hx hb F.2.2.2.2 in_X5_copyFrom_X5 F.2.2.2.1 hK.1 hP 0 rfl rfl 0 (Nat.le_of_ble_eq_true rfl) (F.2.2.2.2 (.fieldLink RX5 9 "LouderRoom$Wares" "cost" "[I") (List.mem_of_getElem? (i := 2) rfl)) (fun _ h9 => h9) rfl dX5_copyFrom_19 ?_
        refine lv_iload_n hx hb dX5_copyFrom_22 rfl (lv_at hl 2 rfl) ?_
        refine lv_aload_n hx hb dX5_copyFrom_23 rfl (lv_at hl 1 rfl) ?_
        refine va_get (D := D) (ci := 5) (C := RX5) (T := TX5) (N := 3) hx hb F.2.2.2.2 in_X5_copyFrom_X5 F.2.2.2.1 hK.1 hP 3 rfl rfl 0 (Nat.le_of_ble_eq_true rfl) (F.2.2.2.2 (.fieldLink RX5 9 "LouderRoom$Wares" "cost" "[I") (List.mem_of_getElem? (i := 2) rfl)) (fun _ h9 => h9) rfl dX5_copyFrom_24 ?_
        refine lv_iload_n hx hb dX5_copyFrom_27 rfl (lv_at hl 2 rfl) ?_
        obtain ⟨hi, hf⟩ := grd hf
        refine va_iald hx hb hK.1 hP 4 0 rfl rfl (inb_in hi) dX5_copyFrom_28 ?_
        obtain ⟨hi, hf⟩ := grd hf
        refine pt_iast (w1 := fl [oX5 ty h0 a0 (sA w0 0 (upd (w0.2 0) y2.toNatClampNeg (z1.2 0 y2.toNatClampNeg))), oX5 ty h1 a1 z1]) F hK.1 hP hD hS 1 0 rfl rfl (inb_in hi) rfl dX5_copyFrom_29 (fun H locs hP hD hS => ?_)
        obtain ⟨g2, ex⟩ : ∃ y : Ob, y = (sA w0 0 (upd (w0.2 0) y2.toNatClampNeg (z1.2 0 y2.toNatClampNeg))) := ⟨_, rfl⟩
        replace hf := bnd_at hf ex; rw [← ex] at hP hD; clear ex
        refine lv_aload_n hx hb dX5_copyFrom_30 rfl (lv_at hl 0 rfl) ?_
        refine va_get (D := D) (ci := 5) (C := RX5) (T := TX5) (N := 3) hx hb F.2.2.2.2 in_X5_copyFrom_X5 F.2.2.2.1 hK.1 hP 0 rfl rfl 1 (Nat.le_of_ble_eq_true rfl) (F.2.2.2.2 (.fieldLink RX5 15 "LouderRoom$Wares" "eaten" "[I") (List.mem_of_getElem? (i := 3) rfl)) (fun _ h9 => h9) rfl dX5_copyFrom_31 ?_
        refine lv_iload_n hx hb dX5_copyFrom_34 rfl (lv_at hl 2 rfl) ?_
        refine lv_aload_n hx hb dX5_copyFrom_35 rfl (lv_at hl 1 rfl) ?_
        refine va_get (D := D) (ci := 5) (C := RX5) (T := TX5) (N := 3) hx hb F.2.2.2.2 in_X5_copyFrom_X5 F.2.2.2.1 hK.1 hP 3 rfl rfl 1 (Nat.le_of_ble_eq_true rfl) (F.2.2.2.2 (.fieldLink RX5 15 "LouderRoom$Wares" "eaten" "[I") (List.mem_of_getElem? (i := 3) rfl)) (fun _ h9 => h9) rfl dX5_copyFrom_36 ?_
        refine lv_iload_n hx hb dX5_copyFrom_39 rfl (lv_at hl 2 rfl) ?_
        obtain ⟨hi, hf⟩ := grd hf
        refine va_iald hx hb hK.1 hP 5 0 rfl rfl (inb_in hi) dX5_copyFrom_40 ?_
        obtain ⟨hi, hf⟩ := grd hf
        refine pt_iast (w1 := fl [oX5 ty h0 a0 (sA g2 1 (upd (g2.2 1) y2.toNatClampNeg (z1.2 1 y2.toNatClampNeg))), oX5 ty h1 a1 z1]) F hK.1 hP hD hS 2 0 rfl rfl (inb_in hi) rfl dX5_copyFrom_41 (fun H locs hP hD hS => ?_)
        obtain ⟨g3, ex⟩ : ∃ y : Ob, y = (sA g2 1 (upd (g2.2 1) y2.toNatClampNeg (z1.2 1 y2.toNatClampNeg))) := ⟨_, rfl⟩
        replace hf := bnd_at hf ex; rw [← ex] at hP hD; clear ex
        obtain ⟨x4, ex⟩ : ∃ y : Int32, y = (y2 + (1 : Int32)) := ⟨_, rfl⟩
        replace hf := bnd_at hf ex
        refine lv_iinc (v := x4) (lv' := [(2, .int x4), (0, .ref h0), (1, .ref h1)]) hx hb dX5_copyFrom_42 hl (k := 2) rfl (by rw [ex]; rfl) (by decide) rfl (fun ls hl => ?_)
        clear ex
        refine lv_goto (tgt := 10) hx hb dX5_copyFrom_45 (by decide) ?_
        exact ih_10 x4 g3 _ _ _ hP hD hS (lv_sub hl [1, 2, 0] rfl) hf
  exact L_10 FU (0 : Int32) g1 _ _ _ hP hD hS (lv_sub hl [1, 2, 0] rfl) hf
def j_X5_sumOf_0_33 (z0 : Ob) (p2 : Int32) (r_5 : Int32 → Int32 → Option (Int32)) (y4 : Int32) (t0 : Int32) (t1 : Int32) : Option (Int32) := bnd (t1 + t0) (fun x1 => bnd (y4 + (1 : Int32)) (fun x2 => r_5 x1 x2))
def b_X5_sumOf_0_5 (z0 : Ob) (p2 : Int32) (r_5 : Int32 → Int32 → Option (Int32)) (y3 : Int32) (y4 : Int32) : Option (Int32) := (if (z0.1 2) ≤ y4 then some y3 else (if ((p2 >>> (y4 &&& 31)) &&& (1 : Int32)) = (1 : Int32) then (if inb y4 5 = true then j_X5_sumOf_0_33 z0 p2 r_5 y4 (z0.2 0 y4.toNatClampNeg) y3 else none) else j_X5_sumOf_0_33 z0 p2 r_5 y4 (0 : Int32) y3))
def f_X5_sumOf_0 (z0 : Ob) (p2 : Int32) : Option (Int32) := fuel2 (b_X5_sumOf_0_5 z0 p2) FU (0 : Int32) (0 : Int32)
abbrev rm_X5_sumOf_0 : Room := { frames := 0, cells := 0, slots := 0, locals := 0 }
theorem hd_X5_sumOf : yX5_sumOf.cls ≠ "java/lang/invoke/MethodHandle" ∧ yX5_sumOf.cls ≠ "java/lang/invoke/VarHandle" ∧ (parseMethodDescriptor yX5_sumOf.desc).map (fun d => d.parameters.length) = some 2 := by decide +kernel
theorem in_X5_sumOf_X5 : ∀ w ∈ wsX50, w ∈ wsX5_sumOf := fun w h => List.mem_cons_of_mem _ (List.mem_append_right _ h)
set_option maxHeartbeats 4000000 in
set_option maxRecDepth 100000 in
theorem c_X5_sumOf_0 (l : Launch) (D : va_G) (ty : TY) (h0 : Nat) (a0 : Nat → Nat) (z0 : Ob) (p2 : Int32) (o0 : Int32) (hf : f_X5_sumOf_0 z0 p2 = some o0) (sz : Nat) : CX l yX5_sumOf wsX5_sumOf rm_X5_sumOf_0 ([.ref h0, .ref (a0 0), .int p2] : List Value) D ty (fl [oX5 ty h0 a0 z0]) sz (qI D o0 (fl [oX5 ty h0 a0 z0])) 0 0 := by
  refine CX_of (cc := cX5_sumOf) (maxL := 5) (ret := (some .int)) (C := RX5) (by decide) rfl rfl (Nat.le_of_ble_eq_true rfl) ?_
  intro p e s m below meth c A ls F hr hlk _ hK hP hD hS hA hl
  have hx := F.1
  have hb := F.2.1
  replace hl : lv_has ls 5 [(0, .ref h0), (1, .ref (a0 0)), (2, .int p2)] := hl
  unfold f_X5_sumOf_0 at hf
  refine lv_iconst (v := (0 : Int32)) hx hb dX5_sumOf_0 (by decide) ?_
  refine lv_istore_n (lv' := [(3, .int (0 : Int32)), (0, .ref h0), (1, .ref (a0 0)), (2, .int p2)]) hx hb dX5_sumOf_1 rfl hl (by decide) rfl (fun ls hl => ?_)
  refine lv_iconst (v := (0 : Int32)) hx hb dX5_sumOf_2 (by decide) ?_
  refine lv_istore (lv' := [(4, .int (0 : Int32)), (3, .int (0 : Int32)), (0, .ref h0), (1, .ref (a0 0)), (2, .int p2)]) hx hb dX5_sumOf_3 hl (by decide) rfl (fun ls hl => ?_)
  have L_5 : ∀ (n : Nat) (y3 : Int32) (y4 : Int32) (H : Heap) (locs : List Loc) (ls : Array Slot), va_P D vwC (fl [oX5 ty h0 a0 z0]) H → va_D A (fl [oX5 ty h0 a0 z0]) → va_S A s.heap H locs → lv_has ls 5 [(0, .ref h0), (1, .ref (a0 0)), (2, .int p2), (3, .int y3), (4, .int y4)] → fuel2 (b_X5_sumOf_0_5 z0 p2) n y3 y4 = some o0 → W p l e rm_X5_sumOf_0 s m ([.ref h0, .ref (a0 0), .int p2] : List Value).toArray below meth c H locs 0 0 (MQ below (qI D o0 (fl [oX5 ty h0 a0 z0]) A) ([.ref h0, .ref (a0 0), .int p2] : List Value).toArray s 0 0 A) (F0 m 5 ls []) := by
    intro n
    induction n with
    | zero => intro y3 y4 H locs ls hP hD hS hl hf; cases hf
    | succ n ih_5 =>
      intro y3 y4 H locs ls hP hD hS hl hf
      replace hf : b_X5_sumOf_0_5 z0 p2 (fuel2 (b_X5_sumOf_0_5 z0 p2) n) y3 y4 = some o0 := hf
      generalize fuel2 (b_X5_sumOf_0_5 z0 p2) n = r_5 at ih_5 hf
      unfold b_X5_sumOf_0_5 at hf
      have J_33 : ∀ (y4 : Int32) (t0 : Int32) (t1 : Int32) (H : Heap) (locs : List Loc) (ls : Array Slot), va_P D vwC (fl [oX5 ty h0 a0 z0]) H → va_D A (fl [oX5 ty h0 a0 z0]) → va_S A s.heap H locs → lv_has ls 5 [(0, .ref h0), (1, .ref (a0 0)), (2, .int p2), (4, .int y4)] → j_X5_sumOf_0_33 z0 p2 r_5 y4 t0 t1 = some o0 → W p l e rm_X5_sumOf_0 s m ([.ref h0, .ref (a0 0), .int p2] : List Value).toArray below meth c H locs 0 0 (MQ below (qI D o0 (fl [oX5 ty h0 a0 z0]) A) ([.ref h0, .ref (a0 0), .int p2] : List Value).toArray s 0 0 A) (F0 m 33 ls [.int t0, .int t1]) := by
        intro y4 t0 t1 H locs ls hP hD hS hl hf
        unfold j_X5_sumOf_0_33 at hf
        refine lv_iadd hx hb dX5_sumOf_33 ?_
        refine lv_topi (fun x1 ex => ?_)
        replace hf := bnd_at hf ex; clear ex
        refine lv_istore_n (lv' := [(3, .int x1), (0, .ref h0), (1, .ref (a0 0)), (2, .int p2), (4, .int y4)]) hx hb dX5_sumOf_34 rfl hl (by decide) rfl (fun ls hl => ?_)
        obtain ⟨x2, ex⟩ : ∃ y : Int32, y = (y4 + (1 : Int32)) := ⟨_, rfl⟩
        replace hf := bnd_at hf ex
        refine lv_iinc (v := x2) (lv' := [(4, .int x2), (3, .int x1), (0, .ref h0), (1, .ref (a0 0)), (2, .int p2)]) hx hb dX5_sumOf_35 hl (k := 4) rfl (by rw [ex]; rfl) (by decide) rfl (fun ls hl => ?_)
        clear ex
        refine lv_goto (tgt := 5) hx hb dX5_sumOf_38 (by decide) ?_
        exact ih_5 x1 x2 _ _ _ hP hD hS (lv_sub hl [2, 3, 4, 1, 0] rfl) hf
      refine lv_iload hx hb dX5_sumOf_5 (lv_at hl 4 rfl) ?_
      refine lv_aload_n hx hb dX5_sumOf_7 rfl (lv_at hl 0 rfl) ?_
      refine va_get (D := D) (ci := 5) (C := RX5) (T := TX5) (N := 3) hx hb F.2.2.2.2 in_X5_sumOf_X5 F.2.2.2.1 hK.1 hP 0 rfl rfl 2 (Nat.le_of_ble_eq_true rfl) (F.2.2.2.2 (.fieldLink RX5 18 "LouderRoom$Wares" "count" "I") (List.mem_of_getElem? (i := 1) rfl)) (fun _ h9 => h9) rfl dX5_sumOf_8 ?_
      refine lv_icmp_ge (tgt := 41) hx hb dX5_sumOf_11 (by decide) (fun hc => ?_) (fun hc => ?_)
      · replace hf := ite_t hf hc
        refine lv_iload_n hx hb dX5_sumOf_41 rfl (lv_at hl 3 rfl) ?_
        obtain hf := hf
        have e0 := Option.some.inj hf
        exact CX_i F hr hlk hP hD hS e0 dX5_sumOf_42
      · replace hf := ite_f hf hc
        refine lv_iload_n hx hb dX5_sumOf_14 rfl (lv_at hl 3 rfl) ?_
        refine lv_iload_n hx hb dX5_sumOf_15 rfl (lv_at hl 2 rfl) ?_
        refine lv_iload hx hb dX5_sumOf_16 (lv_at hl 4 rfl) ?_
        refine lv_ishr hx hb dX5_sumOf_18 ?_
        refine lv_iconst (v := (1 : Int32)) hx hb dX5_sumOf_19 (by decide) ?_
        refine lv_iand hx hb dX5_sumOf_20 ?_
        refine lv_iconst (v := (1 : Int32)) hx hb dX5_sumOf_21 (by decide) ?_
        refine lv_icmp_ne (tgt := 32) hx hb dX5_sumOf_22 (by decide) (fun hc => ?_) (fun hc => ?_)
        · replace hf := ite_f hf hc
          refine lv_iconst (v := (0 : Int32)) hx hb dX5_sumOf_32 (by decide) ?_
          exact J_33 y4 (0 : Int32) y3 _ _ _ hP hD hS (lv_sub hl [0, 1, 2, 4] rfl) hf
        · replace hf := ite_t hf hc
          refine lv_aload_n hx hb dX5_sumOf_25 rfl (lv_at hl 1 rfl) ?_
          refine lv_iload hx hb dX5_sumOf_26 (lv_at hl 4 rfl) ?_
          obtain ⟨hi, hf⟩ := grd hf
          refine va_iald hx hb hK.1 hP 1 0 rfl rfl (inb_in hi) dX5_sumOf_28 ?_
          refine lv_goto (tgt := 33) hx hb dX5_sumOf_29 (by decide) ?_
          exact J_33 y4 (z0.2 0 y4.toNatClampNeg) y3 _ _ _ hP hD hS (lv_sub hl [0, 1, 2, 4] rfl) hf
  exact L_5 FU (0 : Int32) (0 : Int32) _ _ _ hP hD hS (lv_sub hl [2, 3, 4, 1, 0] rfl) hf
def f_X5_costOf (z0 : Ob) (p1 : Int32) : Option (Int32) := (f_X5_sumOf_0 z0 p1).bind (fun v1 => some v1)
abbrev rm_X5_costOf : Room := { frames := 1, cells := 0, slots := 0, locals := 24 }
theorem hd_X5_costOf : yX5_costOf.cls ≠ "java/lang/invoke/MethodHandle" ∧ yX5_costOf.cls ≠ "java/lang/invoke/VarHandle" ∧ (parseMethodDescriptor yX5_costOf.desc).map (fun d => d.parameters.length) = some 1 := by decide +kernel
theorem in_X5_costOf_X5 : ∀ w ∈ wsX50, w ∈ wsX5_costOf := fun w h => List.mem_cons_of_mem _ (List.mem_append_right _ h)
set_option maxHeartbeats 4000000 in
set_option maxRecDepth 100000 in
theorem c_X5_costOf (l : Launch) (D : va_G) (ty : TY) (h0 : Nat) (a0 : Nat → Nat) (z0 : Ob) (p1 : Int32) (o0 : Int32) (hf : f_X5_costOf z0 p1 = some o0) (sz : Nat) : CX l yX5_costOf wsX5_costOf rm_X5_costOf ([.ref h0, .int p1] : List Value) D ty (fl [oX5 ty h0 a0 z0]) sz (qI D o0 (fl [oX5 ty h0 a0 z0])) 0 0 := by
  refine CX_of (cc := cX5_costOf) (maxL := 2) (ret := (some .int)) (C := RX5) (by decide) rfl rfl (Nat.le_of_ble_eq_true rfl) ?_
  intro p e s m below meth c A ls F hr hlk _ hK hP hD hS hA hl
  have hx := F.1
  have hb := F.2.1
  replace hl : lv_has ls 2 [(0, .ref h0), (1, .int p1)] := hl
  unfold f_X5_costOf at hf
  refine lv_aload_n hx hb dX5_costOf_0 rfl (lv_at hl 0 rfl) ?_
  refine lv_aload_n hx hb dX5_costOf_1 rfl (lv_at hl 0 rfl) ?_
  refine va_get (D := D) (ci := 5) (C := RX5) (T := TX5) (N := 3) hx hb F.2.2.2.2 in_X5_costOf_X5 F.2.2.2.1 hK.1 hP 0 rfl rfl 0 (Nat.le_of_ble_eq_true rfl) (F.2.2.2.2 (.fieldLink RX5 9 "LouderRoom$Wares" "cost" "[I") (List.mem_of_getElem? (i := 1) rfl)) (fun _ h9 => h9) rfl dX5_costOf_2 ?_
  refine lv_iload_n hx hb dX5_costOf_5 rfl (lv_at hl 1 rfl) ?_
  obtain ⟨v1, hv, hf⟩ := obd hf
  have hp1 : List.Perm [oX5 ty h0 a0 z0] ([oX5 ty h0 a0 z0] ++ []) := (List.Perm.refl _)
  refine ci_call (out := v1) (os := [oX5 ty h0 a0 z0]) (oc := [oX5 ty h0 a0 z0]) (oc' := [oX5 ty h0 a0 z0]) (or_ := []) (os' := [oX5 ty h0 a0 z0]) (va_runV (As := [.ref (a0 0), .int p1]) (rest := []) F (c_X5_sumOf_0 l D ty h0 a0 _ _ _ hv _) (cwV 2 F.2.2.2.2 gX5_costOf_X5_sumOf rfl rfl rfl ⟨rfl, hd_X5_sumOf⟩ ⟨Nat.le_of_ble_eq_true rfl, Nat.le_of_ble_eq_true rfl⟩) (pre_v hK hP hD hp1 rfl rfl rfl) rfl rfl hl.1 rfl (lv_room (Nat.le_of_ble_eq_true rfl)) dX5_costOf_6 ⟨Nat.zero_le _, Nat.zero_le _⟩) hp1 (List.Perm.refl _) hP hD hS hA (fun H locs hP hD hS => ?_)
  clear hp1 hv
  obtain hf := hf
  have e0 := Option.some.inj hf
  exact CX_i F hr hlk hP hD hS e0 dX5_costOf_9
def j_X5_sumOf_1_33 (z0 : Ob) (p2 : Int32) (r_5 : Int32 → Int32 → Option (Int32)) (y4 : Int32) (t0 : Int32) (t1 : Int32) : Option (Int32) := bnd (t1 + t0) (fun x1 => bnd (y4 + (1 : Int32)) (fun x2 => r_5 x1 x2))
def b_X5_sumOf_1_5 (z0 : Ob) (p2 : Int32) (r_5 : Int32 → Int32 → Option (Int32)) (y3 : Int32) (y4 : Int32) : Option (Int32) := (if (z0.1 2) ≤ y4 then some y3 else (if ((p2 >>> (y4 &&& 31)) &&& (1 : Int32)) = (1 : Int32) then (if inb y4 5 = true then j_X5_sumOf_1_33 z0 p2 r_5 y4 (z0.2 1 y4.toNatClampNeg) y3 else none) else j_X5_sumOf_1_33 z0 p2 r_5 y4 (0 : Int32) y3))
def f_X5_sumOf_1 (z0 : Ob) (p2 : Int32) : Option (Int32) := fuel2 (b_X5_sumOf_1_5 z0 p2) FU (0 : Int32) (0 : Int32)
abbrev rm_X5_sumOf_1 : Room := { frames := 0, cells := 0, slots := 0, locals := 0 }
set_option maxHeartbeats 4000000 in
set_option maxRecDepth 100000 in
theorem c_X5_sumOf_1 (l : Launch) (D : va_G) (ty : TY) (h0 : Nat) (a0 : Nat → Nat) (z0 : Ob) (p2 : Int32) (o0 : Int32) (hf : f_X5_sumOf_1 z0 p2 = some o0) (sz : Nat) : CX l yX5_sumOf wsX5_sumOf rm_X5_sumOf_1 ([.ref h0, .ref (a0 1), .int p2] : List Value) D ty (fl [oX5 ty h0 a0 z0]) sz (qI D o0 (fl [oX5 ty h0 a0 z0])) 0 0 := by
  refine CX_of (cc := cX5_sumOf) (maxL := 5) (ret := (some .int)) (C := RX5) (by decide) rfl rfl (Nat.le_of_ble_eq_true rfl) ?_
  intro p e s m below meth c A ls F hr hlk _ hK hP hD hS hA hl
  have hx := F.1
  have hb := F.2.1
  replace hl : lv_has ls 5 [(0, .ref h0), (1, .ref (a0 1)), (2, .int p2)] := hl
  unfold f_X5_sumOf_1 at hf
  refine lv_iconst (v := (0 : Int32)) hx hb dX5_sumOf_0 (by decide) ?_
  refine lv_istore_n (lv' := [(3, .int (0 : Int32)), (0, .ref h0), (1, .ref (a0 1)), (2, .int p2)]) hx hb dX5_sumOf_1 rfl hl (by decide) rfl (fun ls hl => ?_)
  refine lv_iconst (v := (0 : Int32)) hx hb dX5_sumOf_2 (by decide) ?_
  refine lv_istore (lv' := [(4, .int (0 : Int32)), (3, .int (0 : Int32)), (0, .ref h0), (1, .ref (a0 1)), (2, .int p2)]) hx hb dX5_sumOf_3 hl (by decide) rfl (fun ls hl => ?_)
  have L_5 : ∀ (n : Nat) (y3 : Int32) (y4 : Int32) (H : Heap) (locs : List Loc) (ls : Array Slot), va_P D vwC (fl [oX5 ty h0 a0 z0]) H → va_D A (fl [oX5 ty h0 a0 z0]) → va_S A s.heap H locs → lv_has ls 5 [(0, .ref h0), (1, .ref (a0 1)), (2, .int p2), (3, .int y3), (4, .int y4)] → fuel2 (b_X5_sumOf_1_5 z0 p2) n y3 y4 = some o0 → W p l e rm_X5_sumOf_1 s m ([.ref h0, .ref (a0 1), .int p2] : List Value).toArray below meth c H locs 0 0 (MQ below (qI D o0 (fl [oX5 ty h0 a0 z0]) A) ([.ref h0, .ref (a0 1), .int p2] : List Value).toArray s 0 0 A) (F0 m 5 ls []) := by
    intro n
    induction n with
    | zero => intro y3 y4 H locs ls hP hD hS hl hf; cases hf
    | succ n ih_5 =>
      intro y3 y4 H locs ls hP hD hS hl hf
      replace hf : b_X5_sumOf_1_5 z0 p2 (fuel2 (b_X5_sumOf_1_5 z0 p2) n) y3 y4 = some o0 := hf
      generalize fuel2 (b_X5_sumOf_1_5 z0 p2) n = r_5 at ih_5 hf
      unfold b_X5_sumOf_1_5 at hf
      have J_33 : ∀ (y4 : Int32) (t0 : Int32) (t1 : Int32) (H : Heap) (locs : List Loc) (ls : Array Slot), va_P D vwC (fl [oX5 ty h0 a0 z0]) H → va_D A (fl [oX5 ty h0 a0 z0]) → va_S A s.heap H locs → lv_has ls 5 [(0, .ref h0), (1, .ref (a0 1)), (2, .int p2), (4, .int y4)] → j_X5_sumOf_1_33 z0 p2 r_5 y4 t0 t1 = some o0 → W p l e rm_X5_sumOf_1 s m ([.ref h0, .ref (a0 1), .int p2] : List Value).toArray below meth c H locs 0 0 (MQ below (qI D o0 (fl [oX5 ty h0 a0 z0]) A) ([.ref h0, .ref (a0 1), .int p2] : List Value).toArray s 0 0 A) (F0 m 33 ls [.int t0, .int t1]) := by
        intro y4 t0 t1 H locs ls hP hD hS hl hf
        unfold j_X5_sumOf_1_33 at hf
        refine lv_iadd hx hb dX5_sumOf_33 ?_
        refine lv_topi (fun x1 ex => ?_)
        replace hf := bnd_at hf ex; clear ex
        refine lv_istore_n (lv' := [(3, .int x1), (0, .ref h0), (1, .ref (a0 1)), (2, .int p2), (4, .int y4)]) hx hb dX5_sumOf_34 rfl hl (by decide) rfl (fun ls hl => ?_)
        obtain ⟨x2, ex⟩ : ∃ y : Int32, y = (y4 + (1 : Int32)) := ⟨_, rfl⟩
        replace hf := bnd_at hf ex
        refine lv_iinc (v := x2) (lv' := [(4, .int x2), (3, .int x1), (0, .ref h0), (1, .ref (a0 1)), (2, .int p2)]) hx hb dX5_sumOf_35 hl (k := 4) rfl (by rw [ex]; rfl) (by decide) rfl (fun ls hl => ?_)
        clear ex
        refine lv_goto (tgt := 5) hx hb dX5_sumOf_38 (by decide) ?_
        exact ih_5 x1 x2 _ _ _ hP hD hS (lv_sub hl [2, 3, 4, 1, 0] rfl) hf
      refine lv_iload hx hb dX5_sumOf_5 (lv_at hl 4 rfl) ?_
      refine lv_aload_n hx hb dX5_sumOf_7 rfl (lv_at hl 0 rfl) ?_
      refine va_get (D := D) (ci := 5) (C := RX5) (T := TX5) (N := 3) hx hb F.2.2.2.2 in_X5_sumOf_X5 F.2.2.2.1 hK.1 hP 0 rfl rfl 2 (Nat.le_of_ble_eq_true rfl) (F.2.2.2.2 (.fieldLink RX5 18 "LouderRoom$Wares" "count" "I") (List.mem_of_getElem? (i := 1) rfl)) (fun _ h9 => h9) rfl dX5_sumOf_8 ?_
      refine lv_icmp_ge (tgt := 41) hx hb dX5_sumOf_11 (by decide) (fun hc => ?_) (fun hc => ?_)
      · replace hf := ite_t hf hc
        refine lv_iload_n hx hb dX5_sumOf_41 rfl (lv_at hl 3 rfl) ?_
        obtain hf := hf
        have e0 := Option.some.inj hf
        exact CX_i F hr hlk hP hD hS e0 dX5_sumOf_42
      · replace hf := ite_f hf hc
        refine lv_iload_n hx hb dX5_sumOf_14 rfl (lv_at hl 3 rfl) ?_
        refine lv_iload_n hx hb dX5_sumOf_15 rfl (lv_at hl 2 rfl) ?_
        refine lv_iload hx hb dX5_sumOf_16 (lv_at hl 4 rfl) ?_
        refine lv_ishr hx hb dX5_sumOf_18 ?_
        refine lv_iconst (v := (1 : Int32)) hx hb dX5_sumOf_19 (by decide) ?_
        refine lv_iand hx hb dX5_sumOf_20 ?_
        refine lv_iconst (v := (1 : Int32)) hx hb dX5_sumOf_21 (by decide) ?_
        refine lv_icmp_ne (tgt := 32) hx hb dX5_sumOf_22 (by decide) (fun hc => ?_) (fun hc => ?_)
        · replace hf := ite_f hf hc
          refine lv_iconst (v := (0 : Int32)) hx hb dX5_sumOf_32 (by decide) ?_
          exact J_33 y4 (0 : Int32) y3 _ _ _ hP hD hS (lv_sub hl [0, 1, 2, 4] rfl) hf
        · replace hf := ite_t hf hc
          refine lv_aload_n hx hb dX5_sumOf_25 rfl (lv_at hl 1 rfl) ?_
          refine lv_iload hx hb dX5_sumOf_26 (lv_at hl 4 rfl) ?_
          obtain ⟨hi, hf⟩ := grd hf
          refine va_iald hx hb hK.1 hP 2 0 rfl rfl (inb_in hi) dX5_sumOf_28 ?_
          refine lv_goto (tgt := 33) hx hb dX5_sumOf_29 (by decide) ?_
          exact J_33 y4 (z0.2 1 y4.toNatClampNeg) y3 _ _ _ hP hD hS (lv_sub hl [0, 1, 2, 4] rfl) hf
  exact L_5 FU (0 : Int32) (0 : Int32) _ _ _ hP hD hS (lv_sub hl [2, 3, 4, 1, 0] rfl) hf
def f_X5_eatenBy (z0 : Ob) (p1 : Int32) : Option (Int32) := (f_X5_sumOf_1 z0 p1).bind (fun v1 => some v1)
abbrev rm_X5_eatenBy : Room := { frames := 1, cells := 0, slots := 0, locals := 24 }
theorem hd_X5_eatenBy : yX5_eatenBy.cls ≠ "java/lang/invoke/MethodHandle" ∧ yX5_eatenBy.cls ≠ "java/lang/invoke/VarHandle" ∧ (parseMethodDescriptor yX5_eatenBy.desc).map (fun d => d.parameters.length) = some 1 := by decide +kernel
theorem in_X5_eatenBy_X5 : ∀ w ∈ wsX50, w ∈ wsX5_eatenBy := fun w h => List.mem_cons_of_mem _ (List.mem_append_right _ h)
set_option maxHeartbeats 4000000 in
set_option maxRecDepth 100000 in
theorem c_X5_eatenBy (l : Launch) (D : va_G) (ty : TY) (h0 : Nat) (a0 : Nat → Nat) (z0 : Ob) (p1 : Int32) (o0 : Int32) (hf : f_X5_eatenBy z0 p1 = some o0) (sz : Nat) : CX l yX5_eatenBy wsX5_eatenBy rm_X5_eatenBy ([.ref h0, .int p1] : List Value) D ty (fl [oX5 ty h0 a0 z0]) sz (qI D o0 (fl [oX5 ty h0 a0 z0])) 0 0 := by
  refine CX_of (cc := cX5_eatenBy) (maxL := 2) (ret := (some .int)) (C := RX5) (by decide) rfl rfl (Nat.le_of_ble_eq_true rfl) ?_
  intro p e s m below meth c A ls F hr hlk _ hK hP hD hS hA hl
  have hx := F.1
  have hb := F.2.1
  replace hl : lv_has ls 2 [(0, .ref h0), (1, .int p1)] := hl
  unfold f_X5_eatenBy at hf
  refine lv_aload_n hx hb dX5_eatenBy_0 rfl (lv_at hl 0 rfl) ?_
  refine lv_aload_n hx hb dX5_eatenBy_1 rfl (lv_at hl 0 rfl) ?_
  refine va_get (D := D) (ci := 5) (C := RX5) (T := TX5) (N := 3) hx hb F.2.2.2.2 in_X5_eatenBy_X5 F.2.2.2.1 hK.1 hP 0 rfl rfl 1 (Nat.le_of_ble_eq_true rfl) (F.2.2.2.2 (.fieldLink RX5 15 "LouderRoom$Wares" "eaten" "[I") (List.mem_of_getElem? (i := 1) rfl)) (fun _ h9 => h9) rfl dX5_eatenBy_2 ?_
  refine lv_iload_n hx hb dX5_eatenBy_5 rfl (lv_at hl 1 rfl) ?_
  obtain ⟨v1, hv, hf⟩ := obd hf
  have hp1 : List.Perm [oX5 ty h0 a0 z0] ([oX5 ty h0 a0 z0] ++ []) := (List.Perm.refl _)
  refine ci_call (out := v1) (os := [oX5 ty h0 a0 z0]) (oc := [oX5 ty h0 a0 z0]) (oc' := [oX5 ty h0 a0 z0]) (or_ := []) (os' := [oX5 ty h0 a0 z0]) (va_runV (As := [.ref (a0 1), .int p1]) (rest := []) F (c_X5_sumOf_1 l D ty h0 a0 _ _ _ hv _) (cwV 2 F.2.2.2.2 gX5_eatenBy_X5_sumOf rfl rfl rfl ⟨rfl, hd_X5_sumOf⟩ ⟨Nat.le_of_ble_eq_true rfl, Nat.le_of_ble_eq_true rfl⟩) (pre_v hK hP hD hp1 rfl rfl rfl) rfl rfl hl.1 rfl (lv_room (Nat.le_of_ble_eq_true rfl)) dX5_eatenBy_6 ⟨Nat.zero_le _, Nat.zero_le _⟩) hp1 (List.Perm.refl _) hP hD hS hA (fun H locs hP hD hS => ?_)
  clear hp1 hv
  obtain hf := hf
  have e0 := Option.some.inj hf
  exact CX_i F hr hlk hP hD hS e0 dX5_eatenBy_9
