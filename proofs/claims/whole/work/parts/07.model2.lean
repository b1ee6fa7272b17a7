def b_X7_layPage_22_2 (p2 : Int32) (r_2 : Int32 → Ob → Option (Ob)) (y3 : Int32) (w0 : Ob) : Option (Ob) := (if (8 : Int32) ≤ y3 then (if inb (p2 + (40 : Int32)) 420 = true then bnd (sA w0 22 (upd (w0.2 22) (p2 + (40 : Int32)).toNatClampNeg (w0.1 4))) (fun g1 => (if inb (p2 + (41 : Int32)) 420 = true then bnd (sA g1 22 (upd (g1.2 22) (p2 + (41 : Int32)).toNatClampNeg (g1.1 11))) (fun g2 => some g2) else none)) else none) else (if inb y3 8 = true then (if inb (p2 + y3) 420 = true then bnd (sA w0 22 (upd (w0.2 22) (p2 + y3).toNatClampNeg (w0.2 5 y3.toNatClampNeg))) (fun g3 => (if inb y3 8 = true then (if inb ((p2 + (8 : Int32)) + y3) 420 = true then bnd (sA g3 22 (upd (g3.2 22) ((p2 + (8 : Int32)) + y3).toNatClampNeg (g3.2 6 y3.toNatClampNeg))) (fun g4 => (if inb y3 8 = true then (if inb ((p2 + (16 : Int32)) + y3) 420 = true then bnd (sA g4 22 (upd (g4.2 22) ((p2 + (16 : Int32)) + y3).toNatClampNeg (g4.2 7 y3.toNatClampNeg))) (fun g5 => (if inb y3 8 = true then (if inb ((p2 + (24 : Int32)) + y3) 420 = true then bnd (sA g5 22 (upd (g5.2 22) ((p2 + (24 : Int32)) + y3).toNatClampNeg (g5.2 8 y3.toNatClampNeg))) (fun g6 => (if inb y3 8 = true then (if inb ((p2 + (32 : Int32)) + y3) 420 = true then bnd (sA g6 22 (upd (g6.2 22) ((p2 + (32 : Int32)) + y3).toNatClampNeg (g6.2 9 y3.toNatClampNeg))) (fun g7 => bnd (y3 + (1 : Int32)) (fun x8 => r_2 x8 g7)) else none) else none)) else none) else none)) else none) else none)) else none) else none)) else none) else none))
def f_X7_layPage_22 (z0 : Ob) (p2 : Int32) : Option (Ob) := fuel2 (b_X7_layPage_22_2 p2) FU (0 : Int32) z0
abbrev rm_X7_layPage_22 : Room := { frames := 0, cells := 0, slots := 0, locals := 0 }
theorem hd_X7_layPage : yX7_layPage.cls ≠ "java/lang/invoke/MethodHandle" ∧ yX7_layPage.cls ≠ "java/lang/invoke/VarHandle" ∧ (parseMethodDescriptor yX7_layPage.desc).map (fun d => d.parameters.length) = some 2 := by decide +kernel
theorem in_X7_layPage_X7 : ∀ w ∈ wsX70, w ∈ wsX7_layPage := fun w h => List.mem_cons_of_mem _ (List.mem_append_right _ h)
set_option maxHeartbeats 4000000 in
set_option maxRecDepth 100000 in
theorem c_X7_layPage_22 (l : Launch) (D : va_G) (ty : TY) (h0 : Nat) (a0 : Nat → Nat) (z0 : Ob) (p2 : Int32) (o0 : Ob) (hf : f_X7_layPage_22 z0 p2 = some o0) (sz : Nat) : CX l yX7_layPage wsX7_layPage rm_X7_layPage_22 ([.ref h0, .ref (a0 22), .int p2] : List Value) D ty (fl [oX7 ty h0 a0 z0]) sz (qV D (fl [oX7 ty h0 a0 o0])) 0 0 := by
  refine CX_of (cc := cX7_layPage) (maxL := 4) (ret := none) (C := RX7) (by decide) rfl rfl (Nat.le_of_ble_eq_true rfl) ?_
  intro p e s m below meth c A ls F hr hlk _ hK hP hD hS hA hl
  have hx := F.1
  have hb := F.2.1
  replace hl : lv_has ls 4 [(0, .ref h0), (1, .ref (a0 22)), (2, .int p2)] := hl
  unfold f_X7_layPage_22 at hf
  refine lv_iconst (v := (0 : Int32)) hx hb dX7_layPage_0 (by decide) ?_
  refine lv_istore_n (lv' := [(3, .int (0 : Int32)), (0, .ref h0), (1, .ref (a0 22)), (2, .int p2)]) hx hb dX7_layPage_1 rfl hl (by decide) rfl (fun ls hl => ?_)
  have L_2 : ∀ (n : Nat) (y3 : Int32) (w0 : Ob) (H : Heap) (locs : List Loc) (ls : Array Slot), va_P D vwC (fl [oX7 ty h0 a0 w0]) H → va_D A (fl [oX7 ty h0 a0 w0]) → va_S A s.heap H locs → lv_has ls 4 [(0, .ref h0), (1, .ref (a0 22)), (2, .int p2), (3, .int y3)] → fuel2 (b_X7_layPage_22_2 p2) n y3 w0 = some o0 → W p l e rm_X7_layPage_22 s m ([.ref h0, .ref (a0 22), .int p2] : List Value).toArray below meth c H locs 0 0 (MQ below (qV D (fl [oX7 ty h0 a0 o0]) A) ([.ref h0, .ref (a0 22), .int p2] : List Value).toArray s 0 0 A) (F0 m 2 ls []) := by
    intro n
    induction n with
    | zero => intro y3 w0 H locs ls hP hD hS hl hf; cases hf
    | succ n ih_2 =>
      intro y3 w0 H locs ls hP hD hS hl hf
      replace hf : b_X7_layPage_22_2 p2 (fuel2 (b_X7_layPage_22_2 p2) n) y3 w0 = some o0 := hf
      generalize fuel2 (b_X7_layPage_22_2 p2) n = r_2 at ih_2 hf
      unfold b_X7_layPage_22_2 at hf
      refine lv_iload_n hx hb dX7_layPage_2 rfl (lv_at hl 3 rfl) ?_
      refine lv_bipush (v := (8 : Int32)) hx hb dX7_layPage_3 (by decide) ?_
      refine lv_icmp_ge (tgt := 81) hx hb dX7_layPage_5 (by decide) (fun hc => ?_) (fun hc => ?_)
      · replace hf := ite_t hf hc
        refine lv_aload_n hx hb dX7_layPage_81 rfl (lv_at hl 1 rfl) ?_
        refine lv_iload_n hx hb dX7_layPage_82 rfl (lv_at hl 2 rfl) ?_
        refine lv_bipush (v := (40 : Int32)) hx hb dX7_layPage_83 (by decide) ?_
        refine lv_iadd hx hb dX7_layPage_85 ?_
        refine lv_aload_n hx hb dX7_layPage_86 rfl (lv_at hl 0 rfl) ?_
        refine va_get (D := D) (ci := 7) (C := RX7) (T := TX7) (N := 40) hx hb F.2.2.2.2 in_X7_layPage_X7 F.2.2.2.1 hK.1 hP 0 rfl rfl 4 (Nat.le_of_ble_eq_true rfl) (F.2.2.2.2 (.fieldLink RX7 75 "LouderRoomModel" "rings" "I") (List.mem_of_getElem? (i := 6) rfl)) (fun _ h9 => h9) rfl dX7_layPage_87 ?_
        obtain ⟨hi, hf⟩ := grd hf
        refine pt_iast (w1 := fl [oX7 ty h0 a0 (sA w0 22 (upd (w0.2 22) (p2 + (40 : Int32)).toNatClampNeg (w0.1 4)))]) F hK.1 hP hD hS 11 0 rfl rfl (inb_in hi) rfl dX7_layPage_90 (fun H locs hP hD hS => ?_)
        obtain ⟨g1, ex⟩ : ∃ y : Ob, y = (sA w0 22 (upd (w0.2 22) (p2 + (40 : Int32)).toNatClampNeg (w0.1 4))) := ⟨_, rfl⟩
        replace hf := bnd_at hf ex; rw [← ex] at hP hD; clear ex
        refine lv_aload_n hx hb dX7_layPage_91 rfl (lv_at hl 1 rfl) ?_
        refine lv_iload_n hx hb dX7_layPage_92 rfl (lv_at hl 2 rfl) ?_
        refine lv_bipush (v := (41 : Int32)) hx hb dX7_layPage_93 (by decide) ?_
        refine lv_iadd hx hb dX7_layPage_95 ?_
        refine lv_aload_n hx hb dX7_layPage_96 rfl (lv_at hl 0 rfl) ?_
        refine va_get (D := D) (ci := 7) (C := RX7) (T := TX7) (N := 40) hx hb F.2.2.2.2 in_X7_layPage_X7 F.2.2.2.1 hK.1 hP 0 rfl rfl 11 (Nat.le_of_ble_eq_true rfl) (F.2.2.2.2 (.fieldLink RX7 128 "LouderRoomModel" "music" "I") (List.mem_of_getElem? (i := 7) rfl)) (fun _ h9 => h9) rfl dX7_layPage_97 ?_
        obtain ⟨hi, hf⟩ := grd hf
        refine pt_iast (w1 := fl [oX7 ty h0 a0 (sA g1 22 (upd (g1.2 22) (p2 + (41 : Int32)).toNatClampNeg (g1.1 11)))]) F hK.1 hP hD hS 11 0 rfl rfl (inb_in hi) rfl dX7_layPage_100 (fun H locs hP hD hS => ?_)
        obtain ⟨g2, ex⟩ : ∃ y : Ob, y = (sA g1 22 (upd (g1.2 22) (p2 + (41 : Int32)).toNatClampNeg (g1.1 11))) := ⟨_, rfl⟩
        replace hf := bnd_at hf ex; rw [← ex] at hP hD; clear ex
        obtain hf := hf
        have e0 := Option.some.inj hf
        rw [e0] at hP hD
        exact CX_v F hr hlk hP hD hS dX7_layPage_101
      · replace hf := ite_f hf hc
        refine lv_aload_n hx hb dX7_layPage_8 rfl (lv_at hl 1 rfl) ?_
        refine lv_iload_n hx hb dX7_layPage_9 rfl (lv_at hl 2 rfl) ?_
        refine lv_iload_n hx hb dX7_layPage_10 rfl (lv_at hl 3 rfl) ?_
        refine lv_iadd hx hb dX7_layPage_11 ?_
        refine lv_aload_n hx hb dX7_layPage_12 rfl (lv_at hl 0 rfl) ?_
        refine va_get (D := D) (ci := 7) (C := RX7) (T := TX7) (N := 40) hx hb F.2.2.2.2 in_X7_layPage_X7 F.2.2.2.1 hK.1 hP 0 rfl rfl 5 (Nat.le_of_ble_eq_true rfl) (F.2.2.2.2 (.fieldLink RX7 13 "LouderRoomModel" "kind" "[I") (List.mem_of_getElem? (i := 1) rfl)) (fun _ h9 => h9) rfl dX7_layPage_13 ?_
        refine lv_iload_n hx hb dX7_layPage_16 rfl (lv_at hl 3 rfl) ?_
        obtain ⟨hi, hf⟩ := grd hf
        refine va_iald hx hb hK.1 hP 2 0 rfl rfl (inb_in hi) dX7_layPage_17 ?_
        obtain ⟨hi, hf⟩ := grd hf
        refine pt_iast (w1 := fl [oX7 ty h0 a0 (sA w0 22 (upd (w0.2 22) (p2 + y3).toNatClampNeg (w0.2 5 y3.toNatClampNeg)))]) F hK.1 hP hD hS 11 0 rfl rfl (inb_in hi) rfl dX7_layPage_18 (fun H locs hP hD hS => ?_)
        obtain ⟨g3, ex⟩ : ∃ y : Ob, y = (sA w0 22 (upd (w0.2 22) (p2 + y3).toNatClampNeg (w0.2 5 y3.toNatClampNeg))) := ⟨_, rfl⟩
        replace hf := bnd_at hf ex; rw [← ex] at hP hD; clear ex
        refine lv_aload_n hx hb dX7_layPage_19 rfl (lv_at hl 1 rfl) ?_
        refine lv_iload_n hx hb dX7_layPage_20 rfl (lv_at hl 2 rfl) ?_
        refine lv_bipush (v := (8 : Int32)) hx hb dX7_layPage_21 (by decide) ?_
        refine lv_iadd hx hb dX7_layPage_23 ?_
        refine lv_iload_n hx hb dX7_layPage_24 rfl (lv_at hl 3 rfl) ?_
        refine lv_iadd hx hb dX7_layPage_25 ?_
        refine lv_aload_n hx hb dX7_layPage_26 rfl (lv_at hl 0 rfl) ?_
        refine va_get (D := D) (ci := 7) (C := RX7) (T := TX7) (N := 40) hx hb F.2.2.2.2 in_X7_layPage_X7 F.2.2.2.1 hK.1 hP 0 rfl rfl 6 (Nat.le_of_ble_eq_true rfl) (F.2.2.2.2 (.fieldLink RX7 16 "LouderRoomModel" "cell" "[I") (List.mem_of_getElem? (i := 2) rfl)) (fun _ h9 => h9) rfl dX7_layPage_27 ?_
        refine lv_iload_n hx hb dX7_layPage_30 rfl (lv_at hl 3 rfl) ?_
        obtain ⟨hi, hf⟩ := grd hf
        refine va_iald hx hb hK.1 hP 3 0 rfl rfl (inb_in hi) dX7_layPage_31 ?_
        obtain ⟨hi, hf⟩ := grd hf
        refine pt_iast (w1 := fl [oX7 ty h0 a0 (sA g3 22 (upd (g3.2 22) ((p2 + (8 : Int32)) + y3).toNatClampNeg (g3.2 6 y3.toNatClampNeg)))]) F hK.1 hP hD hS 11 0 rfl rfl (inb_in hi) rfl dX7_layPage_32 (fun H locs hP hD hS => ?_)
        obtain ⟨g4, ex⟩ : ∃ y : Ob, y = (sA g3 22 (upd (g3.2 22) ((p2 + (8 : Int32)) + y3).toNatClampNeg (g3.2 6 y3.toNatClampNeg))) := ⟨_, rfl⟩
        replace hf := bnd_at hf ex; rw [← ex] at hP hD; clear ex
        refine lv_aload_n hx hb dX7_layPage_33 rfl (lv_at hl 1 rfl) ?_
        refine lv_iload_n hx hb dX7_layPage_34 rfl (lv_at hl 2 rfl) ?_
        refine lv_bipush (v := (16 : Int32)) hx hb dX7_layPage_35 (by decide) ?_
        refine lv_iadd hx hb dX7_layPage_37 ?_
        refine lv_iload_n hx hb dX7_layPage_38 rfl (lv_at hl 3 rfl) ?_
        refine lv_iadd hx hb dX7_layPage_39 ?_
        refine lv_aload_n hx hb dX7_layPage_40 rfl (lv_at hl 0 rfl) ?_
        refine va_get (D := D) (ci := 7) (C := RX7) (T := TX7) (N := 40) hx hb F.2.2.2.2 in_X7_layPage_X7 F.2.2.2.1 hK.1 hP 0 rfl rfl 7 (Nat.le_of_ble_eq_true rfl) (F.2.2.2.2 (.fieldLink RX7 19 "LouderRoomModel" "people" "[I") (List.mem_of_getElem? (i := 3) rfl)) (fun _ h9 => h9) rfl dX7_layPage_41 ?_
        refine lv_iload_n hx hb dX7_layPage_44 rfl (lv_at hl 3 rfl) ?_
        obtain ⟨hi, hf⟩ := grd hf
        refine va_iald hx hb hK.1 hP 4 0 rfl rfl (inb_in hi) dX7_layPage_45 ?_
        obtain ⟨hi, hf⟩ := grd hf
        refine pt_iast (w1 := fl [oX7 ty h0 a0 (sA g4 22 (upd (g4.2 22) ((p2 + (16 : Int32)) + y3).toNatClampNeg (g4.2 7 y3.toNatClampNeg)))]) F hK.1 hP hD hS 11 0 rfl rfl (inb_in hi) rfl dX7_layPage_46 (fun H locs hP hD hS => ?_)
        obtain ⟨g5, ex⟩ : ∃ y : Ob, y = (sA g4 22 (upd (g4.2 22) ((p2 + (16 : Int32)) + y3).toNatClampNeg (g4.2 7 y3.toNatClampNeg))) := ⟨_, rfl⟩
        replace hf := bnd_at hf ex; rw [← ex] at hP hD; clear ex
        refine lv_aload_n hx hb dX7_layPage_47 rfl (lv_at hl 1 rfl) ?_
        refine lv_iload_n hx hb dX7_layPage_48 rfl (lv_at hl 2 rfl) ?_
        refine lv_bipush (v := (24 : Int32)) hx hb dX7_layPage_49 (by decide) ?_
        refine lv_iadd hx hb dX7_layPage_51 ?_
        refine lv_iload_n hx hb dX7_layPage_52 rfl (lv_at hl 3 rfl) ?_
        refine lv_iadd hx hb dX7_layPage_53 ?_
        refine lv_aload_n hx hb dX7_layPage_54 rfl (lv_at hl 0 rfl) ?_
        refine va_get (D := D) (ci := 7) (C := RX7) (T := TX7) (N := 40) hx hb F.2.2.2.2 in_X7_layPage_X7 F.2.2.2.1 hK.1 hP 0 rfl rfl 8 (Nat.le_of_ble_eq_true rfl) (F.2.2.2.2 (.fieldLink RX7 22 "LouderRoomModel" "voice" "[I") (List.mem_of_getElem? (i := 4) rfl)) (fun _ h9 => h9) rfl dX7_layPage_55 ?_
        refine lv_iload_n hx hb dX7_layPage_58 rfl (lv_at hl 3 rfl) ?_
        obtain ⟨hi, hf⟩ := grd hf
        refine va_iald hx hb hK.1 hP 5 0 rfl rfl (inb_in hi) dX7_layPage_59 ?_
        obtain ⟨hi, hf⟩ := grd hf
        refine pt_iast (w1 := fl [oX7 ty h0 a0 (sA g5 22 (upd (g5.2 22) ((p2 + (24 : Int32)) + y3).toNatClampNeg (g5.2 8 y3.toNatClampNeg)))]) F hK.1 hP hD hS 11 0 rfl rfl (inb_in hi) rfl dX7_layPage_60 (fun H locs hP hD hS => ?_)
        obtain ⟨g6, ex⟩ : ∃ y : Ob, y = (sA g5 22 (upd (g5.2 22) ((p2 + (24 : Int32)) + y3).toNatClampNeg (g5.2 8 y3.toNatClampNeg))) := ⟨_, rfl⟩
        replace hf := bnd_at hf ex; rw [← ex] at hP hD; clear ex
        refine lv_aload_n hx hb dX7_layPage_61 rfl (lv_at hl 1 rfl) ?_
        refine lv_iload_n hx hb dX7_layPage_62 rfl (lv_at hl 2 rfl) ?_
        refine lv_bipush (v := (32 : Int32)) hx hb dX7_layPage_63 (by decide) ?_
        refine lv_iadd hx hb dX7_layPage_65 ?_
        refine lv_iload_n hx hb dX7_layPage_66 rfl (lv_at hl 3 rfl) ?_
        refine lv_iadd hx hb dX7_layPage_67 ?_
        refine lv_aload_n hx hb dX7_layPage_68 rfl (lv_at hl 0 rfl) ?_
        refine va_get (D := D) (ci := 7) (C := RX7) (T := TX7) (N := 40) hx hb F.2.2.2.2 in_X7_layPage_X7 F.2.2.2.1 hK.1 hP 0 rfl rfl 9 (Nat.le_of_ble_eq_true rfl) (F.2.2.2.2 (.fieldLink RX7 25 "LouderRoomModel" "age" "[I") (List.mem_of_getElem? (i := 5) rfl)) (fun _ h9 => h9) rfl dX7_layPage_69 ?_
        refine lv_iload_n hx hb dX7_layPage_72 rfl (lv_at hl 3 rfl) ?_
        obtain ⟨hi, hf⟩ := grd hf
        refine va_iald hx hb hK.1 hP 6 0 rfl rfl (inb_in hi) dX7_layPage_73 ?_
        obtain ⟨hi, hf⟩ := grd hf
        refine pt_iast (w1 := fl [oX7 ty h0 a0 (sA g6 22 (upd (g6.2 22) ((p2 + (32 : Int32)) + y3).toNatClampNeg (g6.2 9 y3.toNatClampNeg)))]) F hK.1 hP hD hS 11 0 rfl rfl (inb_in hi) rfl dX7_layPage_74 (fun H locs hP hD hS => ?_)
        obtain ⟨g7, ex⟩ : ∃ y : Ob, y = (sA g6 22 (upd (g6.2 22) ((p2 + (32 : Int32)) + y3).toNatClampNeg (g6.2 9 y3.toNatClampNeg))) := ⟨_, rfl⟩
        replace hf := bnd_at hf ex; rw [← ex] at hP hD; clear ex
        obtain ⟨x8, ex⟩ : ∃ y : Int32, y = (y3 + (1 : Int32)) := ⟨_, rfl⟩
        replace hf := bnd_at hf ex
        refine lv_iinc (v := x8) (lv' := [(3, .int x8), (0, .ref h0), (1, .ref (a0 22)), (2, .int p2)]) hx hb dX7_layPage_75 hl (k := 3) rfl (by rw [ex]; rfl) (by decide) rfl (fun ls hl => ?_)
        clear ex
        refine lv_goto (tgt := 2) hx hb dX7_layPage_78 (by decide) ?_
        exact ih_2 x8 g7 _ _ _ hP hD hS (lv_sub hl [1, 2, 3, 0] rfl) hf
  exact L_2 FU (0 : Int32) z0 _ _ _ hP hD hS (lv_sub hl [1, 2, 3, 0] rfl) hf
def j_X7_note_49 (w0 : Ob) : Option (Ob) := (f_X7_layPage_22 w0 ((42 : Int32) * (w0.1 23))).bind (fun g1 => bnd (sI g1 23 ((g1.1 23) + (1 : Int32))) (fun g2 => some g2))
def b_X7_note_11 (r_11 : Int32 → Ob → Option (Ob)) (y1 : Int32) (w0 : Ob) : Option (Ob) := (if (378 : Int32) ≤ y1 then bnd (sI w0 23 ((w0.1 23) - (1 : Int32))) (fun g3 => j_X7_note_49 g3) else (if inb (y1 + (42 : Int32)) 420 = true then (if inb y1 420 = true then bnd (sA w0 22 (upd (w0.2 22) y1.toNatClampNeg (w0.2 22 (y1 + (42 : Int32)).toNatClampNeg))) (fun g4 => bnd (y1 + (1 : Int32)) (fun x5 => r_11 x5 g4)) else none) else none))
def f_X7_note (z0 : Ob) : Option (Ob) := (if (z0.1 23) = (10 : Int32) then fuel2 (b_X7_note_11) FU (0 : Int32) z0 else j_X7_note_49 z0)
abbrev rm_X7_note : Room := { frames := 1, cells := 0, slots := 0, locals := 23 }
theorem hd_X7_note : yX7_note.cls ≠ "java/lang/invoke/MethodHandle" ∧ yX7_note.cls ≠ "java/lang/invoke/VarHandle" ∧ (parseMethodDescriptor yX7_note.desc).map (fun d => d.parameters.length) = some 0 := by decide +kernel
theorem in_X7_note_X7 : ∀ w ∈ wsX70, w ∈ wsX7_note := fun w h => List.mem_cons_of_mem _ (List.mem_append_right _ h)
set_option maxHeartbeats 4000000 in
set_option maxRecDepth 100000 in
theorem c_X7_note (l : Launch) (D : va_G) (ty : TY) (h0 : Nat) (a0 : Nat → Nat) (z0 : Ob) (o0 : Ob) (hf : f_X7_note z0 = some o0) (sz : Nat) : CX l yX7_note wsX7_note rm_X7_note ([.ref h0] : List Value) D ty (fl [oX7 ty h0 a0 z0]) sz (qV D (fl [oX7 ty h0 a0 o0])) 0 0 := by
  refine CX_of (cc := cX7_note) (maxL := 2) (ret := none) (C := RX7) (by decide) rfl rfl (Nat.le_of_ble_eq_true rfl) ?_
  intro p e s m below meth c A ls F hr hlk _ hK hP hD hS hA hl
  have hx := F.1
  have hb := F.2.1
  replace hl : lv_has ls 2 [(0, .ref h0)] := hl
  unfold f_X7_note at hf
  have J_49 : ∀ (w0 : Ob) (H : Heap) (locs : List Loc) (ls : Array Slot), va_P D vwC (fl [oX7 ty h0 a0 w0]) H → va_D A (fl [oX7 ty h0 a0 w0]) → va_S A s.heap H locs → lv_has ls 2 [(0, .ref h0)] → j_X7_note_49 w0 = some o0 → W p l e rm_X7_note s m ([.ref h0] : List Value).toArray below meth c H locs 0 0 (MQ below (qV D (fl [oX7 ty h0 a0 o0]) A) ([.ref h0] : List Value).toArray s 0 0 A) (F0 m 49 ls []) := by
    intro w0 H locs ls hP hD hS hl hf
    unfold j_X7_note_49 at hf
    refine lv_aload_n hx hb dX7_note_49 rfl (lv_at hl 0 rfl) ?_
    refine lv_aload_n hx hb dX7_note_50 rfl (lv_at hl 0 rfl) ?_
    refine va_get (D := D) (ci := 7) (C := RX7) (T := TX7) (N := 40) hx hb F.2.2.2.2 in_X7_note_X7 F.2.2.2.1 hK.1 hP 0 rfl rfl 22 (Nat.le_of_ble_eq_true rfl) (F.2.2.2.2 (.fieldLink RX7 40 "LouderRoomModel" "book" "[I") (List.mem_of_getElem? (i := 2) rfl)) (fun _ h9 => h9) rfl dX7_note_51 ?_
    refine lv_bipush (v := (42 : Int32)) hx hb dX7_note_54 (by decide) ?_
    refine lv_aload_n hx hb dX7_note_56 rfl (lv_at hl 0 rfl) ?_
    refine va_get (D := D) (ci := 7) (C := RX7) (T := TX7) (N := 40) hx hb F.2.2.2.2 in_X7_note_X7 F.2.2.2.1 hK.1 hP 0 rfl rfl 23 (Nat.le_of_ble_eq_true rfl) (F.2.2.2.2 (.fieldLink RX7 135 "LouderRoomModel" "acts" "I") (List.mem_of_getElem? (i := 1) rfl)) (fun _ h9 => h9) rfl dX7_note_57 ?_
    refine lv_imul hx hb dX7_note_60 ?_
    obtain ⟨g1, hv, hf⟩ := obd hf
    have hp1 : List.Perm [oX7 ty h0 a0 w0] ([oX7 ty h0 a0 w0] ++ []) := (List.Perm.refl _)
    refine cv_call (os := [oX7 ty h0 a0 w0]) (oc := [oX7 ty h0 a0 w0]) (oc' := [oX7 ty h0 a0 g1]) (or_ := []) (os' := [oX7 ty h0 a0 g1]) (va_runV (As := [.ref (a0 22), .int ((42 : Int32) * (w0.1 23))]) (rest := []) F (c_X7_layPage_22 l D ty h0 a0 _ _ _ hv _) (cwV 2 F.2.2.2.2 gX7_note_X7_layPage rfl rfl rfl ⟨rfl, hd_X7_layPage⟩ ⟨Nat.le_of_ble_eq_true rfl, Nat.le_of_ble_eq_true rfl⟩) (pre_v hK hP hD hp1 rfl rfl rfl) rfl rfl hl.1 rfl (lv_room (Nat.le_of_ble_eq_true rfl)) dX7_note_61 ⟨Nat.zero_le _, Nat.zero_le _⟩) hp1 (List.Perm.refl _) hP hD hS hA (fun H locs hP hD hS => ?_)
    clear hp1 hv
    refine lv_aload_n hx hb dX7_note_64 rfl (lv_at hl 0 rfl) ?_
    refine lv_dup hx hb dX7_note_65 rfl ?_
    refine va_get (D := D) (ci := 7) (C := RX7) (T := TX7) (N := 40) hx hb F.2.2.2.2 in_X7_note_X7 F.2.2.2.1 hK.1 hP 0 rfl rfl 23 (Nat.le_of_ble_eq_true rfl) (F.2.2.2.2 (.fieldLink RX7 135 "LouderRoomModel" "acts" "I") (List.mem_of_getElem? (i := 1) rfl)) (fun _ h9 => h9) rfl dX7_note_66 ?_
    refine lv_iconst (v := (1 : Int32)) hx hb dX7_note_69 (by decide) ?_
    refine lv_iadd hx hb dX7_note_70 ?_
    refine pt_put (D := D) (ci := 7) (fty := .int) (C := RX7) (T := TX7) (N := 40) (w1 := fl [oX7 ty h0 a0 (sI g1 23 ((g1.1 23) + (1 : Int32)))]) F in_X7_note_X7 tyX7 tyX7_ok nmX7 hK.1 hP hD hS 0 rfl rfl 23 (Nat.le_of_ble_eq_true rfl) (F.2.2.2.2 (.fieldLink RX7 135 "LouderRoomModel" "acts" "I") (List.mem_of_getElem? (i := 1) rfl)) (fun _ h9 => h9) rfl (by decide +kernel) rfl rfl (Nat.le_of_ble_eq_true rfl) rfl dX7_note_71 (fun H locs hP hD hS => ?_)
    obtain ⟨g2, ex⟩ : ∃ y : Ob, y = (sI g1 23 ((g1.1 23) + (1 : Int32))) := ⟨_, rfl⟩
    replace hf := bnd_at hf ex; rw [← ex] at hP hD; clear ex
    obtain hf := hf
    have e0 := Option.some.inj hf
    rw [e0] at hP hD
    exact CX_v F hr hlk hP hD hS dX7_note_74
  refine lv_aload_n hx hb dX7_note_0 rfl (lv_at hl 0 rfl) ?_
  refine va_get (D := D) (ci := 7) (C := RX7) (T := TX7) (N := 40) hx hb F.2.2.2.2 in_X7_note_X7 F.2.2.2.1 hK.1 hP 0 rfl rfl 23 (Nat.le_of_ble_eq_true rfl) (F.2.2.2.2 (.fieldLink RX7 135 "LouderRoomModel" "acts" "I") (List.mem_of_getElem? (i := 1) rfl)) (fun _ h9 => h9) rfl dX7_note_1 ?_
  refine lv_bipush (v := (10 : Int32)) hx hb dX7_note_4 (by decide) ?_
  refine lv_icmp_ne (tgt := 49) hx hb dX7_note_6 (by decide) (fun hc => ?_) (fun hc => ?_)
  · replace hf := ite_f hf hc
    exact J_49 z0 _ _ _ hP hD hS (lv_sub hl [0] rfl) hf
  · replace hf := ite_t hf hc
    refine lv_iconst (v := (0 : Int32)) hx hb dX7_note_9 (by decide) ?_
    refine lv_istore_n (lv' := [(1, .int (0 : Int32)), (0, .ref h0)]) hx hb dX7_note_10 rfl hl (by decide) rfl (fun ls hl => ?_)
    have L_11 : ∀ (n : Nat) (y1 : Int32) (w0 : Ob) (H : Heap) (locs : List Loc) (ls : Array Slot), va_P D vwC (fl [oX7 ty h0 a0 w0]) H → va_D A (fl [oX7 ty h0 a0 w0]) → va_S A s.heap H locs → lv_has ls 2 [(0, .ref h0), (1, .int y1)] → fuel2 (b_X7_note_11) n y1 w0 = some o0 → W p l e rm_X7_note s m ([.ref h0] : List Value).toArray below meth c H locs 0 0 (MQ below (qV D (fl [oX7 ty h0 a0 o0]) A) ([.ref h0] : List Value).toArray s 0 0 A) (F0 m 11 ls []) := by
      intro n
      induction n with
      | zero => intro y1 w0 H locs ls hP hD hS hl hf; cases hf
      | succ n ih_11 =>
        intro y1 w0 H locs ls hP hD hS hl hf
        replace hf : b_X7_note_11 (fuel2 (b_X7_note_11) n) y1 w0 = some o0 := hf
        generalize fuel2 (b_X7_note_11) n = r_11 at ih_11 hf
        unfold b_X7_note_11 at hf
        refine lv_iload_n hx hb dX7_note_11 rfl (lv_at hl 1 rfl) ?_
        refine lv_sipush (v := (378 : Int32)) hx hb dX7_note_12 (by decide) ?_
        refine lv_icmp_ge (tgt := 39) hx hb dX7_note_15 (by decide) (fun hc => ?_) (fun hc => ?_)
        · replace hf := ite_t hf hc
          refine lv_aload_n hx hb dX7_note_39 rfl (lv_at hl 0 rfl) ?_
          refine lv_dup hx hb dX7_note_40 rfl ?_
          refine va_get (D := D) (ci := 7) (C := RX7) (T := TX7) (N := 40) hx hb F.2.2.2.2 in_X7_note_X7 F.2.2.2.1 hK.1 hP 0 rfl rfl 23 (Nat.le_of_ble_eq_true rfl) (F.2.2.2.2 (.fieldLink RX7 135 "LouderRoomModel" "acts" "I") (List.mem_of_getElem? (i := 1) rfl)) (fun _ h9 => h9) rfl dX7_note_41 ?_
          refine lv_iconst (v := (1 : Int32)) hx hb dX7_note_44 (by decide) ?_
          refine lv_isub hx hb dX7_note_45 ?_
          refine pt_put (D := D) (ci := 7) (fty := .int) (C := RX7) (T := TX7) (N := 40) (w1 := fl [oX7 ty h0 a0 (sI w0 23 ((w0.1 23) - (1 : Int32)))]) F in_X7_note_X7 tyX7 tyX7_ok nmX7 hK.1 hP hD hS 0 rfl rfl 23 (Nat.le_of_ble_eq_true rfl) (F.2.2.2.2 (.fieldLink RX7 135 "LouderRoomModel" "acts" "I") (List.mem_of_getElem? (i := 1) rfl)) (fun _ h9 => h9) rfl (by decide +kernel) rfl rfl (Nat.le_of_ble_eq_true rfl) rfl dX7_note_46 (fun H locs hP hD hS => ?_)
          obtain ⟨g3, ex⟩ : ∃ y : Ob, y = (sI w0 23 ((w0.1 23) - (1 : Int32))) := ⟨_, rfl⟩
          replace hf := bnd_at hf ex; rw [← ex] at hP hD; clear ex
          exact J_49 g3 _ _ _ hP hD hS (lv_sub hl [0] rfl) hf
        · replace hf := ite_f hf hc
          refine lv_aload_n hx hb dX7_note_18 rfl (lv_at hl 0 rfl) ?_
          refine va_get (D := D) (ci := 7) (C := RX7) (T := TX7) (N := 40) hx hb F.2.2.2.2 in_X7_note_X7 F.2.2.2.1 hK.1 hP 0 rfl rfl 22 (Nat.le_of_ble_eq_true rfl) (F.2.2.2.2 (.fieldLink RX7 40 "LouderRoomModel" "book" "[I") (List.mem_of_getElem? (i := 2) rfl)) (fun _ h9 => h9) rfl dX7_note_19 ?_
          refine lv_iload_n hx hb dX7_note_22 rfl (lv_at hl 1 rfl) ?_
          refine lv_aload_n hx hb dX7_note_23 rfl (lv_at hl 0 rfl) ?_
          refine va_get (D := D) (ci := 7) (C := RX7) (T := TX7) (N := 40) hx hb F.2.2.2.2 in_X7_note_X7 F.2.2.2.1 hK.1 hP 0 rfl rfl 22 (Nat.le_of_ble_eq_true rfl) (F.2.2.2.2 (.fieldLink RX7 40 "LouderRoomModel" "book" "[I") (List.mem_of_getElem? (i := 2) rfl)) (fun _ h9 => h9) rfl dX7_note_24 ?_
          refine lv_iload_n hx hb dX7_note_27 rfl (lv_at hl 1 rfl) ?_
          refine lv_bipush (v := (42 : Int32)) hx hb dX7_note_28 (by decide) ?_
          refine lv_iadd hx hb dX7_note_30 ?_
          obtain ⟨hi, hf⟩ := grd hf
          refine va_iald hx hb hK.1 hP 11 0 rfl rfl (inb_in hi) dX7_note_31 ?_
          obtain ⟨hi, hf⟩ := grd hf
          refine pt_iast (w1 := fl [oX7 ty h0 a0 (sA w0 22 (upd (w0.2 22) y1.toNatClampNeg (w0.2 22 (y1 + (42 : Int32)).toNatClampNeg)))]) F hK.1 hP hD hS 11 0 rfl rfl (inb_in hi) rfl dX7_note_32 (fun H locs hP hD hS => ?_)
          obtain ⟨g4, ex⟩ : ∃ y : Ob, y = (sA w0 22 (upd (w0.2 22) y1.toNatClampNeg (w0.2 22 (y1 + (42 : Int32)).toNatClampNeg))) := ⟨_, rfl⟩
          replace hf := bnd_at hf ex; rw [← ex] at hP hD; clear ex
          obtain ⟨x5, ex⟩ : ∃ y : Int32, y = (y1 + (1 : Int32)) := ⟨_, rfl⟩
          replace hf := bnd_at hf ex
          refine lv_iinc (v := x5) (lv' := [(1, .int x5), (0, .ref h0)]) hx hb dX7_note_33 hl (k := 1) rfl (by rw [ex]; rfl) (by decide) rfl (fun ls hl => ?_)
          clear ex
          refine lv_goto (tgt := 11) hx hb dX7_note_36 (by decide) ?_
          exact ih_11 x5 g4 _ _ _ hP hD hS (lv_sub hl [1, 0] rfl) hf
    exact L_11 FU (0 : Int32) z0 _ _ _ hP hD hS (lv_sub hl [1, 0] rfl) hf
def b_X7_minute_20 (y1 : Int32) (r_20 : Int32 → Ob → Option (Int32 × Ob)) (y2 : Int32) (w0 : Ob) : Option (Int32 × Ob) := (if (w0.1 4) ≤ y2 then bnd (sI w0 11 (w0.1 31)) (fun g6 => (if 0 ≤ y1 then some (y1, g6) else some ((0 : Int32), g6))) else (if inb y2 8 = true then (if inb y2 8 = true then bnd (sA w0 8 (upd (w0.2 8) y2.toNatClampNeg (w0.2 29 y2.toNatClampNeg))) (fun g7 => bnd (y2 + (1 : Int32)) (fun x8 => r_20 x8 g7)) else none) else none))
def f_X7_minute (z0 : Ob) : Option (Int32 × Ob) := bnd (sI z0 0 (0 : Int32)) (fun g1 => (f_X7_note g1).bind (fun g2 => (f_X7_begin g2).bind (fun g3 => bd2 (f_X7_go g3) (fun v4 g5 => fuel2 (b_X7_minute_20 v4) FU (0 : Int32) g5))))
abbrev rm_X7_minute : Room := { frames := 7, cells := 0, slots := 0, locals := 155 }
theorem hd_X7_minute : yX7_minute.cls ≠ "java/lang/invoke/MethodHandle" ∧ yX7_minute.cls ≠ "java/lang/invoke/VarHandle" ∧ (parseMethodDescriptor yX7_minute.desc).map (fun d => d.parameters.length) = some 0 := by decide +kernel
theorem in_X7_minute_X7 : ∀ w ∈ wsX70, w ∈ wsX7_minute := fun w h => List.mem_cons_of_mem _ (List.mem_append_right _ h)
set_option maxHeartbeats 4000000 in
set_option maxRecDepth 100000 in
theorem c_X7_minute (l : Launch) (D : va_G) (ty : TY) (h0 : Nat) (a0 : Nat → Nat) (z0 : Ob) (o0 : Int32) (o1 : Ob) (hf : f_X7_minute z0 = some (o0, o1)) (sz : Nat) : CX l yX7_minute wsX7_minute rm_X7_minute ([.ref h0] : List Value) D ty (fl [oX7 ty h0 a0 z0]) sz (qI D o0 (fl [oX7 ty h0 a0 o1])) 0 0 := by
  refine CX_of (cc := cX7_minute) (maxL := 3) (ret := (some .int)) (C := RX7) (by decide) rfl rfl (Nat.le_of_ble_eq_true rfl) ?_
  intro p e s m below meth c A ls F hr hlk _ hK hP hD hS hA hl
  have hx := F.1
  have hb := F.2.1
  replace hl : lv_has ls 3 [(0, .ref h0)] := hl
  unfold f_X7_minute at hf
  refine lv_aload_n hx hb dX7_minute_0 rfl (lv_at hl 0 rfl) ?_
  refine lv_iconst (v := (0 : Int32)) hx hb dX7_minute_1 (by decide) ?_
  refine pt_put (D := D) (ci := 7) (fty := .int) (C := RX7) (T := TX7) (N := 40) (w1 := fl [oX7 ty h0 a0 (sI z0 0 (0 : Int32))]) F in_X7_minute_X7 tyX7 tyX7_ok nmX7 hK.1 hP hD hS 0 rfl rfl 0 (Nat.le_of_ble_eq_true rfl) (F.2.2.2.2 (.fieldLink RX7 71 "LouderRoomModel" "thrown" "I") (List.mem_of_getElem? (i := 1) rfl)) (fun _ h9 => h9) rfl (by decide +kernel) rfl rfl (Nat.le_of_ble_eq_true rfl) rfl dX7_minute_2 (fun H locs hP hD hS => ?_)
  obtain ⟨g1, ex⟩ : ∃ y : Ob, y = (sI z0 0 (0 : Int32)) := ⟨_, rfl⟩
  replace hf := bnd_at hf ex; rw [← ex] at hP hD; clear ex
  refine lv_aload_n hx hb dX7_minute_5 rfl (lv_at hl 0 rfl) ?_
  obtain ⟨g2, hv, hf⟩ := obd hf
  have hp1 : List.Perm [oX7 ty h0 a0 g1] ([oX7 ty h0 a0 g1] ++ []) := (List.Perm.refl _)
  refine cv_call (os := [oX7 ty h0 a0 g1]) (oc := [oX7 ty h0 a0 g1]) (oc' := [oX7 ty h0 a0 g2]) (or_ := []) (os' := [oX7 ty h0 a0 g2]) (va_runV (As := []) (rest := []) F (c_X7_note l D ty h0 a0 _ _ hv _) (cwV 0 F.2.2.2.2 gX7_minute_X7_note rfl rfl rfl ⟨rfl, hd_X7_note⟩ ⟨Nat.le_of_ble_eq_true rfl, Nat.le_of_ble_eq_true rfl⟩) (pre_v hK hP hD hp1 rfl rfl rfl) rfl rfl hl.1 rfl (lv_room (Nat.le_of_ble_eq_true rfl)) dX7_minute_6 ⟨Nat.zero_le _, Nat.zero_le _⟩) hp1 (List.Perm.refl _) hP hD hS hA (fun H locs hP hD hS => ?_)
  clear hp1 hv
  refine lv_aload_n hx hb dX7_minute_9 rfl (lv_at hl 0 rfl) ?_
  obtain ⟨g3, hv, hf⟩ := obd hf
  have hp1 : List.Perm [oX7 ty h0 a0 g2] ([oX7 ty h0 a0 g2] ++ []) := (List.Perm.refl _)
  refine cv_call (os := [oX7 ty h0 a0 g2]) (oc := [oX7 ty h0 a0 g2]) (oc' := [oX7 ty h0 a0 g3]) (or_ := []) (os' := [oX7 ty h0 a0 g3]) (va_runV (As := []) (rest := []) F (c_X7_begin l D ty h0 a0 _ _ hv _) (cwV 0 F.2.2.2.2 gX7_minute_X7_begin rfl rfl rfl ⟨rfl, hd_X7_begin⟩ ⟨Nat.le_of_ble_eq_true rfl, Nat.le_of_ble_eq_true rfl⟩) (pre_v hK hP hD hp1 rfl rfl rfl) rfl rfl hl.1 rfl (lv_room (Nat.le_of_ble_eq_true rfl)) dX7_minute_10 ⟨Nat.zero_le _, Nat.zero_le _⟩) hp1 (List.Perm.refl _) hP hD hS hA (fun H locs hP hD hS => ?_)
  clear hp1 hv
  refine lv_aload_n hx hb dX7_minute_13 rfl (lv_at hl 0 rfl) ?_
  obtain ⟨v4, g5, hv, hf⟩ := obd2 hf
  have hp1 : List.Perm [oX7 ty h0 a0 g3] ([oX7 ty h0 a0 g3] ++ []) := (List.Perm.refl _)
  refine ci_call (out := v4) (os := [oX7 ty h0 a0 g3]) (oc := [oX7 ty h0 a0 g3]) (oc' := [oX7 ty h0 a0 g5]) (or_ := []) (os' := [oX7 ty h0 a0 g5]) (va_runV (As := []) (rest := []) F (c_X7_go l D ty h0 a0 _ _ _ hv _) (cwV 0 F.2.2.2.2 gX7_minute_X7_go rfl rfl rfl ⟨rfl, hd_X7_go⟩ ⟨Nat.le_of_ble_eq_true rfl, Nat.le_of_ble_eq_true rfl⟩) (pre_v hK hP hD hp1 rfl rfl rfl) rfl rfl hl.1 rfl (lv_room (Nat.le_of_ble_eq_true rfl)) dX7_minute_14 ⟨Nat.zero_le _, Nat.zero_le _⟩) hp1 (List.Perm.refl _) hP hD hS hA (fun H locs hP hD hS => ?_)
  clear hp1 hv
  refine lv_istore_n (lv' := [(1, .int v4), (0, .ref h0)]) hx hb dX7_minute_17 rfl hl (by decide) rfl (fun ls hl => ?_)
  refine lv_iconst (v := (0 : Int32)) hx hb dX7_minute_18 (by decide) ?_
  refine lv_istore_n (lv' := [(2, .int (0 : Int32)), (1, .int v4), (0, .ref h0)]) hx hb dX7_minute_19 rfl hl (by decide) rfl (fun ls hl => ?_)
  have L_20 : ∀ (y1 : Int32) (n : Nat) (y2 : Int32) (w0 : Ob) (H : Heap) (locs : List Loc) (ls : Array Slot), va_P D vwC (fl [oX7 ty h0 a0 w0]) H → va_D A (fl [oX7 ty h0 a0 w0]) → va_S A s.heap H locs → lv_has ls 3 [(0, .ref h0), (1, .int y1), (2, .int y2)] → fuel2 (b_X7_minute_20 y1) n y2 w0 = some (o0, o1) → W p l e rm_X7_minute s m ([.ref h0] : List Value).toArray below meth c H locs 0 0 (MQ below (qI D o0 (fl [oX7 ty h0 a0 o1]) A) ([.ref h0] : List Value).toArray s 0 0 A) (F0 m 20 ls []) := by
    intro y1 n
    induction n with
    | zero => intro y2 w0 H locs ls hP hD hS hl hf; cases hf
    | succ n ih_20 =>
      intro y2 w0 H locs ls hP hD hS hl hf
      replace hf : b_X7_minute_20 y1 (fuel2 (b_X7_minute_20 y1) n) y2 w0 = some (o0, o1) := hf
      generalize fuel2 (b_X7_minute_20 y1) n = r_20 at ih_20 hf
      unfold b_X7_minute_20 at hf
      refine lv_iload_n hx hb dX7_minute_20 rfl (lv_at hl 2 rfl) ?_
      refine lv_aload_n hx hb dX7_minute_21 rfl (lv_at hl 0 rfl) ?_
      refine va_get (D := D) (ci := 7) (C := RX7) (T := TX7) (N := 40) hx hb F.2.2.2.2 in_X7_minute_X7 F.2.2.2.1 hK.1 hP 0 rfl rfl 4 (Nat.le_of_ble_eq_true rfl) (F.2.2.2.2 (.fieldLink RX7 75 "LouderRoomModel" "rings" "I") (List.mem_of_getElem? (i := 2) rfl)) (fun _ h9 => h9) rfl dX7_minute_22 ?_
      refine lv_icmp_ge (tgt := 46) hx hb dX7_minute_25 (by decide) (fun hc => ?_) (fun hc => ?_)
      · replace hf := ite_t hf hc
        refine lv_aload_n hx hb dX7_minute_46 rfl (lv_at hl 0 rfl) ?_
        refine lv_aload_n hx hb dX7_minute_47 rfl (lv_at hl 0 rfl) ?_
        refine va_get (D := D) (ci := 7) (C := RX7) (T := TX7) (N := 40) hx hb F.2.2.2.2 in_X7_minute_X7 F.2.2.2.1 hK.1 hP 0 rfl rfl 31 (Nat.le_of_ble_eq_true rfl) (F.2.2.2.2 (.fieldLink RX7 138 "LouderRoomModel" "m" "I") (List.mem_of_getElem? (i := 5) rfl)) (fun _ h9 => h9) rfl dX7_minute_48 ?_
        refine pt_put (D := D) (ci := 7) (fty := .int) (C := RX7) (T := TX7) (N := 40) (w1 := fl [oX7 ty h0 a0 (sI w0 11 (w0.1 31))]) F in_X7_minute_X7 tyX7 tyX7_ok nmX7 hK.1 hP hD hS 0 rfl rfl 11 (Nat.le_of_ble_eq_true rfl) (F.2.2.2.2 (.fieldLink RX7 128 "LouderRoomModel" "music" "I") (List.mem_of_getElem? (i := 6) rfl)) (fun _ h9 => h9) rfl (by decide +kernel) rfl rfl (Nat.le_of_ble_eq_true rfl) rfl dX7_minute_51 (fun H locs hP hD hS => ?_)
        obtain ⟨g6, ex⟩ : ∃ y : Ob, y = (sI w0 11 (w0.1 31)) := ⟨_, rfl⟩
        replace hf := bnd_at hf ex; rw [← ex] at hP hD; clear ex
        refine lv_iload_n hx hb dX7_minute_54 rfl (lv_at hl 1 rfl) ?_
        refine lv_if_ge (tgt := 62) hx hb dX7_minute_55 (by decide) (fun hc => ?_) (fun hc => ?_)
        · replace hf := ite_t hf hc
          refine lv_iload_n hx hb dX7_minute_62 rfl (lv_at hl 1 rfl) ?_
          obtain hf := hf
          obtain ⟨e0, e1⟩ := tup2 hf
          rw [e1] at hP hD
          exact CX_i F hr hlk hP hD hS e0 dX7_minute_63
        · replace hf := ite_f hf hc
          refine lv_iconst (v := (0 : Int32)) hx hb dX7_minute_58 (by decide) ?_
          refine lv_goto (tgt := 63) hx hb dX7_minute_59 (by decide) ?_
          obtain hf := hf
          obtain ⟨e0, e1⟩ := tup2 hf
          rw [e1] at hP hD
          exact CX_i F hr hlk hP hD hS e0 dX7_minute_63
      · replace hf := ite_f hf hc
        refine lv_aload_n hx hb dX7_minute_28 rfl (lv_at hl 0 rfl) ?_
        refine va_get (D := D) (ci := 7) (C := RX7) (T := TX7) (N := 40) hx hb F.2.2.2.2 in_X7_minute_X7 F.2.2.2.1 hK.1 hP 0 rfl rfl 8 (Nat.le_of_ble_eq_true rfl) (F.2.2.2.2 (.fieldLink RX7 22 "LouderRoomModel" "voice" "[I") (List.mem_of_getElem? (i := 3) rfl)) (fun _ h9 => h9) rfl dX7_minute_29 ?_
        refine lv_iload_n hx hb dX7_minute_32 rfl (lv_at hl 2 rfl) ?_
        refine lv_aload_n hx hb dX7_minute_33 rfl (lv_at hl 0 rfl) ?_
        refine va_get (D := D) (ci := 7) (C := RX7) (T := TX7) (N := 40) hx hb F.2.2.2.2 in_X7_minute_X7 F.2.2.2.1 hK.1 hP 0 rfl rfl 29 (Nat.le_of_ble_eq_true rfl) (F.2.2.2.2 (.fieldLink RX7 56 "LouderRoomModel" "v" "[I") (List.mem_of_getElem? (i := 4) rfl)) (fun _ h9 => h9) rfl dX7_minute_34 ?_
        refine lv_iload_n hx hb dX7_minute_37 rfl (lv_at hl 2 rfl) ?_
        obtain ⟨hi, hf⟩ := grd hf
        refine va_iald hx hb hK.1 hP 16 0 rfl rfl (inb_in hi) dX7_minute_38 ?_
        obtain ⟨hi, hf⟩ := grd hf
        refine pt_iast (w1 := fl [oX7 ty h0 a0 (sA w0 8 (upd (w0.2 8) y2.toNatClampNeg (w0.2 29 y2.toNatClampNeg)))]) F hK.1 hP hD hS 5 0 rfl rfl (inb_in hi) rfl dX7_minute_39 (fun H locs hP hD hS => ?_)
        obtain ⟨g7, ex⟩ : ∃ y : Ob, y = (sA w0 8 (upd (w0.2 8) y2.toNatClampNeg (w0.2 29 y2.toNatClampNeg))) := ⟨_, rfl⟩
        replace hf := bnd_at hf ex; rw [← ex] at hP hD; clear ex
        obtain ⟨x8, ex⟩ : ∃ y : Int32, y = (y2 + (1 : Int32)) := ⟨_, rfl⟩
        replace hf := bnd_at hf ex
        refine lv_iinc (v := x8) (lv' := [(2, .int x8), (0, .ref h0), (1, .int y1)]) hx hb dX7_minute_40 hl (k := 2) rfl (by rw [ex]; rfl) (by decide) rfl (fun ls hl => ?_)
        clear ex
        refine lv_goto (tgt := 20) hx hb dX7_minute_43 (by decide) ?_
        exact ih_20 x8 g7 _ _ _ hP hD hS (lv_sub hl [1, 2, 0] rfl) hf
  exact L_20 v4 FU (0 : Int32) g5 _ _ _ hP hD hS (lv_sub hl [2, 1, 0] rfl) hf
def j_X7_isTaken_31 (z0 : Ob) (p1 : Int32) (r_4 : Int32 → Int32 → Option (Int32)) (y3 : Int32) (t0 : Int32) : Option (Int32) := bnd (y3 + (1 : Int32)) (fun x1 => r_4 t0 x1)
def j_X7_isTaken_26 (z0 : Ob) (p1 : Int32) (r_4 : Int32 → Int32 → Option (Int32)) (y3 : Int32) : Option (Int32) := j_X7_isTaken_31 z0 p1 r_4 y3 (1 : Int32)
def b_X7_isTaken_4 (z0 : Ob) (p1 : Int32) (r_4 : Int32 → Int32 → Option (Int32)) (y2 : Int32) (y3 : Int32) : Option (Int32) := (if (z0.1 4) ≤ y3 then (if isb y2 = true then some y2 else none) else (if y2 = 0 then (if inb y3 8 = true then (if (z0.2 6 y3.toNatClampNeg) = p1 then j_X7_isTaken_26 z0 p1 r_4 y3 else j_X7_isTaken_31 z0 p1 r_4 y3 (0 : Int32)) else none) else j_X7_isTaken_26 z0 p1 r_4 y3))
def f_X7_isTaken (z0 : Ob) (p1 : Int32) : Option (Int32) := fuel2 (b_X7_isTaken_4 z0 p1) FU (0 : Int32) (0 : Int32)
abbrev rm_X7_isTaken : Room := { frames := 0, cells := 0, slots := 0, locals := 0 }
theorem hd_X7_isTaken : yX7_isTaken.cls ≠ "java/lang/invoke/MethodHandle" ∧ yX7_isTaken.cls ≠ "java/lang/invoke/VarHandle" ∧ (parseMethodDescriptor yX7_isTaken.desc).map (fun d => d.parameters.length) = some 1 := by decide +kernel
theorem in_X7_isTaken_X7 : ∀ w ∈ wsX70, w ∈ wsX7_isTaken := fun w h => List.mem_cons_of_mem _ (List.mem_append_right _ h)
set_option maxHeartbeats 4000000 in
set_option maxRecDepth 100000 in
theorem c_X7_isTaken (l : Launch) (D : va_G) (ty : TY) (h0 : Nat) (a0 : Nat → Nat) (z0 : Ob) (p1 : Int32) (o0 : Int32) (hf : f_X7_isTaken z0 p1 = some o0) (sz : Nat) : CX l yX7_isTaken wsX7_isTaken rm_X7_isTaken ([.ref h0, .int p1] : List Value) D ty (fl [oX7 ty h0 a0 z0]) sz (qI D o0 (fl [oX7 ty h0 a0 z0])) 0 0 := by
  refine CX_of (cc := cX7_isTaken) (maxL := 4) (ret := (some .boolean)) (C := RX7) (by decide) rfl rfl (Nat.le_of_ble_eq_true rfl) ?_
  intro p e s m below meth c A ls F hr hlk _ hK hP hD hS hA hl
  have hx := F.1
  have hb := F.2.1
  replace hl : lv_has ls 4 [(0, .ref h0), (1, .int p1)] := hl
  unfold f_X7_isTaken at hf
  refine lv_iconst (v := (0 : Int32)) hx hb dX7_isTaken_0 (by decide) ?_
  refine lv_istore_n (lv' := [(2, .int (0 : Int32)), (0, .ref h0), (1, .int p1)]) hx hb dX7_isTaken_1 rfl hl (by decide) rfl (fun ls hl => ?_)
  refine lv_iconst (v := (0 : Int32)) hx hb dX7_isTaken_2 (by decide) ?_
  refine lv_istore_n (lv' := [(3, .int (0 : Int32)), (2, .int (0 : Int32)), (0, .ref h0), (1, .int p1)]) hx hb dX7_isTaken_3 rfl hl (by decide) rfl (fun ls hl => ?_)
  have L_4 : ∀ (n : Nat) (y2 : Int32) (y3 : Int32) (H : Heap) (locs : List Loc) (ls : Array Slot), va_P D vwC (fl [oX7 ty h0 a0 z0]) H → va_D A (fl [oX7 ty h0 a0 z0]) → va_S A s.heap H locs → lv_has ls 4 [(0, .ref h0), (1, .int p1), (2, .int y2), (3, .int y3)] → fuel2 (b_X7_isTaken_4 z0 p1) n y2 y3 = some o0 → W p l e rm_X7_isTaken s m ([.ref h0, .int p1] : List Value).toArray below meth c H locs 0 0 (MQ below (qI D o0 (fl [oX7 ty h0 a0 z0]) A) ([.ref h0, .int p1] : List Value).toArray s 0 0 A) (F0 m 4 ls []) := by
    intro n
    induction n with
    | zero => intro y2 y3 H locs ls hP hD hS hl hf; cases hf
    | succ n ih_4 =>
      intro y2 y3 H locs ls hP hD hS hl hf
      replace hf : b_X7_isTaken_4 z0 p1 (fuel2 (b_X7_isTaken_4 z0 p1) n) y2 y3 = some o0 := hf
      generalize fuel2 (b_X7_isTaken_4 z0 p1) n = r_4 at ih_4 hf
      unfold b_X7_isTaken_4 at hf
      have J_31 : ∀ (y3 : Int32) (t0 : Int32) (H : Heap) (locs : List Loc) (ls : Array Slot), va_P D vwC (fl [oX7 ty h0 a0 z0]) H → va_D A (fl [oX7 ty h0 a0 z0]) → va_S A s.heap H locs → lv_has ls 4 [(0, .ref h0), (1, .int p1), (3, .int y3)] → j_X7_isTaken_31 z0 p1 r_4 y3 t0 = some o0 → W p l e rm_X7_isTaken s m ([.ref h0, .int p1] : List Value).toArray below meth c H locs 0 0 (MQ below (qI D o0 (fl [oX7 ty h0 a0 z0]) A) ([.ref h0, .int p1] : List Value).toArray s 0 0 A) (F0 m 31 ls [.int t0]) := by
        intro y3 t0 H locs ls hP hD hS hl hf
        unfold j_X7_isTaken_31 at hf
        refine lv_istore_n (lv' := [(2, .int t0), (0, .ref h0), (1, .int p1), (3, .int y3)]) hx hb dX7_isTaken_31 rfl hl (by decide) rfl (fun ls hl => ?_)
        obtain ⟨x1, ex⟩ : ∃ y : Int32, y = (y3 + (1 : Int32)) := ⟨_, rfl⟩
        replace hf := bnd_at hf ex
        refine lv_iinc (v := x1) (lv' := [(3, .int x1), (2, .int t0), (0, .ref h0), (1, .int p1)]) hx hb dX7_isTaken_32 hl (k := 3) rfl (by rw [ex]; rfl) (by decide) rfl (fun ls hl => ?_)
        clear ex
        refine lv_goto (tgt := 4) hx hb dX7_isTaken_35 (by decide) ?_
        exact ih_4 t0 x1 _ _ _ hP hD hS (lv_sub hl [2, 3, 1, 0] rfl) hf
      have J_26 : ∀ (y3 : Int32) (H : Heap) (locs : List Loc) (ls : Array Slot), va_P D vwC (fl [oX7 ty h0 a0 z0]) H → va_D A (fl [oX7 ty h0 a0 z0]) → va_S A s.heap H locs → lv_has ls 4 [(0, .ref h0), (1, .int p1), (3, .int y3)] → j_X7_isTaken_26 z0 p1 r_4 y3 = some o0 → W p l e rm_X7_isTaken s m ([.ref h0, .int p1] : List Value).toArray below meth c H locs 0 0 (MQ below (qI D o0 (fl [oX7 ty h0 a0 z0]) A) ([.ref h0, .int p1] : List Value).toArray s 0 0 A) (F0 m 26 ls []) := by
        intro y3 H locs ls hP hD hS hl hf
        unfold j_X7_isTaken_26 at hf
        refine lv_iconst (v := (1 : Int32)) hx hb dX7_isTaken_26 (by decide) ?_
        refine lv_goto (tgt := 31) hx hb dX7_isTaken_27 (by decide) ?_
        exact J_31 y3 (1 : Int32) _ _ _ hP hD hS (lv_sub hl [0, 1, 2] rfl) hf
      refine lv_iload_n hx hb dX7_isTaken_4 rfl (lv_at hl 3 rfl) ?_
      refine lv_aload_n hx hb dX7_isTaken_5 rfl (lv_at hl 0 rfl) ?_
      refine va_get (D := D) (ci := 7) (C := RX7) (T := TX7) (N := 40) hx hb F.2.2.2.2 in_X7_isTaken_X7 F.2.2.2.1 hK.1 hP 0 rfl rfl 4 (Nat.le_of_ble_eq_true rfl) (F.2.2.2.2 (.fieldLink RX7 75 "LouderRoomModel" "rings" "I") (List.mem_of_getElem? (i := 1) rfl)) (fun _ h9 => h9) rfl dX7_isTaken_6 ?_
      refine lv_icmp_ge (tgt := 38) hx hb dX7_isTaken_9 (by decide) (fun hc => ?_) (fun hc => ?_)
      · replace hf := ite_t hf hc
        refine lv_iload_n hx hb dX7_isTaken_38 rfl (lv_at hl 2 rfl) ?_
        obtain ⟨hz, hf⟩ := grd hf
        obtain hf := hf
        have e0 := Option.some.inj hf
        exact CX_z F hr hlk hP hD hS (isb_n hz) e0 dX7_isTaken_39
      · replace hf := ite_f hf hc
        refine lv_iload_n hx hb dX7_isTaken_12 rfl (lv_at hl 2 rfl) ?_
        refine lv_if_ne (tgt := 26) hx hb dX7_isTaken_13 (by decide) (fun hc => ?_) (fun hc => ?_)
        · replace hf := ite_f hf hc
          exact J_26 y3 _ _ _ hP hD hS (lv_sub hl [0, 1, 3] rfl) hf
        · replace hf := ite_t hf hc
          refine lv_aload_n hx hb dX7_isTaken_16 rfl (lv_at hl 0 rfl) ?_
          refine va_get (D := D) (ci := 7) (C := RX7) (T := TX7) (N := 40) hx hb F.2.2.2.2 in_X7_isTaken_X7 F.2.2.2.1 hK.1 hP 0 rfl rfl 6 (Nat.le_of_ble_eq_true rfl) (F.2.2.2.2 (.fieldLink RX7 16 "LouderRoomModel" "cell" "[I") (List.mem_of_getElem? (i := 2) rfl)) (fun _ h9 => h9) rfl dX7_isTaken_17 ?_
          refine lv_iload_n hx hb dX7_isTaken_20 rfl (lv_at hl 3 rfl) ?_
          obtain ⟨hi, hf⟩ := grd hf
          refine va_iald hx hb hK.1 hP 3 0 rfl rfl (inb_in hi) dX7_isTaken_21 ?_
          refine lv_iload_n hx hb dX7_isTaken_22 rfl (lv_at hl 1 rfl) ?_
          refine lv_icmp_ne (tgt := 30) hx hb dX7_isTaken_23 (by decide) (fun hc => ?_) (fun hc => ?_)
          · replace hf := ite_f hf hc
            refine lv_iconst (v := (0 : Int32)) hx hb dX7_isTaken_30 (by decide) ?_
            exact J_31 y3 (0 : Int32) _ _ _ hP hD hS (lv_sub hl [0, 1, 3] rfl) hf
          · replace hf := ite_t hf hc
            exact J_26 y3 _ _ _ hP hD hS (lv_sub hl [0, 1, 3] rfl) hf
  exact L_4 FU (0 : Int32) (0 : Int32) _ _ _ hP hD hS (lv_sub hl [2, 3, 1, 0] rfl) hf
def b_X7_firstFree_2 (z0 : Ob) (r_2 : Int32 → Option (Int32)) (y1 : Int32) : Option (Int32) := (f_X7_isTaken z0 y1).bind (fun v1 => (if v1 = 0 then some y1 else bnd (y1 + (1 : Int32)) (fun x2 => r_2 x2)))
def f_X7_firstFree (z0 : Ob) : Option (Int32) := fuel1 (b_X7_firstFree_2 z0) FU (0 : Int32)
abbrev rm_X7_firstFree : Room := { frames := 1, cells := 0, slots := 0, locals := 23 }
theorem hd_X7_firstFree : yX7_firstFree.cls ≠ "java/lang/invoke/MethodHandle" ∧ yX7_firstFree.cls ≠ "java/lang/invoke/VarHandle" ∧ (parseMethodDescriptor yX7_firstFree.desc).map (fun d => d.parameters.length) = some 0 := by decide +kernel
set_option maxHeartbeats 4000000 in
set_option maxRecDepth 100000 in
theorem c_X7_firstFree (l : Launch) (D : va_G) (ty : TY) (h0 : Nat) (a0 : Nat → Nat) (z0 : Ob) (o0 : Int32) (hf : f_X7_firstFree z0 = some o0) (sz : Nat) : CX l yX7_firstFree wsX7_firstFree rm_X7_firstFree ([.ref h0] : List Value) D ty (fl [oX7 ty h0 a0 z0]) sz (qI D o0 (fl [oX7 ty h0 a0 z0])) 0 0 := by
  refine CX_of (cc := cX7_firstFree) (maxL := 2) (ret := (some .int)) (C := RX7) (by decide) rfl rfl (Nat.le_of_ble_eq_true rfl) ?_
  intro p e s m below meth c A ls F hr hlk _ hK hP hD hS hA hl
  have hx := F.1
  have hb := F.2.1
  replace hl : lv_has ls 2 [(0, .ref h0)] := hl
  unfold f_X7_firstFree at hf
  refine lv_iconst (v := (0 : Int32)) hx hb dX7_firstFree_0 (by decide) ?_
  refine lv_istore_n (lv' := [(1, .int (0 : Int32)), (0, .ref h0)]) hx hb dX7_firstFree_1 rfl hl (by decide) rfl (fun ls hl => ?_)
  have L_2 : ∀ (n : Nat) (y1 : Int32) (H : Heap) (locs : List Loc) (ls : Array Slot), va_P D vwC (fl [oX7 ty h0 a0 z0]) H → va_D A (fl [oX7 ty h0 a0 z0]) → va_S A s.heap H locs → lv_has ls 2 [(0, .ref h0), (1, .int y1)] → fuel1 (b_X7_firstFree_2 z0) n y1 = some o0 → W p l e rm_X7_firstFree s m ([.ref h0] : List Value).toArray below meth c H locs 0 0 (MQ below (qI D o0 (fl [oX7 ty h0 a0 z0]) A) ([.ref h0] : List Value).toArray s 0 0 A) (F0 m 2 ls []) := by
    intro n
    induction n with
    | zero => intro y1 H locs ls hP hD hS hl hf; cases hf
    | succ n ih_2 =>
      intro y1 H locs ls hP hD hS hl hf
      replace hf : b_X7_firstFree_2 z0 (fuel1 (b_X7_firstFree_2 z0) n) y1 = some o0 := hf
      generalize fuel1 (b_X7_firstFree_2 z0) n = r_2 at ih_2 hf
      unfold b_X7_firstFree_2 at hf
      refine lv_aload_n hx hb dX7_firstFree_2 rfl (lv_at hl 0 rfl) ?_
      refine lv_iload_n hx hb dX7_firstFree_3 rfl (lv_at hl 1 rfl) ?_
      obtain ⟨v1, hv, hf⟩ := obd hf
      have hp1 : List.Perm [oX7 ty h0 a0 z0] ([oX7 ty h0 a0 z0] ++ []) := (List.Perm.refl _)
      refine ci_call (out := v1) (os := [oX7 ty h0 a0 z0]) (oc := [oX7 ty h0 a0 z0]) (oc' := [oX7 ty h0 a0 z0]) (or_ := []) (os' := [oX7 ty h0 a0 z0]) (va_runV (As := [.int y1]) (rest := []) F (c_X7_isTaken l D ty h0 a0 _ _ _ hv _) (cwV 1 F.2.2.2.2 gX7_firstFree_X7_isTaken rfl rfl rfl ⟨rfl, hd_X7_isTaken⟩ ⟨Nat.le_of_ble_eq_true rfl, Nat.le_of_ble_eq_true rfl⟩) (pre_v hK hP hD hp1 rfl rfl rfl) rfl rfl hl.1 rfl (lv_room (Nat.le_of_ble_eq_true rfl)) dX7_firstFree_4 ⟨Nat.zero_le _, Nat.zero_le _⟩) hp1 (List.Perm.refl _) hP hD hS hA (fun H locs hP hD hS => ?_)
      clear hp1 hv
      refine lv_if_eq (tgt := 16) hx hb dX7_firstFree_7 (by decide) (fun hc => ?_) (fun hc => ?_)
      · replace hf := ite_t hf hc
        refine lv_iload_n hx hb dX7_firstFree_16 rfl (lv_at hl 1 rfl) ?_
        obtain hf := hf
        have e0 := Option.some.inj hf
        exact CX_i F hr hlk hP hD hS e0 dX7_firstFree_17
      · replace hf := ite_f hf hc
        obtain ⟨x2, ex⟩ : ∃ y : Int32, y = (y1 + (1 : Int32)) := ⟨_, rfl⟩
        replace hf := bnd_at hf ex
        refine lv_iinc (v := x2) (lv' := [(1, .int x2), (0, .ref h0)]) hx hb dX7_firstFree_10 hl (k := 1) rfl (by rw [ex]; rfl) (by decide) rfl (fun ls hl => ?_)
        clear ex
        refine lv_goto (tgt := 2) hx hb dX7_firstFree_13 (by decide) ?_
        exact ih_2 x2 _ _ _ hP hD hS (lv_sub hl [1, 0] rfl) hf
  exact L_2 FU (0 : Int32) _ _ _ hP hD hS (lv_sub hl [1, 0] rfl) hf
def f_X7_breaks (z0 : Ob) (p1 : Int32) : Option (Int32 × Ob) := bnd (sI z0 0 (0 : Int32)) (fun g1 => (f_X7_noRing g1 p1).bind (fun v2 => (if v2 = 0 then (if inb p1 8 = true then (if (4 : Int32) ≤ (g1.2 7 p1.toNatClampNeg) then (if (g1.1 4) = (8 : Int32) then some ((-4 : Int32), g1) else (f_X7_note g1).bind (fun g3 => (if inb p1 8 = true then (if inb (g3.1 4) 8 = true then bnd (sA g3 5 (upd (g3.2 5) (g3.1 4).toNatClampNeg (g3.2 5 p1.toNatClampNeg))) (fun g4 => (if inb p1 8 = true then (if inb (g4.1 4) 8 = true then bnd (sA g4 8 (upd (g4.2 8) (g4.1 4).toNatClampNeg (g4.2 8 p1.toNatClampNeg))) (fun g5 => (if inb p1 8 = true then (if inb (g5.1 4) 8 = true then bnd (sA g5 9 (upd (g5.2 9) (g5.1 4).toNatClampNeg (g5.2 9 p1.toNatClampNeg))) (fun g6 => (f_X7_firstFree g6).bind (fun v7 => (if inb (g6.1 4) 8 = true then bnd (sA g6 6 (upd (g6.2 6) (g6.1 4).toNatClampNeg v7)) (fun g8 => (if inb p1 8 = true then (if inb p1 8 = true then (if inb (g8.1 4) 8 = true then bnd (sA g8 7 (upd (g8.2 7) (g8.1 4).toNatClampNeg ((g8.2 7 p1.toNatClampNeg) - ((g8.2 7 p1.toNatClampNeg) / (2 : Int32))))) (fun g9 => (if inb p1 8 = true then (if inb p1 8 = true then bnd (sA g9 7 (upd (g9.2 7) p1.toNatClampNeg ((g9.2 7 p1.toNatClampNeg) / (2 : Int32)))) (fun g10 => bnd (sI g10 4 ((g10.1 4) + (1 : Int32))) (fun g11 => some (((g11.1 4) - (1 : Int32)), g11))) else none) else none)) else none) else none) else none)) else none))) else none) else none)) else none) else none)) else none) else none))) else some ((-3 : Int32), g1)) else none) else some ((-1 : Int32), g1))))
abbrev rm_X7_breaks : Room := { frames := 2, cells := 0, slots := 0, locals := 46 }
theorem hd_X7_breaks : yX7_breaks.cls ≠ "java/lang/invoke/MethodHandle" ∧ yX7_breaks.cls ≠ "java/lang/invoke/VarHandle" ∧ (parseMethodDescriptor yX7_breaks.desc).map (fun d => d.parameters.length) = some 1 := by decide +kernel
theorem in_X7_breaks_X7 : ∀ w ∈ wsX70, w ∈ wsX7_breaks := fun w h => List.mem_cons_of_mem _ (List.mem_append_right _ h)
set_option maxHeartbeats 4000000 in
set_option maxRecDepth 100000 in
theorem c_X7_breaks (l : Launch) (D : va_G) (ty : TY) (h0 : Nat) (a0 : Nat → Nat) (z0 : Ob) (p1 : Int32) (o0 : Int32) (o1 : Ob) (hf : f_X7_breaks z0 p1 = some (o0, o1)) (sz : Nat) : CX l yX7_breaks wsX7_breaks rm_X7_breaks ([.ref h0, .int p1] : List Value) D ty (fl [oX7 ty h0 a0 z0]) sz (qI D o0 (fl [oX7 ty h0 a0 o1])) 0 0 := by
  refine CX_of (cc := cX7_breaks) (maxL := 2) (ret := (some .int)) (C := RX7) (by decide) rfl rfl (Nat.le_of_ble_eq_true rfl) ?_
  intro p e s m below meth c A ls F hr hlk _ hK hP hD hS hA hl
  have hx := F.1
  have hb := F.2.1
  replace hl : lv_has ls 2 [(0, .ref h0), (1, .int p1)] := hl
  unfold f_X7_breaks at hf
  refine lv_aload_n hx hb dX7_breaks_0 rfl (lv_at hl 0 rfl) ?_
  refine lv_iconst (v := (0 : Int32)) hx hb dX7_breaks_1 (by decide) ?_
  refine pt_put (D := D) (ci := 7) (fty := .int) (C := RX7) (T := TX7) (N := 40) (w1 := fl [oX7 ty h0 a0 (sI z0 0 (0 : Int32))]) F in_X7_breaks_X7 tyX7 tyX7_ok nmX7 hK.1 hP hD hS 0 rfl rfl 0 (Nat.le_of_ble_eq_true rfl) (F.2.2.2.2 (.fieldLink RX7 71 "LouderRoomModel" "thrown" "I") (List.mem_of_getElem? (i := 1) rfl)) (fun _ h9 => h9) rfl (by decide +kernel) rfl rfl (Nat.le_of_ble_eq_true rfl) rfl dX7_breaks_2 (fun H locs hP hD hS => ?_)
  obtain ⟨g1, ex⟩ : ∃ y : Ob, y = (sI z0 0 (0 : Int32)) := ⟨_, rfl⟩
  replace hf := bnd_at hf ex; rw [← ex] at hP hD; clear ex
  refine lv_aload_n hx hb dX7_breaks_5 rfl (lv_at hl 0 rfl) ?_
  refine lv_iload_n hx hb dX7_breaks_6 rfl (lv_at hl 1 rfl) ?_
  obtain ⟨v2, hv, hf⟩ := obd hf
  have hp1 : List.Perm [oX7 ty h0 a0 g1] ([oX7 ty h0 a0 g1] ++ []) := (List.Perm.refl _)
  refine ci_call (out := v2) (os := [oX7 ty h0 a0 g1]) (oc := [oX7 ty h0 a0 g1]) (oc' := [oX7 ty h0 a0 g1]) (or_ := []) (os' := [oX7 ty h0 a0 g1]) (va_runV (As := [.int p1]) (rest := []) F (c_X7_noRing l D ty h0 a0 _ _ _ hv _) (cwV 1 F.2.2.2.2 gX7_breaks_X7_noRing rfl rfl rfl ⟨rfl, hd_X7_noRing⟩ ⟨Nat.le_of_ble_eq_true rfl, Nat.le_of_ble_eq_true rfl⟩) (pre_v hK hP hD hp1 rfl rfl rfl) rfl rfl hl.1 rfl (lv_room (Nat.le_of_ble_eq_true rfl)) dX7_breaks_7 ⟨Nat.zero_le _, Nat.zero_le _⟩) hp1 (List.Perm.refl _) hP hD hS hA (fun H locs hP hD hS => ?_)
  clear hp1 hv
  refine lv_if_eq (tgt := 15) hx hb dX7_breaks_10 (by decide) (fun hc => ?_) (fun hc => ?_)
  · replace hf := ite_t hf hc
    refine lv_aload_n hx hb dX7_breaks_15 rfl (lv_at hl 0 rfl) ?_
    refine va_get (D := D) (ci := 7) (C := RX7) (T := TX7) (N := 40) hx hb F.2.2.2.2 in_X7_breaks_X7 F.2.2.2.1 hK.1 hP 0 rfl rfl 7 (Nat.le_of_ble_eq_true rfl) (F.2.2.2.2 (.fieldLink RX7 19 "LouderRoomModel" "people" "[I") (List.mem_of_getElem? (i := 2) rfl)) (fun _ h9 => h9) rfl dX7_breaks_16 ?_
    refine lv_iload_n hx hb dX7_breaks_19 rfl (lv_at hl 1 rfl) ?_
    obtain ⟨hi, hf⟩ := grd hf
    refine va_iald hx hb hK.1 hP 4 0 rfl rfl (inb_in hi) dX7_breaks_20 ?_
    refine lv_iconst (v := (4 : Int32)) hx hb dX7_breaks_21 (by decide) ?_
    refine lv_icmp_ge (tgt := 28) hx hb dX7_breaks_22 (by decide) (fun hc => ?_) (fun hc => ?_)
    · replace hf := ite_t hf hc
      refine lv_aload_n hx hb dX7_breaks_28 rfl (lv_at hl 0 rfl) ?_
      refine va_get (D := D) (ci := 7) (C := RX7) (T := TX7) (N := 40) hx hb F.2.2.2.2 in_X7_breaks_X7 F.2.2.2.1 hK.1 hP 0 rfl rfl 4 (Nat.le_of_ble_eq_true rfl) (F.2.2.2.2 (.fieldLink RX7 75 "LouderRoomModel" "rings" "I") (List.mem_of_getElem? (i := 3) rfl)) (fun _ h9 => h9) rfl dX7_breaks_29 ?_
      refine lv_bipush (v := (8 : Int32)) hx hb dX7_breaks_32 (by decide) ?_
      refine lv_icmp_ne (tgt := 40) hx hb dX7_breaks_34 (by decide) (fun hc => ?_) (fun hc => ?_)
      · replace hf := ite_f hf hc
        refine lv_aload_n hx hb dX7_breaks_40 rfl (lv_at hl 0 rfl) ?_
        obtain ⟨g3, hv, hf⟩ := obd hf
        have hp1 : List.Perm [oX7 ty h0 a0 g1] ([oX7 ty h0 a0 g1] ++ []) := (List.Perm.refl _)
        refine cv_call (os := [oX7 ty h0 a0 g1]) (oc := [oX7 ty h0 a0 g1]) (oc' := [oX7 ty h0 a0 g3]) (or_ := []) (os' := [oX7 ty h0 a0 g3]) (va_runV (As := []) (rest := []) F (c_X7_note l D ty h0 a0 _ _ hv _) (cwV 0 F.2.2.2.2 gX7_breaks_X7_note rfl rfl rfl ⟨rfl, hd_X7_note⟩ ⟨Nat.le_of_ble_eq_true rfl, Nat.le_of_ble_eq_true rfl⟩) (pre_v hK hP hD hp1 rfl rfl rfl) rfl rfl hl.1 rfl (lv_room (Nat.le_of_ble_eq_true rfl)) dX7_breaks_41 ⟨Nat.zero_le _, Nat.zero_le _⟩) hp1 (List.Perm.refl _) hP hD hS hA (fun H locs hP hD hS => ?_)
        clear hp1 hv
        refine lv_aload_n hx hb dX7_breaks_44 rfl (lv_at hl 0 rfl) ?_
        refine va_get (D := D) (ci := 7) (C := RX7) (T := TX7) (N := 40) hx hb F.2.2.2.2 in_X7_breaks_X7 F.2.2.2.1 hK.1 hP 0 rfl rfl 5 (Nat.le_of_ble_eq_true rfl) (F.2.2.2.2 (.fieldLink RX7 13 "LouderRoomModel" "kind" "[I") (List.mem_of_getElem? (i := 4) rfl)) (fun _ h9 => h9) rfl dX7_breaks_45 ?_
        refine lv_aload_n hx hb dX7_breaks_48 rfl (lv_at hl 0 rfl) ?_
        refine va_get (D := D) (ci := 7) (C := RX7) (T := TX7) (N := 40) hx hb F.2.2.2.2 in_X7_breaks_X7 F.2.2.2.1 hK.1 hP 0 rfl rfl 4 (Nat.le_of_ble_eq_true rfl) (F.2.2.2.2 (.fieldLink RX7 75 "LouderRoomModel" "rings" "I") (List.mem_of_getElem? (i := 3) rfl)) (fun _ h9 => h9) rfl dX7_breaks_49 ?_
        refine lv_aload_n hx hb dX7_breaks_52 rfl (lv_at hl 0 rfl) ?_
        refine va_get (D := D) (ci := 7) (C := RX7) (T := TX7) (N := 40) hx hb F.2.2.2.2 in_X7_breaks_X7 F.2.2.2.1 hK.1 hP 0 rfl rfl 5 (Nat.le_of_ble_eq_true rfl) (F.2.2.2.2 (.fieldLink RX7 13 "LouderRoomModel" "kind" "[I") (List.mem_of_getElem? (i := 4) rfl)) (fun _ h9 => h9) rfl dX7_breaks_53 ?_
        refine lv_iload_n hx hb dX7_breaks_56 rfl (lv_at hl 1 rfl) ?_
        obtain ⟨hi, hf⟩ := grd hf
        refine va_iald hx hb hK.1 hP 2 0 rfl rfl (inb_in hi) dX7_breaks_57 ?_
        obtain ⟨hi, hf⟩ := grd hf
        refine pt_iast (w1 := fl [oX7 ty h0 a0 (sA g3 5 (upd (g3.2 5) (g3.1 4).toNatClampNeg (g3.2 5 p1.toNatClampNeg)))]) F hK.1 hP hD hS 2 0 rfl rfl (inb_in hi) rfl dX7_breaks_58 (fun H locs hP hD hS => ?_)
        obtain ⟨g4, ex⟩ : ∃ y : Ob, y = (sA g3 5 (upd (g3.2 5) (g3.1 4).toNatClampNeg (g3.2 5 p1.toNatClampNeg))) := ⟨_, rfl⟩
        replace hf := bnd_at hf ex; rw [← ex] at hP hD; clear ex
        refine lv_aload_n hx hb dX7_breaks_59 rfl (lv_at hl 0 rfl) ?_
        refine va_get (D := D) (ci := 7) (C := RX7) (T := TX7) (N := 40) hx hb F.2.2.2.2 in_X7_breaks_X7 F.2.2.2.1 hK.1 hP 0 rfl rfl 8 (Nat.le_of_ble_eq_true rfl) (F.2.2.2.2 (.fieldLink RX7 22 "LouderRoomModel" "voice" "[I") (List.mem_of_getElem? (i := 5) rfl)) (fun _ h9 => h9) rfl dX7_breaks_60 ?_
        refine lv_aload_n hx hb dX7_breaks_63 rfl (lv_at hl 0 rfl) ?_
        refine va_get (D := D) (ci := 7) (C := RX7) (T := TX7) (N := 40) hx hb F.2.2.2.2 in_X7_breaks_X7 F.2.2.2.1 hK.1 hP 0 rfl rfl 4 (Nat.le_of_ble_eq_true rfl) (F.2.2.2.2 (.fieldLink RX7 75 "LouderRoomModel" "rings" "I") (List.mem_of_getElem? (i := 3) rfl)) (fun _ h9 => h9) rfl dX7_breaks_64 ?_
        refine lv_aload_n hx hb dX7_breaks_67 rfl (lv_at hl 0 rfl) ?_
        refine va_get (D := D) (ci := 7) (C := RX7) (T := TX7) (N := 40) hx hb F.2.2.2.2 in_X7_breaks_X7 F.2.2.2.1 hK.1 hP 0 rfl rfl 8 (Nat.le_of_ble_eq_true rfl) (F.2.2.2.2 (.fieldLink RX7 22 "LouderRoomModel" "voice" "[I") (List.mem_of_getElem? (i := 5) rfl)) (fun _ h9 => h9) rfl dX7_breaks_68 ?_
        refine lv_iload_n hx hb dX7_breaks_71 rfl (lv_at hl 1 rfl) ?_
        obtain ⟨hi, hf⟩ := grd hf
        refine va_iald hx hb hK.1 hP 5 0 rfl rfl (inb_in hi) dX7_breaks_72 ?_
        obtain ⟨hi, hf⟩ := grd hf
        refine pt_iast (w1 := fl [oX7 ty h0 a0 (sA g4 8 (upd (g4.2 8) (g4.1 4).toNatClampNeg (g4.2 8 p1.toNatClampNeg)))]) F hK.1 hP hD hS 5 0 rfl rfl (inb_in hi) rfl dX7_breaks_73 (fun H locs hP hD hS => ?_)
        obtain ⟨g5, ex⟩ : ∃ y : Ob, y = (sA g4 8 (upd (g4.2 8) (g4.1 4).toNatClampNeg (g4.2 8 p1.toNatClampNeg))) := ⟨_, rfl⟩
        replace hf := bnd_at hf ex; rw [← ex] at hP hD; clear ex
        refine lv_aload_n hx hb dX7_breaks_74 rfl (lv_at hl 0 rfl) ?_
        refine va_get (D := D) (ci := 7) (C := RX7) (T := TX7) (N := 40) hx hb F.2.2.2.2 in_X7_breaks_X7 F.2.2.2.1 hK.1 hP 0 rfl rfl 9 (Nat.le_of_ble_eq_true rfl) (F.2.2.2.2 (.fieldLink RX7 25 "LouderRoomModel" "age" "[I") (List.mem_of_getElem? (i := 6) rfl)) (fun _ h9 => h9) rfl dX7_breaks_75 ?_
        refine lv_aload_n hx hb dX7_breaks_78 rfl (lv_at hl 0 rfl) ?_
        refine va_get (D := D) (ci := 7) (C := RX7) (T := TX7) (N := 40) hx hb F.2.2.2.2 in_X7_breaks_X7 F.2.2.2.1 hK.1 hP 0 rfl rfl 4 (Nat.le_of_ble_eq_true rfl) (F.2.2.2.2 (.fieldLink RX7 75 "LouderRoomModel" "rings" "I") (List.mem_of_getElem? (i := 3) rfl)) (fun _ h9 => h9) rfl dX7_breaks_79 ?_
        refine lv_aload_n hx hb dX7_breaks_82 rfl (lv_at hl 0 rfl) ?_
        refine va_get (D := D) (ci := 7) (C := RX7) (T := TX7) (N := 40) hx hb F.2.2.2.2 in_X7_breaks_X7 F.2.2.2.1 hK.1 hP 0 rfl rfl 9 (Nat.le_of_ble_eq_true rfl) (F.2.2.2.2 (.fieldLink RX7 25 "LouderRoomModel" "age" "[I") (List.mem_of_getElem? (i := 6) rfl)) (fun _ h9 => h9) rfl dX7_breaks_83 ?_
        refine lv_iload_n hx hb dX7_breaks_86 rfl (lv_at hl 1 rfl) ?_
        obtain ⟨hi, hf⟩ := grd hf
        refine va_iald hx hb hK.1 hP 6 0 rfl rfl (inb_in hi) dX7_breaks_87 ?_
        obtain ⟨hi, hf⟩ := grd hf
        refine pt_iast (w1 := fl [oX7 ty h0 a0 (sA g5 9 (upd (g5.2 9) (g5.1 4).toNatClampNeg (g5.2 9 p1.toNatClampNeg)))]) F hK.1 hP hD hS 6 0 rfl rfl (inb_in hi) rfl dX7_breaks_88 (fun H locs hP hD hS => ?_)
        obtain ⟨g6, ex⟩ : ∃ y : Ob, y = (sA g5 9 (upd (g5.2 9) (g5.1 4).toNatClampNeg (g5.2 9 p1.toNatClampNeg))) := ⟨_, rfl⟩
        replace hf := bnd_at hf ex; rw [← ex] at hP hD; clear ex
        refine lv_aload_n hx hb dX7_breaks_89 rfl (lv_at hl 0 rfl) ?_
        refine va_get (D := D) (ci := 7) (C := RX7) (T := TX7) (N := 40) hx hb F.2.2.2.2 in_X7_breaks_X7 F.2.2.2.1 hK.1 hP 0 rfl rfl 6 (Nat.le_of_ble_eq_true rfl) (F.2.2.2.2 (.fieldLink RX7 16 "LouderRoomModel" "cell" "[I") (List.mem_of_getElem? (i := 7) rfl)) (fun _ h9 => h9) rfl dX7_breaks_90 ?_
        refine lv_aload_n hx hb dX7_breaks_93 rfl (lv_at hl 0 rfl) ?_
        refine va_get (D := D) (ci := 7) (C := RX7) (T := TX7) (N := 40) hx hb F.2.2.2.2 in_X7_breaks_X7 F.2.2.2.1 hK.1 hP 0 rfl rfl 4 (Nat.le_of_ble_eq_true rfl) (F.2.2.2.2 (.fieldLink RX7 75 "LouderRoomModel" "rings" "I") (List.mem_of_getElem? (i := 3) rfl)) (fun _ h9 => h9) rfl dX7_breaks_94 ?_
        refine lv_aload_n hx hb dX7_breaks_97 rfl (lv_at hl 0 rfl) ?_
        obtain ⟨v7, hv, hf⟩ := obd hf
        have hp1 : List.Perm [oX7 ty h0 a0 g6] ([oX7 ty h0 a0 g6] ++ []) := (List.Perm.refl _)
        refine ci_call (out := v7) (os := [oX7 ty h0 a0 g6]) (oc := [oX7 ty h0 a0 g6]) (oc' := [oX7 ty h0 a0 g6]) (or_ := []) (os' := [oX7 ty h0 a0 g6]) (va_runV (As := []) (rest := [.int (g6.1 4), .ref (a0 6)]) F (c_X7_firstFree l D ty h0 a0 _ _ hv _) (cwV 0 F.2.2.2.2 gX7_breaks_X7_firstFree rfl rfl rfl ⟨rfl, hd_X7_firstFree⟩ ⟨Nat.le_of_ble_eq_true rfl, Nat.le_of_ble_eq_true rfl⟩) (pre_v hK hP hD hp1 rfl rfl rfl) rfl rfl hl.1 rfl (lv_room (Nat.le_of_ble_eq_true rfl)) dX7_breaks_98 ⟨Nat.zero_le _, Nat.zero_le _⟩) hp1 (List.Perm.refl _) hP hD hS hA (fun H locs hP hD hS => ?_)
        clear hp1 hv
        obtain ⟨hi, hf⟩ := grd hf
        refine pt_iast (w1 := fl [oX7 ty h0 a0 (sA g6 6 (upd (g6.2 6) (g6.1 4).toNatClampNeg v7))]) F hK.1 hP hD hS 3 0 rfl rfl (inb_in hi) rfl dX7_breaks_101 (fun H locs hP hD hS => ?_)
        obtain ⟨g8, ex⟩ : ∃ y : Ob, y = (sA g6 6 (upd (g6.2 6) (g6.1 4).toNatClampNeg v7)) := ⟨_, rfl⟩
        replace hf := bnd_at hf ex; rw [← ex] at hP hD; clear ex
        refine lv_aload_n hx hb dX7_breaks_102 rfl (lv_at hl 0 rfl) ?_
        refine va_get (D := D) (ci := 7) (C := RX7) (T := TX7) (N := 40) hx hb F.2.2.2.2 in_X7_breaks_X7 F.2.2.2.1 hK.1 hP 0 rfl rfl 7 (Nat.le_of_ble_eq_true rfl) (F.2.2.2.2 (.fieldLink RX7 19 "LouderRoomModel" "people" "[I") (List.mem_of_getElem? (i := 2) rfl)) (fun _ h9 => h9) rfl dX7_breaks_103 ?_
        refine lv_aload_n hx hb dX7_breaks_106 rfl (lv_at hl 0 rfl) ?_
        refine va_get (D := D) (ci := 7) (C := RX7) (T := TX7) (N := 40) hx hb F.2.2.2.2 in_X7_breaks_X7 F.2.2.2.1 hK.1 hP 0 rfl rfl 4 (Nat.le_of_ble_eq_true rfl) (F.2.2.2.2 (.fieldLink RX7 75 "LouderRoomModel" "rings" "I") (List.mem_of_getElem? (i := 3) rfl)) (fun _ h9 => h9) rfl dX7_breaks_107 ?_
        refine lv_aload_n hx hb dX7_breaks_110 rfl (lv_at hl 0 rfl) ?_
        refine va_get (D := D) (ci := 7) (C := RX7) (T := TX7) (N := 40) hx hb F.2.2.2.2 in_X7_breaks_X7 F.2.2.2.1 hK.1 hP 0 rfl rfl 7 (Nat.le_of_ble_eq_true rfl) (F.2.2.2.2 (.fieldLink RX7 19 "LouderRoomModel" "people" "[I") (List.mem_of_getElem? (i := 2) rfl)) (fun _ h9 => h9) rfl dX7_breaks_111 ?_
        refine lv_iload_n hx hb dX7_breaks_114 rfl (lv_at hl 1 rfl) ?_
        obtain ⟨hi, hf⟩ := grd hf
        refine va_iald hx hb hK.1 hP 4 0 rfl rfl (inb_in hi) dX7_breaks_115 ?_
        refine lv_aload_n hx hb dX7_breaks_116 rfl (lv_at hl 0 rfl) ?_
        refine va_get (D := D) (ci := 7) (C := RX7) (T := TX7) (N := 40) hx hb F.2.2.2.2 in_X7_breaks_X7 F.2.2.2.1 hK.1 hP 0 rfl rfl 7 (Nat.le_of_ble_eq_true rfl) (F.2.2.2.2 (.fieldLink RX7 19 "LouderRoomModel" "people" "[I") (List.mem_of_getElem? (i := 2) rfl)) (fun _ h9 => h9) rfl dX7_breaks_117 ?_
        refine lv_iload_n hx hb dX7_breaks_120 rfl (lv_at hl 1 rfl) ?_
        obtain ⟨hi, hf⟩ := grd hf
        refine va_iald hx hb hK.1 hP 4 0 rfl rfl (inb_in hi) dX7_breaks_121 ?_
        refine lv_iconst (v := (2 : Int32)) hx hb dX7_breaks_122 (by decide) ?_
        refine lv_idiv hx hb dX7_breaks_123 (by decide) ?_
        refine lv_isub hx hb dX7_breaks_124 ?_
        obtain ⟨hi, hf⟩ := grd hf
        refine pt_iast (w1 := fl [oX7 ty h0 a0 (sA g8 7 (upd (g8.2 7) (g8.1 4).toNatClampNeg ((g8.2 7 p1.toNatClampNeg) - ((g8.2 7 p1.toNatClampNeg) / (2 : Int32)))))]) F hK.1 hP hD hS 4 0 rfl rfl (inb_in hi) rfl dX7_breaks_125 (fun H locs hP hD hS => ?_)
        obtain ⟨g9, ex⟩ : ∃ y : Ob, y = (sA g8 7 (upd (g8.2 7) (g8.1 4).toNatClampNeg ((g8.2 7 p1.toNatClampNeg) - ((g8.2 7 p1.toNatClampNeg) / (2 : Int32))))) := ⟨_, rfl⟩
        replace hf := bnd_at hf ex; rw [← ex] at hP hD; clear ex
        refine lv_aload_n hx hb dX7_breaks_126 rfl (lv_at hl 0 rfl) ?_
        refine va_get (D := D) (ci := 7) (C := RX7) (T := TX7) (N := 40) hx hb F.2.2.2.2 in_X7_breaks_X7 F.2.2.2.1 hK.1 hP 0 rfl rfl 7 (Nat.le_of_ble_eq_true rfl) (F.2.2.2.2 (.fieldLink RX7 19 "LouderRoomModel" "people" "[I") (List.mem_of_getElem? (i := 2) rfl)) (fun _ h9 => h9) rfl dX7_breaks_127 ?_
        refine lv_iload_n hx hb dX7_breaks_130 rfl (lv_at hl 1 rfl) ?_
        refine lv_dup2_11 hx hb dX7_breaks_131 rfl rfl ?_
        obtain ⟨hi, hf⟩ := grd hf
        refine va_iald hx hb hK.1 hP 4 0 rfl rfl (inb_in hi) dX7_breaks_132 ?_
        refine lv_iconst (v := (2 : Int32)) hx hb dX7_breaks_133 (by decide) ?_
        refine lv_idiv hx hb dX7_breaks_134 (by decide) ?_
        obtain ⟨hi, hf⟩ := grd hf
        refine pt_iast (w1 := fl [oX7 ty h0 a0 (sA g9 7 (upd (g9.2 7) p1.toNatClampNeg ((g9.2 7 p1.toNatClampNeg) / (2 : Int32))))]) F hK.1 hP hD hS 4 0 rfl rfl (inb_in hi) rfl dX7_breaks_135 (fun H locs hP hD hS => ?_)
        obtain ⟨g10, ex⟩ : ∃ y : Ob, y = (sA g9 7 (upd (g9.2 7) p1.toNatClampNeg ((g9.2 7 p1.toNatClampNeg) / (2 : Int32)))) := ⟨_, rfl⟩
        replace hf := bnd_at hf ex; rw [← ex] at hP hD; clear ex
        refine lv_aload_n hx hb dX7_breaks_136 rfl (lv_at hl 0 rfl) ?_
        refine lv_dup hx hb dX7_breaks_137 rfl ?_
        refine va_get (D := D) (ci := 7) (C := RX7) (T := TX7) (N := 40) hx hb F.2.2.2.2 in_X7_breaks_X7 F.2.2.2.1 hK.1 hP 0 rfl rfl 4 (Nat.le_of_ble_eq_true rfl) (F.2.2.2.2 (.fieldLink RX7 75 "LouderRoomModel" "rings" "I") (List.mem_of_getElem? (i := 3) rfl)) (fun _ h9 => h9) rfl dX7_breaks_138 ?_
        refine lv_iconst (v := (1 : Int32)) hx hb dX7_breaks_141 (by decide) ?_
        refine lv_iadd hx hb dX7_breaks_142 ?_
        refine pt_put (D := D) (ci := 7) (fty := .int) (C := RX7) (T := TX7) (N := 40) (w1 := fl [oX7 ty h0 a0 (sI g10 4 ((g10.1 4) + (1 : Int32)))]) F in_X7_breaks_X7 tyX7 tyX7_ok nmX7 hK.1 hP hD hS 0 rfl rfl 4 (Nat.le_of_ble_eq_true rfl) (F.2.2.2.2 (.fieldLink RX7 75 "LouderRoomModel" "rings" "I") (List.mem_of_getElem? (i := 3) rfl)) (fun _ h9 => h9) rfl (by decide +kernel) rfl rfl (Nat.le_of_ble_eq_true rfl) rfl dX7_breaks_143 (fun H locs hP hD hS => ?_)
        obtain ⟨g11, ex⟩ : ∃ y : Ob, y = (sI g10 4 ((g10.1 4) + (1 : Int32))) := ⟨_, rfl⟩
        replace hf := bnd_at hf ex; rw [← ex] at hP hD; clear ex
        refine lv_aload_n hx hb dX7_breaks_146 rfl (lv_at hl 0 rfl) ?_
        refine va_get (D := D) (ci := 7) (C := RX7) (T := TX7) (N := 40) hx hb F.2.2.2.2 in_X7_breaks_X7 F.2.2.2.1 hK.1 hP 0 rfl rfl 4 (Nat.le_of_ble_eq_true rfl) (F.2.2.2.2 (.fieldLink RX7 75 "LouderRoomModel" "rings" "I") (List.mem_of_getElem? (i := 3) rfl)) (fun _ h9 => h9) rfl dX7_breaks_147 ?_
        refine lv_iconst (v := (1 : Int32)) hx hb dX7_breaks_150 (by decide) ?_
        refine lv_isub hx hb dX7_breaks_151 ?_
        obtain hf := hf
        obtain ⟨e0, e1⟩ := tup2 hf
        rw [e1] at hP hD
        exact CX_i F hr hlk hP hD hS e0 dX7_breaks_152
      · replace hf := ite_t hf hc
        refine lv_bipush (v := (-4 : Int32)) hx hb dX7_breaks_37 (by decide) ?_
        obtain hf := hf
        obtain ⟨e0, e1⟩ := tup2 hf
        rw [e1] at hP hD
        exact CX_i F hr hlk hP hD hS e0 dX7_breaks_39
    · replace hf := ite_f hf hc
      refine lv_bipush (v := (-3 : Int32)) hx hb dX7_breaks_25 (by decide) ?_
      obtain hf := hf
      obtain ⟨e0, e1⟩ := tup2 hf
      rw [e1] at hP hD
      exact CX_i F hr hlk hP hD hS e0 dX7_breaks_27
  · replace hf := ite_f hf hc
    refine lv_iconst (v := (-1 : Int32)) hx hb dX7_breaks_13 (by decide) ?_
    obtain hf := hf
    obtain ⟨e0, e1⟩ := tup2 hf
    rw [e1] at hP hD
    exact CX_i F hr hlk hP hD hS e0 dX7_breaks_14
def b_X7_drop_12 (p1 : Int32) (r_12 : Int32 → Ob → Option (Ob)) (y2 : Int32) (w0 : Ob) : Option (Ob) := (if (w0.1 4) ≤ y2 then some w0 else (if inb (y2 + (1 : Int32)) 8 = true then (if inb y2 8 = true then bnd (sA w0 5 (upd (w0.2 5) y2.toNatClampNeg (w0.2 5 (y2 + (1 : Int32)).toNatClampNeg))) (fun g2 => (if inb (y2 + (1 : Int32)) 8 = true then (if inb y2 8 = true then bnd (sA g2 6 (upd (g2.2 6) y2.toNatClampNeg (g2.2 6 (y2 + (1 : Int32)).toNatClampNeg))) (fun g3 => (if inb (y2 + (1 : Int32)) 8 = true then (if inb y2 8 = true then bnd (sA g3 7 (upd (g3.2 7) y2.toNatClampNeg (g3.2 7 (y2 + (1 : Int32)).toNatClampNeg))) (fun g4 => (if inb (y2 + (1 : Int32)) 8 = true then (if inb y2 8 = true then bnd (sA g4 8 (upd (g4.2 8) y2.toNatClampNeg (g4.2 8 (y2 + (1 : Int32)).toNatClampNeg))) (fun g5 => (if inb (y2 + (1 : Int32)) 8 = true then (if inb y2 8 = true then bnd (sA g5 9 (upd (g5.2 9) y2.toNatClampNeg (g5.2 9 (y2 + (1 : Int32)).toNatClampNeg))) (fun g6 => bnd (y2 + (1 : Int32)) (fun x7 => r_12 x7 g6)) else none) else none)) else none) else none)) else none) else none)) else none) else none)) else none) else none))
def f_X7_drop (z0 : Ob) (p1 : Int32) : Option (Ob) := bnd (sI z0 4 ((z0.1 4) - (1 : Int32))) (fun g1 => fuel2 (b_X7_drop_12 p1) FU p1 g1)
abbrev rm_X7_drop : Room := { frames := 0, cells := 0, slots := 0, locals := 0 }
theorem hd_X7_drop : yX7_drop.cls ≠ "java/lang/invoke/MethodHandle" ∧ yX7_drop.cls ≠ "java/lang/invoke/VarHandle" ∧ (parseMethodDescriptor yX7_drop.desc).map (fun d => d.parameters.length) = some 1 := by decide +kernel
theorem in_X7_drop_X7 : ∀ w ∈ wsX70, w ∈ wsX7_drop := fun w h => List.mem_cons_of_mem _ (List.mem_append_right _ h)
set_option maxHeartbeats 4000000 in
set_option maxRecDepth 100000 in
theorem c_X7_drop (l : Launch) (D : va_G) (ty : TY) (h0 : Nat) (a0 : Nat → Nat) (z0 : Ob) (p1 : Int32) (o0 : Ob) (hf : f_X7_drop z0 p1 = some o0) (sz : Nat) : CX l yX7_drop wsX7_drop rm_X7_drop ([.ref h0, .int p1] : List Value) D ty (fl [oX7 ty h0 a0 z0]) sz (qV D (fl [oX7 ty h0 a0 o0])) 0 0 := by
  refine CX_of (cc := cX7_drop) (maxL := 3) (ret := none) (C := RX7) (by decide) rfl rfl (Nat.le_of_ble_eq_true rfl) ?_
  intro p e s m below meth c A ls F hr hlk _ hK hP hD hS hA hl
  have hx := F.1
  have hb := F.2.1
  replace hl : lv_has ls 3 [(0, .ref h0), (1, .int p1)] := hl
  unfold f_X7_drop at hf
  refine lv_aload_n hx hb dX7_drop_0 rfl (lv_at hl 0 rfl) ?_
  refine lv_dup hx hb dX7_drop_1 rfl ?_
  refine va_get (D := D) (ci := 7) (C := RX7) (T := TX7) (N := 40) hx hb F.2.2.2.2 in_X7_drop_X7 F.2.2.2.1 hK.1 hP 0 rfl rfl 4 (Nat.le_of_ble_eq_true rfl) (F.2.2.2.2 (.fieldLink RX7 75 "LouderRoomModel" "rings" "I") (List.mem_of_getElem? (i := 1) rfl)) (fun _ h9 => h9) rfl dX7_drop_2 ?_
  refine lv_iconst (v := (1 : Int32)) hx hb dX7_drop_5 (by decide) ?_
  refine lv_isub hx hb dX7_drop_6 ?_
  refine pt_put (D := D) (ci := 7) (fty := .int) (C := RX7) (T := TX7) (N := 40) (w1 := fl [oX7 ty h0 a0 (sI z0 4 ((z0.1 4) - (1 : Int32)))]) F in_X7_drop_X7 tyX7 tyX7_ok nmX7 hK.1 hP hD hS 0 rfl rfl 4 (Nat.le_of_ble_eq_true rfl) (F.2.2.2.2 (.fieldLink RX7 75 "LouderRoomModel" "rings" "I") (List.mem_of_getElem? (i := 1) rfl)) (fun _ h9 => h9) rfl (by decide +kernel) rfl rfl (Nat.le_of_ble_eq_true rfl) rfl dX7_drop_7 (fun H locs hP hD hS => ?_)
  obtain ⟨g1, ex⟩ : ∃ y : Ob, y = (sI z0 4 ((z0.1 4) - (1 : Int32))) := ⟨_, rfl⟩
  replace hf := bnd_at hf ex; rw [← ex] at hP hD; clear ex
  refine lv_iload_n hx hb dX7_drop_10 rfl (lv_at hl 1 rfl) ?_
  refine lv_istore_n (lv' := [(2, .int p1), (0, .ref h0), (1, .int p1)]) hx hb dX7_drop_11 rfl hl (by decide) rfl (fun ls hl => ?_)
  have L_12 : ∀ (n : Nat) (y2 : Int32) (w0 : Ob) (H : Heap) (locs : List Loc) (ls : Array Slot), va_P D vwC (fl [oX7 ty h0 a0 w0]) H → va_D A (fl [oX7 ty h0 a0 w0]) → va_S A s.heap H locs → lv_has ls 3 [(0, .ref h0), (2, .int y2)] → fuel2 (b_X7_drop_12 p1) n y2 w0 = some o0 → W p l e rm_X7_drop s m ([.ref h0, .int p1] : List Value).toArray below meth c H locs 0 0 (MQ below (qV D (fl [oX7 ty h0 a0 o0]) A) ([.ref h0, .int p1] : List Value).toArray s 0 0 A) (F0 m 12 ls []) := by
    intro n
    induction n with
    | zero => intro y2 w0 H locs ls hP hD hS hl hf; cases hf
    | succ n ih_12 =>
      intro y2 w0 H locs ls hP hD hS hl hf
      replace hf : b_X7_drop_12 p1 (fuel2 (b_X7_drop_12 p1) n) y2 w0 = some o0 := hf
      generalize fuel2 (b_X7_drop_12 p1) n = r_12 at ih_12 hf
      unfold b_X7_drop_12 at hf
      refine lv_iload_n hx hb dX7_drop_12 rfl (lv_at hl 1 rfl) ?_
      refine lv_aload_n hx hb dX7_drop_13 rfl (lv_at hl 0 rfl) ?_
      refine va_get (D := D) (ci := 7) (C := RX7) (T := TX7) (N := 40) hx hb F.2.2.2.2 in_X7_drop_X7 F.2.2.2.1 hK.1 hP 0 rfl rfl 4 (Nat.le_of_ble_eq_true rfl) (F.2.2.2.2 (.fieldLink RX7 75 "LouderRoomModel" "rings" "I") (List.mem_of_getElem? (i := 1) rfl)) (fun _ h9 => h9) rfl dX7_drop_14 ?_
      refine lv_icmp_ge (tgt := 96) hx hb dX7_drop_17 (by decide) (fun hc => ?_) (fun hc => ?_)
      · replace hf := ite_t hf hc
        obtain hf := hf
        have e0 := Option.some.inj hf
        rw [e0] at hP hD
        exact CX_v F hr hlk hP hD hS dX7_drop_96
      · replace hf := ite_f hf hc
        refine lv_aload_n hx hb dX7_drop_20 rfl (lv_at hl 0 rfl) ?_
        refine va_get (D := D) (ci := 7) (C := RX7) (T := TX7) (N := 40) hx hb F.2.2.2.2 in_X7_drop_X7 F.2.2.2.1 hK.1 hP 0 rfl rfl 5 (Nat.le_of_ble_eq_true rfl) (F.2.2.2.2 (.fieldLink RX7 13 "LouderRoomModel" "kind" "[I") (List.mem_of_getElem? (i := 2) rfl)) (fun _ h9 => h9) rfl dX7_drop_21 ?_
        refine lv_iload_n hx hb dX7_drop_24 rfl (lv_at hl 1 rfl) ?_
        refine lv_aload_n hx hb dX7_drop_25 rfl (lv_at hl 0 rfl) ?_
        refine va_get (D := D) (ci := 7) (C := RX7) (T := TX7) (N := 40) hx hb F.2.2.2.2 in_X7_drop_X7 F.2.2.2.1 hK.1 hP 0 rfl rfl 5 (Nat.le_of_ble_eq_true rfl) (F.2.2.2.2 (.fieldLink RX7 13 "LouderRoomModel" "kind" "[I") (List.mem_of_getElem? (i := 2) rfl)) (fun _ h9 => h9) rfl dX7_drop_26 ?_
        refine lv_iload_n hx hb dX7_drop_29 rfl (lv_at hl 1 rfl) ?_
        refine lv_iconst (v := (1 : Int32)) hx hb dX7_drop_30 (by decide) ?_
        refine lv_iadd hx hb dX7_drop_31 ?_
        obtain ⟨hi, hf⟩ := grd hf
        refine va_iald hx hb hK.1 hP 2 0 rfl rfl (inb_in hi) dX7_drop_32 ?_
        obtain ⟨hi, hf⟩ := grd hf
        refine pt_iast (w1 := fl [oX7 ty h0 a0 (sA w0 5 (upd (w0.2 5) y2.toNatClampNeg (w0.2 5 (y2 + (1 : Int32)).toNatClampNeg)))]) F hK.1 hP hD hS 2 0 rfl rfl (inb_in hi) rfl dX7_drop_33 (fun H locs hP hD hS => ?_)
        obtain ⟨g2, ex⟩ : ∃ y : Ob, y = (sA w0 5 (upd (w0.2 5) y2.toNatClampNeg (w0.2 5 (y2 + (1 : Int32)).toNatClampNeg))) := ⟨_, rfl⟩
        replace hf := bnd_at hf ex; rw [← ex] at hP hD; clear ex
        refine lv_aload_n hx hb dX7_drop_34 rfl (lv_at hl 0 rfl) ?_
        refine va_get (D := D) (ci := 7) (C := RX7) (T := TX7) (N := 40) hx hb F.2.2.2.2 in_X7_drop_X7 F.2.2.2.1 hK.1 hP 0 rfl rfl 6 (Nat.le_of_ble_eq_true rfl) (F.2.2.2.2 (.fieldLink RX7 16 "LouderRoomModel" "cell" "[I") (List.mem_of_getElem? (i := 3) rfl)) (fun _ h9 => h9) rfl dX7_drop_35 ?_
        refine lv_iload_n hx hb dX7_drop_38 rfl (lv_at hl 1 rfl) ?_
        refine lv_aload_n hx hb dX7_drop_39 rfl (lv_at hl 0 rfl) ?_
        refine va_get (D := D) (ci := 7) (C := RX7) (T := TX7) (N := 40) hx hb F.2.2.2.2 in_X7_drop_X7 F.2.2.2.1 hK.1 hP 0 rfl rfl 6 (Nat.le_of_ble_eq_true rfl) (F.2.2.2.2 (.fieldLink RX7 16 "LouderRoomModel" "cell" "[I") (List.mem_of_getElem? (i := 3) rfl)) (fun _ h9 => h9) rfl dX7_drop_40 ?_
        refine lv_iload_n hx hb dX7_drop_43 rfl (lv_at hl 1 rfl) ?_
        refine lv_iconst (v := (1 : Int32)) hx hb dX7_drop_44 (by decide) ?_
        refine lv_iadd hx hb dX7_drop_45 ?_
        obtain ⟨hi, hf⟩ := grd hf
        refine va_iald hx hb hK.1 hP 3 0 rfl rfl (inb_in hi) dX7_drop_46 ?_
        obtain ⟨hi, hf⟩ := grd hf
        refine pt_iast (w1 := fl [oX7 ty h0 a0 (sA g2 6 (upd (g2.2 6) y2.toNatClampNeg (g2.2 6 (y2 + (1 : Int32)).toNatClampNeg)))]) F hK.1 hP hD hS 3 0 rfl rfl (inb_in hi) rfl dX7_drop_47 (fun H locs hP hD hS => ?_)
        obtain ⟨g3, ex⟩ : ∃ y : Ob, y = (sA g2 6 (upd (g2.2 6) y2.toNatClampNeg (g2.2 6 (y2 + (1 : Int32)).toNatClampNeg))) := ⟨_, rfl⟩
        replace hf := bnd_at hf ex; rw [← ex] at hP hD; clear ex
        refine lv_aload_n hx hb dX7_drop_48 rfl (lv_at hl 0 rfl) ?_
        refine va_get (D := D) (ci := 7) (C := RX7) (T := TX7) (N := 40) hx hb F.2.2.2.2 in_X7_drop_X7 F.2.2.2.1 hK.1 hP 0 rfl rfl 7 (Nat.le_of_ble_eq_true rfl) (F.2.2.2.2 (.fieldLink RX7 19 "LouderRoomModel" "people" "[I") (List.mem_of_getElem? (i := 4) rfl)) (fun _ h9 => h9) rfl dX7_drop_49 ?_
        refine lv_iload_n hx hb dX7_drop_52 rfl (lv_at hl 1 rfl) ?_
        refine lv_aload_n hx hb dX7_drop_53 rfl (lv_at hl 0 rfl) ?_
        refine va_get (D := D) (ci := 7) (C := RX7) (T := TX7) (N := 40) hx hb F.2.2.2.2 in_X7_drop_X7 F.2.2.2.1 hK.1 hP 0 rfl rfl 7 (Nat.le_of_ble_eq_true rfl) (F.2.2.2.2 (.fieldLink RX7 19 "LouderRoomModel" "people" "[I") (List.mem_of_getElem? (i := 4) rfl)) (fun _ h9 => h9) rfl dX7_drop_54 ?_
        refine lv_iload_n hx hb dX7_drop_57 rfl (lv_at hl 1 rfl) ?_
        refine lv_iconst (v := (1 : Int32)) hx hb dX7_drop_58 (by decide) ?_
        refine lv_iadd hx hb dX7_drop_59 ?_
        obtain ⟨hi, hf⟩ := grd hf
        refine va_iald hx hb hK.1 hP 4 0 rfl rfl (inb_in hi) dX7_drop_60 ?_
        obtain ⟨hi, hf⟩ := grd hf
        refine pt_iast (w1 := fl [oX7 ty h0 a0 (sA g3 7 (upd (g3.2 7) y2.toNatClampNeg (g3.2 7 (y2 + (1 : Int32)).toNatClampNeg)))]) F hK.1 hP hD hS 4 0 rfl rfl (inb_in hi) rfl dX7_drop_61 (fun H locs hP hD hS => ?_)
        obtain ⟨g4, ex⟩ : ∃ y : Ob, y = (sA g3 7 (upd (g3.2 7) y2.toNatClampNeg (g3.2 7 (y2 + (1 : Int32)).toNatClampNeg))) := ⟨_, rfl⟩
        replace hf := bnd_at hf ex; rw [← ex] at hP hD; clear ex
        refine lv_aload_n hx hb dX7_drop_62 rfl (lv_at hl 0 rfl) ?_
        refine va_get (D := D) (ci := 7) (C := RX7) (T := TX7) (N := 40) hx hb F.2.2.2.2 in_X7_drop_X7 F.2.2.2.1 hK.1 hP 0 rfl rfl 8 (Nat.le_of_ble_eq_true rfl) (F.2.2.2.2 (.fieldLink RX7 22 "LouderRoomModel" "voice" "[I") (List.mem_of_getElem? (i := 5) rfl)) (fun _ h9 => h9) rfl dX7_drop_63 ?_
        refine lv_iload_n hx hb dX7_drop_66 rfl (lv_at hl 1 rfl) ?_
        refine lv_aload_n hx hb dX7_drop_67 rfl (lv_at hl 0 rfl) ?_
        refine va_get (D := D) (ci := 7) (C := RX7) (T := TX7) (N := 40) hx hb F.2.2.2.2 in_X7_drop_X7 F.2.2.2.1 hK.1 hP 0 rfl rfl 8 (Nat.le_of_ble_eq_true rfl) (F.2.2.2.2 (.fieldLink RX7 22 "LouderRoomModel" "voice" "[I") (List.mem_of_getElem? (i := 5) rfl)) (fun _ h9 => h9) rfl dX7_drop_68 ?_
        refine lv_iload_n hx hb dX7_drop_71 rfl (lv_at hl 1 rfl) ?_
        refine lv_iconst (v := (1 : Int32)) hx hb dX7_drop_72 (by decide) ?_
        refine lv_iadd hx hb dX7_drop_73 ?_
        obtain ⟨hi, hf⟩ := grd hf
        refine va_iald hx hb hK.1 hP 5 0 rfl rfl (inb_in hi) dX7_drop_74 ?_
        obtain ⟨hi, hf⟩ := grd hf
        refine pt_iast (w1 := fl [oX7 ty h0 a0 (sA g4 8 (upd (g4.2 8) y2.toNatClampNeg (g4.2 8 (y2 + (1 : Int32)).toNatClampNeg)))]) F hK.1 hP hD hS 5 0 rfl rfl (inb_in hi) rfl dX7_drop_75 (fun H locs hP hD hS => ?_)
        obtain ⟨g5, ex⟩ : ∃ y : Ob, y = (sA g4 8 (upd (g4.2 8) y2.toNatClampNeg (g4.2 8 (y2 + (1 : Int32)).toNatClampNeg))) := ⟨_, rfl⟩
        replace hf := bnd_at hf ex; rw [← ex] at hP hD; clear ex
        refine lv_aload_n hx hb dX7_drop_76 rfl (lv_at hl 0 rfl) ?_
        refine va_get (D := D) (ci := 7) (C := RX7) (T := TX7) (N := 40) hx hb F.2.2.2.2 in_X7_drop_X7 F.2.2.2.1 hK.1 hP 0 rfl rfl 9 (Nat.le_of_ble_eq_true rfl) (F.2.2.2.2 (.fieldLink RX7 25 "LouderRoomModel" "age" "[I") (List.mem_of_getElem? (i := 6) rfl)) (fun _ h9 => h9) rfl dX7_drop_77 ?_
        refine lv_iload_n hx hb dX7_drop_80 rfl (lv_at hl 1 rfl) ?_
        refine lv_aload_n hx hb dX7_drop_81 rfl (lv_at hl 0 rfl) ?_
        refine va_get (D := D) (ci := 7) (C := RX7) (T := TX7) (N := 40) hx hb F.2.2.2.2 in_X7_drop_X7 F.2.2.2.1 hK.1 hP 0 rfl rfl 9 (Nat.le_of_ble_eq_true rfl) (F.2.2.2.2 (.fieldLink RX7 25 "LouderRoomModel" "age" "[I") (List.mem_of_getElem? (i := 6) rfl)) (fun _ h9 => h9) rfl dX7_drop_82 ?_
        refine lv_iload_n hx hb dX7_drop_85 rfl (lv_at hl 1 rfl) ?_
        refine lv_iconst (v := (1 : Int32)) hx hb dX7_drop_86 (by decide) ?_
        refine lv_iadd hx hb dX7_drop_87 ?_
        obtain ⟨hi, hf⟩ := grd hf
        refine va_iald hx hb hK.1 hP 6 0 rfl rfl (inb_in hi) dX7_drop_88 ?_
        obtain ⟨hi, hf⟩ := grd hf
        refine pt_iast (w1 := fl [oX7 ty h0 a0 (sA g5 9 (upd (g5.2 9) y2.toNatClampNeg (g5.2 9 (y2 + (1 : Int32)).toNatClampNeg)))]) F hK.1 hP hD hS 6 0 rfl rfl (inb_in hi) rfl dX7_drop_89 (fun H locs hP hD hS => ?_)
        obtain ⟨g6, ex⟩ : ∃ y : Ob, y = (sA g5 9 (upd (g5.2 9) y2.toNatClampNeg (g5.2 9 (y2 + (1 : Int32)).toNatClampNeg))) := ⟨_, rfl⟩
        replace hf := bnd_at hf ex; rw [← ex] at hP hD; clear ex
        obtain ⟨x7, ex⟩ : ∃ y : Int32, y = (y2 + (1 : Int32)) := ⟨_, rfl⟩
        replace hf := bnd_at hf ex
        refine lv_iinc (v := x7) (lv' := [(2, .int x7), (0, .ref h0)]) hx hb dX7_drop_90 hl (k := 1) rfl (by rw [ex]; rfl) (by decide) rfl (fun ls hl => ?_)
        clear ex
        refine lv_goto (tgt := 12) hx hb dX7_drop_93 (by decide) ?_
        exact ih_12 x7 g6 _ _ _ hP hD hS (lv_sub hl [1, 0] rfl) hf
  exact L_12 FU p1 g1 _ _ _ hP hD hS (lv_sub hl [1, 0] rfl) hf
def f_X7_joins (z0 : Ob) (p1 : Int32) (p2 : Int32) : Option (Int32 × Ob) := bnd (sI z0 0 (0 : Int32)) (fun g1 => (f_X7_noRing g1 p1).bind (fun v2 => (if v2 = 0 then (f_X7_noRing g1 p2).bind (fun v3 => (if v3 = 0 then (if p1 = p2 then some ((-2 : Int32), g1) else (if inb p1 8 = true then (if inb p2 8 = true then bnd ((g1.2 7 p1.toNatClampNeg) + (g1.2 7 p2.toNatClampNeg)) (fun x4 => (if x4 ≤ (9 : Int32) then (f_X7_note g1).bind (fun g5 => (if inb p1 8 = true then bnd (sA g5 7 (upd (g5.2 7) p1.toNatClampNeg x4)) (fun g6 => (f_X7_drop g6 p2).bind (fun g7 => some (x4, g7))) else none)) else some ((-4 : Int32), g1))) else none) else none)) else some ((-1 : Int32), g1))) else some ((-1 : Int32), g1))))
abbrev rm_X7_joins : Room := { frames := 2, cells := 0, slots := 0, locals := 46 }
theorem hd_X7_joins : yX7_joins.cls ≠ "java/lang/invoke/MethodHandle" ∧ yX7_joins.cls ≠ "java/lang/invoke/VarHandle" ∧ (parseMethodDescriptor yX7_joins.desc).map (fun d => d.parameters.length) = some 2 := by decide +kernel
theorem in_X7_joins_X7 : ∀ w ∈ wsX70, w ∈ wsX7_joins := fun w h => List.mem_cons_of_mem _ (List.mem_append_right _ h)
set_option maxHeartbeats 4000000 in
set_option maxRecDepth 100000 in
theorem c_X7_joins (l : Launch) (D : va_G) (ty : TY) (h0 : Nat) (a0 : Nat → Nat) (z0 : Ob) (p1 : Int32) (p2 : Int32) (o0 : Int32) (o1 : Ob) (hf : f_X7_joins z0 p1 p2 = some (o0, o1)) (sz : Nat) : CX l yX7_joins wsX7_joins rm_X7_joins ([.ref h0, .int p1, .int p2] : List Value) D ty (fl [oX7 ty h0 a0 z0]) sz (qI D o0 (fl [oX7 ty h0 a0 o1])) 0 0 := by
  refine CX_of (cc := cX7_joins) (maxL := 4) (ret := (some .int)) (C := RX7) (by decide) rfl rfl (Nat.le_of_ble_eq_true rfl) ?_
  intro p e s m below meth c A ls F hr hlk _ hK hP hD hS hA hl
  have hx := F.1
  have hb := F.2.1
  replace hl : lv_has ls 4 [(0, .ref h0), (1, .int p1), (2, .int p2)] := hl
  unfold f_X7_joins at hf
  refine lv_aload_n hx hb dX7_joins_0 rfl (lv_at hl 0 rfl) ?_
  refine lv_iconst (v := (0 : Int32)) hx hb dX7_joins_1 (by decide) ?_
  refine pt_put (D := D) (ci := 7) (fty := .int) (C := RX7) (T := TX7) (N := 40) (w1 := fl [oX7 ty h0 a0 (sI z0 0 (0 : Int32))]) F in_X7_joins_X7 tyX7 tyX7_ok nmX7 hK.1 hP hD hS 0 rfl rfl 0 (Nat.le_of_ble_eq_true rfl) (F.2.2.2.2 (.fieldLink RX7 71 "LouderRoomModel" "thrown" "I") (List.mem_of_getElem? (i := 1) rfl)) (fun _ h9 => h9) rfl (by decide +kernel) rfl rfl (Nat.le_of_ble_eq_true rfl) rfl dX7_joins_2 (fun H locs hP hD hS => ?_)
  obtain ⟨g1, ex⟩ : ∃ y : Ob, y = (sI z0 0 (0 : Int32)) := ⟨_, rfl⟩
  replace hf := bnd_at hf ex; rw [← ex] at hP hD; clear ex
  refine lv_aload_n hx hb dX7_joins_5 rfl (lv_at hl 0 rfl) ?_
  refine lv_iload_n hx hb dX7_joins_6 rfl (lv_at hl 1 rfl) ?_
  obtain ⟨v2, hv, hf⟩ := obd hf
  have hp1 : List.Perm [oX7 ty h0 a0 g1] ([oX7 ty h0 a0 g1] ++ []) := (List.Perm.refl _)
  refine ci_call (out := v2) (os := [oX7 ty h0 a0 g1]) (oc := [oX7 ty h0 a0 g1]) (oc' := [oX7 ty h0 a0 g1]) (or_ := []) (os' := [oX7 ty h0 a0 g1]) (va_runV (As := [.int p1]) (rest := []) F (c_X7_noRing l D ty h0 a0 _ _ _ hv _) (cwV 1 F.2.2.2.2 gX7_joins_X7_noRing rfl rfl rfl ⟨rfl, hd_X7_noRing⟩ ⟨Nat.le_of_ble_eq_true rfl, Nat.le_of_ble_eq_true rfl⟩) (pre_v hK hP hD hp1 rfl rfl rfl) rfl rfl hl.1 rfl (lv_room (Nat.le_of_ble_eq_true rfl)) dX7_joins_7 ⟨Nat.zero_le _, Nat.zero_le _⟩) hp1 (List.Perm.refl _) hP hD hS hA (fun H locs hP hD hS => ?_)
  clear hp1 hv
  refine lv_if_ne (tgt := 21) hx hb dX7_joins_10 (by decide) (fun hc => ?_) (fun hc => ?_)
  · replace hf := ite_f hf hc
    refine lv_iconst (v := (-1 : Int32)) hx hb dX7_joins_21 (by decide) ?_
    obtain hf := hf
    obtain ⟨e0, e1⟩ := tup2 hf
    rw [e1] at hP hD
    exact CX_i F hr hlk hP hD hS e0 dX7_joins_22
  · replace hf := ite_t hf hc
    refine lv_aload_n hx hb dX7_joins_13 rfl (lv_at hl 0 rfl) ?_
    refine lv_iload_n hx hb dX7_joins_14 rfl (lv_at hl 2 rfl) ?_
    obtain ⟨v3, hv, hf⟩ := obd hf
    have hp1 : List.Perm [oX7 ty h0 a0 g1] ([oX7 ty h0 a0 g1] ++ []) := (List.Perm.refl _)
    refine ci_call (out := v3) (os := [oX7 ty h0 a0 g1]) (oc := [oX7 ty h0 a0 g1]) (oc' := [oX7 ty h0 a0 g1]) (or_ := []) (os' := [oX7 ty h0 a0 g1]) (va_runV (As := [.int p2]) (rest := []) F (c_X7_noRing l D ty h0 a0 _ _ _ hv _) (cwV 1 F.2.2.2.2 gX7_joins_X7_noRing rfl rfl rfl ⟨rfl, hd_X7_noRing⟩ ⟨Nat.le_of_ble_eq_true rfl, Nat.le_of_ble_eq_true rfl⟩) (pre_v hK hP hD hp1 rfl rfl rfl) rfl rfl hl.1 rfl (lv_room (Nat.le_of_ble_eq_true rfl)) dX7_joins_15 ⟨Nat.zero_le _, Nat.zero_le _⟩) hp1 (List.Perm.refl _) hP hD hS hA (fun H locs hP hD hS => ?_)
    clear hp1 hv
    refine lv_if_eq (tgt := 23) hx hb dX7_joins_18 (by decide) (fun hc => ?_) (fun hc => ?_)
    · replace hf := ite_t hf hc
      refine lv_iload_n hx hb dX7_joins_23 rfl (lv_at hl 1 rfl) ?_
      refine lv_iload_n hx hb dX7_joins_24 rfl (lv_at hl 2 rfl) ?_
      refine lv_icmp_ne (tgt := 31) hx hb dX7_joins_25 (by decide) (fun hc => ?_) (fun hc => ?_)
      · replace hf := ite_f hf hc
        refine lv_aload_n hx hb dX7_joins_31 rfl (lv_at hl 0 rfl) ?_
        refine va_get (D := D) (ci := 7) (C := RX7) (T := TX7) (N := 40) hx hb F.2.2.2.2 in_X7_joins_X7 F.2.2.2.1 hK.1 hP 0 rfl rfl 7 (Nat.le_of_ble_eq_true rfl) (F.2.2.2.2 (.fieldLink RX7 19 "LouderRoomModel" "people" "[I") (List.mem_of_getElem? (i := 2) rfl)) (fun _ h9 => h9) rfl dX7_joins_32 ?_
        refine lv_iload_n hx hb dX7_joins_35 rfl (lv_at hl 1 rfl) ?_
        obtain ⟨hi, hf⟩ := grd hf
        refine va_iald hx hb hK.1 hP 4 0 rfl rfl (inb_in hi) dX7_joins_36 ?_
        refine lv_aload_n hx hb dX7_joins_37 rfl (lv_at hl 0 rfl) ?_
        refine va_get (D := D) (ci := 7) (C := RX7) (T := TX7) (N := 40) hx hb F.2.2.2.2 in_X7_joins_X7 F.2.2.2.1 hK.1 hP 0 rfl rfl 7 (Nat.le_of_ble_eq_true rfl) (F.2.2.2.2 (.fieldLink RX7 19 "LouderRoomModel" "people" "[I") (List.mem_of_getElem? (i := 2) rfl)) (fun _ h9 => h9) rfl dX7_joins_38 ?_
        refine lv_iload_n hx hb dX7_joins_41 rfl (lv_at hl 2 rfl) ?_
        obtain ⟨hi, hf⟩ := grd hf
        refine va_iald hx hb hK.1 hP 4 0 rfl rfl (inb_in hi) dX7_joins_42 ?_
        refine lv_iadd hx hb dX7_joins_43 ?_
        refine lv_topi (fun x4 ex => ?_)
        replace hf := bnd_at hf ex; clear ex
        refine lv_istore_n (lv' := [(3, .int x4), (0, .ref h0), (1, .int p1), (2, .int p2)]) hx hb dX7_joins_44 rfl hl (by decide) rfl (fun ls hl => ?_)
        refine lv_iload_n hx hb dX7_joins_45 rfl (lv_at hl 0 rfl) ?_
        refine lv_bipush (v := (9 : Int32)) hx hb dX7_joins_46 (by decide) ?_
        refine lv_icmp_le (tgt := 54) hx hb dX7_joins_48 (by decide) (fun hc => ?_) (fun hc => ?_)
        · replace hf := ite_t hf hc
          refine lv_aload_n hx hb dX7_joins_54 rfl (lv_at hl 1 rfl) ?_
          obtain ⟨g5, hv, hf⟩ := obd hf
          have hp1 : List.Perm [oX7 ty h0 a0 g1] ([oX7 ty h0 a0 g1] ++ []) := (List.Perm.refl _)
          refine cv_call (os := [oX7 ty h0 a0 g1]) (oc := [oX7 ty h0 a0 g1]) (oc' := [oX7 ty h0 a0 g5]) (or_ := []) (os' := [oX7 ty h0 a0 g5]) (va_runV (As := []) (rest := []) F (c_X7_note l D ty h0 a0 _ _ hv _) (cwV 0 F.2.2.2.2 gX7_joins_X7_note rfl rfl rfl ⟨rfl, hd_X7_note⟩ ⟨Nat.le_of_ble_eq_true rfl, Nat.le_of_ble_eq_true rfl⟩) (pre_v hK hP hD hp1 rfl rfl rfl) rfl rfl hl.1 rfl (lv_room (Nat.le_of_ble_eq_true rfl)) dX7_joins_55 ⟨Nat.zero_le _, Nat.zero_le _⟩) hp1 (List.Perm.refl _) hP hD hS hA (fun H locs hP hD hS => ?_)
          clear hp1 hv
          refine lv_aload_n hx hb dX7_joins_58 rfl (lv_at hl 1 rfl) ?_
          refine va_get (D := D) (ci := 7) (C := RX7) (T := TX7) (N := 40) hx hb F.2.2.2.2 in_X7_joins_X7 F.2.2.2.1 hK.1 hP 0 rfl rfl 7 (Nat.le_of_ble_eq_true rfl) (F.2.2.2.2 (.fieldLink RX7 19 "LouderRoomModel" "people" "[I") (List.mem_of_getElem? (i := 2) rfl)) (fun _ h9 => h9) rfl dX7_joins_59 ?_
          refine lv_iload_n hx hb dX7_joins_62 rfl (lv_at hl 2 rfl) ?_
          refine lv_iload_n hx hb dX7_joins_63 rfl (lv_at hl 0 rfl) ?_
          obtain ⟨hi, hf⟩ := grd hf
          refine pt_iast (w1 := fl [oX7 ty h0 a0 (sA g5 7 (upd (g5.2 7) p1.toNatClampNeg x4))]) F hK.1 hP hD hS 4 0 rfl rfl (inb_in hi) rfl dX7_joins_64 (fun H locs hP hD hS => ?_)
          obtain ⟨g6, ex⟩ : ∃ y : Ob, y = (sA g5 7 (upd (g5.2 7) p1.toNatClampNeg x4)) := ⟨_, rfl⟩
          replace hf := bnd_at hf ex; rw [← ex] at hP hD; clear ex
          refine lv_aload_n hx hb dX7_joins_65 rfl (lv_at hl 1 rfl) ?_
          refine lv_iload_n hx hb dX7_joins_66 rfl (lv_at hl 3 rfl) ?_
          obtain ⟨g7, hv, hf⟩ := obd hf
          have hp1 : List.Perm [oX7 ty h0 a0 g6] ([oX7 ty h0 a0 g6] ++ []) := (List.Perm.refl _)
          refine cv_call (os := [oX7 ty h0 a0 g6]) (oc := [oX7 ty h0 a0 g6]) (oc' := [oX7 ty h0 a0 g7]) (or_ := []) (os' := [oX7 ty h0 a0 g7]) (va_runV (As := [.int p2]) (rest := []) F (c_X7_drop l D ty h0 a0 _ _ _ hv _) (cwV 1 F.2.2.2.2 gX7_joins_X7_drop rfl rfl rfl ⟨rfl, hd_X7_drop⟩ ⟨Nat.le_of_ble_eq_true rfl, Nat.le_of_ble_eq_true rfl⟩) (pre_v hK hP hD hp1 rfl rfl rfl) rfl rfl hl.1 rfl (lv_room (Nat.le_of_ble_eq_true rfl)) dX7_joins_67 ⟨Nat.zero_le _, Nat.zero_le _⟩) hp1 (List.Perm.refl _) hP hD hS hA (fun H locs hP hD hS => ?_)
          clear hp1 hv
          refine lv_iload_n hx hb dX7_joins_70 rfl (lv_at hl 0 rfl) ?_
          obtain hf := hf
          obtain ⟨e0, e1⟩ := tup2 hf
          rw [e1] at hP hD
          exact CX_i F hr hlk hP hD hS e0 dX7_joins_71
        · replace hf := ite_f hf hc
          refine lv_bipush (v := (-4 : Int32)) hx hb dX7_joins_51 (by decide) ?_
          obtain hf := hf
          obtain ⟨e0, e1⟩ := tup2 hf
          rw [e1] at hP hD
          exact CX_i F hr hlk hP hD hS e0 dX7_joins_53
      · replace hf := ite_t hf hc
        refine lv_bipush (v := (-2 : Int32)) hx hb dX7_joins_28 (by decide) ?_
        obtain hf := hf
        obtain ⟨e0, e1⟩ := tup2 hf
        rw [e1] at hP hD
        exact CX_i F hr hlk hP hD hS e0 dX7_joins_30
    · replace hf := ite_f hf hc
      refine lv_iconst (v := (-1 : Int32)) hx hb dX7_joins_21 (by decide) ?_
      obtain hf := hf
      obtain ⟨e0, e1⟩ := tup2 hf
      rw [e1] at hP hD
      exact CX_i F hr hlk hP hD hS e0 dX7_joins_22
def f_X7_home (z0 : Ob) (p1 : Int32) : Option (Int32 × Ob) := bnd (sI z0 0 (0 : Int32)) (fun g1 => (f_X7_noRing g1 p1).bind (fun v2 => (if v2 = 0 then (f_X7_note g1).bind (fun g3 => (f_X7_drop g3 p1).bind (fun g4 => some ((g4.1 4), g4))) else some ((-1 : Int32), g1))))
abbrev rm_X7_home : Room := { frames := 2, cells := 0, slots := 0, locals := 46 }
theorem hd_X7_home : yX7_home.cls ≠ "java/lang/invoke/MethodHandle" ∧ yX7_home.cls ≠ "java/lang/invoke/VarHandle" ∧ (parseMethodDescriptor yX7_home.desc).map (fun d => d.parameters.length) = some 1 := by decide +kernel
theorem in_X7_home_X7 : ∀ w ∈ wsX70, w ∈ wsX7_home := fun w h => List.mem_cons_of_mem _ (List.mem_append_right _ h)
set_option maxHeartbeats 4000000 in
set_option maxRecDepth 100000 in
theorem c_X7_home (l : Launch) (D : va_G) (ty : TY) (h0 : Nat) (a0 : Nat → Nat) (z0 : Ob) (p1 : Int32) (o0 : Int32) (o1 : Ob) (hf : f_X7_home z0 p1 = some (o0, o1)) (sz : Nat) : CX l yX7_home wsX7_home rm_X7_home ([.ref h0, .int p1] : List Value) D ty (fl [oX7 ty h0 a0 z0]) sz (qI D o0 (fl [oX7 ty h0 a0 o1])) 0 0 := by
  refine CX_of (cc := cX7_home) (maxL := 2) (ret := (some .int)) (C := RX7) (by decide) rfl rfl (Nat.le_of_ble_eq_true rfl) ?_
  intro p e s m below meth c A ls F hr hlk _ hK hP hD hS hA hl
  have hx := F.1
  have hb := F.2.1
  replace hl : lv_has ls 2 [(0, .ref h0), (1, .int p1)] := hl
  unfold f_X7_home at hf
  refine lv_aload_n hx hb dX7_home_0 rfl (lv_at hl 0 rfl) ?_
  refine lv_iconst (v := (0 : Int32)) hx hb dX7_home_1 (by decide) ?_
  refine pt_put (D := D) (ci := 7) (fty := .int) (C := RX7) (T := TX7) (N := 40) (w1 := fl [oX7 ty h0 a0 (sI z0 0 (0 : Int32))]) F in_X7_home_X7 tyX7 tyX7_ok nmX7 hK.1 hP hD hS 0 rfl rfl 0 (Nat.le_of_ble_eq_true rfl) (F.2.2.2.2 (.fieldLink RX7 71 "LouderRoomModel" "thrown" "I") (List.mem_of_getElem? (i := 1) rfl)) (fun _ h9 => h9) rfl (by decide +kernel) rfl rfl (Nat.le_of_ble_eq_true rfl) rfl dX7_home_2 (fun H locs hP hD hS => ?_)
  obtain ⟨g1, ex⟩ : ∃ y : Ob, y = (sI z0 0 (0 : Int32)) := ⟨_, rfl⟩
  replace hf := bnd_at hf ex; rw [← ex] at hP hD; clear ex
  refine lv_aload_n hx hb dX7_home_5 rfl (lv_at hl 0 rfl) ?_
  refine lv_iload_n hx hb dX7_home_6 rfl (lv_at hl 1 rfl) ?_
  obtain ⟨v2, hv, hf⟩ := obd hf
  have hp1 : List.Perm [oX7 ty h0 a0 g1] ([oX7 ty h0 a0 g1] ++ []) := (List.Perm.refl _)
  refine ci_call (out := v2) (os := [oX7 ty h0 a0 g1]) (oc := [oX7 ty h0 a0 g1]) (oc' := [oX7 ty h0 a0 g1]) (or_ := []) (os' := [oX7 ty h0 a0 g1]) (va_runV (As := [.int p1]) (rest := []) F (c_X7_noRing l D ty h0 a0 _ _ _ hv _) (cwV 1 F.2.2.2.2 gX7_home_X7_noRing rfl rfl rfl ⟨rfl, hd_X7_noRing⟩ ⟨Nat.le_of_ble_eq_true rfl, Nat.le_of_ble_eq_true rfl⟩) (pre_v hK hP hD hp1 rfl rfl rfl) rfl rfl hl.1 rfl (lv_room (Nat.le_of_ble_eq_true rfl)) dX7_home_7 ⟨Nat.zero_le _, Nat.zero_le _⟩) hp1 (List.Perm.refl _) hP hD hS hA (fun H locs hP hD hS => ?_)
  clear hp1 hv
  refine lv_if_eq (tgt := 15) hx hb dX7_home_10 (by decide) (fun hc => ?_) (fun hc => ?_)
  · replace hf := ite_t hf hc
    refine lv_aload_n hx hb dX7_home_15 rfl (lv_at hl 0 rfl) ?_
    obtain ⟨g3, hv, hf⟩ := obd hf
    have hp1 : List.Perm [oX7 ty h0 a0 g1] ([oX7 ty h0 a0 g1] ++ []) := (List.Perm.refl _)
    refine cv_call (os := [oX7 ty h0 a0 g1]) (oc := [oX7 ty h0 a0 g1]) (oc' := [oX7 ty h0 a0 g3]) (or_ := []) (os' := [oX7 ty h0 a0 g3]) (va_runV (As := []) (rest := []) F (c_X7_note l D ty h0 a0 _ _ hv _) (cwV 0 F.2.2.2.2 gX7_home_X7_note rfl rfl rfl ⟨rfl, hd_X7_note⟩ ⟨Nat.le_of_ble_eq_true rfl, Nat.le_of_ble_eq_true rfl⟩) (pre_v hK hP hD hp1 rfl rfl rfl) rfl rfl hl.1 rfl (lv_room (Nat.le_of_ble_eq_true rfl)) dX7_home_16 ⟨Nat.zero_le _, Nat.zero_le _⟩) hp1 (List.Perm.refl _) hP hD hS hA (fun H locs hP hD hS => ?_)
    clear hp1 hv
    refine lv_aload_n hx hb dX7_home_19 rfl (lv_at hl 0 rfl) ?_
    refine lv_iload_n hx hb dX7_home_20 rfl (lv_at hl 1 rfl) ?_
    obtain ⟨g4, hv, hf⟩ := obd hf
    have hp1 : List.Perm [oX7 ty h0 a0 g3] ([oX7 ty h0 a0 g3] ++ []) := (List.Perm.refl _)
    refine cv_call (os := [oX7 ty h0 a0 g3]) (oc := [oX7 ty h0 a0 g3]) (oc' := [oX7 ty h0 a0 g4]) (or_ := []) (os' := [oX7 ty h0 a0 g4]) (va_runV (As := [.int p1]) (rest := []) F (c_X7_drop l D ty h0 a0 _ _ _ hv _) (cwV 1 F.2.2.2.2 gX7_home_X7_drop rfl rfl rfl ⟨rfl, hd_X7_drop⟩ ⟨Nat.le_of_ble_eq_true rfl, Nat.le_of_ble_eq_true rfl⟩) (pre_v hK hP hD hp1 rfl rfl rfl) rfl rfl hl.1 rfl (lv_room (Nat.le_of_ble_eq_true rfl)) dX7_home_21 ⟨Nat.zero_le _, Nat.zero_le _⟩) hp1 (List.Perm.refl _) hP hD hS hA (fun H locs hP hD hS => ?_)
    clear hp1 hv
    refine lv_aload_n hx hb dX7_home_24 rfl (lv_at hl 0 rfl) ?_
    refine va_get (D := D) (ci := 7) (C := RX7) (T := TX7) (N := 40) hx hb F.2.2.2.2 in_X7_home_X7 F.2.2.2.1 hK.1 hP 0 rfl rfl 4 (Nat.le_of_ble_eq_true rfl) (F.2.2.2.2 (.fieldLink RX7 75 "LouderRoomModel" "rings" "I") (List.mem_of_getElem? (i := 2) rfl)) (fun _ h9 => h9) rfl dX7_home_25 ?_
    obtain hf := hf
    obtain ⟨e0, e1⟩ := tup2 hf
    rw [e1] at hP hD
    exact CX_i F hr hlk hP hD hS e0 dX7_home_28
  · replace hf := ite_f hf hc
    refine lv_iconst (v := (-1 : Int32)) hx hb dX7_home_13 (by decide) ?_
    obtain hf := hf
    obtain ⟨e0, e1⟩ := tup2 hf
    rw [e1] at hP hD
    exact CX_i F hr hlk hP hD hS e0 dX7_home_14
def j_X7_hush_37 (r_13 : Int32 → Int32 → Ob → Option (Int32 × Ob)) (y2 : Int32) (t0 : Int32) (t1 : Int32) (w0 : Ob) : Option (Int32 × Ob) := bnd (t1 + t0) (fun x3 => (if inb y2 8 = true then bnd (sA w0 8 (upd (w0.2 8) y2.toNatClampNeg (1 : Int32))) (fun g4 => bnd (y2 + (1 : Int32)) (fun x5 => r_13 x3 x5 g4)) else none))
def b_X7_hush_13 (r_13 : Int32 → Int32 → Ob → Option (Int32 × Ob)) (y1 : Int32) (y2 : Int32) (w0 : Ob) : Option (Int32 × Ob) := (if (w0.1 4) ≤ y2 then some (y1, w0) else (if inb y2 8 = true then (if (w0.2 8 y2.toNatClampNeg) = (1 : Int32) then j_X7_hush_37 r_13 y2 (0 : Int32) y1 w0 else j_X7_hush_37 r_13 y2 (1 : Int32) y1 w0) else none))
def f_X7_hush (z0 : Ob) : Option (Int32 × Ob) := bnd (sI z0 0 (0 : Int32)) (fun g1 => (f_X7_note g1).bind (fun g2 => fuel3 (b_X7_hush_13) FU (0 : Int32) (0 : Int32) g2))
abbrev rm_X7_hush : Room := { frames := 2, cells := 0, slots := 0, locals := 44 }
theorem hd_X7_hush : yX7_hush.cls ≠ "java/lang/invoke/MethodHandle" ∧ yX7_hush.cls ≠ "java/lang/invoke/VarHandle" ∧ (parseMethodDescriptor yX7_hush.desc).map (fun d => d.parameters.length) = some 0 := by decide +kernel
theorem in_X7_hush_X7 : ∀ w ∈ wsX70, w ∈ wsX7_hush := fun w h => List.mem_cons_of_mem _ (List.mem_append_right _ h)
set_option maxHeartbeats 4000000 in
set_option maxRecDepth 100000 in
theorem c_X7_hush (l : Launch) (D : va_G) (ty : TY) (h0 : Nat) (a0 : Nat → Nat) (z0 : Ob) (o0 : Int32) (o1 : Ob) (hf : f_X7_hush z0 = some (o0, o1)) (sz : Nat) : CX l yX7_hush wsX7_hush rm_X7_hush ([.ref h0] : List Value) D ty (fl [oX7 ty h0 a0 z0]) sz (qI D o0 (fl [oX7 ty h0 a0 o1])) 0 0 := by
  refine CX_of (cc := cX7_hush) (maxL := 3) (ret := (some .int)) (C := RX7) (by decide) rfl rfl (Nat.le_of_ble_eq_true rfl) ?_
  intro p e s m below meth c A ls F hr hlk _ hK hP hD hS hA hl
  have hx := F.1
  have hb := F.2.1
  replace hl : lv_has ls 3 [(0, .ref h0)] := hl
  unfold f_X7_hush at hf
  refine lv_aload_n hx hb dX7_hush_0 rfl (lv_at hl 0 rfl) ?_
  refine lv_iconst (v := (0 : Int32)) hx hb dX7_hush_1 (by decide) ?_
  refine pt_put (D := D) (ci := 7) (fty := .int) (C := RX7) (T := TX7) (N := 40) (w1 := fl [oX7 ty h0 a0 (sI z0 0 (0 : Int32))]) F in_X7_hush_X7 tyX7 tyX7_ok nmX7 hK.1 hP hD hS 0 rfl rfl 0 (Nat.le_of_ble_eq_true rfl) (F.2.2.2.2 (.fieldLink RX7 71 "LouderRoomModel" "thrown" "I") (List.mem_of_getElem? (i := 1) rfl)) (fun _ h9 => h9) rfl (by decide +kernel) rfl rfl (Nat.le_of_ble_eq_true rfl) rfl dX7_hush_2 (fun H locs hP hD hS => ?_)
  obtain ⟨g1, ex⟩ : ∃ y : Ob, y = (sI z0 0 (0 : Int32)) := ⟨_, rfl⟩
  replace hf := bnd_at hf ex; rw [← ex] at hP hD; clear ex
  refine lv_aload_n hx hb dX7_hush_5 rfl (lv_at hl 0 rfl) ?_
  obtain ⟨g2, hv, hf⟩ := obd hf
  have hp1 : List.Perm [oX7 ty h0 a0 g1] ([oX7 ty h0 a0 g1] ++ []) := (List.Perm.refl _)
  refine cv_call (os := [oX7 ty h0 a0 g1]) (oc := [oX7 ty h0 a0 g1]) (oc' := [oX7 ty h0 a0 g2]) (or_ := []) (os' := [oX7 ty h0 a0 g2]) (va_runV (As := []) (rest := []) F (c_X7_note l D ty h0 a0 _ _ hv _) (cwV 0 F.2.2.2.2 gX7_hush_X7_note rfl rfl rfl ⟨rfl, hd_X7_note⟩ ⟨Nat.le_of_ble_eq_true rfl, Nat.le_of_ble_eq_true rfl⟩) (pre_v hK hP hD hp1 rfl rfl rfl) rfl rfl hl.1 rfl (lv_room (Nat.le_of_ble_eq_true rfl)) dX7_hush_6 ⟨Nat.zero_le _, Nat.zero_le _⟩) hp1 (List.Perm.refl _) hP hD hS hA (fun H locs hP hD hS => ?_)
  clear hp1 hv
  refine lv_iconst (v := (0 : Int32)) hx hb dX7_hush_9 (by decide) ?_
  refine lv_istore_n (lv' := [(1, .int (0 : Int32)), (0, .ref h0)]) hx hb dX7_hush_10 rfl hl (by decide) rfl (fun ls hl => ?_)
  refine lv_iconst (v := (0 : Int32)) hx hb dX7_hush_11 (by decide) ?_
  refine lv_istore_n (lv' := [(2, .int (0 : Int32)), (1, .int (0 : Int32)), (0, .ref h0)]) hx hb dX7_hush_12 rfl hl (by decide) rfl (fun ls hl => ?_)
  have L_13 : ∀ (n : Nat) (y1 : Int32) (y2 : Int32) (w0 : Ob) (H : Heap) (locs : List Loc) (ls : Array Slot), va_P D vwC (fl [oX7 ty h0 a0 w0]) H → va_D A (fl [oX7 ty h0 a0 w0]) → va_S A s.heap H locs → lv_has ls 3 [(0, .ref h0), (1, .int y1), (2, .int y2)] → fuel3 (b_X7_hush_13) n y1 y2 w0 = some (o0, o1) → W p l e rm_X7_hush s m ([.ref h0] : List Value).toArray below meth c H locs 0 0 (MQ below (qI D o0 (fl [oX7 ty h0 a0 o1]) A) ([.ref h0] : List Value).toArray s 0 0 A) (F0 m 13 ls []) := by
    intro n
    induction n with
    | zero => intro y1 y2 w0 H locs ls hP hD hS hl hf; cases hf
    | succ n ih_13 =>
      intro y1 y2 w0 H locs ls hP hD hS hl hf
      replace hf : b_X7_hush_13 (fuel3 (b_X7_hush_13) n) y1 y2 w0 = some (o0, o1) := hf
      generalize fuel3 (b_X7_hush_13) n = r_13 at ih_13 hf
      unfold b_X7_hush_13 at hf
      have J_37 : ∀ (y2 : Int32) (t0 : Int32) (t1 : Int32) (w0 : Ob) (H : Heap) (locs : List Loc) (ls : Array Slot), va_P D vwC (fl [oX7 ty h0 a0 w0]) H → va_D A (fl [oX7 ty h0 a0 w0]) → va_S A s.heap H locs → lv_has ls 3 [(0, .ref h0), (2, .int y2)] → j_X7_hush_37 r_13 y2 t0 t1 w0 = some (o0, o1) → W p l e rm_X7_hush s m ([.ref h0] : List Value).toArray below meth c H locs 0 0 (MQ below (qI D o0 (fl [oX7 ty h0 a0 o1]) A) ([.ref h0] : List Value).toArray s 0 0 A) (F0 m 37 ls [.int t0, .int t1]) := by
        intro y2 t0 t1 w0 H locs ls hP hD hS hl hf
        unfold j_X7_hush_37 at hf
        refine lv_iadd hx hb dX7_hush_37 ?_
        refine lv_topi (fun x3 ex => ?_)
        replace hf := bnd_at hf ex; clear ex
        refine lv_istore_n (lv' := [(1, .int x3), (0, .ref h0), (2, .int y2)]) hx hb dX7_hush_38 rfl hl (by decide) rfl (fun ls hl => ?_)
        refine lv_aload_n hx hb dX7_hush_39 rfl (lv_at hl 1 rfl) ?_
        refine va_get (D := D) (ci := 7) (C := RX7) (T := TX7) (N := 40) hx hb F.2.2.2.2 in_X7_hush_X7 F.2.2.2.1 hK.1 hP 0 rfl rfl 8 (Nat.le_of_ble_eq_true rfl) (F.2.2.2.2 (.fieldLink RX7 22 "LouderRoomModel" "voice" "[I") (List.mem_of_getElem? (i := 3) rfl)) (fun _ h9 => h9) rfl dX7_hush_40 ?_
        refine lv_iload_n hx hb dX7_hush_43 rfl (lv_at hl 2 rfl) ?_
        refine lv_iconst (v := (1 : Int32)) hx hb dX7_hush_44 (by decide) ?_
        obtain ⟨hi, hf⟩ := grd hf
        refine pt_iast (w1 := fl [oX7 ty h0 a0 (sA w0 8 (upd (w0.2 8) y2.toNatClampNeg (1 : Int32)))]) F hK.1 hP hD hS 5 0 rfl rfl (inb_in hi) rfl dX7_hush_45 (fun H locs hP hD hS => ?_)
        obtain ⟨g4, ex⟩ : ∃ y : Ob, y = (sA w0 8 (upd (w0.2 8) y2.toNatClampNeg (1 : Int32))) := ⟨_, rfl⟩
        replace hf := bnd_at hf ex; rw [← ex] at hP hD; clear ex
        obtain ⟨x5, ex⟩ : ∃ y : Int32, y = (y2 + (1 : Int32)) := ⟨_, rfl⟩
        replace hf := bnd_at hf ex
        refine lv_iinc (v := x5) (lv' := [(2, .int x5), (1, .int x3), (0, .ref h0)]) hx hb dX7_hush_46 hl (k := 2) rfl (by rw [ex]; rfl) (by decide) rfl (fun ls hl => ?_)
        clear ex
        refine lv_goto (tgt := 13) hx hb dX7_hush_49 (by decide) ?_
        exact ih_13 x3 x5 g4 _ _ _ hP hD hS (lv_sub hl [2, 1, 0] rfl) hf
      refine lv_iload_n hx hb dX7_hush_13 rfl (lv_at hl 2 rfl) ?_
      refine lv_aload_n hx hb dX7_hush_14 rfl (lv_at hl 0 rfl) ?_
      refine va_get (D := D) (ci := 7) (C := RX7) (T := TX7) (N := 40) hx hb F.2.2.2.2 in_X7_hush_X7 F.2.2.2.1 hK.1 hP 0 rfl rfl 4 (Nat.le_of_ble_eq_true rfl) (F.2.2.2.2 (.fieldLink RX7 75 "LouderRoomModel" "rings" "I") (List.mem_of_getElem? (i := 2) rfl)) (fun _ h9 => h9) rfl dX7_hush_15 ?_
      refine lv_icmp_ge (tgt := 52) hx hb dX7_hush_18 (by decide) (fun hc => ?_) (fun hc => ?_)
      · replace hf := ite_t hf hc
        refine lv_iload_n hx hb dX7_hush_52 rfl (lv_at hl 1 rfl) ?_
        obtain hf := hf
        obtain ⟨e0, e1⟩ := tup2 hf
        rw [e1] at hP hD
        exact CX_i F hr hlk hP hD hS e0 dX7_hush_53
      · replace hf := ite_f hf hc
        refine lv_iload_n hx hb dX7_hush_21 rfl (lv_at hl 1 rfl) ?_
        refine lv_aload_n hx hb dX7_hush_22 rfl (lv_at hl 0 rfl) ?_
        refine va_get (D := D) (ci := 7) (C := RX7) (T := TX7) (N := 40) hx hb F.2.2.2.2 in_X7_hush_X7 F.2.2.2.1 hK.1 hP 0 rfl rfl 8 (Nat.le_of_ble_eq_true rfl) (F.2.2.2.2 (.fieldLink RX7 22 "LouderRoomModel" "voice" "[I") (List.mem_of_getElem? (i := 3) rfl)) (fun _ h9 => h9) rfl dX7_hush_23 ?_
        refine lv_iload_n hx hb dX7_hush_26 rfl (lv_at hl 2 rfl) ?_
        obtain ⟨hi, hf⟩ := grd hf
        refine va_iald hx hb hK.1 hP 5 0 rfl rfl (inb_in hi) dX7_hush_27 ?_
        refine lv_iconst (v := (1 : Int32)) hx hb dX7_hush_28 (by decide) ?_
        refine lv_icmp_ne (tgt := 36) hx hb dX7_hush_29 (by decide) (fun hc => ?_) (fun hc => ?_)
        · replace hf := ite_f hf hc
          refine lv_iconst (v := (1 : Int32)) hx hb dX7_hush_36 (by decide) ?_
          exact J_37 y2 (1 : Int32) y1 w0 _ _ _ hP hD hS (lv_sub hl [0, 2] rfl) hf
        · replace hf := ite_t hf hc
          refine lv_iconst (v := (0 : Int32)) hx hb dX7_hush_32 (by decide) ?_
          refine lv_goto (tgt := 37) hx hb dX7_hush_33 (by decide) ?_
          exact J_37 y2 (0 : Int32) y1 w0 _ _ _ hP hD hS (lv_sub hl [0, 2] rfl) hf
  exact L_13 FU (0 : Int32) (0 : Int32) g2 _ _ _ hP hD hS (lv_sub hl [2, 1, 0] rfl) hf
def b_X7_takePage_22_2 (p2 : Int32) (r_2 : Int32 → Ob → Option (Ob)) (y3 : Int32) (w0 : Ob) : Option (Ob) := (if (8 : Int32) ≤ y3 then (if inb (p2 + (40 : Int32)) 420 = true then bnd (sI w0 4 (w0.2 22 (p2 + (40 : Int32)).toNatClampNeg)) (fun g1 => (if inb (p2 + (41 : Int32)) 420 = true then bnd (sI g1 11 (g1.2 22 (p2 + (41 : Int32)).toNatClampNeg)) (fun g2 => some g2) else none)) else none) else (if inb (p2 + y3) 420 = true then (if inb y3 8 = true then bnd (sA w0 5 (upd (w0.2 5) y3.toNatClampNeg (w0.2 22 (p2 + y3).toNatClampNeg))) (fun g3 => (if inb ((p2 + (8 : Int32)) + y3) 420 = true then (if inb y3 8 = true then bnd (sA g3 6 (upd (g3.2 6) y3.toNatClampNeg (g3.2 22 ((p2 + (8 : Int32)) + y3).toNatClampNeg))) (fun g4 => (if inb ((p2 + (16 : Int32)) + y3) 420 = true then (if inb y3 8 = true then bnd (sA g4 7 (upd (g4.2 7) y3.toNatClampNeg (g4.2 22 ((p2 + (16 : Int32)) + y3).toNatClampNeg))) (fun g5 => (if inb ((p2 + (24 : Int32)) + y3) 420 = true then (if inb y3 8 = true then bnd (sA g5 8 (upd (g5.2 8) y3.toNatClampNeg (g5.2 22 ((p2 + (24 : Int32)) + y3).toNatClampNeg))) (fun g6 => (if inb ((p2 + (32 : Int32)) + y3) 420 = true then (if inb y3 8 = true then bnd (sA g6 9 (upd (g6.2 9) y3.toNatClampNeg (g6.2 22 ((p2 + (32 : Int32)) + y3).toNatClampNeg))) (fun g7 => bnd (y3 + (1 : Int32)) (fun x8 => r_2 x8 g7)) else none) else none)) else none) else none)) else none) else none)) else none) else none)) else none) else none))
def f_X7_takePage_22 (z0 : Ob) (p2 : Int32) : Option (Ob) := fuel2 (b_X7_takePage_22_2 p2) FU (0 : Int32) z0
abbrev rm_X7_takePage_22 : Room := { frames := 0, cells := 0, slots := 0, locals := 0 }
theorem hd_X7_takePage : yX7_takePage.cls ≠ "java/lang/invoke/MethodHandle" ∧ yX7_takePage.cls ≠ "java/lang/invoke/VarHandle" ∧ (parseMethodDescriptor yX7_takePage.desc).map (fun d => d.parameters.length) = some 2 := by decide +kernel
theorem in_X7_takePage_X7 : ∀ w ∈ wsX70, w ∈ wsX7_takePage := fun w h => List.mem_cons_of_mem _ (List.mem_append_right _ h)
set_option maxHeartbeats 4000000 in
set_option maxRecDepth 100000 in
theorem c_X7_takePage_22 (l : Launch) (D : va_G) (ty : TY) (h0 : Nat) (a0 : Nat → Nat) (z0 : Ob) (p2 : Int32) (o0 : Ob) (hf : f_X7_takePage_22 z0 p2 = some o0) (sz : Nat) : CX l yX7_takePage wsX7_takePage rm_X7_takePage_22 ([.ref h0, .ref (a0 22), .int p2] : List Value) D ty (fl [oX7 ty h0 a0 z0]) sz (qV D (fl [oX7 ty h0 a0 o0])) 0 0 := by
  refine CX_of (cc := cX7_takePage) (maxL := 4) (ret := none) (C := RX7) (by decide) rfl rfl (Nat.le_of_ble_eq_true rfl) ?_
  intro p e s m below meth c A ls F hr hlk _ hK hP hD hS hA hl
  have hx := F.1
  have hb := F.2.1
  replace hl : lv_has ls 4 [(0, .ref h0), (1, .ref (a0 22)), (2, .int p2)] := hl
  unfold f_X7_takePage_22 at hf
  refine lv_iconst (v := (0 : Int32)) hx hb dX7_takePage_0 (by decide) ?_
  refine lv_istore_n (lv' := [(3, .int (0 : Int32)), (0, .ref h0), (1, .ref (a0 22)), (2, .int p2)]) hx hb dX7_takePage_1 rfl hl (by decide) rfl (fun ls hl => ?_)
  have L_2 : ∀ (n : Nat) (y3 : Int32) (w0 : Ob) (H : Heap) (locs : List Loc) (ls : Array Slot), va_P D vwC (fl [oX7 ty h0 a0 w0]) H → va_D A (fl [oX7 ty h0 a0 w0]) → va_S A s.heap H locs → lv_has ls 4 [(0, .ref h0), (1, .ref (a0 22)), (2, .int p2), (3, .int y3)] → fuel2 (b_X7_takePage_22_2 p2) n y3 w0 = some o0 → W p l e rm_X7_takePage_22 s m ([.ref h0, .ref (a0 22), .int p2] : List Value).toArray below meth c H locs 0 0 (MQ below (qV D (fl [oX7 ty h0 a0 o0]) A) ([.ref h0, .ref (a0 22), .int p2] : List Value).toArray s 0 0 A) (F0 m 2 ls []) := by
    intro n
    induction n with
    | zero => intro y3 w0 H locs ls hP hD hS hl hf; cases hf
    | succ n ih_2 =>
      intro y3 w0 H locs ls hP hD hS hl hf
      replace hf : b_X7_takePage_22_2 p2 (fuel2 (b_X7_takePage_22_2 p2) n) y3 w0 = some o0 := hf
      generalize fuel2 (b_X7_takePage_22_2 p2) n = r_2 at ih_2 hf
      unfold b_X7_takePage_22_2 at hf
      refine lv_iload_n hx hb dX7_takePage_2 rfl (lv_at hl 3 rfl) ?_
      refine lv_bipush (v := (8 : Int32)) hx hb dX7_takePage_3 (by decide) ?_
      refine lv_icmp_ge (tgt := 81) hx hb dX7_takePage_5 (by decide) (fun hc => ?_) (fun hc => ?_)
      · replace hf := ite_t hf hc
        refine lv_aload_n hx hb dX7_takePage_81 rfl (lv_at hl 0 rfl) ?_
        refine lv_aload_n hx hb dX7_takePage_82 rfl (lv_at hl 1 rfl) ?_
        refine lv_iload_n hx hb dX7_takePage_83 rfl (lv_at hl 2 rfl) ?_
        refine lv_bipush (v := (40 : Int32)) hx hb dX7_takePage_84 (by decide) ?_
        refine lv_iadd hx hb dX7_takePage_86 ?_
        obtain ⟨hi, hf⟩ := grd hf
        refine va_iald hx hb hK.1 hP 11 0 rfl rfl (inb_in hi) dX7_takePage_87 ?_
        refine pt_put (D := D) (ci := 7) (fty := .int) (C := RX7) (T := TX7) (N := 40) (w1 := fl [oX7 ty h0 a0 (sI w0 4 (w0.2 22 (p2 + (40 : Int32)).toNatClampNeg))]) F in_X7_takePage_X7 tyX7 tyX7_ok nmX7 hK.1 hP hD hS 0 rfl rfl 4 (Nat.le_of_ble_eq_true rfl) (F.2.2.2.2 (.fieldLink RX7 75 "LouderRoomModel" "rings" "I") (List.mem_of_getElem? (i := 6) rfl)) (fun _ h9 => h9) rfl (by decide +kernel) rfl rfl (Nat.le_of_ble_eq_true rfl) rfl dX7_takePage_88 (fun H locs hP hD hS => ?_)
        obtain ⟨g1, ex⟩ : ∃ y : Ob, y = (sI w0 4 (w0.2 22 (p2 + (40 : Int32)).toNatClampNeg)) := ⟨_, rfl⟩
        replace hf := bnd_at hf ex; rw [← ex] at hP hD; clear ex
        refine lv_aload_n hx hb dX7_takePage_91 rfl (lv_at hl 0 rfl) ?_
        refine lv_aload_n hx hb dX7_takePage_92 rfl (lv_at hl 1 rfl) ?_
        refine lv_iload_n hx hb dX7_takePage_93 rfl (lv_at hl 2 rfl) ?_
        refine lv_bipush (v := (41 : Int32)) hx hb dX7_takePage_94 (by decide) ?_
        refine lv_iadd hx hb dX7_takePage_96 ?_
        obtain ⟨hi, hf⟩ := grd hf
        refine va_iald hx hb hK.1 hP 11 0 rfl rfl (inb_in hi) dX7_takePage_97 ?_
        refine pt_put (D := D) (ci := 7) (fty := .int) (C := RX7) (T := TX7) (N := 40) (w1 := fl [oX7 ty h0 a0 (sI g1 11 (g1.2 22 (p2 + (41 : Int32)).toNatClampNeg))]) F in_X7_takePage_X7 tyX7 tyX7_ok nmX7 hK.1 hP hD hS 0 rfl rfl 11 (Nat.le_of_ble_eq_true rfl) (F.2.2.2.2 (.fieldLink RX7 128 "LouderRoomModel" "music" "I") (List.mem_of_getElem? (i := 7) rfl)) (fun _ h9 => h9) rfl (by decide +kernel) rfl rfl (Nat.le_of_ble_eq_true rfl) rfl dX7_takePage_98 (fun H locs hP hD hS => ?_)
        obtain ⟨g2, ex⟩ : ∃ y : Ob, y = (sI g1 11 (g1.2 22 (p2 + (41 : Int32)).toNatClampNeg)) := ⟨_, rfl⟩
        replace hf := bnd_at hf ex; rw [← ex] at hP hD; clear ex
        obtain hf := hf
        have e0 := Option.some.inj hf
        rw [e0] at hP hD
        exact CX_v F hr hlk hP hD hS dX7_takePage_101
      · replace hf := ite_f hf hc
        refine lv_aload_n hx hb dX7_takePage_8 rfl (lv_at hl 0 rfl) ?_
        refine va_get (D := D) (ci := 7) (C := RX7) (T := TX7) (N := 40) hx hb F.2.2.2.2 in_X7_takePage_X7 F.2.2.2.1 hK.1 hP 0 rfl rfl 5 (Nat.le_of_ble_eq_true rfl) (F.2.2.2.2 (.fieldLink RX7 13 "LouderRoomModel" "kind" "[I") (List.mem_of_getElem? (i := 1) rfl)) (fun _ h9 => h9) rfl dX7_takePage_9 ?_
        refine lv_iload_n hx hb dX7_takePage_12 rfl (lv_at hl 3 rfl) ?_
        refine lv_aload_n hx hb dX7_takePage_13 rfl (lv_at hl 1 rfl) ?_
        refine lv_iload_n hx hb dX7_takePage_14 rfl (lv_at hl 2 rfl) ?_
        refine lv_iload_n hx hb dX7_takePage_15 rfl (lv_at hl 3 rfl) ?_
        refine lv_iadd hx hb dX7_takePage_16 ?_
        obtain ⟨hi, hf⟩ := grd hf
        refine va_iald hx hb hK.1 hP 11 0 rfl rfl (inb_in hi) dX7_takePage_17 ?_
        obtain ⟨hi, hf⟩ := grd hf
        refine pt_iast (w1 := fl [oX7 ty h0 a0 (sA w0 5 (upd (w0.2 5) y3.toNatClampNeg (w0.2 22 (p2 + y3).toNatClampNeg)))]) F hK.1 hP hD hS 2 0 rfl rfl (inb_in hi) rfl dX7_takePage_18 (fun H locs hP hD hS => ?_)
        obtain ⟨g3, ex⟩ : ∃ y : Ob, y = (sA w0 5 (upd (w0.2 5) y3.toNatClampNeg (w0.2 22 (p2 + y3).toNatClampNeg))) := ⟨_, rfl⟩
        replace hf := bnd_at hf ex; rw [← ex] at hP hD; clear ex
        refine lv_aload_n hx hb dX7_takePage_19 rfl (lv_at hl 0 rfl) ?_
        refine va_get (D := D) (ci := 7) (C := RX7) (T := TX7) (N := 40) hx hb F.2.2.2.2 in_X7_takePage_X7 F.2.2.2.1 hK.1 hP 0 rfl rfl 6 (Nat.le_of_ble_eq_true rfl) (F.2.2.2.2 (.fieldLink RX7 16 "LouderRoomModel" "cell" "[I") (List.mem_of_getElem? (i := 2) rfl)) (fun _ h9 => h9) rfl dX7_takePage_20 ?_
        refine lv_iload_n hx hb dX7_takePage_23 rfl (lv_at hl 3 rfl) ?_
        refine lv_aload_n hx hb dX7_takePage_24 rfl (lv_at hl 1 rfl) ?_
        refine lv_iload_n hx hb dX7_takePage_25 rfl (lv_at hl 2 rfl) ?_
        refine lv_bipush (v := (8 : Int32)) hx hb dX7_takePage_26 (by decide) ?_
        refine lv_iadd hx hb dX7_takePage_28 ?_
        refine lv_iload_n hx hb dX7_takePage_29 rfl (lv_at hl 3 rfl) ?_
        refine lv_iadd hx hb dX7_takePage_30 ?_
        obtain ⟨hi, hf⟩ := grd hf
        refine va_iald hx hb hK.1 hP 11 0 rfl rfl (inb_in hi) dX7_takePage_31 ?_
        obtain ⟨hi, hf⟩ := grd hf
        refine pt_iast (w1 := fl [oX7 ty h0 a0 (sA g3 6 (upd (g3.2 6) y3.toNatClampNeg (g3.2 22 ((p2 + (8 : Int32)) + y3).toNatClampNeg)))]) F hK.1 hP hD hS 3 0 rfl rfl (inb_in hi) rfl dX7_takePage_32 (fun H locs hP hD hS => ?_)
        obtain ⟨g4, ex⟩ : ∃ y : Ob, y = (sA g3 6 (upd (g3.2 6) y3.toNatClampNeg (g3.2 22 ((p2 + (8 : Int32)) + y3).toNatClampNeg))) := ⟨_, rfl⟩
        replace hf := bnd_at hf ex; rw [← ex] at hP hD; clear ex
        refine lv_aload_n hx hb dX7_takePage_33 rfl (lv_at hl 0 rfl) ?_
        refine va_get (D := D) (ci := 7) (C := RX7) (T := TX7) (N := 40) hx hb F.2.2.2.2 in_X7_takePage_X7 F.2.2.2.1 hK.1 hP 0 rfl rfl 7 (Nat.le_of_ble_eq_true rfl) (F.2.2.2.2 (.fieldLink RX7 19 "LouderRoomModel" "people" "[I") (List.mem_of_getElem? (i := 3) rfl)) (fun _ h9 => h9) rfl dX7_takePage_34 ?_
        refine lv_iload_n hx hb dX7_takePage_37 rfl (lv_at hl 3 rfl) ?_
        refine lv_aload_n hx hb dX7_takePage_38 rfl (lv_at hl 1 rfl) ?_
        refine lv_iload_n hx hb dX7_takePage_39 rfl (lv_at hl 2 rfl) ?_
        refine lv_bipush (v := (16 : Int32)) hx hb dX7_takePage_40 (by decide) ?_
        refine lv_iadd hx hb dX7_takePage_42 ?_
        refine lv_iload_n hx hb dX7_takePage_43 rfl (lv_at hl 3 rfl) ?_
        refine lv_iadd hx hb dX7_takePage_44 ?_
        obtain ⟨hi, hf⟩ := grd hf
        refine va_iald hx hb hK.1 hP 11 0 rfl rfl (inb_in hi) dX7_takePage_45 ?_
        obtain ⟨hi, hf⟩ := grd hf
        refine pt_iast (w1 := fl [oX7 ty h0 a0 (sA g4 7 (upd (g4.2 7) y3.toNatClampNeg (g4.2 22 ((p2 + (16 : Int32)) + y3).toNatClampNeg)))]) F hK.1 hP hD hS 4 0 rfl rfl (inb_in hi) rfl dX7_takePage_46 (fun H locs hP hD hS => ?_)
        obtain ⟨g5, ex⟩ : ∃ y : Ob, y = (sA g4 7 (upd (g4.2 7) y3.toNatClampNeg (g4.2 22 ((p2 + (16 : Int32)) + y3).toNatClampNeg))) := ⟨_, rfl⟩
        replace hf := bnd_at hf ex; rw [← ex] at hP hD; clear ex
        refine lv_aload_n hx hb dX7_takePage_47 rfl (lv_at hl 0 rfl) ?_
        refine va_get (D := D) (ci := 7) (C := RX7) (T := TX7) (N := 40) hx hb F.2.2.2.2 in_X7_takePage_X7 F.2.2.2.1 hK.1 hP 0 rfl rfl 8 (Nat.le_of_ble_eq_true rfl) (F.2.2.2.2 (.fieldLink RX7 22 "LouderRoomModel" "voice" "[I") (List.mem_of_getElem? (i := 4) rfl)) (fun _ h9 => h9) rfl dX7_takePage_48 ?_
        refine lv_iload_n hx hb dX7_takePage_51 rfl (lv_at hl 3 rfl) ?_
        refine lv_aload_n hx hb dX7_takePage_52 rfl (lv_at hl 1 rfl) ?_
        refine lv_iload_n hx hb dX7_takePage_53 rfl (lv_at hl 2 rfl) ?_
        refine lv_bipush (v := (24 : Int32)) hx hb dX7_takePage_54 (by decide) ?_
        refine lv_iadd hx hb dX7_takePage_56 ?_
        refine lv_iload_n hx hb dX7_takePage_57 rfl (lv_at hl 3 rfl) ?_
        refine lv_iadd hx hb dX7_takePage_58 ?_
        obtain ⟨hi, hf⟩ := grd hf
        refine va_iald hx hb hK.1 hP 11 0 rfl rfl (inb_in hi) dX7_takePage_59 ?_
        obtain ⟨hi, hf⟩ := grd hf
        refine pt_iast (w1 := fl [oX7 ty h0 a0 (sA g5 8 (upd (g5.2 8) y3.toNatClampNeg (g5.2 22 ((p2 + (24 : Int32)) + y3).toNatClampNeg)))]) F hK.1 hP hD hS 5 0 rfl rfl (inb_in hi) rfl dX7_takePage_60 (fun H locs hP hD hS => ?_)
        obtain ⟨g6, ex⟩ : ∃ y : Ob, y = (sA g5 8 (upd (g5.2 8) y3.toNatClampNeg (g5.2 22 ((p2 + (24 : Int32)) + y3).toNatClampNeg))) := ⟨_, rfl⟩
        replace hf := bnd_at hf ex; rw [← ex] at hP hD; clear ex
        refine lv_aload_n hx hb dX7_takePage_61 rfl (lv_at hl 0 rfl) ?_
        refine va_get (D := D) (ci := 7) (C := RX7) (T := TX7) (N := 40) hx hb F.2.2.2.2 in_X7_takePage_X7 F.2.2.2.1 hK.1 hP 0 rfl rfl 9 (Nat.le_of_ble_eq_true rfl) (F.2.2.2.2 (.fieldLink RX7 25 "LouderRoomModel" "age" "[I") (List.mem_of_getElem? (i := 5) rfl)) (fun _ h9 => h9) rfl dX7_takePage_62 ?_
        refine lv_iload_n hx hb dX7_takePage_65 rfl (lv_at hl 3 rfl) ?_
        refine lv_aload_n hx hb dX7_takePage_66 rfl (lv_at hl 1 rfl) ?_
        refine lv_iload_n hx hb dX7_takePage_67 rfl (lv_at hl 2 rfl) ?_
        refine lv_bipush (v := (32 : Int32)) hx hb dX7_takePage_68 (by decide) ?_
        refine lv_iadd hx hb dX7_takePage_70 ?_
        refine lv_iload_n hx hb dX7_takePage_71 rfl (lv_at hl 3 rfl) ?_
        refine lv_iadd hx hb dX7_takePage_72 ?_
        obtain ⟨hi, hf⟩ := grd hf
        refine va_iald hx hb hK.1 hP 11 0 rfl rfl (inb_in hi) dX7_takePage_73 ?_
        obtain ⟨hi, hf⟩ := grd hf
        refine pt_iast (w1 := fl [oX7 ty h0 a0 (sA g6 9 (upd (g6.2 9) y3.toNatClampNeg (g6.2 22 ((p2 + (32 : Int32)) + y3).toNatClampNeg)))]) F hK.1 hP hD hS 6 0 rfl rfl (inb_in hi) rfl dX7_takePage_74 (fun H locs hP hD hS => ?_)
        obtain ⟨g7, ex⟩ : ∃ y : Ob, y = (sA g6 9 (upd (g6.2 9) y3.toNatClampNeg (g6.2 22 ((p2 + (32 : Int32)) + y3).toNatClampNeg))) := ⟨_, rfl⟩
        replace hf := bnd_at hf ex; rw [← ex] at hP hD; clear ex
        obtain ⟨x8, ex⟩ : ∃ y : Int32, y = (y3 + (1 : Int32)) := ⟨_, rfl⟩
        replace hf := bnd_at hf ex
        refine lv_iinc (v := x8) (lv' := [(3, .int x8), (0, .ref h0), (1, .ref (a0 22)), (2, .int p2)]) hx hb dX7_takePage_75 hl (k := 3) rfl (by rw [ex]; rfl) (by decide) rfl (fun ls hl => ?_)
        clear ex
        refine lv_goto (tgt := 2) hx hb dX7_takePage_78 (by decide) ?_
        exact ih_2 x8 g7 _ _ _ hP hD hS (lv_sub hl [1, 2, 3, 0] rfl) hf
  exact L_2 FU (0 : Int32) z0 _ _ _ hP hD hS (lv_sub hl [1, 2, 3, 0] rfl) hf
def f_X7_undo (z0 : Ob) : Option (Int32 × Ob) := bnd (sI z0 0 (0 : Int32)) (fun g1 => (if (g1.1 23) = 0 then some ((-3 : Int32), g1) else bnd (sI g1 23 ((g1.1 23) - (1 : Int32))) (fun g2 => (f_X7_takePage_22 g2 ((42 : Int32) * (g2.1 23))).bind (fun g3 => some ((g3.1 23), g3)))))
abbrev rm_X7_undo : Room := { frames := 1, cells := 0, slots := 0, locals := 23 }
theorem hd_X7_undo : yX7_undo.cls ≠ "java/lang/invoke/MethodHandle" ∧ yX7_undo.cls ≠ "java/lang/invoke/VarHandle" ∧ (parseMethodDescriptor yX7_undo.desc).map (fun d => d.parameters.length) = some 0 := by decide +kernel
theorem in_X7_undo_X7 : ∀ w ∈ wsX70, w ∈ wsX7_undo := fun w h => List.mem_cons_of_mem _ (List.mem_append_right _ h)
set_option maxHeartbeats 4000000 in
set_option maxRecDepth 100000 in
theorem c_X7_undo (l : Launch) (D : va_G) (ty : TY) (h0 : Nat) (a0 : Nat → Nat) (z0 : Ob) (o0 : Int32) (o1 : Ob) (hf : f_X7_undo z0 = some (o0, o1)) (sz : Nat) : CX l yX7_undo wsX7_undo rm_X7_undo ([.ref h0] : List Value) D ty (fl [oX7 ty h0 a0 z0]) sz (qI D o0 (fl [oX7 ty h0 a0 o1])) 0 0 := by
  refine CX_of (cc := cX7_undo) (maxL := 1) (ret := (some .int)) (C := RX7) (by decide) rfl rfl (Nat.le_of_ble_eq_true rfl) ?_
  intro p e s m below meth c A ls F hr hlk _ hK hP hD hS hA hl
  have hx := F.1
  have hb := F.2.1
  replace hl : lv_has ls 1 [(0, .ref h0)] := hl
  unfold f_X7_undo at hf
  refine lv_aload_n hx hb dX7_undo_0 rfl (lv_at hl 0 rfl) ?_
  refine lv_iconst (v := (0 : Int32)) hx hb dX7_undo_1 (by decide) ?_
  refine pt_put (D := D) (ci := 7) (fty := .int) (C := RX7) (T := TX7) (N := 40) (w1 := fl [oX7 ty h0 a0 (sI z0 0 (0 : Int32))]) F in_X7_undo_X7 tyX7 tyX7_ok nmX7 hK.1 hP hD hS 0 rfl rfl 0 (Nat.le_of_ble_eq_true rfl) (F.2.2.2.2 (.fieldLink RX7 71 "LouderRoomModel" "thrown" "I") (List.mem_of_getElem? (i := 1) rfl)) (fun _ h9 => h9) rfl (by decide +kernel) rfl rfl (Nat.le_of_ble_eq_true rfl) rfl dX7_undo_2 (fun H locs hP hD hS => ?_)
  obtain ⟨g1, ex⟩ : ∃ y : Ob, y = (sI z0 0 (0 : Int32)) := ⟨_, rfl⟩
  replace hf := bnd_at hf ex; rw [← ex] at hP hD; clear ex
  refine lv_aload_n hx hb dX7_undo_5 rfl (lv_at hl 0 rfl) ?_
  refine va_get (D := D) (ci := 7) (C := RX7) (T := TX7) (N := 40) hx hb F.2.2.2.2 in_X7_undo_X7 F.2.2.2.1 hK.1 hP 0 rfl rfl 23 (Nat.le_of_ble_eq_true rfl) (F.2.2.2.2 (.fieldLink RX7 135 "LouderRoomModel" "acts" "I") (List.mem_of_getElem? (i := 2) rfl)) (fun _ h9 => h9) rfl dX7_undo_6 ?_
  refine lv_if_ne (tgt := 15) hx hb dX7_undo_9 (by decide) (fun hc => ?_) (fun hc => ?_)
  · replace hf := ite_f hf hc
    refine lv_aload_n hx hb dX7_undo_15 rfl (lv_at hl 0 rfl) ?_
    refine lv_dup hx hb dX7_undo_16 rfl ?_
    refine va_get (D := D) (ci := 7) (C := RX7) (T := TX7) (N := 40) hx hb F.2.2.2.2 in_X7_undo_X7 F.2.2.2.1 hK.1 hP 0 rfl rfl 23 (Nat.le_of_ble_eq_true rfl) (F.2.2.2.2 (.fieldLink RX7 135 "LouderRoomModel" "acts" "I") (List.mem_of_getElem? (i := 2) rfl)) (fun _ h9 => h9) rfl dX7_undo_17 ?_
    refine lv_iconst (v := (1 : Int32)) hx hb dX7_undo_20 (by decide) ?_
    refine lv_isub hx hb dX7_undo_21 ?_
    refine pt_put (D := D) (ci := 7) (fty := .int) (C := RX7) (T := TX7) (N := 40) (w1 := fl [oX7 ty h0 a0 (sI g1 23 ((g1.1 23) - (1 : Int32)))]) F in_X7_undo_X7 tyX7 tyX7_ok nmX7 hK.1 hP hD hS 0 rfl rfl 23 (Nat.le_of_ble_eq_true rfl) (F.2.2.2.2 (.fieldLink RX7 135 "LouderRoomModel" "acts" "I") (List.mem_of_getElem? (i := 2) rfl)) (fun _ h9 => h9) rfl (by decide +kernel) rfl rfl (Nat.le_of_ble_eq_true rfl) rfl dX7_undo_22 (fun H locs hP hD hS => ?_)
    obtain ⟨g2, ex⟩ : ∃ y : Ob, y = (sI g1 23 ((g1.1 23) - (1 : Int32))) := ⟨_, rfl⟩
    replace hf := bnd_at hf ex; rw [← ex] at hP hD; clear ex
    refine lv_aload_n hx hb dX7_undo_25 rfl (lv_at hl 0 rfl) ?_
    refine lv_aload_n hx hb dX7_undo_26 rfl (lv_at hl 0 rfl) ?_
    refine va_get (D := D) (ci := 7) (C := RX7) (T := TX7) (N := 40) hx hb F.2.2.2.2 in_X7_undo_X7 F.2.2.2.1 hK.1 hP 0 rfl rfl 22 (Nat.le_of_ble_eq_true rfl) (F.2.2.2.2 (.fieldLink RX7 40 "LouderRoomModel" "book" "[I") (List.mem_of_getElem? (i := 3) rfl)) (fun _ h9 => h9) rfl dX7_undo_27 ?_
    refine lv_bipush (v := (42 : Int32)) hx hb dX7_undo_30 (by decide) ?_
    refine lv_aload_n hx hb dX7_undo_32 rfl (lv_at hl 0 rfl) ?_
    refine va_get (D := D) (ci := 7) (C := RX7) (T := TX7) (N := 40) hx hb F.2.2.2.2 in_X7_undo_X7 F.2.2.2.1 hK.1 hP 0 rfl rfl 23 (Nat.le_of_ble_eq_true rfl) (F.2.2.2.2 (.fieldLink RX7 135 "LouderRoomModel" "acts" "I") (List.mem_of_getElem? (i := 2) rfl)) (fun _ h9 => h9) rfl dX7_undo_33 ?_
    refine lv_imul hx hb dX7_undo_36 ?_
    obtain ⟨g3, hv, hf⟩ := obd hf
    have hp1 : List.Perm [oX7 ty h0 a0 g2] ([oX7 ty h0 a0 g2] ++ []) := (List.Perm.refl _)
    refine cv_call (os := [oX7 ty h0 a0 g2]) (oc := [oX7 ty h0 a0 g2]) (oc' := [oX7 ty h0 a0 g3]) (or_ := []) (os' := [oX7 ty h0 a0 g3]) (va_runV (As := [.ref (a0 22), .int ((42 : Int32) * (g2.1 23))]) (rest := []) F (c_X7_takePage_22 l D ty h0 a0 _ _ _ hv _) (cwV 2 F.2.2.2.2 gX7_undo_X7_takePage rfl rfl rfl ⟨rfl, hd_X7_takePage⟩ ⟨Nat.le_of_ble_eq_true rfl, Nat.le_of_ble_eq_true rfl⟩) (pre_v hK hP hD hp1 rfl rfl rfl) rfl rfl hl.1 rfl (lv_room (Nat.le_of_ble_eq_true rfl)) dX7_undo_37 ⟨Nat.zero_le _, Nat.zero_le _⟩) hp1 (List.Perm.refl _) hP hD hS hA (fun H locs hP hD hS => ?_)
    clear hp1 hv
    refine lv_aload_n hx hb dX7_undo_40 rfl (lv_at hl 0 rfl) ?_
    refine va_get (D := D) (ci := 7) (C := RX7) (T := TX7) (N := 40) hx hb F.2.2.2.2 in_X7_undo_X7 F.2.2.2.1 hK.1 hP 0 rfl rfl 23 (Nat.le_of_ble_eq_true rfl) (F.2.2.2.2 (.fieldLink RX7 135 "LouderRoomModel" "acts" "I") (List.mem_of_getElem? (i := 2) rfl)) (fun _ h9 => h9) rfl dX7_undo_41 ?_
    obtain hf := hf
    obtain ⟨e0, e1⟩ := tup2 hf
    rw [e1] at hP hD
    exact CX_i F hr hlk hP hD hS e0 dX7_undo_44
  · replace hf := ite_t hf hc
    refine lv_bipush (v := (-3 : Int32)) hx hb dX7_undo_12 (by decide) ?_
    obtain hf := hf
    obtain ⟨e0, e1⟩ := tup2 hf
    rw [e1] at hP hD
    exact CX_i F hr hlk hP hD hS e0 dX7_undo_14
def b_X7_allBy_2 (p1 : Int32) (r_2 : Int32 → Ob → Option (Ob)) (y2 : Int32) (w0 : Ob) : Option (Ob) := (if (w0.1 4) ≤ y2 then some w0 else (if inb y2 8 = true then bnd (sA w0 29 (upd (w0.2 29) y2.toNatClampNeg p1)) (fun g1 => bnd (y2 + (1 : Int32)) (fun x2 => r_2 x2 g1)) else none))
def f_X7_allBy (z0 : Ob) (p1 : Int32) : Option (Ob) := fuel2 (b_X7_allBy_2 p1) FU (0 : Int32) z0
abbrev rm_X7_allBy : Room := { frames := 0, cells := 0, slots := 0, locals := 0 }
theorem hd_X7_allBy : yX7_allBy.cls ≠ "java/lang/invoke/MethodHandle" ∧ yX7_allBy.cls ≠ "java/lang/invoke/VarHandle" ∧ (parseMethodDescriptor yX7_allBy.desc).map (fun d => d.parameters.length) = some 1 := by decide +kernel
theorem in_X7_allBy_X7 : ∀ w ∈ wsX70, w ∈ wsX7_allBy := fun w h => List.mem_cons_of_mem _ (List.mem_append_right _ h)
set_option maxHeartbeats 4000000 in
set_option maxRecDepth 100000 in
theorem c_X7_allBy (l : Launch) (D : va_G) (ty : TY) (h0 : Nat) (a0 : Nat → Nat) (z0 : Ob) (p1 : Int32) (o0 : Ob) (hf : f_X7_allBy z0 p1 = some o0) (sz : Nat) : CX l yX7_allBy wsX7_allBy rm_X7_allBy ([.ref h0, .int p1] : List Value) D ty (fl [oX7 ty h0 a0 z0]) sz (qV D (fl [oX7 ty h0 a0 o0])) 0 0 := by
  refine CX_of (cc := cX7_allBy) (maxL := 3) (ret := none) (C := RX7) (by decide) rfl rfl (Nat.le_of_ble_eq_true rfl) ?_
  intro p e s m below meth c A ls F hr hlk _ hK hP hD hS hA hl
  have hx := F.1
  have hb := F.2.1
  replace hl : lv_has ls 3 [(0, .ref h0), (1, .int p1)] := hl
  unfold f_X7_allBy at hf
  refine lv_iconst (v := (0 : Int32)) hx hb dX7_allBy_0 (by decide) ?_
  refine lv_istore_n (lv' := [(2, .int (0 : Int32)), (0, .ref h0), (1, .int p1)]) hx hb dX7_allBy_1 rfl hl (by decide) rfl (fun ls hl => ?_)
  have L_2 : ∀ (n : Nat) (y2 : Int32) (w0 : Ob) (H : Heap) (locs : List Loc) (ls : Array Slot), va_P D vwC (fl [oX7 ty h0 a0 w0]) H → va_D A (fl [oX7 ty h0 a0 w0]) → va_S A s.heap H locs → lv_has ls 3 [(0, .ref h0), (1, .int p1), (2, .int y2)] → fuel2 (b_X7_allBy_2 p1) n y2 w0 = some o0 → W p l e rm_X7_allBy s m ([.ref h0, .int p1] : List Value).toArray below meth c H locs 0 0 (MQ below (qV D (fl [oX7 ty h0 a0 o0]) A) ([.ref h0, .int p1] : List Value).toArray s 0 0 A) (F0 m 2 ls []) := by
    intro n
    induction n with
    | zero => intro y2 w0 H locs ls hP hD hS hl hf; cases hf
    | succ n ih_2 =>
      intro y2 w0 H locs ls hP hD hS hl hf
      replace hf : b_X7_allBy_2 p1 (fuel2 (b_X7_allBy_2 p1) n) y2 w0 = some o0 := hf
      generalize fuel2 (b_X7_allBy_2 p1) n = r_2 at ih_2 hf
      unfold b_X7_allBy_2 at hf
      refine lv_iload_n hx hb dX7_allBy_2 rfl (lv_at hl 2 rfl) ?_
      refine lv_aload_n hx hb dX7_allBy_3 rfl (lv_at hl 0 rfl) ?_
      refine va_get (D := D) (ci := 7) (C := RX7) (T := TX7) (N := 40) hx hb F.2.2.2.2 in_X7_allBy_X7 F.2.2.2.1 hK.1 hP 0 rfl rfl 4 (Nat.le_of_ble_eq_true rfl) (F.2.2.2.2 (.fieldLink RX7 75 "LouderRoomModel" "rings" "I") (List.mem_of_getElem? (i := 1) rfl)) (fun _ h9 => h9) rfl dX7_allBy_4 ?_
      refine lv_icmp_ge (tgt := 23) hx hb dX7_allBy_7 (by decide) (fun hc => ?_) (fun hc => ?_)
      · replace hf := ite_t hf hc
        obtain hf := hf
        have e0 := Option.some.inj hf
        rw [e0] at hP hD
        exact CX_v F hr hlk hP hD hS dX7_allBy_23
      · replace hf := ite_f hf hc
        refine lv_aload_n hx hb dX7_allBy_10 rfl (lv_at hl 0 rfl) ?_
        refine va_get (D := D) (ci := 7) (C := RX7) (T := TX7) (N := 40) hx hb F.2.2.2.2 in_X7_allBy_X7 F.2.2.2.1 hK.1 hP 0 rfl rfl 29 (Nat.le_of_ble_eq_true rfl) (F.2.2.2.2 (.fieldLink RX7 56 "LouderRoomModel" "v" "[I") (List.mem_of_getElem? (i := 2) rfl)) (fun _ h9 => h9) rfl dX7_allBy_11 ?_
        refine lv_iload_n hx hb dX7_allBy_14 rfl (lv_at hl 2 rfl) ?_
        refine lv_iload_n hx hb dX7_allBy_15 rfl (lv_at hl 1 rfl) ?_
        obtain ⟨hi, hf⟩ := grd hf
        refine pt_iast (w1 := fl [oX7 ty h0 a0 (sA w0 29 (upd (w0.2 29) y2.toNatClampNeg p1))]) F hK.1 hP hD hS 16 0 rfl rfl (inb_in hi) rfl dX7_allBy_16 (fun H locs hP hD hS => ?_)
        obtain ⟨g1, ex⟩ : ∃ y : Ob, y = (sA w0 29 (upd (w0.2 29) y2.toNatClampNeg p1)) := ⟨_, rfl⟩
        replace hf := bnd_at hf ex; rw [← ex] at hP hD; clear ex
        obtain ⟨x2, ex⟩ : ∃ y : Int32, y = (y2 + (1 : Int32)) := ⟨_, rfl⟩
        replace hf := bnd_at hf ex
        refine lv_iinc (v := x2) (lv' := [(2, .int x2), (0, .ref h0), (1, .int p1)]) hx hb dX7_allBy_17 hl (k := 2) rfl (by rw [ex]; rfl) (by decide) rfl (fun ls hl => ?_)
        clear ex
        refine lv_goto (tgt := 2) hx hb dX7_allBy_20 (by decide) ?_
        exact ih_2 x2 g1 _ _ _ hP hD hS (lv_sub hl [1, 2, 0] rfl) hf
  exact L_2 FU (0 : Int32) z0 _ _ _ hP hD hS (lv_sub hl [1, 2, 0] rfl) hf
def b_X7_goRest_2 (r_2 : Int32 → Ob → Option (Int32 × Ob)) (y1 : Int32) (w0 : Ob) : Option (Int32 × Ob) := (if (40 : Int32) < y1 then some ((-9 : Int32), w0) else bd2 (f_X7_go w0) (fun v1 g2 => (if v1 = 0 then some (y1, g2) else bnd (y1 + (1 : Int32)) (fun x3 => r_2 x3 g2))))
def f_X7_goRest (z0 : Ob) : Option (Int32 × Ob) := fuel2 (b_X7_goRest_2) FU (0 : Int32) z0
abbrev rm_X7_goRest : Room := { frames := 7, cells := 0, slots := 0, locals := 155 }
theorem hd_X7_goRest : yX7_goRest.cls ≠ "java/lang/invoke/MethodHandle" ∧ yX7_goRest.cls ≠ "java/lang/invoke/VarHandle" ∧ (parseMethodDescriptor yX7_goRest.desc).map (fun d => d.parameters.length) = some 0 := by decide +kernel
set_option maxHeartbeats 4000000 in
set_option maxRecDepth 100000 in
theorem c_X7_goRest (l : Launch) (D : va_G) (ty : TY) (h0 : Nat) (a0 : Nat → Nat) (z0 : Ob) (o0 : Int32) (o1 : Ob) (hf : f_X7_goRest z0 = some (o0, o1)) (sz : Nat) : CX l yX7_goRest wsX7_goRest rm_X7_goRest ([.ref h0] : List Value) D ty (fl [oX7 ty h0 a0 z0]) sz (qI D o0 (fl [oX7 ty h0 a0 o1])) 0 0 := by
  refine CX_of (cc := cX7_goRest) (maxL := 2) (ret := (some .int)) (C := RX7) (by decide) rfl rfl (Nat.le_of_ble_eq_true rfl) ?_
  intro p e s m below meth c A ls F hr hlk _ hK hP hD hS hA hl
  have hx := F.1
  have hb := F.2.1
  replace hl : lv_has ls 2 [(0, .ref h0)] := hl
  unfold f_X7_goRest at hf
  refine lv_iconst (v := (0 : Int32)) hx hb dX7_goRest_0 (by decide) ?_
  refine lv_istore_n (lv' := [(1, .int (0 : Int32)), (0, .ref h0)]) hx hb dX7_goRest_1 rfl hl (by decide) rfl (fun ls hl => ?_)
  have L_2 : ∀ (n : Nat) (y1 : Int32) (w0 : Ob) (H : Heap) (locs : List Loc) (ls : Array Slot), va_P D vwC (fl [oX7 ty h0 a0 w0]) H → va_D A (fl [oX7 ty h0 a0 w0]) → va_S A s.heap H locs → lv_has ls 2 [(0, .ref h0), (1, .int y1)] → fuel2 (b_X7_goRest_2) n y1 w0 = some (o0, o1) → W p l e rm_X7_goRest s m ([.ref h0] : List Value).toArray below meth c H locs 0 0 (MQ below (qI D o0 (fl [oX7 ty h0 a0 o1]) A) ([.ref h0] : List Value).toArray s 0 0 A) (F0 m 2 ls []) := by
    intro n
    induction n with
    | zero => intro y1 w0 H locs ls hP hD hS hl hf; cases hf
    | succ n ih_2 =>
      intro y1 w0 H locs ls hP hD hS hl hf
      replace hf : b_X7_goRest_2 (fuel2 (b_X7_goRest_2) n) y1 w0 = some (o0, o1) := hf
      generalize fuel2 (b_X7_goRest_2) n = r_2 at ih_2 hf
      unfold b_X7_goRest_2 at hf
      refine lv_iload_n hx hb dX7_goRest_2 rfl (lv_at hl 1 rfl) ?_
      refine lv_bipush (v := (40 : Int32)) hx hb dX7_goRest_3 (by decide) ?_
      refine lv_icmp_gt (tgt := 23) hx hb dX7_goRest_5 (by decide) (fun hc => ?_) (fun hc => ?_)
      · replace hf := ite_t hf hc
        refine lv_bipush (v := (-9 : Int32)) hx hb dX7_goRest_23 (by decide) ?_
        obtain hf := hf
        obtain ⟨e0, e1⟩ := tup2 hf
        rw [e1] at hP hD
        exact CX_i F hr hlk hP hD hS e0 dX7_goRest_25
      · replace hf := ite_f hf hc
        refine lv_aload_n hx hb dX7_goRest_8 rfl (lv_at hl 0 rfl) ?_
        obtain ⟨v1, g2, hv, hf⟩ := obd2 hf
        have hp1 : List.Perm [oX7 ty h0 a0 w0] ([oX7 ty h0 a0 w0] ++ []) := (List.Perm.refl _)
        refine ci_call (out := v1) (os := [oX7 ty h0 a0 w0]) (oc := [oX7 ty h0 a0 w0]) (oc' := [oX7 ty h0 a0 g2]) (or_ := []) (os' := [oX7 ty h0 a0 g2]) (va_runV (As := []) (rest := []) F (c_X7_go l D ty h0 a0 _ _ _ hv _) (cwV 0 F.2.2.2.2 gX7_goRest_X7_go rfl rfl rfl ⟨rfl, hd_X7_go⟩ ⟨Nat.le_of_ble_eq_true rfl, Nat.le_of_ble_eq_true rfl⟩) (pre_v hK hP hD hp1 rfl rfl rfl) rfl rfl hl.1 rfl (lv_room (Nat.le_of_ble_eq_true rfl)) dX7_goRest_9 ⟨Nat.zero_le _, Nat.zero_le _⟩) hp1 (List.Perm.refl _) hP hD hS hA (fun H locs hP hD hS => ?_)
        clear hp1 hv
        refine lv_if_ne (tgt := 17) hx hb dX7_goRest_12 (by decide) (fun hc => ?_) (fun hc => ?_)
        · replace hf := ite_f hf hc
          obtain ⟨x3, ex⟩ : ∃ y : Int32, y = (y1 + (1 : Int32)) := ⟨_, rfl⟩
          replace hf := bnd_at hf ex
          refine lv_iinc (v := x3) (lv' := [(1, .int x3), (0, .ref h0)]) hx hb dX7_goRest_17 hl (k := 1) rfl (by rw [ex]; rfl) (by decide) rfl (fun ls hl => ?_)
          clear ex
          refine lv_goto (tgt := 2) hx hb dX7_goRest_20 (by decide) ?_
          exact ih_2 x3 g2 _ _ _ hP hD hS (lv_sub hl [1, 0] rfl) hf
        · replace hf := ite_t hf hc
          refine lv_iload_n hx hb dX7_goRest_15 rfl (lv_at hl 1 rfl) ?_
          obtain hf := hf
          obtain ⟨e0, e1⟩ := tup2 hf
          rw [e1] at hP hD
          exact CX_i F hr hlk hP hD hS e0 dX7_goRest_16
  exact L_2 FU (0 : Int32) z0 _ _ _ hP hD hS (lv_sub hl [1, 0] rfl) hf
def j_X7_rest_58 (p1 : Int32) (p2 : Int32) (y3 : Int32) (w0 : Ob) : Option (Int32 × Ob) := some (y3, w0)
def j_X7_rest_43 (p1 : Int32) (p2 : Int32) (w0 : Ob) : Option (Int32 × Ob) := bd2 (f_X7_goRest w0) (fun v1 g2 => (if v1 = (-9 : Int32) then j_X7_rest_58 p1 p2 v1 g2 else (if p2 = 0 then (f_X7_loudAll g2).bind (fun v3 => some (v3, g2)) else j_X7_rest_58 p1 p2 v1 g2)))
def j_X7_rest_40 (p1 : Int32) (p2 : Int32) (t0 : Int32) (w0 : Ob) : Option (Int32 × Ob) := (f_X7_allBy w0 t0).bind (fun g4 => j_X7_rest_43 p1 p2 g4)
def f_X7_rest (z0 : Ob) (p1 : Int32) (p2 : Int32) : Option (Int32 × Ob) := bnd (sI z0 0 (0 : Int32)) (fun g5 => (f_X7_in p1.toInt64 (0 : Int64) (2 : Int64)).bind (fun v6 => (if v6 = 0 then some ((-2 : Int32), g5) else (f_X7_begin g5).bind (fun g7 => (if p1 ≤ 0 then j_X7_rest_43 p1 p2 g7 else (if p1 = (1 : Int32) then j_X7_rest_40 p1 p2 (1 : Int32) g7 else j_X7_rest_40 p1 p2 (9 : Int32) g7))))))
abbrev rm_X7_rest : Room := { frames := 8, cells := 0, slots := 0, locals := 176 }
theorem hd_X7_rest : yX7_rest.cls ≠ "java/lang/invoke/MethodHandle" ∧ yX7_rest.cls ≠ "java/lang/invoke/VarHandle" ∧ (parseMethodDescriptor yX7_rest.desc).map (fun d => d.parameters.length) = some 2 := by decide +kernel
theorem in_X7_rest_X7 : ∀ w ∈ wsX70, w ∈ wsX7_rest := fun w h => List.mem_cons_of_mem _ (List.mem_append_right _ h)
set_option maxHeartbeats 4000000 in
set_option maxRecDepth 100000 in
theorem c_X7_rest (l : Launch) (D : va_G) (ty : TY) (h0 : Nat) (a0 : Nat → Nat) (z0 : Ob) (p1 : Int32) (p2 : Int32) (o0 : Int32) (o1 : Ob) (hf : f_X7_rest z0 p1 p2 = some (o0, o1)) (sz : Nat) : CX l yX7_rest wsX7_rest rm_X7_rest ([.ref h0, .int p1, .int p2] : List Value) D ty (fl [oX7 ty h0 a0 z0]) sz (qI D o0 (fl [oX7 ty h0 a0 o1])) 0 0 := by
  refine CX_of (cc := cX7_rest) (maxL := 4) (ret := (some .int)) (C := RX7) (by decide) rfl rfl (Nat.le_of_ble_eq_true rfl) ?_
  intro p e s m below meth c A ls F hr hlk _ hK hP hD hS hA hl
  have hx := F.1
  have hb := F.2.1
  replace hl : lv_has ls 4 [(0, .ref h0), (1, .int p1), (2, .int p2)] := hl
  unfold f_X7_rest at hf
  have J_58 : ∀ (y3 : Int32) (w0 : Ob) (H : Heap) (locs : List Loc) (ls : Array Slot), va_P D vwC (fl [oX7 ty h0 a0 w0]) H → va_D A (fl [oX7 ty h0 a0 w0]) → va_S A s.heap H locs → lv_has ls 4 [(3, .int y3)] → j_X7_rest_58 p1 p2 y3 w0 = some (o0, o1) → W p l e rm_X7_rest s m ([.ref h0, .int p1, .int p2] : List Value).toArray below meth c H locs 0 0 (MQ below (qI D o0 (fl [oX7 ty h0 a0 o1]) A) ([.ref h0, .int p1, .int p2] : List Value).toArray s 0 0 A) (F0 m 58 ls []) := by
    intro y3 w0 H locs ls hP hD hS hl hf
    unfold j_X7_rest_58 at hf
    refine lv_iload_n hx hb dX7_rest_58 rfl (lv_at hl 0 rfl) ?_
    refine lv_goto (tgt := 66) hx hb dX7_rest_59 (by decide) ?_
    obtain hf := hf
    obtain ⟨e0, e1⟩ := tup2 hf
    rw [e1] at hP hD
    exact CX_i F hr hlk hP hD hS e0 dX7_rest_66
  have J_43 : ∀ (w0 : Ob) (H : Heap) (locs : List Loc) (ls : Array Slot), va_P D vwC (fl [oX7 ty h0 a0 w0]) H → va_D A (fl [oX7 ty h0 a0 w0]) → va_S A s.heap H locs → lv_has ls 4 [(0, .ref h0), (2, .int p2)] → j_X7_rest_43 p1 p2 w0 = some (o0, o1) → W p l e rm_X7_rest s m ([.ref h0, .int p1, .int p2] : List Value).toArray below meth c H locs 0 0 (MQ below (qI D o0 (fl [oX7 ty h0 a0 o1]) A) ([.ref h0, .int p1, .int p2] : List Value).toArray s 0 0 A) (F0 m 43 ls []) := by
    intro w0 H locs ls hP hD hS hl hf
    unfold j_X7_rest_43 at hf
    refine lv_aload_n hx hb dX7_rest_43 rfl (lv_at hl 0 rfl) ?_
    obtain ⟨v1, g2, hv, hf⟩ := obd2 hf
    have hp1 : List.Perm [oX7 ty h0 a0 w0] ([oX7 ty h0 a0 w0] ++ []) := (List.Perm.refl _)
    refine ci_call (out := v1) (os := [oX7 ty h0 a0 w0]) (oc := [oX7 ty h0 a0 w0]) (oc' := [oX7 ty h0 a0 g2]) (or_ := []) (os' := [oX7 ty h0 a0 g2]) (va_runV (As := []) (rest := []) F (c_X7_goRest l D ty h0 a0 _ _ _ hv _) (cwV 0 F.2.2.2.2 gX7_rest_X7_goRest rfl rfl rfl ⟨rfl, hd_X7_goRest⟩ ⟨Nat.le_of_ble_eq_true rfl, Nat.le_of_ble_eq_true rfl⟩) (pre_v hK hP hD hp1 rfl rfl rfl) rfl rfl hl.1 rfl (lv_room (Nat.le_of_ble_eq_true rfl)) dX7_rest_44 ⟨Nat.zero_le _, Nat.zero_le _⟩) hp1 (List.Perm.refl _) hP hD hS hA (fun H locs hP hD hS => ?_)
    clear hp1 hv
    refine lv_istore_n (lv' := [(3, .int v1), (0, .ref h0), (2, .int p2)]) hx hb dX7_rest_47 rfl hl (by decide) rfl (fun ls hl => ?_)
    refine lv_iload_n hx hb dX7_rest_48 rfl (lv_at hl 0 rfl) ?_
    refine lv_bipush (v := (-9 : Int32)) hx hb dX7_rest_49 (by decide) ?_
    refine lv_icmp_eq (tgt := 58) hx hb dX7_rest_51 (by decide) (fun hc => ?_) (fun hc => ?_)
    · replace hf := ite_t hf hc
      exact J_58 v1 g2 _ _ _ hP hD hS (lv_sub hl [0] rfl) hf
    · replace hf := ite_f hf hc
      refine lv_iload_n hx hb dX7_rest_54 rfl (lv_at hl 2 rfl) ?_
      refine lv_if_eq (tgt := 62) hx hb dX7_rest_55 (by decide) (fun hc => ?_) (fun hc => ?_)
      · replace hf := ite_t hf hc
        refine lv_aload_n hx hb dX7_rest_62 rfl (lv_at hl 1 rfl) ?_
        obtain ⟨v3, hv, hf⟩ := obd hf
        have hp1 : List.Perm [oX7 ty h0 a0 g2] ([oX7 ty h0 a0 g2] ++ []) := (List.Perm.refl _)
        refine ci_call (out := v3) (os := [oX7 ty h0 a0 g2]) (oc := [oX7 ty h0 a0 g2]) (oc' := [oX7 ty h0 a0 g2]) (or_ := []) (os' := [oX7 ty h0 a0 g2]) (va_runV (As := []) (rest := []) F (c_X7_loudAll l D ty h0 a0 _ _ hv _) (cwV 0 F.2.2.2.2 gX7_rest_X7_loudAll rfl rfl rfl ⟨rfl, hd_X7_loudAll⟩ ⟨Nat.le_of_ble_eq_true rfl, Nat.le_of_ble_eq_true rfl⟩) (pre_v hK hP hD hp1 rfl rfl rfl) rfl rfl hl.1 rfl (lv_room (Nat.le_of_ble_eq_true rfl)) dX7_rest_63 ⟨Nat.zero_le _, Nat.zero_le _⟩) hp1 (List.Perm.refl _) hP hD hS hA (fun H locs hP hD hS => ?_)
        clear hp1 hv
        obtain hf := hf
        obtain ⟨e0, e1⟩ := tup2 hf
        rw [e1] at hP hD
        exact CX_i F hr hlk hP hD hS e0 dX7_rest_66
      · replace hf := ite_f hf hc
        exact J_58 v1 g2 _ _ _ hP hD hS (lv_sub hl [0] rfl) hf
  have J_40 : ∀ (t0 : Int32) (w0 : Ob) (H : Heap) (locs : List Loc) (ls : Array Slot), va_P D vwC (fl [oX7 ty h0 a0 w0]) H → va_D A (fl [oX7 ty h0 a0 w0]) → va_S A s.heap H locs → lv_has ls 4 [(0, .ref h0), (2, .int p2)] → j_X7_rest_40 p1 p2 t0 w0 = some (o0, o1) → W p l e rm_X7_rest s m ([.ref h0, .int p1, .int p2] : List Value).toArray below meth c H locs 0 0 (MQ below (qI D o0 (fl [oX7 ty h0 a0 o1]) A) ([.ref h0, .int p1, .int p2] : List Value).toArray s 0 0 A) (F0 m 40 ls [.int t0, .ref h0]) := by
    intro t0 w0 H locs ls hP hD hS hl hf
    unfold j_X7_rest_40 at hf
    obtain ⟨g4, hv, hf⟩ := obd hf
    have hp1 : List.Perm [oX7 ty h0 a0 w0] ([oX7 ty h0 a0 w0] ++ []) := (List.Perm.refl _)
    refine cv_call (os := [oX7 ty h0 a0 w0]) (oc := [oX7 ty h0 a0 w0]) (oc' := [oX7 ty h0 a0 g4]) (or_ := []) (os' := [oX7 ty h0 a0 g4]) (va_runV (As := [.int t0]) (rest := []) F (c_X7_allBy l D ty h0 a0 _ _ _ hv _) (cwV 1 F.2.2.2.2 gX7_rest_X7_allBy rfl rfl rfl ⟨rfl, hd_X7_allBy⟩ ⟨Nat.le_of_ble_eq_true rfl, Nat.le_of_ble_eq_true rfl⟩) (pre_v hK hP hD hp1 rfl rfl rfl) rfl rfl hl.1 rfl (lv_room (Nat.le_of_ble_eq_true rfl)) dX7_rest_40 ⟨Nat.zero_le _, Nat.zero_le _⟩) hp1 (List.Perm.refl _) hP hD hS hA (fun H locs hP hD hS => ?_)
    clear hp1 hv
    exact J_43 g4 _ _ _ hP hD hS (lv_sub hl [0, 1] rfl) hf
  refine lv_aload_n hx hb dX7_rest_0 rfl (lv_at hl 0 rfl) ?_
  refine lv_iconst (v := (0 : Int32)) hx hb dX7_rest_1 (by decide) ?_
  refine pt_put (D := D) (ci := 7) (fty := .int) (C := RX7) (T := TX7) (N := 40) (w1 := fl [oX7 ty h0 a0 (sI z0 0 (0 : Int32))]) F in_X7_rest_X7 tyX7 tyX7_ok nmX7 hK.1 hP hD hS 0 rfl rfl 0 (Nat.le_of_ble_eq_true rfl) (F.2.2.2.2 (.fieldLink RX7 71 "LouderRoomModel" "thrown" "I") (List.mem_of_getElem? (i := 1) rfl)) (fun _ h9 => h9) rfl (by decide +kernel) rfl rfl (Nat.le_of_ble_eq_true rfl) rfl dX7_rest_2 (fun H locs hP hD hS => ?_)
  obtain ⟨g5, ex⟩ : ∃ y : Ob, y = (sI z0 0 (0 : Int32)) := ⟨_, rfl⟩
  replace hf := bnd_at hf ex; rw [← ex] at hP hD; clear ex
  refine lv_iload_n hx hb dX7_rest_5 rfl (lv_at hl 1 rfl) ?_
  refine lv_i2l hx hb dX7_rest_6 rfl ?_
  refine lv_lconst (v := (0 : Int64)) hx hb dX7_rest_7 (by decide) ?_
  refine lv_ldc2 hx hb F.2.2.2.1 (F.2.2.2.2 (.constantLong RX7 229 (2)) (List.mem_of_getElem? (i := 2) rfl)) dX7_rest_8 ?_
  obtain ⟨v6, hv, hf⟩ := obd hf
  have hp1 : List.Perm [oX7 ty h0 a0 g5] ([] ++ [oX7 ty h0 a0 g5]) := (List.Perm.refl _)
  refine ci_call (out := v6) (os := [oX7 ty h0 a0 g5]) (oc := []) (oc' := []) (or_ := [oX7 ty h0 a0 g5]) (os' := [oX7 ty h0 a0 g5]) (va_runS (As := [.long p1.toInt64, .long (0 : Int64), .long (2 : Int64)]) (rest := []) F (c_X7_in l D ty _ _ _ _ hv _) (va_cwS 3 F.2.2.2.2 gX7_rest_X7_in rfl rfl rfl hd_X7_in ⟨Nat.le_of_ble_eq_true rfl, Nat.le_of_ble_eq_true rfl⟩) (pre_s hK hP hD hp1) rfl rfl hl.1 rfl (lv_room (Nat.le_of_ble_eq_true rfl)) dX7_rest_11 ⟨Nat.zero_le _, Nat.zero_le _⟩) hp1 (List.Perm.refl _) hP hD hS hA (fun H locs hP hD hS => ?_)
  clear hp1 hv
  refine lv_if_ne (tgt := 20) hx hb dX7_rest_14 (by decide) (fun hc => ?_) (fun hc => ?_)
  · replace hf := ite_f hf hc
    refine lv_aload_n hx hb dX7_rest_20 rfl (lv_at hl 0 rfl) ?_
    obtain ⟨g7, hv, hf⟩ := obd hf
    have hp1 : List.Perm [oX7 ty h0 a0 g5] ([oX7 ty h0 a0 g5] ++ []) := (List.Perm.refl _)
    refine cv_call (os := [oX7 ty h0 a0 g5]) (oc := [oX7 ty h0 a0 g5]) (oc' := [oX7 ty h0 a0 g7]) (or_ := []) (os' := [oX7 ty h0 a0 g7]) (va_runV (As := []) (rest := []) F (c_X7_begin l D ty h0 a0 _ _ hv _) (cwV 0 F.2.2.2.2 gX7_rest_X7_begin rfl rfl rfl ⟨rfl, hd_X7_begin⟩ ⟨Nat.le_of_ble_eq_true rfl, Nat.le_of_ble_eq_true rfl⟩) (pre_v hK hP hD hp1 rfl rfl rfl) rfl rfl hl.1 rfl (lv_room (Nat.le_of_ble_eq_true rfl)) dX7_rest_21 ⟨Nat.zero_le _, Nat.zero_le _⟩) hp1 (List.Perm.refl _) hP hD hS hA (fun H locs hP hD hS => ?_)
    clear hp1 hv
    refine lv_iload_n hx hb dX7_rest_24 rfl (lv_at hl 1 rfl) ?_
    refine lv_if_le (tgt := 43) hx hb dX7_rest_25 (by decide) (fun hc => ?_) (fun hc => ?_)
    · replace hf := ite_t hf hc
      exact J_43 g7 _ _ _ hP hD hS (lv_sub hl [0, 2] rfl) hf
    · replace hf := ite_f hf hc
      refine lv_aload_n hx hb dX7_rest_28 rfl (lv_at hl 0 rfl) ?_
      refine lv_iload_n hx hb dX7_rest_29 rfl (lv_at hl 1 rfl) ?_
      refine lv_iconst (v := (1 : Int32)) hx hb dX7_rest_30 (by decide) ?_
      refine lv_icmp_ne (tgt := 38) hx hb dX7_rest_31 (by decide) (fun hc => ?_) (fun hc => ?_)
      · replace hf := ite_f hf hc
        refine lv_bipush (v := (9 : Int32)) hx hb dX7_rest_38 (by decide) ?_
        exact J_40 (9 : Int32) g7 _ _ _ hP hD hS (lv_sub hl [0, 2] rfl) hf
      · replace hf := ite_t hf hc
        refine lv_iconst (v := (1 : Int32)) hx hb dX7_rest_34 (by decide) ?_
        refine lv_goto (tgt := 40) hx hb dX7_rest_35 (by decide) ?_
        exact J_40 (1 : Int32) g7 _ _ _ hP hD hS (lv_sub hl [0, 2] rfl) hf
  · replace hf := ite_t hf hc
    refine lv_bipush (v := (-2 : Int32)) hx hb dX7_rest_17 (by decide) ?_
    obtain hf := hf
    obtain ⟨e0, e1⟩ := tup2 hf
    rw [e1] at hP hD
    exact CX_i F hr hlk hP hD hS e0 dX7_rest_19
def b_X7_tooMany_7 (r_7 : Int32 → Ob → Option (Int32 × Ob)) (y1 : Int32) (w0 : Ob) : Option (Int32 × Ob) := (if (w0.1 4) < y1 then some ((-9 : Int32), w0) else (f_X7_begin w0).bind (fun g2 => (f_X7_allBy g2 (1 : Int32)).bind (fun g3 => bnd (sI g3 32 y1) (fun g4 => bd2 (f_X7_goRest g4) (fun v5 g6 => (if v5 = (-9 : Int32) then some (y1, g6) else (f_X7_allHear g6).bind (fun v7 => (if v7 = 0 then some (y1, g6) else bnd (y1 + (1 : Int32)) (fun x8 => r_7 x8 g6)))))))))
def f_X7_tooMany (z0 : Ob) : Option (Int32 × Ob) := bnd (sI z0 0 (0 : Int32)) (fun g1 => fuel2 (b_X7_tooMany_7) FU (1 : Int32) g1)
abbrev rm_X7_tooMany : Room := { frames := 8, cells := 0, slots := 0, locals := 176 }
theorem hd_X7_tooMany : yX7_tooMany.cls ≠ "java/lang/invoke/MethodHandle" ∧ yX7_tooMany.cls ≠ "java/lang/invoke/VarHandle" ∧ (parseMethodDescriptor yX7_tooMany.desc).map (fun d => d.parameters.length) = some 0 := by decide +kernel
theorem in_X7_tooMany_X7 : ∀ w ∈ wsX70, w ∈ wsX7_tooMany := fun w h => List.mem_cons_of_mem _ (List.mem_append_right _ h)
set_option maxHeartbeats 4000000 in
set_option maxRecDepth 100000 in
theorem c_X7_tooMany (l : Launch) (D : va_G) (ty : TY) (h0 : Nat) (a0 : Nat → Nat) (z0 : Ob) (o0 : Int32) (o1 : Ob) (hf : f_X7_tooMany z0 = some (o0, o1)) (sz : Nat) : CX l yX7_tooMany wsX7_tooMany rm_X7_tooMany ([.ref h0] : List Value) D ty (fl [oX7 ty h0 a0 z0]) sz (qI D o0 (fl [oX7 ty h0 a0 o1])) 0 0 := by
  refine CX_of (cc := cX7_tooMany) (maxL := 2) (ret := (some .int)) (C := RX7) (by decide) rfl rfl (Nat.le_of_ble_eq_true rfl) ?_
  intro p e s m below meth c A ls F hr hlk _ hK hP hD hS hA hl
  have hx := F.1
  have hb := F.2.1
  replace hl : lv_has ls 2 [(0, .ref h0)] := hl
  unfold f_X7_tooMany at hf
  refine lv_aload_n hx hb dX7_tooMany_0 rfl (lv_at hl 0 rfl) ?_
  refine lv_iconst (v := (0 : Int32)) hx hb dX7_tooMany_1 (by decide) ?_
  refine pt_put (D := D) (ci := 7) (fty := .int) (C := RX7) (T := TX7) (N := 40) (w1 := fl [oX7 ty h0 a0 (sI z0 0 (0 : Int32))]) F in_X7_tooMany_X7 tyX7 tyX7_ok nmX7 hK.1 hP hD hS 0 rfl rfl 0 (Nat.le_of_ble_eq_true rfl) (F.2.2.2.2 (.fieldLink RX7 71 "LouderRoomModel" "thrown" "I") (List.mem_of_getElem? (i := 1) rfl)) (fun _ h9 => h9) rfl (by decide +kernel) rfl rfl (Nat.le_of_ble_eq_true rfl) rfl dX7_tooMany_2 (fun H locs hP hD hS => ?_)
  obtain ⟨g1, ex⟩ : ∃ y : Ob, y = (sI z0 0 (0 : Int32)) := ⟨_, rfl⟩
  replace hf := bnd_at hf ex; rw [← ex] at hP hD; clear ex
  refine lv_iconst (v := (1 : Int32)) hx hb dX7_tooMany_5 (by decide) ?_
  refine lv_istore_n (lv' := [(1, .int (1 : Int32)), (0, .ref h0)]) hx hb dX7_tooMany_6 rfl hl (by decide) rfl (fun ls hl => ?_)
  have L_7 : ∀ (n : Nat) (y1 : Int32) (w0 : Ob) (H : Heap) (locs : List Loc) (ls : Array Slot), va_P D vwC (fl [oX7 ty h0 a0 w0]) H → va_D A (fl [oX7 ty h0 a0 w0]) → va_S A s.heap H locs → lv_has ls 2 [(0, .ref h0), (1, .int y1)] → fuel2 (b_X7_tooMany_7) n y1 w0 = some (o0, o1) → W p l e rm_X7_tooMany s m ([.ref h0] : List Value).toArray below meth c H locs 0 0 (MQ below (qI D o0 (fl [oX7 ty h0 a0 o1]) A) ([.ref h0] : List Value).toArray s 0 0 A) (F0 m 7 ls []) := by
    intro n
    induction n with
    | zero => intro y1 w0 H locs ls hP hD hS hl hf; cases hf
    | succ n ih_7 =>
      intro y1 w0 H locs ls hP hD hS hl hf
      replace hf : b_X7_tooMany_7 (fuel2 (b_X7_tooMany_7) n) y1 w0 = some (o0, o1) := hf
      generalize fuel2 (b_X7_tooMany_7) n = r_7 at ih_7 hf
      unfold b_X7_tooMany_7 at hf
      refine lv_iload_n hx hb dX7_tooMany_7 rfl (lv_at hl 1 rfl) ?_
      refine lv_aload_n hx hb dX7_tooMany_8 rfl (lv_at hl 0 rfl) ?_
      refine va_get (D := D) (ci := 7) (C := RX7) (T := TX7) (N := 40) hx hb F.2.2.2.2 in_X7_tooMany_X7 F.2.2.2.1 hK.1 hP 0 rfl rfl 4 (Nat.le_of_ble_eq_true rfl) (F.2.2.2.2 (.fieldLink RX7 75 "LouderRoomModel" "rings" "I") (List.mem_of_getElem? (i := 2) rfl)) (fun _ h9 => h9) rfl dX7_tooMany_9 ?_
      refine lv_icmp_gt (tgt := 53) hx hb dX7_tooMany_12 (by decide) (fun hc => ?_) (fun hc => ?_)
      · replace hf := ite_t hf hc
        refine lv_bipush (v := (-9 : Int32)) hx hb dX7_tooMany_53 (by decide) ?_
        obtain hf := hf
        obtain ⟨e0, e1⟩ := tup2 hf
        rw [e1] at hP hD
        exact CX_i F hr hlk hP hD hS e0 dX7_tooMany_55
      · replace hf := ite_f hf hc
        refine lv_aload_n hx hb dX7_tooMany_15 rfl (lv_at hl 0 rfl) ?_
        obtain ⟨g2, hv, hf⟩ := obd hf
        have hp1 : List.Perm [oX7 ty h0 a0 w0] ([oX7 ty h0 a0 w0] ++ []) := (List.Perm.refl _)
        refine cv_call (os := [oX7 ty h0 a0 w0]) (oc := [oX7 ty h0 a0 w0]) (oc' := [oX7 ty h0 a0 g2]) (or_ := []) (os' := [oX7 ty h0 a0 g2]) (va_runV (As := []) (rest := []) F (c_X7_begin l D ty h0 a0 _ _ hv _) (cwV 0 F.2.2.2.2 gX7_tooMany_X7_begin rfl rfl rfl ⟨rfl, hd_X7_begin⟩ ⟨Nat.le_of_ble_eq_true rfl, Nat.le_of_ble_eq_true rfl⟩) (pre_v hK hP hD hp1 rfl rfl rfl) rfl rfl hl.1 rfl (lv_room (Nat.le_of_ble_eq_true rfl)) dX7_tooMany_16 ⟨Nat.zero_le _, Nat.zero_le _⟩) hp1 (List.Perm.refl _) hP hD hS hA (fun H locs hP hD hS => ?_)
        clear hp1 hv
        refine lv_aload_n hx hb dX7_tooMany_19 rfl (lv_at hl 0 rfl) ?_
        refine lv_iconst (v := (1 : Int32)) hx hb dX7_tooMany_20 (by decide) ?_
        obtain ⟨g3, hv, hf⟩ := obd hf
        have hp1 : List.Perm [oX7 ty h0 a0 g2] ([oX7 ty h0 a0 g2] ++ []) := (List.Perm.refl _)
        refine cv_call (os := [oX7 ty h0 a0 g2]) (oc := [oX7 ty h0 a0 g2]) (oc' := [oX7 ty h0 a0 g3]) (or_ := []) (os' := [oX7 ty h0 a0 g3]) (va_runV (As := [.int (1 : Int32)]) (rest := []) F (c_X7_allBy l D ty h0 a0 _ _ _ hv _) (cwV 1 F.2.2.2.2 gX7_tooMany_X7_allBy rfl rfl rfl ⟨rfl, hd_X7_allBy⟩ ⟨Nat.le_of_ble_eq_true rfl, Nat.le_of_ble_eq_true rfl⟩) (pre_v hK hP hD hp1 rfl rfl rfl) rfl rfl hl.1 rfl (lv_room (Nat.le_of_ble_eq_true rfl)) dX7_tooMany_21 ⟨Nat.zero_le _, Nat.zero_le _⟩) hp1 (List.Perm.refl _) hP hD hS hA (fun H locs hP hD hS => ?_)
        clear hp1 hv
        refine lv_aload_n hx hb dX7_tooMany_24 rfl (lv_at hl 0 rfl) ?_
        refine lv_iload_n hx hb dX7_tooMany_25 rfl (lv_at hl 1 rfl) ?_
        refine pt_put (D := D) (ci := 7) (fty := .int) (C := RX7) (T := TX7) (N := 40) (w1 := fl [oX7 ty h0 a0 (sI g3 32 y1)]) F in_X7_tooMany_X7 tyX7 tyX7_ok nmX7 hK.1 hP hD hS 0 rfl rfl 32 (Nat.le_of_ble_eq_true rfl) (F.2.2.2.2 (.fieldLink RX7 141 "LouderRoomModel" "many" "I") (List.mem_of_getElem? (i := 3) rfl)) (fun _ h9 => h9) rfl (by decide +kernel) rfl rfl (Nat.le_of_ble_eq_true rfl) rfl dX7_tooMany_26 (fun H locs hP hD hS => ?_)
        obtain ⟨g4, ex⟩ : ∃ y : Ob, y = (sI g3 32 y1) := ⟨_, rfl⟩
        replace hf := bnd_at hf ex; rw [← ex] at hP hD; clear ex
        refine lv_aload_n hx hb dX7_tooMany_29 rfl (lv_at hl 0 rfl) ?_
        obtain ⟨v5, g6, hv, hf⟩ := obd2 hf
        have hp1 : List.Perm [oX7 ty h0 a0 g4] ([oX7 ty h0 a0 g4] ++ []) := (List.Perm.refl _)
        refine ci_call (out := v5) (os := [oX7 ty h0 a0 g4]) (oc := [oX7 ty h0 a0 g4]) (oc' := [oX7 ty h0 a0 g6]) (or_ := []) (os' := [oX7 ty h0 a0 g6]) (va_runV (As := []) (rest := []) F (c_X7_goRest l D ty h0 a0 _ _ _ hv _) (cwV 0 F.2.2.2.2 gX7_tooMany_X7_goRest rfl rfl rfl ⟨rfl, hd_X7_goRest⟩ ⟨Nat.le_of_ble_eq_true rfl, Nat.le_of_ble_eq_true rfl⟩) (pre_v hK hP hD hp1 rfl rfl rfl) rfl rfl hl.1 rfl (lv_room (Nat.le_of_ble_eq_true rfl)) dX7_tooMany_30 ⟨Nat.zero_le _, Nat.zero_le _⟩) hp1 (List.Perm.refl _) hP hD hS hA (fun H locs hP hD hS => ?_)
        clear hp1 hv
        refine lv_bipush (v := (-9 : Int32)) hx hb dX7_tooMany_33 (by decide) ?_
        refine lv_icmp_eq (tgt := 45) hx hb dX7_tooMany_35 (by decide) (fun hc => ?_) (fun hc => ?_)
        · replace hf := ite_t hf hc
          refine lv_iload_n hx hb dX7_tooMany_45 rfl (lv_at hl 1 rfl) ?_
          obtain hf := hf
          obtain ⟨e0, e1⟩ := tup2 hf
          rw [e1] at hP hD
          exact CX_i F hr hlk hP hD hS e0 dX7_tooMany_46
        · replace hf := ite_f hf hc
          refine lv_aload_n hx hb dX7_tooMany_38 rfl (lv_at hl 0 rfl) ?_
          obtain ⟨v7, hv, hf⟩ := obd hf
          have hp1 : List.Perm [oX7 ty h0 a0 g6] ([oX7 ty h0 a0 g6] ++ []) := (List.Perm.refl _)
          refine ci_call (out := v7) (os := [oX7 ty h0 a0 g6]) (oc := [oX7 ty h0 a0 g6]) (oc' := [oX7 ty h0 a0 g6]) (or_ := []) (os' := [oX7 ty h0 a0 g6]) (va_runV (As := []) (rest := []) F (c_X7_allHear l D ty h0 a0 _ _ hv _) (cwV 0 F.2.2.2.2 gX7_tooMany_X7_allHear rfl rfl rfl ⟨rfl, hd_X7_allHear⟩ ⟨Nat.le_of_ble_eq_true rfl, Nat.le_of_ble_eq_true rfl⟩) (pre_v hK hP hD hp1 rfl rfl rfl) rfl rfl hl.1 rfl (lv_room (Nat.le_of_ble_eq_true rfl)) dX7_tooMany_39 ⟨Nat.zero_le _, Nat.zero_le _⟩) hp1 (List.Perm.refl _) hP hD hS hA (fun H locs hP hD hS => ?_)
          clear hp1 hv
          refine lv_if_ne (tgt := 47) hx hb dX7_tooMany_42 (by decide) (fun hc => ?_) (fun hc => ?_)
          · replace hf := ite_f hf hc
            obtain ⟨x8, ex⟩ : ∃ y : Int32, y = (y1 + (1 : Int32)) := ⟨_, rfl⟩
            replace hf := bnd_at hf ex
            refine lv_iinc (v := x8) (lv' := [(1, .int x8), (0, .ref h0)]) hx hb dX7_tooMany_47 hl (k := 1) rfl (by rw [ex]; rfl) (by decide) rfl (fun ls hl => ?_)
            clear ex
            refine lv_goto (tgt := 7) hx hb dX7_tooMany_50 (by decide) ?_
            exact ih_7 x8 g6 _ _ _ hP hD hS (lv_sub hl [1, 0] rfl) hf
          · replace hf := ite_t hf hc
            refine lv_iload_n hx hb dX7_tooMany_45 rfl (lv_at hl 1 rfl) ?_
            obtain hf := hf
            obtain ⟨e0, e1⟩ := tup2 hf
            rw [e1] at hP hD
            exact CX_i F hr hlk hP hD hS e0 dX7_tooMany_46
  exact L_7 FU (1 : Int32) g1 _ _ _ hP hD hS (lv_sub hl [1, 0] rfl) hf
def b_X7_lasts_21 (y1 : Int32) (r_21 : Int32 → Ob → Option (Int32 × Ob)) (y2 : Int32) (w0 : Ob) : Option (Int32 × Ob) := (if (40 : Int32) < y2 then some ((-9 : Int32), w0) else (f_X7_loudAll w0).bind (fun v5 => (if v5 < y1 then bd2 (f_X7_go w0) (fun v6 g7 => bnd (y2 + (1 : Int32)) (fun x8 => r_21 x8 g7)) else some (y2, w0))))
def f_X7_lasts (z0 : Ob) : Option (Int32 × Ob) := bnd (sI z0 0 (0 : Int32)) (fun g1 => (f_X7_begin g1).bind (fun g2 => (f_X7_loudAll g2).bind (fun v3 => (f_X7_allBy g2 (1 : Int32)).bind (fun g4 => fuel2 (b_X7_lasts_21 v3) FU (0 : Int32) g4))))
abbrev rm_X7_lasts : Room := { frames := 7, cells := 0, slots := 0, locals := 155 }
theorem hd_X7_lasts : yX7_lasts.cls ≠ "java/lang/invoke/MethodHandle" ∧ yX7_lasts.cls ≠ "java/lang/invoke/VarHandle" ∧ (parseMethodDescriptor yX7_lasts.desc).map (fun d => d.parameters.length) = some 0 := by decide +kernel
theorem in_X7_lasts_X7 : ∀ w ∈ wsX70, w ∈ wsX7_lasts := fun w h => List.mem_cons_of_mem _ (List.mem_append_right _ h)
set_option maxHeartbeats 4000000 in
set_option maxRecDepth 100000 in
theorem c_X7_lasts (l : Launch) (D : va_G) (ty : TY) (h0 : Nat) (a0 : Nat → Nat) (z0 : Ob) (o0 : Int32) (o1 : Ob) (hf : f_X7_lasts z0 = some (o0, o1)) (sz : Nat) : CX l yX7_lasts wsX7_lasts rm_X7_lasts ([.ref h0] : List Value) D ty (fl [oX7 ty h0 a0 z0]) sz (qI D o0 (fl [oX7 ty h0 a0 o1])) 0 0 := by
  refine CX_of (cc := cX7_lasts) (maxL := 3) (ret := (some .int)) (C := RX7) (by decide) rfl rfl (Nat.le_of_ble_eq_true rfl) ?_
  intro p e s m below meth c A ls F hr hlk _ hK hP hD hS hA hl
  have hx := F.1
  have hb := F.2.1
  replace hl : lv_has ls 3 [(0, .ref h0)] := hl
  unfold f_X7_lasts at hf
  refine lv_aload_n hx hb dX7_lasts_0 rfl (lv_at hl 0 rfl) ?_
  refine lv_iconst (v := (0 : Int32)) hx hb dX7_lasts_1 (by decide) ?_
  refine pt_put (D := D) (ci := 7) (fty := .int) (C := RX7) (T := TX7) (N := 40) (w1 := fl [oX7 ty h0 a0 (sI z0 0 (0 : Int32))]) F in_X7_lasts_X7 tyX7 tyX7_ok nmX7 hK.1 hP hD hS 0 rfl rfl 0 (Nat.le_of_ble_eq_true rfl) (F.2.2.2.2 (.fieldLink RX7 71 "LouderRoomModel" "thrown" "I") (List.mem_of_getElem? (i := 1) rfl)) (fun _ h9 => h9) rfl (by decide +kernel) rfl rfl (Nat.le_of_ble_eq_true rfl) rfl dX7_lasts_2 (fun H locs hP hD hS => ?_)
  obtain ⟨g1, ex⟩ : ∃ y : Ob, y = (sI z0 0 (0 : Int32)) := ⟨_, rfl⟩
  replace hf := bnd_at hf ex; rw [← ex] at hP hD; clear ex
  refine lv_aload_n hx hb dX7_lasts_5 rfl (lv_at hl 0 rfl) ?_
  obtain ⟨g2, hv, hf⟩ := obd hf
  have hp1 : List.Perm [oX7 ty h0 a0 g1] ([oX7 ty h0 a0 g1] ++ []) := (List.Perm.refl _)
  refine cv_call (os := [oX7 ty h0 a0 g1]) (oc := [oX7 ty h0 a0 g1]) (oc' := [oX7 ty h0 a0 g2]) (or_ := []) (os' := [oX7 ty h0 a0 g2]) (va_runV (As := []) (rest := []) F (c_X7_begin l D ty h0 a0 _ _ hv _) (cwV 0 F.2.2.2.2 gX7_lasts_X7_begin rfl rfl rfl ⟨rfl, hd_X7_begin⟩ ⟨Nat.le_of_ble_eq_true rfl, Nat.le_of_ble_eq_true rfl⟩) (pre_v hK hP hD hp1 rfl rfl rfl) rfl rfl hl.1 rfl (lv_room (Nat.le_of_ble_eq_true rfl)) dX7_lasts_6 ⟨Nat.zero_le _, Nat.zero_le _⟩) hp1 (List.Perm.refl _) hP hD hS hA (fun H locs hP hD hS => ?_)
  clear hp1 hv
  refine lv_aload_n hx hb dX7_lasts_9 rfl (lv_at hl 0 rfl) ?_
  obtain ⟨v3, hv, hf⟩ := obd hf
  have hp1 : List.Perm [oX7 ty h0 a0 g2] ([oX7 ty h0 a0 g2] ++ []) := (List.Perm.refl _)
  refine ci_call (out := v3) (os := [oX7 ty h0 a0 g2]) (oc := [oX7 ty h0 a0 g2]) (oc' := [oX7 ty h0 a0 g2]) (or_ := []) (os' := [oX7 ty h0 a0 g2]) (va_runV (As := []) (rest := []) F (c_X7_loudAll l D ty h0 a0 _ _ hv _) (cwV 0 F.2.2.2.2 gX7_lasts_X7_loudAll rfl rfl rfl ⟨rfl, hd_X7_loudAll⟩ ⟨Nat.le_of_ble_eq_true rfl, Nat.le_of_ble_eq_true rfl⟩) (pre_v hK hP hD hp1 rfl rfl rfl) rfl rfl hl.1 rfl (lv_room (Nat.le_of_ble_eq_true rfl)) dX7_lasts_10 ⟨Nat.zero_le _, Nat.zero_le _⟩) hp1 (List.Perm.refl _) hP hD hS hA (fun H locs hP hD hS => ?_)
  clear hp1 hv
  refine lv_istore_n (lv' := [(1, .int v3), (0, .ref h0)]) hx hb dX7_lasts_13 rfl hl (by decide) rfl (fun ls hl => ?_)
  refine lv_aload_n hx hb dX7_lasts_14 rfl (lv_at hl 1 rfl) ?_
  refine lv_iconst (v := (1 : Int32)) hx hb dX7_lasts_15 (by decide) ?_
  obtain ⟨g4, hv, hf⟩ := obd hf
  have hp1 : List.Perm [oX7 ty h0 a0 g2] ([oX7 ty h0 a0 g2] ++ []) := (List.Perm.refl _)
  refine cv_call (os := [oX7 ty h0 a0 g2]) (oc := [oX7 ty h0 a0 g2]) (oc' := [oX7 ty h0 a0 g4]) (or_ := []) (os' := [oX7 ty h0 a0 g4]) (va_runV (As := [.int (1 : Int32)]) (rest := []) F (c_X7_allBy l D ty h0 a0 _ _ _ hv _) (cwV 1 F.2.2.2.2 gX7_lasts_X7_allBy rfl rfl rfl ⟨rfl, hd_X7_allBy⟩ ⟨Nat.le_of_ble_eq_true rfl, Nat.le_of_ble_eq_true rfl⟩) (pre_v hK hP hD hp1 rfl rfl rfl) rfl rfl hl.1 rfl (lv_room (Nat.le_of_ble_eq_true rfl)) dX7_lasts_16 ⟨Nat.zero_le _, Nat.zero_le _⟩) hp1 (List.Perm.refl _) hP hD hS hA (fun H locs hP hD hS => ?_)
  clear hp1 hv
  refine lv_iconst (v := (0 : Int32)) hx hb dX7_lasts_19 (by decide) ?_
  refine lv_istore_n (lv' := [(2, .int (0 : Int32)), (1, .int v3), (0, .ref h0)]) hx hb dX7_lasts_20 rfl hl (by decide) rfl (fun ls hl => ?_)
  have L_21 : ∀ (y1 : Int32) (n : Nat) (y2 : Int32) (w0 : Ob) (H : Heap) (locs : List Loc) (ls : Array Slot), va_P D vwC (fl [oX7 ty h0 a0 w0]) H → va_D A (fl [oX7 ty h0 a0 w0]) → va_S A s.heap H locs → lv_has ls 3 [(0, .ref h0), (1, .int y1), (2, .int y2)] → fuel2 (b_X7_lasts_21 y1) n y2 w0 = some (o0, o1) → W p l e rm_X7_lasts s m ([.ref h0] : List Value).toArray below meth c H locs 0 0 (MQ below (qI D o0 (fl [oX7 ty h0 a0 o1]) A) ([.ref h0] : List Value).toArray s 0 0 A) (F0 m 21 ls []) := by
    intro y1 n
    induction n with
    | zero => intro y2 w0 H locs ls hP hD hS hl hf; cases hf
    | succ n ih_21 =>
      intro y2 w0 H locs ls hP hD hS hl hf
      replace hf : b_X7_lasts_21 y1 (fuel2 (b_X7_lasts_21 y1) n) y2 w0 = some (o0, o1) := hf
      generalize fuel2 (b_X7_lasts_21 y1) n = r_21 at ih_21 hf
      unfold b_X7_lasts_21 at hf
      refine lv_iload_n hx hb dX7_lasts_21 rfl (lv_at hl 2 rfl) ?_
      refine lv_bipush (v := (40 : Int32)) hx hb dX7_lasts_22 (by decide) ?_
      refine lv_icmp_gt (tgt := 48) hx hb dX7_lasts_24 (by decide) (fun hc => ?_) (fun hc => ?_)
      · replace hf := ite_t hf hc
        refine lv_bipush (v := (-9 : Int32)) hx hb dX7_lasts_48 (by decide) ?_
        obtain hf := hf
        obtain ⟨e0, e1⟩ := tup2 hf
        rw [e1] at hP hD
        exact CX_i F hr hlk hP hD hS e0 dX7_lasts_50
      · replace hf := ite_f hf hc
        refine lv_aload_n hx hb dX7_lasts_27 rfl (lv_at hl 0 rfl) ?_
        obtain ⟨v5, hv, hf⟩ := obd hf
        have hp1 : List.Perm [oX7 ty h0 a0 w0] ([oX7 ty h0 a0 w0] ++ []) := (List.Perm.refl _)
        refine ci_call (out := v5) (os := [oX7 ty h0 a0 w0]) (oc := [oX7 ty h0 a0 w0]) (oc' := [oX7 ty h0 a0 w0]) (or_ := []) (os' := [oX7 ty h0 a0 w0]) (va_runV (As := []) (rest := []) F (c_X7_loudAll l D ty h0 a0 _ _ hv _) (cwV 0 F.2.2.2.2 gX7_lasts_X7_loudAll rfl rfl rfl ⟨rfl, hd_X7_loudAll⟩ ⟨Nat.le_of_ble_eq_true rfl, Nat.le_of_ble_eq_true rfl⟩) (pre_v hK hP hD hp1 rfl rfl rfl) rfl rfl hl.1 rfl (lv_room (Nat.le_of_ble_eq_true rfl)) dX7_lasts_28 ⟨Nat.zero_le _, Nat.zero_le _⟩) hp1 (List.Perm.refl _) hP hD hS hA (fun H locs hP hD hS => ?_)
        clear hp1 hv
        refine lv_iload_n hx hb dX7_lasts_31 rfl (lv_at hl 1 rfl) ?_
        refine lv_icmp_lt (tgt := 37) hx hb dX7_lasts_32 (by decide) (fun hc => ?_) (fun hc => ?_)
        · replace hf := ite_t hf hc
          refine lv_aload_n hx hb dX7_lasts_37 rfl (lv_at hl 0 rfl) ?_
          obtain ⟨v6, g7, hv, hf⟩ := obd2 hf
          have hp1 : List.Perm [oX7 ty h0 a0 w0] ([oX7 ty h0 a0 w0] ++ []) := (List.Perm.refl _)
          refine ci_call (out := v6) (os := [oX7 ty h0 a0 w0]) (oc := [oX7 ty h0 a0 w0]) (oc' := [oX7 ty h0 a0 g7]) (or_ := []) (os' := [oX7 ty h0 a0 g7]) (va_runV (As := []) (rest := []) F (c_X7_go l D ty h0 a0 _ _ _ hv _) (cwV 0 F.2.2.2.2 gX7_lasts_X7_go rfl rfl rfl ⟨rfl, hd_X7_go⟩ ⟨Nat.le_of_ble_eq_true rfl, Nat.le_of_ble_eq_true rfl⟩) (pre_v hK hP hD hp1 rfl rfl rfl) rfl rfl hl.1 rfl (lv_room (Nat.le_of_ble_eq_true rfl)) dX7_lasts_38 ⟨Nat.zero_le _, Nat.zero_le _⟩) hp1 (List.Perm.refl _) hP hD hS hA (fun H locs hP hD hS => ?_)
          clear hp1 hv
          refine lv_pop hx hb dX7_lasts_41 rfl ?_
          obtain ⟨x8, ex⟩ : ∃ y : Int32, y = (y2 + (1 : Int32)) := ⟨_, rfl⟩
          replace hf := bnd_at hf ex
          refine lv_iinc (v := x8) (lv' := [(2, .int x8), (0, .ref h0), (1, .int y1)]) hx hb dX7_lasts_42 hl (k := 2) rfl (by rw [ex]; rfl) (by decide) rfl (fun ls hl => ?_)
          clear ex
          refine lv_goto (tgt := 21) hx hb dX7_lasts_45 (by decide) ?_
          exact ih_21 x8 g7 _ _ _ hP hD hS (lv_sub hl [1, 2, 0] rfl) hf
        · replace hf := ite_f hf hc
          refine lv_iload_n hx hb dX7_lasts_35 rfl (lv_at hl 2 rfl) ?_
          obtain hf := hf
          obtain ⟨e0, e1⟩ := tup2 hf
          rw [e1] at hP hD
          exact CX_i F hr hlk hP hD hS e0 dX7_lasts_36
  exact L_21 v3 FU (0 : Int32) g4 _ _ _ hP hD hS (lv_sub hl [2, 1, 0] rfl) hf
def j_X7_findStuffs_147 (r_5 : Int32 → Int32 → Ob → Option (Int32 × Ob)) (y1 : Int32) (y2 : Int32) (w0 : Ob) : Option (Int32 × Ob) := bnd (y2 + (1 : Int32)) (fun x1 => r_5 y1 x1 w0)
def j_X7_findStuffs_124 (r_5 : Int32 → Int32 → Ob → Option (Int32 × Ob)) (y1 : Int32) (y2 : Int32) (y3 : Int32) (w0 : Ob) : Option (Int32 × Ob) := bd2 (f_X7_goRest w0) (fun v2 g3 => (if v2 = (-9 : Int32) then j_X7_findStuffs_147 r_5 y1 y2 g3 else (f_X7_allHear g3).bind (fun v4 => (if v4 = 0 then j_X7_findStuffs_147 r_5 y1 y2 g3 else bnd (sI g3 36 y2) (fun g5 => j_X7_findStuffs_147 r_5 y3 y2 g5)))))
def j_X7_findStuffs_110 (r_5 : Int32 → Int32 → Ob → Option (Int32 × Ob)) (y1 : Int32) (y2 : Int32) (y3 : Int32) (t0 : Int32) (w0 : Ob) : Option (Int32 × Ob) := bnd (sI w0 33 t0) (fun g6 => (if y1 = (-9 : Int32) then j_X7_findStuffs_124 r_5 y1 y2 y3 g6 else (if y1 ≤ y3 then j_X7_findStuffs_147 r_5 y1 y2 g6 else j_X7_findStuffs_124 r_5 y1 y2 y3 g6)))
def j_X7_findStuffs_81 (r_5 : Int32 → Int32 → Ob → Option (Int32 × Ob)) (r_24 : Int32 → Int32 → Ob → Option (Int32 × Ob)) (y1 : Int32) (y2 : Int32) (y3 : Int32) (y4 : Int32) (t0 : Int32) (t1 : Int32) (w0 : Ob) : Option (Int32 × Ob) := bnd (sI w0 33 (t1 + t0)) (fun g8 => bnd (y4 + (1 : Int32)) (fun x9 => r_24 y3 x9 g8))
def j_X7_findStuffs_54 (r_5 : Int32 → Int32 → Ob → Option (Int32 × Ob)) (r_24 : Int32 → Int32 → Ob → Option (Int32 × Ob)) (y1 : Int32) (y2 : Int32) (y4 : Int32) (t0 : Int32) (t1 : Int32) (w0 : Ob) : Option (Int32 × Ob) := bnd (t1 + t0) (fun x10 => (f_X7_has y2 y4).bind (fun v11 => (if v11 = 0 then j_X7_findStuffs_81 r_5 r_24 y1 y2 x10 y4 (0 : Int32) (w0.1 33) w0 else (if inb y4 5 = true then j_X7_findStuffs_81 r_5 r_24 y1 y2 x10 y4 (w0.2 15 y4.toNatClampNeg) (w0.1 33) w0 else none))))
def b_X7_findStuffs_24 (r_5 : Int32 → Int32 → Ob → Option (Int32 × Ob)) (y1 : Int32) (y2 : Int32) (r_24 : Int32 → Int32 → Ob → Option (Int32 × Ob)) (y3 : Int32) (y4 : Int32) (w0 : Ob) : Option (Int32 × Ob) := (if (w0.1 13) ≤ y4 then (if (w0.1 33) ≤ (9 : Int32) then j_X7_findStuffs_110 r_5 y1 y2 y3 (w0.1 33) w0 else j_X7_findStuffs_110 r_5 y1 y2 y3 (9 : Int32) w0) else (f_X7_has y2 y4).bind (fun v12 => (if v12 = 0 then j_X7_findStuffs_54 r_5 r_24 y1 y2 y4 (0 : Int32) y3 w0 else (if inb y4 5 = true then j_X7_findStuffs_54 r_5 r_24 y1 y2 y4 (w0.2 14 y4.toNatClampNeg) y3 w0 else none))))
def b_X7_findStuffs_5 (r_5 : Int32 → Int32 → Ob → Option (Int32 × Ob)) (y1 : Int32) (y2 : Int32) (w0 : Ob) : Option (Int32 × Ob) := (if ((1 : Int32) <<< ((w0.1 13) &&& 31)) ≤ y2 then some (y1, w0) else (f_X7_begin w0).bind (fun g7 => fuel3 (b_X7_findStuffs_24 r_5 y1 y2) FU (0 : Int32) (0 : Int32) g7))
def f_X7_findStuffs (z0 : Ob) : Option (Int32 × Ob) := fuel3 (b_X7_findStuffs_5) FU (-9 : Int32) (0 : Int32) z0
abbrev rm_X7_findStuffs : Room := { frames := 8, cells := 0, slots := 0, locals := 176 }
theorem hd_X7_findStuffs : yX7_findStuffs.cls ≠ "java/lang/invoke/MethodHandle" ∧ yX7_findStuffs.cls ≠ "java/lang/invoke/VarHandle" ∧ (parseMethodDescriptor yX7_findStuffs.desc).map (fun d => d.parameters.length) = some 0 := by decide +kernel
theorem in_X7_findStuffs_X7 : ∀ w ∈ wsX70, w ∈ wsX7_findStuffs := fun w h => List.mem_cons_of_mem _ (List.mem_append_right _ h)
set_option maxHeartbeats 4000000 in
set_option maxRecDepth 100000 in
theorem c_X7_findStuffs (l : Launch) (D : va_G) (ty : TY) (h0 : Nat) (a0 : Nat → Nat) (z0 : Ob) (o0 : Int32) (o1 : Ob) (hf : f_X7_findStuffs z0 = some (o0, o1)) (sz : Nat) : CX l yX7_findStuffs wsX7_findStuffs rm_X7_findStuffs ([.ref h0] : List Value) D ty (fl [oX7 ty h0 a0 z0]) sz (qI D o0 (fl [oX7 ty h0 a0 o1])) 0 0 := by
  refine CX_of (cc := cX7_findStuffs) (maxL := 5) (ret := (some .int)) (C := RX7) (by decide) rfl rfl (Nat.le_of_ble_eq_true rfl) ?_
  intro p e s m below meth c A ls F hr hlk _ hK hP hD hS hA hl
  have hx := F.1
  have hb := F.2.1
  replace hl : lv_has ls 5 [(0, .ref h0)] := hl
  unfold f_X7_findStuffs at hf
  refine lv_bipush (v := (-9 : Int32)) hx hb dX7_findStuffs_0 (by decide) ?_
  refine lv_istore_n (lv' := [(1, .int (-9 : Int32)), (0, .ref h0)]) hx hb dX7_findStuffs_2 rfl hl (by decide) rfl (fun ls hl => ?_)
  refine lv_iconst (v := (0 : Int32)) hx hb dX7_findStuffs_3 (by decide) ?_
  refine lv_istore_n (lv' := [(2, .int (0 : Int32)), (1, .int (-9 : Int32)), (0, .ref h0)]) hx hb dX7_findStuffs_4 rfl hl (by decide) rfl (fun ls hl => ?_)
  have L_5 : ∀ (n : Nat) (y1 : Int32) (y2 : Int32) (w0 : Ob) (H : Heap) (locs : List Loc) (ls : Array Slot), va_P D vwC (fl [oX7 ty h0 a0 w0]) H → va_D A (fl [oX7 ty h0 a0 w0]) → va_S A s.heap H locs → lv_has ls 5 [(0, .ref h0), (1, .int y1), (2, .int y2)] → fuel3 (b_X7_findStuffs_5) n y1 y2 w0 = some (o0, o1) → W p l e rm_X7_findStuffs s m ([.ref h0] : List Value).toArray below meth c H locs 0 0 (MQ below (qI D o0 (fl [oX7 ty h0 a0 o1]) A) ([.ref h0] : List Value).toArray s 0 0 A) (F0 m 5 ls []) := by
    intro n
    induction n with
    | zero => intro y1 y2 w0 H locs ls hP hD hS hl hf; cases hf
    | succ n ih_5 =>
      intro y1 y2 w0 H locs ls hP hD hS hl hf
      replace hf : b_X7_findStuffs_5 (fuel3 (b_X7_findStuffs_5) n) y1 y2 w0 = some (o0, o1) := hf
      generalize fuel3 (b_X7_findStuffs_5) n = r_5 at ih_5 hf
      unfold b_X7_findStuffs_5 at hf
      have J_147 : ∀ (y1 : Int32) (y2 : Int32) (w0 : Ob) (H : Heap) (locs : List Loc) (ls : Array Slot), va_P D vwC (fl [oX7 ty h0 a0 w0]) H → va_D A (fl [oX7 ty h0 a0 w0]) → va_S A s.heap H locs → lv_has ls 5 [(0, .ref h0), (1, .int y1), (2, .int y2)] → j_X7_findStuffs_147 r_5 y1 y2 w0 = some (o0, o1) → W p l e rm_X7_findStuffs s m ([.ref h0] : List Value).toArray below meth c H locs 0 0 (MQ below (qI D o0 (fl [oX7 ty h0 a0 o1]) A) ([.ref h0] : List Value).toArray s 0 0 A) (F0 m 147 ls []) := by
        intro y1 y2 w0 H locs ls hP hD hS hl hf
        unfold j_X7_findStuffs_147 at hf
        obtain ⟨x1, ex⟩ : ∃ y : Int32, y = (y2 + (1 : Int32)) := ⟨_, rfl⟩
        replace hf := bnd_at hf ex
        refine lv_iinc (v := x1) (lv' := [(2, .int x1), (0, .ref h0), (1, .int y1)]) hx hb dX7_findStuffs_147 hl (k := 2) rfl (by rw [ex]; rfl) (by decide) rfl (fun ls hl => ?_)
        clear ex
        refine lv_goto (tgt := 5) hx hb dX7_findStuffs_150 (by decide) ?_
        exact ih_5 y1 x1 w0 _ _ _ hP hD hS (lv_sub hl [1, 2, 0] rfl) hf
      have J_124 : ∀ (y1 : Int32) (y2 : Int32) (y3 : Int32) (w0 : Ob) (H : Heap) (locs : List Loc) (ls : Array Slot), va_P D vwC (fl [oX7 ty h0 a0 w0]) H → va_D A (fl [oX7 ty h0 a0 w0]) → va_S A s.heap H locs → lv_has ls 5 [(0, .ref h0), (1, .int y1), (2, .int y2), (3, .int y3)] → j_X7_findStuffs_124 r_5 y1 y2 y3 w0 = some (o0, o1) → W p l e rm_X7_findStuffs s m ([.ref h0] : List Value).toArray below meth c H locs 0 0 (MQ below (qI D o0 (fl [oX7 ty h0 a0 o1]) A) ([.ref h0] : List Value).toArray s 0 0 A) (F0 m 124 ls []) := by
        intro y1 y2 y3 w0 H locs ls hP hD hS hl hf
        unfold j_X7_findStuffs_124 at hf
        refine lv_aload_n hx hb dX7_findStuffs_124 rfl (lv_at hl 0 rfl) ?_
        obtain ⟨v2, g3, hv, hf⟩ := obd2 hf
        have hp1 : List.Perm [oX7 ty h0 a0 w0] ([oX7 ty h0 a0 w0] ++ []) := (List.Perm.refl _)
        refine ci_call (out := v2) (os := [oX7 ty h0 a0 w0]) (oc := [oX7 ty h0 a0 w0]) (oc' := [oX7 ty h0 a0 g3]) (or_ := []) (os' := [oX7 ty h0 a0 g3]) (va_runV (As := []) (rest := []) F (c_X7_goRest l D ty h0 a0 _ _ _ hv _) (cwV 0 F.2.2.2.2 gX7_findStuffs_X7_goRest rfl rfl rfl ⟨rfl, hd_X7_goRest⟩ ⟨Nat.le_of_ble_eq_true rfl, Nat.le_of_ble_eq_true rfl⟩) (pre_v hK hP hD hp1 rfl rfl rfl) rfl rfl hl.1 rfl (lv_room (Nat.le_of_ble_eq_true rfl)) dX7_findStuffs_125 ⟨Nat.zero_le _, Nat.zero_le _⟩) hp1 (List.Perm.refl _) hP hD hS hA (fun H locs hP hD hS => ?_)
        clear hp1 hv
        refine lv_bipush (v := (-9 : Int32)) hx hb dX7_findStuffs_128 (by decide) ?_
        refine lv_icmp_eq (tgt := 147) hx hb dX7_findStuffs_130 (by decide) (fun hc => ?_) (fun hc => ?_)
        · replace hf := ite_t hf hc
          exact J_147 y1 y2 g3 _ _ _ hP hD hS (lv_sub hl [0, 1, 2] rfl) hf
        · replace hf := ite_f hf hc
          refine lv_aload_n hx hb dX7_findStuffs_133 rfl (lv_at hl 0 rfl) ?_
          obtain ⟨v4, hv, hf⟩ := obd hf
          have hp1 : List.Perm [oX7 ty h0 a0 g3] ([oX7 ty h0 a0 g3] ++ []) := (List.Perm.refl _)
          refine ci_call (out := v4) (os := [oX7 ty h0 a0 g3]) (oc := [oX7 ty h0 a0 g3]) (oc' := [oX7 ty h0 a0 g3]) (or_ := []) (os' := [oX7 ty h0 a0 g3]) (va_runV (As := []) (rest := []) F (c_X7_allHear l D ty h0 a0 _ _ hv _) (cwV 0 F.2.2.2.2 gX7_findStuffs_X7_allHear rfl rfl rfl ⟨rfl, hd_X7_allHear⟩ ⟨Nat.le_of_ble_eq_true rfl, Nat.le_of_ble_eq_true rfl⟩) (pre_v hK hP hD hp1 rfl rfl rfl) rfl rfl hl.1 rfl (lv_room (Nat.le_of_ble_eq_true rfl)) dX7_findStuffs_134 ⟨Nat.zero_le _, Nat.zero_le _⟩) hp1 (List.Perm.refl _) hP hD hS hA (fun H locs hP hD hS => ?_)
          clear hp1 hv
          refine lv_if_eq (tgt := 147) hx hb dX7_findStuffs_137 (by decide) (fun hc => ?_) (fun hc => ?_)
          · replace hf := ite_t hf hc
            exact J_147 y1 y2 g3 _ _ _ hP hD hS (lv_sub hl [0, 1, 2] rfl) hf
          · replace hf := ite_f hf hc
            refine lv_iload_n hx hb dX7_findStuffs_140 rfl (lv_at hl 3 rfl) ?_
            refine lv_istore_n (lv' := [(1, .int y3), (0, .ref h0), (2, .int y2), (3, .int y3)]) hx hb dX7_findStuffs_141 rfl hl (by decide) rfl (fun ls hl => ?_)
            refine lv_aload_n hx hb dX7_findStuffs_142 rfl (lv_at hl 1 rfl) ?_
            refine lv_iload_n hx hb dX7_findStuffs_143 rfl (lv_at hl 2 rfl) ?_
            refine pt_put (D := D) (ci := 7) (fty := .int) (C := RX7) (T := TX7) (N := 40) (w1 := fl [oX7 ty h0 a0 (sI g3 36 y2)]) F in_X7_findStuffs_X7 tyX7 tyX7_ok nmX7 hK.1 hP hD hS 0 rfl rfl 36 (Nat.le_of_ble_eq_true rfl) (F.2.2.2.2 (.fieldLink RX7 240 "LouderRoomModel" "stuffSet" "I") (List.mem_of_getElem? (i := 5) rfl)) (fun _ h9 => h9) rfl (by decide +kernel) rfl rfl (Nat.le_of_ble_eq_true rfl) rfl dX7_findStuffs_144 (fun H locs hP hD hS => ?_)
            obtain ⟨g5, ex⟩ : ∃ y : Ob, y = (sI g3 36 y2) := ⟨_, rfl⟩
            replace hf := bnd_at hf ex; rw [← ex] at hP hD; clear ex
            exact J_147 y3 y2 g5 _ _ _ hP hD hS (lv_sub hl [1, 0, 2] rfl) hf
      have J_110 : ∀ (y1 : Int32) (y2 : Int32) (y3 : Int32) (t0 : Int32) (w0 : Ob) (H : Heap) (locs : List Loc) (ls : Array Slot), va_P D vwC (fl [oX7 ty h0 a0 w0]) H → va_D A (fl [oX7 ty h0 a0 w0]) → va_S A s.heap H locs → lv_has ls 5 [(0, .ref h0), (1, .int y1), (2, .int y2), (3, .int y3)] → j_X7_findStuffs_110 r_5 y1 y2 y3 t0 w0 = some (o0, o1) → W p l e rm_X7_findStuffs s m ([.ref h0] : List Value).toArray below meth c H locs 0 0 (MQ below (qI D o0 (fl [oX7 ty h0 a0 o1]) A) ([.ref h0] : List Value).toArray s 0 0 A) (F0 m 110 ls [.int t0, .ref h0]) := by
        intro y1 y2 y3 t0 w0 H locs ls hP hD hS hl hf
        unfold j_X7_findStuffs_110 at hf
        refine pt_put (D := D) (ci := 7) (fty := .int) (C := RX7) (T := TX7) (N := 40) (w1 := fl [oX7 ty h0 a0 (sI w0 33 t0)]) F in_X7_findStuffs_X7 tyX7 tyX7_ok nmX7 hK.1 hP hD hS 0 rfl rfl 33 (Nat.le_of_ble_eq_true rfl) (F.2.2.2.2 (.fieldLink RX7 144 "LouderRoomModel" "eaten" "I") (List.mem_of_getElem? (i := 3) rfl)) (fun _ h9 => h9) rfl (by decide +kernel) rfl rfl (Nat.le_of_ble_eq_true rfl) rfl dX7_findStuffs_110 (fun H locs hP hD hS => ?_)
        obtain ⟨g6, ex⟩ : ∃ y : Ob, y = (sI w0 33 t0) := ⟨_, rfl⟩
        replace hf := bnd_at hf ex; rw [← ex] at hP hD; clear ex
        refine lv_iload_n hx hb dX7_findStuffs_113 rfl (lv_at hl 1 rfl) ?_
        refine lv_bipush (v := (-9 : Int32)) hx hb dX7_findStuffs_114 (by decide) ?_
        refine lv_icmp_eq (tgt := 124) hx hb dX7_findStuffs_116 (by decide) (fun hc => ?_) (fun hc => ?_)
        · replace hf := ite_t hf hc
          exact J_124 y1 y2 y3 g6 _ _ _ hP hD hS (lv_sub hl [0, 1, 2, 3] rfl) hf
        · replace hf := ite_f hf hc
          refine lv_iload_n hx hb dX7_findStuffs_119 rfl (lv_at hl 3 rfl) ?_
          refine lv_iload_n hx hb dX7_findStuffs_120 rfl (lv_at hl 1 rfl) ?_
          refine lv_icmp_ge (tgt := 147) hx hb dX7_findStuffs_121 (by decide) (fun hc => ?_) (fun hc => ?_)
          · replace hf := ite_t hf hc
            exact J_147 y1 y2 g6 _ _ _ hP hD hS (lv_sub hl [0, 1, 2] rfl) hf
          · replace hf := ite_f hf hc
            exact J_124 y1 y2 y3 g6 _ _ _ hP hD hS (lv_sub hl [0, 1, 2, 3] rfl) hf
      refine lv_iload_n hx hb dX7_findStuffs_5 rfl (lv_at hl 2 rfl) ?_
      refine lv_iconst (v := (1 : Int32)) hx hb dX7_findStuffs_6 (by decide) ?_
      refine lv_aload_n hx hb dX7_findStuffs_7 rfl (lv_at hl 0 rfl) ?_
      refine va_get (D := D) (ci := 7) (C := RX7) (T := TX7) (N := 40) hx hb F.2.2.2.2 in_X7_findStuffs_X7 F.2.2.2.1 hK.1 hP 0 rfl rfl 13 (Nat.le_of_ble_eq_true rfl) (F.2.2.2.2 (.fieldLink RX7 122 "LouderRoomModel" "stuffs" "I") (List.mem_of_getElem? (i := 1) rfl)) (fun _ h9 => h9) rfl dX7_findStuffs_8 ?_
      refine lv_ishl hx hb dX7_findStuffs_11 ?_
      refine lv_icmp_ge (tgt := 153) hx hb dX7_findStuffs_12 (by decide) (fun hc => ?_) (fun hc => ?_)
      · replace hf := ite_t hf hc
        refine lv_iload_n hx hb dX7_findStuffs_153 rfl (lv_at hl 1 rfl) ?_
        obtain hf := hf
        obtain ⟨e0, e1⟩ := tup2 hf
        rw [e1] at hP hD
        exact CX_i F hr hlk hP hD hS e0 dX7_findStuffs_154
      · replace hf := ite_f hf hc
        refine lv_iconst (v := (0 : Int32)) hx hb dX7_findStuffs_15 (by decide) ?_
        refine lv_istore_n (lv' := [(3, .int (0 : Int32)), (0, .ref h0), (1, .int y1), (2, .int y2)]) hx hb dX7_findStuffs_16 rfl hl (by decide) rfl (fun ls hl => ?_)
        refine lv_aload_n hx hb dX7_findStuffs_17 rfl (lv_at hl 1 rfl) ?_
        obtain ⟨g7, hv, hf⟩ := obd hf
        have hp1 : List.Perm [oX7 ty h0 a0 w0] ([oX7 ty h0 a0 w0] ++ []) := (List.Perm.refl _)
        refine cv_call (os := [oX7 ty h0 a0 w0]) (oc := [oX7 ty h0 a0 w0]) (oc' := [oX7 ty h0 a0 g7]) (or_ := []) (os' := [oX7 ty h0 a0 g7]) (va_runV (As := []) (rest := []) F (c_X7_begin l D ty h0 a0 _ _ hv _) (cwV 0 F.2.2.2.2 gX7_findStuffs_X7_begin rfl rfl rfl ⟨rfl, hd_X7_begin⟩ ⟨Nat.le_of_ble_eq_true rfl, Nat.le_of_ble_eq_true rfl⟩) (pre_v hK hP hD hp1 rfl rfl rfl) rfl rfl hl.1 rfl (lv_room (Nat.le_of_ble_eq_true rfl)) dX7_findStuffs_18 ⟨Nat.zero_le _, Nat.zero_le _⟩) hp1 (List.Perm.refl _) hP hD hS hA (fun H locs hP hD hS => ?_)
        clear hp1 hv
        refine lv_iconst (v := (0 : Int32)) hx hb dX7_findStuffs_21 (by decide) ?_
        refine lv_istore (lv' := [(4, .int (0 : Int32)), (3, .int (0 : Int32)), (0, .ref h0), (1, .int y1), (2, .int y2)]) hx hb dX7_findStuffs_22 hl (by decide) rfl (fun ls hl => ?_)
        have L_24 : ∀ (y1 : Int32) (y2 : Int32) (n : Nat) (y3 : Int32) (y4 : Int32) (w0 : Ob) (H : Heap) (locs : List Loc) (ls : Array Slot), va_P D vwC (fl [oX7 ty h0 a0 w0]) H → va_D A (fl [oX7 ty h0 a0 w0]) → va_S A s.heap H locs → lv_has ls 5 [(0, .ref h0), (1, .int y1), (2, .int y2), (3, .int y3), (4, .int y4)] → fuel3 (b_X7_findStuffs_24 r_5 y1 y2) n y3 y4 w0 = some (o0, o1) → W p l e rm_X7_findStuffs s m ([.ref h0] : List Value).toArray below meth c H locs 0 0 (MQ below (qI D o0 (fl [oX7 ty h0 a0 o1]) A) ([.ref h0] : List Value).toArray s 0 0 A) (F0 m 24 ls []) := by
          intro y1 y2 n
          induction n with
          | zero => intro y3 y4 w0 H locs ls hP hD hS hl hf; cases hf
          | succ n ih_24 =>
            intro y3 y4 w0 H locs ls hP hD hS hl hf
            replace hf : b_X7_findStuffs_24 r_5 y1 y2 (fuel3 (b_X7_findStuffs_24 r_5 y1 y2) n) y3 y4 w0 = some (o0, o1) := hf
            generalize fuel3 (b_X7_findStuffs_24 r_5 y1 y2) n = r_24 at ih_24 hf
            unfold b_X7_findStuffs_24 at hf
            have J_81 : ∀ (y3 : Int32) (y4 : Int32) (t0 : Int32) (t1 : Int32) (w0 : Ob) (H : Heap) (locs : List Loc) (ls : Array Slot), va_P D vwC (fl [oX7 ty h0 a0 w0]) H → va_D A (fl [oX7 ty h0 a0 w0]) → va_S A s.heap H locs → lv_has ls 5 [(0, .ref h0), (1, .int y1), (2, .int y2), (3, .int y3), (4, .int y4)] → j_X7_findStuffs_81 r_5 r_24 y1 y2 y3 y4 t0 t1 w0 = some (o0, o1) → W p l e rm_X7_findStuffs s m ([.ref h0] : List Value).toArray below meth c H locs 0 0 (MQ below (qI D o0 (fl [oX7 ty h0 a0 o1]) A) ([.ref h0] : List Value).toArray s 0 0 A) (F0 m 81 ls [.int t0, .int t1, .ref h0]) := by
              intro y3 y4 t0 t1 w0 H locs ls hP hD hS hl hf
              unfold j_X7_findStuffs_81 at hf
              refine lv_iadd hx hb dX7_findStuffs_81 ?_
              refine pt_put (D := D) (ci := 7) (fty := .int) (C := RX7) (T := TX7) (N := 40) (w1 := fl [oX7 ty h0 a0 (sI w0 33 (t1 + t0))]) F in_X7_findStuffs_X7 tyX7 tyX7_ok nmX7 hK.1 hP hD hS 0 rfl rfl 33 (Nat.le_of_ble_eq_true rfl) (F.2.2.2.2 (.fieldLink RX7 144 "LouderRoomModel" "eaten" "I") (List.mem_of_getElem? (i := 3) rfl)) (fun _ h9 => h9) rfl (by decide +kernel) rfl rfl (Nat.le_of_ble_eq_true rfl) rfl dX7_findStuffs_82 (fun H locs hP hD hS => ?_)
              obtain ⟨g8, ex⟩ : ∃ y : Ob, y = (sI w0 33 (t1 + t0)) := ⟨_, rfl⟩
              replace hf := bnd_at hf ex; rw [← ex] at hP hD; clear ex
              obtain ⟨x9, ex⟩ : ∃ y : Int32, y = (y4 + (1 : Int32)) := ⟨_, rfl⟩
              replace hf := bnd_at hf ex
              refine lv_iinc (v := x9) (lv' := [(4, .int x9), (0, .ref h0), (1, .int y1), (2, .int y2), (3, .int y3)]) hx hb dX7_findStuffs_85 hl (k := 4) rfl (by rw [ex]; rfl) (by decide) rfl (fun ls hl => ?_)
              clear ex
              refine lv_goto (tgt := 24) hx hb dX7_findStuffs_88 (by decide) ?_
              exact ih_24 y3 x9 g8 _ _ _ hP hD hS (lv_sub hl [1, 2, 3, 4, 0] rfl) hf
            have J_54 : ∀ (y4 : Int32) (t0 : Int32) (t1 : Int32) (w0 : Ob) (H : Heap) (locs : List Loc) (ls : Array Slot), va_P D vwC (fl [oX7 ty h0 a0 w0]) H → va_D A (fl [oX7 ty h0 a0 w0]) → va_S A s.heap H locs → lv_has ls 5 [(0, .ref h0), (1, .int y1), (2, .int y2), (4, .int y4)] → j_X7_findStuffs_54 r_5 r_24 y1 y2 y4 t0 t1 w0 = some (o0, o1) → W p l e rm_X7_findStuffs s m ([.ref h0] : List Value).toArray below meth c H locs 0 0 (MQ below (qI D o0 (fl [oX7 ty h0 a0 o1]) A) ([.ref h0] : List Value).toArray s 0 0 A) (F0 m 54 ls [.int t0, .int t1]) := by
              intro y4 t0 t1 w0 H locs ls hP hD hS hl hf
              unfold j_X7_findStuffs_54 at hf
              refine lv_iadd hx hb dX7_findStuffs_54 ?_
              refine lv_topi (fun x10 ex => ?_)
              replace hf := bnd_at hf ex; clear ex
              refine lv_istore_n (lv' := [(3, .int x10), (0, .ref h0), (1, .int y1), (2, .int y2), (4, .int y4)]) hx hb dX7_findStuffs_55 rfl hl (by decide) rfl (fun ls hl => ?_)
              refine lv_aload_n hx hb dX7_findStuffs_56 rfl (lv_at hl 1 rfl) ?_
              refine lv_dup hx hb dX7_findStuffs_57 rfl ?_
              refine va_get (D := D) (ci := 7) (C := RX7) (T := TX7) (N := 40) hx hb F.2.2.2.2 in_X7_findStuffs_X7 F.2.2.2.1 hK.1 hP 0 rfl rfl 33 (Nat.le_of_ble_eq_true rfl) (F.2.2.2.2 (.fieldLink RX7 144 "LouderRoomModel" "eaten" "I") (List.mem_of_getElem? (i := 3) rfl)) (fun _ h9 => h9) rfl dX7_findStuffs_58 ?_
              refine lv_iload_n hx hb dX7_findStuffs_61 rfl (lv_at hl 3 rfl) ?_
              refine lv_iload hx hb dX7_findStuffs_62 (lv_at hl 4 rfl) ?_
              obtain ⟨v11, hv, hf⟩ := obd hf
              have hp1 : List.Perm [oX7 ty h0 a0 w0] ([] ++ [oX7 ty h0 a0 w0]) := (List.Perm.refl _)
              refine ci_call (out := v11) (os := [oX7 ty h0 a0 w0]) (oc := []) (oc' := []) (or_ := [oX7 ty h0 a0 w0]) (os' := [oX7 ty h0 a0 w0]) (va_runS (As := [.int y2, .int y4]) (rest := [.int (w0.1 33), .ref h0]) F (c_X7_has l D ty _ _ _ hv _) (va_cwS 2 F.2.2.2.2 gX7_findStuffs_X7_has rfl rfl rfl hd_X7_has ⟨Nat.le_of_ble_eq_true rfl, Nat.le_of_ble_eq_true rfl⟩) (pre_s hK hP hD hp1) rfl rfl hl.1 rfl (lv_room (Nat.le_of_ble_eq_true rfl)) dX7_findStuffs_64 ⟨Nat.zero_le _, Nat.zero_le _⟩) hp1 (List.Perm.refl _) hP hD hS hA (fun H locs hP hD hS => ?_)
              clear hp1 hv
              refine lv_if_eq (tgt := 80) hx hb dX7_findStuffs_67 (by decide) (fun hc => ?_) (fun hc => ?_)
              · replace hf := ite_t hf hc
                refine lv_iconst (v := (0 : Int32)) hx hb dX7_findStuffs_80 (by decide) ?_
                exact J_81 x10 y4 (0 : Int32) (w0.1 33) w0 _ _ _ hP hD hS (lv_sub hl [1, 2, 3, 0, 4] rfl) hf
              · replace hf := ite_f hf hc
                refine lv_aload_n hx hb dX7_findStuffs_70 rfl (lv_at hl 1 rfl) ?_
                refine va_get (D := D) (ci := 7) (C := RX7) (T := TX7) (N := 40) hx hb F.2.2.2.2 in_X7_findStuffs_X7 F.2.2.2.1 hK.1 hP 0 rfl rfl 15 (Nat.le_of_ble_eq_true rfl) (F.2.2.2.2 (.fieldLink RX7 31 "LouderRoomModel" "more" "[I") (List.mem_of_getElem? (i := 4) rfl)) (fun _ h9 => h9) rfl dX7_findStuffs_71 ?_
                refine lv_iload hx hb dX7_findStuffs_74 (lv_at hl 4 rfl) ?_
                obtain ⟨hi, hf⟩ := grd hf
                refine va_iald hx hb hK.1 hP 8 0 rfl rfl (inb_in hi) dX7_findStuffs_76 ?_
                refine lv_goto (tgt := 81) hx hb dX7_findStuffs_77 (by decide) ?_
                exact J_81 x10 y4 (w0.2 15 y4.toNatClampNeg) (w0.1 33) w0 _ _ _ hP hD hS (lv_sub hl [1, 2, 3, 0, 4] rfl) hf
            refine lv_iload hx hb dX7_findStuffs_24 (lv_at hl 4 rfl) ?_
            refine lv_aload_n hx hb dX7_findStuffs_26 rfl (lv_at hl 0 rfl) ?_
            refine va_get (D := D) (ci := 7) (C := RX7) (T := TX7) (N := 40) hx hb F.2.2.2.2 in_X7_findStuffs_X7 F.2.2.2.1 hK.1 hP 0 rfl rfl 13 (Nat.le_of_ble_eq_true rfl) (F.2.2.2.2 (.fieldLink RX7 122 "LouderRoomModel" "stuffs" "I") (List.mem_of_getElem? (i := 1) rfl)) (fun _ h9 => h9) rfl dX7_findStuffs_27 ?_
            refine lv_icmp_ge (tgt := 91) hx hb dX7_findStuffs_30 (by decide) (fun hc => ?_) (fun hc => ?_)
            · replace hf := ite_t hf hc
              refine lv_aload_n hx hb dX7_findStuffs_91 rfl (lv_at hl 0 rfl) ?_
              refine lv_aload_n hx hb dX7_findStuffs_92 rfl (lv_at hl 0 rfl) ?_
              refine va_get (D := D) (ci := 7) (C := RX7) (T := TX7) (N := 40) hx hb F.2.2.2.2 in_X7_findStuffs_X7 F.2.2.2.1 hK.1 hP 0 rfl rfl 33 (Nat.le_of_ble_eq_true rfl) (F.2.2.2.2 (.fieldLink RX7 144 "LouderRoomModel" "eaten" "I") (List.mem_of_getElem? (i := 3) rfl)) (fun _ h9 => h9) rfl dX7_findStuffs_93 ?_
              refine lv_bipush (v := (9 : Int32)) hx hb dX7_findStuffs_96 (by decide) ?_
              refine lv_icmp_le (tgt := 106) hx hb dX7_findStuffs_98 (by decide) (fun hc => ?_) (fun hc => ?_)
              · replace hf := ite_t hf hc
                refine lv_aload_n hx hb dX7_findStuffs_106 rfl (lv_at hl 0 rfl) ?_
                refine va_get (D := D) (ci := 7) (C := RX7) (T := TX7) (N := 40) hx hb F.2.2.2.2 in_X7_findStuffs_X7 F.2.2.2.1 hK.1 hP 0 rfl rfl 33 (Nat.le_of_ble_eq_true rfl) (F.2.2.2.2 (.fieldLink RX7 144 "LouderRoomModel" "eaten" "I") (List.mem_of_getElem? (i := 3) rfl)) (fun _ h9 => h9) rfl dX7_findStuffs_107 ?_
                exact J_110 y1 y2 y3 (w0.1 33) w0 _ _ _ hP hD hS (lv_sub hl [0, 1, 2, 3] rfl) hf
              · replace hf := ite_f hf hc
                refine lv_bipush (v := (9 : Int32)) hx hb dX7_findStuffs_101 (by decide) ?_
                refine lv_goto (tgt := 110) hx hb dX7_findStuffs_103 (by decide) ?_
                exact J_110 y1 y2 y3 (9 : Int32) w0 _ _ _ hP hD hS (lv_sub hl [0, 1, 2, 3] rfl) hf
            · replace hf := ite_f hf hc
              refine lv_iload_n hx hb dX7_findStuffs_33 rfl (lv_at hl 3 rfl) ?_
              refine lv_iload_n hx hb dX7_findStuffs_34 rfl (lv_at hl 2 rfl) ?_
              refine lv_iload hx hb dX7_findStuffs_35 (lv_at hl 4 rfl) ?_
              obtain ⟨v12, hv, hf⟩ := obd hf
              have hp1 : List.Perm [oX7 ty h0 a0 w0] ([] ++ [oX7 ty h0 a0 w0]) := (List.Perm.refl _)
              refine ci_call (out := v12) (os := [oX7 ty h0 a0 w0]) (oc := []) (oc' := []) (or_ := [oX7 ty h0 a0 w0]) (os' := [oX7 ty h0 a0 w0]) (va_runS (As := [.int y2, .int y4]) (rest := [.int y3]) F (c_X7_has l D ty _ _ _ hv _) (va_cwS 2 F.2.2.2.2 gX7_findStuffs_X7_has rfl rfl rfl hd_X7_has ⟨Nat.le_of_ble_eq_true rfl, Nat.le_of_ble_eq_true rfl⟩) (pre_s hK hP hD hp1) rfl rfl hl.1 rfl (lv_room (Nat.le_of_ble_eq_true rfl)) dX7_findStuffs_37 ⟨Nat.zero_le _, Nat.zero_le _⟩) hp1 (List.Perm.refl _) hP hD hS hA (fun H locs hP hD hS => ?_)
              clear hp1 hv
              refine lv_if_eq (tgt := 53) hx hb dX7_findStuffs_40 (by decide) (fun hc => ?_) (fun hc => ?_)
              · replace hf := ite_t hf hc
                refine lv_iconst (v := (0 : Int32)) hx hb dX7_findStuffs_53 (by decide) ?_
                exact J_54 y4 (0 : Int32) y3 w0 _ _ _ hP hD hS (lv_sub hl [0, 1, 2, 4] rfl) hf
              · replace hf := ite_f hf hc
                refine lv_aload_n hx hb dX7_findStuffs_43 rfl (lv_at hl 0 rfl) ?_
                refine va_get (D := D) (ci := 7) (C := RX7) (T := TX7) (N := 40) hx hb F.2.2.2.2 in_X7_findStuffs_X7 F.2.2.2.1 hK.1 hP 0 rfl rfl 14 (Nat.le_of_ble_eq_true rfl) (F.2.2.2.2 (.fieldLink RX7 28 "LouderRoomModel" "cost" "[I") (List.mem_of_getElem? (i := 2) rfl)) (fun _ h9 => h9) rfl dX7_findStuffs_44 ?_
                refine lv_iload hx hb dX7_findStuffs_47 (lv_at hl 4 rfl) ?_
                obtain ⟨hi, hf⟩ := grd hf
                refine va_iald hx hb hK.1 hP 7 0 rfl rfl (inb_in hi) dX7_findStuffs_49 ?_
                refine lv_goto (tgt := 54) hx hb dX7_findStuffs_50 (by decide) ?_
                exact J_54 y4 (w0.2 14 y4.toNatClampNeg) y3 w0 _ _ _ hP hD hS (lv_sub hl [0, 1, 2, 4] rfl) hf
        exact L_24 y1 y2 FU (0 : Int32) (0 : Int32) g7 _ _ _ hP hD hS (lv_sub hl [2, 3, 4, 1, 0] rfl) hf
  exact L_5 FU (-9 : Int32) (0 : Int32) z0 _ _ _ hP hD hS (lv_sub hl [2, 1, 0] rfl) hf
def j_X7_stuffs_20 (p1 : Int32) (y2 : Int32) (w0 : Ob) : Option (Int32 × Ob) := some (y2, w0)
def f_X7_stuffs (z0 : Ob) (p1 : Int32) : Option (Int32 × Ob) := bnd (sI z0 0 (0 : Int32)) (fun g1 => bd2 (f_X7_findStuffs g1) (fun v2 g3 => (if v2 = (-9 : Int32) then j_X7_stuffs_20 p1 v2 g3 else (if p1 = 0 then j_X7_stuffs_20 p1 v2 g3 else some ((g3.1 36), g3)))))
abbrev rm_X7_stuffs : Room := { frames := 9, cells := 0, slots := 0, locals := 200 }
theorem hd_X7_stuffs : yX7_stuffs.cls ≠ "java/lang/invoke/MethodHandle" ∧ yX7_stuffs.cls ≠ "java/lang/invoke/VarHandle" ∧ (parseMethodDescriptor yX7_stuffs.desc).map (fun d => d.parameters.length) = some 1 := by decide +kernel
theorem in_X7_stuffs_X7 : ∀ w ∈ wsX70, w ∈ wsX7_stuffs := fun w h => List.mem_cons_of_mem _ (List.mem_append_right _ h)
set_option maxHeartbeats 4000000 in
set_option maxRecDepth 100000 in
theorem c_X7_stuffs (l : Launch) (D : va_G) (ty : TY) (h0 : Nat) (a0 : Nat → Nat) (z0 : Ob) (p1 : Int32) (o0 : Int32) (o1 : Ob) (hf : f_X7_stuffs z0 p1 = some (o0, o1)) (sz : Nat) : CX l yX7_stuffs wsX7_stuffs rm_X7_stuffs ([.ref h0, .int p1] : List Value) D ty (fl [oX7 ty h0 a0 z0]) sz (qI D o0 (fl [oX7 ty h0 a0 o1])) 0 0 := by
  refine CX_of (cc := cX7_stuffs) (maxL := 3) (ret := (some .int)) (C := RX7) (by decide) rfl rfl (Nat.le_of_ble_eq_true rfl) ?_
  intro p e s m below meth c A ls F hr hlk _ hK hP hD hS hA hl
  have hx := F.1
  have hb := F.2.1
  replace hl : lv_has ls 3 [(0, .ref h0), (1, .int p1)] := hl
  unfold f_X7_stuffs at hf
  have J_20 : ∀ (y2 : Int32) (w0 : Ob) (H : Heap) (locs : List Loc) (ls : Array Slot), va_P D vwC (fl [oX7 ty h0 a0 w0]) H → va_D A (fl [oX7 ty h0 a0 w0]) → va_S A s.heap H locs → lv_has ls 3 [(2, .int y2)] → j_X7_stuffs_20 p1 y2 w0 = some (o0, o1) → W p l e rm_X7_stuffs s m ([.ref h0, .int p1] : List Value).toArray below meth c H locs 0 0 (MQ below (qI D o0 (fl [oX7 ty h0 a0 o1]) A) ([.ref h0, .int p1] : List Value).toArray s 0 0 A) (F0 m 20 ls []) := by
    intro y2 w0 H locs ls hP hD hS hl hf
    unfold j_X7_stuffs_20 at hf
    refine lv_iload_n hx hb dX7_stuffs_20 rfl (lv_at hl 0 rfl) ?_
    refine lv_goto (tgt := 28) hx hb dX7_stuffs_21 (by decide) ?_
    obtain hf := hf
    obtain ⟨e0, e1⟩ := tup2 hf
    rw [e1] at hP hD
    exact CX_i F hr hlk hP hD hS e0 dX7_stuffs_28
  refine lv_aload_n hx hb dX7_stuffs_0 rfl (lv_at hl 0 rfl) ?_
  refine lv_iconst (v := (0 : Int32)) hx hb dX7_stuffs_1 (by decide) ?_
  refine pt_put (D := D) (ci := 7) (fty := .int) (C := RX7) (T := TX7) (N := 40) (w1 := fl [oX7 ty h0 a0 (sI z0 0 (0 : Int32))]) F in_X7_stuffs_X7 tyX7 tyX7_ok nmX7 hK.1 hP hD hS 0 rfl rfl 0 (Nat.le_of_ble_eq_true rfl) (F.2.2.2.2 (.fieldLink RX7 71 "LouderRoomModel" "thrown" "I") (List.mem_of_getElem? (i := 1) rfl)) (fun _ h9 => h9) rfl (by decide +kernel) rfl rfl (Nat.le_of_ble_eq_true rfl) rfl dX7_stuffs_2 (fun H locs hP hD hS => ?_)
  obtain ⟨g1, ex⟩ : ∃ y : Ob, y = (sI z0 0 (0 : Int32)) := ⟨_, rfl⟩
  replace hf := bnd_at hf ex; rw [← ex] at hP hD; clear ex
  refine lv_aload_n hx hb dX7_stuffs_5 rfl (lv_at hl 0 rfl) ?_
  obtain ⟨v2, g3, hv, hf⟩ := obd2 hf
  have hp1 : List.Perm [oX7 ty h0 a0 g1] ([oX7 ty h0 a0 g1] ++ []) := (List.Perm.refl _)
  refine ci_call (out := v2) (os := [oX7 ty h0 a0 g1]) (oc := [oX7 ty h0 a0 g1]) (oc' := [oX7 ty h0 a0 g3]) (or_ := []) (os' := [oX7 ty h0 a0 g3]) (va_runV (As := []) (rest := []) F (c_X7_findStuffs l D ty h0 a0 _ _ _ hv _) (cwV 0 F.2.2.2.2 gX7_stuffs_X7_findStuffs rfl rfl rfl ⟨rfl, hd_X7_findStuffs⟩ ⟨Nat.le_of_ble_eq_true rfl, Nat.le_of_ble_eq_true rfl⟩) (pre_v hK hP hD hp1 rfl rfl rfl) rfl rfl hl.1 rfl (lv_room (Nat.le_of_ble_eq_true rfl)) dX7_stuffs_6 ⟨Nat.zero_le _, Nat.zero_le _⟩) hp1 (List.Perm.refl _) hP hD hS hA (fun H locs hP hD hS => ?_)
  clear hp1 hv
  refine lv_istore_n (lv' := [(2, .int v2), (0, .ref h0), (1, .int p1)]) hx hb dX7_stuffs_9 rfl hl (by decide) rfl (fun ls hl => ?_)
  refine lv_iload_n hx hb dX7_stuffs_10 rfl (lv_at hl 0 rfl) ?_
  refine lv_bipush (v := (-9 : Int32)) hx hb dX7_stuffs_11 (by decide) ?_
  refine lv_icmp_eq (tgt := 20) hx hb dX7_stuffs_13 (by decide) (fun hc => ?_) (fun hc => ?_)
  · replace hf := ite_t hf hc
    exact J_20 v2 g3 _ _ _ hP hD hS (lv_sub hl [0] rfl) hf
  · replace hf := ite_f hf hc
    refine lv_iload_n hx hb dX7_stuffs_16 rfl (lv_at hl 2 rfl) ?_
    refine lv_if_ne (tgt := 24) hx hb dX7_stuffs_17 (by decide) (fun hc => ?_) (fun hc => ?_)
    · replace hf := ite_f hf hc
      refine lv_aload_n hx hb dX7_stuffs_24 rfl (lv_at hl 1 rfl) ?_
      refine va_get (D := D) (ci := 7) (C := RX7) (T := TX7) (N := 40) hx hb F.2.2.2.2 in_X7_stuffs_X7 F.2.2.2.1 hK.1 hP 0 rfl rfl 36 (Nat.le_of_ble_eq_true rfl) (F.2.2.2.2 (.fieldLink RX7 240 "LouderRoomModel" "stuffSet" "I") (List.mem_of_getElem? (i := 2) rfl)) (fun _ h9 => h9) rfl dX7_stuffs_25 ?_
      obtain hf := hf
      obtain ⟨e0, e1⟩ := tup2 hf
      rw [e1] at hP hD
      exact CX_i F hr hlk hP hD hS e0 dX7_stuffs_28
    · replace hf := ite_t hf hc
      exact J_20 v2 g3 _ _ _ hP hD hS (lv_sub hl [0] rfl) hf
def j_X7_loudest_44 (r_8 : Int32 → Ob → Option (Int32 × Ob)) (y1 : Int32) (w0 : Ob) : Option (Int32 × Ob) := bnd (y1 + (-1 : Int32)) (fun x2 => r_8 x2 w0)
def b_X7_loudest_8 (r_8 : Int32 → Ob → Option (Int32 × Ob)) (y1 : Int32) (w0 : Ob) : Option (Int32 × Ob) := (if y1 < 0 then some ((-9 : Int32), w0) else (f_X7_begin w0).bind (fun g3 => bnd (sI g3 31 y1) (fun g4 => bnd (sI g4 35 (0 : Int32)) (fun g5 => bd2 (f_X7_goRest g5) (fun v6 g7 => (if v6 = (-9 : Int32) then j_X7_loudest_44 r_8 y1 g7 else (f_X7_allHear g7).bind (fun v8 => (if v8 = 0 then j_X7_loudest_44 r_8 y1 g7 else some (y1, g7)))))))))
def f_X7_loudest (z0 : Ob) : Option (Int32 × Ob) := bnd (sI z0 0 (0 : Int32)) (fun g1 => fuel2 (b_X7_loudest_8) FU (9 : Int32) g1)
abbrev rm_X7_loudest : Room := { frames := 8, cells := 0, slots := 0, locals := 176 }
theorem hd_X7_loudest : yX7_loudest.cls ≠ "java/lang/invoke/MethodHandle" ∧ yX7_loudest.cls ≠ "java/lang/invoke/VarHandle" ∧ (parseMethodDescriptor yX7_loudest.desc).map (fun d => d.parameters.length) = some 0 := by decide +kernel
theorem in_X7_loudest_X7 : ∀ w ∈ wsX70, w ∈ wsX7_loudest := fun w h => List.mem_cons_of_mem _ (List.mem_append_right _ h)
set_option maxHeartbeats 4000000 in
set_option maxRecDepth 100000 in
theorem c_X7_loudest (l : Launch) (D : va_G) (ty : TY) (h0 : Nat) (a0 : Nat → Nat) (z0 : Ob) (o0 : Int32) (o1 : Ob) (hf : f_X7_loudest z0 = some (o0, o1)) (sz : Nat) : CX l yX7_loudest wsX7_loudest rm_X7_loudest ([.ref h0] : List Value) D ty (fl [oX7 ty h0 a0 z0]) sz (qI D o0 (fl [oX7 ty h0 a0 o1])) 0 0 := by
  refine CX_of (cc := cX7_loudest) (maxL := 2) (ret := (some .int)) (C := RX7) (by decide) rfl rfl (Nat.le_of_ble_eq_true rfl) ?_
  intro p e s m below meth c A ls F hr hlk _ hK hP hD hS hA hl
  have hx := F.1
  have hb := F.2.1
  replace hl : lv_has ls 2 [(0, .ref h0)] := hl
  unfold f_X7_loudest at hf
  refine lv_aload_n hx hb dX7_loudest_0 rfl (lv_at hl 0 rfl) ?_
  refine lv_iconst (v := (0 : Int32)) hx hb dX7_loudest_1 (by decide) ?_
  refine pt_put (D := D) (ci := 7) (fty := .int) (C := RX7) (T := TX7) (N := 40) (w1 := fl [oX7 ty h0 a0 (sI z0 0 (0 : Int32))]) F in_X7_loudest_X7 tyX7 tyX7_ok nmX7 hK.1 hP hD hS 0 rfl rfl 0 (Nat.le_of_ble_eq_true rfl) (F.2.2.2.2 (.fieldLink RX7 71 "LouderRoomModel" "thrown" "I") (List.mem_of_getElem? (i := 1) rfl)) (fun _ h9 => h9) rfl (by decide +kernel) rfl rfl (Nat.le_of_ble_eq_true rfl) rfl dX7_loudest_2 (fun H locs hP hD hS => ?_)
  obtain ⟨g1, ex⟩ : ∃ y : Ob, y = (sI z0 0 (0 : Int32)) := ⟨_, rfl⟩
  replace hf := bnd_at hf ex; rw [← ex] at hP hD; clear ex
  refine lv_bipush (v := (9 : Int32)) hx hb dX7_loudest_5 (by decide) ?_
  refine lv_istore_n (lv' := [(1, .int (9 : Int32)), (0, .ref h0)]) hx hb dX7_loudest_7 rfl hl (by decide) rfl (fun ls hl => ?_)
  have L_8 : ∀ (n : Nat) (y1 : Int32) (w0 : Ob) (H : Heap) (locs : List Loc) (ls : Array Slot), va_P D vwC (fl [oX7 ty h0 a0 w0]) H → va_D A (fl [oX7 ty h0 a0 w0]) → va_S A s.heap H locs → lv_has ls 2 [(0, .ref h0), (1, .int y1)] → fuel2 (b_X7_loudest_8) n y1 w0 = some (o0, o1) → W p l e rm_X7_loudest s m ([.ref h0] : List Value).toArray below meth c H locs 0 0 (MQ below (qI D o0 (fl [oX7 ty h0 a0 o1]) A) ([.ref h0] : List Value).toArray s 0 0 A) (F0 m 8 ls []) := by
    intro n
    induction n with
    | zero => intro y1 w0 H locs ls hP hD hS hl hf; cases hf
    | succ n ih_8 =>
      intro y1 w0 H locs ls hP hD hS hl hf
      replace hf : b_X7_loudest_8 (fuel2 (b_X7_loudest_8) n) y1 w0 = some (o0, o1) := hf
      generalize fuel2 (b_X7_loudest_8) n = r_8 at ih_8 hf
      unfold b_X7_loudest_8 at hf
      have J_44 : ∀ (y1 : Int32) (w0 : Ob) (H : Heap) (locs : List Loc) (ls : Array Slot), va_P D vwC (fl [oX7 ty h0 a0 w0]) H → va_D A (fl [oX7 ty h0 a0 w0]) → va_S A s.heap H locs → lv_has ls 2 [(0, .ref h0), (1, .int y1)] → j_X7_loudest_44 r_8 y1 w0 = some (o0, o1) → W p l e rm_X7_loudest s m ([.ref h0] : List Value).toArray below meth c H locs 0 0 (MQ below (qI D o0 (fl [oX7 ty h0 a0 o1]) A) ([.ref h0] : List Value).toArray s 0 0 A) (F0 m 44 ls []) := by
        intro y1 w0 H locs ls hP hD hS hl hf
        unfold j_X7_loudest_44 at hf
        obtain ⟨x2, ex⟩ : ∃ y : Int32, y = (y1 + (-1 : Int32)) := ⟨_, rfl⟩
        replace hf := bnd_at hf ex
        refine lv_iinc (v := x2) (lv' := [(1, .int x2), (0, .ref h0)]) hx hb dX7_loudest_44 hl (k := 1) rfl (by rw [ex]; rfl) (by decide) rfl (fun ls hl => ?_)
        clear ex
        refine lv_goto (tgt := 8) hx hb dX7_loudest_47 (by decide) ?_
        exact ih_8 x2 w0 _ _ _ hP hD hS (lv_sub hl [1, 0] rfl) hf
      refine lv_iload_n hx hb dX7_loudest_8 rfl (lv_at hl 1 rfl) ?_
      refine lv_if_lt (tgt := 50) hx hb dX7_loudest_9 (by decide) (fun hc => ?_) (fun hc => ?_)
      · replace hf := ite_t hf hc
        refine lv_bipush (v := (-9 : Int32)) hx hb dX7_loudest_50 (by decide) ?_
        obtain hf := hf
        obtain ⟨e0, e1⟩ := tup2 hf
        rw [e1] at hP hD
        exact CX_i F hr hlk hP hD hS e0 dX7_loudest_52
      · replace hf := ite_f hf hc
        refine lv_aload_n hx hb dX7_loudest_12 rfl (lv_at hl 0 rfl) ?_
        obtain ⟨g3, hv, hf⟩ := obd hf
        have hp1 : List.Perm [oX7 ty h0 a0 w0] ([oX7 ty h0 a0 w0] ++ []) := (List.Perm.refl _)
        refine cv_call (os := [oX7 ty h0 a0 w0]) (oc := [oX7 ty h0 a0 w0]) (oc' := [oX7 ty h0 a0 g3]) (or_ := []) (os' := [oX7 ty h0 a0 g3]) (va_runV (As := []) (rest := []) F (c_X7_begin l D ty h0 a0 _ _ hv _) (cwV 0 F.2.2.2.2 gX7_loudest_X7_begin rfl rfl rfl ⟨rfl, hd_X7_begin⟩ ⟨Nat.le_of_ble_eq_true rfl, Nat.le_of_ble_eq_true rfl⟩) (pre_v hK hP hD hp1 rfl rfl rfl) rfl rfl hl.1 rfl (lv_room (Nat.le_of_ble_eq_true rfl)) dX7_loudest_13 ⟨Nat.zero_le _, Nat.zero_le _⟩) hp1 (List.Perm.refl _) hP hD hS hA (fun H locs hP hD hS => ?_)
        clear hp1 hv
        refine lv_aload_n hx hb dX7_loudest_16 rfl (lv_at hl 0 rfl) ?_
        refine lv_iload_n hx hb dX7_loudest_17 rfl (lv_at hl 1 rfl) ?_
        refine pt_put (D := D) (ci := 7) (fty := .int) (C := RX7) (T := TX7) (N := 40) (w1 := fl [oX7 ty h0 a0 (sI g3 31 y1)]) F in_X7_loudest_X7 tyX7 tyX7_ok nmX7 hK.1 hP hD hS 0 rfl rfl 31 (Nat.le_of_ble_eq_true rfl) (F.2.2.2.2 (.fieldLink RX7 138 "LouderRoomModel" "m" "I") (List.mem_of_getElem? (i := 2) rfl)) (fun _ h9 => h9) rfl (by decide +kernel) rfl rfl (Nat.le_of_ble_eq_true rfl) rfl dX7_loudest_18 (fun H locs hP hD hS => ?_)
        obtain ⟨g4, ex⟩ : ∃ y : Ob, y = (sI g3 31 y1) := ⟨_, rfl⟩
        replace hf := bnd_at hf ex; rw [← ex] at hP hD; clear ex
        refine lv_aload_n hx hb dX7_loudest_21 rfl (lv_at hl 0 rfl) ?_
        refine lv_iconst (v := (0 : Int32)) hx hb dX7_loudest_22 (by decide) ?_
        refine pt_put (D := D) (ci := 7) (fty := .boolean) (C := RX7) (T := TX7) (N := 40) (w1 := fl [oX7 ty h0 a0 (sI g4 35 (0 : Int32))]) F in_X7_loudest_X7 tyX7 tyX7_ok nmX7 hK.1 hP hD hS 0 rfl rfl 35 (Nat.le_of_ble_eq_true rfl) (F.2.2.2.2 (.fieldLink RX7 150 "LouderRoomModel" "trails" "Z") (List.mem_of_getElem? (i := 3) rfl)) (fun _ h9 => h9) rfl (by decide +kernel) (by decide +kernel) (by decide +kernel) (Nat.le_of_ble_eq_true rfl) rfl dX7_loudest_23 (fun H locs hP hD hS => ?_)
        obtain ⟨g5, ex⟩ : ∃ y : Ob, y = (sI g4 35 (0 : Int32)) := ⟨_, rfl⟩
        replace hf := bnd_at hf ex; rw [← ex] at hP hD; clear ex
        refine lv_aload_n hx hb dX7_loudest_26 rfl (lv_at hl 0 rfl) ?_
        obtain ⟨v6, g7, hv, hf⟩ := obd2 hf
        have hp1 : List.Perm [oX7 ty h0 a0 g5] ([oX7 ty h0 a0 g5] ++ []) := (List.Perm.refl _)
        refine ci_call (out := v6) (os := [oX7 ty h0 a0 g5]) (oc := [oX7 ty h0 a0 g5]) (oc' := [oX7 ty h0 a0 g7]) (or_ := []) (os' := [oX7 ty h0 a0 g7]) (va_runV (As := []) (rest := []) F (c_X7_goRest l D ty h0 a0 _ _ _ hv _) (cwV 0 F.2.2.2.2 gX7_loudest_X7_goRest rfl rfl rfl ⟨rfl, hd_X7_goRest⟩ ⟨Nat.le_of_ble_eq_true rfl, Nat.le_of_ble_eq_true rfl⟩) (pre_v hK hP hD hp1 rfl rfl rfl) rfl rfl hl.1 rfl (lv_room (Nat.le_of_ble_eq_true rfl)) dX7_loudest_27 ⟨Nat.zero_le _, Nat.zero_le _⟩) hp1 (List.Perm.refl _) hP hD hS hA (fun H locs hP hD hS => ?_)
        clear hp1 hv
        refine lv_bipush (v := (-9 : Int32)) hx hb dX7_loudest_30 (by decide) ?_
        refine lv_icmp_eq (tgt := 44) hx hb dX7_loudest_32 (by decide) (fun hc => ?_) (fun hc => ?_)
        · replace hf := ite_t hf hc
          exact J_44 y1 g7 _ _ _ hP hD hS (lv_sub hl [0, 1] rfl) hf
        · replace hf := ite_f hf hc
          refine lv_aload_n hx hb dX7_loudest_35 rfl (lv_at hl 0 rfl) ?_
          obtain ⟨v8, hv, hf⟩ := obd hf
          have hp1 : List.Perm [oX7 ty h0 a0 g7] ([oX7 ty h0 a0 g7] ++ []) := (List.Perm.refl _)
          refine ci_call (out := v8) (os := [oX7 ty h0 a0 g7]) (oc := [oX7 ty h0 a0 g7]) (oc' := [oX7 ty h0 a0 g7]) (or_ := []) (os' := [oX7 ty h0 a0 g7]) (va_runV (As := []) (rest := []) F (c_X7_allHear l D ty h0 a0 _ _ hv _) (cwV 0 F.2.2.2.2 gX7_loudest_X7_allHear rfl rfl rfl ⟨rfl, hd_X7_allHear⟩ ⟨Nat.le_of_ble_eq_true rfl, Nat.le_of_ble_eq_true rfl⟩) (pre_v hK hP hD hp1 rfl rfl rfl) rfl rfl hl.1 rfl (lv_room (Nat.le_of_ble_eq_true rfl)) dX7_loudest_36 ⟨Nat.zero_le _, Nat.zero_le _⟩) hp1 (List.Perm.refl _) hP hD hS hA (fun H locs hP hD hS => ?_)
          clear hp1 hv
          refine lv_if_eq (tgt := 44) hx hb dX7_loudest_39 (by decide) (fun hc => ?_) (fun hc => ?_)
          · replace hf := ite_t hf hc
            exact J_44 y1 g7 _ _ _ hP hD hS (lv_sub hl [0, 1] rfl) hf
          · replace hf := ite_f hf hc
            refine lv_iload_n hx hb dX7_loudest_42 rfl (lv_at hl 1 rfl) ?_
            obtain hf := hf
            obtain ⟨e0, e1⟩ := tup2 hf
            rw [e1] at hP hD
            exact CX_i F hr hlk hP hD hS e0 dX7_loudest_43
  exact L_8 FU (9 : Int32) g1 _ _ _ hP hD hS (lv_sub hl [1, 0] rfl) hf
def b_X7_softer_11 (r_11 : Int32 → Ob → Option (Int32 × Ob)) (y1 : Int32) (w0 : Ob) : Option (Int32 × Ob) := (if (10 : Int32) ≤ y1 then some ((-9 : Int32), w0) else (f_X7_allBy w0 y1).bind (fun g3 => (f_X7_allHear g3).bind (fun v4 => (if v4 = 0 then bnd (y1 + (1 : Int32)) (fun x5 => r_11 x5 g3) else some (y1, g3)))))
def f_X7_softer (z0 : Ob) : Option (Int32 × Ob) := bnd (sI z0 0 (0 : Int32)) (fun g1 => (f_X7_begin g1).bind (fun g2 => fuel2 (b_X7_softer_11) FU (1 : Int32) g2))
abbrev rm_X7_softer : Room := { frames := 7, cells := 0, slots := 0, locals := 150 }
theorem hd_X7_softer : yX7_softer.cls ≠ "java/lang/invoke/MethodHandle" ∧ yX7_softer.cls ≠ "java/lang/invoke/VarHandle" ∧ (parseMethodDescriptor yX7_softer.desc).map (fun d => d.parameters.length) = some 0 := by decide +kernel
theorem in_X7_softer_X7 : ∀ w ∈ wsX70, w ∈ wsX7_softer := fun w h => List.mem_cons_of_mem _ (List.mem_append_right _ h)
set_option maxHeartbeats 4000000 in
set_option maxRecDepth 100000 in
theorem c_X7_softer (l : Launch) (D : va_G) (ty : TY) (h0 : Nat) (a0 : Nat → Nat) (z0 : Ob) (o0 : Int32) (o1 : Ob) (hf : f_X7_softer z0 = some (o0, o1)) (sz : Nat) : CX l yX7_softer wsX7_softer rm_X7_softer ([.ref h0] : List Value) D ty (fl [oX7 ty h0 a0 z0]) sz (qI D o0 (fl [oX7 ty h0 a0 o1])) 0 0 := by
  refine CX_of (cc := cX7_softer) (maxL := 2) (ret := (some .int)) (C := RX7) (by decide) rfl rfl (Nat.le_of_ble_eq_true rfl) ?_
  intro p e s m below meth c A ls F hr hlk _ hK hP hD hS hA hl
  have hx := F.1
  have hb := F.2.1
  replace hl : lv_has ls 2 [(0, .ref h0)] := hl
  unfold f_X7_softer at hf
  refine lv_aload_n hx hb dX7_softer_0 rfl (lv_at hl 0 rfl) ?_
  refine lv_iconst (v := (0 : Int32)) hx hb dX7_softer_1 (by decide) ?_
  refine pt_put (D := D) (ci := 7) (fty := .int) (C := RX7) (T := TX7) (N := 40) (w1 := fl [oX7 ty h0 a0 (sI z0 0 (0 : Int32))]) F in_X7_softer_X7 tyX7 tyX7_ok nmX7 hK.1 hP hD hS 0 rfl rfl 0 (Nat.le_of_ble_eq_true rfl) (F.2.2.2.2 (.fieldLink RX7 71 "LouderRoomModel" "thrown" "I") (List.mem_of_getElem? (i := 1) rfl)) (fun _ h9 => h9) rfl (by decide +kernel) rfl rfl (Nat.le_of_ble_eq_true rfl) rfl dX7_softer_2 (fun H locs hP hD hS => ?_)
  obtain ⟨g1, ex⟩ : ∃ y : Ob, y = (sI z0 0 (0 : Int32)) := ⟨_, rfl⟩
  replace hf := bnd_at hf ex; rw [← ex] at hP hD; clear ex
  refine lv_aload_n hx hb dX7_softer_5 rfl (lv_at hl 0 rfl) ?_
  obtain ⟨g2, hv, hf⟩ := obd hf
  have hp1 : List.Perm [oX7 ty h0 a0 g1] ([oX7 ty h0 a0 g1] ++ []) := (List.Perm.refl _)
  refine cv_call (os := [oX7 ty h0 a0 g1]) (oc := [oX7 ty h0 a0 g1]) (oc' := [oX7 ty h0 a0 g2]) (or_ := []) (os' := [oX7 ty h0 a0 g2]) (va_runV (As := []) (rest := []) F (c_X7_begin l D ty h0 a0 _ _ hv _) (cwV 0 F.2.2.2.2 gX7_softer_X7_begin rfl rfl rfl ⟨rfl, hd_X7_begin⟩ ⟨Nat.le_of_ble_eq_true rfl, Nat.le_of_ble_eq_true rfl⟩) (pre_v hK hP hD hp1 rfl rfl rfl) rfl rfl hl.1 rfl (lv_room (Nat.le_of_ble_eq_true rfl)) dX7_softer_6 ⟨Nat.zero_le _, Nat.zero_le _⟩) hp1 (List.Perm.refl _) hP hD hS hA (fun H locs hP hD hS => ?_)
  clear hp1 hv
  refine lv_iconst (v := (1 : Int32)) hx hb dX7_softer_9 (by decide) ?_
  refine lv_istore_n (lv' := [(1, .int (1 : Int32)), (0, .ref h0)]) hx hb dX7_softer_10 rfl hl (by decide) rfl (fun ls hl => ?_)
  have L_11 : ∀ (n : Nat) (y1 : Int32) (w0 : Ob) (H : Heap) (locs : List Loc) (ls : Array Slot), va_P D vwC (fl [oX7 ty h0 a0 w0]) H → va_D A (fl [oX7 ty h0 a0 w0]) → va_S A s.heap H locs → lv_has ls 2 [(0, .ref h0), (1, .int y1)] → fuel2 (b_X7_softer_11) n y1 w0 = some (o0, o1) → W p l e rm_X7_softer s m ([.ref h0] : List Value).toArray below meth c H locs 0 0 (MQ below (qI D o0 (fl [oX7 ty h0 a0 o1]) A) ([.ref h0] : List Value).toArray s 0 0 A) (F0 m 11 ls []) := by
    intro n
    induction n with
    | zero => intro y1 w0 H locs ls hP hD hS hl hf; cases hf
    | succ n ih_11 =>
      intro y1 w0 H locs ls hP hD hS hl hf
      replace hf : b_X7_softer_11 (fuel2 (b_X7_softer_11) n) y1 w0 = some (o0, o1) := hf
      generalize fuel2 (b_X7_softer_11) n = r_11 at ih_11 hf
      unfold b_X7_softer_11 at hf
      refine lv_iload_n hx hb dX7_softer_11 rfl (lv_at hl 1 rfl) ?_
      refine lv_bipush (v := (10 : Int32)) hx hb dX7_softer_12 (by decide) ?_
      refine lv_icmp_ge (tgt := 37) hx hb dX7_softer_14 (by decide) (fun hc => ?_) (fun hc => ?_)
      · replace hf := ite_t hf hc
        refine lv_bipush (v := (-9 : Int32)) hx hb dX7_softer_37 (by decide) ?_
        obtain hf := hf
        obtain ⟨e0, e1⟩ := tup2 hf
        rw [e1] at hP hD
        exact CX_i F hr hlk hP hD hS e0 dX7_softer_39
      · replace hf := ite_f hf hc
        refine lv_aload_n hx hb dX7_softer_17 rfl (lv_at hl 0 rfl) ?_
        refine lv_iload_n hx hb dX7_softer_18 rfl (lv_at hl 1 rfl) ?_
        obtain ⟨g3, hv, hf⟩ := obd hf
        have hp1 : List.Perm [oX7 ty h0 a0 w0] ([oX7 ty h0 a0 w0] ++ []) := (List.Perm.refl _)
        refine cv_call (os := [oX7 ty h0 a0 w0]) (oc := [oX7 ty h0 a0 w0]) (oc' := [oX7 ty h0 a0 g3]) (or_ := []) (os' := [oX7 ty h0 a0 g3]) (va_runV (As := [.int y1]) (rest := []) F (c_X7_allBy l D ty h0 a0 _ _ _ hv _) (cwV 1 F.2.2.2.2 gX7_softer_X7_allBy rfl rfl rfl ⟨rfl, hd_X7_allBy⟩ ⟨Nat.le_of_ble_eq_true rfl, Nat.le_of_ble_eq_true rfl⟩) (pre_v hK hP hD hp1 rfl rfl rfl) rfl rfl hl.1 rfl (lv_room (Nat.le_of_ble_eq_true rfl)) dX7_softer_19 ⟨Nat.zero_le _, Nat.zero_le _⟩) hp1 (List.Perm.refl _) hP hD hS hA (fun H locs hP hD hS => ?_)
        clear hp1 hv
        refine lv_aload_n hx hb dX7_softer_22 rfl (lv_at hl 0 rfl) ?_
        obtain ⟨v4, hv, hf⟩ := obd hf
        have hp1 : List.Perm [oX7 ty h0 a0 g3] ([oX7 ty h0 a0 g3] ++ []) := (List.Perm.refl _)
        refine ci_call (out := v4) (os := [oX7 ty h0 a0 g3]) (oc := [oX7 ty h0 a0 g3]) (oc' := [oX7 ty h0 a0 g3]) (or_ := []) (os' := [oX7 ty h0 a0 g3]) (va_runV (As := []) (rest := []) F (c_X7_allHear l D ty h0 a0 _ _ hv _) (cwV 0 F.2.2.2.2 gX7_softer_X7_allHear rfl rfl rfl ⟨rfl, hd_X7_allHear⟩ ⟨Nat.le_of_ble_eq_true rfl, Nat.le_of_ble_eq_true rfl⟩) (pre_v hK hP hD hp1 rfl rfl rfl) rfl rfl hl.1 rfl (lv_room (Nat.le_of_ble_eq_true rfl)) dX7_softer_23 ⟨Nat.zero_le _, Nat.zero_le _⟩) hp1 (List.Perm.refl _) hP hD hS hA (fun H locs hP hD hS => ?_)
        clear hp1 hv
        refine lv_if_eq (tgt := 31) hx hb dX7_softer_26 (by decide) (fun hc => ?_) (fun hc => ?_)
        · replace hf := ite_t hf hc
          obtain ⟨x5, ex⟩ : ∃ y : Int32, y = (y1 + (1 : Int32)) := ⟨_, rfl⟩
          replace hf := bnd_at hf ex
          refine lv_iinc (v := x5) (lv' := [(1, .int x5), (0, .ref h0)]) hx hb dX7_softer_31 hl (k := 1) rfl (by rw [ex]; rfl) (by decide) rfl (fun ls hl => ?_)
          clear ex
          refine lv_goto (tgt := 11) hx hb dX7_softer_34 (by decide) ?_
          exact ih_11 x5 g3 _ _ _ hP hD hS (lv_sub hl [1, 0] rfl) hf
        · replace hf := ite_f hf hc
          refine lv_iload_n hx hb dX7_softer_29 rfl (lv_at hl 1 rfl) ?_
          obtain hf := hf
          obtain ⟨e0, e1⟩ := tup2 hf
          rw [e1] at hP hD
          exact CX_i F hr hlk hP hD hS e0 dX7_softer_30
  exact L_11 FU (1 : Int32) g2 _ _ _ hP hD hS (lv_sub hl [1, 0] rfl) hf
def j_X7_overhears_75 (p1 : Int32) (r_23 : Int32 → Int32 → Option (Int32 × Ob)) (w0 : Ob) (y3 : Int32) (t0 : Int32) (t1 : Int32) : Option (Int32 × Ob) := bnd (t1 ||| t0) (fun x4 => bnd (y3 + (1 : Int32)) (fun x5 => r_23 x4 x5))
def j_X7_overhears_74 (p1 : Int32) (r_23 : Int32 → Int32 → Option (Int32 × Ob)) (w0 : Ob) (y3 : Int32) (t0 : Int32) : Option (Int32 × Ob) := j_X7_overhears_75 p1 r_23 w0 y3 (0 : Int32) t0
def b_X7_overhears_23 (p1 : Int32) (w0 : Ob) (r_23 : Int32 → Int32 → Option (Int32 × Ob)) (y2 : Int32) (y3 : Int32) : Option (Int32 × Ob) := (if (w0.1 4) ≤ y3 then some (y2, w0) else (if inb p1 8 = true then (f_X7_fromAt w0 y3 (w0.2 6 p1.toNatClampNeg)).bind (fun v6 => (if v6 ≤ 0 then j_X7_overhears_74 p1 r_23 w0 y3 y2 else (if inb p1 8 = true then (f_X7_noiseAt w0 (w0.2 6 p1.toNatClampNeg)).bind (fun v7 => (if v6 < (v7 - v6) then j_X7_overhears_74 p1 r_23 w0 y3 y2 else j_X7_overhears_75 p1 r_23 w0 y3 ((1 : Int32) <<< (y3 &&& 31)) y2)) else none))) else none))
def f_X7_overhears (z0 : Ob) (p1 : Int32) : Option (Int32 × Ob) := bnd (sI z0 0 (0 : Int32)) (fun g1 => (f_X7_noRing g1 p1).bind (fun v2 => (if v2 = 0 then (f_X7_begin g1).bind (fun g3 => fuel2 (b_X7_overhears_23 p1 g3) FU (0 : Int32) (0 : Int32)) else some ((-1 : Int32), g1))))
abbrev rm_X7_overhears : Room := { frames := 5, cells := 0, slots := 0, locals := 107 }
theorem hd_X7_overhears : yX7_overhears.cls ≠ "java/lang/invoke/MethodHandle" ∧ yX7_overhears.cls ≠ "java/lang/invoke/VarHandle" ∧ (parseMethodDescriptor yX7_overhears.desc).map (fun d => d.parameters.length) = some 1 := by decide +kernel
theorem in_X7_overhears_X7 : ∀ w ∈ wsX70, w ∈ wsX7_overhears := fun w h => List.mem_cons_of_mem _ (List.mem_append_right _ h)
set_option maxHeartbeats 4000000 in
set_option maxRecDepth 100000 in
theorem c_X7_overhears (l : Launch) (D : va_G) (ty : TY) (h0 : Nat) (a0 : Nat → Nat) (z0 : Ob) (p1 : Int32) (o0 : Int32) (o1 : Ob) (hf : f_X7_overhears z0 p1 = some (o0, o1)) (sz : Nat) : CX l yX7_overhears wsX7_overhears rm_X7_overhears ([.ref h0, .int p1] : List Value) D ty (fl [oX7 ty h0 a0 z0]) sz (qI D o0 (fl [oX7 ty h0 a0 o1])) 0 0 := by
  refine CX_of (cc := cX7_overhears) (maxL := 5) (ret := (some .int)) (C := RX7) (by decide) rfl rfl (Nat.le_of_ble_eq_true rfl) ?_
  intro p e s m below meth c A ls F hr hlk _ hK hP hD hS hA hl
  have hx := F.1
  have hb := F.2.1
  replace hl : lv_has ls 5 [(0, .ref h0), (1, .int p1)] := hl
  unfold f_X7_overhears at hf
  refine lv_aload_n hx hb dX7_overhears_0 rfl (lv_at hl 0 rfl) ?_
  refine lv_iconst (v := (0 : Int32)) hx hb dX7_overhears_1 (by decide) ?_
  refine pt_put (D := D) (ci := 7) (fty := .int) (C := RX7) (T := TX7) (N := 40) (w1 := fl [oX7 ty h0 a0 (sI z0 0 (0 : Int32))]) F in_X7_overhears_X7 tyX7 tyX7_ok nmX7 hK.1 hP hD hS 0 rfl rfl 0 (Nat.le_of_ble_eq_true rfl) (F.2.2.2.2 (.fieldLink RX7 71 "LouderRoomModel" "thrown" "I") (List.mem_of_getElem? (i := 1) rfl)) (fun _ h9 => h9) rfl (by decide +kernel) rfl rfl (Nat.le_of_ble_eq_true rfl) rfl dX7_overhears_2 (fun H locs hP hD hS => ?_)
  obtain ⟨g1, ex⟩ : ∃ y : Ob, y = (sI z0 0 (0 : Int32)) := ⟨_, rfl⟩
  replace hf := bnd_at hf ex; rw [← ex] at hP hD; clear ex
  refine lv_aload_n hx hb dX7_overhears_5 rfl (lv_at hl 0 rfl) ?_
  refine lv_iload_n hx hb dX7_overhears_6 rfl (lv_at hl 1 rfl) ?_
  obtain ⟨v2, hv, hf⟩ := obd hf
  have hp1 : List.Perm [oX7 ty h0 a0 g1] ([oX7 ty h0 a0 g1] ++ []) := (List.Perm.refl _)
  refine ci_call (out := v2) (os := [oX7 ty h0 a0 g1]) (oc := [oX7 ty h0 a0 g1]) (oc' := [oX7 ty h0 a0 g1]) (or_ := []) (os' := [oX7 ty h0 a0 g1]) (va_runV (As := [.int p1]) (rest := []) F (c_X7_noRing l D ty h0 a0 _ _ _ hv _) (cwV 1 F.2.2.2.2 gX7_overhears_X7_noRing rfl rfl rfl ⟨rfl, hd_X7_noRing⟩ ⟨Nat.le_of_ble_eq_true rfl, Nat.le_of_ble_eq_true rfl⟩) (pre_v hK hP hD hp1 rfl rfl rfl) rfl rfl hl.1 rfl (lv_room (Nat.le_of_ble_eq_true rfl)) dX7_overhears_7 ⟨Nat.zero_le _, Nat.zero_le _⟩) hp1 (List.Perm.refl _) hP hD hS hA (fun H locs hP hD hS => ?_)
  clear hp1 hv
  refine lv_if_eq (tgt := 15) hx hb dX7_overhears_10 (by decide) (fun hc => ?_) (fun hc => ?_)
  · replace hf := ite_t hf hc
    refine lv_aload_n hx hb dX7_overhears_15 rfl (lv_at hl 0 rfl) ?_
    obtain ⟨g3, hv, hf⟩ := obd hf
    have hp1 : List.Perm [oX7 ty h0 a0 g1] ([oX7 ty h0 a0 g1] ++ []) := (List.Perm.refl _)
    refine cv_call (os := [oX7 ty h0 a0 g1]) (oc := [oX7 ty h0 a0 g1]) (oc' := [oX7 ty h0 a0 g3]) (or_ := []) (os' := [oX7 ty h0 a0 g3]) (va_runV (As := []) (rest := []) F (c_X7_begin l D ty h0 a0 _ _ hv _) (cwV 0 F.2.2.2.2 gX7_overhears_X7_begin rfl rfl rfl ⟨rfl, hd_X7_begin⟩ ⟨Nat.le_of_ble_eq_true rfl, Nat.le_of_ble_eq_true rfl⟩) (pre_v hK hP hD hp1 rfl rfl rfl) rfl rfl hl.1 rfl (lv_room (Nat.le_of_ble_eq_true rfl)) dX7_overhears_16 ⟨Nat.zero_le _, Nat.zero_le _⟩) hp1 (List.Perm.refl _) hP hD hS hA (fun H locs hP hD hS => ?_)
    clear hp1 hv
    refine lv_iconst (v := (0 : Int32)) hx hb dX7_overhears_19 (by decide) ?_
    refine lv_istore_n (lv' := [(2, .int (0 : Int32)), (0, .ref h0), (1, .int p1)]) hx hb dX7_overhears_20 rfl hl (by decide) rfl (fun ls hl => ?_)
    refine lv_iconst (v := (0 : Int32)) hx hb dX7_overhears_21 (by decide) ?_
    refine lv_istore_n (lv' := [(3, .int (0 : Int32)), (2, .int (0 : Int32)), (0, .ref h0), (1, .int p1)]) hx hb dX7_overhears_22 rfl hl (by decide) rfl (fun ls hl => ?_)
    have L_23 : ∀ (w0 : Ob) (n : Nat) (y2 : Int32) (y3 : Int32) (H : Heap) (locs : List Loc) (ls : Array Slot), va_P D vwC (fl [oX7 ty h0 a0 w0]) H → va_D A (fl [oX7 ty h0 a0 w0]) → va_S A s.heap H locs → lv_has ls 5 [(0, .ref h0), (1, .int p1), (2, .int y2), (3, .int y3)] → fuel2 (b_X7_overhears_23 p1 w0) n y2 y3 = some (o0, o1) → W p l e rm_X7_overhears s m ([.ref h0, .int p1] : List Value).toArray below meth c H locs 0 0 (MQ below (qI D o0 (fl [oX7 ty h0 a0 o1]) A) ([.ref h0, .int p1] : List Value).toArray s 0 0 A) (F0 m 23 ls []) := by
      intro w0 n
      induction n with
      | zero => intro y2 y3 H locs ls hP hD hS hl hf; cases hf
      | succ n ih_23 =>
        intro y2 y3 H locs ls hP hD hS hl hf
        replace hf : b_X7_overhears_23 p1 w0 (fuel2 (b_X7_overhears_23 p1 w0) n) y2 y3 = some (o0, o1) := hf
        generalize fuel2 (b_X7_overhears_23 p1 w0) n = r_23 at ih_23 hf
        unfold b_X7_overhears_23 at hf
        have J_75 : ∀ (y3 : Int32) (t0 : Int32) (t1 : Int32) (H : Heap) (locs : List Loc) (ls : Array Slot), va_P D vwC (fl [oX7 ty h0 a0 w0]) H → va_D A (fl [oX7 ty h0 a0 w0]) → va_S A s.heap H locs → lv_has ls 5 [(0, .ref h0), (1, .int p1), (3, .int y3)] → j_X7_overhears_75 p1 r_23 w0 y3 t0 t1 = some (o0, o1) → W p l e rm_X7_overhears s m ([.ref h0, .int p1] : List Value).toArray below meth c H locs 0 0 (MQ below (qI D o0 (fl [oX7 ty h0 a0 o1]) A) ([.ref h0, .int p1] : List Value).toArray s 0 0 A) (F0 m 75 ls [.int t0, .int t1]) := by
          intro y3 t0 t1 H locs ls hP hD hS hl hf
          unfold j_X7_overhears_75 at hf
          refine lv_ior hx hb dX7_overhears_75 ?_
          refine lv_topi (fun x4 ex => ?_)
          replace hf := bnd_at hf ex; clear ex
          refine lv_istore_n (lv' := [(2, .int x4), (0, .ref h0), (1, .int p1), (3, .int y3)]) hx hb dX7_overhears_76 rfl hl (by decide) rfl (fun ls hl => ?_)
          obtain ⟨x5, ex⟩ : ∃ y : Int32, y = (y3 + (1 : Int32)) := ⟨_, rfl⟩
          replace hf := bnd_at hf ex
          refine lv_iinc (v := x5) (lv' := [(3, .int x5), (2, .int x4), (0, .ref h0), (1, .int p1)]) hx hb dX7_overhears_77 hl (k := 3) rfl (by rw [ex]; rfl) (by decide) rfl (fun ls hl => ?_)
          clear ex
          refine lv_goto (tgt := 23) hx hb dX7_overhears_80 (by decide) ?_
          exact ih_23 x4 x5 _ _ _ hP hD hS (lv_sub hl [2, 3, 1, 0] rfl) hf
        have J_74 : ∀ (y3 : Int32) (t0 : Int32) (H : Heap) (locs : List Loc) (ls : Array Slot), va_P D vwC (fl [oX7 ty h0 a0 w0]) H → va_D A (fl [oX7 ty h0 a0 w0]) → va_S A s.heap H locs → lv_has ls 5 [(0, .ref h0), (1, .int p1), (3, .int y3)] → j_X7_overhears_74 p1 r_23 w0 y3 t0 = some (o0, o1) → W p l e rm_X7_overhears s m ([.ref h0, .int p1] : List Value).toArray below meth c H locs 0 0 (MQ below (qI D o0 (fl [oX7 ty h0 a0 o1]) A) ([.ref h0, .int p1] : List Value).toArray s 0 0 A) (F0 m 74 ls [.int t0]) := by
          intro y3 t0 H locs ls hP hD hS hl hf
          unfold j_X7_overhears_74 at hf
          refine lv_iconst (v := (0 : Int32)) hx hb dX7_overhears_74 (by decide) ?_
          exact J_75 y3 (0 : Int32) t0 _ _ _ hP hD hS (lv_sub hl [0, 1, 2] rfl) hf
        refine lv_iload_n hx hb dX7_overhears_23 rfl (lv_at hl 3 rfl) ?_
        refine lv_aload_n hx hb dX7_overhears_24 rfl (lv_at hl 0 rfl) ?_
        refine va_get (D := D) (ci := 7) (C := RX7) (T := TX7) (N := 40) hx hb F.2.2.2.2 in_X7_overhears_X7 F.2.2.2.1 hK.1 hP 0 rfl rfl 4 (Nat.le_of_ble_eq_true rfl) (F.2.2.2.2 (.fieldLink RX7 75 "LouderRoomModel" "rings" "I") (List.mem_of_getElem? (i := 2) rfl)) (fun _ h9 => h9) rfl dX7_overhears_25 ?_
        refine lv_icmp_ge (tgt := 83) hx hb dX7_overhears_28 (by decide) (fun hc => ?_) (fun hc => ?_)
        · replace hf := ite_t hf hc
          refine lv_iload_n hx hb dX7_overhears_83 rfl (lv_at hl 2 rfl) ?_
          obtain hf := hf
          obtain ⟨e0, e1⟩ := tup2 hf
          rw [e1] at hP hD
          exact CX_i F hr hlk hP hD hS e0 dX7_overhears_84
        · replace hf := ite_f hf hc
          refine lv_aload_n hx hb dX7_overhears_31 rfl (lv_at hl 0 rfl) ?_
          refine lv_iload_n hx hb dX7_overhears_32 rfl (lv_at hl 3 rfl) ?_
          refine lv_aload_n hx hb dX7_overhears_33 rfl (lv_at hl 0 rfl) ?_
          refine va_get (D := D) (ci := 7) (C := RX7) (T := TX7) (N := 40) hx hb F.2.2.2.2 in_X7_overhears_X7 F.2.2.2.1 hK.1 hP 0 rfl rfl 6 (Nat.le_of_ble_eq_true rfl) (F.2.2.2.2 (.fieldLink RX7 16 "LouderRoomModel" "cell" "[I") (List.mem_of_getElem? (i := 3) rfl)) (fun _ h9 => h9) rfl dX7_overhears_34 ?_
          refine lv_iload_n hx hb dX7_overhears_37 rfl (lv_at hl 1 rfl) ?_
          obtain ⟨hi, hf⟩ := grd hf
          refine va_iald hx hb hK.1 hP 3 0 rfl rfl (inb_in hi) dX7_overhears_38 ?_
          obtain ⟨v6, hv, hf⟩ := obd hf
          have hp1 : List.Perm [oX7 ty h0 a0 w0] ([oX7 ty h0 a0 w0] ++ []) := (List.Perm.refl _)
          refine ci_call (out := v6) (os := [oX7 ty h0 a0 w0]) (oc := [oX7 ty h0 a0 w0]) (oc' := [oX7 ty h0 a0 w0]) (or_ := []) (os' := [oX7 ty h0 a0 w0]) (va_runV (As := [.int y3, .int (w0.2 6 p1.toNatClampNeg)]) (rest := []) F (c_X7_fromAt l D ty h0 a0 _ _ _ _ hv _) (cwV 2 F.2.2.2.2 gX7_overhears_X7_fromAt rfl rfl rfl ⟨rfl, hd_X7_fromAt⟩ ⟨Nat.le_of_ble_eq_true rfl, Nat.le_of_ble_eq_true rfl⟩) (pre_v hK hP hD hp1 rfl rfl rfl) rfl rfl hl.1 rfl (lv_room (Nat.le_of_ble_eq_true rfl)) dX7_overhears_39 ⟨Nat.zero_le _, Nat.zero_le _⟩) hp1 (List.Perm.refl _) hP hD hS hA (fun H locs hP hD hS => ?_)
          clear hp1 hv
          refine lv_istore (lv' := [(4, .int v6), (0, .ref h0), (1, .int p1), (2, .int y2), (3, .int y3)]) hx hb dX7_overhears_42 hl (by decide) rfl (fun ls hl => ?_)
          refine lv_iload_n hx hb dX7_overhears_44 rfl (lv_at hl 3 rfl) ?_
          refine lv_iload hx hb dX7_overhears_45 (lv_at hl 0 rfl) ?_
          refine lv_if_le (tgt := 74) hx hb dX7_overhears_47 (by decide) (fun hc => ?_) (fun hc => ?_)
          · replace hf := ite_t hf hc
            exact J_74 y3 y2 _ _ _ hP hD hS (lv_sub hl [1, 2, 4] rfl) hf
          · replace hf := ite_f hf hc
            refine lv_iload hx hb dX7_overhears_50 (lv_at hl 0 rfl) ?_
            refine lv_aload_n hx hb dX7_overhears_52 rfl (lv_at hl 1 rfl) ?_
            refine lv_aload_n hx hb dX7_overhears_53 rfl (lv_at hl 1 rfl) ?_
            refine va_get (D := D) (ci := 7) (C := RX7) (T := TX7) (N := 40) hx hb F.2.2.2.2 in_X7_overhears_X7 F.2.2.2.1 hK.1 hP 0 rfl rfl 6 (Nat.le_of_ble_eq_true rfl) (F.2.2.2.2 (.fieldLink RX7 16 "LouderRoomModel" "cell" "[I") (List.mem_of_getElem? (i := 3) rfl)) (fun _ h9 => h9) rfl dX7_overhears_54 ?_
            refine lv_iload_n hx hb dX7_overhears_57 rfl (lv_at hl 2 rfl) ?_
            obtain ⟨hi, hf⟩ := grd hf
            refine va_iald hx hb hK.1 hP 3 0 rfl rfl (inb_in hi) dX7_overhears_58 ?_
            obtain ⟨v7, hv, hf⟩ := obd hf
            have hp1 : List.Perm [oX7 ty h0 a0 w0] ([oX7 ty h0 a0 w0] ++ []) := (List.Perm.refl _)
            refine ci_call (out := v7) (os := [oX7 ty h0 a0 w0]) (oc := [oX7 ty h0 a0 w0]) (oc' := [oX7 ty h0 a0 w0]) (or_ := []) (os' := [oX7 ty h0 a0 w0]) (va_runV (As := [.int (w0.2 6 p1.toNatClampNeg)]) (rest := [.int v6, .int y2]) F (c_X7_noiseAt l D ty h0 a0 _ _ _ hv _) (cwV 1 F.2.2.2.2 gX7_overhears_X7_noiseAt rfl rfl rfl ⟨rfl, hd_X7_noiseAt⟩ ⟨Nat.le_of_ble_eq_true rfl, Nat.le_of_ble_eq_true rfl⟩) (pre_v hK hP hD hp1 rfl rfl rfl) rfl rfl hl.1 rfl (lv_room (Nat.le_of_ble_eq_true rfl)) dX7_overhears_59 ⟨Nat.zero_le _, Nat.zero_le _⟩) hp1 (List.Perm.refl _) hP hD hS hA (fun H locs hP hD hS => ?_)
            clear hp1 hv
            refine lv_iload hx hb dX7_overhears_62 (lv_at hl 0 rfl) ?_
            refine lv_isub hx hb dX7_overhears_64 ?_
            refine lv_icmp_lt (tgt := 74) hx hb dX7_overhears_65 (by decide) (fun hc => ?_) (fun hc => ?_)
            · replace hf := ite_t hf hc
              exact J_74 y3 y2 _ _ _ hP hD hS (lv_sub hl [1, 2, 4] rfl) hf
            · replace hf := ite_f hf hc
              refine lv_iconst (v := (1 : Int32)) hx hb dX7_overhears_68 (by decide) ?_
              refine lv_iload_n hx hb dX7_overhears_69 rfl (lv_at hl 4 rfl) ?_
              refine lv_ishl hx hb dX7_overhears_70 ?_
              refine lv_goto (tgt := 75) hx hb dX7_overhears_71 (by decide) ?_
              exact J_75 y3 ((1 : Int32) <<< (y3 &&& 31)) y2 _ _ _ hP hD hS (lv_sub hl [1, 2, 4] rfl) hf
    exact L_23 g3 FU (0 : Int32) (0 : Int32) _ _ _ hP hD hS (lv_sub hl [2, 3, 1, 0] rfl) hf
  · replace hf := ite_f hf hc
    refine lv_iconst (v := (-1 : Int32)) hx hb dX7_overhears_13 (by decide) ?_
    obtain hf := hf
    obtain ⟨e0, e1⟩ := tup2 hf
    rw [e1] at hP hD
    exact CX_i F hr hlk hP hD hS e0 dX7_overhears_14
def j_X7_quietest_48 (r_17 : Int32 → Int32 → Int32 → Option (Int32 × Ob)) (w0 : Ob) (y1 : Int32) (y2 : Int32) (y3 : Int32) : Option (Int32 × Ob) := bnd (y3 + (1 : Int32)) (fun x3 => r_17 y1 y2 x3)
def b_X7_quietest_17 (w0 : Ob) (r_17 : Int32 → Int32 → Int32 → Option (Int32 × Ob)) (y1 : Int32) (y2 : Int32) (y3 : Int32) : Option (Int32 × Ob) := (if (100 : Int32) ≤ y3 then some (y1, w0) else (f_X7_isTaken w0 y3).bind (fun v4 => (if v4 = 0 then (f_X7_noiseAt w0 y3).bind (fun v5 => (if y2 ≤ v5 then j_X7_quietest_48 r_17 w0 y1 y2 y3 else (f_X7_noiseAt w0 y3).bind (fun v6 => j_X7_quietest_48 r_17 w0 y3 v6 y3))) else j_X7_quietest_48 r_17 w0 y1 y2 y3)))
def f_X7_quietest (z0 : Ob) : Option (Int32 × Ob) := bnd (sI z0 0 (0 : Int32)) (fun g1 => (f_X7_begin g1).bind (fun g2 => fuel3 (b_X7_quietest_17 g2) FU (-9 : Int32) (999999 : Int32) (0 : Int32)))
abbrev rm_X7_quietest : Room := { frames := 5, cells := 0, slots := 0, locals := 107 }
theorem hd_X7_quietest : yX7_quietest.cls ≠ "java/lang/invoke/MethodHandle" ∧ yX7_quietest.cls ≠ "java/lang/invoke/VarHandle" ∧ (parseMethodDescriptor yX7_quietest.desc).map (fun d => d.parameters.length) = some 0 := by decide +kernel
theorem in_X7_quietest_X7 : ∀ w ∈ wsX70, w ∈ wsX7_quietest := fun w h => List.mem_cons_of_mem _ (List.mem_append_right _ h)
set_option maxHeartbeats 4000000 in
set_option maxRecDepth 100000 in
theorem c_X7_quietest (l : Launch) (D : va_G) (ty : TY) (h0 : Nat) (a0 : Nat → Nat) (z0 : Ob) (o0 : Int32) (o1 : Ob) (hf : f_X7_quietest z0 = some (o0, o1)) (sz : Nat) : CX l yX7_quietest wsX7_quietest rm_X7_quietest ([.ref h0] : List Value) D ty (fl [oX7 ty h0 a0 z0]) sz (qI D o0 (fl [oX7 ty h0 a0 o1])) 0 0 := by
  refine CX_of (cc := cX7_quietest) (maxL := 4) (ret := (some .int)) (C := RX7) (by decide) rfl rfl (Nat.le_of_ble_eq_true rfl) ?_
  intro p e s m below meth c A ls F hr hlk _ hK hP hD hS hA hl
  have hx := F.1
  have hb := F.2.1
  replace hl : lv_has ls 4 [(0, .ref h0)] := hl
  unfold f_X7_quietest at hf
  refine lv_aload_n hx hb dX7_quietest_0 rfl (lv_at hl 0 rfl) ?_
  refine lv_iconst (v := (0 : Int32)) hx hb dX7_quietest_1 (by decide) ?_
  refine pt_put (D := D) (ci := 7) (fty := .int) (C := RX7) (T := TX7) (N := 40) (w1 := fl [oX7 ty h0 a0 (sI z0 0 (0 : Int32))]) F in_X7_quietest_X7 tyX7 tyX7_ok nmX7 hK.1 hP hD hS 0 rfl rfl 0 (Nat.le_of_ble_eq_true rfl) (F.2.2.2.2 (.fieldLink RX7 71 "LouderRoomModel" "thrown" "I") (List.mem_of_getElem? (i := 1) rfl)) (fun _ h9 => h9) rfl (by decide +kernel) rfl rfl (Nat.le_of_ble_eq_true rfl) rfl dX7_quietest_2 (fun H locs hP hD hS => ?_)
  obtain ⟨g1, ex⟩ : ∃ y : Ob, y = (sI z0 0 (0 : Int32)) := ⟨_, rfl⟩
  replace hf := bnd_at hf ex; rw [← ex] at hP hD; clear ex
  refine lv_aload_n hx hb dX7_quietest_5 rfl (lv_at hl 0 rfl) ?_
  obtain ⟨g2, hv, hf⟩ := obd hf
  have hp1 : List.Perm [oX7 ty h0 a0 g1] ([oX7 ty h0 a0 g1] ++ []) := (List.Perm.refl _)
  refine cv_call (os := [oX7 ty h0 a0 g1]) (oc := [oX7 ty h0 a0 g1]) (oc' := [oX7 ty h0 a0 g2]) (or_ := []) (os' := [oX7 ty h0 a0 g2]) (va_runV (As := []) (rest := []) F (c_X7_begin l D ty h0 a0 _ _ hv _) (cwV 0 F.2.2.2.2 gX7_quietest_X7_begin rfl rfl rfl ⟨rfl, hd_X7_begin⟩ ⟨Nat.le_of_ble_eq_true rfl, Nat.le_of_ble_eq_true rfl⟩) (pre_v hK hP hD hp1 rfl rfl rfl) rfl rfl hl.1 rfl (lv_room (Nat.le_of_ble_eq_true rfl)) dX7_quietest_6 ⟨Nat.zero_le _, Nat.zero_le _⟩) hp1 (List.Perm.refl _) hP hD hS hA (fun H locs hP hD hS => ?_)
  clear hp1 hv
  refine lv_bipush (v := (-9 : Int32)) hx hb dX7_quietest_9 (by decide) ?_
  refine lv_istore_n (lv' := [(1, .int (-9 : Int32)), (0, .ref h0)]) hx hb dX7_quietest_11 rfl hl (by decide) rfl (fun ls hl => ?_)
  refine lv_ldc hx hb F.2.2.2.1 (F.2.2.2.2 (.constant RX7 246 (999999)) (List.mem_of_getElem? (i := 2) rfl)) dX7_quietest_12 ?_
  refine lv_istore_n (lv' := [(2, .int (999999 : Int32)), (1, .int (-9 : Int32)), (0, .ref h0)]) hx hb dX7_quietest_14 rfl hl (by decide) rfl (fun ls hl => ?_)
  refine lv_iconst (v := (0 : Int32)) hx hb dX7_quietest_15 (by decide) ?_
  refine lv_istore_n (lv' := [(3, .int (0 : Int32)), (2, .int (999999 : Int32)), (1, .int (-9 : Int32)), (0, .ref h0)]) hx hb dX7_quietest_16 rfl hl (by decide) rfl (fun ls hl => ?_)
  have L_17 : ∀ (w0 : Ob) (n : Nat) (y1 : Int32) (y2 : Int32) (y3 : Int32) (H : Heap) (locs : List Loc) (ls : Array Slot), va_P D vwC (fl [oX7 ty h0 a0 w0]) H → va_D A (fl [oX7 ty h0 a0 w0]) → va_S A s.heap H locs → lv_has ls 4 [(0, .ref h0), (1, .int y1), (2, .int y2), (3, .int y3)] → fuel3 (b_X7_quietest_17 w0) n y1 y2 y3 = some (o0, o1) → W p l e rm_X7_quietest s m ([.ref h0] : List Value).toArray below meth c H locs 0 0 (MQ below (qI D o0 (fl [oX7 ty h0 a0 o1]) A) ([.ref h0] : List Value).toArray s 0 0 A) (F0 m 17 ls []) := by
    intro w0 n
    induction n with
    | zero => intro y1 y2 y3 H locs ls hP hD hS hl hf; cases hf
    | succ n ih_17 =>
      intro y1 y2 y3 H locs ls hP hD hS hl hf
      replace hf : b_X7_quietest_17 w0 (fuel3 (b_X7_quietest_17 w0) n) y1 y2 y3 = some (o0, o1) := hf
      generalize fuel3 (b_X7_quietest_17 w0) n = r_17 at ih_17 hf
      unfold b_X7_quietest_17 at hf
      have J_48 : ∀ (y1 : Int32) (y2 : Int32) (y3 : Int32) (H : Heap) (locs : List Loc) (ls : Array Slot), va_P D vwC (fl [oX7 ty h0 a0 w0]) H → va_D A (fl [oX7 ty h0 a0 w0]) → va_S A s.heap H locs → lv_has ls 4 [(0, .ref h0), (1, .int y1), (2, .int y2), (3, .int y3)] → j_X7_quietest_48 r_17 w0 y1 y2 y3 = some (o0, o1) → W p l e rm_X7_quietest s m ([.ref h0] : List Value).toArray below meth c H locs 0 0 (MQ below (qI D o0 (fl [oX7 ty h0 a0 o1]) A) ([.ref h0] : List Value).toArray s 0 0 A) (F0 m 48 ls []) := by
        intro y1 y2 y3 H locs ls hP hD hS hl hf
        unfold j_X7_quietest_48 at hf
        obtain ⟨x3, ex⟩ : ∃ y : Int32, y = (y3 + (1 : Int32)) := ⟨_, rfl⟩
        replace hf := bnd_at hf ex
        refine lv_iinc (v := x3) (lv' := [(3, .int x3), (0, .ref h0), (1, .int y1), (2, .int y2)]) hx hb dX7_quietest_48 hl (k := 3) rfl (by rw [ex]; rfl) (by decide) rfl (fun ls hl => ?_)
        clear ex
        refine lv_goto (tgt := 17) hx hb dX7_quietest_51 (by decide) ?_
        exact ih_17 y1 y2 x3 _ _ _ hP hD hS (lv_sub hl [1, 2, 3, 0] rfl) hf
      refine lv_iload_n hx hb dX7_quietest_17 rfl (lv_at hl 3 rfl) ?_
      refine lv_bipush (v := (100 : Int32)) hx hb dX7_quietest_18 (by decide) ?_
      refine lv_icmp_ge (tgt := 54) hx hb dX7_quietest_20 (by decide) (fun hc => ?_) (fun hc => ?_)
      · replace hf := ite_t hf hc
        refine lv_iload_n hx hb dX7_quietest_54 rfl (lv_at hl 1 rfl) ?_
        obtain hf := hf
        obtain ⟨e0, e1⟩ := tup2 hf
        rw [e1] at hP hD
        exact CX_i F hr hlk hP hD hS e0 dX7_quietest_55
      · replace hf := ite_f hf hc
        refine lv_aload_n hx hb dX7_quietest_23 rfl (lv_at hl 0 rfl) ?_
        refine lv_iload_n hx hb dX7_quietest_24 rfl (lv_at hl 3 rfl) ?_
        obtain ⟨v4, hv, hf⟩ := obd hf
        have hp1 : List.Perm [oX7 ty h0 a0 w0] ([oX7 ty h0 a0 w0] ++ []) := (List.Perm.refl _)
        refine ci_call (out := v4) (os := [oX7 ty h0 a0 w0]) (oc := [oX7 ty h0 a0 w0]) (oc' := [oX7 ty h0 a0 w0]) (or_ := []) (os' := [oX7 ty h0 a0 w0]) (va_runV (As := [.int y3]) (rest := []) F (c_X7_isTaken l D ty h0 a0 _ _ _ hv _) (cwV 1 F.2.2.2.2 gX7_quietest_X7_isTaken rfl rfl rfl ⟨rfl, hd_X7_isTaken⟩ ⟨Nat.le_of_ble_eq_true rfl, Nat.le_of_ble_eq_true rfl⟩) (pre_v hK hP hD hp1 rfl rfl rfl) rfl rfl hl.1 rfl (lv_room (Nat.le_of_ble_eq_true rfl)) dX7_quietest_25 ⟨Nat.zero_le _, Nat.zero_le _⟩) hp1 (List.Perm.refl _) hP hD hS hA (fun H locs hP hD hS => ?_)
        clear hp1 hv
        refine lv_if_ne (tgt := 48) hx hb dX7_quietest_28 (by decide) (fun hc => ?_) (fun hc => ?_)
        · replace hf := ite_f hf hc
          exact J_48 y1 y2 y3 _ _ _ hP hD hS (lv_sub hl [0, 1, 2, 3] rfl) hf
        · replace hf := ite_t hf hc
          refine lv_aload_n hx hb dX7_quietest_31 rfl (lv_at hl 0 rfl) ?_
          refine lv_iload_n hx hb dX7_quietest_32 rfl (lv_at hl 3 rfl) ?_
          obtain ⟨v5, hv, hf⟩ := obd hf
          have hp1 : List.Perm [oX7 ty h0 a0 w0] ([oX7 ty h0 a0 w0] ++ []) := (List.Perm.refl _)
          refine ci_call (out := v5) (os := [oX7 ty h0 a0 w0]) (oc := [oX7 ty h0 a0 w0]) (oc' := [oX7 ty h0 a0 w0]) (or_ := []) (os' := [oX7 ty h0 a0 w0]) (va_runV (As := [.int y3]) (rest := []) F (c_X7_noiseAt l D ty h0 a0 _ _ _ hv _) (cwV 1 F.2.2.2.2 gX7_quietest_X7_noiseAt rfl rfl rfl ⟨rfl, hd_X7_noiseAt⟩ ⟨Nat.le_of_ble_eq_true rfl, Nat.le_of_ble_eq_true rfl⟩) (pre_v hK hP hD hp1 rfl rfl rfl) rfl rfl hl.1 rfl (lv_room (Nat.le_of_ble_eq_true rfl)) dX7_quietest_33 ⟨Nat.zero_le _, Nat.zero_le _⟩) hp1 (List.Perm.refl _) hP hD hS hA (fun H locs hP hD hS => ?_)
          clear hp1 hv
          refine lv_iload_n hx hb dX7_quietest_36 rfl (lv_at hl 2 rfl) ?_
          refine lv_icmp_ge (tgt := 48) hx hb dX7_quietest_37 (by decide) (fun hc => ?_) (fun hc => ?_)
          · replace hf := ite_t hf hc
            exact J_48 y1 y2 y3 _ _ _ hP hD hS (lv_sub hl [0, 1, 2, 3] rfl) hf
          · replace hf := ite_f hf hc
            refine lv_aload_n hx hb dX7_quietest_40 rfl (lv_at hl 0 rfl) ?_
            refine lv_iload_n hx hb dX7_quietest_41 rfl (lv_at hl 3 rfl) ?_
            obtain ⟨v6, hv, hf⟩ := obd hf
            have hp1 : List.Perm [oX7 ty h0 a0 w0] ([oX7 ty h0 a0 w0] ++ []) := (List.Perm.refl _)
            refine ci_call (out := v6) (os := [oX7 ty h0 a0 w0]) (oc := [oX7 ty h0 a0 w0]) (oc' := [oX7 ty h0 a0 w0]) (or_ := []) (os' := [oX7 ty h0 a0 w0]) (va_runV (As := [.int y3]) (rest := []) F (c_X7_noiseAt l D ty h0 a0 _ _ _ hv _) (cwV 1 F.2.2.2.2 gX7_quietest_X7_noiseAt rfl rfl rfl ⟨rfl, hd_X7_noiseAt⟩ ⟨Nat.le_of_ble_eq_true rfl, Nat.le_of_ble_eq_true rfl⟩) (pre_v hK hP hD hp1 rfl rfl rfl) rfl rfl hl.1 rfl (lv_room (Nat.le_of_ble_eq_true rfl)) dX7_quietest_42 ⟨Nat.zero_le _, Nat.zero_le _⟩) hp1 (List.Perm.refl _) hP hD hS hA (fun H locs hP hD hS => ?_)
            clear hp1 hv
            refine lv_istore_n (lv' := [(2, .int v6), (0, .ref h0), (1, .int y1), (3, .int y3)]) hx hb dX7_quietest_45 rfl hl (by decide) rfl (fun ls hl => ?_)
            refine lv_iload_n hx hb dX7_quietest_46 rfl (lv_at hl 3 rfl) ?_
            refine lv_istore_n (lv' := [(1, .int y3), (2, .int v6), (0, .ref h0), (3, .int y3)]) hx hb dX7_quietest_47 rfl hl (by decide) rfl (fun ls hl => ?_)
            exact J_48 y3 v6 y3 _ _ _ hP hD hS (lv_sub hl [2, 0, 1, 3] rfl) hf
  exact L_17 g2 FU (-9 : Int32) (999999 : Int32) (0 : Int32) _ _ _ hP hD hS (lv_sub hl [3, 2, 1, 0] rfl) hf
def j_X7_apart_60 (z0 : Ob) (p1 : Int32) (r_6 : Int32 → Int32 → Option (Int32)) (r_14 : Int32 → Int32 → Option (Int32)) (y3 : Int32) (y4 : Int32) (t0 : Int32) : Option (Int32) := bnd (y4 + (1 : Int32)) (fun x1 => r_14 t0 x1)
def j_X7_apart_119 (z0 : Ob) (p1 : Int32) (r_6 : Int32 → Int32 → Option (Int32)) (r_70 : Int32 → Int32 → Option (Int32)) (y3 : Int32) (y4 : Int32) (t0 : Int32) : Option (Int32) := bnd (y4 + (1 : Int32)) (fun x2 => r_70 t0 x2)
def b_X7_apart_70 (z0 : Ob) (p1 : Int32) (r_6 : Int32 → Int32 → Option (Int32)) (y3 : Int32) (r_70 : Int32 → Int32 → Option (Int32)) (y2 : Int32) (y4 : Int32) : Option (Int32) := (if (z0.1 4) ≤ y4 then bnd (y3 + (1 : Int32)) (fun x3 => r_6 y2 x3) else (if inb y3 4 = true then (if inb y4 8 = true then (f_X7_far (z0.2 38 y3.toNatClampNeg) (z0.2 6 y4.toNatClampNeg)).bind (fun v4 => (if y2 ≤ v4 then j_X7_apart_119 z0 p1 r_6 r_70 y3 y4 y2 else (if inb y3 4 = true then (if inb y4 8 = true then (f_X7_far (z0.2 38 y3.toNatClampNeg) (z0.2 6 y4.toNatClampNeg)).bind (fun v5 => j_X7_apart_119 z0 p1 r_6 r_70 y3 y4 v5) else none) else none))) else none) else none))
def b_X7_apart_14 (z0 : Ob) (p1 : Int32) (r_6 : Int32 → Int32 → Option (Int32)) (y3 : Int32) (r_14 : Int32 → Int32 → Option (Int32)) (y2 : Int32) (y4 : Int32) : Option (Int32) := (if y3 ≤ y4 then fuel2 (b_X7_apart_70 z0 p1 r_6 y3) FU y2 (0 : Int32) else (if inb y3 4 = true then (if inb y4 4 = true then (f_X7_far (z0.2 38 y3.toNatClampNeg) (z0.2 38 y4.toNatClampNeg)).bind (fun v6 => (if y2 ≤ v6 then j_X7_apart_60 z0 p1 r_6 r_14 y3 y4 y2 else (if inb y3 4 = true then (if inb y4 4 = true then (f_X7_far (z0.2 38 y3.toNatClampNeg) (z0.2 38 y4.toNatClampNeg)).bind (fun v7 => j_X7_apart_60 z0 p1 r_6 r_14 y3 y4 v7) else none) else none))) else none) else none))
def b_X7_apart_6 (z0 : Ob) (p1 : Int32) (r_6 : Int32 → Int32 → Option (Int32)) (y2 : Int32) (y3 : Int32) : Option (Int32) := (if p1 ≤ y3 then some y2 else fuel2 (b_X7_apart_14 z0 p1 r_6 y3) FU y2 (0 : Int32))
def f_X7_apart (z0 : Ob) (p1 : Int32) : Option (Int32) := fuel2 (b_X7_apart_6 z0 p1) FU (1000 : Int32) (0 : Int32)
abbrev rm_X7_apart : Room := { frames := 1, cells := 0, slots := 0, locals := 23 }
theorem hd_X7_apart : yX7_apart.cls ≠ "java/lang/invoke/MethodHandle" ∧ yX7_apart.cls ≠ "java/lang/invoke/VarHandle" ∧ (parseMethodDescriptor yX7_apart.desc).map (fun d => d.parameters.length) = some 1 := by decide +kernel
theorem in_X7_apart_X7 : ∀ w ∈ wsX70, w ∈ wsX7_apart := fun w h => List.mem_cons_of_mem _ (List.mem_append_right _ h)
set_option maxHeartbeats 4000000 in
set_option maxRecDepth 100000 in
theorem c_X7_apart (l : Launch) (D : va_G) (ty : TY) (h0 : Nat) (a0 : Nat → Nat) (z0 : Ob) (p1 : Int32) (o0 : Int32) (hf : f_X7_apart z0 p1 = some o0) (sz : Nat) : CX l yX7_apart wsX7_apart rm_X7_apart ([.ref h0, .int p1] : List Value) D ty (fl [oX7 ty h0 a0 z0]) sz (qI D o0 (fl [oX7 ty h0 a0 z0])) 0 0 := by
  refine CX_of (cc := cX7_apart) (maxL := 5) (ret := (some .int)) (C := RX7) (by decide) rfl rfl (Nat.le_of_ble_eq_true rfl) ?_
  intro p e s m below meth c A ls F hr hlk _ hK hP hD hS hA hl
  have hx := F.1
  have hb := F.2.1
  replace hl : lv_has ls 5 [(0, .ref h0), (1, .int p1)] := hl
  unfold f_X7_apart at hf
  refine lv_sipush (v := (1000 : Int32)) hx hb dX7_apart_0 (by decide) ?_
  refine lv_istore_n (lv' := [(2, .int (1000 : Int32)), (0, .ref h0), (1, .int p1)]) hx hb dX7_apart_3 rfl hl (by decide) rfl (fun ls hl => ?_)
  refine lv_iconst (v := (0 : Int32)) hx hb dX7_apart_4 (by decide) ?_
  refine lv_istore_n (lv' := [(3, .int (0 : Int32)), (2, .int (1000 : Int32)), (0, .ref h0), (1, .int p1)]) hx hb dX7_apart_5 rfl hl (by decide) rfl (fun ls hl => ?_)
  have L_6 : ∀ (n : Nat) (y2 : Int32) (y3 : Int32) (H : Heap) (locs : List Loc) (ls : Array Slot), va_P D vwC (fl [oX7 ty h0 a0 z0]) H → va_D A (fl [oX7 ty h0 a0 z0]) → va_S A s.heap H locs → lv_has ls 5 [(0, .ref h0), (1, .int p1), (2, .int y2), (3, .int y3)] → fuel2 (b_X7_apart_6 z0 p1) n y2 y3 = some o0 → W p l e rm_X7_apart s m ([.ref h0, .int p1] : List Value).toArray below meth c H locs 0 0 (MQ below (qI D o0 (fl [oX7 ty h0 a0 z0]) A) ([.ref h0, .int p1] : List Value).toArray s 0 0 A) (F0 m 6 ls []) := by
    intro n
    induction n with
    | zero => intro y2 y3 H locs ls hP hD hS hl hf; cases hf
    | succ n ih_6 =>
      intro y2 y3 H locs ls hP hD hS hl hf
      replace hf : b_X7_apart_6 z0 p1 (fuel2 (b_X7_apart_6 z0 p1) n) y2 y3 = some o0 := hf
      generalize fuel2 (b_X7_apart_6 z0 p1) n = r_6 at ih_6 hf
      unfold b_X7_apart_6 at hf
      refine lv_iload_n hx hb dX7_apart_6 rfl (lv_at hl 3 rfl) ?_
      refine lv_iload_n hx hb dX7_apart_7 rfl (lv_at hl 1 rfl) ?_
      refine lv_icmp_ge (tgt := 132) hx hb dX7_apart_8 (by decide) (fun hc => ?_) (fun hc => ?_)
      · replace hf := ite_t hf hc
        refine lv_iload_n hx hb dX7_apart_132 rfl (lv_at hl 2 rfl) ?_
        obtain hf := hf
        have e0 := Option.some.inj hf
        exact CX_i F hr hlk hP hD hS e0 dX7_apart_133
      · replace hf := ite_f hf hc
        refine lv_iconst (v := (0 : Int32)) hx hb dX7_apart_11 (by decide) ?_
        refine lv_istore (lv' := [(4, .int (0 : Int32)), (0, .ref h0), (1, .int p1), (2, .int y2), (3, .int y3)]) hx hb dX7_apart_12 hl (by decide) rfl (fun ls hl => ?_)
        have L_14 : ∀ (y3 : Int32) (n : Nat) (y2 : Int32) (y4 : Int32) (H : Heap) (locs : List Loc) (ls : Array Slot), va_P D vwC (fl [oX7 ty h0 a0 z0]) H → va_D A (fl [oX7 ty h0 a0 z0]) → va_S A s.heap H locs → lv_has ls 5 [(0, .ref h0), (1, .int p1), (2, .int y2), (3, .int y3), (4, .int y4)] → fuel2 (b_X7_apart_14 z0 p1 r_6 y3) n y2 y4 = some o0 → W p l e rm_X7_apart s m ([.ref h0, .int p1] : List Value).toArray below meth c H locs 0 0 (MQ below (qI D o0 (fl [oX7 ty h0 a0 z0]) A) ([.ref h0, .int p1] : List Value).toArray s 0 0 A) (F0 m 14 ls []) := by
          intro y3 n
          induction n with
          | zero => intro y2 y4 H locs ls hP hD hS hl hf; cases hf
          | succ n ih_14 =>
            intro y2 y4 H locs ls hP hD hS hl hf
            replace hf : b_X7_apart_14 z0 p1 r_6 y3 (fuel2 (b_X7_apart_14 z0 p1 r_6 y3) n) y2 y4 = some o0 := hf
            generalize fuel2 (b_X7_apart_14 z0 p1 r_6 y3) n = r_14 at ih_14 hf
            unfold b_X7_apart_14 at hf
            have J_60 : ∀ (y4 : Int32) (t0 : Int32) (H : Heap) (locs : List Loc) (ls : Array Slot), va_P D vwC (fl [oX7 ty h0 a0 z0]) H → va_D A (fl [oX7 ty h0 a0 z0]) → va_S A s.heap H locs → lv_has ls 5 [(0, .ref h0), (1, .int p1), (3, .int y3), (4, .int y4)] → j_X7_apart_60 z0 p1 r_6 r_14 y3 y4 t0 = some o0 → W p l e rm_X7_apart s m ([.ref h0, .int p1] : List Value).toArray below meth c H locs 0 0 (MQ below (qI D o0 (fl [oX7 ty h0 a0 z0]) A) ([.ref h0, .int p1] : List Value).toArray s 0 0 A) (F0 m 60 ls [.int t0]) := by
              intro y4 t0 H locs ls hP hD hS hl hf
              unfold j_X7_apart_60 at hf
              refine lv_istore_n (lv' := [(2, .int t0), (0, .ref h0), (1, .int p1), (3, .int y3), (4, .int y4)]) hx hb dX7_apart_60 rfl hl (by decide) rfl (fun ls hl => ?_)
              obtain ⟨x1, ex⟩ : ∃ y : Int32, y = (y4 + (1 : Int32)) := ⟨_, rfl⟩
              replace hf := bnd_at hf ex
              refine lv_iinc (v := x1) (lv' := [(4, .int x1), (2, .int t0), (0, .ref h0), (1, .int p1), (3, .int y3)]) hx hb dX7_apart_61 hl (k := 4) rfl (by rw [ex]; rfl) (by decide) rfl (fun ls hl => ?_)
              clear ex
              refine lv_goto (tgt := 14) hx hb dX7_apart_64 (by decide) ?_
              exact ih_14 t0 x1 _ _ _ hP hD hS (lv_sub hl [2, 3, 1, 4, 0] rfl) hf
            refine lv_iload hx hb dX7_apart_14 (lv_at hl 4 rfl) ?_
            refine lv_iload_n hx hb dX7_apart_16 rfl (lv_at hl 3 rfl) ?_
            refine lv_icmp_ge (tgt := 67) hx hb dX7_apart_17 (by decide) (fun hc => ?_) (fun hc => ?_)
            · replace hf := ite_t hf hc
              refine lv_iconst (v := (0 : Int32)) hx hb dX7_apart_67 (by decide) ?_
              refine lv_istore (lv' := [(4, .int (0 : Int32)), (0, .ref h0), (1, .int p1), (2, .int y2), (3, .int y3)]) hx hb dX7_apart_68 hl (by decide) rfl (fun ls hl => ?_)
              have L_70 : ∀ (y3 : Int32) (n : Nat) (y2 : Int32) (y4 : Int32) (H : Heap) (locs : List Loc) (ls : Array Slot), va_P D vwC (fl [oX7 ty h0 a0 z0]) H → va_D A (fl [oX7 ty h0 a0 z0]) → va_S A s.heap H locs → lv_has ls 5 [(0, .ref h0), (1, .int p1), (2, .int y2), (3, .int y3), (4, .int y4)] → fuel2 (b_X7_apart_70 z0 p1 r_6 y3) n y2 y4 = some o0 → W p l e rm_X7_apart s m ([.ref h0, .int p1] : List Value).toArray below meth c H locs 0 0 (MQ below (qI D o0 (fl [oX7 ty h0 a0 z0]) A) ([.ref h0, .int p1] : List Value).toArray s 0 0 A) (F0 m 70 ls []) := by
                intro y3 n
                induction n with
                | zero => intro y2 y4 H locs ls hP hD hS hl hf; cases hf
                | succ n ih_70 =>
                  intro y2 y4 H locs ls hP hD hS hl hf
                  replace hf : b_X7_apart_70 z0 p1 r_6 y3 (fuel2 (b_X7_apart_70 z0 p1 r_6 y3) n) y2 y4 = some o0 := hf
                  generalize fuel2 (b_X7_apart_70 z0 p1 r_6 y3) n = r_70 at ih_70 hf
                  unfold b_X7_apart_70 at hf
                  have J_119 : ∀ (y4 : Int32) (t0 : Int32) (H : Heap) (locs : List Loc) (ls : Array Slot), va_P D vwC (fl [oX7 ty h0 a0 z0]) H → va_D A (fl [oX7 ty h0 a0 z0]) → va_S A s.heap H locs → lv_has ls 5 [(0, .ref h0), (1, .int p1), (3, .int y3), (4, .int y4)] → j_X7_apart_119 z0 p1 r_6 r_70 y3 y4 t0 = some o0 → W p l e rm_X7_apart s m ([.ref h0, .int p1] : List Value).toArray below meth c H locs 0 0 (MQ below (qI D o0 (fl [oX7 ty h0 a0 z0]) A) ([.ref h0, .int p1] : List Value).toArray s 0 0 A) (F0 m 119 ls [.int t0]) := by
                    intro y4 t0 H locs ls hP hD hS hl hf
                    unfold j_X7_apart_119 at hf
                    refine lv_istore_n (lv' := [(2, .int t0), (0, .ref h0), (1, .int p1), (3, .int y3), (4, .int y4)]) hx hb dX7_apart_119 rfl hl (by decide) rfl (fun ls hl => ?_)
                    obtain ⟨x2, ex⟩ : ∃ y : Int32, y = (y4 + (1 : Int32)) := ⟨_, rfl⟩
                    replace hf := bnd_at hf ex
                    refine lv_iinc (v := x2) (lv' := [(4, .int x2), (2, .int t0), (0, .ref h0), (1, .int p1), (3, .int y3)]) hx hb dX7_apart_120 hl (k := 4) rfl (by rw [ex]; rfl) (by decide) rfl (fun ls hl => ?_)
                    clear ex
                    refine lv_goto (tgt := 70) hx hb dX7_apart_123 (by decide) ?_
                    exact ih_70 t0 x2 _ _ _ hP hD hS (lv_sub hl [2, 3, 1, 4, 0] rfl) hf
                  refine lv_iload hx hb dX7_apart_70 (lv_at hl 4 rfl) ?_
                  refine lv_aload_n hx hb dX7_apart_72 rfl (lv_at hl 0 rfl) ?_
                  refine va_get (D := D) (ci := 7) (C := RX7) (T := TX7) (N := 40) hx hb F.2.2.2.2 in_X7_apart_X7 F.2.2.2.1 hK.1 hP 0 rfl rfl 4 (Nat.le_of_ble_eq_true rfl) (F.2.2.2.2 (.fieldLink RX7 75 "LouderRoomModel" "rings" "I") (List.mem_of_getElem? (i := 2) rfl)) (fun _ h9 => h9) rfl dX7_apart_73 ?_
                  refine lv_icmp_ge (tgt := 126) hx hb dX7_apart_76 (by decide) (fun hc => ?_) (fun hc => ?_)
                  · replace hf := ite_t hf hc
                    obtain ⟨x3, ex⟩ : ∃ y : Int32, y = (y3 + (1 : Int32)) := ⟨_, rfl⟩
                    replace hf := bnd_at hf ex
                    refine lv_iinc (v := x3) (lv' := [(3, .int x3), (0, .ref h0), (1, .int p1), (2, .int y2), (4, .int y4)]) hx hb dX7_apart_126 hl (k := 3) rfl (by rw [ex]; rfl) (by decide) rfl (fun ls hl => ?_)
                    clear ex
                    refine lv_goto (tgt := 6) hx hb dX7_apart_129 (by decide) ?_
                    exact ih_6 y2 x3 _ _ _ hP hD hS (lv_sub hl [1, 2, 3, 0] rfl) hf
                  · replace hf := ite_f hf hc
                    refine lv_aload_n hx hb dX7_apart_79 rfl (lv_at hl 0 rfl) ?_
                    refine va_get (D := D) (ci := 7) (C := RX7) (T := TX7) (N := 40) hx hb F.2.2.2.2 in_X7_apart_X7 F.2.2.2.1 hK.1 hP 0 rfl rfl 38 (Nat.le_of_ble_eq_true rfl) (F.2.2.2.2 (.fieldLink RX7 65 "LouderRoomModel" "set" "[I") (List.mem_of_getElem? (i := 1) rfl)) (fun _ h9 => h9) rfl dX7_apart_80 ?_
                    refine lv_iload_n hx hb dX7_apart_83 rfl (lv_at hl 3 rfl) ?_
                    obtain ⟨hi, hf⟩ := grd hf
                    refine va_iald hx hb hK.1 hP 19 0 rfl rfl (inb_in hi) dX7_apart_84 ?_
                    refine lv_aload_n hx hb dX7_apart_85 rfl (lv_at hl 0 rfl) ?_
                    refine va_get (D := D) (ci := 7) (C := RX7) (T := TX7) (N := 40) hx hb F.2.2.2.2 in_X7_apart_X7 F.2.2.2.1 hK.1 hP 0 rfl rfl 6 (Nat.le_of_ble_eq_true rfl) (F.2.2.2.2 (.fieldLink RX7 16 "LouderRoomModel" "cell" "[I") (List.mem_of_getElem? (i := 3) rfl)) (fun _ h9 => h9) rfl dX7_apart_86 ?_
                    refine lv_iload hx hb dX7_apart_89 (lv_at hl 4 rfl) ?_
                    obtain ⟨hi, hf⟩ := grd hf
                    refine va_iald hx hb hK.1 hP 3 0 rfl rfl (inb_in hi) dX7_apart_91 ?_
                    obtain ⟨v4, hv, hf⟩ := obd hf
                    have hp1 : List.Perm [oX7 ty h0 a0 z0] ([] ++ [oX7 ty h0 a0 z0]) := (List.Perm.refl _)
                    refine ci_call (out := v4) (os := [oX7 ty h0 a0 z0]) (oc := []) (oc' := []) (or_ := [oX7 ty h0 a0 z0]) (os' := [oX7 ty h0 a0 z0]) (va_runS (As := [.int (z0.2 38 y3.toNatClampNeg), .int (z0.2 6 y4.toNatClampNeg)]) (rest := []) F (c_X7_far l D ty _ _ _ hv _) (va_cwS 2 F.2.2.2.2 gX7_apart_X7_far rfl rfl rfl hd_X7_far ⟨Nat.le_of_ble_eq_true rfl, Nat.le_of_ble_eq_true rfl⟩) (pre_s hK hP hD hp1) rfl rfl hl.1 rfl (lv_room (Nat.le_of_ble_eq_true rfl)) dX7_apart_92 ⟨Nat.zero_le _, Nat.zero_le _⟩) hp1 (List.Perm.refl _) hP hD hS hA (fun H locs hP hD hS => ?_)
                    clear hp1 hv
                    refine lv_iload_n hx hb dX7_apart_95 rfl (lv_at hl 2 rfl) ?_
                    refine lv_icmp_ge (tgt := 118) hx hb dX7_apart_96 (by decide) (fun hc => ?_) (fun hc => ?_)
                    · replace hf := ite_t hf hc
                      refine lv_iload_n hx hb dX7_apart_118 rfl (lv_at hl 2 rfl) ?_
                      exact J_119 y4 y2 _ _ _ hP hD hS (lv_sub hl [0, 1, 3, 4] rfl) hf
                    · replace hf := ite_f hf hc
                      refine lv_aload_n hx hb dX7_apart_99 rfl (lv_at hl 0 rfl) ?_
                      refine va_get (D := D) (ci := 7) (C := RX7) (T := TX7) (N := 40) hx hb F.2.2.2.2 in_X7_apart_X7 F.2.2.2.1 hK.1 hP 0 rfl rfl 38 (Nat.le_of_ble_eq_true rfl) (F.2.2.2.2 (.fieldLink RX7 65 "LouderRoomModel" "set" "[I") (List.mem_of_getElem? (i := 1) rfl)) (fun _ h9 => h9) rfl dX7_apart_100 ?_
                      refine lv_iload_n hx hb dX7_apart_103 rfl (lv_at hl 3 rfl) ?_
                      obtain ⟨hi, hf⟩ := grd hf
                      refine va_iald hx hb hK.1 hP 19 0 rfl rfl (inb_in hi) dX7_apart_104 ?_
                      refine lv_aload_n hx hb dX7_apart_105 rfl (lv_at hl 0 rfl) ?_
                      refine va_get (D := D) (ci := 7) (C := RX7) (T := TX7) (N := 40) hx hb F.2.2.2.2 in_X7_apart_X7 F.2.2.2.1 hK.1 hP 0 rfl rfl 6 (Nat.le_of_ble_eq_true rfl) (F.2.2.2.2 (.fieldLink RX7 16 "LouderRoomModel" "cell" "[I") (List.mem_of_getElem? (i := 3) rfl)) (fun _ h9 => h9) rfl dX7_apart_106 ?_
                      refine lv_iload hx hb dX7_apart_109 (lv_at hl 4 rfl) ?_
                      obtain ⟨hi, hf⟩ := grd hf
                      refine va_iald hx hb hK.1 hP 3 0 rfl rfl (inb_in hi) dX7_apart_111 ?_
                      obtain ⟨v5, hv, hf⟩ := obd hf
                      have hp1 : List.Perm [oX7 ty h0 a0 z0] ([] ++ [oX7 ty h0 a0 z0]) := (List.Perm.refl _)
                      refine ci_call (out := v5) (os := [oX7 ty h0 a0 z0]) (oc := []) (oc' := []) (or_ := [oX7 ty h0 a0 z0]) (os' := [oX7 ty h0 a0 z0]) (va_runS (As := [.int (z0.2 38 y3.toNatClampNeg), .int (z0.2 6 y4.toNatClampNeg)]) (rest := []) F (c_X7_far l D ty _ _ _ hv _) (va_cwS 2 F.2.2.2.2 gX7_apart_X7_far rfl rfl rfl hd_X7_far ⟨Nat.le_of_ble_eq_true rfl, Nat.le_of_ble_eq_true rfl⟩) (pre_s hK hP hD hp1) rfl rfl hl.1 rfl (lv_room (Nat.le_of_ble_eq_true rfl)) dX7_apart_112 ⟨Nat.zero_le _, Nat.zero_le _⟩) hp1 (List.Perm.refl _) hP hD hS hA (fun H locs hP hD hS => ?_)
                      clear hp1 hv
                      refine lv_goto (tgt := 119) hx hb dX7_apart_115 (by decide) ?_
                      exact J_119 y4 v5 _ _ _ hP hD hS (lv_sub hl [0, 1, 3, 4] rfl) hf
              exact L_70 y3 FU y2 (0 : Int32) _ _ _ hP hD hS (lv_sub hl [1, 2, 3, 4, 0] rfl) hf
            · replace hf := ite_f hf hc
              refine lv_aload_n hx hb dX7_apart_20 rfl (lv_at hl 0 rfl) ?_
              refine va_get (D := D) (ci := 7) (C := RX7) (T := TX7) (N := 40) hx hb F.2.2.2.2 in_X7_apart_X7 F.2.2.2.1 hK.1 hP 0 rfl rfl 38 (Nat.le_of_ble_eq_true rfl) (F.2.2.2.2 (.fieldLink RX7 65 "LouderRoomModel" "set" "[I") (List.mem_of_getElem? (i := 1) rfl)) (fun _ h9 => h9) rfl dX7_apart_21 ?_
              refine lv_iload_n hx hb dX7_apart_24 rfl (lv_at hl 3 rfl) ?_
              obtain ⟨hi, hf⟩ := grd hf
              refine va_iald hx hb hK.1 hP 19 0 rfl rfl (inb_in hi) dX7_apart_25 ?_
              refine lv_aload_n hx hb dX7_apart_26 rfl (lv_at hl 0 rfl) ?_
              refine va_get (D := D) (ci := 7) (C := RX7) (T := TX7) (N := 40) hx hb F.2.2.2.2 in_X7_apart_X7 F.2.2.2.1 hK.1 hP 0 rfl rfl 38 (Nat.le_of_ble_eq_true rfl) (F.2.2.2.2 (.fieldLink RX7 65 "LouderRoomModel" "set" "[I") (List.mem_of_getElem? (i := 1) rfl)) (fun _ h9 => h9) rfl dX7_apart_27 ?_
              refine lv_iload hx hb dX7_apart_30 (lv_at hl 4 rfl) ?_
              obtain ⟨hi, hf⟩ := grd hf
              refine va_iald hx hb hK.1 hP 19 0 rfl rfl (inb_in hi) dX7_apart_32 ?_
              obtain ⟨v6, hv, hf⟩ := obd hf
              have hp1 : List.Perm [oX7 ty h0 a0 z0] ([] ++ [oX7 ty h0 a0 z0]) := (List.Perm.refl _)
              refine ci_call (out := v6) (os := [oX7 ty h0 a0 z0]) (oc := []) (oc' := []) (or_ := [oX7 ty h0 a0 z0]) (os' := [oX7 ty h0 a0 z0]) (va_runS (As := [.int (z0.2 38 y3.toNatClampNeg), .int (z0.2 38 y4.toNatClampNeg)]) (rest := []) F (c_X7_far l D ty _ _ _ hv _) (va_cwS 2 F.2.2.2.2 gX7_apart_X7_far rfl rfl rfl hd_X7_far ⟨Nat.le_of_ble_eq_true rfl, Nat.le_of_ble_eq_true rfl⟩) (pre_s hK hP hD hp1) rfl rfl hl.1 rfl (lv_room (Nat.le_of_ble_eq_true rfl)) dX7_apart_33 ⟨Nat.zero_le _, Nat.zero_le _⟩) hp1 (List.Perm.refl _) hP hD hS hA (fun H locs hP hD hS => ?_)
              clear hp1 hv
              refine lv_iload_n hx hb dX7_apart_36 rfl (lv_at hl 2 rfl) ?_
              refine lv_icmp_ge (tgt := 59) hx hb dX7_apart_37 (by decide) (fun hc => ?_) (fun hc => ?_)
              · replace hf := ite_t hf hc
                refine lv_iload_n hx hb dX7_apart_59 rfl (lv_at hl 2 rfl) ?_
                exact J_60 y4 y2 _ _ _ hP hD hS (lv_sub hl [0, 1, 3, 4] rfl) hf
              · replace hf := ite_f hf hc
                refine lv_aload_n hx hb dX7_apart_40 rfl (lv_at hl 0 rfl) ?_
                refine va_get (D := D) (ci := 7) (C := RX7) (T := TX7) (N := 40) hx hb F.2.2.2.2 in_X7_apart_X7 F.2.2.2.1 hK.1 hP 0 rfl rfl 38 (Nat.le_of_ble_eq_true rfl) (F.2.2.2.2 (.fieldLink RX7 65 "LouderRoomModel" "set" "[I") (List.mem_of_getElem? (i := 1) rfl)) (fun _ h9 => h9) rfl dX7_apart_41 ?_
                refine lv_iload_n hx hb dX7_apart_44 rfl (lv_at hl 3 rfl) ?_
                obtain ⟨hi, hf⟩ := grd hf
                refine va_iald hx hb hK.1 hP 19 0 rfl rfl (inb_in hi) dX7_apart_45 ?_
                refine lv_aload_n hx hb dX7_apart_46 rfl (lv_at hl 0 rfl) ?_
                refine va_get (D := D) (ci := 7) (C := RX7) (T := TX7) (N := 40) hx hb F.2.2.2.2 in_X7_apart_X7 F.2.2.2.1 hK.1 hP 0 rfl rfl 38 (Nat.le_of_ble_eq_true rfl) (F.2.2.2.2 (.fieldLink RX7 65 "LouderRoomModel" "set" "[I") (List.mem_of_getElem? (i := 1) rfl)) (fun _ h9 => h9) rfl dX7_apart_47 ?_
                refine lv_iload hx hb dX7_apart_50 (lv_at hl 4 rfl) ?_
                obtain ⟨hi, hf⟩ := grd hf
                refine va_iald hx hb hK.1 hP 19 0 rfl rfl (inb_in hi) dX7_apart_52 ?_
                obtain ⟨v7, hv, hf⟩ := obd hf
                have hp1 : List.Perm [oX7 ty h0 a0 z0] ([] ++ [oX7 ty h0 a0 z0]) := (List.Perm.refl _)
                refine ci_call (out := v7) (os := [oX7 ty h0 a0 z0]) (oc := []) (oc' := []) (or_ := [oX7 ty h0 a0 z0]) (os' := [oX7 ty h0 a0 z0]) (va_runS (As := [.int (z0.2 38 y3.toNatClampNeg), .int (z0.2 38 y4.toNatClampNeg)]) (rest := []) F (c_X7_far l D ty _ _ _ hv _) (va_cwS 2 F.2.2.2.2 gX7_apart_X7_far rfl rfl rfl hd_X7_far ⟨Nat.le_of_ble_eq_true rfl, Nat.le_of_ble_eq_true rfl⟩) (pre_s hK hP hD hp1) rfl rfl hl.1 rfl (lv_room (Nat.le_of_ble_eq_true rfl)) dX7_apart_53 ⟨Nat.zero_le _, Nat.zero_le _⟩) hp1 (List.Perm.refl _) hP hD hS hA (fun H locs hP hD hS => ?_)
                clear hp1 hv
                refine lv_goto (tgt := 60) hx hb dX7_apart_56 (by decide) ?_
                exact J_60 y4 v7 _ _ _ hP hD hS (lv_sub hl [0, 1, 3, 4] rfl) hf
        exact L_14 y3 FU y2 (0 : Int32) _ _ _ hP hD hS (lv_sub hl [1, 2, 3, 4, 0] rfl) hf
  exact L_6 FU (1000 : Int32) (0 : Int32) _ _ _ hP hD hS (lv_sub hl [2, 3, 1, 0] rfl) hf
def j_X7_findTables_259 (p1 : Int32) (p2 : Int32) (p3 : Int32) (r_106 : Int32 → Int32 → Ob → Option (Int32 × Ob)) (y4 : Int32) (y6 : Int32) (y5 : Int32) (y7 : Int32) (w0 : Ob) : Option (Int32 × Ob) := bnd (y7 + (1 : Int32)) (fun x1 => r_106 y5 x1 w0)
def b_X7_findTables_233 (p1 : Int32) (p2 : Int32) (p3 : Int32) (r_106 : Int32 → Int32 → Ob → Option (Int32 × Ob)) (y4 : Int32) (y6 : Int32) (y5 : Int32) (y7 : Int32) (r_233 : Int32 → Ob → Option (Int32 × Ob)) (y11 : Int32) (w0 : Ob) : Option (Int32 × Ob) := (if p1 ≤ y11 then j_X7_findTables_259 p1 p2 p3 r_106 y4 y6 y5 y7 w0 else (if inb y11 4 = true then (if inb y11 4 = true then bnd (sA w0 39 (upd (w0.2 39) y11.toNatClampNeg (w0.2 38 y11.toNatClampNeg))) (fun g4 => bnd (y11 + (1 : Int32)) (fun x5 => r_233 x5 g4)) else none) else none))
def j_X7_findTables_208 (p1 : Int32) (p2 : Int32) (p3 : Int32) (r_106 : Int32 → Int32 → Ob → Option (Int32 × Ob)) (y4 : Int32) (y6 : Int32) (y5 : Int32) (y7 : Int32) (y10 : Int32) (w0 : Ob) : Option (Int32 × Ob) := (if y10 = 0 then j_X7_findTables_259 p1 p2 p3 r_106 y4 y6 y5 y7 w0 else (f_X7_apart w0 p1).bind (fun v2 => (if v2 ≤ y5 then j_X7_findTables_259 p1 p2 p3 r_106 y4 y6 y5 y7 w0 else (f_X7_apart w0 p1).bind (fun v3 => fuel2 (b_X7_findTables_233 p1 p2 p3 r_106 y4 y6 v3 y7) FU (0 : Int32) w0))))
def j_X7_findTables_201 (p1 : Int32) (p2 : Int32) (p3 : Int32) (r_106 : Int32 → Int32 → Ob → Option (Int32 × Ob)) (r_126 : Int32 → Int32 → Int32 → Int32 → Ob → Option (Int32 × Ob)) (y4 : Int32) (y5 : Int32) (y6 : Int32) (y7 : Int32) (y8 : Int32) (y9 : Int32) (y10 : Int32) (y11 : Int32) (t0 : Int32) (t1 : Int32) (w0 : Ob) : Option (Int32 × Ob) := (if inb t1 4 = true then bnd (sA w0 38 (upd (w0.2 38) t1.toNatClampNeg t0)) (fun g6 => bnd (y11 + (1 : Int32)) (fun x7 => r_126 y8 y9 y10 x7 g6)) else none)
def j_X7_findTables_173 (p1 : Int32) (p2 : Int32) (p3 : Int32) (r_106 : Int32 → Int32 → Ob → Option (Int32 × Ob)) (r_126 : Int32 → Int32 → Int32 → Int32 → Ob → Option (Int32 × Ob)) (y4 : Int32) (y5 : Int32) (y6 : Int32) (y7 : Int32) (y8 : Int32) (y11 : Int32) (y12 : Int32) (t0 : Int32) (w0 : Ob) : Option (Int32 × Ob) := (if t0 = 0 then j_X7_findTables_201 p1 p2 p3 r_106 r_126 y4 y5 y6 y7 y8 y12 t0 y11 (0 : Int32) y11 w0 else (if inb y12 10 = true then j_X7_findTables_201 p1 p2 p3 r_106 r_126 y4 y5 y6 y7 y8 y12 t0 y11 (w0.2 37 y12.toNatClampNeg) y11 w0 else none))
def j_X7_findTables_172 (p1 : Int32) (p2 : Int32) (p3 : Int32) (r_106 : Int32 → Int32 → Ob → Option (Int32 × Ob)) (r_126 : Int32 → Int32 → Int32 → Int32 → Ob → Option (Int32 × Ob)) (y4 : Int32) (y5 : Int32) (y6 : Int32) (y7 : Int32) (y8 : Int32) (y11 : Int32) (y12 : Int32) (w0 : Ob) : Option (Int32 × Ob) := j_X7_findTables_173 p1 p2 p3 r_106 r_126 y4 y5 y6 y7 y8 y11 y12 (0 : Int32) w0
def b_X7_findTables_126 (p1 : Int32) (p2 : Int32) (p3 : Int32) (r_106 : Int32 → Int32 → Ob → Option (Int32 × Ob)) (y4 : Int32) (y6 : Int32) (y5 : Int32) (y7 : Int32) (r_126 : Int32 → Int32 → Int32 → Int32 → Ob → Option (Int32 × Ob)) (y8 : Int32) (y9 : Int32) (y10 : Int32) (y11 : Int32) (w0 : Ob) : Option (Int32 × Ob) := (if p1 ≤ y11 then j_X7_findTables_208 p1 p2 p3 r_106 y4 y6 y5 y7 y10 w0 else (if y10 = 0 then j_X7_findTables_208 p1 p2 p3 r_106 y4 y6 y5 y7 y10 w0 else bnd (y8 / (10 : Int32)) (fun x8 => (if x8 = 0 then none else bnd ((y7 / x8) - (y7 / x8) / (10 : Int32) * (10 : Int32)) (fun x9 => (if x9 ≤ y9 then j_X7_findTables_172 p1 p2 p3 r_106 r_126 y4 y5 y6 y7 x8 y11 x9 w0 else (if y4 ≤ x9 then j_X7_findTables_172 p1 p2 p3 r_106 r_126 y4 y5 y6 y7 x8 y11 x9 w0 else j_X7_findTables_173 p1 p2 p3 r_106 r_126 y4 y5 y6 y7 x8 y11 x9 (1 : Int32) w0)))))))
def b_X7_findTables_106 (p1 : Int32) (p2 : Int32) (p3 : Int32) (y4 : Int32) (y6 : Int32) (r_106 : Int32 → Int32 → Ob → Option (Int32 × Ob)) (y5 : Int32) (y7 : Int32) (w0 : Ob) : Option (Int32 × Ob) := (if y6 ≤ y7 then some (y5, w0) else fuel5 (b_X7_findTables_126 p1 p2 p3 r_106 y4 y6 y5 y7) FU y6 (-1 : Int32) (1 : Int32) (0 : Int32) w0)
def j_X7_findTables_101 (p1 : Int32) (p2 : Int32) (p3 : Int32) (y4 : Int32) (y5 : Int32) (t0 : Int32) (w0 : Ob) : Option (Int32 × Ob) := fuel3 (b_X7_findTables_106 p1 p2 p3 y4 t0) FU y5 (0 : Int32) w0
def j_X7_findTables_57 (p1 : Int32) (p2 : Int32) (p3 : Int32) (r_6 : Int32 → Int32 → Ob → Option (Int32 × Ob)) (y4 : Int32) (y5 : Int32) (w0 : Ob) : Option (Int32 × Ob) := bnd (y5 + (1 : Int32)) (fun x10 => r_6 y4 x10 w0)
def j_X7_findTables_34 (p1 : Int32) (p2 : Int32) (p3 : Int32) (r_6 : Int32 → Int32 → Ob → Option (Int32 × Ob)) (y4 : Int32) (y5 : Int32) (t0 : Int32) (w0 : Ob) : Option (Int32 × Ob) := (f_X7_isTaken w0 t0).bind (fun v11 => (if v11 = 0 then (if inb y4 10 = true then bnd (sA w0 37 (upd (w0.2 37) y4.toNatClampNeg t0)) (fun g12 => bnd (y4 + (1 : Int32)) (fun x13 => j_X7_findTables_57 p1 p2 p3 r_6 x13 y5 g12)) else none) else j_X7_findTables_57 p1 p2 p3 r_6 y4 y5 w0))
def b_X7_findTables_6 (p1 : Int32) (p2 : Int32) (p3 : Int32) (r_6 : Int32 → Int32 → Ob → Option (Int32 × Ob)) (y4 : Int32) (y5 : Int32) (w0 : Ob) : Option (Int32 × Ob) := (if (10 : Int32) ≤ y5 then (if p1 = (1 : Int32) then j_X7_findTables_101 p1 p2 p3 y4 (-9 : Int32) (10 : Int32) w0 else (if p1 = (2 : Int32) then j_X7_findTables_101 p1 p2 p3 y4 (-9 : Int32) (100 : Int32) w0 else (if p1 = (3 : Int32) then j_X7_findTables_101 p1 p2 p3 y4 (-9 : Int32) (1000 : Int32) w0 else j_X7_findTables_101 p1 p2 p3 y4 (-9 : Int32) (10000 : Int32) w0))) else (if p2 = 0 then j_X7_findTables_34 p1 p2 p3 r_6 y4 y5 (((10 : Int32) * p3) + y5) w0 else j_X7_findTables_34 p1 p2 p3 r_6 y4 y5 (((10 : Int32) * y5) + p3) w0))
def f_X7_findTables (z0 : Ob) (p1 : Int32) (p2 : Int32) (p3 : Int32) : Option (Int32 × Ob) := fuel3 (b_X7_findTables_6 p1 p2 p3) FU (0 : Int32) (0 : Int32) z0
abbrev rm_X7_findTables : Room := { frames := 2, cells := 0, slots := 0, locals := 47 }
theorem hd_X7_findTables : yX7_findTables.cls ≠ "java/lang/invoke/MethodHandle" ∧ yX7_findTables.cls ≠ "java/lang/invoke/VarHandle" ∧ (parseMethodDescriptor yX7_findTables.desc).map (fun d => d.parameters.length) = some 3 := by decide +kernel
theorem in_X7_findTables_X7 : ∀ w ∈ wsX70, w ∈ wsX7_findTables := fun w h => List.mem_cons_of_mem _ (List.mem_append_right _ h)
set_option maxHeartbeats 4000000 in
set_option maxRecDepth 100000 in
theorem c_X7_findTables (l : Launch) (D : va_G) (ty : TY) (h0 : Nat) (a0 : Nat → Nat) (z0 : Ob) (p1 : Int32) (p2 : Int32) (p3 : Int32) (o0 : Int32) (o1 : Ob) (hf : f_X7_findTables z0 p1 p2 p3 = some (o0, o1)) (sz : Nat) : CX l yX7_findTables wsX7_findTables rm_X7_findTables ([.ref h0, .int p1, .int p2, .int p3] : List Value) D ty (fl [oX7 ty h0 a0 z0]) sz (qI D o0 (fl [oX7 ty h0 a0 o1])) 0 0 := by
  refine CX_of (cc := cX7_findTables) (maxL := 13) (ret := (some .int)) (C := RX7) (by decide) rfl rfl (Nat.le_of_ble_eq_true rfl) ?_
  intro p e s m below meth c A ls F hr hlk _ hK hP hD hS hA hl
  have hx := F.1
  have hb := F.2.1
  replace hl : lv_has ls 13 [(0, .ref h0), (1, .int p1), (2, .int p2), (3, .int p3)] := hl
  unfold f_X7_findTables at hf
  have J_101 : ∀ (y4 : Int32) (y5 : Int32) (t0 : Int32) (w0 : Ob) (H : Heap) (locs : List Loc) (ls : Array Slot), va_P D vwC (fl [oX7 ty h0 a0 w0]) H → va_D A (fl [oX7 ty h0 a0 w0]) → va_S A s.heap H locs → lv_has ls 13 [(0, .ref h0), (1, .int p1), (4, .int y4), (5, .int y5)] → j_X7_findTables_101 p1 p2 p3 y4 y5 t0 w0 = some (o0, o1) → W p l e rm_X7_findTables s m ([.ref h0, .int p1, .int p2, .int p3] : List Value).toArray below meth c H locs 0 0 (MQ below (qI D o0 (fl [oX7 ty h0 a0 o1]) A) ([.ref h0, .int p1, .int p2, .int p3] : List Value).toArray s 0 0 A) (F0 m 101 ls [.int t0]) := by
    intro y4 y5 t0 w0 H locs ls hP hD hS hl hf
    unfold j_X7_findTables_101 at hf
    refine lv_istore (lv' := [(6, .int t0), (0, .ref h0), (1, .int p1), (4, .int y4), (5, .int y5)]) hx hb dX7_findTables_101 hl (by decide) rfl (fun ls hl => ?_)
    refine lv_iconst (v := (0 : Int32)) hx hb dX7_findTables_103 (by decide) ?_
    refine lv_istore (lv' := [(7, .int (0 : Int32)), (6, .int t0), (0, .ref h0), (1, .int p1), (4, .int y4), (5, .int y5)]) hx hb dX7_findTables_104 hl (by decide) rfl (fun ls hl => ?_)
    have L_106 : ∀ (y4 : Int32) (y6 : Int32) (n : Nat) (y5 : Int32) (y7 : Int32) (w0 : Ob) (H : Heap) (locs : List Loc) (ls : Array Slot), va_P D vwC (fl [oX7 ty h0 a0 w0]) H → va_D A (fl [oX7 ty h0 a0 w0]) → va_S A s.heap H locs → lv_has ls 13 [(0, .ref h0), (1, .int p1), (4, .int y4), (5, .int y5), (6, .int y6), (7, .int y7)] → fuel3 (b_X7_findTables_106 p1 p2 p3 y4 y6) n y5 y7 w0 = some (o0, o1) → W p l e rm_X7_findTables s m ([.ref h0, .int p1, .int p2, .int p3] : List Value).toArray below meth c H locs 0 0 (MQ below (qI D o0 (fl [oX7 ty h0 a0 o1]) A) ([.ref h0, .int p1, .int p2, .int p3] : List Value).toArray s 0 0 A) (F0 m 106 ls []) := by
      intro y4 y6 n
      induction n with
      | zero => intro y5 y7 w0 H locs ls hP hD hS hl hf; cases hf
      | succ n ih_106 =>
        intro y5 y7 w0 H locs ls hP hD hS hl hf
        replace hf : b_X7_findTables_106 p1 p2 p3 y4 y6 (fuel3 (b_X7_findTables_106 p1 p2 p3 y4 y6) n) y5 y7 w0 = some (o0, o1) := hf
        generalize fuel3 (b_X7_findTables_106 p1 p2 p3 y4 y6) n = r_106 at ih_106 hf
        unfold b_X7_findTables_106 at hf
        have J_259 : ∀ (y5 : Int32) (y7 : Int32) (w0 : Ob) (H : Heap) (locs : List Loc) (ls : Array Slot), va_P D vwC (fl [oX7 ty h0 a0 w0]) H → va_D A (fl [oX7 ty h0 a0 w0]) → va_S A s.heap H locs → lv_has ls 13 [(0, .ref h0), (1, .int p1), (4, .int y4), (5, .int y5), (6, .int y6), (7, .int y7)] → j_X7_findTables_259 p1 p2 p3 r_106 y4 y6 y5 y7 w0 = some (o0, o1) → W p l e rm_X7_findTables s m ([.ref h0, .int p1, .int p2, .int p3] : List Value).toArray below meth c H locs 0 0 (MQ below (qI D o0 (fl [oX7 ty h0 a0 o1]) A) ([.ref h0, .int p1, .int p2, .int p3] : List Value).toArray s 0 0 A) (F0 m 259 ls []) := by
          intro y5 y7 w0 H locs ls hP hD hS hl hf
          unfold j_X7_findTables_259 at hf
          obtain ⟨x1, ex⟩ : ∃ y : Int32, y = (y7 + (1 : Int32)) := ⟨_, rfl⟩
          replace hf := bnd_at hf ex
          refine lv_iinc (v := x1) (lv' := [(7, .int x1), (0, .ref h0), (1, .int p1), (4, .int y4), (5, .int y5), (6, .int y6)]) hx hb dX7_findTables_259 hl (k := 5) rfl (by rw [ex]; rfl) (by decide) rfl (fun ls hl => ?_)
          clear ex
          refine lv_goto (tgt := 106) hx hb dX7_findTables_262 (by decide) ?_
          exact ih_106 y5 x1 w0 _ _ _ hP hD hS (lv_sub hl [1, 2, 3, 4, 5, 0] rfl) hf
        have J_208 : ∀ (y5 : Int32) (y7 : Int32) (y10 : Int32) (w0 : Ob) (H : Heap) (locs : List Loc) (ls : Array Slot), va_P D vwC (fl [oX7 ty h0 a0 w0]) H → va_D A (fl [oX7 ty h0 a0 w0]) → va_S A s.heap H locs → lv_has ls 13 [(0, .ref h0), (1, .int p1), (4, .int y4), (5, .int y5), (6, .int y6), (7, .int y7), (10, .int y10)] → j_X7_findTables_208 p1 p2 p3 r_106 y4 y6 y5 y7 y10 w0 = some (o0, o1) → W p l e rm_X7_findTables s m ([.ref h0, .int p1, .int p2, .int p3] : List Value).toArray below meth c H locs 0 0 (MQ below (qI D o0 (fl [oX7 ty h0 a0 o1]) A) ([.ref h0, .int p1, .int p2, .int p3] : List Value).toArray s 0 0 A) (F0 m 208 ls []) := by
          intro y5 y7 y10 w0 H locs ls hP hD hS hl hf
          unfold j_X7_findTables_208 at hf
          refine lv_iload hx hb dX7_findTables_208 (lv_at hl 6 rfl) ?_
          refine lv_if_eq (tgt := 259) hx hb dX7_findTables_210 (by decide) (fun hc => ?_) (fun hc => ?_)
          · replace hf := ite_t hf hc
            exact J_259 y5 y7 w0 _ _ _ hP hD hS (lv_sub hl [0, 1, 2, 3, 4, 5] rfl) hf
          · replace hf := ite_f hf hc
            refine lv_aload_n hx hb dX7_findTables_213 rfl (lv_at hl 0 rfl) ?_
            refine lv_iload_n hx hb dX7_findTables_214 rfl (lv_at hl 1 rfl) ?_
            obtain ⟨v2, hv, hf⟩ := obd hf
            have hp1 : List.Perm [oX7 ty h0 a0 w0] ([oX7 ty h0 a0 w0] ++ []) := (List.Perm.refl _)
            refine ci_call (out := v2) (os := [oX7 ty h0 a0 w0]) (oc := [oX7 ty h0 a0 w0]) (oc' := [oX7 ty h0 a0 w0]) (or_ := []) (os' := [oX7 ty h0 a0 w0]) (va_runV (As := [.int p1]) (rest := []) F (c_X7_apart l D ty h0 a0 _ _ _ hv _) (cwV 1 F.2.2.2.2 gX7_findTables_X7_apart rfl rfl rfl ⟨rfl, hd_X7_apart⟩ ⟨Nat.le_of_ble_eq_true rfl, Nat.le_of_ble_eq_true rfl⟩) (pre_v hK hP hD hp1 rfl rfl rfl) rfl rfl hl.1 rfl (lv_room (Nat.le_of_ble_eq_true rfl)) dX7_findTables_215 ⟨Nat.zero_le _, Nat.zero_le _⟩) hp1 (List.Perm.refl _) hP hD hS hA (fun H locs hP hD hS => ?_)
            clear hp1 hv
            refine lv_iload hx hb dX7_findTables_218 (lv_at hl 3 rfl) ?_
            refine lv_icmp_le (tgt := 259) hx hb dX7_findTables_220 (by decide) (fun hc => ?_) (fun hc => ?_)
            · replace hf := ite_t hf hc
              exact J_259 y5 y7 w0 _ _ _ hP hD hS (lv_sub hl [0, 1, 2, 3, 4, 5] rfl) hf
            · replace hf := ite_f hf hc
              refine lv_aload_n hx hb dX7_findTables_223 rfl (lv_at hl 0 rfl) ?_
              refine lv_iload_n hx hb dX7_findTables_224 rfl (lv_at hl 1 rfl) ?_
              obtain ⟨v3, hv, hf⟩ := obd hf
              have hp1 : List.Perm [oX7 ty h0 a0 w0] ([oX7 ty h0 a0 w0] ++ []) := (List.Perm.refl _)
              refine ci_call (out := v3) (os := [oX7 ty h0 a0 w0]) (oc := [oX7 ty h0 a0 w0]) (oc' := [oX7 ty h0 a0 w0]) (or_ := []) (os' := [oX7 ty h0 a0 w0]) (va_runV (As := [.int p1]) (rest := []) F (c_X7_apart l D ty h0 a0 _ _ _ hv _) (cwV 1 F.2.2.2.2 gX7_findTables_X7_apart rfl rfl rfl ⟨rfl, hd_X7_apart⟩ ⟨Nat.le_of_ble_eq_true rfl, Nat.le_of_ble_eq_true rfl⟩) (pre_v hK hP hD hp1 rfl rfl rfl) rfl rfl hl.1 rfl (lv_room (Nat.le_of_ble_eq_true rfl)) dX7_findTables_225 ⟨Nat.zero_le _, Nat.zero_le _⟩) hp1 (List.Perm.refl _) hP hD hS hA (fun H locs hP hD hS => ?_)
              clear hp1 hv
              refine lv_istore (lv' := [(5, .int v3), (0, .ref h0), (1, .int p1), (4, .int y4), (6, .int y6), (7, .int y7), (10, .int y10)]) hx hb dX7_findTables_228 hl (by decide) rfl (fun ls hl => ?_)
              refine lv_iconst (v := (0 : Int32)) hx hb dX7_findTables_230 (by decide) ?_
              refine lv_istore (lv' := [(11, .int (0 : Int32)), (5, .int v3), (0, .ref h0), (1, .int p1), (4, .int y4), (6, .int y6), (7, .int y7), (10, .int y10)]) hx hb dX7_findTables_231 hl (by decide) rfl (fun ls hl => ?_)
              have L_233 : ∀ (y5 : Int32) (y7 : Int32) (n : Nat) (y11 : Int32) (w0 : Ob) (H : Heap) (locs : List Loc) (ls : Array Slot), va_P D vwC (fl [oX7 ty h0 a0 w0]) H → va_D A (fl [oX7 ty h0 a0 w0]) → va_S A s.heap H locs → lv_has ls 13 [(0, .ref h0), (1, .int p1), (4, .int y4), (5, .int y5), (6, .int y6), (7, .int y7), (11, .int y11)] → fuel2 (b_X7_findTables_233 p1 p2 p3 r_106 y4 y6 y5 y7) n y11 w0 = some (o0, o1) → W p l e rm_X7_findTables s m ([.ref h0, .int p1, .int p2, .int p3] : List Value).toArray below meth c H locs 0 0 (MQ below (qI D o0 (fl [oX7 ty h0 a0 o1]) A) ([.ref h0, .int p1, .int p2, .int p3] : List Value).toArray s 0 0 A) (F0 m 233 ls []) := by
                intro y5 y7 n
                induction n with
                | zero => intro y11 w0 H locs ls hP hD hS hl hf; cases hf
                | succ n ih_233 =>
                  intro y11 w0 H locs ls hP hD hS hl hf
                  replace hf : b_X7_findTables_233 p1 p2 p3 r_106 y4 y6 y5 y7 (fuel2 (b_X7_findTables_233 p1 p2 p3 r_106 y4 y6 y5 y7) n) y11 w0 = some (o0, o1) := hf
                  generalize fuel2 (b_X7_findTables_233 p1 p2 p3 r_106 y4 y6 y5 y7) n = r_233 at ih_233 hf
                  unfold b_X7_findTables_233 at hf
                  refine lv_iload hx hb dX7_findTables_233 (lv_at hl 6 rfl) ?_
                  refine lv_iload_n hx hb dX7_findTables_235 rfl (lv_at hl 1 rfl) ?_
                  refine lv_icmp_ge (tgt := 259) hx hb dX7_findTables_236 (by decide) (fun hc => ?_) (fun hc => ?_)
                  · replace hf := ite_t hf hc
                    exact J_259 y5 y7 w0 _ _ _ hP hD hS (lv_sub hl [0, 1, 2, 3, 4, 5] rfl) hf
                  · replace hf := ite_f hf hc
                    refine lv_aload_n hx hb dX7_findTables_239 rfl (lv_at hl 0 rfl) ?_
                    refine va_get (D := D) (ci := 7) (C := RX7) (T := TX7) (N := 40) hx hb F.2.2.2.2 in_X7_findTables_X7 F.2.2.2.1 hK.1 hP 0 rfl rfl 39 (Nat.le_of_ble_eq_true rfl) (F.2.2.2.2 (.fieldLink RX7 68 "LouderRoomModel" "best" "[I") (List.mem_of_getElem? (i := 3) rfl)) (fun _ h9 => h9) rfl dX7_findTables_240 ?_
                    refine lv_iload hx hb dX7_findTables_243 (lv_at hl 6 rfl) ?_
                    refine lv_aload_n hx hb dX7_findTables_245 rfl (lv_at hl 0 rfl) ?_
                    refine va_get (D := D) (ci := 7) (C := RX7) (T := TX7) (N := 40) hx hb F.2.2.2.2 in_X7_findTables_X7 F.2.2.2.1 hK.1 hP 0 rfl rfl 38 (Nat.le_of_ble_eq_true rfl) (F.2.2.2.2 (.fieldLink RX7 65 "LouderRoomModel" "set" "[I") (List.mem_of_getElem? (i := 2) rfl)) (fun _ h9 => h9) rfl dX7_findTables_246 ?_
                    refine lv_iload hx hb dX7_findTables_249 (lv_at hl 6 rfl) ?_
                    obtain ⟨hi, hf⟩ := grd hf
                    refine va_iald hx hb hK.1 hP 19 0 rfl rfl (inb_in hi) dX7_findTables_251 ?_
                    obtain ⟨hi, hf⟩ := grd hf
                    refine pt_iast (w1 := fl [oX7 ty h0 a0 (sA w0 39 (upd (w0.2 39) y11.toNatClampNeg (w0.2 38 y11.toNatClampNeg)))]) F hK.1 hP hD hS 20 0 rfl rfl (inb_in hi) rfl dX7_findTables_252 (fun H locs hP hD hS => ?_)
                    obtain ⟨g4, ex⟩ : ∃ y : Ob, y = (sA w0 39 (upd (w0.2 39) y11.toNatClampNeg (w0.2 38 y11.toNatClampNeg))) := ⟨_, rfl⟩
                    replace hf := bnd_at hf ex; rw [← ex] at hP hD; clear ex
                    obtain ⟨x5, ex⟩ : ∃ y : Int32, y = (y11 + (1 : Int32)) := ⟨_, rfl⟩
                    replace hf := bnd_at hf ex
                    refine lv_iinc (v := x5) (lv' := [(11, .int x5), (0, .ref h0), (1, .int p1), (4, .int y4), (5, .int y5), (6, .int y6), (7, .int y7)]) hx hb dX7_findTables_253 hl (k := 6) rfl (by rw [ex]; rfl) (by decide) rfl (fun ls hl => ?_)
                    clear ex
                    refine lv_goto (tgt := 233) hx hb dX7_findTables_256 (by decide) ?_
                    exact ih_233 x5 g4 _ _ _ hP hD hS (lv_sub hl [1, 2, 3, 4, 5, 6, 0] rfl) hf
              exact L_233 v3 y7 FU (0 : Int32) w0 _ _ _ hP hD hS (lv_sub hl [2, 3, 4, 1, 5, 6, 0] rfl) hf
        refine lv_iload hx hb dX7_findTables_106 (lv_at hl 5 rfl) ?_
        refine lv_iload hx hb dX7_findTables_108 (lv_at hl 4 rfl) ?_
        refine lv_icmp_ge (tgt := 265) hx hb dX7_findTables_110 (by decide) (fun hc => ?_) (fun hc => ?_)
        · replace hf := ite_t hf hc
          refine lv_iload hx hb dX7_findTables_265 (lv_at hl 3 rfl) ?_
          obtain hf := hf
          obtain ⟨e0, e1⟩ := tup2 hf
          rw [e1] at hP hD
          exact CX_i F hr hlk hP hD hS e0 dX7_findTables_267
        · replace hf := ite_f hf hc
          refine lv_iload hx hb dX7_findTables_113 (lv_at hl 4 rfl) ?_
          refine lv_istore (lv' := [(8, .int y6), (0, .ref h0), (1, .int p1), (4, .int y4), (5, .int y5), (6, .int y6), (7, .int y7)]) hx hb dX7_findTables_115 hl (by decide) rfl (fun ls hl => ?_)
          refine lv_iconst (v := (-1 : Int32)) hx hb dX7_findTables_117 (by decide) ?_
          refine lv_istore (lv' := [(9, .int (-1 : Int32)), (8, .int y6), (0, .ref h0), (1, .int p1), (4, .int y4), (5, .int y5), (6, .int y6), (7, .int y7)]) hx hb dX7_findTables_118 hl (by decide) rfl (fun ls hl => ?_)
          refine lv_iconst (v := (1 : Int32)) hx hb dX7_findTables_120 (by decide) ?_
          refine lv_istore (lv' := [(10, .int (1 : Int32)), (9, .int (-1 : Int32)), (8, .int y6), (0, .ref h0), (1, .int p1), (4, .int y4), (5, .int y5), (6, .int y6), (7, .int y7)]) hx hb dX7_findTables_121 hl (by decide) rfl (fun ls hl => ?_)
          refine lv_iconst (v := (0 : Int32)) hx hb dX7_findTables_123 (by decide) ?_
          refine lv_istore (lv' := [(11, .int (0 : Int32)), (10, .int (1 : Int32)), (9, .int (-1 : Int32)), (8, .int y6), (0, .ref h0), (1, .int p1), (4, .int y4), (5, .int y5), (6, .int y6), (7, .int y7)]) hx hb dX7_findTables_124 hl (by decide) rfl (fun ls hl => ?_)
          have L_126 : ∀ (y5 : Int32) (y7 : Int32) (n : Nat) (y8 : Int32) (y9 : Int32) (y10 : Int32) (y11 : Int32) (w0 : Ob) (H : Heap) (locs : List Loc) (ls : Array Slot), va_P D vwC (fl [oX7 ty h0 a0 w0]) H → va_D A (fl [oX7 ty h0 a0 w0]) → va_S A s.heap H locs → lv_has ls 13 [(0, .ref h0), (1, .int p1), (4, .int y4), (5, .int y5), (6, .int y6), (7, .int y7), (8, .int y8), (9, .int y9), (10, .int y10), (11, .int y11)] → fuel5 (b_X7_findTables_126 p1 p2 p3 r_106 y4 y6 y5 y7) n y8 y9 y10 y11 w0 = some (o0, o1) → W p l e rm_X7_findTables s m ([.ref h0, .int p1, .int p2, .int p3] : List Value).toArray below meth c H locs 0 0 (MQ below (qI D o0 (fl [oX7 ty h0 a0 o1]) A) ([.ref h0, .int p1, .int p2, .int p3] : List Value).toArray s 0 0 A) (F0 m 126 ls []) := by
            intro y5 y7 n
            induction n with
            | zero => intro y8 y9 y10 y11 w0 H locs ls hP hD hS hl hf; cases hf
            | succ n ih_126 =>
              intro y8 y9 y10 y11 w0 H locs ls hP hD hS hl hf
              replace hf : b_X7_findTables_126 p1 p2 p3 r_106 y4 y6 y5 y7 (fuel5 (b_X7_findTables_126 p1 p2 p3 r_106 y4 y6 y5 y7) n) y8 y9 y10 y11 w0 = some (o0, o1) := hf
              generalize fuel5 (b_X7_findTables_126 p1 p2 p3 r_106 y4 y6 y5 y7) n = r_126 at ih_126 hf
              unfold b_X7_findTables_126 at hf
              have J_201 : ∀ (y8 : Int32) (y9 : Int32) (y10 : Int32) (y11 : Int32) (t0 : Int32) (t1 : Int32) (w0 : Ob) (H : Heap) (locs : List Loc) (ls : Array Slot), va_P D vwC (fl [oX7 ty h0 a0 w0]) H → va_D A (fl [oX7 ty h0 a0 w0]) → va_S A s.heap H locs → lv_has ls 13 [(0, .ref h0), (1, .int p1), (4, .int y4), (5, .int y5), (6, .int y6), (7, .int y7), (8, .int y8), (9, .int y9), (10, .int y10), (11, .int y11)] → j_X7_findTables_201 p1 p2 p3 r_106 r_126 y4 y5 y6 y7 y8 y9 y10 y11 t0 t1 w0 = some (o0, o1) → W p l e rm_X7_findTables s m ([.ref h0, .int p1, .int p2, .int p3] : List Value).toArray below meth c H locs 0 0 (MQ below (qI D o0 (fl [oX7 ty h0 a0 o1]) A) ([.ref h0, .int p1, .int p2, .int p3] : List Value).toArray s 0 0 A) (F0 m 201 ls [.int t0, .int t1, .ref (a0 38)]) := by
                intro y8 y9 y10 y11 t0 t1 w0 H locs ls hP hD hS hl hf
                unfold j_X7_findTables_201 at hf
                obtain ⟨hi, hf⟩ := grd hf
                refine pt_iast (w1 := fl [oX7 ty h0 a0 (sA w0 38 (upd (w0.2 38) t1.toNatClampNeg t0))]) F hK.1 hP hD hS 19 0 rfl rfl (inb_in hi) rfl dX7_findTables_201 (fun H locs hP hD hS => ?_)
                obtain ⟨g6, ex⟩ : ∃ y : Ob, y = (sA w0 38 (upd (w0.2 38) t1.toNatClampNeg t0)) := ⟨_, rfl⟩
                replace hf := bnd_at hf ex; rw [← ex] at hP hD; clear ex
                obtain ⟨x7, ex⟩ : ∃ y : Int32, y = (y11 + (1 : Int32)) := ⟨_, rfl⟩
                replace hf := bnd_at hf ex
                refine lv_iinc (v := x7) (lv' := [(11, .int x7), (0, .ref h0), (1, .int p1), (4, .int y4), (5, .int y5), (6, .int y6), (7, .int y7), (8, .int y8), (9, .int y9), (10, .int y10)]) hx hb dX7_findTables_202 hl (k := 9) rfl (by rw [ex]; rfl) (by decide) rfl (fun ls hl => ?_)
                clear ex
                refine lv_goto (tgt := 126) hx hb dX7_findTables_205 (by decide) ?_
                exact ih_126 y8 y9 y10 x7 g6 _ _ _ hP hD hS (lv_sub hl [1, 2, 3, 4, 5, 6, 7, 8, 9, 0] rfl) hf
              have J_173 : ∀ (y8 : Int32) (y11 : Int32) (y12 : Int32) (t0 : Int32) (w0 : Ob) (H : Heap) (locs : List Loc) (ls : Array Slot), va_P D vwC (fl [oX7 ty h0 a0 w0]) H → va_D A (fl [oX7 ty h0 a0 w0]) → va_S A s.heap H locs → lv_has ls 13 [(0, .ref h0), (1, .int p1), (4, .int y4), (5, .int y5), (6, .int y6), (7, .int y7), (8, .int y8), (11, .int y11), (12, .int y12)] → j_X7_findTables_173 p1 p2 p3 r_106 r_126 y4 y5 y6 y7 y8 y11 y12 t0 w0 = some (o0, o1) → W p l e rm_X7_findTables s m ([.ref h0, .int p1, .int p2, .int p3] : List Value).toArray below meth c H locs 0 0 (MQ below (qI D o0 (fl [oX7 ty h0 a0 o1]) A) ([.ref h0, .int p1, .int p2, .int p3] : List Value).toArray s 0 0 A) (F0 m 173 ls [.int t0]) := by
                intro y8 y11 y12 t0 w0 H locs ls hP hD hS hl hf
                unfold j_X7_findTables_173 at hf
                refine lv_istore (lv' := [(10, .int t0), (0, .ref h0), (1, .int p1), (4, .int y4), (5, .int y5), (6, .int y6), (7, .int y7), (8, .int y8), (11, .int y11), (12, .int y12)]) hx hb dX7_findTables_173 hl (by decide) rfl (fun ls hl => ?_)
                refine lv_iload hx hb dX7_findTables_175 (lv_at hl 9 rfl) ?_
                refine lv_istore (lv' := [(9, .int y12), (10, .int t0), (0, .ref h0), (1, .int p1), (4, .int y4), (5, .int y5), (6, .int y6), (7, .int y7), (8, .int y8), (11, .int y11), (12, .int y12)]) hx hb dX7_findTables_177 hl (by decide) rfl (fun ls hl => ?_)
                refine lv_aload_n hx hb dX7_findTables_179 rfl (lv_at hl 2 rfl) ?_
                refine va_get (D := D) (ci := 7) (C := RX7) (T := TX7) (N := 40) hx hb F.2.2.2.2 in_X7_findTables_X7 F.2.2.2.1 hK.1 hP 0 rfl rfl 38 (Nat.le_of_ble_eq_true rfl) (F.2.2.2.2 (.fieldLink RX7 65 "LouderRoomModel" "set" "[I") (List.mem_of_getElem? (i := 2) rfl)) (fun _ h9 => h9) rfl dX7_findTables_180 ?_
                refine lv_iload hx hb dX7_findTables_183 (lv_at hl 9 rfl) ?_
                refine lv_iload hx hb dX7_findTables_185 (lv_at hl 1 rfl) ?_
                refine lv_if_eq (tgt := 200) hx hb dX7_findTables_187 (by decide) (fun hc => ?_) (fun hc => ?_)
                · replace hf := ite_t hf hc
                  refine lv_iconst (v := (0 : Int32)) hx hb dX7_findTables_200 (by decide) ?_
                  exact J_201 y8 y12 t0 y11 (0 : Int32) y11 w0 _ _ _ hP hD hS (lv_sub hl [2, 3, 4, 5, 6, 7, 8, 0, 1, 9] rfl) hf
                · replace hf := ite_f hf hc
                  refine lv_aload_n hx hb dX7_findTables_190 rfl (lv_at hl 2 rfl) ?_
                  refine va_get (D := D) (ci := 7) (C := RX7) (T := TX7) (N := 40) hx hb F.2.2.2.2 in_X7_findTables_X7 F.2.2.2.1 hK.1 hP 0 rfl rfl 37 (Nat.le_of_ble_eq_true rfl) (F.2.2.2.2 (.fieldLink RX7 62 "LouderRoomModel" "free" "[I") (List.mem_of_getElem? (i := 1) rfl)) (fun _ h9 => h9) rfl dX7_findTables_191 ?_
                  refine lv_iload hx hb dX7_findTables_194 (lv_at hl 10 rfl) ?_
                  obtain ⟨hi, hf⟩ := grd hf
                  refine va_iald hx hb hK.1 hP 18 0 rfl rfl (inb_in hi) dX7_findTables_196 ?_
                  refine lv_goto (tgt := 201) hx hb dX7_findTables_197 (by decide) ?_
                  exact J_201 y8 y12 t0 y11 (w0.2 37 y12.toNatClampNeg) y11 w0 _ _ _ hP hD hS (lv_sub hl [2, 3, 4, 5, 6, 7, 8, 0, 1, 9] rfl) hf
              have J_172 : ∀ (y8 : Int32) (y11 : Int32) (y12 : Int32) (w0 : Ob) (H : Heap) (locs : List Loc) (ls : Array Slot), va_P D vwC (fl [oX7 ty h0 a0 w0]) H → va_D A (fl [oX7 ty h0 a0 w0]) → va_S A s.heap H locs → lv_has ls 13 [(0, .ref h0), (1, .int p1), (4, .int y4), (5, .int y5), (6, .int y6), (7, .int y7), (8, .int y8), (11, .int y11), (12, .int y12)] → j_X7_findTables_172 p1 p2 p3 r_106 r_126 y4 y5 y6 y7 y8 y11 y12 w0 = some (o0, o1) → W p l e rm_X7_findTables s m ([.ref h0, .int p1, .int p2, .int p3] : List Value).toArray below meth c H locs 0 0 (MQ below (qI D o0 (fl [oX7 ty h0 a0 o1]) A) ([.ref h0, .int p1, .int p2, .int p3] : List Value).toArray s 0 0 A) (F0 m 172 ls []) := by
                intro y8 y11 y12 w0 H locs ls hP hD hS hl hf
                unfold j_X7_findTables_172 at hf
                refine lv_iconst (v := (0 : Int32)) hx hb dX7_findTables_172 (by decide) ?_
                exact J_173 y8 y11 y12 (0 : Int32) w0 _ _ _ hP hD hS (lv_sub hl [0, 1, 2, 3, 4, 5, 6, 7, 8] rfl) hf
              refine lv_iload hx hb dX7_findTables_126 (lv_at hl 9 rfl) ?_
              refine lv_iload_n hx hb dX7_findTables_128 rfl (lv_at hl 1 rfl) ?_
              refine lv_icmp_ge (tgt := 208) hx hb dX7_findTables_129 (by decide) (fun hc => ?_) (fun hc => ?_)
              · replace hf := ite_t hf hc
                exact J_208 y5 y7 y10 w0 _ _ _ hP hD hS (lv_sub hl [0, 1, 2, 3, 4, 5, 8] rfl) hf
              · replace hf := ite_f hf hc
                refine lv_iload hx hb dX7_findTables_132 (lv_at hl 8 rfl) ?_
                refine lv_if_eq (tgt := 208) hx hb dX7_findTables_134 (by decide) (fun hc => ?_) (fun hc => ?_)
                · replace hf := ite_t hf hc
                  exact J_208 y5 y7 y10 w0 _ _ _ hP hD hS (lv_sub hl [0, 1, 2, 3, 4, 5, 8] rfl) hf
                · replace hf := ite_f hf hc
                  refine lv_iload hx hb dX7_findTables_137 (lv_at hl 6 rfl) ?_
                  refine lv_bipush (v := (10 : Int32)) hx hb dX7_findTables_139 (by decide) ?_
                  refine lv_idiv hx hb dX7_findTables_141 (by decide) ?_
                  refine lv_topi (fun x8 ex => ?_)
                  replace hf := bnd_at hf ex; clear ex
                  refine lv_istore (lv' := [(8, .int x8), (0, .ref h0), (1, .int p1), (4, .int y4), (5, .int y5), (6, .int y6), (7, .int y7), (9, .int y9), (10, .int y10), (11, .int y11)]) hx hb dX7_findTables_142 hl (by decide) rfl (fun ls hl => ?_)
                  refine lv_iload hx hb dX7_findTables_144 (lv_at hl 6 rfl) ?_
                  refine lv_iload hx hb dX7_findTables_146 (lv_at hl 0 rfl) ?_
                  obtain ⟨hne, hf⟩ := grz hf
                  refine lv_idiv hx hb dX7_findTables_148 hne ?_
                  refine lv_bipush (v := (10 : Int32)) hx hb dX7_findTables_149 (by decide) ?_
                  refine lv_irem hx hb dX7_findTables_151 (by decide) ?_
                  refine lv_topi (fun x9 ex => ?_)
                  replace hf := bnd_at hf ex; clear ex
                  refine lv_istore (lv' := [(12, .int x9), (8, .int x8), (0, .ref h0), (1, .int p1), (4, .int y4), (5, .int y5), (6, .int y6), (7, .int y7), (9, .int y9), (10, .int y10), (11, .int y11)]) hx hb dX7_findTables_152 hl (by decide) rfl (fun ls hl => ?_)
                  refine lv_iload hx hb dX7_findTables_154 (lv_at hl 0 rfl) ?_
                  refine lv_iload hx hb dX7_findTables_156 (lv_at hl 8 rfl) ?_
                  refine lv_icmp_le (tgt := 172) hx hb dX7_findTables_158 (by decide) (fun hc => ?_) (fun hc => ?_)
                  · replace hf := ite_t hf hc
                    exact J_172 x8 y11 x9 w0 _ _ _ hP hD hS (lv_sub hl [2, 3, 4, 5, 6, 7, 1, 10, 0] rfl) hf
                  · replace hf := ite_f hf hc
                    refine lv_iload hx hb dX7_findTables_161 (lv_at hl 0 rfl) ?_
                    refine lv_iload hx hb dX7_findTables_163 (lv_at hl 4 rfl) ?_
                    refine lv_icmp_ge (tgt := 172) hx hb dX7_findTables_165 (by decide) (fun hc => ?_) (fun hc => ?_)
                    · replace hf := ite_t hf hc
                      exact J_172 x8 y11 x9 w0 _ _ _ hP hD hS (lv_sub hl [2, 3, 4, 5, 6, 7, 1, 10, 0] rfl) hf
                    · replace hf := ite_f hf hc
                      refine lv_iconst (v := (1 : Int32)) hx hb dX7_findTables_168 (by decide) ?_
                      refine lv_goto (tgt := 173) hx hb dX7_findTables_169 (by decide) ?_
                      exact J_173 x8 y11 x9 (1 : Int32) w0 _ _ _ hP hD hS (lv_sub hl [2, 3, 4, 5, 6, 7, 1, 10, 0] rfl) hf
          exact L_126 y5 y7 FU y6 (-1 : Int32) (1 : Int32) (0 : Int32) w0 _ _ _ hP hD hS (lv_sub hl [4, 5, 6, 7, 8, 9, 3, 2, 1, 0] rfl) hf
    exact L_106 y4 t0 FU y5 (0 : Int32) w0 _ _ _ hP hD hS (lv_sub hl [2, 3, 4, 5, 1, 0] rfl) hf
  refine lv_iconst (v := (0 : Int32)) hx hb dX7_findTables_0 (by decide) ?_
  refine lv_istore (lv' := [(4, .int (0 : Int32)), (0, .ref h0), (1, .int p1), (2, .int p2), (3, .int p3)]) hx hb dX7_findTables_1 hl (by decide) rfl (fun ls hl => ?_)
  refine lv_iconst (v := (0 : Int32)) hx hb dX7_findTables_3 (by decide) ?_
  refine lv_istore (lv' := [(5, .int (0 : Int32)), (4, .int (0 : Int32)), (0, .ref h0), (1, .int p1), (2, .int p2), (3, .int p3)]) hx hb dX7_findTables_4 hl (by decide) rfl (fun ls hl => ?_)
  have L_6 : ∀ (n : Nat) (y4 : Int32) (y5 : Int32) (w0 : Ob) (H : Heap) (locs : List Loc) (ls : Array Slot), va_P D vwC (fl [oX7 ty h0 a0 w0]) H → va_D A (fl [oX7 ty h0 a0 w0]) → va_S A s.heap H locs → lv_has ls 13 [(0, .ref h0), (1, .int p1), (2, .int p2), (3, .int p3), (4, .int y4), (5, .int y5)] → fuel3 (b_X7_findTables_6 p1 p2 p3) n y4 y5 w0 = some (o0, o1) → W p l e rm_X7_findTables s m ([.ref h0, .int p1, .int p2, .int p3] : List Value).toArray below meth c H locs 0 0 (MQ below (qI D o0 (fl [oX7 ty h0 a0 o1]) A) ([.ref h0, .int p1, .int p2, .int p3] : List Value).toArray s 0 0 A) (F0 m 6 ls []) := by
    intro n
    induction n with
    | zero => intro y4 y5 w0 H locs ls hP hD hS hl hf; cases hf
    | succ n ih_6 =>
      intro y4 y5 w0 H locs ls hP hD hS hl hf
      replace hf : b_X7_findTables_6 p1 p2 p3 (fuel3 (b_X7_findTables_6 p1 p2 p3) n) y4 y5 w0 = some (o0, o1) := hf
      generalize fuel3 (b_X7_findTables_6 p1 p2 p3) n = r_6 at ih_6 hf
      unfold b_X7_findTables_6 at hf
      have J_57 : ∀ (y4 : Int32) (y5 : Int32) (w0 : Ob) (H : Heap) (locs : List Loc) (ls : Array Slot), va_P D vwC (fl [oX7 ty h0 a0 w0]) H → va_D A (fl [oX7 ty h0 a0 w0]) → va_S A s.heap H locs → lv_has ls 13 [(0, .ref h0), (1, .int p1), (2, .int p2), (3, .int p3), (4, .int y4), (5, .int y5)] → j_X7_findTables_57 p1 p2 p3 r_6 y4 y5 w0 = some (o0, o1) → W p l e rm_X7_findTables s m ([.ref h0, .int p1, .int p2, .int p3] : List Value).toArray below meth c H locs 0 0 (MQ below (qI D o0 (fl [oX7 ty h0 a0 o1]) A) ([.ref h0, .int p1, .int p2, .int p3] : List Value).toArray s 0 0 A) (F0 m 57 ls []) := by
        intro y4 y5 w0 H locs ls hP hD hS hl hf
        unfold j_X7_findTables_57 at hf
        obtain ⟨x10, ex⟩ : ∃ y : Int32, y = (y5 + (1 : Int32)) := ⟨_, rfl⟩
        replace hf := bnd_at hf ex
        refine lv_iinc (v := x10) (lv' := [(5, .int x10), (0, .ref h0), (1, .int p1), (2, .int p2), (3, .int p3), (4, .int y4)]) hx hb dX7_findTables_57 hl (k := 5) rfl (by rw [ex]; rfl) (by decide) rfl (fun ls hl => ?_)
        clear ex
        refine lv_goto (tgt := 6) hx hb dX7_findTables_60 (by decide) ?_
        exact ih_6 y4 x10 w0 _ _ _ hP hD hS (lv_sub hl [1, 2, 3, 4, 5, 0] rfl) hf
      have J_34 : ∀ (y4 : Int32) (y5 : Int32) (t0 : Int32) (w0 : Ob) (H : Heap) (locs : List Loc) (ls : Array Slot), va_P D vwC (fl [oX7 ty h0 a0 w0]) H → va_D A (fl [oX7 ty h0 a0 w0]) → va_S A s.heap H locs → lv_has ls 13 [(0, .ref h0), (1, .int p1), (2, .int p2), (3, .int p3), (4, .int y4), (5, .int y5)] → j_X7_findTables_34 p1 p2 p3 r_6 y4 y5 t0 w0 = some (o0, o1) → W p l e rm_X7_findTables s m ([.ref h0, .int p1, .int p2, .int p3] : List Value).toArray below meth c H locs 0 0 (MQ below (qI D o0 (fl [oX7 ty h0 a0 o1]) A) ([.ref h0, .int p1, .int p2, .int p3] : List Value).toArray s 0 0 A) (F0 m 34 ls [.int t0]) := by
        intro y4 y5 t0 w0 H locs ls hP hD hS hl hf
        unfold j_X7_findTables_34 at hf
        refine lv_istore (lv' := [(6, .int t0), (0, .ref h0), (1, .int p1), (2, .int p2), (3, .int p3), (4, .int y4), (5, .int y5)]) hx hb dX7_findTables_34 hl (by decide) rfl (fun ls hl => ?_)
        refine lv_aload_n hx hb dX7_findTables_36 rfl (lv_at hl 1 rfl) ?_
        refine lv_iload hx hb dX7_findTables_37 (lv_at hl 0 rfl) ?_
        obtain ⟨v11, hv, hf⟩ := obd hf
        have hp1 : List.Perm [oX7 ty h0 a0 w0] ([oX7 ty h0 a0 w0] ++ []) := (List.Perm.refl _)
        refine ci_call (out := v11) (os := [oX7 ty h0 a0 w0]) (oc := [oX7 ty h0 a0 w0]) (oc' := [oX7 ty h0 a0 w0]) (or_ := []) (os' := [oX7 ty h0 a0 w0]) (va_runV (As := [.int t0]) (rest := []) F (c_X7_isTaken l D ty h0 a0 _ _ _ hv _) (cwV 1 F.2.2.2.2 gX7_findTables_X7_isTaken rfl rfl rfl ⟨rfl, hd_X7_isTaken⟩ ⟨Nat.le_of_ble_eq_true rfl, Nat.le_of_ble_eq_true rfl⟩) (pre_v hK hP hD hp1 rfl rfl rfl) rfl rfl hl.1 rfl (lv_room (Nat.le_of_ble_eq_true rfl)) dX7_findTables_39 ⟨Nat.zero_le _, Nat.zero_le _⟩) hp1 (List.Perm.refl _) hP hD hS hA (fun H locs hP hD hS => ?_)
        clear hp1 hv
        refine lv_if_ne (tgt := 57) hx hb dX7_findTables_42 (by decide) (fun hc => ?_) (fun hc => ?_)
        · replace hf := ite_f hf hc
          exact J_57 y4 y5 w0 _ _ _ hP hD hS (lv_sub hl [1, 2, 3, 4, 5, 6] rfl) hf
        · replace hf := ite_t hf hc
          refine lv_aload_n hx hb dX7_findTables_45 rfl (lv_at hl 1 rfl) ?_
          refine va_get (D := D) (ci := 7) (C := RX7) (T := TX7) (N := 40) hx hb F.2.2.2.2 in_X7_findTables_X7 F.2.2.2.1 hK.1 hP 0 rfl rfl 37 (Nat.le_of_ble_eq_true rfl) (F.2.2.2.2 (.fieldLink RX7 62 "LouderRoomModel" "free" "[I") (List.mem_of_getElem? (i := 1) rfl)) (fun _ h9 => h9) rfl dX7_findTables_46 ?_
          refine lv_iload hx hb dX7_findTables_49 (lv_at hl 5 rfl) ?_
          refine lv_iload hx hb dX7_findTables_51 (lv_at hl 0 rfl) ?_
          obtain ⟨hi, hf⟩ := grd hf
          refine pt_iast (w1 := fl [oX7 ty h0 a0 (sA w0 37 (upd (w0.2 37) y4.toNatClampNeg t0))]) F hK.1 hP hD hS 18 0 rfl rfl (inb_in hi) rfl dX7_findTables_53 (fun H locs hP hD hS => ?_)
          obtain ⟨g12, ex⟩ : ∃ y : Ob, y = (sA w0 37 (upd (w0.2 37) y4.toNatClampNeg t0)) := ⟨_, rfl⟩
          replace hf := bnd_at hf ex; rw [← ex] at hP hD; clear ex
          obtain ⟨x13, ex⟩ : ∃ y : Int32, y = (y4 + (1 : Int32)) := ⟨_, rfl⟩
          replace hf := bnd_at hf ex
          refine lv_iinc (v := x13) (lv' := [(4, .int x13), (6, .int t0), (0, .ref h0), (1, .int p1), (2, .int p2), (3, .int p3), (5, .int y5)]) hx hb dX7_findTables_54 hl (k := 5) rfl (by rw [ex]; rfl) (by decide) rfl (fun ls hl => ?_)
          clear ex
          exact J_57 x13 y5 g12 _ _ _ hP hD hS (lv_sub hl [2, 3, 4, 5, 0, 6] rfl) hf
      refine lv_iload hx hb dX7_findTables_6 (lv_at hl 5 rfl) ?_
      refine lv_bipush (v := (10 : Int32)) hx hb dX7_findTables_8 (by decide) ?_
      refine lv_icmp_ge (tgt := 63) hx hb dX7_findTables_10 (by decide) (fun hc => ?_) (fun hc => ?_)
      · replace hf := ite_t hf hc
        refine lv_bipush (v := (-9 : Int32)) hx hb dX7_findTables_63 (by decide) ?_
        refine lv_istore (lv' := [(5, .int (-9 : Int32)), (0, .ref h0), (1, .int p1), (2, .int p2), (3, .int p3), (4, .int y4)]) hx hb dX7_findTables_65 hl (by decide) rfl (fun ls hl => ?_)
        refine lv_iload_n hx hb dX7_findTables_67 rfl (lv_at hl 2 rfl) ?_
        refine lv_iconst (v := (1 : Int32)) hx hb dX7_findTables_68 (by decide) ?_
        refine lv_icmp_ne (tgt := 77) hx hb dX7_findTables_69 (by decide) (fun hc => ?_) (fun hc => ?_)
        · replace hf := ite_f hf hc
          refine lv_iload_n hx hb dX7_findTables_77 rfl (lv_at hl 2 rfl) ?_
          refine lv_iconst (v := (2 : Int32)) hx hb dX7_findTables_78 (by decide) ?_
          refine lv_icmp_ne (tgt := 87) hx hb dX7_findTables_79 (by decide) (fun hc => ?_) (fun hc => ?_)
          · replace hf := ite_f hf hc
            refine lv_iload_n hx hb dX7_findTables_87 rfl (lv_at hl 2 rfl) ?_
            refine lv_iconst (v := (3 : Int32)) hx hb dX7_findTables_88 (by decide) ?_
            refine lv_icmp_ne (tgt := 98) hx hb dX7_findTables_89 (by decide) (fun hc => ?_) (fun hc => ?_)
            · replace hf := ite_f hf hc
              refine lv_sipush (v := (10000 : Int32)) hx hb dX7_findTables_98 (by decide) ?_
              exact J_101 y4 (-9 : Int32) (10000 : Int32) w0 _ _ _ hP hD hS (lv_sub hl [1, 2, 5, 0] rfl) hf
            · replace hf := ite_t hf hc
              refine lv_sipush (v := (1000 : Int32)) hx hb dX7_findTables_92 (by decide) ?_
              refine lv_goto (tgt := 101) hx hb dX7_findTables_95 (by decide) ?_
              exact J_101 y4 (-9 : Int32) (1000 : Int32) w0 _ _ _ hP hD hS (lv_sub hl [1, 2, 5, 0] rfl) hf
          · replace hf := ite_t hf hc
            refine lv_bipush (v := (100 : Int32)) hx hb dX7_findTables_82 (by decide) ?_
            refine lv_goto (tgt := 101) hx hb dX7_findTables_84 (by decide) ?_
            exact J_101 y4 (-9 : Int32) (100 : Int32) w0 _ _ _ hP hD hS (lv_sub hl [1, 2, 5, 0] rfl) hf
        · replace hf := ite_t hf hc
          refine lv_bipush (v := (10 : Int32)) hx hb dX7_findTables_72 (by decide) ?_
          refine lv_goto (tgt := 101) hx hb dX7_findTables_74 (by decide) ?_
          exact J_101 y4 (-9 : Int32) (10 : Int32) w0 _ _ _ hP hD hS (lv_sub hl [1, 2, 5, 0] rfl) hf
      · replace hf := ite_f hf hc
        refine lv_iload_n hx hb dX7_findTables_13 rfl (lv_at hl 2 rfl) ?_
        refine lv_if_eq (tgt := 27) hx hb dX7_findTables_14 (by decide) (fun hc => ?_) (fun hc => ?_)
        · replace hf := ite_t hf hc
          refine lv_bipush (v := (10 : Int32)) hx hb dX7_findTables_27 (by decide) ?_
          refine lv_iload_n hx hb dX7_findTables_29 rfl (lv_at hl 3 rfl) ?_
          refine lv_imul hx hb dX7_findTables_30 ?_
          refine lv_iload hx hb dX7_findTables_31 (lv_at hl 5 rfl) ?_
          refine lv_iadd hx hb dX7_findTables_33 ?_
          exact J_34 y4 y5 (((10 : Int32) * p3) + y5) w0 _ _ _ hP hD hS (lv_sub hl [0, 1, 2, 3, 4, 5] rfl) hf
        · replace hf := ite_f hf hc
          refine lv_bipush (v := (10 : Int32)) hx hb dX7_findTables_17 (by decide) ?_
          refine lv_iload hx hb dX7_findTables_19 (lv_at hl 5 rfl) ?_
          refine lv_imul hx hb dX7_findTables_21 ?_
          refine lv_iload_n hx hb dX7_findTables_22 rfl (lv_at hl 3 rfl) ?_
          refine lv_iadd hx hb dX7_findTables_23 ?_
          refine lv_goto (tgt := 34) hx hb dX7_findTables_24 (by decide) ?_
          exact J_34 y4 y5 (((10 : Int32) * y5) + p3) w0 _ _ _ hP hD hS (lv_sub hl [0, 1, 2, 3, 4, 5] rfl) hf
  exact L_6 FU (0 : Int32) (0 : Int32) z0 _ _ _ hP hD hS (lv_sub hl [2, 3, 4, 5, 1, 0] rfl) hf
def f_X7_tables (z0 : Ob) (p1 : Int32) (p2 : Int32) (p3 : Int32) : Option (Int32 × Ob) := bnd (sI z0 0 (0 : Int32)) (fun g1 => (f_X7_in p1.toInt64 (1 : Int64) (4 : Int64)).bind (fun v2 => (if v2 = 0 then some ((-2 : Int32), g1) else (f_X7_in p3.toInt64 (0 : Int64) (9 : Int64)).bind (fun v3 => (if v3 = 0 then some ((-2 : Int32), g1) else bd2 (f_X7_findTables g1 p1 p2 p3) (fun v4 g5 => some (v4, g5)))))))
abbrev rm_X7_tables : Room := { frames := 3, cells := 0, slots := 0, locals := 79 }
theorem hd_X7_tables : yX7_tables.cls ≠ "java/lang/invoke/MethodHandle" ∧ yX7_tables.cls ≠ "java/lang/invoke/VarHandle" ∧ (parseMethodDescriptor yX7_tables.desc).map (fun d => d.parameters.length) = some 3 := by decide +kernel
theorem in_X7_tables_X7 : ∀ w ∈ wsX70, w ∈ wsX7_tables := fun w h => List.mem_cons_of_mem _ (List.mem_append_right _ h)
set_option maxHeartbeats 4000000 in
set_option maxRecDepth 100000 in
theorem c_X7_tables (l : Launch) (D : va_G) (ty : TY) (h0 : Nat) (a0 : Nat → Nat) (z0 : Ob) (p1 : Int32) (p2 : Int32) (p3 : Int32) (o0 : Int32) (o1 : Ob) (hf : f_X7_tables z0 p1 p2 p3 = some (o0, o1)) (sz : Nat) : CX l yX7_tables wsX7_tables rm_X7_tables ([.ref h0, .int p1, .int p2, .int p3] : List Value) D ty (fl [oX7 ty h0 a0 z0]) sz (qI D o0 (fl [oX7 ty h0 a0 o1])) 0 0 := by
  refine CX_of (cc := cX7_tables) (maxL := 4) (ret := (some .int)) (C := RX7) (by decide) rfl rfl (Nat.le_of_ble_eq_true rfl) ?_
  intro p e s m below meth c A ls F hr hlk _ hK hP hD hS hA hl
  have hx := F.1
  have hb := F.2.1
  replace hl : lv_has ls 4 [(0, .ref h0), (1, .int p1), (2, .int p2), (3, .int p3)] := hl
  unfold f_X7_tables at hf
  refine lv_aload_n hx hb dX7_tables_0 rfl (lv_at hl 0 rfl) ?_
  refine lv_iconst (v := (0 : Int32)) hx hb dX7_tables_1 (by decide) ?_
  refine pt_put (D := D) (ci := 7) (fty := .int) (C := RX7) (T := TX7) (N := 40) (w1 := fl [oX7 ty h0 a0 (sI z0 0 (0 : Int32))]) F in_X7_tables_X7 tyX7 tyX7_ok nmX7 hK.1 hP hD hS 0 rfl rfl 0 (Nat.le_of_ble_eq_true rfl) (F.2.2.2.2 (.fieldLink RX7 71 "LouderRoomModel" "thrown" "I") (List.mem_of_getElem? (i := 1) rfl)) (fun _ h9 => h9) rfl (by decide +kernel) rfl rfl (Nat.le_of_ble_eq_true rfl) rfl dX7_tables_2 (fun H locs hP hD hS => ?_)
  obtain ⟨g1, ex⟩ : ∃ y : Ob, y = (sI z0 0 (0 : Int32)) := ⟨_, rfl⟩
  replace hf := bnd_at hf ex; rw [← ex] at hP hD; clear ex
  refine lv_iload_n hx hb dX7_tables_5 rfl (lv_at hl 1 rfl) ?_
  refine lv_i2l hx hb dX7_tables_6 rfl ?_
  refine lv_lconst (v := (1 : Int64)) hx hb dX7_tables_7 (by decide) ?_
  refine lv_ldc2 hx hb F.2.2.2.1 (F.2.2.2.2 (.constantLong RX7 250 (4)) (List.mem_of_getElem? (i := 2) rfl)) dX7_tables_8 ?_
  obtain ⟨v2, hv, hf⟩ := obd hf
  have hp1 : List.Perm [oX7 ty h0 a0 g1] ([] ++ [oX7 ty h0 a0 g1]) := (List.Perm.refl _)
  refine ci_call (out := v2) (os := [oX7 ty h0 a0 g1]) (oc := []) (oc' := []) (or_ := [oX7 ty h0 a0 g1]) (os' := [oX7 ty h0 a0 g1]) (va_runS (As := [.long p1.toInt64, .long (1 : Int64), .long (4 : Int64)]) (rest := []) F (c_X7_in l D ty _ _ _ _ hv _) (va_cwS 3 F.2.2.2.2 gX7_tables_X7_in rfl rfl rfl hd_X7_in ⟨Nat.le_of_ble_eq_true rfl, Nat.le_of_ble_eq_true rfl⟩) (pre_s hK hP hD hp1) rfl rfl hl.1 rfl (lv_room (Nat.le_of_ble_eq_true rfl)) dX7_tables_11 ⟨Nat.zero_le _, Nat.zero_le _⟩) hp1 (List.Perm.refl _) hP hD hS hA (fun H locs hP hD hS => ?_)
  clear hp1 hv
  refine lv_if_eq (tgt := 39) hx hb dX7_tables_14 (by decide) (fun hc => ?_) (fun hc => ?_)
  · replace hf := ite_t hf hc
    refine lv_bipush (v := (-2 : Int32)) hx hb dX7_tables_39 (by decide) ?_
    obtain hf := hf
    obtain ⟨e0, e1⟩ := tup2 hf
    rw [e1] at hP hD
    exact CX_i F hr hlk hP hD hS e0 dX7_tables_41
  · replace hf := ite_f hf hc
    refine lv_iload_n hx hb dX7_tables_17 rfl (lv_at hl 3 rfl) ?_
    refine lv_i2l hx hb dX7_tables_18 rfl ?_
    refine lv_lconst (v := (0 : Int64)) hx hb dX7_tables_19 (by decide) ?_
    refine lv_ldc2 hx hb F.2.2.2.1 (F.2.2.2.2 (.constantLong RX7 204 (9)) (List.mem_of_getElem? (i := 3) rfl)) dX7_tables_20 ?_
    obtain ⟨v3, hv, hf⟩ := obd hf
    have hp1 : List.Perm [oX7 ty h0 a0 g1] ([] ++ [oX7 ty h0 a0 g1]) := (List.Perm.refl _)
    refine ci_call (out := v3) (os := [oX7 ty h0 a0 g1]) (oc := []) (oc' := []) (or_ := [oX7 ty h0 a0 g1]) (os' := [oX7 ty h0 a0 g1]) (va_runS (As := [.long p3.toInt64, .long (0 : Int64), .long (9 : Int64)]) (rest := []) F (c_X7_in l D ty _ _ _ _ hv _) (va_cwS 3 F.2.2.2.2 gX7_tables_X7_in rfl rfl rfl hd_X7_in ⟨Nat.le_of_ble_eq_true rfl, Nat.le_of_ble_eq_true rfl⟩) (pre_s hK hP hD hp1) rfl rfl hl.1 rfl (lv_room (Nat.le_of_ble_eq_true rfl)) dX7_tables_23 ⟨Nat.zero_le _, Nat.zero_le _⟩) hp1 (List.Perm.refl _) hP hD hS hA (fun H locs hP hD hS => ?_)
    clear hp1 hv
    refine lv_if_eq (tgt := 39) hx hb dX7_tables_26 (by decide) (fun hc => ?_) (fun hc => ?_)
    · replace hf := ite_t hf hc
      refine lv_bipush (v := (-2 : Int32)) hx hb dX7_tables_39 (by decide) ?_
      obtain hf := hf
      obtain ⟨e0, e1⟩ := tup2 hf
      rw [e1] at hP hD
      exact CX_i F hr hlk hP hD hS e0 dX7_tables_41
    · replace hf := ite_f hf hc
      refine lv_aload_n hx hb dX7_tables_29 rfl (lv_at hl 0 rfl) ?_
      refine lv_iload_n hx hb dX7_tables_30 rfl (lv_at hl 1 rfl) ?_
      refine lv_iload_n hx hb dX7_tables_31 rfl (lv_at hl 2 rfl) ?_
      refine lv_iload_n hx hb dX7_tables_32 rfl (lv_at hl 3 rfl) ?_
      obtain ⟨v4, g5, hv, hf⟩ := obd2 hf
      have hp1 : List.Perm [oX7 ty h0 a0 g1] ([oX7 ty h0 a0 g1] ++ []) := (List.Perm.refl _)
      refine ci_call (out := v4) (os := [oX7 ty h0 a0 g1]) (oc := [oX7 ty h0 a0 g1]) (oc' := [oX7 ty h0 a0 g5]) (or_ := []) (os' := [oX7 ty h0 a0 g5]) (va_runV (As := [.int p1, .int p2, .int p3]) (rest := []) F (c_X7_findTables l D ty h0 a0 _ _ _ _ _ _ hv _) (cwV 3 F.2.2.2.2 gX7_tables_X7_findTables rfl rfl rfl ⟨rfl, hd_X7_findTables⟩ ⟨Nat.le_of_ble_eq_true rfl, Nat.le_of_ble_eq_true rfl⟩) (pre_v hK hP hD hp1 rfl rfl rfl) rfl rfl hl.1 rfl (lv_room (Nat.le_of_ble_eq_true rfl)) dX7_tables_33 ⟨Nat.zero_le _, Nat.zero_le _⟩) hp1 (List.Perm.refl _) hP hD hS hA (fun H locs hP hD hS => ?_)
      clear hp1 hv
      refine lv_goto (tgt := 41) hx hb dX7_tables_36 (by decide) ?_
      obtain hf := hf
      obtain ⟨e0, e1⟩ := tup2 hf
      rw [e1] at hP hD
      exact CX_i F hr hlk hP hD hS e0 dX7_tables_41
def f_X7_tableAt (z0 : Ob) (p1 : Int32) (p2 : Int32) (p3 : Int32) (p4 : Int32) : Option (Int32 × Ob) := bnd (sI z0 0 (0 : Int32)) (fun g1 => (f_X7_in p1.toInt64 (1 : Int64) (4 : Int64)).bind (fun v2 => (if v2 = 0 then some ((-2 : Int32), g1) else (f_X7_in p3.toInt64 (0 : Int64) (9 : Int64)).bind (fun v3 => (if v3 = 0 then some ((-2 : Int32), g1) else bd2 (f_X7_findTables g1 p1 p2 p3) (fun v4 g5 => (if v4 = (-9 : Int32) then some ((-9 : Int32), g5) else (f_X7_in p4.toInt64 (0 : Int64) (p1 - (1 : Int32)).toInt64).bind (fun v6 => (if v6 = 0 then some ((-9 : Int32), g5) else (if inb p4 4 = true then some ((g5.2 39 p4.toNatClampNeg), g5) else none))))))))))
abbrev rm_X7_tableAt : Room := { frames := 3, cells := 0, slots := 0, locals := 79 }
theorem hd_X7_tableAt : yX7_tableAt.cls ≠ "java/lang/invoke/MethodHandle" ∧ yX7_tableAt.cls ≠ "java/lang/invoke/VarHandle" ∧ (parseMethodDescriptor yX7_tableAt.desc).map (fun d => d.parameters.length) = some 4 := by decide +kernel
theorem in_X7_tableAt_X7 : ∀ w ∈ wsX70, w ∈ wsX7_tableAt := fun w h => List.mem_cons_of_mem _ (List.mem_append_right _ h)
set_option maxHeartbeats 4000000 in
set_option maxRecDepth 100000 in
theorem c_X7_tableAt (l : Launch) (D : va_G) (ty : TY) (h0 : Nat) (a0 : Nat → Nat) (z0 : Ob) (p1 : Int32) (p2 : Int32) (p3 : Int32) (p4 : Int32) (o0 : Int32) (o1 : Ob) (hf : f_X7_tableAt z0 p1 p2 p3 p4 = some (o0, o1)) (sz : Nat) : CX l yX7_tableAt wsX7_tableAt rm_X7_tableAt ([.ref h0, .int p1, .int p2, .int p3, .int p4] : List Value) D ty (fl [oX7 ty h0 a0 z0]) sz (qI D o0 (fl [oX7 ty h0 a0 o1])) 0 0 := by
  refine CX_of (cc := cX7_tableAt) (maxL := 5) (ret := (some .int)) (C := RX7) (by decide) rfl rfl (Nat.le_of_ble_eq_true rfl) ?_
  intro p e s m below meth c A ls F hr hlk _ hK hP hD hS hA hl
  have hx := F.1
  have hb := F.2.1
  replace hl : lv_has ls 5 [(0, .ref h0), (1, .int p1), (2, .int p2), (3, .int p3), (4, .int p4)] := hl
  unfold f_X7_tableAt at hf
  refine lv_aload_n hx hb dX7_tableAt_0 rfl (lv_at hl 0 rfl) ?_
  refine lv_iconst (v := (0 : Int32)) hx hb dX7_tableAt_1 (by decide) ?_
  refine pt_put (D := D) (ci := 7) (fty := .int) (C := RX7) (T := TX7) (N := 40) (w1 := fl [oX7 ty h0 a0 (sI z0 0 (0 : Int32))]) F in_X7_tableAt_X7 tyX7 tyX7_ok nmX7 hK.1 hP hD hS 0 rfl rfl 0 (Nat.le_of_ble_eq_true rfl) (F.2.2.2.2 (.fieldLink RX7 71 "LouderRoomModel" "thrown" "I") (List.mem_of_getElem? (i := 1) rfl)) (fun _ h9 => h9) rfl (by decide +kernel) rfl rfl (Nat.le_of_ble_eq_true rfl) rfl dX7_tableAt_2 (fun H locs hP hD hS => ?_)
  obtain ⟨g1, ex⟩ : ∃ y : Ob, y = (sI z0 0 (0 : Int32)) := ⟨_, rfl⟩
  replace hf := bnd_at hf ex; rw [← ex] at hP hD; clear ex
  refine lv_iload_n hx hb dX7_tableAt_5 rfl (lv_at hl 1 rfl) ?_
  refine lv_i2l hx hb dX7_tableAt_6 rfl ?_
  refine lv_lconst (v := (1 : Int64)) hx hb dX7_tableAt_7 (by decide) ?_
  refine lv_ldc2 hx hb F.2.2.2.1 (F.2.2.2.2 (.constantLong RX7 250 (4)) (List.mem_of_getElem? (i := 2) rfl)) dX7_tableAt_8 ?_
  obtain ⟨v2, hv, hf⟩ := obd hf
  have hp1 : List.Perm [oX7 ty h0 a0 g1] ([] ++ [oX7 ty h0 a0 g1]) := (List.Perm.refl _)
  refine ci_call (out := v2) (os := [oX7 ty h0 a0 g1]) (oc := []) (oc' := []) (or_ := [oX7 ty h0 a0 g1]) (os' := [oX7 ty h0 a0 g1]) (va_runS (As := [.long p1.toInt64, .long (1 : Int64), .long (4 : Int64)]) (rest := []) F (c_X7_in l D ty _ _ _ _ hv _) (va_cwS 3 F.2.2.2.2 gX7_tableAt_X7_in rfl rfl rfl hd_X7_in ⟨Nat.le_of_ble_eq_true rfl, Nat.le_of_ble_eq_true rfl⟩) (pre_s hK hP hD hp1) rfl rfl hl.1 rfl (lv_room (Nat.le_of_ble_eq_true rfl)) dX7_tableAt_11 ⟨Nat.zero_le _, Nat.zero_le _⟩) hp1 (List.Perm.refl _) hP hD hS hA (fun H locs hP hD hS => ?_)
  clear hp1 hv
  refine lv_if_eq (tgt := 29) hx hb dX7_tableAt_14 (by decide) (fun hc => ?_) (fun hc => ?_)
  · replace hf := ite_t hf hc
    refine lv_bipush (v := (-2 : Int32)) hx hb dX7_tableAt_29 (by decide) ?_
    obtain hf := hf
    obtain ⟨e0, e1⟩ := tup2 hf
    rw [e1] at hP hD
    exact CX_i F hr hlk hP hD hS e0 dX7_tableAt_31
  · replace hf := ite_f hf hc
    refine lv_iload_n hx hb dX7_tableAt_17 rfl (lv_at hl 3 rfl) ?_
    refine lv_i2l hx hb dX7_tableAt_18 rfl ?_
    refine lv_lconst (v := (0 : Int64)) hx hb dX7_tableAt_19 (by decide) ?_
    refine lv_ldc2 hx hb F.2.2.2.1 (F.2.2.2.2 (.constantLong RX7 204 (9)) (List.mem_of_getElem? (i := 3) rfl)) dX7_tableAt_20 ?_
    obtain ⟨v3, hv, hf⟩ := obd hf
    have hp1 : List.Perm [oX7 ty h0 a0 g1] ([] ++ [oX7 ty h0 a0 g1]) := (List.Perm.refl _)
    refine ci_call (out := v3) (os := [oX7 ty h0 a0 g1]) (oc := []) (oc' := []) (or_ := [oX7 ty h0 a0 g1]) (os' := [oX7 ty h0 a0 g1]) (va_runS (As := [.long p3.toInt64, .long (0 : Int64), .long (9 : Int64)]) (rest := []) F (c_X7_in l D ty _ _ _ _ hv _) (va_cwS 3 F.2.2.2.2 gX7_tableAt_X7_in rfl rfl rfl hd_X7_in ⟨Nat.le_of_ble_eq_true rfl, Nat.le_of_ble_eq_true rfl⟩) (pre_s hK hP hD hp1) rfl rfl hl.1 rfl (lv_room (Nat.le_of_ble_eq_true rfl)) dX7_tableAt_23 ⟨Nat.zero_le _, Nat.zero_le _⟩) hp1 (List.Perm.refl _) hP hD hS hA (fun H locs hP hD hS => ?_)
    clear hp1 hv
    refine lv_if_ne (tgt := 32) hx hb dX7_tableAt_26 (by decide) (fun hc => ?_) (fun hc => ?_)
    · replace hf := ite_f hf hc
      refine lv_aload_n hx hb dX7_tableAt_32 rfl (lv_at hl 0 rfl) ?_
      refine lv_iload_n hx hb dX7_tableAt_33 rfl (lv_at hl 1 rfl) ?_
      refine lv_iload_n hx hb dX7_tableAt_34 rfl (lv_at hl 2 rfl) ?_
      refine lv_iload_n hx hb dX7_tableAt_35 rfl (lv_at hl 3 rfl) ?_
      obtain ⟨v4, g5, hv, hf⟩ := obd2 hf
      have hp1 : List.Perm [oX7 ty h0 a0 g1] ([oX7 ty h0 a0 g1] ++ []) := (List.Perm.refl _)
      refine ci_call (out := v4) (os := [oX7 ty h0 a0 g1]) (oc := [oX7 ty h0 a0 g1]) (oc' := [oX7 ty h0 a0 g5]) (or_ := []) (os' := [oX7 ty h0 a0 g5]) (va_runV (As := [.int p1, .int p2, .int p3]) (rest := []) F (c_X7_findTables l D ty h0 a0 _ _ _ _ _ _ hv _) (cwV 3 F.2.2.2.2 gX7_tableAt_X7_findTables rfl rfl rfl ⟨rfl, hd_X7_findTables⟩ ⟨Nat.le_of_ble_eq_true rfl, Nat.le_of_ble_eq_true rfl⟩) (pre_v hK hP hD hp1 rfl rfl rfl) rfl rfl hl.1 rfl (lv_room (Nat.le_of_ble_eq_true rfl)) dX7_tableAt_36 ⟨Nat.zero_le _, Nat.zero_le _⟩) hp1 (List.Perm.refl _) hP hD hS hA (fun H locs hP hD hS => ?_)
      clear hp1 hv
      refine lv_bipush (v := (-9 : Int32)) hx hb dX7_tableAt_39 (by decide) ?_
      refine lv_icmp_eq (tgt := 68) hx hb dX7_tableAt_41 (by decide) (fun hc => ?_) (fun hc => ?_)
      · replace hf := ite_t hf hc
        refine lv_bipush (v := (-9 : Int32)) hx hb dX7_tableAt_68 (by decide) ?_
        obtain hf := hf
        obtain ⟨e0, e1⟩ := tup2 hf
        rw [e1] at hP hD
        exact CX_i F hr hlk hP hD hS e0 dX7_tableAt_70
      · replace hf := ite_f hf hc
        refine lv_iload hx hb dX7_tableAt_44 (lv_at hl 4 rfl) ?_
        refine lv_i2l hx hb dX7_tableAt_46 rfl ?_
        refine lv_lconst (v := (0 : Int64)) hx hb dX7_tableAt_47 (by decide) ?_
        refine lv_iload_n hx hb dX7_tableAt_48 rfl (lv_at hl 1 rfl) ?_
        refine lv_iconst (v := (1 : Int32)) hx hb dX7_tableAt_49 (by decide) ?_
        refine lv_isub hx hb dX7_tableAt_50 ?_
        refine lv_i2l hx hb dX7_tableAt_51 rfl ?_
        obtain ⟨v6, hv, hf⟩ := obd hf
        have hp1 : List.Perm [oX7 ty h0 a0 g5] ([] ++ [oX7 ty h0 a0 g5]) := (List.Perm.refl _)
        refine ci_call (out := v6) (os := [oX7 ty h0 a0 g5]) (oc := []) (oc' := []) (or_ := [oX7 ty h0 a0 g5]) (os' := [oX7 ty h0 a0 g5]) (va_runS (As := [.long p4.toInt64, .long (0 : Int64), .long (p1 - (1 : Int32)).toInt64]) (rest := []) F (c_X7_in l D ty _ _ _ _ hv _) (va_cwS 3 F.2.2.2.2 gX7_tableAt_X7_in rfl rfl rfl hd_X7_in ⟨Nat.le_of_ble_eq_true rfl, Nat.le_of_ble_eq_true rfl⟩) (pre_s hK hP hD hp1) rfl rfl hl.1 rfl (lv_room (Nat.le_of_ble_eq_true rfl)) dX7_tableAt_52 ⟨Nat.zero_le _, Nat.zero_le _⟩) hp1 (List.Perm.refl _) hP hD hS hA (fun H locs hP hD hS => ?_)
        clear hp1 hv
        refine lv_if_eq (tgt := 68) hx hb dX7_tableAt_55 (by decide) (fun hc => ?_) (fun hc => ?_)
        · replace hf := ite_t hf hc
          refine lv_bipush (v := (-9 : Int32)) hx hb dX7_tableAt_68 (by decide) ?_
          obtain hf := hf
          obtain ⟨e0, e1⟩ := tup2 hf
          rw [e1] at hP hD
          exact CX_i F hr hlk hP hD hS e0 dX7_tableAt_70
        · replace hf := ite_f hf hc
          refine lv_aload_n hx hb dX7_tableAt_58 rfl (lv_at hl 0 rfl) ?_
          refine va_get (D := D) (ci := 7) (C := RX7) (T := TX7) (N := 40) hx hb F.2.2.2.2 in_X7_tableAt_X7 F.2.2.2.1 hK.1 hP 0 rfl rfl 39 (Nat.le_of_ble_eq_true rfl) (F.2.2.2.2 (.fieldLink RX7 68 "LouderRoomModel" "best" "[I") (List.mem_of_getElem? (i := 4) rfl)) (fun _ h9 => h9) rfl dX7_tableAt_59 ?_
          refine lv_iload hx hb dX7_tableAt_62 (lv_at hl 4 rfl) ?_
          obtain ⟨hi, hf⟩ := grd hf
          refine va_iald hx hb hK.1 hP 20 0 rfl rfl (inb_in hi) dX7_tableAt_64 ?_
          refine lv_goto (tgt := 70) hx hb dX7_tableAt_65 (by decide) ?_
          obtain hf := hf
          obtain ⟨e0, e1⟩ := tup2 hf
          rw [e1] at hP hD
          exact CX_i F hr hlk hP hD hS e0 dX7_tableAt_70
    · replace hf := ite_t hf hc
      refine lv_bipush (v := (-2 : Int32)) hx hb dX7_tableAt_29 (by decide) ?_
      obtain hf := hf
      obtain ⟨e0, e1⟩ := tup2 hf
      rw [e1] at hP hD
      exact CX_i F hr hlk hP hD hS e0 dX7_tableAt_31
def b_X7_divisor_6 (p0 : Int64) (p2 : Int64) (r_6 : Int64 → Int64 → Option (Int64)) (y4 : Int64) (y6 : Int64) : Option (Int64) := (if (lg_cmp y6 (0 : Int64)) = 0 then some y4 else (if y6 = 0 then none else bnd (y4 - y4 / y6 * y6) (fun x1 => r_6 y6 x1)))
def f_X7_divisor (p0 : Int64) (p2 : Int64) : Option (Int64) := fuel2 (b_X7_divisor_6 p0 p2) FU p0 p2
abbrev rm_X7_divisor : Room := { frames := 0, cells := 0, slots := 0, locals := 0 }
theorem hd_X7_divisor : yX7_divisor.cls ≠ "java/lang/invoke/MethodHandle" ∧ yX7_divisor.cls ≠ "java/lang/invoke/VarHandle" ∧ (parseMethodDescriptor yX7_divisor.desc).map (fun d => d.parameters.length) = some 2 := by decide +kernel
set_option maxHeartbeats 4000000 in
set_option maxRecDepth 100000 in
theorem c_X7_divisor (l : Launch) (D : va_G) (ty : TY) (p0 : Int64) (p2 : Int64) (o0 : Int64) (hf : f_X7_divisor p0 p2 = some o0) (sz : Nat) : CX l yX7_divisor wsX7_divisor rm_X7_divisor ([.long p0, .long p2] : List Value) D ty (fl []) sz (qL D o0 (fl [])) 0 0 := by
  refine CX_of (cc := cX7_divisor) (maxL := 10) (ret := (some .long)) (C := RX7) (by decide) rfl rfl (Nat.le_of_ble_eq_true rfl) ?_
  intro p e s m below meth c A ls F hr hlk _ hK hP hD hS hA hl
  have hx := F.1
  have hb := F.2.1
  replace hl : lv_has ls 10 [(0, .long p0), (2, .long p2)] := hl
  unfold f_X7_divisor at hf
  refine lv_lload_n hx hb dX7_divisor_0 rfl (lv_at hl 0 rfl) ?_
  refine lv_lstore (lv' := [(4, .long p0), (0, .long p0), (2, .long p2)]) hx hb dX7_divisor_1 hl (by decide) rfl (fun ls hl => ?_)
  refine lv_lload_n hx hb dX7_divisor_3 rfl (lv_at hl 2 rfl) ?_
  refine lv_lstore (lv' := [(6, .long p2), (4, .long p0), (0, .long p0), (2, .long p2)]) hx hb dX7_divisor_4 hl (by decide) rfl (fun ls hl => ?_)
  have L_6 : ∀ (n : Nat) (y4 : Int64) (y6 : Int64) (H : Heap) (locs : List Loc) (ls : Array Slot), va_P D vwC (fl []) H → va_D A (fl []) → va_S A s.heap H locs → lv_has ls 10 [(4, .long y4), (6, .long y6)] → fuel2 (b_X7_divisor_6 p0 p2) n y4 y6 = some o0 → W p l e rm_X7_divisor s m ([.long p0, .long p2] : List Value).toArray below meth c H locs 0 0 (MQ below (qL D o0 (fl []) A) ([.long p0, .long p2] : List Value).toArray s 0 0 A) (F0 m 6 ls []) := by
    intro n
    induction n with
    | zero => intro y4 y6 H locs ls hP hD hS hl hf; cases hf
    | succ n ih_6 =>
      intro y4 y6 H locs ls hP hD hS hl hf
      replace hf : b_X7_divisor_6 p0 p2 (fuel2 (b_X7_divisor_6 p0 p2) n) y4 y6 = some o0 := hf
      generalize fuel2 (b_X7_divisor_6 p0 p2) n = r_6 at ih_6 hf
      unfold b_X7_divisor_6 at hf
      refine lv_lload hx hb dX7_divisor_6 (lv_at hl 1 rfl) ?_
      refine lv_lconst (v := (0 : Int64)) hx hb dX7_divisor_8 (by decide) ?_
      refine W.lcmp hx hb dX7_divisor_9 ?_
      refine lv_if_eq (tgt := 31) hx hb dX7_divisor_10 (by decide) (fun hc => ?_) (fun hc => ?_)
      · replace hf := ite_t hf hc
        refine lv_lload hx hb dX7_divisor_31 (lv_at hl 0 rfl) ?_
        obtain hf := hf
        have e0 := Option.some.inj hf
        exact CX_l F hr hlk hP hD hS e0 dX7_divisor_33
      · replace hf := ite_f hf hc
        refine lv_lload hx hb dX7_divisor_13 (lv_at hl 0 rfl) ?_
        refine lv_lload hx hb dX7_divisor_15 (lv_at hl 1 rfl) ?_
        obtain ⟨hne, hf⟩ := grz hf
        refine lv_lrem hx hb dX7_divisor_17 hne ?_
        refine lv_topl (fun x1 ex => ?_)
        replace hf := bnd_at hf ex; clear ex
        refine lv_lstore (lv' := [(8, .long x1), (4, .long y4), (6, .long y6)]) hx hb dX7_divisor_18 hl (by decide) rfl (fun ls hl => ?_)
        refine lv_lload hx hb dX7_divisor_20 (lv_at hl 2 rfl) ?_
        refine lv_lstore (lv' := [(4, .long y6), (8, .long x1), (6, .long y6)]) hx hb dX7_divisor_22 hl (by decide) rfl (fun ls hl => ?_)
        refine lv_lload hx hb dX7_divisor_24 (lv_at hl 1 rfl) ?_
        refine lv_lstore (lv' := [(6, .long x1), (4, .long y6), (8, .long x1)]) hx hb dX7_divisor_26 hl (by decide) rfl (fun ls hl => ?_)
        refine lv_goto (tgt := 6) hx hb dX7_divisor_28 (by decide) ?_
        exact ih_6 y6 x1 _ _ _ hP hD hS (lv_sub hl [1, 0] rfl) hf
  exact L_6 FU p0 p2 _ _ _ hP hD hS (lv_sub hl [1, 0] rfl) hf
def j_X7_chance_70 (p1 : Int32) (p2 : Int32) (p3 : Int32) (r_46 : Int64 → Int32 → Option (Int64 × Ob)) (y4 : Int64) (w0 : Ob) (y8 : Int32) (t0 : Int64) (t1 : Int64) : Option (Int64 × Ob) := bnd (t1 * t0) (fun x5 => bnd (y8 + (1 : Int32)) (fun x6 => r_46 x5 x6))
def j_X7_chance_183 (p1 : Int32) (p2 : Int32) (p3 : Int32) (r_82 : Int64 → Int32 → Ob → Option (Int64 × Ob)) (y6 : Int64) (y4 : Int64) (y8 : Int32) (w0 : Ob) : Option (Int64 × Ob) := bnd (y8 + (1 : Int32)) (fun x7 => r_82 y4 x7 w0)
def j_X7_chance_180 (p1 : Int32) (p2 : Int32) (p3 : Int32) (r_82 : Int64 → Int32 → Ob → Option (Int64 × Ob)) (y6 : Int64) (y8 : Int32) (t0 : Int64) (t1 : Int64) (w0 : Ob) : Option (Int64 × Ob) := bnd (t1 + t0) (fun x8 => j_X7_chance_183 p1 p2 p3 r_82 y6 x8 y8 w0)
def j_X7_chance_149 (p1 : Int32) (p2 : Int32) (p3 : Int32) (r_82 : Int64 → Int32 → Ob → Option (Int64 × Ob)) (r_108 : Int64 → Int32 → Option (Int64 × Ob)) (y4 : Int64) (y6 : Int64) (y8 : Int32) (w0 : Ob) (y11 : Int32) (t0 : Int64) (t1 : Int64) : Option (Int64 × Ob) := bnd (t1 * t0) (fun x11 => bnd (y11 + (1 : Int32)) (fun x12 => r_108 x11 x12))
def b_X7_chance_108 (p1 : Int32) (p2 : Int32) (p3 : Int32) (r_82 : Int64 → Int32 → Ob → Option (Int64 × Ob)) (y6 : Int64) (y4 : Int64) (y8 : Int32) (w0 : Ob) (r_108 : Int64 → Int32 → Option (Int64 × Ob)) (y9 : Int64) (y11 : Int32) : Option (Int64 × Ob) := (if (w0.1 4) ≤ y11 then bnd (sI w0 34 y8) (fun g13 => (f_X7_hears g13 p1).bind (fun v14 => (if v14 = 0 then j_X7_chance_180 p1 p2 p3 r_82 y6 y8 (0 : Int64) y4 g13 else j_X7_chance_180 p1 p2 p3 r_82 y6 y8 y9 y4 g13))) else (if y11 = p1 then j_X7_chance_149 p1 p2 p3 r_82 r_108 y4 y6 y8 w0 y11 (1 : Int64) y9 else (f_X7_has y8 y11).bind (fun v15 => (if v15 = 0 then j_X7_chance_149 p1 p2 p3 r_82 r_108 y4 y6 y8 w0 y11 ((10 : Int32) - p2).toInt64 y9 else j_X7_chance_149 p1 p2 p3 r_82 r_108 y4 y6 y8 w0 y11 p2.toInt64 y9))))
def b_X7_chance_82 (p1 : Int32) (p2 : Int32) (p3 : Int32) (y6 : Int64) (r_82 : Int64 → Int32 → Ob → Option (Int64 × Ob)) (y4 : Int64) (y8 : Int32) (w0 : Ob) : Option (Int64 × Ob) := (if ((1 : Int32) <<< ((w0.1 4) &&& 31)) ≤ y8 then (f_X7_divisor y4 y6).bind (fun v9 => (if p3 = 0 then (if v9 = 0 then none else some ((y6 / v9), w0)) else (if v9 = 0 then none else some ((y4 / v9), w0)))) else (f_X7_has y8 p1).bind (fun v10 => (if v10 = 0 then j_X7_chance_183 p1 p2 p3 r_82 y6 y4 y8 w0 else fuel2 (b_X7_chance_108 p1 p2 p3 r_82 y6 y4 y8 w0) FU (1 : Int64) (0 : Int32))))
def b_X7_chance_46 (p1 : Int32) (p2 : Int32) (p3 : Int32) (y4 : Int64) (w0 : Ob) (r_46 : Int64 → Int32 → Option (Int64 × Ob)) (y6 : Int64) (y8 : Int32) : Option (Int64 × Ob) := (if (w0.1 4) ≤ y8 then fuel3 (b_X7_chance_82 p1 p2 p3 y6) FU y4 (0 : Int32) w0 else (if y8 = p1 then j_X7_chance_70 p1 p2 p3 r_46 y4 w0 y8 (1 : Int64) y6 else j_X7_chance_70 p1 p2 p3 r_46 y4 w0 y8 (10 : Int64) y6))
def f_X7_chance (z0 : Ob) (p1 : Int32) (p2 : Int32) (p3 : Int32) : Option (Int64 × Ob) := bnd (sI z0 0 (0 : Int32)) (fun g1 => (f_X7_noRing g1 p1).bind (fun v2 => (if v2 = 0 then (f_X7_in p2.toInt64 (0 : Int64) (10 : Int64)).bind (fun v3 => (if v3 = 0 then some ((-2 : Int64), g1) else (f_X7_begin g1).bind (fun g4 => fuel2 (b_X7_chance_46 p1 p2 p3 (0 : Int64) g4) FU (1 : Int64) (0 : Int32)))) else some ((-1 : Int64), g1))))
abbrev rm_X7_chance : Room := { frames := 6, cells := 0, slots := 0, locals := 128 }
theorem hd_X7_chance : yX7_chance.cls ≠ "java/lang/invoke/MethodHandle" ∧ yX7_chance.cls ≠ "java/lang/invoke/VarHandle" ∧ (parseMethodDescriptor yX7_chance.desc).map (fun d => d.parameters.length) = some 3 := by decide +kernel
theorem in_X7_chance_X7 : ∀ w ∈ wsX70, w ∈ wsX7_chance := fun w h => List.mem_cons_of_mem _ (List.mem_append_right _ h)
set_option maxHeartbeats 4000000 in
set_option maxRecDepth 100000 in
theorem c_X7_chance (l : Launch) (D : va_G) (ty : TY) (h0 : Nat) (a0 : Nat → Nat) (z0 : Ob) (p1 : Int32) (p2 : Int32) (p3 : Int32) (o0 : Int64) (o1 : Ob) (hf : f_X7_chance z0 p1 p2 p3 = some (o0, o1)) (sz : Nat) : CX l yX7_chance wsX7_chance rm_X7_chance ([.ref h0, .int p1, .int p2, .int p3] : List Value) D ty (fl [oX7 ty h0 a0 z0]) sz (qL D o0 (fl [oX7 ty h0 a0 o1])) 0 0 := by
  refine CX_of (cc := cX7_chance) (maxL := 12) (ret := (some .long)) (C := RX7) (by decide) rfl rfl (Nat.le_of_ble_eq_true rfl) ?_
  intro p e s m below meth c A ls F hr hlk _ hK hP hD hS hA hl
  have hx := F.1
  have hb := F.2.1
  replace hl : lv_has ls 12 [(0, .ref h0), (1, .int p1), (2, .int p2), (3, .int p3)] := hl
  unfold f_X7_chance at hf
  refine lv_aload_n hx hb dX7_chance_0 rfl (lv_at hl 0 rfl) ?_
  refine lv_iconst (v := (0 : Int32)) hx hb dX7_chance_1 (by decide) ?_
  refine pt_put (D := D) (ci := 7) (fty := .int) (C := RX7) (T := TX7) (N := 40) (w1 := fl [oX7 ty h0 a0 (sI z0 0 (0 : Int32))]) F in_X7_chance_X7 tyX7 tyX7_ok nmX7 hK.1 hP hD hS 0 rfl rfl 0 (Nat.le_of_ble_eq_true rfl) (F.2.2.2.2 (.fieldLink RX7 71 "LouderRoomModel" "thrown" "I") (List.mem_of_getElem? (i := 1) rfl)) (fun _ h9 => h9) rfl (by decide +kernel) rfl rfl (Nat.le_of_ble_eq_true rfl) rfl dX7_chance_2 (fun H locs hP hD hS => ?_)
  obtain ⟨g1, ex⟩ : ∃ y : Ob, y = (sI z0 0 (0 : Int32)) := ⟨_, rfl⟩
  replace hf := bnd_at hf ex; rw [← ex] at hP hD; clear ex
  refine lv_aload_n hx hb dX7_chance_5 rfl (lv_at hl 0 rfl) ?_
  refine lv_iload_n hx hb dX7_chance_6 rfl (lv_at hl 1 rfl) ?_
  obtain ⟨v2, hv, hf⟩ := obd hf
  have hp1 : List.Perm [oX7 ty h0 a0 g1] ([oX7 ty h0 a0 g1] ++ []) := (List.Perm.refl _)
  refine ci_call (out := v2) (os := [oX7 ty h0 a0 g1]) (oc := [oX7 ty h0 a0 g1]) (oc' := [oX7 ty h0 a0 g1]) (or_ := []) (os' := [oX7 ty h0 a0 g1]) (va_runV (As := [.int p1]) (rest := []) F (c_X7_noRing l D ty h0 a0 _ _ _ hv _) (cwV 1 F.2.2.2.2 gX7_chance_X7_noRing rfl rfl rfl ⟨rfl, hd_X7_noRing⟩ ⟨Nat.le_of_ble_eq_true rfl, Nat.le_of_ble_eq_true rfl⟩) (pre_v hK hP hD hp1 rfl rfl rfl) rfl rfl hl.1 rfl (lv_room (Nat.le_of_ble_eq_true rfl)) dX7_chance_7 ⟨Nat.zero_le _, Nat.zero_le _⟩) hp1 (List.Perm.refl _) hP hD hS hA (fun H locs hP hD hS => ?_)
  clear hp1 hv
  refine lv_if_eq (tgt := 17) hx hb dX7_chance_10 (by decide) (fun hc => ?_) (fun hc => ?_)
  · replace hf := ite_t hf hc
    refine lv_iload_n hx hb dX7_chance_17 rfl (lv_at hl 2 rfl) ?_
    refine lv_i2l hx hb dX7_chance_18 rfl ?_
    refine lv_lconst (v := (0 : Int64)) hx hb dX7_chance_19 (by decide) ?_
    refine lv_ldc2 hx hb F.2.2.2.1 (F.2.2.2.2 (.constantLong RX7 258 (10)) (List.mem_of_getElem? (i := 3) rfl)) dX7_chance_20 ?_
    obtain ⟨v3, hv, hf⟩ := obd hf
    have hp1 : List.Perm [oX7 ty h0 a0 g1] ([] ++ [oX7 ty h0 a0 g1]) := (List.Perm.refl _)
    refine ci_call (out := v3) (os := [oX7 ty h0 a0 g1]) (oc := []) (oc' := []) (or_ := [oX7 ty h0 a0 g1]) (os' := [oX7 ty h0 a0 g1]) (va_runS (As := [.long p2.toInt64, .long (0 : Int64), .long (10 : Int64)]) (rest := []) F (c_X7_in l D ty _ _ _ _ hv _) (va_cwS 3 F.2.2.2.2 gX7_chance_X7_in rfl rfl rfl hd_X7_in ⟨Nat.le_of_ble_eq_true rfl, Nat.le_of_ble_eq_true rfl⟩) (pre_s hK hP hD hp1) rfl rfl hl.1 rfl (lv_room (Nat.le_of_ble_eq_true rfl)) dX7_chance_23 ⟨Nat.zero_le _, Nat.zero_le _⟩) hp1 (List.Perm.refl _) hP hD hS hA (fun H locs hP hD hS => ?_)
    clear hp1 hv
    refine lv_if_ne (tgt := 33) hx hb dX7_chance_26 (by decide) (fun hc => ?_) (fun hc => ?_)
    · replace hf := ite_f hf hc
      refine lv_aload_n hx hb dX7_chance_33 rfl (lv_at hl 0 rfl) ?_
      obtain ⟨g4, hv, hf⟩ := obd hf
      have hp1 : List.Perm [oX7 ty h0 a0 g1] ([oX7 ty h0 a0 g1] ++ []) := (List.Perm.refl _)
      refine cv_call (os := [oX7 ty h0 a0 g1]) (oc := [oX7 ty h0 a0 g1]) (oc' := [oX7 ty h0 a0 g4]) (or_ := []) (os' := [oX7 ty h0 a0 g4]) (va_runV (As := []) (rest := []) F (c_X7_begin l D ty h0 a0 _ _ hv _) (cwV 0 F.2.2.2.2 gX7_chance_X7_begin rfl rfl rfl ⟨rfl, hd_X7_begin⟩ ⟨Nat.le_of_ble_eq_true rfl, Nat.le_of_ble_eq_true rfl⟩) (pre_v hK hP hD hp1 rfl rfl rfl) rfl rfl hl.1 rfl (lv_room (Nat.le_of_ble_eq_true rfl)) dX7_chance_34 ⟨Nat.zero_le _, Nat.zero_le _⟩) hp1 (List.Perm.refl _) hP hD hS hA (fun H locs hP hD hS => ?_)
      clear hp1 hv
      refine lv_lconst (v := (0 : Int64)) hx hb dX7_chance_37 (by decide) ?_
      refine lv_lstore (lv' := [(4, .long (0 : Int64)), (0, .ref h0), (1, .int p1), (2, .int p2), (3, .int p3)]) hx hb dX7_chance_38 hl (by decide) rfl (fun ls hl => ?_)
      refine lv_lconst (v := (1 : Int64)) hx hb dX7_chance_40 (by decide) ?_
      refine lv_lstore (lv' := [(6, .long (1 : Int64)), (4, .long (0 : Int64)), (0, .ref h0), (1, .int p1), (2, .int p2), (3, .int p3)]) hx hb dX7_chance_41 hl (by decide) rfl (fun ls hl => ?_)
      refine lv_iconst (v := (0 : Int32)) hx hb dX7_chance_43 (by decide) ?_
      refine lv_istore (lv' := [(8, .int (0 : Int32)), (6, .long (1 : Int64)), (4, .long (0 : Int64)), (0, .ref h0), (1, .int p1), (2, .int p2), (3, .int p3)]) hx hb dX7_chance_44 hl (by decide) rfl (fun ls hl => ?_)
      have L_46 : ∀ (y4 : Int64) (w0 : Ob) (n : Nat) (y6 : Int64) (y8 : Int32) (H : Heap) (locs : List Loc) (ls : Array Slot), va_P D vwC (fl [oX7 ty h0 a0 w0]) H → va_D A (fl [oX7 ty h0 a0 w0]) → va_S A s.heap H locs → lv_has ls 12 [(0, .ref h0), (1, .int p1), (2, .int p2), (3, .int p3), (4, .long y4), (6, .long y6), (8, .int y8)] → fuel2 (b_X7_chance_46 p1 p2 p3 y4 w0) n y6 y8 = some (o0, o1) → W p l e rm_X7_chance s m ([.ref h0, .int p1, .int p2, .int p3] : List Value).toArray below meth c H locs 0 0 (MQ below (qL D o0 (fl [oX7 ty h0 a0 o1]) A) ([.ref h0, .int p1, .int p2, .int p3] : List Value).toArray s 0 0 A) (F0 m 46 ls []) := by
        intro y4 w0 n
        induction n with
        | zero => intro y6 y8 H locs ls hP hD hS hl hf; cases hf
        | succ n ih_46 =>
          intro y6 y8 H locs ls hP hD hS hl hf
          replace hf : b_X7_chance_46 p1 p2 p3 y4 w0 (fuel2 (b_X7_chance_46 p1 p2 p3 y4 w0) n) y6 y8 = some (o0, o1) := hf
          generalize fuel2 (b_X7_chance_46 p1 p2 p3 y4 w0) n = r_46 at ih_46 hf
          unfold b_X7_chance_46 at hf
          have J_70 : ∀ (y8 : Int32) (t0 : Int64) (t1 : Int64) (H : Heap) (locs : List Loc) (ls : Array Slot), va_P D vwC (fl [oX7 ty h0 a0 w0]) H → va_D A (fl [oX7 ty h0 a0 w0]) → va_S A s.heap H locs → lv_has ls 12 [(0, .ref h0), (1, .int p1), (2, .int p2), (3, .int p3), (4, .long y4), (8, .int y8)] → j_X7_chance_70 p1 p2 p3 r_46 y4 w0 y8 t0 t1 = some (o0, o1) → W p l e rm_X7_chance s m ([.ref h0, .int p1, .int p2, .int p3] : List Value).toArray below meth c H locs 0 0 (MQ below (qL D o0 (fl [oX7 ty h0 a0 o1]) A) ([.ref h0, .int p1, .int p2, .int p3] : List Value).toArray s 0 0 A) (F0 m 70 ls [.long t0, .long t1]) := by
            intro y8 t0 t1 H locs ls hP hD hS hl hf
            unfold j_X7_chance_70 at hf
            refine lv_lmul hx hb dX7_chance_70 ?_
            refine lv_topl (fun x5 ex => ?_)
            replace hf := bnd_at hf ex; clear ex
            refine lv_lstore (lv' := [(6, .long x5), (0, .ref h0), (1, .int p1), (2, .int p2), (3, .int p3), (4, .long y4), (8, .int y8)]) hx hb dX7_chance_71 hl (by decide) rfl (fun ls hl => ?_)
            obtain ⟨x6, ex⟩ : ∃ y : Int32, y = (y8 + (1 : Int32)) := ⟨_, rfl⟩
            replace hf := bnd_at hf ex
            refine lv_iinc (v := x6) (lv' := [(8, .int x6), (6, .long x5), (0, .ref h0), (1, .int p1), (2, .int p2), (3, .int p3), (4, .long y4)]) hx hb dX7_chance_73 hl (k := 6) rfl (by rw [ex]; rfl) (by decide) rfl (fun ls hl => ?_)
            clear ex
            refine lv_goto (tgt := 46) hx hb dX7_chance_76 (by decide) ?_
            exact ih_46 x5 x6 _ _ _ hP hD hS (lv_sub hl [2, 3, 4, 5, 6, 1, 0] rfl) hf
          refine lv_iload hx hb dX7_chance_46 (lv_at hl 6 rfl) ?_
          refine lv_aload_n hx hb dX7_chance_48 rfl (lv_at hl 0 rfl) ?_
          refine va_get (D := D) (ci := 7) (C := RX7) (T := TX7) (N := 40) hx hb F.2.2.2.2 in_X7_chance_X7 F.2.2.2.1 hK.1 hP 0 rfl rfl 4 (Nat.le_of_ble_eq_true rfl) (F.2.2.2.2 (.fieldLink RX7 75 "LouderRoomModel" "rings" "I") (List.mem_of_getElem? (i := 5) rfl)) (fun _ h9 => h9) rfl dX7_chance_49 ?_
          refine lv_icmp_ge (tgt := 79) hx hb dX7_chance_52 (by decide) (fun hc => ?_) (fun hc => ?_)
          · replace hf := ite_t hf hc
            refine lv_iconst (v := (0 : Int32)) hx hb dX7_chance_79 (by decide) ?_
            refine lv_istore (lv' := [(8, .int (0 : Int32)), (0, .ref h0), (1, .int p1), (2, .int p2), (3, .int p3), (4, .long y4), (6, .long y6)]) hx hb dX7_chance_80 hl (by decide) rfl (fun ls hl => ?_)
            have L_82 : ∀ (y6 : Int64) (n : Nat) (y4 : Int64) (y8 : Int32) (w0 : Ob) (H : Heap) (locs : List Loc) (ls : Array Slot), va_P D vwC (fl [oX7 ty h0 a0 w0]) H → va_D A (fl [oX7 ty h0 a0 w0]) → va_S A s.heap H locs → lv_has ls 12 [(0, .ref h0), (1, .int p1), (2, .int p2), (3, .int p3), (4, .long y4), (6, .long y6), (8, .int y8)] → fuel3 (b_X7_chance_82 p1 p2 p3 y6) n y4 y8 w0 = some (o0, o1) → W p l e rm_X7_chance s m ([.ref h0, .int p1, .int p2, .int p3] : List Value).toArray below meth c H locs 0 0 (MQ below (qL D o0 (fl [oX7 ty h0 a0 o1]) A) ([.ref h0, .int p1, .int p2, .int p3] : List Value).toArray s 0 0 A) (F0 m 82 ls []) := by
              intro y6 n
              induction n with
              | zero => intro y4 y8 w0 H locs ls hP hD hS hl hf; cases hf
              | succ n ih_82 =>
                intro y4 y8 w0 H locs ls hP hD hS hl hf
                replace hf : b_X7_chance_82 p1 p2 p3 y6 (fuel3 (b_X7_chance_82 p1 p2 p3 y6) n) y4 y8 w0 = some (o0, o1) := hf
                generalize fuel3 (b_X7_chance_82 p1 p2 p3 y6) n = r_82 at ih_82 hf
                unfold b_X7_chance_82 at hf
                have J_183 : ∀ (y4 : Int64) (y8 : Int32) (w0 : Ob) (H : Heap) (locs : List Loc) (ls : Array Slot), va_P D vwC (fl [oX7 ty h0 a0 w0]) H → va_D A (fl [oX7 ty h0 a0 w0]) → va_S A s.heap H locs → lv_has ls 12 [(0, .ref h0), (1, .int p1), (2, .int p2), (3, .int p3), (4, .long y4), (6, .long y6), (8, .int y8)] → j_X7_chance_183 p1 p2 p3 r_82 y6 y4 y8 w0 = some (o0, o1) → W p l e rm_X7_chance s m ([.ref h0, .int p1, .int p2, .int p3] : List Value).toArray below meth c H locs 0 0 (MQ below (qL D o0 (fl [oX7 ty h0 a0 o1]) A) ([.ref h0, .int p1, .int p2, .int p3] : List Value).toArray s 0 0 A) (F0 m 183 ls []) := by
                  intro y4 y8 w0 H locs ls hP hD hS hl hf
                  unfold j_X7_chance_183 at hf
                  obtain ⟨x7, ex⟩ : ∃ y : Int32, y = (y8 + (1 : Int32)) := ⟨_, rfl⟩
                  replace hf := bnd_at hf ex
                  refine lv_iinc (v := x7) (lv' := [(8, .int x7), (0, .ref h0), (1, .int p1), (2, .int p2), (3, .int p3), (4, .long y4), (6, .long y6)]) hx hb dX7_chance_183 hl (k := 6) rfl (by rw [ex]; rfl) (by decide) rfl (fun ls hl => ?_)
                  clear ex
                  refine lv_goto (tgt := 82) hx hb dX7_chance_186 (by decide) ?_
                  exact ih_82 y4 x7 w0 _ _ _ hP hD hS (lv_sub hl [1, 2, 3, 4, 5, 6, 0] rfl) hf
                have J_180 : ∀ (y8 : Int32) (t0 : Int64) (t1 : Int64) (w0 : Ob) (H : Heap) (locs : List Loc) (ls : Array Slot), va_P D vwC (fl [oX7 ty h0 a0 w0]) H → va_D A (fl [oX7 ty h0 a0 w0]) → va_S A s.heap H locs → lv_has ls 12 [(0, .ref h0), (1, .int p1), (2, .int p2), (3, .int p3), (6, .long y6), (8, .int y8)] → j_X7_chance_180 p1 p2 p3 r_82 y6 y8 t0 t1 w0 = some (o0, o1) → W p l e rm_X7_chance s m ([.ref h0, .int p1, .int p2, .int p3] : List Value).toArray below meth c H locs 0 0 (MQ below (qL D o0 (fl [oX7 ty h0 a0 o1]) A) ([.ref h0, .int p1, .int p2, .int p3] : List Value).toArray s 0 0 A) (F0 m 180 ls [.long t0, .long t1]) := by
                  intro y8 t0 t1 w0 H locs ls hP hD hS hl hf
                  unfold j_X7_chance_180 at hf
                  refine lv_ladd hx hb dX7_chance_180 ?_
                  refine lv_topl (fun x8 ex => ?_)
                  replace hf := bnd_at hf ex; clear ex
                  refine lv_lstore (lv' := [(4, .long x8), (0, .ref h0), (1, .int p1), (2, .int p2), (3, .int p3), (6, .long y6), (8, .int y8)]) hx hb dX7_chance_181 hl (by decide) rfl (fun ls hl => ?_)
                  exact J_183 x8 y8 w0 _ _ _ hP hD hS (lv_sub hl [1, 2, 3, 4, 0, 5, 6] rfl) hf
                refine lv_iload hx hb dX7_chance_82 (lv_at hl 6 rfl) ?_
                refine lv_iconst (v := (1 : Int32)) hx hb dX7_chance_84 (by decide) ?_
                refine lv_aload_n hx hb dX7_chance_85 rfl (lv_at hl 0 rfl) ?_
                refine va_get (D := D) (ci := 7) (C := RX7) (T := TX7) (N := 40) hx hb F.2.2.2.2 in_X7_chance_X7 F.2.2.2.1 hK.1 hP 0 rfl rfl 4 (Nat.le_of_ble_eq_true rfl) (F.2.2.2.2 (.fieldLink RX7 75 "LouderRoomModel" "rings" "I") (List.mem_of_getElem? (i := 5) rfl)) (fun _ h9 => h9) rfl dX7_chance_86 ?_
                refine lv_ishl hx hb dX7_chance_89 ?_
                refine lv_icmp_ge (tgt := 189) hx hb dX7_chance_90 (by decide) (fun hc => ?_) (fun hc => ?_)
                · replace hf := ite_t hf hc
                  refine lv_lload hx hb dX7_chance_189 (lv_at hl 4 rfl) ?_
                  refine lv_lload hx hb dX7_chance_191 (lv_at hl 5 rfl) ?_
                  obtain ⟨v9, hv, hf⟩ := obd hf
                  have hp1 : List.Perm [oX7 ty h0 a0 w0] ([] ++ [oX7 ty h0 a0 w0]) := (List.Perm.refl _)
                  refine cl_call (out := v9) (os := [oX7 ty h0 a0 w0]) (oc := []) (oc' := []) (or_ := [oX7 ty h0 a0 w0]) (os' := [oX7 ty h0 a0 w0]) (va_runS (As := [.long y4, .long y6]) (rest := []) F (c_X7_divisor l D ty _ _ _ hv _) (va_cwS 2 F.2.2.2.2 gX7_chance_X7_divisor rfl rfl rfl hd_X7_divisor ⟨Nat.le_of_ble_eq_true rfl, Nat.le_of_ble_eq_true rfl⟩) (pre_s hK hP hD hp1) rfl rfl hl.1 rfl (lv_room (Nat.le_of_ble_eq_true rfl)) dX7_chance_193 ⟨Nat.zero_le _, Nat.zero_le _⟩) hp1 (List.Perm.refl _) hP hD hS hA (fun H locs hP hD hS => ?_)
                  clear hp1 hv
                  refine lv_lstore (lv' := [(8, .long v9), (0, .ref h0), (1, .int p1), (2, .int p2), (3, .int p3), (4, .long y4), (6, .long y6)]) hx hb dX7_chance_196 hl (by decide) rfl (fun ls hl => ?_)
                  refine lv_iload_n hx hb dX7_chance_198 rfl (lv_at hl 4 rfl) ?_
                  refine lv_if_eq (tgt := 210) hx hb dX7_chance_199 (by decide) (fun hc => ?_) (fun hc => ?_)
                  · replace hf := ite_t hf hc
                    refine lv_lload hx hb dX7_chance_210 (lv_at hl 6 rfl) ?_
                    refine lv_lload hx hb dX7_chance_212 (lv_at hl 0 rfl) ?_
                    obtain ⟨hne, hf⟩ := grz hf
                    refine lv_ldiv hx hb dX7_chance_214 hne ?_
                    obtain hf := hf
                    obtain ⟨e0, e1⟩ := tup2 hf
                    rw [e1] at hP hD
                    exact CX_l F hr hlk hP hD hS e0 dX7_chance_215
                  · replace hf := ite_f hf hc
                    refine lv_lload hx hb dX7_chance_202 (lv_at hl 5 rfl) ?_
                    refine lv_lload hx hb dX7_chance_204 (lv_at hl 0 rfl) ?_
                    obtain ⟨hne, hf⟩ := grz hf
                    refine lv_ldiv hx hb dX7_chance_206 hne ?_
                    refine lv_goto (tgt := 215) hx hb dX7_chance_207 (by decide) ?_
                    obtain hf := hf
                    obtain ⟨e0, e1⟩ := tup2 hf
                    rw [e1] at hP hD
                    exact CX_l F hr hlk hP hD hS e0 dX7_chance_215
                · replace hf := ite_f hf hc
                  refine lv_iload hx hb dX7_chance_93 (lv_at hl 6 rfl) ?_
                  refine lv_iload_n hx hb dX7_chance_95 rfl (lv_at hl 1 rfl) ?_
                  obtain ⟨v10, hv, hf⟩ := obd hf
                  have hp1 : List.Perm [oX7 ty h0 a0 w0] ([] ++ [oX7 ty h0 a0 w0]) := (List.Perm.refl _)
                  refine ci_call (out := v10) (os := [oX7 ty h0 a0 w0]) (oc := []) (oc' := []) (or_ := [oX7 ty h0 a0 w0]) (os' := [oX7 ty h0 a0 w0]) (va_runS (As := [.int y8, .int p1]) (rest := []) F (c_X7_has l D ty _ _ _ hv _) (va_cwS 2 F.2.2.2.2 gX7_chance_X7_has rfl rfl rfl hd_X7_has ⟨Nat.le_of_ble_eq_true rfl, Nat.le_of_ble_eq_true rfl⟩) (pre_s hK hP hD hp1) rfl rfl hl.1 rfl (lv_room (Nat.le_of_ble_eq_true rfl)) dX7_chance_96 ⟨Nat.zero_le _, Nat.zero_le _⟩) hp1 (List.Perm.refl _) hP hD hS hA (fun H locs hP hD hS => ?_)
                  clear hp1 hv
                  refine lv_if_eq (tgt := 183) hx hb dX7_chance_99 (by decide) (fun hc => ?_) (fun hc => ?_)
                  · replace hf := ite_t hf hc
                    exact J_183 y4 y8 w0 _ _ _ hP hD hS (lv_sub hl [0, 1, 2, 3, 4, 5, 6] rfl) hf
                  · replace hf := ite_f hf hc
                    refine lv_lconst (v := (1 : Int64)) hx hb dX7_chance_102 (by decide) ?_
                    refine lv_lstore (lv' := [(9, .long (1 : Int64)), (0, .ref h0), (1, .int p1), (2, .int p2), (3, .int p3), (4, .long y4), (6, .long y6), (8, .int y8)]) hx hb dX7_chance_103 hl (by decide) rfl (fun ls hl => ?_)
                    refine lv_iconst (v := (0 : Int32)) hx hb dX7_chance_105 (by decide) ?_
                    refine lv_istore (lv' := [(11, .int (0 : Int32)), (9, .long (1 : Int64)), (0, .ref h0), (1, .int p1), (2, .int p2), (3, .int p3), (4, .long y4), (6, .long y6), (8, .int y8)]) hx hb dX7_chance_106 hl (by decide) rfl (fun ls hl => ?_)
                    have L_108 : ∀ (y4 : Int64) (y8 : Int32) (w0 : Ob) (n : Nat) (y9 : Int64) (y11 : Int32) (H : Heap) (locs : List Loc) (ls : Array Slot), va_P D vwC (fl [oX7 ty h0 a0 w0]) H → va_D A (fl [oX7 ty h0 a0 w0]) → va_S A s.heap H locs → lv_has ls 12 [(0, .ref h0), (1, .int p1), (2, .int p2), (3, .int p3), (4, .long y4), (6, .long y6), (8, .int y8), (9, .long y9), (11, .int y11)] → fuel2 (b_X7_chance_108 p1 p2 p3 r_82 y6 y4 y8 w0) n y9 y11 = some (o0, o1) → W p l e rm_X7_chance s m ([.ref h0, .int p1, .int p2, .int p3] : List Value).toArray below meth c H locs 0 0 (MQ below (qL D o0 (fl [oX7 ty h0 a0 o1]) A) ([.ref h0, .int p1, .int p2, .int p3] : List Value).toArray s 0 0 A) (F0 m 108 ls []) := by
                      intro y4 y8 w0 n
                      induction n with
                      | zero => intro y9 y11 H locs ls hP hD hS hl hf; cases hf
                      | succ n ih_108 =>
                        intro y9 y11 H locs ls hP hD hS hl hf
                        replace hf : b_X7_chance_108 p1 p2 p3 r_82 y6 y4 y8 w0 (fuel2 (b_X7_chance_108 p1 p2 p3 r_82 y6 y4 y8 w0) n) y9 y11 = some (o0, o1) := hf
                        generalize fuel2 (b_X7_chance_108 p1 p2 p3 r_82 y6 y4 y8 w0) n = r_108 at ih_108 hf
                        unfold b_X7_chance_108 at hf
                        have J_149 : ∀ (y11 : Int32) (t0 : Int64) (t1 : Int64) (H : Heap) (locs : List Loc) (ls : Array Slot), va_P D vwC (fl [oX7 ty h0 a0 w0]) H → va_D A (fl [oX7 ty h0 a0 w0]) → va_S A s.heap H locs → lv_has ls 12 [(0, .ref h0), (1, .int p1), (2, .int p2), (3, .int p3), (4, .long y4), (6, .long y6), (8, .int y8), (11, .int y11)] → j_X7_chance_149 p1 p2 p3 r_82 r_108 y4 y6 y8 w0 y11 t0 t1 = some (o0, o1) → W p l e rm_X7_chance s m ([.ref h0, .int p1, .int p2, .int p3] : List Value).toArray below meth c H locs 0 0 (MQ below (qL D o0 (fl [oX7 ty h0 a0 o1]) A) ([.ref h0, .int p1, .int p2, .int p3] : List Value).toArray s 0 0 A) (F0 m 149 ls [.long t0, .long t1]) := by
                          intro y11 t0 t1 H locs ls hP hD hS hl hf
                          unfold j_X7_chance_149 at hf
                          refine lv_lmul hx hb dX7_chance_149 ?_
                          refine lv_topl (fun x11 ex => ?_)
                          replace hf := bnd_at hf ex; clear ex
                          refine lv_lstore (lv' := [(9, .long x11), (0, .ref h0), (1, .int p1), (2, .int p2), (3, .int p3), (4, .long y4), (6, .long y6), (8, .int y8), (11, .int y11)]) hx hb dX7_chance_150 hl (by decide) rfl (fun ls hl => ?_)
                          obtain ⟨x12, ex⟩ : ∃ y : Int32, y = (y11 + (1 : Int32)) := ⟨_, rfl⟩
                          replace hf := bnd_at hf ex
                          refine lv_iinc (v := x12) (lv' := [(11, .int x12), (9, .long x11), (0, .ref h0), (1, .int p1), (2, .int p2), (3, .int p3), (4, .long y4), (6, .long y6), (8, .int y8)]) hx hb dX7_chance_152 hl (k := 8) rfl (by rw [ex]; rfl) (by decide) rfl (fun ls hl => ?_)
                          clear ex
                          refine lv_goto (tgt := 108) hx hb dX7_chance_155 (by decide) ?_
                          exact ih_108 x11 x12 _ _ _ hP hD hS (lv_sub hl [2, 3, 4, 5, 6, 7, 8, 1, 0] rfl) hf
                        refine lv_iload hx hb dX7_chance_108 (lv_at hl 8 rfl) ?_
                        refine lv_aload_n hx hb dX7_chance_110 rfl (lv_at hl 0 rfl) ?_
                        refine va_get (D := D) (ci := 7) (C := RX7) (T := TX7) (N := 40) hx hb F.2.2.2.2 in_X7_chance_X7 F.2.2.2.1 hK.1 hP 0 rfl rfl 4 (Nat.le_of_ble_eq_true rfl) (F.2.2.2.2 (.fieldLink RX7 75 "LouderRoomModel" "rings" "I") (List.mem_of_getElem? (i := 5) rfl)) (fun _ h9 => h9) rfl dX7_chance_111 ?_
                        refine lv_icmp_ge (tgt := 158) hx hb dX7_chance_114 (by decide) (fun hc => ?_) (fun hc => ?_)
                        · replace hf := ite_t hf hc
                          refine lv_aload_n hx hb dX7_chance_158 rfl (lv_at hl 0 rfl) ?_
                          refine lv_iload hx hb dX7_chance_159 (lv_at hl 6 rfl) ?_
                          refine pt_put (D := D) (ci := 7) (fty := .int) (C := RX7) (T := TX7) (N := 40) (w1 := fl [oX7 ty h0 a0 (sI w0 34 y8)]) F in_X7_chance_X7 tyX7 tyX7_ok nmX7 hK.1 hP hD hS 0 rfl rfl 34 (Nat.le_of_ble_eq_true rfl) (F.2.2.2.2 (.fieldLink RX7 147 "LouderRoomModel" "speak" "I") (List.mem_of_getElem? (i := 6) rfl)) (fun _ h9 => h9) rfl (by decide +kernel) rfl rfl (Nat.le_of_ble_eq_true rfl) rfl dX7_chance_161 (fun H locs hP hD hS => ?_)
                          obtain ⟨g13, ex⟩ : ∃ y : Ob, y = (sI w0 34 y8) := ⟨_, rfl⟩
                          replace hf := bnd_at hf ex; rw [← ex] at hP hD; clear ex
                          refine lv_lload hx hb dX7_chance_164 (lv_at hl 4 rfl) ?_
                          refine lv_aload_n hx hb dX7_chance_166 rfl (lv_at hl 0 rfl) ?_
                          refine lv_iload_n hx hb dX7_chance_167 rfl (lv_at hl 1 rfl) ?_
                          obtain ⟨v14, hv, hf⟩ := obd hf
                          have hp1 : List.Perm [oX7 ty h0 a0 g13] ([oX7 ty h0 a0 g13] ++ []) := (List.Perm.refl _)
                          refine ci_call (out := v14) (os := [oX7 ty h0 a0 g13]) (oc := [oX7 ty h0 a0 g13]) (oc' := [oX7 ty h0 a0 g13]) (or_ := []) (os' := [oX7 ty h0 a0 g13]) (va_runV (As := [.int p1]) (rest := [.long y4]) F (c_X7_hears l D ty h0 a0 _ _ _ hv _) (cwV 1 F.2.2.2.2 gX7_chance_X7_hears rfl rfl rfl ⟨rfl, hd_X7_hears⟩ ⟨Nat.le_of_ble_eq_true rfl, Nat.le_of_ble_eq_true rfl⟩) (pre_v hK hP hD hp1 rfl rfl rfl) rfl rfl hl.1 rfl (lv_room (Nat.le_of_ble_eq_true rfl)) dX7_chance_168 ⟨Nat.zero_le _, Nat.zero_le _⟩) hp1 (List.Perm.refl _) hP hD hS hA (fun H locs hP hD hS => ?_)
                          clear hp1 hv
                          refine lv_if_eq (tgt := 179) hx hb dX7_chance_171 (by decide) (fun hc => ?_) (fun hc => ?_)
                          · replace hf := ite_t hf hc
                            refine lv_lconst (v := (0 : Int64)) hx hb dX7_chance_179 (by decide) ?_
                            exact J_180 y8 (0 : Int64) y4 g13 _ _ _ hP hD hS (lv_sub hl [0, 1, 2, 3, 5, 6] rfl) hf
                          · replace hf := ite_f hf hc
                            refine lv_lload hx hb dX7_chance_174 (lv_at hl 7 rfl) ?_
                            refine lv_goto (tgt := 180) hx hb dX7_chance_176 (by decide) ?_
                            exact J_180 y8 y9 y4 g13 _ _ _ hP hD hS (lv_sub hl [0, 1, 2, 3, 5, 6] rfl) hf
                        · replace hf := ite_f hf hc
                          refine lv_lload hx hb dX7_chance_117 (lv_at hl 7 rfl) ?_
                          refine lv_iload hx hb dX7_chance_119 (lv_at hl 8 rfl) ?_
                          refine lv_iload_n hx hb dX7_chance_121 rfl (lv_at hl 1 rfl) ?_
                          refine lv_icmp_ne (tgt := 129) hx hb dX7_chance_122 (by decide) (fun hc => ?_) (fun hc => ?_)
                          · replace hf := ite_f hf hc
                            refine lv_iload hx hb dX7_chance_129 (lv_at hl 6 rfl) ?_
                            refine lv_iload hx hb dX7_chance_131 (lv_at hl 8 rfl) ?_
                            obtain ⟨v15, hv, hf⟩ := obd hf
                            have hp1 : List.Perm [oX7 ty h0 a0 w0] ([] ++ [oX7 ty h0 a0 w0]) := (List.Perm.refl _)
                            refine ci_call (out := v15) (os := [oX7 ty h0 a0 w0]) (oc := []) (oc' := []) (or_ := [oX7 ty h0 a0 w0]) (os' := [oX7 ty h0 a0 w0]) (va_runS (As := [.int y8, .int y11]) (rest := [.long y9]) F (c_X7_has l D ty _ _ _ hv _) (va_cwS 2 F.2.2.2.2 gX7_chance_X7_has rfl rfl rfl hd_X7_has ⟨Nat.le_of_ble_eq_true rfl, Nat.le_of_ble_eq_true rfl⟩) (pre_s hK hP hD hp1) rfl rfl hl.1 rfl (lv_room (Nat.le_of_ble_eq_true rfl)) dX7_chance_133 ⟨Nat.zero_le _, Nat.zero_le _⟩) hp1 (List.Perm.refl _) hP hD hS hA (fun H locs hP hD hS => ?_)
                            clear hp1 hv
                            refine lv_if_eq (tgt := 144) hx hb dX7_chance_136 (by decide) (fun hc => ?_) (fun hc => ?_)
                            · replace hf := ite_t hf hc
                              refine lv_bipush (v := (10 : Int32)) hx hb dX7_chance_144 (by decide) ?_
                              refine lv_iload_n hx hb dX7_chance_146 rfl (lv_at hl 2 rfl) ?_
                              refine lv_isub hx hb dX7_chance_147 ?_
                              refine lv_i2l hx hb dX7_chance_148 rfl ?_
                              exact J_149 y11 ((10 : Int32) - p2).toInt64 y9 _ _ _ hP hD hS (lv_sub hl [0, 1, 2, 3, 4, 5, 6, 8] rfl) hf
                            · replace hf := ite_f hf hc
                              refine lv_iload_n hx hb dX7_chance_139 rfl (lv_at hl 2 rfl) ?_
                              refine lv_i2l hx hb dX7_chance_140 rfl ?_
                              refine lv_goto (tgt := 149) hx hb dX7_chance_141 (by decide) ?_
                              exact J_149 y11 p2.toInt64 y9 _ _ _ hP hD hS (lv_sub hl [0, 1, 2, 3, 4, 5, 6, 8] rfl) hf
                          · replace hf := ite_t hf hc
                            refine lv_lconst (v := (1 : Int64)) hx hb dX7_chance_125 (by decide) ?_
                            refine lv_goto (tgt := 149) hx hb dX7_chance_126 (by decide) ?_
                            exact J_149 y11 (1 : Int64) y9 _ _ _ hP hD hS (lv_sub hl [0, 1, 2, 3, 4, 5, 6, 8] rfl) hf
                    exact L_108 y4 y8 w0 FU (1 : Int64) (0 : Int32) _ _ _ hP hD hS (lv_sub hl [2, 3, 4, 5, 6, 7, 8, 1, 0] rfl) hf
            exact L_82 y6 FU y4 (0 : Int32) w0 _ _ _ hP hD hS (lv_sub hl [1, 2, 3, 4, 5, 6, 0] rfl) hf
          · replace hf := ite_f hf hc
            refine lv_lload hx hb dX7_chance_55 (lv_at hl 5 rfl) ?_
            refine lv_iload hx hb dX7_chance_57 (lv_at hl 6 rfl) ?_
            refine lv_iload_n hx hb dX7_chance_59 rfl (lv_at hl 1 rfl) ?_
            refine lv_icmp_ne (tgt := 67) hx hb dX7_chance_60 (by decide) (fun hc => ?_) (fun hc => ?_)
            · replace hf := ite_f hf hc
              refine lv_ldc2 hx hb F.2.2.2.1 (F.2.2.2.2 (.constantLong RX7 258 (10)) (List.mem_of_getElem? (i := 3) rfl)) dX7_chance_67 ?_
              exact J_70 y8 (10 : Int64) y6 _ _ _ hP hD hS (lv_sub hl [0, 1, 2, 3, 4, 6] rfl) hf
            · replace hf := ite_t hf hc
              refine lv_lconst (v := (1 : Int64)) hx hb dX7_chance_63 (by decide) ?_
              refine lv_goto (tgt := 70) hx hb dX7_chance_64 (by decide) ?_
              exact J_70 y8 (1 : Int64) y6 _ _ _ hP hD hS (lv_sub hl [0, 1, 2, 3, 4, 6] rfl) hf
      exact L_46 (0 : Int64) g4 FU (1 : Int64) (0 : Int32) _ _ _ hP hD hS (lv_sub hl [3, 4, 5, 6, 2, 1, 0] rfl) hf
    · replace hf := ite_t hf hc
      refine lv_ldc2 hx hb F.2.2.2.1 (F.2.2.2.2 (.constantLong RX7 260 (-2)) (List.mem_of_getElem? (i := 4) rfl)) dX7_chance_29 ?_
      obtain hf := hf
      obtain ⟨e0, e1⟩ := tup2 hf
      rw [e1] at hP hD
      exact CX_l F hr hlk hP hD hS e0 dX7_chance_32
  · replace hf := ite_f hf hc
    refine lv_ldc2 hx hb F.2.2.2.1 (F.2.2.2.2 (.constantLong RX7 256 (-1)) (List.mem_of_getElem? (i := 2) rfl)) dX7_chance_13 ?_
    obtain hf := hf
    obtain ⟨e0, e1⟩ := tup2 hf
    rw [e1] at hP hD
    exact CX_l F hr hlk hP hD hS e0 dX7_chance_16
def f_X7_meter (z0 : Ob) (p1 : Int32) (p2 : Int32) : Option (Int32 × Ob) := bnd (sI z0 0 (0 : Int32)) (fun g1 => (f_X7_in p1.toInt64 (0 : Int64) (40 : Int64)).bind (fun v2 => (if v2 = 0 then some ((-2 : Int32), g1) else (f_X7_in p2.toInt64 (0 : Int64) (9999 : Int64)).bind (fun v3 => (if v3 = 0 then some ((-2 : Int32), g1) else (if (g1.1 26) = (6 : Int32) then some ((-4 : Int32), g1) else (if inb (g1.1 26) 6 = true then bnd (sA g1 27 (upd (g1.2 27) (g1.1 26).toNatClampNeg p1)) (fun g4 => (if inb (g4.1 26) 6 = true then bnd (sA g4 28 (upd (g4.2 28) (g4.1 26).toNatClampNeg p2)) (fun g5 => bnd (sI g5 26 ((g5.1 26) + (1 : Int32))) (fun g6 => some ((g6.1 26), g6))) else none)) else none)))))))
abbrev rm_X7_meter : Room := { frames := 1, cells := 0, slots := 0, locals := 25 }
theorem hd_X7_meter : yX7_meter.cls ≠ "java/lang/invoke/MethodHandle" ∧ yX7_meter.cls ≠ "java/lang/invoke/VarHandle" ∧ (parseMethodDescriptor yX7_meter.desc).map (fun d => d.parameters.length) = some 2 := by decide +kernel
theorem in_X7_meter_X7 : ∀ w ∈ wsX70, w ∈ wsX7_meter := fun w h => List.mem_cons_of_mem _ (List.mem_append_right _ h)
set_option maxHeartbeats 4000000 in
set_option maxRecDepth 100000 in
theorem c_X7_meter (l : Launch) (D : va_G) (ty : TY) (h0 : Nat) (a0 : Nat → Nat) (z0 : Ob) (p1 : Int32) (p2 : Int32) (o0 : Int32) (o1 : Ob) (hf : f_X7_meter z0 p1 p2 = some (o0, o1)) (sz : Nat) : CX l yX7_meter wsX7_meter rm_X7_meter ([.ref h0, .int p1, .int p2] : List Value) D ty (fl [oX7 ty h0 a0 z0]) sz (qI D o0 (fl [oX7 ty h0 a0 o1])) 0 0 := by
  refine CX_of (cc := cX7_meter) (maxL := 3) (ret := (some .int)) (C := RX7) (by decide) rfl rfl (Nat.le_of_ble_eq_true rfl) ?_
  intro p e s m below meth c A ls F hr hlk _ hK hP hD hS hA hl
  have hx := F.1
  have hb := F.2.1
  replace hl : lv_has ls 3 [(0, .ref h0), (1, .int p1), (2, .int p2)] := hl
  unfold f_X7_meter at hf
  refine lv_aload_n hx hb dX7_meter_0 rfl (lv_at hl 0 rfl) ?_
  refine lv_iconst (v := (0 : Int32)) hx hb dX7_meter_1 (by decide) ?_
  refine pt_put (D := D) (ci := 7) (fty := .int) (C := RX7) (T := TX7) (N := 40) (w1 := fl [oX7 ty h0 a0 (sI z0 0 (0 : Int32))]) F in_X7_meter_X7 tyX7 tyX7_ok nmX7 hK.1 hP hD hS 0 rfl rfl 0 (Nat.le_of_ble_eq_true rfl) (F.2.2.2.2 (.fieldLink RX7 71 "LouderRoomModel" "thrown" "I") (List.mem_of_getElem? (i := 1) rfl)) (fun _ h9 => h9) rfl (by decide +kernel) rfl rfl (Nat.le_of_ble_eq_true rfl) rfl dX7_meter_2 (fun H locs hP hD hS => ?_)
  obtain ⟨g1, ex⟩ : ∃ y : Ob, y = (sI z0 0 (0 : Int32)) := ⟨_, rfl⟩
  replace hf := bnd_at hf ex; rw [← ex] at hP hD; clear ex
  refine lv_iload_n hx hb dX7_meter_5 rfl (lv_at hl 1 rfl) ?_
  refine lv_i2l hx hb dX7_meter_6 rfl ?_
  refine lv_lconst (v := (0 : Int64)) hx hb dX7_meter_7 (by decide) ?_
  refine lv_ldc2 hx hb F.2.2.2.1 (F.2.2.2.2 (.constantLong RX7 266 (40)) (List.mem_of_getElem? (i := 2) rfl)) dX7_meter_8 ?_
  obtain ⟨v2, hv, hf⟩ := obd hf
  have hp1 : List.Perm [oX7 ty h0 a0 g1] ([] ++ [oX7 ty h0 a0 g1]) := (List.Perm.refl _)
  refine ci_call (out := v2) (os := [oX7 ty h0 a0 g1]) (oc := []) (oc' := []) (or_ := [oX7 ty h0 a0 g1]) (os' := [oX7 ty h0 a0 g1]) (va_runS (As := [.long p1.toInt64, .long (0 : Int64), .long (40 : Int64)]) (rest := []) F (c_X7_in l D ty _ _ _ _ hv _) (va_cwS 3 F.2.2.2.2 gX7_meter_X7_in rfl rfl rfl hd_X7_in ⟨Nat.le_of_ble_eq_true rfl, Nat.le_of_ble_eq_true rfl⟩) (pre_s hK hP hD hp1) rfl rfl hl.1 rfl (lv_room (Nat.le_of_ble_eq_true rfl)) dX7_meter_11 ⟨Nat.zero_le _, Nat.zero_le _⟩) hp1 (List.Perm.refl _) hP hD hS hA (fun H locs hP hD hS => ?_)
  clear hp1 hv
  refine lv_if_eq (tgt := 29) hx hb dX7_meter_14 (by decide) (fun hc => ?_) (fun hc => ?_)
  · replace hf := ite_t hf hc
    refine lv_bipush (v := (-2 : Int32)) hx hb dX7_meter_29 (by decide) ?_
    obtain hf := hf
    obtain ⟨e0, e1⟩ := tup2 hf
    rw [e1] at hP hD
    exact CX_i F hr hlk hP hD hS e0 dX7_meter_31
  · replace hf := ite_f hf hc
    refine lv_iload_n hx hb dX7_meter_17 rfl (lv_at hl 2 rfl) ?_
    refine lv_i2l hx hb dX7_meter_18 rfl ?_
    refine lv_lconst (v := (0 : Int64)) hx hb dX7_meter_19 (by decide) ?_
    refine lv_ldc2 hx hb F.2.2.2.1 (F.2.2.2.2 (.constantLong RX7 268 (9999)) (List.mem_of_getElem? (i := 3) rfl)) dX7_meter_20 ?_
    obtain ⟨v3, hv, hf⟩ := obd hf
    have hp1 : List.Perm [oX7 ty h0 a0 g1] ([] ++ [oX7 ty h0 a0 g1]) := (List.Perm.refl _)
    refine ci_call (out := v3) (os := [oX7 ty h0 a0 g1]) (oc := []) (oc' := []) (or_ := [oX7 ty h0 a0 g1]) (os' := [oX7 ty h0 a0 g1]) (va_runS (As := [.long p2.toInt64, .long (0 : Int64), .long (9999 : Int64)]) (rest := []) F (c_X7_in l D ty _ _ _ _ hv _) (va_cwS 3 F.2.2.2.2 gX7_meter_X7_in rfl rfl rfl hd_X7_in ⟨Nat.le_of_ble_eq_true rfl, Nat.le_of_ble_eq_true rfl⟩) (pre_s hK hP hD hp1) rfl rfl hl.1 rfl (lv_room (Nat.le_of_ble_eq_true rfl)) dX7_meter_23 ⟨Nat.zero_le _, Nat.zero_le _⟩) hp1 (List.Perm.refl _) hP hD hS hA (fun H locs hP hD hS => ?_)
    clear hp1 hv
    refine lv_if_ne (tgt := 32) hx hb dX7_meter_26 (by decide) (fun hc => ?_) (fun hc => ?_)
    · replace hf := ite_f hf hc
      refine lv_aload_n hx hb dX7_meter_32 rfl (lv_at hl 0 rfl) ?_
      refine va_get (D := D) (ci := 7) (C := RX7) (T := TX7) (N := 40) hx hb F.2.2.2.2 in_X7_meter_X7 F.2.2.2.1 hK.1 hP 0 rfl rfl 26 (Nat.le_of_ble_eq_true rfl) (F.2.2.2.2 (.fieldLink RX7 198 "LouderRoomModel" "meters" "I") (List.mem_of_getElem? (i := 4) rfl)) (fun _ h9 => h9) rfl dX7_meter_33 ?_
      refine lv_bipush (v := (6 : Int32)) hx hb dX7_meter_36 (by decide) ?_
      refine lv_icmp_ne (tgt := 44) hx hb dX7_meter_38 (by decide) (fun hc => ?_) (fun hc => ?_)
      · replace hf := ite_f hf hc
        refine lv_aload_n hx hb dX7_meter_44 rfl (lv_at hl 0 rfl) ?_
        refine va_get (D := D) (ci := 7) (C := RX7) (T := TX7) (N := 40) hx hb F.2.2.2.2 in_X7_meter_X7 F.2.2.2.1 hK.1 hP 0 rfl rfl 27 (Nat.le_of_ble_eq_true rfl) (F.2.2.2.2 (.fieldLink RX7 50 "LouderRoomModel" "meterMinute" "[I") (List.mem_of_getElem? (i := 5) rfl)) (fun _ h9 => h9) rfl dX7_meter_45 ?_
        refine lv_aload_n hx hb dX7_meter_48 rfl (lv_at hl 0 rfl) ?_
        refine va_get (D := D) (ci := 7) (C := RX7) (T := TX7) (N := 40) hx hb F.2.2.2.2 in_X7_meter_X7 F.2.2.2.1 hK.1 hP 0 rfl rfl 26 (Nat.le_of_ble_eq_true rfl) (F.2.2.2.2 (.fieldLink RX7 198 "LouderRoomModel" "meters" "I") (List.mem_of_getElem? (i := 4) rfl)) (fun _ h9 => h9) rfl dX7_meter_49 ?_
        refine lv_iload_n hx hb dX7_meter_52 rfl (lv_at hl 1 rfl) ?_
        obtain ⟨hi, hf⟩ := grd hf
        refine pt_iast (w1 := fl [oX7 ty h0 a0 (sA g1 27 (upd (g1.2 27) (g1.1 26).toNatClampNeg p1))]) F hK.1 hP hD hS 14 0 rfl rfl (inb_in hi) rfl dX7_meter_53 (fun H locs hP hD hS => ?_)
        obtain ⟨g4, ex⟩ : ∃ y : Ob, y = (sA g1 27 (upd (g1.2 27) (g1.1 26).toNatClampNeg p1)) := ⟨_, rfl⟩
        replace hf := bnd_at hf ex; rw [← ex] at hP hD; clear ex
        refine lv_aload_n hx hb dX7_meter_54 rfl (lv_at hl 0 rfl) ?_
        refine va_get (D := D) (ci := 7) (C := RX7) (T := TX7) (N := 40) hx hb F.2.2.2.2 in_X7_meter_X7 F.2.2.2.1 hK.1 hP 0 rfl rfl 28 (Nat.le_of_ble_eq_true rfl) (F.2.2.2.2 (.fieldLink RX7 53 "LouderRoomModel" "meterEcho" "[I") (List.mem_of_getElem? (i := 6) rfl)) (fun _ h9 => h9) rfl dX7_meter_55 ?_
        refine lv_aload_n hx hb dX7_meter_58 rfl (lv_at hl 0 rfl) ?_
        refine va_get (D := D) (ci := 7) (C := RX7) (T := TX7) (N := 40) hx hb F.2.2.2.2 in_X7_meter_X7 F.2.2.2.1 hK.1 hP 0 rfl rfl 26 (Nat.le_of_ble_eq_true rfl) (F.2.2.2.2 (.fieldLink RX7 198 "LouderRoomModel" "meters" "I") (List.mem_of_getElem? (i := 4) rfl)) (fun _ h9 => h9) rfl dX7_meter_59 ?_
        refine lv_iload_n hx hb dX7_meter_62 rfl (lv_at hl 2 rfl) ?_
        obtain ⟨hi, hf⟩ := grd hf
        refine pt_iast (w1 := fl [oX7 ty h0 a0 (sA g4 28 (upd (g4.2 28) (g4.1 26).toNatClampNeg p2))]) F hK.1 hP hD hS 15 0 rfl rfl (inb_in hi) rfl dX7_meter_63 (fun H locs hP hD hS => ?_)
        obtain ⟨g5, ex⟩ : ∃ y : Ob, y = (sA g4 28 (upd (g4.2 28) (g4.1 26).toNatClampNeg p2)) := ⟨_, rfl⟩
        replace hf := bnd_at hf ex; rw [← ex] at hP hD; clear ex
        refine lv_aload_n hx hb dX7_meter_64 rfl (lv_at hl 0 rfl) ?_
        refine lv_dup hx hb dX7_meter_65 rfl ?_
        refine va_get (D := D) (ci := 7) (C := RX7) (T := TX7) (N := 40) hx hb F.2.2.2.2 in_X7_meter_X7 F.2.2.2.1 hK.1 hP 0 rfl rfl 26 (Nat.le_of_ble_eq_true rfl) (F.2.2.2.2 (.fieldLink RX7 198 "LouderRoomModel" "meters" "I") (List.mem_of_getElem? (i := 4) rfl)) (fun _ h9 => h9) rfl dX7_meter_66 ?_
        refine lv_iconst (v := (1 : Int32)) hx hb dX7_meter_69 (by decide) ?_
        refine lv_iadd hx hb dX7_meter_70 ?_
        refine pt_put (D := D) (ci := 7) (fty := .int) (C := RX7) (T := TX7) (N := 40) (w1 := fl [oX7 ty h0 a0 (sI g5 26 ((g5.1 26) + (1 : Int32)))]) F in_X7_meter_X7 tyX7 tyX7_ok nmX7 hK.1 hP hD hS 0 rfl rfl 26 (Nat.le_of_ble_eq_true rfl) (F.2.2.2.2 (.fieldLink RX7 198 "LouderRoomModel" "meters" "I") (List.mem_of_getElem? (i := 4) rfl)) (fun _ h9 => h9) rfl (by decide +kernel) rfl rfl (Nat.le_of_ble_eq_true rfl) rfl dX7_meter_71 (fun H locs hP hD hS => ?_)
        obtain ⟨g6, ex⟩ : ∃ y : Ob, y = (sI g5 26 ((g5.1 26) + (1 : Int32))) := ⟨_, rfl⟩
        replace hf := bnd_at hf ex; rw [← ex] at hP hD; clear ex
        refine lv_aload_n hx hb dX7_meter_74 rfl (lv_at hl 0 rfl) ?_
        refine va_get (D := D) (ci := 7) (C := RX7) (T := TX7) (N := 40) hx hb F.2.2.2.2 in_X7_meter_X7 F.2.2.2.1 hK.1 hP 0 rfl rfl 26 (Nat.le_of_ble_eq_true rfl) (F.2.2.2.2 (.fieldLink RX7 198 "LouderRoomModel" "meters" "I") (List.mem_of_getElem? (i := 4) rfl)) (fun _ h9 => h9) rfl dX7_meter_75 ?_
        obtain hf := hf
        obtain ⟨e0, e1⟩ := tup2 hf
        rw [e1] at hP hD
        exact CX_i F hr hlk hP hD hS e0 dX7_meter_78
      · replace hf := ite_t hf hc
        refine lv_bipush (v := (-4 : Int32)) hx hb dX7_meter_41 (by decide) ?_
        obtain hf := hf
        obtain ⟨e0, e1⟩ := tup2 hf
        rw [e1] at hP hD
        exact CX_i F hr hlk hP hD hS e0 dX7_meter_43
    · replace hf := ite_t hf hc
      refine lv_bipush (v := (-2 : Int32)) hx hb dX7_meter_29 (by decide) ?_
      obtain hf := hf
      obtain ⟨e0, e1⟩ := tup2 hf
      rw [e1] at hP hD
      exact CX_i F hr hlk hP hD hS e0 dX7_meter_31
def f_X7_unmeter (z0 : Ob) : Option (Int32 × Ob) := bnd (sI z0 0 (0 : Int32)) (fun g1 => bnd (g1.1 26) (fun x2 => bnd (sI g1 26 (0 : Int32)) (fun g3 => some (x2, g3))))
abbrev rm_X7_unmeter : Room := { frames := 0, cells := 0, slots := 0, locals := 0 }
theorem hd_X7_unmeter : yX7_unmeter.cls ≠ "java/lang/invoke/MethodHandle" ∧ yX7_unmeter.cls ≠ "java/lang/invoke/VarHandle" ∧ (parseMethodDescriptor yX7_unmeter.desc).map (fun d => d.parameters.length) = some 0 := by decide +kernel
theorem in_X7_unmeter_X7 : ∀ w ∈ wsX70, w ∈ wsX7_unmeter := fun w h => List.mem_cons_of_mem _ (List.mem_append_right _ h)
set_option maxHeartbeats 4000000 in
set_option maxRecDepth 100000 in
theorem c_X7_unmeter (l : Launch) (D : va_G) (ty : TY) (h0 : Nat) (a0 : Nat → Nat) (z0 : Ob) (o0 : Int32) (o1 : Ob) (hf : f_X7_unmeter z0 = some (o0, o1)) (sz : Nat) : CX l yX7_unmeter wsX7_unmeter rm_X7_unmeter ([.ref h0] : List Value) D ty (fl [oX7 ty h0 a0 z0]) sz (qI D o0 (fl [oX7 ty h0 a0 o1])) 0 0 := by
  refine CX_of (cc := cX7_unmeter) (maxL := 2) (ret := (some .int)) (C := RX7) (by decide) rfl rfl (Nat.le_of_ble_eq_true rfl) ?_
  intro p e s m below meth c A ls F hr hlk _ hK hP hD hS hA hl
  have hx := F.1
  have hb := F.2.1
  replace hl : lv_has ls 2 [(0, .ref h0)] := hl
  unfold f_X7_unmeter at hf
  refine lv_aload_n hx hb dX7_unmeter_0 rfl (lv_at hl 0 rfl) ?_
  refine lv_iconst (v := (0 : Int32)) hx hb dX7_unmeter_1 (by decide) ?_
  refine pt_put (D := D) (ci := 7) (fty := .int) (C := RX7) (T := TX7) (N := 40) (w1 := fl [oX7 ty h0 a0 (sI z0 0 (0 : Int32))]) F in_X7_unmeter_X7 tyX7 tyX7_ok nmX7 hK.1 hP hD hS 0 rfl rfl 0 (Nat.le_of_ble_eq_true rfl) (F.2.2.2.2 (.fieldLink RX7 71 "LouderRoomModel" "thrown" "I") (List.mem_of_getElem? (i := 1) rfl)) (fun _ h9 => h9) rfl (by decide +kernel) rfl rfl (Nat.le_of_ble_eq_true rfl) rfl dX7_unmeter_2 (fun H locs hP hD hS => ?_)
  obtain ⟨g1, ex⟩ : ∃ y : Ob, y = (sI z0 0 (0 : Int32)) := ⟨_, rfl⟩
  replace hf := bnd_at hf ex; rw [← ex] at hP hD; clear ex
  refine lv_aload_n hx hb dX7_unmeter_5 rfl (lv_at hl 0 rfl) ?_
  refine va_get (D := D) (ci := 7) (C := RX7) (T := TX7) (N := 40) hx hb F.2.2.2.2 in_X7_unmeter_X7 F.2.2.2.1 hK.1 hP 0 rfl rfl 26 (Nat.le_of_ble_eq_true rfl) (F.2.2.2.2 (.fieldLink RX7 198 "LouderRoomModel" "meters" "I") (List.mem_of_getElem? (i := 2) rfl)) (fun _ h9 => h9) rfl dX7_unmeter_6 ?_
  refine lv_topi (fun x2 ex => ?_)
  replace hf := bnd_at hf ex; clear ex
  refine lv_istore_n (lv' := [(1, .int x2), (0, .ref h0)]) hx hb dX7_unmeter_9 rfl hl (by decide) rfl (fun ls hl => ?_)
  refine lv_aload_n hx hb dX7_unmeter_10 rfl (lv_at hl 1 rfl) ?_
  refine lv_iconst (v := (0 : Int32)) hx hb dX7_unmeter_11 (by decide) ?_
  refine pt_put (D := D) (ci := 7) (fty := .int) (C := RX7) (T := TX7) (N := 40) (w1 := fl [oX7 ty h0 a0 (sI g1 26 (0 : Int32))]) F in_X7_unmeter_X7 tyX7 tyX7_ok nmX7 hK.1 hP hD hS 0 rfl rfl 26 (Nat.le_of_ble_eq_true rfl) (F.2.2.2.2 (.fieldLink RX7 198 "LouderRoomModel" "meters" "I") (List.mem_of_getElem? (i := 2) rfl)) (fun _ h9 => h9) rfl (by decide +kernel) rfl rfl (Nat.le_of_ble_eq_true rfl) rfl dX7_unmeter_12 (fun H locs hP hD hS => ?_)
  obtain ⟨g3, ex⟩ : ∃ y : Ob, y = (sI g1 26 (0 : Int32)) := ⟨_, rfl⟩
  replace hf := bnd_at hf ex; rw [← ex] at hP hD; clear ex
  refine lv_iload_n hx hb dX7_unmeter_15 rfl (lv_at hl 0 rfl) ?_
  obtain hf := hf
  obtain ⟨e0, e1⟩ := tup2 hf
  rw [e1] at hP hD
  exact CX_i F hr hlk hP hD hS e0 dX7_unmeter_16
def j_X7_came_137 (r_9 : Int32 → Int32 → Ob → Option (Int32 × Ob)) (y2 : Int32) (t0 : Int32) (t1 : Int32) (w0 : Ob) : Option (Int32 × Ob) := bnd (t1 ||| t0) (fun x2 => bnd (y2 + (1 : Int32)) (fun x3 => r_9 x2 x3 w0))
def j_X7_came_107 (r_9 : Int32 → Int32 → Ob → Option (Int32 × Ob)) (r_36 : Int32 → Int32 → Ob → Option (Int32 × Ob)) (r_46 : Int32 → Int32 → Option (Int32 × Ob)) (y1 : Int32) (y2 : Int32) (y4 : Int32) (w0 : Ob) (y5 : Int32) (t0 : Int32) : Option (Int32 × Ob) := bnd (y5 + (1 : Int32)) (fun x7 => r_46 t0 x7)
def j_X7_came_106 (r_9 : Int32 → Int32 → Ob → Option (Int32 × Ob)) (r_36 : Int32 → Int32 → Ob → Option (Int32 × Ob)) (r_46 : Int32 → Int32 → Option (Int32 × Ob)) (y1 : Int32) (y2 : Int32) (y4 : Int32) (w0 : Ob) (y5 : Int32) : Option (Int32 × Ob) := j_X7_came_107 r_9 r_36 r_46 y1 y2 y4 w0 y5 (0 : Int32)
def j_X7_came_102 (r_9 : Int32 → Int32 → Ob → Option (Int32 × Ob)) (r_36 : Int32 → Int32 → Ob → Option (Int32 × Ob)) (r_46 : Int32 → Int32 → Option (Int32 × Ob)) (y1 : Int32) (y2 : Int32) (y4 : Int32) (w0 : Ob) (y5 : Int32) : Option (Int32 × Ob) := j_X7_came_107 r_9 r_36 r_46 y1 y2 y4 w0 y5 (1 : Int32)
def b_X7_came_46 (r_9 : Int32 → Int32 → Ob → Option (Int32 × Ob)) (r_36 : Int32 → Int32 → Ob → Option (Int32 × Ob)) (y1 : Int32) (y2 : Int32) (y4 : Int32) (w0 : Ob) (r_46 : Int32 → Int32 → Option (Int32 × Ob)) (y3 : Int32) (y5 : Int32) : Option (Int32 × Ob) := (if (w0.1 26) ≤ y5 then bd2 (f_X7_go w0) (fun v8 g9 => bnd (y4 + (1 : Int32)) (fun x10 => r_36 y3 x10 g9)) else (if y3 = 0 then j_X7_came_106 r_9 r_36 r_46 y1 y2 y4 w0 y5 else (if inb y5 6 = true then (if (w0.2 27 y5.toNatClampNeg) = y4 then (f_X7_echo w0).bind (fun v11 => (if inb y5 6 = true then (if inb y5 6 = true then (f_X7_in v11.toInt64 ((w0.2 28 y5.toNatClampNeg) - (3 : Int32)).toInt64 ((w0.2 28 y5.toNatClampNeg) + (3 : Int32)).toInt64).bind (fun v12 => (if v12 = 0 then j_X7_came_106 r_9 r_36 r_46 y1 y2 y4 w0 y5 else j_X7_came_102 r_9 r_36 r_46 y1 y2 y4 w0 y5)) else none) else none)) else j_X7_came_102 r_9 r_36 r_46 y1 y2 y4 w0 y5) else none)))
def b_X7_came_36 (r_9 : Int32 → Int32 → Ob → Option (Int32 × Ob)) (y1 : Int32) (y2 : Int32) (r_36 : Int32 → Int32 → Ob → Option (Int32 × Ob)) (y3 : Int32) (y4 : Int32) (w0 : Ob) : Option (Int32 × Ob) := (if (40 : Int32) < y4 then (if y3 = 0 then j_X7_came_137 r_9 y2 (0 : Int32) y1 w0 else j_X7_came_137 r_9 y2 ((1 : Int32) <<< (y2 &&& 31)) y1 w0) else fuel2 (b_X7_came_46 r_9 r_36 y1 y2 y4 w0) FU y3 (0 : Int32))
def b_X7_came_9 (r_9 : Int32 → Int32 → Ob → Option (Int32 × Ob)) (y1 : Int32) (y2 : Int32) (w0 : Ob) : Option (Int32 × Ob) := (if (w0.1 4) < y2 then some (y1, w0) else (f_X7_begin w0).bind (fun g4 => (f_X7_allBy g4 (1 : Int32)).bind (fun g5 => bnd (sI g5 32 y2) (fun g6 => fuel3 (b_X7_came_36 r_9 y1 y2) FU (1 : Int32) (0 : Int32) g6))))
def f_X7_came (z0 : Ob) : Option (Int32 × Ob) := bnd (sI z0 0 (0 : Int32)) (fun g1 => fuel3 (b_X7_came_9) FU (0 : Int32) (0 : Int32) g1)
abbrev rm_X7_came : Room := { frames := 7, cells := 0, slots := 0, locals := 155 }
theorem hd_X7_came : yX7_came.cls ≠ "java/lang/invoke/MethodHandle" ∧ yX7_came.cls ≠ "java/lang/invoke/VarHandle" ∧ (parseMethodDescriptor yX7_came.desc).map (fun d => d.parameters.length) = some 0 := by decide +kernel
theorem in_X7_came_X7 : ∀ w ∈ wsX70, w ∈ wsX7_came := fun w h => List.mem_cons_of_mem _ (List.mem_append_right _ h)
set_option maxHeartbeats 4000000 in
set_option maxRecDepth 100000 in
theorem c_X7_came (l : Launch) (D : va_G) (ty : TY) (h0 : Nat) (a0 : Nat → Nat) (z0 : Ob) (o0 : Int32) (o1 : Ob) (hf : f_X7_came z0 = some (o0, o1)) (sz : Nat) : CX l yX7_came wsX7_came rm_X7_came ([.ref h0] : List Value) D ty (fl [oX7 ty h0 a0 z0]) sz (qI D o0 (fl [oX7 ty h0 a0 o1])) 0 0 := by
  refine CX_of (cc := cX7_came) (maxL := 6) (ret := (some .int)) (C := RX7) (by decide) rfl rfl (Nat.le_of_ble_eq_true rfl) ?_
  intro p e s m below meth c A ls F hr hlk _ hK hP hD hS hA hl
  have hx := F.1
  have hb := F.2.1
  replace hl : lv_has ls 6 [(0, .ref h0)] := hl
  unfold f_X7_came at hf
  refine lv_aload_n hx hb dX7_came_0 rfl (lv_at hl 0 rfl) ?_
  refine lv_iconst (v := (0 : Int32)) hx hb dX7_came_1 (by decide) ?_
  refine pt_put (D := D) (ci := 7) (fty := .int) (C := RX7) (T := TX7) (N := 40) (w1 := fl [oX7 ty h0 a0 (sI z0 0 (0 : Int32))]) F in_X7_came_X7 tyX7 tyX7_ok nmX7 hK.1 hP hD hS 0 rfl rfl 0 (Nat.le_of_ble_eq_true rfl) (F.2.2.2.2 (.fieldLink RX7 71 "LouderRoomModel" "thrown" "I") (List.mem_of_getElem? (i := 1) rfl)) (fun _ h9 => h9) rfl (by decide +kernel) rfl rfl (Nat.le_of_ble_eq_true rfl) rfl dX7_came_2 (fun H locs hP hD hS => ?_)
  obtain ⟨g1, ex⟩ : ∃ y : Ob, y = (sI z0 0 (0 : Int32)) := ⟨_, rfl⟩
  replace hf := bnd_at hf ex; rw [← ex] at hP hD; clear ex
  refine lv_iconst (v := (0 : Int32)) hx hb dX7_came_5 (by decide) ?_
  refine lv_istore_n (lv' := [(1, .int (0 : Int32)), (0, .ref h0)]) hx hb dX7_came_6 rfl hl (by decide) rfl (fun ls hl => ?_)
  refine lv_iconst (v := (0 : Int32)) hx hb dX7_came_7 (by decide) ?_
  refine lv_istore_n (lv' := [(2, .int (0 : Int32)), (1, .int (0 : Int32)), (0, .ref h0)]) hx hb dX7_came_8 rfl hl (by decide) rfl (fun ls hl => ?_)
  have L_9 : ∀ (n : Nat) (y1 : Int32) (y2 : Int32) (w0 : Ob) (H : Heap) (locs : List Loc) (ls : Array Slot), va_P D vwC (fl [oX7 ty h0 a0 w0]) H → va_D A (fl [oX7 ty h0 a0 w0]) → va_S A s.heap H locs → lv_has ls 6 [(0, .ref h0), (1, .int y1), (2, .int y2)] → fuel3 (b_X7_came_9) n y1 y2 w0 = some (o0, o1) → W p l e rm_X7_came s m ([.ref h0] : List Value).toArray below meth c H locs 0 0 (MQ below (qI D o0 (fl [oX7 ty h0 a0 o1]) A) ([.ref h0] : List Value).toArray s 0 0 A) (F0 m 9 ls []) := by
    intro n
    induction n with
    | zero => intro y1 y2 w0 H locs ls hP hD hS hl hf; cases hf
    | succ n ih_9 =>
      intro y1 y2 w0 H locs ls hP hD hS hl hf
      replace hf : b_X7_came_9 (fuel3 (b_X7_came_9) n) y1 y2 w0 = some (o0, o1) := hf
      generalize fuel3 (b_X7_came_9) n = r_9 at ih_9 hf
      unfold b_X7_came_9 at hf
      have J_137 : ∀ (y2 : Int32) (t0 : Int32) (t1 : Int32) (w0 : Ob) (H : Heap) (locs : List Loc) (ls : Array Slot), va_P D vwC (fl [oX7 ty h0 a0 w0]) H → va_D A (fl [oX7 ty h0 a0 w0]) → va_S A s.heap H locs → lv_has ls 6 [(0, .ref h0), (2, .int y2)] → j_X7_came_137 r_9 y2 t0 t1 w0 = some (o0, o1) → W p l e rm_X7_came s m ([.ref h0] : List Value).toArray below meth c H locs 0 0 (MQ below (qI D o0 (fl [oX7 ty h0 a0 o1]) A) ([.ref h0] : List Value).toArray s 0 0 A) (F0 m 137 ls [.int t0, .int t1]) := by
        intro y2 t0 t1 w0 H locs ls hP hD hS hl hf
        unfold j_X7_came_137 at hf
        refine lv_ior hx hb dX7_came_137 ?_
        refine lv_topi (fun x2 ex => ?_)
        replace hf := bnd_at hf ex; clear ex
        refine lv_istore_n (lv' := [(1, .int x2), (0, .ref h0), (2, .int y2)]) hx hb dX7_came_138 rfl hl (by decide) rfl (fun ls hl => ?_)
        obtain ⟨x3, ex⟩ : ∃ y : Int32, y = (y2 + (1 : Int32)) := ⟨_, rfl⟩
        replace hf := bnd_at hf ex
        refine lv_iinc (v := x3) (lv' := [(2, .int x3), (1, .int x2), (0, .ref h0)]) hx hb dX7_came_139 hl (k := 2) rfl (by rw [ex]; rfl) (by decide) rfl (fun ls hl => ?_)
        clear ex
        refine lv_goto (tgt := 9) hx hb dX7_came_142 (by decide) ?_
        exact ih_9 x2 x3 w0 _ _ _ hP hD hS (lv_sub hl [2, 1, 0] rfl) hf
      refine lv_iload_n hx hb dX7_came_9 rfl (lv_at hl 2 rfl) ?_
      refine lv_aload_n hx hb dX7_came_10 rfl (lv_at hl 0 rfl) ?_
      refine va_get (D := D) (ci := 7) (C := RX7) (T := TX7) (N := 40) hx hb F.2.2.2.2 in_X7_came_X7 F.2.2.2.1 hK.1 hP 0 rfl rfl 4 (Nat.le_of_ble_eq_true rfl) (F.2.2.2.2 (.fieldLink RX7 75 "LouderRoomModel" "rings" "I") (List.mem_of_getElem? (i := 2) rfl)) (fun _ h9 => h9) rfl dX7_came_11 ?_
      refine lv_icmp_gt (tgt := 145) hx hb dX7_came_14 (by decide) (fun hc => ?_) (fun hc => ?_)
      · replace hf := ite_t hf hc
        refine lv_iload_n hx hb dX7_came_145 rfl (lv_at hl 1 rfl) ?_
        obtain hf := hf
        obtain ⟨e0, e1⟩ := tup2 hf
        rw [e1] at hP hD
        exact CX_i F hr hlk hP hD hS e0 dX7_came_146
      · replace hf := ite_f hf hc
        refine lv_aload_n hx hb dX7_came_17 rfl (lv_at hl 0 rfl) ?_
        obtain ⟨g4, hv, hf⟩ := obd hf
        have hp1 : List.Perm [oX7 ty h0 a0 w0] ([oX7 ty h0 a0 w0] ++ []) := (List.Perm.refl _)
        refine cv_call (os := [oX7 ty h0 a0 w0]) (oc := [oX7 ty h0 a0 w0]) (oc' := [oX7 ty h0 a0 g4]) (or_ := []) (os' := [oX7 ty h0 a0 g4]) (va_runV (As := []) (rest := []) F (c_X7_begin l D ty h0 a0 _ _ hv _) (cwV 0 F.2.2.2.2 gX7_came_X7_begin rfl rfl rfl ⟨rfl, hd_X7_begin⟩ ⟨Nat.le_of_ble_eq_true rfl, Nat.le_of_ble_eq_true rfl⟩) (pre_v hK hP hD hp1 rfl rfl rfl) rfl rfl hl.1 rfl (lv_room (Nat.le_of_ble_eq_true rfl)) dX7_came_18 ⟨Nat.zero_le _, Nat.zero_le _⟩) hp1 (List.Perm.refl _) hP hD hS hA (fun H locs hP hD hS => ?_)
        clear hp1 hv
        refine lv_aload_n hx hb dX7_came_21 rfl (lv_at hl 0 rfl) ?_
        refine lv_iconst (v := (1 : Int32)) hx hb dX7_came_22 (by decide) ?_
        obtain ⟨g5, hv, hf⟩ := obd hf
        have hp1 : List.Perm [oX7 ty h0 a0 g4] ([oX7 ty h0 a0 g4] ++ []) := (List.Perm.refl _)
        refine cv_call (os := [oX7 ty h0 a0 g4]) (oc := [oX7 ty h0 a0 g4]) (oc' := [oX7 ty h0 a0 g5]) (or_ := []) (os' := [oX7 ty h0 a0 g5]) (va_runV (As := [.int (1 : Int32)]) (rest := []) F (c_X7_allBy l D ty h0 a0 _ _ _ hv _) (cwV 1 F.2.2.2.2 gX7_came_X7_allBy rfl rfl rfl ⟨rfl, hd_X7_allBy⟩ ⟨Nat.le_of_ble_eq_true rfl, Nat.le_of_ble_eq_true rfl⟩) (pre_v hK hP hD hp1 rfl rfl rfl) rfl rfl hl.1 rfl (lv_room (Nat.le_of_ble_eq_true rfl)) dX7_came_23 ⟨Nat.zero_le _, Nat.zero_le _⟩) hp1 (List.Perm.refl _) hP hD hS hA (fun H locs hP hD hS => ?_)
        clear hp1 hv
        refine lv_aload_n hx hb dX7_came_26 rfl (lv_at hl 0 rfl) ?_
        refine lv_iload_n hx hb dX7_came_27 rfl (lv_at hl 2 rfl) ?_
        refine pt_put (D := D) (ci := 7) (fty := .int) (C := RX7) (T := TX7) (N := 40) (w1 := fl [oX7 ty h0 a0 (sI g5 32 y2)]) F in_X7_came_X7 tyX7 tyX7_ok nmX7 hK.1 hP hD hS 0 rfl rfl 32 (Nat.le_of_ble_eq_true rfl) (F.2.2.2.2 (.fieldLink RX7 141 "LouderRoomModel" "many" "I") (List.mem_of_getElem? (i := 3) rfl)) (fun _ h9 => h9) rfl (by decide +kernel) rfl rfl (Nat.le_of_ble_eq_true rfl) rfl dX7_came_28 (fun H locs hP hD hS => ?_)
        obtain ⟨g6, ex⟩ : ∃ y : Ob, y = (sI g5 32 y2) := ⟨_, rfl⟩
        replace hf := bnd_at hf ex; rw [← ex] at hP hD; clear ex
        refine lv_iconst (v := (1 : Int32)) hx hb dX7_came_31 (by decide) ?_
        refine lv_istore_n (lv' := [(3, .int (1 : Int32)), (0, .ref h0), (1, .int y1), (2, .int y2)]) hx hb dX7_came_32 rfl hl (by decide) rfl (fun ls hl => ?_)
        refine lv_iconst (v := (0 : Int32)) hx hb dX7_came_33 (by decide) ?_
        refine lv_istore (lv' := [(4, .int (0 : Int32)), (3, .int (1 : Int32)), (0, .ref h0), (1, .int y1), (2, .int y2)]) hx hb dX7_came_34 hl (by decide) rfl (fun ls hl => ?_)
        have L_36 : ∀ (y1 : Int32) (y2 : Int32) (n : Nat) (y3 : Int32) (y4 : Int32) (w0 : Ob) (H : Heap) (locs : List Loc) (ls : Array Slot), va_P D vwC (fl [oX7 ty h0 a0 w0]) H → va_D A (fl [oX7 ty h0 a0 w0]) → va_S A s.heap H locs → lv_has ls 6 [(0, .ref h0), (1, .int y1), (2, .int y2), (3, .int y3), (4, .int y4)] → fuel3 (b_X7_came_36 r_9 y1 y2) n y3 y4 w0 = some (o0, o1) → W p l e rm_X7_came s m ([.ref h0] : List Value).toArray below meth c H locs 0 0 (MQ below (qI D o0 (fl [oX7 ty h0 a0 o1]) A) ([.ref h0] : List Value).toArray s 0 0 A) (F0 m 36 ls []) := by
          intro y1 y2 n
          induction n with
          | zero => intro y3 y4 w0 H locs ls hP hD hS hl hf; cases hf
          | succ n ih_36 =>
            intro y3 y4 w0 H locs ls hP hD hS hl hf
            replace hf : b_X7_came_36 r_9 y1 y2 (fuel3 (b_X7_came_36 r_9 y1 y2) n) y3 y4 w0 = some (o0, o1) := hf
            generalize fuel3 (b_X7_came_36 r_9 y1 y2) n = r_36 at ih_36 hf
            unfold b_X7_came_36 at hf
            refine lv_iload hx hb dX7_came_36 (lv_at hl 4 rfl) ?_
            refine lv_bipush (v := (40 : Int32)) hx hb dX7_came_38 (by decide) ?_
            refine lv_icmp_gt (tgt := 125) hx hb dX7_came_40 (by decide) (fun hc => ?_) (fun hc => ?_)
            · replace hf := ite_t hf hc
              refine lv_iload_n hx hb dX7_came_125 rfl (lv_at hl 1 rfl) ?_
              refine lv_iload_n hx hb dX7_came_126 rfl (lv_at hl 3 rfl) ?_
              refine lv_if_eq (tgt := 136) hx hb dX7_came_127 (by decide) (fun hc => ?_) (fun hc => ?_)
              · replace hf := ite_t hf hc
                refine lv_iconst (v := (0 : Int32)) hx hb dX7_came_136 (by decide) ?_
                exact J_137 y2 (0 : Int32) y1 w0 _ _ _ hP hD hS (lv_sub hl [0, 2] rfl) hf
              · replace hf := ite_f hf hc
                refine lv_iconst (v := (1 : Int32)) hx hb dX7_came_130 (by decide) ?_
                refine lv_iload_n hx hb dX7_came_131 rfl (lv_at hl 2 rfl) ?_
                refine lv_ishl hx hb dX7_came_132 ?_
                refine lv_goto (tgt := 137) hx hb dX7_came_133 (by decide) ?_
                exact J_137 y2 ((1 : Int32) <<< (y2 &&& 31)) y1 w0 _ _ _ hP hD hS (lv_sub hl [0, 2] rfl) hf
            · replace hf := ite_f hf hc
              refine lv_iconst (v := (0 : Int32)) hx hb dX7_came_43 (by decide) ?_
              refine lv_istore (lv' := [(5, .int (0 : Int32)), (0, .ref h0), (1, .int y1), (2, .int y2), (3, .int y3), (4, .int y4)]) hx hb dX7_came_44 hl (by decide) rfl (fun ls hl => ?_)
              have L_46 : ∀ (y4 : Int32) (w0 : Ob) (n : Nat) (y3 : Int32) (y5 : Int32) (H : Heap) (locs : List Loc) (ls : Array Slot), va_P D vwC (fl [oX7 ty h0 a0 w0]) H → va_D A (fl [oX7 ty h0 a0 w0]) → va_S A s.heap H locs → lv_has ls 6 [(0, .ref h0), (1, .int y1), (2, .int y2), (3, .int y3), (4, .int y4), (5, .int y5)] → fuel2 (b_X7_came_46 r_9 r_36 y1 y2 y4 w0) n y3 y5 = some (o0, o1) → W p l e rm_X7_came s m ([.ref h0] : List Value).toArray below meth c H locs 0 0 (MQ below (qI D o0 (fl [oX7 ty h0 a0 o1]) A) ([.ref h0] : List Value).toArray s 0 0 A) (F0 m 46 ls []) := by
                intro y4 w0 n
                induction n with
                | zero => intro y3 y5 H locs ls hP hD hS hl hf; cases hf
                | succ n ih_46 =>
                  intro y3 y5 H locs ls hP hD hS hl hf
                  replace hf : b_X7_came_46 r_9 r_36 y1 y2 y4 w0 (fuel2 (b_X7_came_46 r_9 r_36 y1 y2 y4 w0) n) y3 y5 = some (o0, o1) := hf
                  generalize fuel2 (b_X7_came_46 r_9 r_36 y1 y2 y4 w0) n = r_46 at ih_46 hf
                  unfold b_X7_came_46 at hf
                  have J_107 : ∀ (y5 : Int32) (t0 : Int32) (H : Heap) (locs : List Loc) (ls : Array Slot), va_P D vwC (fl [oX7 ty h0 a0 w0]) H → va_D A (fl [oX7 ty h0 a0 w0]) → va_S A s.heap H locs → lv_has ls 6 [(0, .ref h0), (1, .int y1), (2, .int y2), (4, .int y4), (5, .int y5)] → j_X7_came_107 r_9 r_36 r_46 y1 y2 y4 w0 y5 t0 = some (o0, o1) → W p l e rm_X7_came s m ([.ref h0] : List Value).toArray below meth c H locs 0 0 (MQ below (qI D o0 (fl [oX7 ty h0 a0 o1]) A) ([.ref h0] : List Value).toArray s 0 0 A) (F0 m 107 ls [.int t0]) := by
                    intro y5 t0 H locs ls hP hD hS hl hf
                    unfold j_X7_came_107 at hf
                    refine lv_istore_n (lv' := [(3, .int t0), (0, .ref h0), (1, .int y1), (2, .int y2), (4, .int y4), (5, .int y5)]) hx hb dX7_came_107 rfl hl (by decide) rfl (fun ls hl => ?_)
                    obtain ⟨x7, ex⟩ : ∃ y : Int32, y = (y5 + (1 : Int32)) := ⟨_, rfl⟩
                    replace hf := bnd_at hf ex
                    refine lv_iinc (v := x7) (lv' := [(5, .int x7), (3, .int t0), (0, .ref h0), (1, .int y1), (2, .int y2), (4, .int y4)]) hx hb dX7_came_108 hl (k := 5) rfl (by rw [ex]; rfl) (by decide) rfl (fun ls hl => ?_)
                    clear ex
                    refine lv_goto (tgt := 46) hx hb dX7_came_111 (by decide) ?_
                    exact ih_46 t0 x7 _ _ _ hP hD hS (lv_sub hl [2, 3, 4, 1, 5, 0] rfl) hf
                  have J_106 : ∀ (y5 : Int32) (H : Heap) (locs : List Loc) (ls : Array Slot), va_P D vwC (fl [oX7 ty h0 a0 w0]) H → va_D A (fl [oX7 ty h0 a0 w0]) → va_S A s.heap H locs → lv_has ls 6 [(0, .ref h0), (1, .int y1), (2, .int y2), (4, .int y4), (5, .int y5)] → j_X7_came_106 r_9 r_36 r_46 y1 y2 y4 w0 y5 = some (o0, o1) → W p l e rm_X7_came s m ([.ref h0] : List Value).toArray below meth c H locs 0 0 (MQ below (qI D o0 (fl [oX7 ty h0 a0 o1]) A) ([.ref h0] : List Value).toArray s 0 0 A) (F0 m 106 ls []) := by
                    intro y5 H locs ls hP hD hS hl hf
                    unfold j_X7_came_106 at hf
                    refine lv_iconst (v := (0 : Int32)) hx hb dX7_came_106 (by decide) ?_
                    exact J_107 y5 (0 : Int32) _ _ _ hP hD hS (lv_sub hl [0, 1, 2, 3, 4] rfl) hf
                  have J_102 : ∀ (y5 : Int32) (H : Heap) (locs : List Loc) (ls : Array Slot), va_P D vwC (fl [oX7 ty h0 a0 w0]) H → va_D A (fl [oX7 ty h0 a0 w0]) → va_S A s.heap H locs → lv_has ls 6 [(0, .ref h0), (1, .int y1), (2, .int y2), (4, .int y4), (5, .int y5)] → j_X7_came_102 r_9 r_36 r_46 y1 y2 y4 w0 y5 = some (o0, o1) → W p l e rm_X7_came s m ([.ref h0] : List Value).toArray below meth c H locs 0 0 (MQ below (qI D o0 (fl [oX7 ty h0 a0 o1]) A) ([.ref h0] : List Value).toArray s 0 0 A) (F0 m 102 ls []) := by
                    intro y5 H locs ls hP hD hS hl hf
                    unfold j_X7_came_102 at hf
                    refine lv_iconst (v := (1 : Int32)) hx hb dX7_came_102 (by decide) ?_
                    refine lv_goto (tgt := 107) hx hb dX7_came_103 (by decide) ?_
                    exact J_107 y5 (1 : Int32) _ _ _ hP hD hS (lv_sub hl [0, 1, 2, 3, 4] rfl) hf
                  refine lv_iload hx hb dX7_came_46 (lv_at hl 5 rfl) ?_
                  refine lv_aload_n hx hb dX7_came_48 rfl (lv_at hl 0 rfl) ?_
                  refine va_get (D := D) (ci := 7) (C := RX7) (T := TX7) (N := 40) hx hb F.2.2.2.2 in_X7_came_X7 F.2.2.2.1 hK.1 hP 0 rfl rfl 26 (Nat.le_of_ble_eq_true rfl) (F.2.2.2.2 (.fieldLink RX7 198 "LouderRoomModel" "meters" "I") (List.mem_of_getElem? (i := 4) rfl)) (fun _ h9 => h9) rfl dX7_came_49 ?_
                  refine lv_icmp_ge (tgt := 114) hx hb dX7_came_52 (by decide) (fun hc => ?_) (fun hc => ?_)
                  · replace hf := ite_t hf hc
                    refine lv_aload_n hx hb dX7_came_114 rfl (lv_at hl 0 rfl) ?_
                    obtain ⟨v8, g9, hv, hf⟩ := obd2 hf
                    have hp1 : List.Perm [oX7 ty h0 a0 w0] ([oX7 ty h0 a0 w0] ++ []) := (List.Perm.refl _)
                    refine ci_call (out := v8) (os := [oX7 ty h0 a0 w0]) (oc := [oX7 ty h0 a0 w0]) (oc' := [oX7 ty h0 a0 g9]) (or_ := []) (os' := [oX7 ty h0 a0 g9]) (va_runV (As := []) (rest := []) F (c_X7_go l D ty h0 a0 _ _ _ hv _) (cwV 0 F.2.2.2.2 gX7_came_X7_go rfl rfl rfl ⟨rfl, hd_X7_go⟩ ⟨Nat.le_of_ble_eq_true rfl, Nat.le_of_ble_eq_true rfl⟩) (pre_v hK hP hD hp1 rfl rfl rfl) rfl rfl hl.1 rfl (lv_room (Nat.le_of_ble_eq_true rfl)) dX7_came_115 ⟨Nat.zero_le _, Nat.zero_le _⟩) hp1 (List.Perm.refl _) hP hD hS hA (fun H locs hP hD hS => ?_)
                    clear hp1 hv
                    refine lv_pop hx hb dX7_came_118 rfl ?_
                    obtain ⟨x10, ex⟩ : ∃ y : Int32, y = (y4 + (1 : Int32)) := ⟨_, rfl⟩
                    replace hf := bnd_at hf ex
                    refine lv_iinc (v := x10) (lv' := [(4, .int x10), (0, .ref h0), (1, .int y1), (2, .int y2), (3, .int y3), (5, .int y5)]) hx hb dX7_came_119 hl (k := 4) rfl (by rw [ex]; rfl) (by decide) rfl (fun ls hl => ?_)
                    clear ex
                    refine lv_goto (tgt := 36) hx hb dX7_came_122 (by decide) ?_
                    exact ih_36 y3 x10 g9 _ _ _ hP hD hS (lv_sub hl [1, 2, 3, 4, 0] rfl) hf
                  · replace hf := ite_f hf hc
                    refine lv_iload_n hx hb dX7_came_55 rfl (lv_at hl 3 rfl) ?_
                    refine lv_if_eq (tgt := 106) hx hb dX7_came_56 (by decide) (fun hc => ?_) (fun hc => ?_)
                    · replace hf := ite_t hf hc
                      exact J_106 y5 _ _ _ hP hD hS (lv_sub hl [0, 1, 2, 4, 5] rfl) hf
                    · replace hf := ite_f hf hc
                      refine lv_aload_n hx hb dX7_came_59 rfl (lv_at hl 0 rfl) ?_
                      refine va_get (D := D) (ci := 7) (C := RX7) (T := TX7) (N := 40) hx hb F.2.2.2.2 in_X7_came_X7 F.2.2.2.1 hK.1 hP 0 rfl rfl 27 (Nat.le_of_ble_eq_true rfl) (F.2.2.2.2 (.fieldLink RX7 50 "LouderRoomModel" "meterMinute" "[I") (List.mem_of_getElem? (i := 5) rfl)) (fun _ h9 => h9) rfl dX7_came_60 ?_
                      refine lv_iload hx hb dX7_came_63 (lv_at hl 5 rfl) ?_
                      obtain ⟨hi, hf⟩ := grd hf
                      refine va_iald hx hb hK.1 hP 14 0 rfl rfl (inb_in hi) dX7_came_65 ?_
                      refine lv_iload hx hb dX7_came_66 (lv_at hl 4 rfl) ?_
                      refine lv_icmp_ne (tgt := 102) hx hb dX7_came_68 (by decide) (fun hc => ?_) (fun hc => ?_)
                      · replace hf := ite_f hf hc
                        exact J_102 y5 _ _ _ hP hD hS (lv_sub hl [0, 1, 2, 4, 5] rfl) hf
                      · replace hf := ite_t hf hc
                        refine lv_aload_n hx hb dX7_came_71 rfl (lv_at hl 0 rfl) ?_
                        obtain ⟨v11, hv, hf⟩ := obd hf
                        have hp1 : List.Perm [oX7 ty h0 a0 w0] ([oX7 ty h0 a0 w0] ++ []) := (List.Perm.refl _)
                        refine ci_call (out := v11) (os := [oX7 ty h0 a0 w0]) (oc := [oX7 ty h0 a0 w0]) (oc' := [oX7 ty h0 a0 w0]) (or_ := []) (os' := [oX7 ty h0 a0 w0]) (va_runV (As := []) (rest := []) F (c_X7_echo l D ty h0 a0 _ _ hv _) (cwV 0 F.2.2.2.2 gX7_came_X7_echo rfl rfl rfl ⟨rfl, hd_X7_echo⟩ ⟨Nat.le_of_ble_eq_true rfl, Nat.le_of_ble_eq_true rfl⟩) (pre_v hK hP hD hp1 rfl rfl rfl) rfl rfl hl.1 rfl (lv_room (Nat.le_of_ble_eq_true rfl)) dX7_came_72 ⟨Nat.zero_le _, Nat.zero_le _⟩) hp1 (List.Perm.refl _) hP hD hS hA (fun H locs hP hD hS => ?_)
                        clear hp1 hv
                        refine lv_i2l hx hb dX7_came_75 rfl ?_
                        refine lv_aload_n hx hb dX7_came_76 rfl (lv_at hl 0 rfl) ?_
                        refine va_get (D := D) (ci := 7) (C := RX7) (T := TX7) (N := 40) hx hb F.2.2.2.2 in_X7_came_X7 F.2.2.2.1 hK.1 hP 0 rfl rfl 28 (Nat.le_of_ble_eq_true rfl) (F.2.2.2.2 (.fieldLink RX7 53 "LouderRoomModel" "meterEcho" "[I") (List.mem_of_getElem? (i := 6) rfl)) (fun _ h9 => h9) rfl dX7_came_77 ?_
                        refine lv_iload hx hb dX7_came_80 (lv_at hl 5 rfl) ?_
                        obtain ⟨hi, hf⟩ := grd hf
                        refine va_iald hx hb hK.1 hP 15 0 rfl rfl (inb_in hi) dX7_came_82 ?_
                        refine lv_iconst (v := (3 : Int32)) hx hb dX7_came_83 (by decide) ?_
                        refine lv_isub hx hb dX7_came_84 ?_
                        refine lv_i2l hx hb dX7_came_85 rfl ?_
                        refine lv_aload_n hx hb dX7_came_86 rfl (lv_at hl 0 rfl) ?_
                        refine va_get (D := D) (ci := 7) (C := RX7) (T := TX7) (N := 40) hx hb F.2.2.2.2 in_X7_came_X7 F.2.2.2.1 hK.1 hP 0 rfl rfl 28 (Nat.le_of_ble_eq_true rfl) (F.2.2.2.2 (.fieldLink RX7 53 "LouderRoomModel" "meterEcho" "[I") (List.mem_of_getElem? (i := 6) rfl)) (fun _ h9 => h9) rfl dX7_came_87 ?_
                        refine lv_iload hx hb dX7_came_90 (lv_at hl 5 rfl) ?_
                        obtain ⟨hi, hf⟩ := grd hf
                        refine va_iald hx hb hK.1 hP 15 0 rfl rfl (inb_in hi) dX7_came_92 ?_
                        refine lv_iconst (v := (3 : Int32)) hx hb dX7_came_93 (by decide) ?_
                        refine lv_iadd hx hb dX7_came_94 ?_
                        refine lv_i2l hx hb dX7_came_95 rfl ?_
                        obtain ⟨v12, hv, hf⟩ := obd hf
                        have hp1 : List.Perm [oX7 ty h0 a0 w0] ([] ++ [oX7 ty h0 a0 w0]) := (List.Perm.refl _)
                        refine ci_call (out := v12) (os := [oX7 ty h0 a0 w0]) (oc := []) (oc' := []) (or_ := [oX7 ty h0 a0 w0]) (os' := [oX7 ty h0 a0 w0]) (va_runS (As := [.long v11.toInt64, .long ((w0.2 28 y5.toNatClampNeg) - (3 : Int32)).toInt64, .long ((w0.2 28 y5.toNatClampNeg) + (3 : Int32)).toInt64]) (rest := []) F (c_X7_in l D ty _ _ _ _ hv _) (va_cwS 3 F.2.2.2.2 gX7_came_X7_in rfl rfl rfl hd_X7_in ⟨Nat.le_of_ble_eq_true rfl, Nat.le_of_ble_eq_true rfl⟩) (pre_s hK hP hD hp1) rfl rfl hl.1 rfl (lv_room (Nat.le_of_ble_eq_true rfl)) dX7_came_96 ⟨Nat.zero_le _, Nat.zero_le _⟩) hp1 (List.Perm.refl _) hP hD hS hA (fun H locs hP hD hS => ?_)
                        clear hp1 hv
                        refine lv_if_eq (tgt := 106) hx hb dX7_came_99 (by decide) (fun hc => ?_) (fun hc => ?_)
                        · replace hf := ite_t hf hc
                          exact J_106 y5 _ _ _ hP hD hS (lv_sub hl [0, 1, 2, 4, 5] rfl) hf
                        · replace hf := ite_f hf hc
                          exact J_102 y5 _ _ _ hP hD hS (lv_sub hl [0, 1, 2, 4, 5] rfl) hf
              exact L_46 y4 w0 FU y3 (0 : Int32) _ _ _ hP hD hS (lv_sub hl [1, 2, 3, 4, 5, 0] rfl) hf
        exact L_36 y1 y2 FU (1 : Int32) (0 : Int32) g6 _ _ _ hP hD hS (lv_sub hl [2, 3, 4, 1, 0] rfl) hf
  exact L_9 FU (0 : Int32) (0 : Int32) g1 _ _ _ hP hD hS (lv_sub hl [2, 1, 0] rfl) hf
def b_X7_layPage_24_2 (p2 : Int32) (r_2 : Int32 → Ob → Option (Ob)) (y3 : Int32) (w0 : Ob) : Option (Ob) := (if (8 : Int32) ≤ y3 then (if inb (p2 + (40 : Int32)) 90 = true then bnd (sA w0 24 (upd (w0.2 24) (p2 + (40 : Int32)).toNatClampNeg (w0.1 4))) (fun g1 => (if inb (p2 + (41 : Int32)) 90 = true then bnd (sA g1 24 (upd (g1.2 24) (p2 + (41 : Int32)).toNatClampNeg (g1.1 11))) (fun g2 => some g2) else none)) else none) else (if inb y3 8 = true then (if inb (p2 + y3) 90 = true then bnd (sA w0 24 (upd (w0.2 24) (p2 + y3).toNatClampNeg (w0.2 5 y3.toNatClampNeg))) (fun g3 => (if inb y3 8 = true then (if inb ((p2 + (8 : Int32)) + y3) 90 = true then bnd (sA g3 24 (upd (g3.2 24) ((p2 + (8 : Int32)) + y3).toNatClampNeg (g3.2 6 y3.toNatClampNeg))) (fun g4 => (if inb y3 8 = true then (if inb ((p2 + (16 : Int32)) + y3) 90 = true then bnd (sA g4 24 (upd (g4.2 24) ((p2 + (16 : Int32)) + y3).toNatClampNeg (g4.2 7 y3.toNatClampNeg))) (fun g5 => (if inb y3 8 = true then (if inb ((p2 + (24 : Int32)) + y3) 90 = true then bnd (sA g5 24 (upd (g5.2 24) ((p2 + (24 : Int32)) + y3).toNatClampNeg (g5.2 8 y3.toNatClampNeg))) (fun g6 => (if inb y3 8 = true then (if inb ((p2 + (32 : Int32)) + y3) 90 = true then bnd (sA g6 24 (upd (g6.2 24) ((p2 + (32 : Int32)) + y3).toNatClampNeg (g6.2 9 y3.toNatClampNeg))) (fun g7 => bnd (y3 + (1 : Int32)) (fun x8 => r_2 x8 g7)) else none) else none)) else none) else none)) else none) else none)) else none) else none)) else none) else none))
def f_X7_layPage_24 (z0 : Ob) (p2 : Int32) : Option (Ob) := fuel2 (b_X7_layPage_24_2 p2) FU (0 : Int32) z0
abbrev rm_X7_layPage_24 : Room := { frames := 0, cells := 0, slots := 0, locals := 0 }
set_option maxHeartbeats 4000000 in
set_option maxRecDepth 100000 in
theorem c_X7_layPage_24 (l : Launch) (D : va_G) (ty : TY) (h0 : Nat) (a0 : Nat → Nat) (z0 : Ob) (p2 : Int32) (o0 : Ob) (hf : f_X7_layPage_24 z0 p2 = some o0) (sz : Nat) : CX l yX7_layPage wsX7_layPage rm_X7_layPage_24 ([.ref h0, .ref (a0 24), .int p2] : List Value) D ty (fl [oX7 ty h0 a0 z0]) sz (qV D (fl [oX7 ty h0 a0 o0])) 0 0 := by
  refine CX_of (cc := cX7_layPage) (maxL := 4) (ret := none) (C := RX7) (by decide) rfl rfl (Nat.le_of_ble_eq_true rfl) ?_
  intro p e s m below meth c A ls F hr hlk _ hK hP hD hS hA hl
  have hx := F.1
  have hb := F.2.1
  replace hl : lv_has ls 4 [(0, .ref h0), (1, .ref (a0 24)), (2, .int p2)] := hl
  unfold f_X7_layPage_24 at hf
  refine lv_iconst (v := (0 : Int32)) hx hb dX7_layPage_0 (by decide) ?_
  refine lv_istore_n (lv' := [(3, .int (0 : Int32)), (0, .ref h0), (1, .ref (a0 24)), (2, .int p2)]) hx hb dX7_layPage_1 rfl hl (by decide) rfl (fun ls hl => ?_)
  have L_2 : ∀ (n : Nat) (y3 : Int32) (w0 : Ob) (H : Heap) (locs : List Loc) (ls : Array Slot), va_P D vwC (fl [oX7 ty h0 a0 w0]) H → va_D A (fl [oX7 ty h0 a0 w0]) → va_S A s.heap H locs → lv_has ls 4 [(0, .ref h0), (1, .ref (a0 24)), (2, .int p2), (3, .int y3)] → fuel2 (b_X7_layPage_24_2 p2) n y3 w0 = some o0 → W p l e rm_X7_layPage_24 s m ([.ref h0, .ref (a0 24), .int p2] : List Value).toArray below meth c H locs 0 0 (MQ below (qV D (fl [oX7 ty h0 a0 o0]) A) ([.ref h0, .ref (a0 24), .int p2] : List Value).toArray s 0 0 A) (F0 m 2 ls []) := by
    intro n
    induction n with
    | zero => intro y3 w0 H locs ls hP hD hS hl hf; cases hf
    | succ n ih_2 =>
      intro y3 w0 H locs ls hP hD hS hl hf
      replace hf : b_X7_layPage_24_2 p2 (fuel2 (b_X7_layPage_24_2 p2) n) y3 w0 = some o0 := hf
      generalize fuel2 (b_X7_layPage_24_2 p2) n = r_2 at ih_2 hf
      unfold b_X7_layPage_24_2 at hf
      refine lv_iload_n hx hb dX7_layPage_2 rfl (lv_at hl 3 rfl) ?_
      refine lv_bipush (v := (8 : Int32)) hx hb dX7_layPage_3 (by decide) ?_
      refine lv_icmp_ge (tgt := 81) hx hb dX7_layPage_5 (by decide) (fun hc => ?_) (fun hc => ?_)
      · replace hf := ite_t hf hc
        refine lv_aload_n hx hb dX7_layPage_81 rfl (lv_at hl 1 rfl) ?_
        refine lv_iload_n hx hb dX7_layPage_82 rfl (lv_at hl 2 rfl) ?_
        refine lv_bipush (v := (40 : Int32)) hx hb dX7_layPage_83 (by decide) ?_
        refine lv_iadd hx hb dX7_layPage_85 ?_
        refine lv_aload_n hx hb dX7_layPage_86 rfl (lv_at hl 0 rfl) ?_
        refine va_get (D := D) (ci := 7) (C := RX7) (T := TX7) (N := 40) hx hb F.2.2.2.2 in_X7_layPage_X7 F.2.2.2.1 hK.1 hP 0 rfl rfl 4 (Nat.le_of_ble_eq_true rfl) (F.2.2.2.2 (.fieldLink RX7 75 "LouderRoomModel" "rings" "I") (List.mem_of_getElem? (i := 6) rfl)) (fun _ h9 => h9) rfl dX7_layPage_87 ?_
        obtain ⟨hi, hf⟩ := grd hf
        refine pt_iast (w1 := fl [oX7 ty h0 a0 (sA w0 24 (upd (w0.2 24) (p2 + (40 : Int32)).toNatClampNeg (w0.1 4)))]) F hK.1 hP hD hS 12 0 rfl rfl (inb_in hi) rfl dX7_layPage_90 (fun H locs hP hD hS => ?_)
        obtain ⟨g1, ex⟩ : ∃ y : Ob, y = (sA w0 24 (upd (w0.2 24) (p2 + (40 : Int32)).toNatClampNeg (w0.1 4))) := ⟨_, rfl⟩
        replace hf := bnd_at hf ex; rw [← ex] at hP hD; clear ex
        refine lv_aload_n hx hb dX7_layPage_91 rfl (lv_at hl 1 rfl) ?_
        refine lv_iload_n hx hb dX7_layPage_92 rfl (lv_at hl 2 rfl) ?_
        refine lv_bipush (v := (41 : Int32)) hx hb dX7_layPage_93 (by decide) ?_
        refine lv_iadd hx hb dX7_layPage_95 ?_
        refine lv_aload_n hx hb dX7_layPage_96 rfl (lv_at hl 0 rfl) ?_
        refine va_get (D := D) (ci := 7) (C := RX7) (T := TX7) (N := 40) hx hb F.2.2.2.2 in_X7_layPage_X7 F.2.2.2.1 hK.1 hP 0 rfl rfl 11 (Nat.le_of_ble_eq_true rfl) (F.2.2.2.2 (.fieldLink RX7 128 "LouderRoomModel" "music" "I") (List.mem_of_getElem? (i := 7) rfl)) (fun _ h9 => h9) rfl dX7_layPage_97 ?_
        obtain ⟨hi, hf⟩ := grd hf
        refine pt_iast (w1 := fl [oX7 ty h0 a0 (sA g1 24 (upd (g1.2 24) (p2 + (41 : Int32)).toNatClampNeg (g1.1 11)))]) F hK.1 hP hD hS 12 0 rfl rfl (inb_in hi) rfl dX7_layPage_100 (fun H locs hP hD hS => ?_)
        obtain ⟨g2, ex⟩ : ∃ y : Ob, y = (sA g1 24 (upd (g1.2 24) (p2 + (41 : Int32)).toNatClampNeg (g1.1 11))) := ⟨_, rfl⟩
        replace hf := bnd_at hf ex; rw [← ex] at hP hD; clear ex
        obtain hf := hf
        have e0 := Option.some.inj hf
        rw [e0] at hP hD
        exact CX_v F hr hlk hP hD hS dX7_layPage_101
      · replace hf := ite_f hf hc
        refine lv_aload_n hx hb dX7_layPage_8 rfl (lv_at hl 1 rfl) ?_
        refine lv_iload_n hx hb dX7_layPage_9 rfl (lv_at hl 2 rfl) ?_
        refine lv_iload_n hx hb dX7_layPage_10 rfl (lv_at hl 3 rfl) ?_
        refine lv_iadd hx hb dX7_layPage_11 ?_
        refine lv_aload_n hx hb dX7_layPage_12 rfl (lv_at hl 0 rfl) ?_
        refine va_get (D := D) (ci := 7) (C := RX7) (T := TX7) (N := 40) hx hb F.2.2.2.2 in_X7_layPage_X7 F.2.2.2.1 hK.1 hP 0 rfl rfl 5 (Nat.le_of_ble_eq_true rfl) (F.2.2.2.2 (.fieldLink RX7 13 "LouderRoomModel" "kind" "[I") (List.mem_of_getElem? (i := 1) rfl)) (fun _ h9 => h9) rfl dX7_layPage_13 ?_
        refine lv_iload_n hx hb dX7_layPage_16 rfl (lv_at hl 3 rfl) ?_
        obtain ⟨hi, hf⟩ := grd hf
        refine va_iald hx hb hK.1 hP 2 0 rfl rfl (inb_in hi) dX7_layPage_17 ?_
        obtain ⟨hi, hf⟩ := grd hf
        refine pt_iast (w1 := fl [oX7 ty h0 a0 (sA w0 24 (upd (w0.2 24) (p2 + y3).toNatClampNeg (w0.2 5 y3.toNatClampNeg)))]) F hK.1 hP hD hS 12 0 rfl rfl (inb_in hi) rfl dX7_layPage_18 (fun H locs hP hD hS => ?_)
        obtain ⟨g3, ex⟩ : ∃ y : Ob, y = (sA w0 24 (upd (w0.2 24) (p2 + y3).toNatClampNeg (w0.2 5 y3.toNatClampNeg))) := ⟨_, rfl⟩
        replace hf := bnd_at hf ex; rw [← ex] at hP hD; clear ex
        refine lv_aload_n hx hb dX7_layPage_19 rfl (lv_at hl 1 rfl) ?_
        refine lv_iload_n hx hb dX7_layPage_20 rfl (lv_at hl 2 rfl) ?_
        refine lv_bipush (v := (8 : Int32)) hx hb dX7_layPage_21 (by decide) ?_
        refine lv_iadd hx hb dX7_layPage_23 ?_
        refine lv_iload_n hx hb dX7_layPage_24 rfl (lv_at hl 3 rfl) ?_
        refine lv_iadd hx hb dX7_layPage_25 ?_
        refine lv_aload_n hx hb dX7_layPage_26 rfl (lv_at hl 0 rfl) ?_
        refine va_get (D := D) (ci := 7) (C := RX7) (T := TX7) (N := 40) hx hb F.2.2.2.2 in_X7_layPage_X7 F.2.2.2.1 hK.1 hP 0 rfl rfl 6 (Nat.le_of_ble_eq_true rfl) (F.2.2.2.2 (.fieldLink RX7 16 "LouderRoomModel" "cell" "[I") (List.mem_of_getElem? (i := 2) rfl)) (fun _ h9 => h9) rfl dX7_layPage_27 ?_
        refine lv_iload_n hx hb dX7_layPage_30 rfl (lv_at hl 3 rfl) ?_
        obtain ⟨hi, hf⟩ := grd hf
        refine va_iald hx hb hK.1 hP 3 0 rfl rfl (inb_in hi) dX7_layPage_31 ?_
        obtain ⟨hi, hf⟩ := grd hf
        refine pt_iast (w1 := fl [oX7 ty h0 a0 (sA g3 24 (upd (g3.2 24) ((p2 + (8 : Int32)) + y3).toNatClampNeg (g3.2 6 y3.toNatClampNeg)))]) F hK.1 hP hD hS 12 0 rfl rfl (inb_in hi) rfl dX7_layPage_32 (fun H locs hP hD hS => ?_)
        obtain ⟨g4, ex⟩ : ∃ y : Ob, y = (sA g3 24 (upd (g3.2 24) ((p2 + (8 : Int32)) + y3).toNatClampNeg (g3.2 6 y3.toNatClampNeg))) := ⟨_, rfl⟩
        replace hf := bnd_at hf ex; rw [← ex] at hP hD; clear ex
        refine lv_aload_n hx hb dX7_layPage_33 rfl (lv_at hl 1 rfl) ?_
        refine lv_iload_n hx hb dX7_layPage_34 rfl (lv_at hl 2 rfl) ?_
        refine lv_bipush (v := (16 : Int32)) hx hb dX7_layPage_35 (by decide) ?_
        refine lv_iadd hx hb dX7_layPage_37 ?_
        refine lv_iload_n hx hb dX7_layPage_38 rfl (lv_at hl 3 rfl) ?_
        refine lv_iadd hx hb dX7_layPage_39 ?_
        refine lv_aload_n hx hb dX7_layPage_40 rfl (lv_at hl 0 rfl) ?_
        refine va_get (D := D) (ci := 7) (C := RX7) (T := TX7) (N := 40) hx hb F.2.2.2.2 in_X7_layPage_X7 F.2.2.2.1 hK.1 hP 0 rfl rfl 7 (Nat.le_of_ble_eq_true rfl) (F.2.2.2.2 (.fieldLink RX7 19 "LouderRoomModel" "people" "[I") (List.mem_of_getElem? (i := 3) rfl)) (fun _ h9 => h9) rfl dX7_layPage_41 ?_
        refine lv_iload_n hx hb dX7_layPage_44 rfl (lv_at hl 3 rfl) ?_
        obtain ⟨hi, hf⟩ := grd hf
        refine va_iald hx hb hK.1 hP 4 0 rfl rfl (inb_in hi) dX7_layPage_45 ?_
        obtain ⟨hi, hf⟩ := grd hf
        refine pt_iast (w1 := fl [oX7 ty h0 a0 (sA g4 24 (upd (g4.2 24) ((p2 + (16 : Int32)) + y3).toNatClampNeg (g4.2 7 y3.toNatClampNeg)))]) F hK.1 hP hD hS 12 0 rfl rfl (inb_in hi) rfl dX7_layPage_46 (fun H locs hP hD hS => ?_)
        obtain ⟨g5, ex⟩ : ∃ y : Ob, y = (sA g4 24 (upd (g4.2 24) ((p2 + (16 : Int32)) + y3).toNatClampNeg (g4.2 7 y3.toNatClampNeg))) := ⟨_, rfl⟩
        replace hf := bnd_at hf ex; rw [← ex] at hP hD; clear ex
        refine lv_aload_n hx hb dX7_layPage_47 rfl (lv_at hl 1 rfl) ?_
        refine lv_iload_n hx hb dX7_layPage_48 rfl (lv_at hl 2 rfl) ?_
        refine lv_bipush (v := (24 : Int32)) hx hb dX7_layPage_49 (by decide) ?_
        refine lv_iadd hx hb dX7_layPage_51 ?_
        refine lv_iload_n hx hb dX7_layPage_52 rfl (lv_at hl 3 rfl) ?_
        refine lv_iadd hx hb dX7_layPage_53 ?_
        refine lv_aload_n hx hb dX7_layPage_54 rfl (lv_at hl 0 rfl) ?_
        refine va_get (D := D) (ci := 7) (C := RX7) (T := TX7) (N := 40) hx hb F.2.2.2.2 in_X7_layPage_X7 F.2.2.2.1 hK.1 hP 0 rfl rfl 8 (Nat.le_of_ble_eq_true rfl) (F.2.2.2.2 (.fieldLink RX7 22 "LouderRoomModel" "voice" "[I") (List.mem_of_getElem? (i := 4) rfl)) (fun _ h9 => h9) rfl dX7_layPage_55 ?_
        refine lv_iload_n hx hb dX7_layPage_58 rfl (lv_at hl 3 rfl) ?_
        obtain ⟨hi, hf⟩ := grd hf
        refine va_iald hx hb hK.1 hP 5 0 rfl rfl (inb_in hi) dX7_layPage_59 ?_
        obtain ⟨hi, hf⟩ := grd hf
        refine pt_iast (w1 := fl [oX7 ty h0 a0 (sA g5 24 (upd (g5.2 24) ((p2 + (24 : Int32)) + y3).toNatClampNeg (g5.2 8 y3.toNatClampNeg)))]) F hK.1 hP hD hS 12 0 rfl rfl (inb_in hi) rfl dX7_layPage_60 (fun H locs hP hD hS => ?_)
        obtain ⟨g6, ex⟩ : ∃ y : Ob, y = (sA g5 24 (upd (g5.2 24) ((p2 + (24 : Int32)) + y3).toNatClampNeg (g5.2 8 y3.toNatClampNeg))) := ⟨_, rfl⟩
        replace hf := bnd_at hf ex; rw [← ex] at hP hD; clear ex
        refine lv_aload_n hx hb dX7_layPage_61 rfl (lv_at hl 1 rfl) ?_
        refine lv_iload_n hx hb dX7_layPage_62 rfl (lv_at hl 2 rfl) ?_
        refine lv_bipush (v := (32 : Int32)) hx hb dX7_layPage_63 (by decide) ?_
        refine lv_iadd hx hb dX7_layPage_65 ?_
        refine lv_iload_n hx hb dX7_layPage_66 rfl (lv_at hl 3 rfl) ?_
        refine lv_iadd hx hb dX7_layPage_67 ?_
        refine lv_aload_n hx hb dX7_layPage_68 rfl (lv_at hl 0 rfl) ?_
        refine va_get (D := D) (ci := 7) (C := RX7) (T := TX7) (N := 40) hx hb F.2.2.2.2 in_X7_layPage_X7 F.2.2.2.1 hK.1 hP 0 rfl rfl 9 (Nat.le_of_ble_eq_true rfl) (F.2.2.2.2 (.fieldLink RX7 25 "LouderRoomModel" "age" "[I") (List.mem_of_getElem? (i := 5) rfl)) (fun _ h9 => h9) rfl dX7_layPage_69 ?_
        refine lv_iload_n hx hb dX7_layPage_72 rfl (lv_at hl 3 rfl) ?_
        obtain ⟨hi, hf⟩ := grd hf
        refine va_iald hx hb hK.1 hP 6 0 rfl rfl (inb_in hi) dX7_layPage_73 ?_
        obtain ⟨hi, hf⟩ := grd hf
        refine pt_iast (w1 := fl [oX7 ty h0 a0 (sA g6 24 (upd (g6.2 24) ((p2 + (32 : Int32)) + y3).toNatClampNeg (g6.2 9 y3.toNatClampNeg)))]) F hK.1 hP hD hS 12 0 rfl rfl (inb_in hi) rfl dX7_layPage_74 (fun H locs hP hD hS => ?_)
        obtain ⟨g7, ex⟩ : ∃ y : Ob, y = (sA g6 24 (upd (g6.2 24) ((p2 + (32 : Int32)) + y3).toNatClampNeg (g6.2 9 y3.toNatClampNeg))) := ⟨_, rfl⟩
        replace hf := bnd_at hf ex; rw [← ex] at hP hD; clear ex
        obtain ⟨x8, ex⟩ : ∃ y : Int32, y = (y3 + (1 : Int32)) := ⟨_, rfl⟩
        replace hf := bnd_at hf ex
        refine lv_iinc (v := x8) (lv' := [(3, .int x8), (0, .ref h0), (1, .ref (a0 24)), (2, .int p2)]) hx hb dX7_layPage_75 hl (k := 3) rfl (by rw [ex]; rfl) (by decide) rfl (fun ls hl => ?_)
        clear ex
        refine lv_goto (tgt := 2) hx hb dX7_layPage_78 (by decide) ?_
        exact ih_2 x8 g7 _ _ _ hP hD hS (lv_sub hl [1, 2, 3, 0] rfl) hf
  exact L_2 FU (0 : Int32) z0 _ _ _ hP hD hS (lv_sub hl [1, 2, 3, 0] rfl) hf
def j_X7_keep_75 (p1 : Int32) (t0 : Int32) (t1 : Int32) (w0 : Ob) : Option (Int32 × Ob) := (if inb t1 90 = true then bnd (sA w0 24 (upd (w0.2 24) t1.toNatClampNeg t0)) (fun g1 => some ((g1.1 4), g1)) else none)
def f_X7_keep (z0 : Ob) (p1 : Int32) : Option (Int32 × Ob) := bnd (sI z0 0 (0 : Int32)) (fun g2 => (f_X7_in p1.toInt64 (0 : Int64) (1 : Int64)).bind (fun v3 => (if v3 = 0 then some ((-1 : Int32), g2) else (if inb p1 2 = true then bnd (sA g2 25 (upd (g2.2 25) p1.toNatClampNeg (vp_nar .boolean (1 : Int32)))) (fun g4 => (f_X7_layPage_24 g4 ((45 : Int32) * p1)).bind (fun g5 => (if inb (((45 : Int32) * p1) + (42 : Int32)) 90 = true then bnd (sA g5 24 (upd (g5.2 24) (((45 : Int32) * p1) + (42 : Int32)).toNatClampNeg (g5.1 10))) (fun g6 => (if (g6.1 12) = 0 then j_X7_keep_75 p1 (0 : Int32) (((45 : Int32) * p1) + (43 : Int32)) g6 else j_X7_keep_75 p1 (1 : Int32) (((45 : Int32) * p1) + (43 : Int32)) g6)) else none))) else none))))
abbrev rm_X7_keep : Room := { frames := 1, cells := 0, slots := 0, locals := 25 }
theorem hd_X7_keep : yX7_keep.cls ≠ "java/lang/invoke/MethodHandle" ∧ yX7_keep.cls ≠ "java/lang/invoke/VarHandle" ∧ (parseMethodDescriptor yX7_keep.desc).map (fun d => d.parameters.length) = some 1 := by decide +kernel
theorem in_X7_keep_X7 : ∀ w ∈ wsX70, w ∈ wsX7_keep := fun w h => List.mem_cons_of_mem _ (List.mem_append_right _ h)
set_option maxHeartbeats 4000000 in
set_option maxRecDepth 100000 in
theorem c_X7_keep (l : Launch) (D : va_G) (ty : TY) (h0 : Nat) (a0 : Nat → Nat) (z0 : Ob) (p1 : Int32) (o0 : Int32) (o1 : Ob) (hf : f_X7_keep z0 p1 = some (o0, o1)) (sz : Nat) : CX l yX7_keep wsX7_keep rm_X7_keep ([.ref h0, .int p1] : List Value) D ty (fl [oX7 ty h0 a0 z0]) sz (qI D o0 (fl [oX7 ty h0 a0 o1])) 0 0 := by
  refine CX_of (cc := cX7_keep) (maxL := 2) (ret := (some .int)) (C := RX7) (by decide) rfl rfl (Nat.le_of_ble_eq_true rfl) ?_
  intro p e s m below meth c A ls F hr hlk _ hK hP hD hS hA hl
  have hx := F.1
  have hb := F.2.1
  replace hl : lv_has ls 2 [(0, .ref h0), (1, .int p1)] := hl
  unfold f_X7_keep at hf
  have J_75 : ∀ (t0 : Int32) (t1 : Int32) (w0 : Ob) (H : Heap) (locs : List Loc) (ls : Array Slot), va_P D vwC (fl [oX7 ty h0 a0 w0]) H → va_D A (fl [oX7 ty h0 a0 w0]) → va_S A s.heap H locs → lv_has ls 2 [(0, .ref h0)] → j_X7_keep_75 p1 t0 t1 w0 = some (o0, o1) → W p l e rm_X7_keep s m ([.ref h0, .int p1] : List Value).toArray below meth c H locs 0 0 (MQ below (qI D o0 (fl [oX7 ty h0 a0 o1]) A) ([.ref h0, .int p1] : List Value).toArray s 0 0 A) (F0 m 75 ls [.int t0, .int t1, .ref (a0 24)]) := by
    intro t0 t1 w0 H locs ls hP hD hS hl hf
    unfold j_X7_keep_75 at hf
    obtain ⟨hi, hf⟩ := grd hf
    refine pt_iast (w1 := fl [oX7 ty h0 a0 (sA w0 24 (upd (w0.2 24) t1.toNatClampNeg t0))]) F hK.1 hP hD hS 12 0 rfl rfl (inb_in hi) rfl dX7_keep_75 (fun H locs hP hD hS => ?_)
    obtain ⟨g1, ex⟩ : ∃ y : Ob, y = (sA w0 24 (upd (w0.2 24) t1.toNatClampNeg t0)) := ⟨_, rfl⟩
    replace hf := bnd_at hf ex; rw [← ex] at hP hD; clear ex
    refine lv_aload_n hx hb dX7_keep_76 rfl (lv_at hl 0 rfl) ?_
    refine va_get (D := D) (ci := 7) (C := RX7) (T := TX7) (N := 40) hx hb F.2.2.2.2 in_X7_keep_X7 F.2.2.2.1 hK.1 hP 0 rfl rfl 4 (Nat.le_of_ble_eq_true rfl) (F.2.2.2.2 (.fieldLink RX7 75 "LouderRoomModel" "rings" "I") (List.mem_of_getElem? (i := 6) rfl)) (fun _ h9 => h9) rfl dX7_keep_77 ?_
    obtain hf := hf
    obtain ⟨e0, e1⟩ := tup2 hf
    rw [e1] at hP hD
    exact CX_i F hr hlk hP hD hS e0 dX7_keep_80
  refine lv_aload_n hx hb dX7_keep_0 rfl (lv_at hl 0 rfl) ?_
  refine lv_iconst (v := (0 : Int32)) hx hb dX7_keep_1 (by decide) ?_
  refine pt_put (D := D) (ci := 7) (fty := .int) (C := RX7) (T := TX7) (N := 40) (w1 := fl [oX7 ty h0 a0 (sI z0 0 (0 : Int32))]) F in_X7_keep_X7 tyX7 tyX7_ok nmX7 hK.1 hP hD hS 0 rfl rfl 0 (Nat.le_of_ble_eq_true rfl) (F.2.2.2.2 (.fieldLink RX7 71 "LouderRoomModel" "thrown" "I") (List.mem_of_getElem? (i := 1) rfl)) (fun _ h9 => h9) rfl (by decide +kernel) rfl rfl (Nat.le_of_ble_eq_true rfl) rfl dX7_keep_2 (fun H locs hP hD hS => ?_)
  obtain ⟨g2, ex⟩ : ∃ y : Ob, y = (sI z0 0 (0 : Int32)) := ⟨_, rfl⟩
  replace hf := bnd_at hf ex; rw [← ex] at hP hD; clear ex
  refine lv_iload_n hx hb dX7_keep_5 rfl (lv_at hl 1 rfl) ?_
  refine lv_i2l hx hb dX7_keep_6 rfl ?_
  refine lv_lconst (v := (0 : Int64)) hx hb dX7_keep_7 (by decide) ?_
  refine lv_lconst (v := (1 : Int64)) hx hb dX7_keep_8 (by decide) ?_
  obtain ⟨v3, hv, hf⟩ := obd hf
  have hp1 : List.Perm [oX7 ty h0 a0 g2] ([] ++ [oX7 ty h0 a0 g2]) := (List.Perm.refl _)
  refine ci_call (out := v3) (os := [oX7 ty h0 a0 g2]) (oc := []) (oc' := []) (or_ := [oX7 ty h0 a0 g2]) (os' := [oX7 ty h0 a0 g2]) (va_runS (As := [.long p1.toInt64, .long (0 : Int64), .long (1 : Int64)]) (rest := []) F (c_X7_in l D ty _ _ _ _ hv _) (va_cwS 3 F.2.2.2.2 gX7_keep_X7_in rfl rfl rfl hd_X7_in ⟨Nat.le_of_ble_eq_true rfl, Nat.le_of_ble_eq_true rfl⟩) (pre_s hK hP hD hp1) rfl rfl hl.1 rfl (lv_room (Nat.le_of_ble_eq_true rfl)) dX7_keep_9 ⟨Nat.zero_le _, Nat.zero_le _⟩) hp1 (List.Perm.refl _) hP hD hS hA (fun H locs hP hD hS => ?_)
  clear hp1 hv
  refine lv_if_ne (tgt := 17) hx hb dX7_keep_12 (by decide) (fun hc => ?_) (fun hc => ?_)
  · replace hf := ite_f hf hc
    refine lv_aload_n hx hb dX7_keep_17 rfl (lv_at hl 0 rfl) ?_
    refine va_get (D := D) (ci := 7) (C := RX7) (T := TX7) (N := 40) hx hb F.2.2.2.2 in_X7_keep_X7 F.2.2.2.1 hK.1 hP 0 rfl rfl 25 (Nat.le_of_ble_eq_true rfl) (F.2.2.2.2 (.fieldLink RX7 46 "LouderRoomModel" "isKept" "[Z") (List.mem_of_getElem? (i := 2) rfl)) (fun _ h9 => h9) rfl dX7_keep_18 ?_
    refine lv_iload_n hx hb dX7_keep_21 rfl (lv_at hl 1 rfl) ?_
    refine lv_iconst (v := (1 : Int32)) hx hb dX7_keep_22 (by decide) ?_
    obtain ⟨hi, hf⟩ := grd hf
    refine pt_zast (w1 := fl [oX7 ty h0 a0 (sA g2 25 (upd (g2.2 25) p1.toNatClampNeg (vp_nar .boolean (1 : Int32))))]) F hK.1 hP hD hS 13 2 rfl rfl (inb_in hi) rfl dX7_keep_23 (fun H locs hP hD hS => ?_)
    obtain ⟨g4, ex⟩ : ∃ y : Ob, y = (sA g2 25 (upd (g2.2 25) p1.toNatClampNeg (vp_nar .boolean (1 : Int32)))) := ⟨_, rfl⟩
    replace hf := bnd_at hf ex; rw [← ex] at hP hD; clear ex
    refine lv_aload_n hx hb dX7_keep_24 rfl (lv_at hl 0 rfl) ?_
    refine lv_aload_n hx hb dX7_keep_25 rfl (lv_at hl 0 rfl) ?_
    refine va_get (D := D) (ci := 7) (C := RX7) (T := TX7) (N := 40) hx hb F.2.2.2.2 in_X7_keep_X7 F.2.2.2.1 hK.1 hP 0 rfl rfl 24 (Nat.le_of_ble_eq_true rfl) (F.2.2.2.2 (.fieldLink RX7 43 "LouderRoomModel" "kept" "[I") (List.mem_of_getElem? (i := 3) rfl)) (fun _ h9 => h9) rfl dX7_keep_26 ?_
    refine lv_bipush (v := (45 : Int32)) hx hb dX7_keep_29 (by decide) ?_
    refine lv_iload_n hx hb dX7_keep_31 rfl (lv_at hl 1 rfl) ?_
    refine lv_imul hx hb dX7_keep_32 ?_
    obtain ⟨g5, hv, hf⟩ := obd hf
    have hp1 : List.Perm [oX7 ty h0 a0 g4] ([oX7 ty h0 a0 g4] ++ []) := (List.Perm.refl _)
    refine cv_call (os := [oX7 ty h0 a0 g4]) (oc := [oX7 ty h0 a0 g4]) (oc' := [oX7 ty h0 a0 g5]) (or_ := []) (os' := [oX7 ty h0 a0 g5]) (va_runV (As := [.ref (a0 24), .int ((45 : Int32) * p1)]) (rest := []) F (c_X7_layPage_24 l D ty h0 a0 _ _ _ hv _) (cwV 2 F.2.2.2.2 gX7_keep_X7_layPage rfl rfl rfl ⟨rfl, hd_X7_layPage⟩ ⟨Nat.le_of_ble_eq_true rfl, Nat.le_of_ble_eq_true rfl⟩) (pre_v hK hP hD hp1 rfl rfl rfl) rfl rfl hl.1 rfl (lv_room (Nat.le_of_ble_eq_true rfl)) dX7_keep_33 ⟨Nat.zero_le _, Nat.zero_le _⟩) hp1 (List.Perm.refl _) hP hD hS hA (fun H locs hP hD hS => ?_)
    clear hp1 hv
    refine lv_aload_n hx hb dX7_keep_36 rfl (lv_at hl 0 rfl) ?_
    refine va_get (D := D) (ci := 7) (C := RX7) (T := TX7) (N := 40) hx hb F.2.2.2.2 in_X7_keep_X7 F.2.2.2.1 hK.1 hP 0 rfl rfl 24 (Nat.le_of_ble_eq_true rfl) (F.2.2.2.2 (.fieldLink RX7 43 "LouderRoomModel" "kept" "[I") (List.mem_of_getElem? (i := 3) rfl)) (fun _ h9 => h9) rfl dX7_keep_37 ?_
    refine lv_bipush (v := (45 : Int32)) hx hb dX7_keep_40 (by decide) ?_
    refine lv_iload_n hx hb dX7_keep_42 rfl (lv_at hl 1 rfl) ?_
    refine lv_imul hx hb dX7_keep_43 ?_
    refine lv_bipush (v := (42 : Int32)) hx hb dX7_keep_44 (by decide) ?_
    refine lv_iadd hx hb dX7_keep_46 ?_
    refine lv_aload_n hx hb dX7_keep_47 rfl (lv_at hl 0 rfl) ?_
    refine va_get (D := D) (ci := 7) (C := RX7) (T := TX7) (N := 40) hx hb F.2.2.2.2 in_X7_keep_X7 F.2.2.2.1 hK.1 hP 0 rfl rfl 10 (Nat.le_of_ble_eq_true rfl) (F.2.2.2.2 (.fieldLink RX7 125 "LouderRoomModel" "eats" "I") (List.mem_of_getElem? (i := 4) rfl)) (fun _ h9 => h9) rfl dX7_keep_48 ?_
    obtain ⟨hi, hf⟩ := grd hf
    refine pt_iast (w1 := fl [oX7 ty h0 a0 (sA g5 24 (upd (g5.2 24) (((45 : Int32) * p1) + (42 : Int32)).toNatClampNeg (g5.1 10)))]) F hK.1 hP hD hS 12 0 rfl rfl (inb_in hi) rfl dX7_keep_51 (fun H locs hP hD hS => ?_)
    obtain ⟨g6, ex⟩ : ∃ y : Ob, y = (sA g5 24 (upd (g5.2 24) (((45 : Int32) * p1) + (42 : Int32)).toNatClampNeg (g5.1 10))) := ⟨_, rfl⟩
    replace hf := bnd_at hf ex; rw [← ex] at hP hD; clear ex
    refine lv_aload_n hx hb dX7_keep_52 rfl (lv_at hl 0 rfl) ?_
    refine va_get (D := D) (ci := 7) (C := RX7) (T := TX7) (N := 40) hx hb F.2.2.2.2 in_X7_keep_X7 F.2.2.2.1 hK.1 hP 0 rfl rfl 24 (Nat.le_of_ble_eq_true rfl) (F.2.2.2.2 (.fieldLink RX7 43 "LouderRoomModel" "kept" "[I") (List.mem_of_getElem? (i := 3) rfl)) (fun _ h9 => h9) rfl dX7_keep_53 ?_
    refine lv_bipush (v := (45 : Int32)) hx hb dX7_keep_56 (by decide) ?_
    refine lv_iload_n hx hb dX7_keep_58 rfl (lv_at hl 1 rfl) ?_
    refine lv_imul hx hb dX7_keep_59 ?_
    refine lv_bipush (v := (43 : Int32)) hx hb dX7_keep_60 (by decide) ?_
    refine lv_iadd hx hb dX7_keep_62 ?_
    refine lv_aload_n hx hb dX7_keep_63 rfl (lv_at hl 0 rfl) ?_
    refine va_get (D := D) (ci := 7) (C := RX7) (T := TX7) (N := 40) hx hb F.2.2.2.2 in_X7_keep_X7 F.2.2.2.1 hK.1 hP 0 rfl rfl 12 (Nat.le_of_ble_eq_true rfl) (F.2.2.2.2 (.fieldLink RX7 131 "LouderRoomModel" "follows" "Z") (List.mem_of_getElem? (i := 5) rfl)) (fun _ h9 => h9) rfl dX7_keep_64 ?_
    refine lv_if_eq (tgt := 74) hx hb dX7_keep_67 (by decide) (fun hc => ?_) (fun hc => ?_)
    · replace hf := ite_t hf hc
      refine lv_iconst (v := (0 : Int32)) hx hb dX7_keep_74 (by decide) ?_
      exact J_75 (0 : Int32) (((45 : Int32) * p1) + (43 : Int32)) g6 _ _ _ hP hD hS (lv_sub hl [0] rfl) hf
    · replace hf := ite_f hf hc
      refine lv_iconst (v := (1 : Int32)) hx hb dX7_keep_70 (by decide) ?_
      refine lv_goto (tgt := 75) hx hb dX7_keep_71 (by decide) ?_
      exact J_75 (1 : Int32) (((45 : Int32) * p1) + (43 : Int32)) g6 _ _ _ hP hD hS (lv_sub hl [0] rfl) hf
  · replace hf := ite_t hf hc
    refine lv_iconst (v := (-1 : Int32)) hx hb dX7_keep_15 (by decide) ?_
    obtain hf := hf
    obtain ⟨e0, e1⟩ := tup2 hf
    rw [e1] at hP hD
    exact CX_i F hr hlk hP hD hS e0 dX7_keep_16
def b_X7_takePage_24_2 (p2 : Int32) (r_2 : Int32 → Ob → Option (Ob)) (y3 : Int32) (w0 : Ob) : Option (Ob) := (if (8 : Int32) ≤ y3 then (if inb (p2 + (40 : Int32)) 90 = true then bnd (sI w0 4 (w0.2 24 (p2 + (40 : Int32)).toNatClampNeg)) (fun g1 => (if inb (p2 + (41 : Int32)) 90 = true then bnd (sI g1 11 (g1.2 24 (p2 + (41 : Int32)).toNatClampNeg)) (fun g2 => some g2) else none)) else none) else (if inb (p2 + y3) 90 = true then (if inb y3 8 = true then bnd (sA w0 5 (upd (w0.2 5) y3.toNatClampNeg (w0.2 24 (p2 + y3).toNatClampNeg))) (fun g3 => (if inb ((p2 + (8 : Int32)) + y3) 90 = true then (if inb y3 8 = true then bnd (sA g3 6 (upd (g3.2 6) y3.toNatClampNeg (g3.2 24 ((p2 + (8 : Int32)) + y3).toNatClampNeg))) (fun g4 => (if inb ((p2 + (16 : Int32)) + y3) 90 = true then (if inb y3 8 = true then bnd (sA g4 7 (upd (g4.2 7) y3.toNatClampNeg (g4.2 24 ((p2 + (16 : Int32)) + y3).toNatClampNeg))) (fun g5 => (if inb ((p2 + (24 : Int32)) + y3) 90 = true then (if inb y3 8 = true then bnd (sA g5 8 (upd (g5.2 8) y3.toNatClampNeg (g5.2 24 ((p2 + (24 : Int32)) + y3).toNatClampNeg))) (fun g6 => (if inb ((p2 + (32 : Int32)) + y3) 90 = true then (if inb y3 8 = true then bnd (sA g6 9 (upd (g6.2 9) y3.toNatClampNeg (g6.2 24 ((p2 + (32 : Int32)) + y3).toNatClampNeg))) (fun g7 => bnd (y3 + (1 : Int32)) (fun x8 => r_2 x8 g7)) else none) else none)) else none) else none)) else none) else none)) else none) else none)) else none) else none))
def f_X7_takePage_24 (z0 : Ob) (p2 : Int32) : Option (Ob) := fuel2 (b_X7_takePage_24_2 p2) FU (0 : Int32) z0
abbrev rm_X7_takePage_24 : Room := { frames := 0, cells := 0, slots := 0, locals := 0 }
set_option maxHeartbeats 4000000 in
set_option maxRecDepth 100000 in
theorem c_X7_takePage_24 (l : Launch) (D : va_G) (ty : TY) (h0 : Nat) (a0 : Nat → Nat) (z0 : Ob) (p2 : Int32) (o0 : Ob) (hf : f_X7_takePage_24 z0 p2 = some o0) (sz : Nat) : CX l yX7_takePage wsX7_takePage rm_X7_takePage_24 ([.ref h0, .ref (a0 24), .int p2] : List Value) D ty (fl [oX7 ty h0 a0 z0]) sz (qV D (fl [oX7 ty h0 a0 o0])) 0 0 := by
  refine CX_of (cc := cX7_takePage) (maxL := 4) (ret := none) (C := RX7) (by decide) rfl rfl (Nat.le_of_ble_eq_true rfl) ?_
  intro p e s m below meth c A ls F hr hlk _ hK hP hD hS hA hl
  have hx := F.1
  have hb := F.2.1
  replace hl : lv_has ls 4 [(0, .ref h0), (1, .ref (a0 24)), (2, .int p2)] := hl
  unfold f_X7_takePage_24 at hf
  refine lv_iconst (v := (0 : Int32)) hx hb dX7_takePage_0 (by decide) ?_
  refine lv_istore_n (lv' := [(3, .int (0 : Int32)), (0, .ref h0), (1, .ref (a0 24)), (2, .int p2)]) hx hb dX7_takePage_1 rfl hl (by decide) rfl (fun ls hl => ?_)
  have L_2 : ∀ (n : Nat) (y3 : Int32) (w0 : Ob) (H : Heap) (locs : List Loc) (ls : Array Slot), va_P D vwC (fl [oX7 ty h0 a0 w0]) H → va_D A (fl [oX7 ty h0 a0 w0]) → va_S A s.heap H locs → lv_has ls 4 [(0, .ref h0), (1, .ref (a0 24)), (2, .int p2), (3, .int y3)] → fuel2 (b_X7_takePage_24_2 p2) n y3 w0 = some o0 → W p l e rm_X7_takePage_24 s m ([.ref h0, .ref (a0 24), .int p2] : List Value).toArray below meth c H locs 0 0 (MQ below (qV D (fl [oX7 ty h0 a0 o0]) A) ([.ref h0, .ref (a0 24), .int p2] : List Value).toArray s 0 0 A) (F0 m 2 ls []) := by
    intro n
    induction n with
    | zero => intro y3 w0 H locs ls hP hD hS hl hf; cases hf
    | succ n ih_2 =>
      intro y3 w0 H locs ls hP hD hS hl hf
      replace hf : b_X7_takePage_24_2 p2 (fuel2 (b_X7_takePage_24_2 p2) n) y3 w0 = some o0 := hf
      generalize fuel2 (b_X7_takePage_24_2 p2) n = r_2 at ih_2 hf
      unfold b_X7_takePage_24_2 at hf
      refine lv_iload_n hx hb dX7_takePage_2 rfl (lv_at hl 3 rfl) ?_
      refine lv_bipush (v := (8 : Int32)) hx hb dX7_takePage_3 (by decide) ?_
      refine lv_icmp_ge (tgt := 81) hx hb dX7_takePage_5 (by decide) (fun hc => ?_) (fun hc => ?_)
      · replace hf := ite_t hf hc
        refine lv_aload_n hx hb dX7_takePage_81 rfl (lv_at hl 0 rfl) ?_
        refine lv_aload_n hx hb dX7_takePage_82 rfl (lv_at hl 1 rfl) ?_
        refine lv_iload_n hx hb dX7_takePage_83 rfl (lv_at hl 2 rfl) ?_
        refine lv_bipush (v := (40 : Int32)) hx hb dX7_takePage_84 (by decide) ?_
        refine lv_iadd hx hb dX7_takePage_86 ?_
        obtain ⟨hi, hf⟩ := grd hf
        refine va_iald hx hb hK.1 hP 12 0 rfl rfl (inb_in hi) dX7_takePage_87 ?_
        refine pt_put (D := D) (ci := 7) (fty := .int) (C := RX7) (T := TX7) (N := 40) (w1 := fl [oX7 ty h0 a0 (sI w0 4 (w0.2 24 (p2 + (40 : Int32)).toNatClampNeg))]) F in_X7_takePage_X7 tyX7 tyX7_ok nmX7 hK.1 hP hD hS 0 rfl rfl 4 (Nat.le_of_ble_eq_true rfl) (F.2.2.2.2 (.fieldLink RX7 75 "LouderRoomModel" "rings" "I") (List.mem_of_getElem? (i := 6) rfl)) (fun _ h9 => h9) rfl (by decide +kernel) rfl rfl (Nat.le_of_ble_eq_true rfl) rfl dX7_takePage_88 (fun H locs hP hD hS => ?_)
        obtain ⟨g1, ex⟩ : ∃ y : Ob, y = (sI w0 4 (w0.2 24 (p2 + (40 : Int32)).toNatClampNeg)) := ⟨_, rfl⟩
        replace hf := bnd_at hf ex; rw [← ex] at hP hD; clear ex
        refine lv_aload_n hx hb dX7_takePage_91 rfl (lv_at hl 0 rfl) ?_
        refine lv_aload_n hx hb dX7_takePage_92 rfl (lv_at hl 1 rfl) ?_
        refine lv_iload_n hx hb dX7_takePage_93 rfl (lv_at hl 2 rfl) ?_
        refine lv_bipush (v := (41 : Int32)) hx hb dX7_takePage_94 (by decide) ?_
        refine lv_iadd hx hb dX7_takePage_96 ?_
        obtain ⟨hi, hf⟩ := grd hf
        refine va_iald hx hb hK.1 hP 12 0 rfl rfl (inb_in hi) dX7_takePage_97 ?_
        refine pt_put (D := D) (ci := 7) (fty := .int) (C := RX7) (T := TX7) (N := 40) (w1 := fl [oX7 ty h0 a0 (sI g1 11 (g1.2 24 (p2 + (41 : Int32)).toNatClampNeg))]) F in_X7_takePage_X7 tyX7 tyX7_ok nmX7 hK.1 hP hD hS 0 rfl rfl 11 (Nat.le_of_ble_eq_true rfl) (F.2.2.2.2 (.fieldLink RX7 128 "LouderRoomModel" "music" "I") (List.mem_of_getElem? (i := 7) rfl)) (fun _ h9 => h9) rfl (by decide +kernel) rfl rfl (Nat.le_of_ble_eq_true rfl) rfl dX7_takePage_98 (fun H locs hP hD hS => ?_)
        obtain ⟨g2, ex⟩ : ∃ y : Ob, y = (sI g1 11 (g1.2 24 (p2 + (41 : Int32)).toNatClampNeg)) := ⟨_, rfl⟩
        replace hf := bnd_at hf ex; rw [← ex] at hP hD; clear ex
        obtain hf := hf
        have e0 := Option.some.inj hf
        rw [e0] at hP hD
        exact CX_v F hr hlk hP hD hS dX7_takePage_101
      · replace hf := ite_f hf hc
        refine lv_aload_n hx hb dX7_takePage_8 rfl (lv_at hl 0 rfl) ?_
        refine va_get (D := D) (ci := 7) (C := RX7) (T := TX7) (N := 40) hx hb F.2.2.2.2 in_X7_takePage_X7 F.2.2.2.1 hK.1 hP 0 rfl rfl 5 (Nat.le_of_ble_eq_true rfl) (F.2.2.2.2 (.fieldLink RX7 13 "LouderRoomModel" "kind" "[I") (List.mem_of_getElem? (i := 1) rfl)) (fun _ h9 => h9) rfl dX7_takePage_9 ?_
        refine lv_iload_n hx hb dX7_takePage_12 rfl (lv_at hl 3 rfl) ?_
        refine lv_aload_n hx hb dX7_takePage_13 rfl (lv_at hl 1 rfl) ?_
        refine lv_iload_n hx hb dX7_takePage_14 rfl (lv_at hl 2 rfl) ?_
        refine lv_iload_n hx hb dX7_takePage_15 rfl (lv_at hl 3 rfl) ?_
        refine lv_iadd hx hb dX7_takePage_16 ?_
        obtain ⟨hi, hf⟩ := grd hf
        refine va_iald hx hb hK.1 hP 12 0 rfl rfl (inb_in hi) dX7_takePage_17 ?_
        obtain ⟨hi, hf⟩ := grd hf
        refine pt_iast (w1 := fl [oX7 ty h0 a0 (sA w0 5 (upd (w0.2 5) y3.toNatClampNeg (w0.2 24 (p2 + y3).toNatClampNeg)))]) F hK.1 hP hD hS 2 0 rfl rfl (inb_in hi) rfl dX7_takePage_18 (fun H locs hP hD hS => ?_)
        obtain ⟨g3, ex⟩ : ∃ y : Ob, y = (sA w0 5 (upd (w0.2 5) y3.toNatClampNeg (w0.2 24 (p2 + y3).toNatClampNeg))) := ⟨_, rfl⟩
        replace hf := bnd_at hf ex; rw [← ex] at hP hD; clear ex
        refine lv_aload_n hx hb dX7_takePage_19 rfl (lv_at hl 0 rfl) ?_
        refine va_get (D := D) (ci := 7) (C := RX7) (T := TX7) (N := 40) hx hb F.2.2.2.2 in_X7_takePage_X7 F.2.2.2.1 hK.1 hP 0 rfl rfl 6 (Nat.le_of_ble_eq_true rfl) (F.2.2.2.2 (.fieldLink RX7 16 "LouderRoomModel" "cell" "[I") (List.mem_of_getElem? (i := 2) rfl)) (fun _ h9 => h9) rfl dX7_takePage_20 ?_
        refine lv_iload_n hx hb dX7_takePage_23 rfl (lv_at hl 3 rfl) ?_
        refine lv_aload_n hx hb dX7_takePage_24 rfl (lv_at hl 1 rfl) ?_
        refine lv_iload_n hx hb dX7_takePage_25 rfl (lv_at hl 2 rfl) ?_
        refine lv_bipush (v := (8 : Int32)) hx hb dX7_takePage_26 (by decide) ?_
        refine lv_iadd hx hb dX7_takePage_28 ?_
        refine lv_iload_n hx hb dX7_takePage_29 rfl (lv_at hl 3 rfl) ?_
        refine lv_iadd hx hb dX7_takePage_30 ?_
        obtain ⟨hi, hf⟩ := grd hf
        refine va_iald hx hb hK.1 hP 12 0 rfl rfl (inb_in hi) dX7_takePage_31 ?_
        obtain ⟨hi, hf⟩ := grd hf
        refine pt_iast (w1 := fl [oX7 ty h0 a0 (sA g3 6 (upd (g3.2 6) y3.toNatClampNeg (g3.2 24 ((p2 + (8 : Int32)) + y3).toNatClampNeg)))]) F hK.1 hP hD hS 3 0 rfl rfl (inb_in hi) rfl dX7_takePage_32 (fun H locs hP hD hS => ?_)
        obtain ⟨g4, ex⟩ : ∃ y : Ob, y = (sA g3 6 (upd (g3.2 6) y3.toNatClampNeg (g3.2 24 ((p2 + (8 : Int32)) + y3).toNatClampNeg))) := ⟨_, rfl⟩
        replace hf := bnd_at hf ex; rw [← ex] at hP hD; clear ex
        refine lv_aload_n hx hb dX7_takePage_33 rfl (lv_at hl 0 rfl) ?_
        refine va_get (D := D) (ci := 7) (C := RX7) (T := TX7) (N := 40) hx hb F.2.2.2.2 in_X7_takePage_X7 F.2.2.2.1 hK.1 hP 0 rfl rfl 7 (Nat.le_of_ble_eq_true rfl) (F.2.2.2.2 (.fieldLink RX7 19 "LouderRoomModel" "people" "[I") (List.mem_of_getElem? (i := 3) rfl)) (fun _ h9 => h9) rfl dX7_takePage_34 ?_
        refine lv_iload_n hx hb dX7_takePage_37 rfl (lv_at hl 3 rfl) ?_
        refine lv_aload_n hx hb dX7_takePage_38 rfl (lv_at hl 1 rfl) ?_
        refine lv_iload_n hx hb dX7_takePage_39 rfl (lv_at hl 2 rfl) ?_
        refine lv_bipush (v := (16 : Int32)) hx hb dX7_takePage_40 (by decide) ?_
        refine lv_iadd hx hb dX7_takePage_42 ?_
        refine lv_iload_n hx hb dX7_takePage_43 rfl (lv_at hl 3 rfl) ?_
        refine lv_iadd hx hb dX7_takePage_44 ?_
        obtain ⟨hi, hf⟩ := grd hf
        refine va_iald hx hb hK.1 hP 12 0 rfl rfl (inb_in hi) dX7_takePage_45 ?_
        obtain ⟨hi, hf⟩ := grd hf
        refine pt_iast (w1 := fl [oX7 ty h0 a0 (sA g4 7 (upd (g4.2 7) y3.toNatClampNeg (g4.2 24 ((p2 + (16 : Int32)) + y3).toNatClampNeg)))]) F hK.1 hP hD hS 4 0 rfl rfl (inb_in hi) rfl dX7_takePage_46 (fun H locs hP hD hS => ?_)
        obtain ⟨g5, ex⟩ : ∃ y : Ob, y = (sA g4 7 (upd (g4.2 7) y3.toNatClampNeg (g4.2 24 ((p2 + (16 : Int32)) + y3).toNatClampNeg))) := ⟨_, rfl⟩
        replace hf := bnd_at hf ex; rw [← ex] at hP hD; clear ex
        refine lv_aload_n hx hb dX7_takePage_47 rfl (lv_at hl 0 rfl) ?_
        refine va_get (D := D) (ci := 7) (C := RX7) (T := TX7) (N := 40) hx hb F.2.2.2.2 in_X7_takePage_X7 F.2.2.2.1 hK.1 hP 0 rfl rfl 8 (Nat.le_of_ble_eq_true rfl) (F.2.2.2.2 (.fieldLink RX7 22 "LouderRoomModel" "voice" "[I") (List.mem_of_getElem? (i := 4) rfl)) (fun _ h9 => h9) rfl dX7_takePage_48 ?_
        refine lv_iload_n hx hb dX7_takePage_51 rfl (lv_at hl 3 rfl) ?_
        refine lv_aload_n hx hb dX7_takePage_52 rfl (lv_at hl 1 rfl) ?_
        refine lv_iload_n hx hb dX7_takePage_53 rfl (lv_at hl 2 rfl) ?_
        refine lv_bipush (v := (24 : Int32)) hx hb dX7_takePage_54 (by decide) ?_
        refine lv_iadd hx hb dX7_takePage_56 ?_
        refine lv_iload_n hx hb dX7_takePage_57 rfl (lv_at hl 3 rfl) ?_
        refine lv_iadd hx hb dX7_takePage_58 ?_
        obtain ⟨hi, hf⟩ := grd hf
        refine va_iald hx hb hK.1 hP 12 0 rfl rfl (inb_in hi) dX7_takePage_59 ?_
        obtain ⟨hi, hf⟩ := grd hf
        refine pt_iast (w1 := fl [oX7 ty h0 a0 (sA g5 8 (upd (g5.2 8) y3.toNatClampNeg (g5.2 24 ((p2 + (24 : Int32)) + y3).toNatClampNeg)))]) F hK.1 hP hD hS 5 0 rfl rfl (inb_in hi) rfl dX7_takePage_60 (fun H locs hP hD hS => ?_)
        obtain ⟨g6, ex⟩ : ∃ y : Ob, y = (sA g5 8 (upd (g5.2 8) y3.toNatClampNeg (g5.2 24 ((p2 + (24 : Int32)) + y3).toNatClampNeg))) := ⟨_, rfl⟩
        replace hf := bnd_at hf ex; rw [← ex] at hP hD; clear ex
        refine lv_aload_n hx hb dX7_takePage_61 rfl (lv_at hl 0 rfl) ?_
        refine va_get (D := D) (ci := 7) (C := RX7) (T := TX7) (N := 40) hx hb F.2.2.2.2 in_X7_takePage_X7 F.2.2.2.1 hK.1 hP 0 rfl rfl 9 (Nat.le_of_ble_eq_true rfl) (F.2.2.2.2 (.fieldLink RX7 25 "LouderRoomModel" "age" "[I") (List.mem_of_getElem? (i := 5) rfl)) (fun _ h9 => h9) rfl dX7_takePage_62 ?_
        refine lv_iload_n hx hb dX7_takePage_65 rfl (lv_at hl 3 rfl) ?_
        refine lv_aload_n hx hb dX7_takePage_66 rfl (lv_at hl 1 rfl) ?_
        refine lv_iload_n hx hb dX7_takePage_67 rfl (lv_at hl 2 rfl) ?_
        refine lv_bipush (v := (32 : Int32)) hx hb dX7_takePage_68 (by decide) ?_
        refine lv_iadd hx hb dX7_takePage_70 ?_
        refine lv_iload_n hx hb dX7_takePage_71 rfl (lv_at hl 3 rfl) ?_
        refine lv_iadd hx hb dX7_takePage_72 ?_
        obtain ⟨hi, hf⟩ := grd hf
        refine va_iald hx hb hK.1 hP 12 0 rfl rfl (inb_in hi) dX7_takePage_73 ?_
        obtain ⟨hi, hf⟩ := grd hf
        refine pt_iast (w1 := fl [oX7 ty h0 a0 (sA g6 9 (upd (g6.2 9) y3.toNatClampNeg (g6.2 24 ((p2 + (32 : Int32)) + y3).toNatClampNeg)))]) F hK.1 hP hD hS 6 0 rfl rfl (inb_in hi) rfl dX7_takePage_74 (fun H locs hP hD hS => ?_)
        obtain ⟨g7, ex⟩ : ∃ y : Ob, y = (sA g6 9 (upd (g6.2 9) y3.toNatClampNeg (g6.2 24 ((p2 + (32 : Int32)) + y3).toNatClampNeg))) := ⟨_, rfl⟩
        replace hf := bnd_at hf ex; rw [← ex] at hP hD; clear ex
        obtain ⟨x8, ex⟩ : ∃ y : Int32, y = (y3 + (1 : Int32)) := ⟨_, rfl⟩
        replace hf := bnd_at hf ex
        refine lv_iinc (v := x8) (lv' := [(3, .int x8), (0, .ref h0), (1, .ref (a0 24)), (2, .int p2)]) hx hb dX7_takePage_75 hl (k := 3) rfl (by rw [ex]; rfl) (by decide) rfl (fun ls hl => ?_)
        clear ex
        refine lv_goto (tgt := 2) hx hb dX7_takePage_78 (by decide) ?_
        exact ih_2 x8 g7 _ _ _ hP hD hS (lv_sub hl [1, 2, 3, 0] rfl) hf
  exact L_2 FU (0 : Int32) z0 _ _ _ hP hD hS (lv_sub hl [1, 2, 3, 0] rfl) hf
def j_X7_again_79 (p1 : Int32) (t0 : Int32) (w0 : Ob) : Option (Int32 × Ob) := (if isb t0 = true then bnd (sI w0 12 t0) (fun g1 => bnd (sI g1 23 (0 : Int32)) (fun g2 => some ((g2.1 4), g2))) else none)
def f_X7_again (z0 : Ob) (p1 : Int32) : Option (Int32 × Ob) := bnd (sI z0 0 (0 : Int32)) (fun g3 => (f_X7_in p1.toInt64 (0 : Int64) (1 : Int64)).bind (fun v4 => (if v4 = 0 then some ((-1 : Int32), g3) else (if inb p1 2 = true then (if (g3.2 25 p1.toNatClampNeg) = 0 then some ((-3 : Int32), g3) else (f_X7_takePage_24 g3 ((45 : Int32) * p1)).bind (fun g5 => (if inb (((45 : Int32) * p1) + (42 : Int32)) 90 = true then bnd (sI g5 10 (g5.2 24 (((45 : Int32) * p1) + (42 : Int32)).toNatClampNeg)) (fun g6 => (if inb (((45 : Int32) * p1) + (43 : Int32)) 90 = true then (if (g6.2 24 (((45 : Int32) * p1) + (43 : Int32)).toNatClampNeg) = (1 : Int32) then j_X7_again_79 p1 (1 : Int32) g6 else j_X7_again_79 p1 (0 : Int32) g6) else none)) else none))) else none))))
abbrev rm_X7_again : Room := { frames := 1, cells := 0, slots := 0, locals := 25 }
theorem hd_X7_again : yX7_again.cls ≠ "java/lang/invoke/MethodHandle" ∧ yX7_again.cls ≠ "java/lang/invoke/VarHandle" ∧ (parseMethodDescriptor yX7_again.desc).map (fun d => d.parameters.length) = some 1 := by decide +kernel
theorem in_X7_again_X7 : ∀ w ∈ wsX70, w ∈ wsX7_again := fun w h => List.mem_cons_of_mem _ (List.mem_append_right _ h)
set_option maxHeartbeats 4000000 in
set_option maxRecDepth 100000 in
theorem c_X7_again (l : Launch) (D : va_G) (ty : TY) (h0 : Nat) (a0 : Nat → Nat) (z0 : Ob) (p1 : Int32) (o0 : Int32) (o1 : Ob) (hf : f_X7_again z0 p1 = some (o0, o1)) (sz : Nat) : CX l yX7_again wsX7_again rm_X7_again ([.ref h0, .int p1] : List Value) D ty (fl [oX7 ty h0 a0 z0]) sz (qI D o0 (fl [oX7 ty h0 a0 o1])) 0 0 := by
  refine CX_of (cc := cX7_again) (maxL := 2) (ret := (some .int)) (C := RX7) (by decide) rfl rfl (Nat.le_of_ble_eq_true rfl) ?_
  intro p e s m below meth c A ls F hr hlk _ hK hP hD hS hA hl
  have hx := F.1
  have hb := F.2.1
  replace hl : lv_has ls 2 [(0, .ref h0), (1, .int p1)] := hl
  unfold f_X7_again at hf
  have J_79 : ∀ (t0 : Int32) (w0 : Ob) (H : Heap) (locs : List Loc) (ls : Array Slot), va_P D vwC (fl [oX7 ty h0 a0 w0]) H → va_D A (fl [oX7 ty h0 a0 w0]) → va_S A s.heap H locs → lv_has ls 2 [(0, .ref h0)] → j_X7_again_79 p1 t0 w0 = some (o0, o1) → W p l e rm_X7_again s m ([.ref h0, .int p1] : List Value).toArray below meth c H locs 0 0 (MQ below (qI D o0 (fl [oX7 ty h0 a0 o1]) A) ([.ref h0, .int p1] : List Value).toArray s 0 0 A) (F0 m 79 ls [.int t0, .ref h0]) := by
    intro t0 w0 H locs ls hP hD hS hl hf
    unfold j_X7_again_79 at hf
    obtain ⟨hz, hf⟩ := grd hf
    refine pt_put (D := D) (ci := 7) (fty := .boolean) (C := RX7) (T := TX7) (N := 40) (w1 := fl [oX7 ty h0 a0 (sI w0 12 t0)]) F in_X7_again_X7 tyX7 tyX7_ok nmX7 hK.1 hP hD hS 0 rfl rfl 12 (Nat.le_of_ble_eq_true rfl) (F.2.2.2.2 (.fieldLink RX7 131 "LouderRoomModel" "follows" "Z") (List.mem_of_getElem? (i := 5) rfl)) (fun _ h9 => h9) rfl (by decide +kernel) (isb_n hz) (isb_f hz) (Nat.le_of_ble_eq_true rfl) rfl dX7_again_79 (fun H locs hP hD hS => ?_)
    obtain ⟨g1, ex⟩ : ∃ y : Ob, y = (sI w0 12 t0) := ⟨_, rfl⟩
    replace hf := bnd_at hf ex; rw [← ex] at hP hD; clear ex
    refine lv_aload_n hx hb dX7_again_82 rfl (lv_at hl 0 rfl) ?_
    refine lv_iconst (v := (0 : Int32)) hx hb dX7_again_83 (by decide) ?_
    refine pt_put (D := D) (ci := 7) (fty := .int) (C := RX7) (T := TX7) (N := 40) (w1 := fl [oX7 ty h0 a0 (sI g1 23 (0 : Int32))]) F in_X7_again_X7 tyX7 tyX7_ok nmX7 hK.1 hP hD hS 0 rfl rfl 23 (Nat.le_of_ble_eq_true rfl) (F.2.2.2.2 (.fieldLink RX7 135 "LouderRoomModel" "acts" "I") (List.mem_of_getElem? (i := 6) rfl)) (fun _ h9 => h9) rfl (by decide +kernel) rfl rfl (Nat.le_of_ble_eq_true rfl) rfl dX7_again_84 (fun H locs hP hD hS => ?_)
    obtain ⟨g2, ex⟩ : ∃ y : Ob, y = (sI g1 23 (0 : Int32)) := ⟨_, rfl⟩
    replace hf := bnd_at hf ex; rw [← ex] at hP hD; clear ex
    refine lv_aload_n hx hb dX7_again_87 rfl (lv_at hl 0 rfl) ?_
    refine va_get (D := D) (ci := 7) (C := RX7) (T := TX7) (N := 40) hx hb F.2.2.2.2 in_X7_again_X7 F.2.2.2.1 hK.1 hP 0 rfl rfl 4 (Nat.le_of_ble_eq_true rfl) (F.2.2.2.2 (.fieldLink RX7 75 "LouderRoomModel" "rings" "I") (List.mem_of_getElem? (i := 7) rfl)) (fun _ h9 => h9) rfl dX7_again_88 ?_
    obtain hf := hf
    obtain ⟨e0, e1⟩ := tup2 hf
    rw [e1] at hP hD
    exact CX_i F hr hlk hP hD hS e0 dX7_again_91
  refine lv_aload_n hx hb dX7_again_0 rfl (lv_at hl 0 rfl) ?_
  refine lv_iconst (v := (0 : Int32)) hx hb dX7_again_1 (by decide) ?_
  refine pt_put (D := D) (ci := 7) (fty := .int) (C := RX7) (T := TX7) (N := 40) (w1 := fl [oX7 ty h0 a0 (sI z0 0 (0 : Int32))]) F in_X7_again_X7 tyX7 tyX7_ok nmX7 hK.1 hP hD hS 0 rfl rfl 0 (Nat.le_of_ble_eq_true rfl) (F.2.2.2.2 (.fieldLink RX7 71 "LouderRoomModel" "thrown" "I") (List.mem_of_getElem? (i := 1) rfl)) (fun _ h9 => h9) rfl (by decide +kernel) rfl rfl (Nat.le_of_ble_eq_true rfl) rfl dX7_again_2 (fun H locs hP hD hS => ?_)
  obtain ⟨g3, ex⟩ : ∃ y : Ob, y = (sI z0 0 (0 : Int32)) := ⟨_, rfl⟩
  replace hf := bnd_at hf ex; rw [← ex] at hP hD; clear ex
  refine lv_iload_n hx hb dX7_again_5 rfl (lv_at hl 1 rfl) ?_
  refine lv_i2l hx hb dX7_again_6 rfl ?_
  refine lv_lconst (v := (0 : Int64)) hx hb dX7_again_7 (by decide) ?_
  refine lv_lconst (v := (1 : Int64)) hx hb dX7_again_8 (by decide) ?_
  obtain ⟨v4, hv, hf⟩ := obd hf
  have hp1 : List.Perm [oX7 ty h0 a0 g3] ([] ++ [oX7 ty h0 a0 g3]) := (List.Perm.refl _)
  refine ci_call (out := v4) (os := [oX7 ty h0 a0 g3]) (oc := []) (oc' := []) (or_ := [oX7 ty h0 a0 g3]) (os' := [oX7 ty h0 a0 g3]) (va_runS (As := [.long p1.toInt64, .long (0 : Int64), .long (1 : Int64)]) (rest := []) F (c_X7_in l D ty _ _ _ _ hv _) (va_cwS 3 F.2.2.2.2 gX7_again_X7_in rfl rfl rfl hd_X7_in ⟨Nat.le_of_ble_eq_true rfl, Nat.le_of_ble_eq_true rfl⟩) (pre_s hK hP hD hp1) rfl rfl hl.1 rfl (lv_room (Nat.le_of_ble_eq_true rfl)) dX7_again_9 ⟨Nat.zero_le _, Nat.zero_le _⟩) hp1 (List.Perm.refl _) hP hD hS hA (fun H locs hP hD hS => ?_)
  clear hp1 hv
  refine lv_if_ne (tgt := 17) hx hb dX7_again_12 (by decide) (fun hc => ?_) (fun hc => ?_)
  · replace hf := ite_f hf hc
    refine lv_aload_n hx hb dX7_again_17 rfl (lv_at hl 0 rfl) ?_
    refine va_get (D := D) (ci := 7) (C := RX7) (T := TX7) (N := 40) hx hb F.2.2.2.2 in_X7_again_X7 F.2.2.2.1 hK.1 hP 0 rfl rfl 25 (Nat.le_of_ble_eq_true rfl) (F.2.2.2.2 (.fieldLink RX7 46 "LouderRoomModel" "isKept" "[Z") (List.mem_of_getElem? (i := 2) rfl)) (fun _ h9 => h9) rfl dX7_again_18 ?_
    refine lv_iload_n hx hb dX7_again_21 rfl (lv_at hl 1 rfl) ?_
    obtain ⟨hi, hf⟩ := grd hf
    refine va_zald hx hb hK.1 hP 13 2 rfl rfl (inb_in hi) dX7_again_22 ?_
    refine lv_if_ne (tgt := 29) hx hb dX7_again_23 (by decide) (fun hc => ?_) (fun hc => ?_)
    · replace hf := ite_f hf hc
      refine lv_aload_n hx hb dX7_again_29 rfl (lv_at hl 0 rfl) ?_
      refine lv_aload_n hx hb dX7_again_30 rfl (lv_at hl 0 rfl) ?_
      refine va_get (D := D) (ci := 7) (C := RX7) (T := TX7) (N := 40) hx hb F.2.2.2.2 in_X7_again_X7 F.2.2.2.1 hK.1 hP 0 rfl rfl 24 (Nat.le_of_ble_eq_true rfl) (F.2.2.2.2 (.fieldLink RX7 43 "LouderRoomModel" "kept" "[I") (List.mem_of_getElem? (i := 3) rfl)) (fun _ h9 => h9) rfl dX7_again_31 ?_
      refine lv_bipush (v := (45 : Int32)) hx hb dX7_again_34 (by decide) ?_
      refine lv_iload_n hx hb dX7_again_36 rfl (lv_at hl 1 rfl) ?_
      refine lv_imul hx hb dX7_again_37 ?_
      obtain ⟨g5, hv, hf⟩ := obd hf
      have hp1 : List.Perm [oX7 ty h0 a0 g3] ([oX7 ty h0 a0 g3] ++ []) := (List.Perm.refl _)
      refine cv_call (os := [oX7 ty h0 a0 g3]) (oc := [oX7 ty h0 a0 g3]) (oc' := [oX7 ty h0 a0 g5]) (or_ := []) (os' := [oX7 ty h0 a0 g5]) (va_runV (As := [.ref (a0 24), .int ((45 : Int32) * p1)]) (rest := []) F (c_X7_takePage_24 l D ty h0 a0 _ _ _ hv _) (cwV 2 F.2.2.2.2 gX7_again_X7_takePage rfl rfl rfl ⟨rfl, hd_X7_takePage⟩ ⟨Nat.le_of_ble_eq_true rfl, Nat.le_of_ble_eq_true rfl⟩) (pre_v hK hP hD hp1 rfl rfl rfl) rfl rfl hl.1 rfl (lv_room (Nat.le_of_ble_eq_true rfl)) dX7_again_38 ⟨Nat.zero_le _, Nat.zero_le _⟩) hp1 (List.Perm.refl _) hP hD hS hA (fun H locs hP hD hS => ?_)
      clear hp1 hv
      refine lv_aload_n hx hb dX7_again_41 rfl (lv_at hl 0 rfl) ?_
      refine lv_aload_n hx hb dX7_again_42 rfl (lv_at hl 0 rfl) ?_
      refine va_get (D := D) (ci := 7) (C := RX7) (T := TX7) (N := 40) hx hb F.2.2.2.2 in_X7_again_X7 F.2.2.2.1 hK.1 hP 0 rfl rfl 24 (Nat.le_of_ble_eq_true rfl) (F.2.2.2.2 (.fieldLink RX7 43 "LouderRoomModel" "kept" "[I") (List.mem_of_getElem? (i := 3) rfl)) (fun _ h9 => h9) rfl dX7_again_43 ?_
      refine lv_bipush (v := (45 : Int32)) hx hb dX7_again_46 (by decide) ?_
      refine lv_iload_n hx hb dX7_again_48 rfl (lv_at hl 1 rfl) ?_
      refine lv_imul hx hb dX7_again_49 ?_
      refine lv_bipush (v := (42 : Int32)) hx hb dX7_again_50 (by decide) ?_
      refine lv_iadd hx hb dX7_again_52 ?_
      obtain ⟨hi, hf⟩ := grd hf
      refine va_iald hx hb hK.1 hP 12 0 rfl rfl (inb_in hi) dX7_again_53 ?_
      refine pt_put (D := D) (ci := 7) (fty := .int) (C := RX7) (T := TX7) (N := 40) (w1 := fl [oX7 ty h0 a0 (sI g5 10 (g5.2 24 (((45 : Int32) * p1) + (42 : Int32)).toNatClampNeg))]) F in_X7_again_X7 tyX7 tyX7_ok nmX7 hK.1 hP hD hS 0 rfl rfl 10 (Nat.le_of_ble_eq_true rfl) (F.2.2.2.2 (.fieldLink RX7 125 "LouderRoomModel" "eats" "I") (List.mem_of_getElem? (i := 4) rfl)) (fun _ h9 => h9) rfl (by decide +kernel) rfl rfl (Nat.le_of_ble_eq_true rfl) rfl dX7_again_54 (fun H locs hP hD hS => ?_)
      obtain ⟨g6, ex⟩ : ∃ y : Ob, y = (sI g5 10 (g5.2 24 (((45 : Int32) * p1) + (42 : Int32)).toNatClampNeg)) := ⟨_, rfl⟩
      replace hf := bnd_at hf ex; rw [← ex] at hP hD; clear ex
      refine lv_aload_n hx hb dX7_again_57 rfl (lv_at hl 0 rfl) ?_
      refine lv_aload_n hx hb dX7_again_58 rfl (lv_at hl 0 rfl) ?_
      refine va_get (D := D) (ci := 7) (C := RX7) (T := TX7) (N := 40) hx hb F.2.2.2.2 in_X7_again_X7 F.2.2.2.1 hK.1 hP 0 rfl rfl 24 (Nat.le_of_ble_eq_true rfl) (F.2.2.2.2 (.fieldLink RX7 43 "LouderRoomModel" "kept" "[I") (List.mem_of_getElem? (i := 3) rfl)) (fun _ h9 => h9) rfl dX7_again_59 ?_
      refine lv_bipush (v := (45 : Int32)) hx hb dX7_again_62 (by decide) ?_
      refine lv_iload_n hx hb dX7_again_64 rfl (lv_at hl 1 rfl) ?_
      refine lv_imul hx hb dX7_again_65 ?_
      refine lv_bipush (v := (43 : Int32)) hx hb dX7_again_66 (by decide) ?_
      refine lv_iadd hx hb dX7_again_68 ?_
      obtain ⟨hi, hf⟩ := grd hf
      refine va_iald hx hb hK.1 hP 12 0 rfl rfl (inb_in hi) dX7_again_69 ?_
      refine lv_iconst (v := (1 : Int32)) hx hb dX7_again_70 (by decide) ?_
      refine lv_icmp_ne (tgt := 78) hx hb dX7_again_71 (by decide) (fun hc => ?_) (fun hc => ?_)
      · replace hf := ite_f hf hc
        refine lv_iconst (v := (0 : Int32)) hx hb dX7_again_78 (by decide) ?_
        exact J_79 (0 : Int32) g6 _ _ _ hP hD hS (lv_sub hl [0] rfl) hf
      · replace hf := ite_t hf hc
        refine lv_iconst (v := (1 : Int32)) hx hb dX7_again_74 (by decide) ?_
        refine lv_goto (tgt := 79) hx hb dX7_again_75 (by decide) ?_
        exact J_79 (1 : Int32) g6 _ _ _ hP hD hS (lv_sub hl [0] rfl) hf
    · replace hf := ite_t hf hc
      refine lv_bipush (v := (-3 : Int32)) hx hb dX7_again_26 (by decide) ?_
      obtain hf := hf
      obtain ⟨e0, e1⟩ := tup2 hf
      rw [e1] at hP hD
      exact CX_i F hr hlk hP hD hS e0 dX7_again_28
  · replace hf := ite_t hf hc
    refine lv_iconst (v := (-1 : Int32)) hx hb dX7_again_15 (by decide) ?_
    obtain hf := hf
    obtain ⟨e0, e1⟩ := tup2 hf
    rw [e1] at hP hD
    exact CX_i F hr hlk hP hD hS e0 dX7_again_16
